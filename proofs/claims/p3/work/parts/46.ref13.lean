theorem s_l9 : ∀ n, n < 32 → ((nI n &&& 31).toBitVec.smod 32).toNat = n := by decide +kernel
theorem nx_or (a b : Nat) : nI a ||| nI b = nI (a ||| b) := by
  apply Int32.toBitVec_inj.mp
  rw [Int32.toBitVec_or]
  show BitVec.ofNat 32 a ||| BitVec.ofNat 32 b = BitVec.ofNat 32 (a ||| b)
  exact (BitVec.ofNat_or ..).symm
/-- a digit shifted, and what was carried -/
theorem sh_or {d c j : Nat} (hd : d < 65536) (hj : j < 16) (hc : c < 2 ^ j) : (nI d <<< (nI j &&& 31)) ||| nI c = nI (d * 2 ^ j + c) := by
  have h1 : 2 ^ j ≤ 2 ^ 15 := Nat.pow_le_pow_right (by decide) (by omega)
  have h2 : d * 2 ^ j ≤ 65535 * 2 ^ 15 := Nat.mul_le_mul (by omega) h1
  rw [pk_shlN _ j (s_l9 j (by omega)) (by omega), nx_or, ← Nat.shiftLeft_eq, ← Nat.shiftLeft_add_eq_or_of_lt hc]
theorem sh_lt {d c j : Nat} (hd : d < 65536) (hj : j < 16) (hc : c < 2 ^ j) : (d * 2 ^ j + c) / 65536 < 2 ^ j ∧ d * 2 ^ j + c < 2147483648 := by
  have h1 : 2 ^ j ≤ 2 ^ 15 := Nat.pow_le_pow_right (by decide) (by omega)
  have h2 : (d + 1) * 2 ^ j ≤ 65536 * 2 ^ j := Nat.mul_le_mul_right _ (by omega)
  rw [Nat.add_mul, Nat.one_mul] at h2
  exact ⟨(Nat.div_lt_iff_lt_mul (by decide)).mpr (by rw [Nat.mul_comm (2 ^ j) 65536]; omega), by omega⟩
theorem d_Mo_shiftInto_0 : decode c_Mo_shiftInto 0 = .ok (.iconst 0, 1) := by decide +kernel
theorem d_Mo_shiftInto_1 : decode c_Mo_shiftInto 1 = .ok (.istore 4, 2) := by decide +kernel
theorem d_Mo_shiftInto_3 : decode c_Mo_shiftInto 3 = .ok (.iconst 0, 1) := by decide +kernel
theorem d_Mo_shiftInto_4 : decode c_Mo_shiftInto 4 = .ok (.istore 5, 2) := by decide +kernel
theorem d_Mo_shiftInto_6 : decode c_Mo_shiftInto 6 = .ok (.iload 5, 2) := by decide +kernel
theorem d_Mo_shiftInto_8 : decode c_Mo_shiftInto 8 = .ok (.iload_n 2, 1) := by decide +kernel
theorem d_Mo_shiftInto_9 : decode c_Mo_shiftInto 9 = .ok (.if_icmp .ge 48, 3) := by decide +kernel
theorem d_Mo_shiftInto_12 : decode c_Mo_shiftInto 12 = .ok (.aload_n 0, 1) := by decide +kernel
theorem d_Mo_shiftInto_13 : decode c_Mo_shiftInto 13 = .ok (.getfield 83, 3) := by decide +kernel
theorem d_Mo_shiftInto_16 : decode c_Mo_shiftInto 16 = .ok (.iload_n 1, 1) := by decide +kernel
theorem d_Mo_shiftInto_17 : decode c_Mo_shiftInto 17 = .ok (.bipush 80, 2) := by decide +kernel
theorem d_Mo_shiftInto_19 : decode c_Mo_shiftInto 19 = .ok (.imul, 1) := by decide +kernel
theorem d_Mo_shiftInto_20 : decode c_Mo_shiftInto 20 = .ok (.iload 5, 2) := by decide +kernel
theorem d_Mo_shiftInto_22 : decode c_Mo_shiftInto 22 = .ok (.iadd, 1) := by decide +kernel
theorem d_Mo_shiftInto_23 : decode c_Mo_shiftInto 23 = .ok (.iaload, 1) := by decide +kernel
theorem d_Mo_shiftInto_24 : decode c_Mo_shiftInto 24 = .ok (.iload_n 3, 1) := by decide +kernel
theorem d_Mo_shiftInto_25 : decode c_Mo_shiftInto 25 = .ok (.ishl, 1) := by decide +kernel
theorem d_Mo_shiftInto_26 : decode c_Mo_shiftInto 26 = .ok (.iload 4, 2) := by decide +kernel
theorem d_Mo_shiftInto_28 : decode c_Mo_shiftInto 28 = .ok (.ior, 1) := by decide +kernel
theorem d_Mo_shiftInto_29 : decode c_Mo_shiftInto 29 = .ok (.istore 6, 2) := by decide +kernel
theorem d_Mo_shiftInto_31 : decode c_Mo_shiftInto 31 = .ok (.aload_n 0, 1) := by decide +kernel
theorem d_Mo_shiftInto_32 : decode c_Mo_shiftInto 32 = .ok (.getfield 102, 3) := by decide +kernel
theorem d_Mo_shiftInto_35 : decode c_Mo_shiftInto 35 = .ok (.iload 5, 2) := by decide +kernel
theorem d_Mo_shiftInto_37 : decode c_Mo_shiftInto 37 = .ok (.iload 6, 2) := by decide +kernel
theorem d_Mo_shiftInto_39 : decode c_Mo_shiftInto 39 = .ok (.ldc_w 312, 3) := by decide +kernel
theorem d_Mo_shiftInto_42 : decode c_Mo_shiftInto 42 = .ok (.iand, 1) := by decide +kernel
theorem d_Mo_shiftInto_43 : decode c_Mo_shiftInto 43 = .ok (.iastore, 1) := by decide +kernel
theorem d_Mo_shiftInto_44 : decode c_Mo_shiftInto 44 = .ok (.iload 6, 2) := by decide +kernel
theorem d_Mo_shiftInto_46 : decode c_Mo_shiftInto 46 = .ok (.bipush 16, 2) := by decide +kernel
theorem d_Mo_shiftInto_48 : decode c_Mo_shiftInto 48 = .ok (.iushr, 1) := by decide +kernel
theorem d_Mo_shiftInto_49 : decode c_Mo_shiftInto 49 = .ok (.istore 4, 2) := by decide +kernel
theorem d_Mo_shiftInto_51 : decode c_Mo_shiftInto 51 = .ok (.iinc 5 1, 3) := by decide +kernel
theorem d_Mo_shiftInto_54 : decode c_Mo_shiftInto 54 = .ok (.goto (-48), 3) := by decide +kernel
theorem d_Mo_shiftInto_57 : decode c_Mo_shiftInto 57 = .ok (.return_, 1) := by decide +kernel
set_option maxRecDepth 100000 in
set_option maxHeartbeats 8000000 in
/-- shiftInto(c0, n, j) -/
theorem g_Mo_shiftInto (l : Launch) (G : va_G) (k : Nat → ClassId) (h0 s0 c0 n j : Nat) (ma : Nat → Nat) (iv : Nat → Int32) (co : Int64) (dg T : Nat → Nat) (kc : c0 < 3998) (hn : n ≤ 80) (hj : j < 16) (hdg : ∀ i, i < 319840 → dg i < 65536) (dT : ∀ i, i < 170 → T i < 65536) : CV l y_Mo_shiftInto c_Mo_shiftInto 7 { frames := 0, cells := 0, slots := 0, locals := 0 } [.ref h0, .int (nI c0), .int (nI n), .int (nI j)] G k s0 [(h0, .inr (8, moL ma iv co)), ((ma 21), .inl (k 0, 319840, .inl (fun i => nI (dg i)))), ((ma 27), .inl (k 0, 170, .inl (fun i => nI (T i))))] (fun (U : Nat → Nat) => (∃ c9, vl 65536 U n + c9 * 65536 ^ n = vl 65536 (fun i => dg (c0 * 80 + i)) n * 2 ^ j ∧ c9 < 2 ^ j) ∧ (∀ i, i < 170 → U i < 65536) ∧ ∀ i, n ≤ i → U i = T i) (fun U => [(h0, .inr (8, moL ma iv co)), ((ma 21), .inl (k 0, 319840, .inl (fun i => nI (dg i)))), ((ma 27), .inl (k 0, 170, .inl (fun i => nI (U i))))]) 0 0 := by
  refine met_start (by decide) (Nat.le_of_ble_eq_true rfl) ?_
  intro p e s m below meth c C K hA hsz S ls hl
  generalize va_A [(h0, .inr (8, moL ma iv co)), ((ma 21), .inl (k 0, 319840, .inl (fun i => nI (dg i)))), ((ma 27), .inl (k 0, 170, .inl (fun i => nI (T i))))] s0 = A at hA S ⊢
  have hx := C.1
  have hb := C.2.1
  have hl : lv_has ls 7 [(0, .ref h0), (1, .int (nI c0)), (2, .int (nI n)), (3, .int (nI j))] := hl
  have loop : ∀ d t, t + d = n → ∀ (U : Nat → Nat) (c9 : Nat), (vl 65536 U t + c9 * 65536 ^ t = vl 65536 (fun i => dg (c0 * 80 + i)) t * 2 ^ j ∧ c9 < 2 ^ j ∧ (∀ i, i < 170 → U i < 65536) ∧ ∀ i, t ≤ i → U i = T i) → ∀ (H : Heap) (locs : List Loc), Sw G A s.heap H locs [(h0, .inr (8, moL ma iv co)), ((ma 21), .inl (k 0, 319840, .inl (fun i => nI (dg i)))), ((ma 27), .inl (k 0, 170, .inl (fun i => nI (U i))))] → ∀ ls : Array Slot, lv_has ls 7 [(5, .int (nI t)), (4, .int (nI c9)), (0, .ref h0), (1, .int (nI c0)), (2, .int (nI n)), (3, .int (nI j))] → W p l e { frames := 0, cells := 0, slots := 0, locals := 0 } s m [Value.ref h0, Value.int (nI c0), Value.int (nI n), Value.int (nI j)].toArray below meth c H locs 0 0 (MQ below (va_Qv (fun (U : Nat → Nat) => (∃ c9, vl 65536 U n + c9 * 65536 ^ n = vl 65536 (fun i => dg (c0 * 80 + i)) n * 2 ^ j ∧ c9 < 2 ^ j) ∧ (∀ i, i < 170 → U i < 65536) ∧ ∀ i, n ≤ i → U i = T i) (Po G k A (fun U => [(h0, .inr (8, moL ma iv co)), ((ma 21), .inl (k 0, 319840, .inl (fun i => nI (dg i)))), ((ma 27), .inl (k 0, 170, .inl (fun i => nI (U i))))])) A) [Value.ref h0, Value.int (nI c0), Value.int (nI n), Value.int (nI j)].toArray s 0 0 A) (F0 m 6 ls []) := by
    intro d
    induction d with
    | zero =>
      intro t ht U c9 hI H locs S ls hl
      obtain rfl : t = n := by omega
      refine lv_iload hx hb d_Mo_shiftInto_6 (lv_at hl 0 rfl) ?_
      refine lv_iload_n hx hb d_Mo_shiftInto_8 rfl (lv_at hl 4 rfl) ?_
      refine lv_icmp_ge (tgt := 57) hx hb d_Mo_shiftInto_9 (by decide) (fun _ => ?_) (fun hq => absurd (nI_le (Nat.le_refl _) (by omega)) hq)
      exact r_vret C K U ⟨⟨c9, hI.1, hI.2.1⟩, hI.2.2.1, hI.2.2.2⟩ (S.sub [0, 1, 2] (by decide) rfl) d_Mo_shiftInto_57 (Nat.le_of_ble_eq_true rfl) (Nat.le_of_ble_eq_true rfl)
    | succ d ih =>
      intro t ht U c9 hI H locs S ls hl
      have d1 := hdg (c0 * 80 + t) (by omega)
      have hs := sh_lt d1 hj hI.2.1
      refine lv_iload hx hb d_Mo_shiftInto_6 (lv_at hl 0 rfl) ?_
      refine lv_iload_n hx hb d_Mo_shiftInto_8 rfl (lv_at hl 4 rfl) ?_
      refine lv_icmp_ge (tgt := 57) hx hb d_Mo_shiftInto_9 (by decide) (fun hq => absurd hq (nI_ge (by omega) (by omega))) (fun _ => ?_)
      refine lv_aload_n hx hb d_Mo_shiftInto_12 rfl (lv_at hl 2 rfl) ?_
      refine r_get C K S 0 rfl rfl clOk_Mo 41 (by decide) wf_Mo_83 (v := .ref (ma 21)) rfl d_Mo_shiftInto_13 ?_
      refine lv_iload_n hx hb d_Mo_shiftInto_16 rfl (lv_at hl 3 rfl) ?_
      refine lv_bipush (v := 80) hx hb d_Mo_shiftInto_17 (by decide) ?_
      refine lv_imul hx hb d_Mo_shiftInto_19 ?_
      rw [show nI c0 * (80 : Int32) = nI (c0 * 80) from pk_mul c0 80]
      refine lv_iload hx hb d_Mo_shiftInto_20 (lv_at hl 0 rfl) ?_
      refine lv_iadd hx hb d_Mo_shiftInto_22 ?_
      rw [nI_add]
      refine r_iald C K S 1 rfl (i := nI (c0 * 80 + t)) (vp_in_nI (by omega) (by decide)) (v := (nI (dg (c0 * 80 + t)))) (by rw [nI_clamp (by omega)]) d_Mo_shiftInto_23 ?_
      refine lv_iload_n hx hb d_Mo_shiftInto_24 rfl (lv_at hl 5 rfl) ?_
      refine lv_ishl hx hb d_Mo_shiftInto_25 ?_
      refine lv_iload hx hb d_Mo_shiftInto_26 (lv_at hl 1 rfl) ?_
      refine lv_ior hx hb d_Mo_shiftInto_28 ?_
      rw [sh_or d1 hj hI.2.1]
      refine lv_istore (lv' := [(6, .int (nI (dg (c0 * 80 + t) * 2 ^ j + c9))), (5, .int (nI t)), (4, .int (nI c9)), (0, .ref h0), (1, .int (nI c0)), (2, .int (nI n)), (3, .int (nI j))]) hx hb d_Mo_shiftInto_29 hl (by decide) rfl (fun ls hl => ?_)
      refine lv_aload_n hx hb d_Mo_shiftInto_31 rfl (lv_at hl 3 rfl) ?_
      refine r_get C K S 0 rfl rfl clOk_Mo 47 (by decide) wf_Mo_102 (v := .ref (ma 27)) rfl d_Mo_shiftInto_32 ?_
      refine lv_iload hx hb d_Mo_shiftInto_35 (lv_at hl 1 rfl) ?_
      refine lv_iload hx hb d_Mo_shiftInto_37 (lv_at hl 0 rfl) ?_
      refine lv_ldcw (v := 65535) hx hb C.2.2.2.1 (C.2.2.2.2.1 _ wk_Mo_312) d_Mo_shiftInto_39 ?_
      refine lv_iand hx hb d_Mo_shiftInto_42 ?_
      rw [nx_mod]
      refine r_iast C K S 2 rfl (i := (nI t)) (x := nI ((dg (c0 * 80 + t) * 2 ^ j + c9) % 65536)) (vp_in_nI (by omega) (by decide)) (f' := fun i => nI (va_up U t ((dg (c0 * 80 + t) * 2 ^ j + c9) % 65536) i)) (ws' := [(h0, .inr (8, moL ma iv co)), ((ma 21), .inl (k 0, 319840, .inl (fun i => nI (dg i)))), ((ma 27), .inl (k 0, 170, .inl (fun i => nI (va_up U t ((dg (c0 * 80 + t) * 2 ^ j + c9) % 65536) i))))]) (upd_nI U (by omega) _) rfl d_Mo_shiftInto_43 (fun H locs S => ?_)
      refine lv_iload hx hb d_Mo_shiftInto_44 (lv_at hl 0 rfl) ?_
      refine lv_bipush (v := 16) hx hb d_Mo_shiftInto_46 (by decide) ?_
      refine lv_iushr (v := (nI ((dg (c0 * 80 + t) * 2 ^ j + c9) / 65536))) hx hb d_Mo_shiftInto_48 (pk_ushrN (by omega) _ 16 (by decide)) ?_
      refine lv_istore (lv' := [(4, .int (nI ((dg (c0 * 80 + t) * 2 ^ j + c9) / 65536))), (6, .int (nI (dg (c0 * 80 + t) * 2 ^ j + c9))), (5, .int (nI t)), (0, .ref h0), (1, .int (nI c0)), (2, .int (nI n)), (3, .int (nI j))]) hx hb d_Mo_shiftInto_49 hl (by decide) rfl (fun ls hl => ?_)
      refine lv_iinc (v := nI (t + 1)) (lv' := [(5, .int (nI (t + 1))), (4, .int (nI ((dg (c0 * 80 + t) * 2 ^ j + c9) / 65536))), (6, .int (nI (dg (c0 * 80 + t) * 2 ^ j + c9))), (0, .ref h0), (1, .int (nI c0)), (2, .int (nI n)), (3, .int (nI j))]) hx hb d_Mo_shiftInto_51 hl (k := 2) rfl (nI_1 t) (by decide) rfl (fun ls hl => ?_)
      refine lv_goto (tgt := 6) hx hb d_Mo_shiftInto_54 (by decide) ?_
      refine ih (t + 1) (by omega) (va_up U t ((dg (c0 * 80 + t) * 2 ^ j + c9) % 65536)) ((dg (c0 * 80 + t) * 2 ^ j + c9) / 65536) ⟨?_, hs.1, ?_, ?_⟩ _ _ S ls (lv_sub hl [0, 1, 3, 4, 5, 6] rfl)
      · rw [vl_s, vl_s, va_up_self, vl_congr (h := U) t (fun i hi => va_up_ne U _ (by omega)), Nat.pow_succ, Nat.add_mul, ← hI.1]
        have e2 := Nat.mod_add_div (dg (c0 * 80 + t) * 2 ^ j + c9) 65536
        have e3 : ((dg (c0 * 80 + t) * 2 ^ j + c9) % 65536 + 65536 * ((dg (c0 * 80 + t) * 2 ^ j + c9) / 65536)) * 65536 ^ t = (dg (c0 * 80 + t) * 2 ^ j + c9) * 65536 ^ t := by rw [e2]
        rw [Nat.add_mul, Nat.add_mul] at e3
        have e4 : (dg (c0 * 80 + t) * 2 ^ j + c9) / 65536 * (65536 ^ t * 65536) = 65536 * ((dg (c0 * 80 + t) * 2 ^ j + c9) / 65536) * 65536 ^ t := by rw [Nat.mul_comm (65536 ^ t), ← Nat.mul_assoc, Nat.mul_comm ((dg (c0 * 80 + t) * 2 ^ j + c9) / 65536)]
        have e5 : dg (c0 * 80 + t) * 65536 ^ t * 2 ^ j = dg (c0 * 80 + t) * 2 ^ j * 65536 ^ t := Nat.mul_right_comm _ _ _
        rw [e4, e5]
        omega
      · intro i hi
        by_cases w : i = t
        · rw [w, va_up_self]; exact Nat.mod_lt _ (by decide)
        · rw [va_up_ne U _ w]; exact hI.2.2.1 i hi
      · intro i hi
        rw [va_up_ne U _ (by omega)]
        exact hI.2.2.2 i (by omega)
  refine lv_iconst (v := 0) hx hb d_Mo_shiftInto_0 (by decide) ?_
  refine lv_istore (lv' := [(4, .int 0), (0, .ref h0), (1, .int (nI c0)), (2, .int (nI n)), (3, .int (nI j))]) hx hb d_Mo_shiftInto_1 hl (by decide) rfl (fun ls hl => ?_)
  refine lv_iconst (v := 0) hx hb d_Mo_shiftInto_3 (by decide) ?_
  refine lv_istore (lv' := [(5, .int 0), (4, .int 0), (0, .ref h0), (1, .int (nI c0)), (2, .int (nI n)), (3, .int (nI j))]) hx hb d_Mo_shiftInto_4 hl (by decide) rfl (fun ls hl => ?_)
  exact loop n 0 (by omega) T 0 ⟨by simp [vl], Nat.two_pow_pos j, dT, fun _ _ => rfl⟩ _ _ S ls hl
