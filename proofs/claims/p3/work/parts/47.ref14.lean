theorem d_Mo_raise_0 : decode c_Mo_raise 0 = .ok (.iconst 0, 1) := by decide +kernel
theorem d_Mo_raise_1 : decode c_Mo_raise 1 = .ok (.istore_n 2, 1) := by decide +kernel
theorem d_Mo_raise_2 : decode c_Mo_raise 2 = .ok (.iconst 0, 1) := by decide +kernel
theorem d_Mo_raise_3 : decode c_Mo_raise 3 = .ok (.istore_n 3, 1) := by decide +kernel
theorem d_Mo_raise_4 : decode c_Mo_raise 4 = .ok (.iload_n 3, 1) := by decide +kernel
theorem d_Mo_raise_5 : decode c_Mo_raise 5 = .ok (.aload_n 0, 1) := by decide +kernel
theorem d_Mo_raise_6 : decode c_Mo_raise 6 = .ok (.getfield 286, 3) := by decide +kernel
theorem d_Mo_raise_9 : decode c_Mo_raise 9 = .ok (.if_icmp .gt 39, 3) := by decide +kernel
theorem d_Mo_raise_12 : decode c_Mo_raise 12 = .ok (.aload_n 0, 1) := by decide +kernel
theorem d_Mo_raise_13 : decode c_Mo_raise 13 = .ok (.getfield 93, 3) := by decide +kernel
theorem d_Mo_raise_16 : decode c_Mo_raise 16 = .ok (.iload_n 3, 1) := by decide +kernel
theorem d_Mo_raise_17 : decode c_Mo_raise 17 = .ok (.iaload, 1) := by decide +kernel
theorem d_Mo_raise_18 : decode c_Mo_raise 18 = .ok (.iload_n 1, 1) := by decide +kernel
theorem d_Mo_raise_19 : decode c_Mo_raise 19 = .ok (.ishl, 1) := by decide +kernel
theorem d_Mo_raise_20 : decode c_Mo_raise 20 = .ok (.iload_n 2, 1) := by decide +kernel
theorem d_Mo_raise_21 : decode c_Mo_raise 21 = .ok (.ior, 1) := by decide +kernel
theorem d_Mo_raise_22 : decode c_Mo_raise 22 = .ok (.istore 4, 2) := by decide +kernel
theorem d_Mo_raise_24 : decode c_Mo_raise 24 = .ok (.aload_n 0, 1) := by decide +kernel
theorem d_Mo_raise_25 : decode c_Mo_raise 25 = .ok (.getfield 93, 3) := by decide +kernel
theorem d_Mo_raise_28 : decode c_Mo_raise 28 = .ok (.iload_n 3, 1) := by decide +kernel
theorem d_Mo_raise_29 : decode c_Mo_raise 29 = .ok (.iload 4, 2) := by decide +kernel
theorem d_Mo_raise_31 : decode c_Mo_raise 31 = .ok (.ldc_w 312, 3) := by decide +kernel
theorem d_Mo_raise_34 : decode c_Mo_raise 34 = .ok (.iand, 1) := by decide +kernel
theorem d_Mo_raise_35 : decode c_Mo_raise 35 = .ok (.iastore, 1) := by decide +kernel
theorem d_Mo_raise_36 : decode c_Mo_raise 36 = .ok (.iload 4, 2) := by decide +kernel
theorem d_Mo_raise_38 : decode c_Mo_raise 38 = .ok (.bipush 16, 2) := by decide +kernel
theorem d_Mo_raise_40 : decode c_Mo_raise 40 = .ok (.iushr, 1) := by decide +kernel
theorem d_Mo_raise_41 : decode c_Mo_raise 41 = .ok (.istore_n 2, 1) := by decide +kernel
theorem d_Mo_raise_42 : decode c_Mo_raise 42 = .ok (.iinc 3 1, 3) := by decide +kernel
theorem d_Mo_raise_45 : decode c_Mo_raise 45 = .ok (.goto (-41), 3) := by decide +kernel
theorem d_Mo_raise_48 : decode c_Mo_raise 48 = .ok (.return_, 1) := by decide +kernel
set_option maxRecDepth 100000 in
set_option maxHeartbeats 8000000 in
/-- raise(j) -/
theorem g_Mo_raise (l : Launch) (G : va_G) (k : Nat → ClassId) (h0 s0 n j : Nat) (ma : Nat → Nat) (iv : Nat → Int32) (co : Int64) (T : Nat → Nat) (hn : n ≤ 165) (hj : j < 16) (dT : ∀ i, i < 170 → T i < 65536) : CV l y_Mo_raise c_Mo_raise 5 { frames := 0, cells := 0, slots := 0, locals := 0 } [.ref h0, .int (nI j)] G k s0 [(h0, .inr (8, moL ma (va_up iv 19 (nI n)) co)), ((ma 24), .inl (k 0, 170, .inl (fun i => nI (T i))))] (fun (U : Nat → Nat) => (∃ c9, vl 65536 U (n + 1) + c9 * 65536 ^ (n + 1) = vl 65536 T (n + 1) * 2 ^ j ∧ c9 < 2 ^ j) ∧ (∀ i, i < 170 → U i < 65536) ∧ ∀ i, n + 1 ≤ i → U i = T i) (fun U => [(h0, .inr (8, moL ma (va_up iv 19 (nI n)) co)), ((ma 24), .inl (k 0, 170, .inl (fun i => nI (U i))))]) 0 0 := by
  refine met_start (by decide) (Nat.le_of_ble_eq_true rfl) ?_
  intro p e s m below meth c C K hA hsz S ls hl
  generalize va_A [(h0, .inr (8, moL ma (va_up iv 19 (nI n)) co)), ((ma 24), .inl (k 0, 170, .inl (fun i => nI (T i))))] s0 = A at hA S ⊢
  have hx := C.1
  have hb := C.2.1
  have hl : lv_has ls 5 [(0, .ref h0), (1, .int (nI j))] := hl
  have loop : ∀ d t, t + d = n + 1 → ∀ (U : Nat → Nat) (c9 : Nat), (vl 65536 U t + c9 * 65536 ^ t = vl 65536 T t * 2 ^ j ∧ c9 < 2 ^ j ∧ (∀ i, i < 170 → U i < 65536) ∧ ∀ i, t ≤ i → U i = T i) → ∀ (H : Heap) (locs : List Loc), Sw G A s.heap H locs [(h0, .inr (8, moL ma (va_up iv 19 (nI n)) co)), ((ma 24), .inl (k 0, 170, .inl (fun i => nI (U i))))] → ∀ ls : Array Slot, lv_has ls 5 [(3, .int (nI t)), (2, .int (nI c9)), (0, .ref h0), (1, .int (nI j))] → W p l e { frames := 0, cells := 0, slots := 0, locals := 0 } s m [Value.ref h0, Value.int (nI j)].toArray below meth c H locs 0 0 (MQ below (va_Qv (fun (U : Nat → Nat) => (∃ c9, vl 65536 U (n + 1) + c9 * 65536 ^ (n + 1) = vl 65536 T (n + 1) * 2 ^ j ∧ c9 < 2 ^ j) ∧ (∀ i, i < 170 → U i < 65536) ∧ ∀ i, n + 1 ≤ i → U i = T i) (Po G k A (fun U => [(h0, .inr (8, moL ma (va_up iv 19 (nI n)) co)), ((ma 24), .inl (k 0, 170, .inl (fun i => nI (U i))))])) A) [Value.ref h0, Value.int (nI j)].toArray s 0 0 A) (F0 m 4 ls []) := by
    intro d
    induction d with
    | zero =>
      intro t ht U c9 hI H locs S ls hl
      obtain rfl : t = n + 1 := by omega
      refine lv_iload_n hx hb d_Mo_raise_4 rfl (lv_at hl 0 rfl) ?_
      refine lv_aload_n hx hb d_Mo_raise_5 rfl (lv_at hl 2 rfl) ?_
      refine r_get C K S 0 rfl rfl clOk_Mo 48 (by decide) wf_Mo_286 (v := .int (nI n)) rfl d_Mo_raise_6 ?_
      refine lv_icmp_gt (tgt := 48) hx hb d_Mo_raise_9 (by decide) (fun _ => ?_) (fun hq => absurd (nI_lt (by omega) (by omega)) hq)
      exact r_vret C K U ⟨⟨c9, hI.1, hI.2.1⟩, hI.2.2.1, hI.2.2.2⟩ (S.sub [0, 1] (by decide) rfl) d_Mo_raise_48 (Nat.le_of_ble_eq_true rfl) (Nat.le_of_ble_eq_true rfl)
    | succ d ih =>
      intro t ht U c9 hI H locs S ls hl
      have d1 := dT t (by omega)
      have hs := sh_lt d1 hj hI.2.1
      have ut : U t = T t := hI.2.2.2 t (Nat.le_refl t)
      refine lv_iload_n hx hb d_Mo_raise_4 rfl (lv_at hl 0 rfl) ?_
      refine lv_aload_n hx hb d_Mo_raise_5 rfl (lv_at hl 2 rfl) ?_
      refine r_get C K S 0 rfl rfl clOk_Mo 48 (by decide) wf_Mo_286 (v := .int (nI n)) rfl d_Mo_raise_6 ?_
      refine lv_icmp_gt (tgt := 48) hx hb d_Mo_raise_9 (by decide) (fun hq => absurd hq (nI_nlt (by omega) (by omega))) (fun _ => ?_)
      refine lv_aload_n hx hb d_Mo_raise_12 rfl (lv_at hl 2 rfl) ?_
      refine r_get C K S 0 rfl rfl clOk_Mo 44 (by decide) wf_Mo_93 (v := .ref (ma 24)) rfl d_Mo_raise_13 ?_
      refine lv_iload_n hx hb d_Mo_raise_16 rfl (lv_at hl 0 rfl) ?_
      refine r_iald C K S 1 rfl (i := (nI t)) (vp_in_nI (by omega) (by decide)) (v := (nI (T t))) (by rw [nI_clamp (by omega), ut]) d_Mo_raise_17 ?_
      refine lv_iload_n hx hb d_Mo_raise_18 rfl (lv_at hl 3 rfl) ?_
      refine lv_ishl hx hb d_Mo_raise_19 ?_
      refine lv_iload_n hx hb d_Mo_raise_20 rfl (lv_at hl 1 rfl) ?_
      refine lv_ior hx hb d_Mo_raise_21 ?_
      rw [sh_or d1 hj hI.2.1]
      refine lv_istore (lv' := [(4, .int (nI (T t * 2 ^ j + c9))), (3, .int (nI t)), (2, .int (nI c9)), (0, .ref h0), (1, .int (nI j))]) hx hb d_Mo_raise_22 hl (by decide) rfl (fun ls hl => ?_)
      refine lv_aload_n hx hb d_Mo_raise_24 rfl (lv_at hl 3 rfl) ?_
      refine r_get C K S 0 rfl rfl clOk_Mo 44 (by decide) wf_Mo_93 (v := .ref (ma 24)) rfl d_Mo_raise_25 ?_
      refine lv_iload_n hx hb d_Mo_raise_28 rfl (lv_at hl 1 rfl) ?_
      refine lv_iload hx hb d_Mo_raise_29 (lv_at hl 0 rfl) ?_
      refine lv_ldcw (v := 65535) hx hb C.2.2.2.1 (C.2.2.2.2.1 _ wk_Mo_312) d_Mo_raise_31 ?_
      refine lv_iand hx hb d_Mo_raise_34 ?_
      rw [nx_mod]
      refine r_iast C K S 1 rfl (i := (nI t)) (x := nI ((T t * 2 ^ j + c9) % 65536)) (vp_in_nI (by omega) (by decide)) (f' := fun i => nI (va_up U t ((T t * 2 ^ j + c9) % 65536) i)) (ws' := [(h0, .inr (8, moL ma (va_up iv 19 (nI n)) co)), ((ma 24), .inl (k 0, 170, .inl (fun i => nI (va_up U t ((T t * 2 ^ j + c9) % 65536) i))))]) (upd_nI U (by omega) _) rfl d_Mo_raise_35 (fun H locs S => ?_)
      refine lv_iload hx hb d_Mo_raise_36 (lv_at hl 0 rfl) ?_
      refine lv_bipush (v := 16) hx hb d_Mo_raise_38 (by decide) ?_
      refine lv_iushr (v := (nI ((T t * 2 ^ j + c9) / 65536))) hx hb d_Mo_raise_40 (pk_ushrN (by omega) _ 16 (by decide)) ?_
      refine lv_istore_n (lv' := [(2, .int (nI ((T t * 2 ^ j + c9) / 65536))), (4, .int (nI (T t * 2 ^ j + c9))), (3, .int (nI t)), (0, .ref h0), (1, .int (nI j))]) hx hb d_Mo_raise_41 rfl hl (by decide) rfl (fun ls hl => ?_)
      refine lv_iinc (v := nI (t + 1)) (lv' := [(3, .int (nI (t + 1))), (2, .int (nI ((T t * 2 ^ j + c9) / 65536))), (4, .int (nI (T t * 2 ^ j + c9))), (0, .ref h0), (1, .int (nI j))]) hx hb d_Mo_raise_42 hl (k := 2) rfl (nI_1 t) (by decide) rfl (fun ls hl => ?_)
      refine lv_goto (tgt := 4) hx hb d_Mo_raise_45 (by decide) ?_
      refine ih (t + 1) (by omega) (va_up U t ((T t * 2 ^ j + c9) % 65536)) ((T t * 2 ^ j + c9) / 65536) ⟨?_, hs.1, ?_, ?_⟩ _ _ S ls (lv_sub hl [0, 1, 3, 4] rfl)
      · rw [vl_s, vl_s, va_up_self, vl_congr (h := U) t (fun i hi => va_up_ne U _ (by omega)), Nat.pow_succ, Nat.add_mul, ← hI.1]
        have e2 := Nat.mod_add_div (T t * 2 ^ j + c9) 65536
        have e3 : ((T t * 2 ^ j + c9) % 65536 + 65536 * ((T t * 2 ^ j + c9) / 65536)) * 65536 ^ t = (T t * 2 ^ j + c9) * 65536 ^ t := by rw [e2]
        rw [Nat.add_mul, Nat.add_mul] at e3
        have e4 : (T t * 2 ^ j + c9) / 65536 * (65536 ^ t * 65536) = 65536 * ((T t * 2 ^ j + c9) / 65536) * 65536 ^ t := by rw [Nat.mul_comm (65536 ^ t), ← Nat.mul_assoc, Nat.mul_comm ((T t * 2 ^ j + c9) / 65536)]
        have e5 : T t * 65536 ^ t * 2 ^ j = T t * 2 ^ j * 65536 ^ t := Nat.mul_right_comm _ _ _
        rw [e4, e5]
        omega
      · intro i hi
        by_cases w : i = t
        · rw [w, va_up_self]; exact Nat.mod_lt _ (by decide)
        · rw [va_up_ne U _ w]; exact hI.2.2.1 i hi
      · intro i hi
        rw [va_up_ne U _ (by omega)]
        exact hI.2.2.2 i (by omega)
  refine lv_iconst (v := 0) hx hb d_Mo_raise_0 (by decide) ?_
  refine lv_istore_n (lv' := [(2, .int 0), (0, .ref h0), (1, .int (nI j))]) hx hb d_Mo_raise_1 rfl hl (by decide) rfl (fun ls hl => ?_)
  refine lv_iconst (v := 0) hx hb d_Mo_raise_2 (by decide) ?_
  refine lv_istore_n (lv' := [(3, .int 0), (2, .int 0), (0, .ref h0), (1, .int (nI j))]) hx hb d_Mo_raise_3 rfl hl (by decide) rfl (fun ls hl => ?_)
  exact loop (n + 1) 0 (by omega) T 0 ⟨by simp [vl], Nat.two_pow_pos j, dT, fun _ _ => rfl⟩ _ _ S ls hl
