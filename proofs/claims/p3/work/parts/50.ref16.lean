theorem shr16 {a : Nat} (h : a < 9223372036854775808) {D : Int64} (hD : (D.toBitVec.smod 64).toNat = 16) : lN a >>> D = lN (a / 65536) := by
  apply Int64.toInt_inj.mp
  have e : (lN a >>> D).toInt = (lN a).toInt >>> 16 := by
    rw [← hD]
    exact BitVec.toInt_sshiftRight ..
  rw [e, Int.shiftRight_eq_div_pow, pf_lI (by omega), pf_lI (by omega)]
  rfl
theorem lN_nonneg {a : Nat} (h : a < 9223372036854775808) : (0 : Int64) ≤ lN a := by
  rw [Int64.le_iff_toInt_le, pf_lI (by omega)]
  show (0 : Int) ≤ _
  omega
theorem lN_pos {a : Nat} (h : a < 9223372036854775808) (h0 : 0 < a) : ¬ lN a ≤ (0 : Int64) := by
  rw [Int64.le_iff_toInt_le, pf_lI (by omega)]
  show ¬ _ ≤ (0 : Int)
  omega
theorem lN_negt {a : Nat} (h : a < 9223372036854775808) : (- lN a).toInt = - (a : Int) := by
  rw [Int64.toInt_neg, pf_lI (by omega), Int.bmod_eq_of_le (by omega) (by omega)]
theorem lN_neg0 {a : Nat} (h : a < 9223372036854775808) (h0 : 0 < a) : ¬ (0 : Int64) ≤ - lN a := by
  rw [Int64.le_iff_toInt_le, lN_negt h]
  show ¬ (0 : Int) ≤ _
  omega
theorem d_Mo_put_0 : decode c_Mo_put 0 = .ok (.lload_n 2, 1) := by decide +kernel
theorem d_Mo_put_1 : decode c_Mo_put 1 = .ok (.lconst 0, 1) := by decide +kernel
theorem d_Mo_put_2 : decode c_Mo_put 2 = .ok (.lcmp, 1) := by decide +kernel
theorem d_Mo_put_3 : decode c_Mo_put 3 = .ok (.ifCond .ge 8, 3) := by decide +kernel
theorem d_Mo_put_6 : decode c_Mo_put 6 = .ok (.lload_n 2, 1) := by decide +kernel
theorem d_Mo_put_7 : decode c_Mo_put 7 = .ok (.lneg, 1) := by decide +kernel
theorem d_Mo_put_8 : decode c_Mo_put 8 = .ok (.goto 4, 3) := by decide +kernel
theorem d_Mo_put_11 : decode c_Mo_put 11 = .ok (.lload_n 2, 1) := by decide +kernel
theorem d_Mo_put_12 : decode c_Mo_put 12 = .ok (.lstore 4, 2) := by decide +kernel
theorem d_Mo_put_14 : decode c_Mo_put 14 = .ok (.iconst 0, 1) := by decide +kernel
theorem d_Mo_put_15 : decode c_Mo_put 15 = .ok (.istore 6, 2) := by decide +kernel
theorem d_Mo_put_17 : decode c_Mo_put 17 = .ok (.lload 4, 2) := by decide +kernel
theorem d_Mo_put_19 : decode c_Mo_put 19 = .ok (.lconst 0, 1) := by decide +kernel
theorem d_Mo_put_20 : decode c_Mo_put 20 = .ok (.lcmp, 1) := by decide +kernel
theorem d_Mo_put_21 : decode c_Mo_put 21 = .ok (.ifCond .le 35, 3) := by decide +kernel
theorem d_Mo_put_24 : decode c_Mo_put 24 = .ok (.aload_n 0, 1) := by decide +kernel
theorem d_Mo_put_25 : decode c_Mo_put 25 = .ok (.getfield 83, 3) := by decide +kernel
theorem d_Mo_put_28 : decode c_Mo_put 28 = .ok (.iload_n 1, 1) := by decide +kernel
theorem d_Mo_put_29 : decode c_Mo_put 29 = .ok (.bipush 80, 2) := by decide +kernel
theorem d_Mo_put_31 : decode c_Mo_put 31 = .ok (.imul, 1) := by decide +kernel
theorem d_Mo_put_32 : decode c_Mo_put 32 = .ok (.iload 6, 2) := by decide +kernel
theorem d_Mo_put_34 : decode c_Mo_put 34 = .ok (.iadd, 1) := by decide +kernel
theorem d_Mo_put_35 : decode c_Mo_put 35 = .ok (.lload 4, 2) := by decide +kernel
theorem d_Mo_put_37 : decode c_Mo_put 37 = .ok (.ldc2_w 276, 3) := by decide +kernel
theorem d_Mo_put_40 : decode c_Mo_put 40 = .ok (.land, 1) := by decide +kernel
theorem d_Mo_put_41 : decode c_Mo_put 41 = .ok (.l2i, 1) := by decide +kernel
theorem d_Mo_put_42 : decode c_Mo_put 42 = .ok (.iastore, 1) := by decide +kernel
theorem d_Mo_put_43 : decode c_Mo_put 43 = .ok (.lload 4, 2) := by decide +kernel
theorem d_Mo_put_45 : decode c_Mo_put 45 = .ok (.bipush 16, 2) := by decide +kernel
theorem d_Mo_put_47 : decode c_Mo_put 47 = .ok (.lshr, 1) := by decide +kernel
theorem d_Mo_put_48 : decode c_Mo_put 48 = .ok (.lstore 4, 2) := by decide +kernel
theorem d_Mo_put_50 : decode c_Mo_put 50 = .ok (.iinc 6 1, 3) := by decide +kernel
theorem d_Mo_put_53 : decode c_Mo_put 53 = .ok (.goto (-36), 3) := by decide +kernel
theorem d_Mo_put_56 : decode c_Mo_put 56 = .ok (.aload_n 0, 1) := by decide +kernel
theorem d_Mo_put_57 : decode c_Mo_put 57 = .ok (.getfield 86, 3) := by decide +kernel
theorem d_Mo_put_60 : decode c_Mo_put 60 = .ok (.iload_n 1, 1) := by decide +kernel
theorem d_Mo_put_61 : decode c_Mo_put 61 = .ok (.iload 6, 2) := by decide +kernel
theorem d_Mo_put_63 : decode c_Mo_put 63 = .ok (.iastore, 1) := by decide +kernel
theorem d_Mo_put_64 : decode c_Mo_put 64 = .ok (.aload_n 0, 1) := by decide +kernel
theorem d_Mo_put_65 : decode c_Mo_put 65 = .ok (.getfield 89, 3) := by decide +kernel
theorem d_Mo_put_68 : decode c_Mo_put 68 = .ok (.iload_n 1, 1) := by decide +kernel
theorem d_Mo_put_69 : decode c_Mo_put 69 = .ok (.lload_n 2, 1) := by decide +kernel
theorem d_Mo_put_70 : decode c_Mo_put 70 = .ok (.lconst 0, 1) := by decide +kernel
theorem d_Mo_put_71 : decode c_Mo_put 71 = .ok (.lcmp, 1) := by decide +kernel
theorem d_Mo_put_72 : decode c_Mo_put 72 = .ok (.ifCond .ge 7, 3) := by decide +kernel
theorem d_Mo_put_75 : decode c_Mo_put 75 = .ok (.iconst 1, 1) := by decide +kernel
theorem d_Mo_put_76 : decode c_Mo_put 76 = .ok (.goto 4, 3) := by decide +kernel
theorem d_Mo_put_79 : decode c_Mo_put 79 = .ok (.iconst 0, 1) := by decide +kernel
theorem d_Mo_put_80 : decode c_Mo_put 80 = .ok (.bastore, 1) := by decide +kernel
theorem d_Mo_put_81 : decode c_Mo_put 81 = .ok (.return_, 1) := by decide +kernel
set_option maxRecDepth 100000 in
set_option maxHeartbeats 8000000 in
/-- put(c0, a) -/
theorem g_Mo_put_p (l : Launch) (G : va_G) (k : Nat → ClassId) (h0 s0 c0 a : Nat) (ma : Nat → Nat) (iv : Nat → Int32) (co : Int64) (dg sz bl : Nat → Nat) (kc : c0 < 3998) (ha : a < 9223372036854775808) (hdg : ∀ i, i < 319840 → dg i < 65536) : CV l y_Mo_put c_Mo_put 7 { frames := 0, cells := 0, slots := 0, locals := 0 } [.ref h0, .int (nI c0), .long (lN a)] G k s0 [(h0, .inr (8, moL ma iv co)), ((ma 21), .inl (k 0, 319840, .inl (fun i => nI (dg i)))), ((ma 22), .inl (k 0, 3998, .inl (fun i => nI (sz i)))), ((ma 23), .inl (k 2, 3998, .inl (fun i => nI (bl i))))] (fun (u : (Nat → Nat) × Nat) => vl 65536 (fun i => u.1 (c0 * 80 + i)) u.2 = a ∧ u.2 ≤ 4 ∧ (u.2 = 0 ∨ u.1 (c0 * 80 + (u.2 - 1)) ≠ 0) ∧ (∀ i, i < 319840 → u.1 i < 65536) ∧ ∀ i, i < c0 * 80 ∨ c0 * 80 + 80 ≤ i → u.1 i = dg i) (fun u => [(h0, .inr (8, moL ma iv co)), ((ma 21), .inl (k 0, 319840, .inl (fun i => nI (u.1 i)))), ((ma 22), .inl (k 0, 3998, .inl (fun i => nI ((va_up sz c0 u.2) i)))), ((ma 23), .inl (k 2, 3998, .inl (fun i => nI ((va_up bl c0 0) i))))]) 0 0 := by
  refine met_start (by decide) (Nat.le_of_ble_eq_true rfl) ?_
  intro p e s m below meth c C K hA hsz S ls hl
  generalize va_A [(h0, .inr (8, moL ma iv co)), ((ma 21), .inl (k 0, 319840, .inl (fun i => nI (dg i)))), ((ma 22), .inl (k 0, 3998, .inl (fun i => nI (sz i)))), ((ma 23), .inl (k 2, 3998, .inl (fun i => nI (bl i))))] s0 = A at hA S ⊢
  have hx := C.1
  have hb := C.2.1
  have hl : lv_has ls 7 [(0, .ref h0), (1, .int (nI c0)), (2, .long (lN a))] := hl
  have loop : ∀ f t r9, t + f = 4 → r9 < 65536 ^ f → r9 < 9223372036854775808 → ∀ U : Nat → Nat, (vl 65536 (fun i => U (c0 * 80 + i)) t + r9 * 65536 ^ t = a ∧ (0 < r9 ∨ t = 0 ∨ U (c0 * 80 + (t - 1)) ≠ 0) ∧ (∀ i, i < 319840 → U i < 65536) ∧ ∀ i, i < c0 * 80 ∨ c0 * 80 + 80 ≤ i → U i = dg i) → ∀ (H : Heap) (locs : List Loc), Sw G A s.heap H locs [(h0, .inr (8, moL ma iv co)), ((ma 21), .inl (k 0, 319840, .inl (fun i => nI (U i)))), ((ma 22), .inl (k 0, 3998, .inl (fun i => nI (sz i)))), ((ma 23), .inl (k 2, 3998, .inl (fun i => nI (bl i))))] → ∀ ls : Array Slot, lv_has ls 7 [(6, .int (nI t)), (4, .long (lN r9)), (0, .ref h0), (1, .int (nI c0)), (2, .long (lN a))] → W p l e { frames := 0, cells := 0, slots := 0, locals := 0 } s m [Value.ref h0, Value.int (nI c0), Value.long (lN a)].toArray below meth c H locs 0 0 (MQ below (va_Qv (fun (u : (Nat → Nat) × Nat) => vl 65536 (fun i => u.1 (c0 * 80 + i)) u.2 = a ∧ u.2 ≤ 4 ∧ (u.2 = 0 ∨ u.1 (c0 * 80 + (u.2 - 1)) ≠ 0) ∧ (∀ i, i < 319840 → u.1 i < 65536) ∧ ∀ i, i < c0 * 80 ∨ c0 * 80 + 80 ≤ i → u.1 i = dg i) (Po G k A (fun u => [(h0, .inr (8, moL ma iv co)), ((ma 21), .inl (k 0, 319840, .inl (fun i => nI (u.1 i)))), ((ma 22), .inl (k 0, 3998, .inl (fun i => nI ((va_up sz c0 u.2) i)))), ((ma 23), .inl (k 2, 3998, .inl (fun i => nI ((va_up bl c0 0) i))))])) A) [Value.ref h0, Value.int (nI c0), Value.long (lN a)].toArray s 0 0 A) (F0 m 17 ls []) := by
    have stop : ∀ t, t ≤ 4 → ∀ U : Nat → Nat, (vl 65536 (fun i => U (c0 * 80 + i)) t + 0 * 65536 ^ t = a ∧ (0 < 0 ∨ t = 0 ∨ U (c0 * 80 + (t - 1)) ≠ 0) ∧ (∀ i, i < 319840 → U i < 65536) ∧ ∀ i, i < c0 * 80 ∨ c0 * 80 + 80 ≤ i → U i = dg i) → ∀ (H : Heap) (locs : List Loc), Sw G A s.heap H locs [(h0, .inr (8, moL ma iv co)), ((ma 21), .inl (k 0, 319840, .inl (fun i => nI (U i)))), ((ma 22), .inl (k 0, 3998, .inl (fun i => nI (sz i)))), ((ma 23), .inl (k 2, 3998, .inl (fun i => nI (bl i))))] → ∀ ls : Array Slot, lv_has ls 7 [(6, .int (nI t)), (4, .long (lN 0)), (0, .ref h0), (1, .int (nI c0)), (2, .long (lN a))] → W p l e { frames := 0, cells := 0, slots := 0, locals := 0 } s m [Value.ref h0, Value.int (nI c0), Value.long (lN a)].toArray below meth c H locs 0 0 (MQ below (va_Qv (fun (u : (Nat → Nat) × Nat) => vl 65536 (fun i => u.1 (c0 * 80 + i)) u.2 = a ∧ u.2 ≤ 4 ∧ (u.2 = 0 ∨ u.1 (c0 * 80 + (u.2 - 1)) ≠ 0) ∧ (∀ i, i < 319840 → u.1 i < 65536) ∧ ∀ i, i < c0 * 80 ∨ c0 * 80 + 80 ≤ i → u.1 i = dg i) (Po G k A (fun u => [(h0, .inr (8, moL ma iv co)), ((ma 21), .inl (k 0, 319840, .inl (fun i => nI (u.1 i)))), ((ma 22), .inl (k 0, 3998, .inl (fun i => nI ((va_up sz c0 u.2) i)))), ((ma 23), .inl (k 2, 3998, .inl (fun i => nI ((va_up bl c0 0) i))))])) A) [Value.ref h0, Value.int (nI c0), Value.long (lN a)].toArray s 0 0 A) (F0 m 17 ls []) := by
      intro t ht U hI H locs S ls hl
      have e0 := hI.1
      rw [Nat.zero_mul, Nat.add_zero] at e0
      refine lv_lload hx hb d_Mo_put_17 (lv_at hl 1 rfl) ?_
      refine lv_lconst (v := 0) hx hb d_Mo_put_19 (by decide) ?_
      refine W.lcmp hx hb d_Mo_put_20 ?_
      refine lv_if_le (tgt := 56) hx hb d_Mo_put_21 (by decide) (fun _ => ?_) (fun hq => absurd ((lg_cmp_le (lN 0) 0).mpr (by decide)) hq)
      refine lv_aload_n hx hb d_Mo_put_56 rfl (lv_at hl 2 rfl) ?_
      refine r_get C K S 0 rfl rfl clOk_Mo 42 (by decide) wf_Mo_86 (v := .ref (ma 22)) rfl d_Mo_put_57 ?_
      refine lv_iload_n hx hb d_Mo_put_60 rfl (lv_at hl 3 rfl) ?_
      refine lv_iload hx hb d_Mo_put_61 (lv_at hl 0 rfl) ?_
      refine r_iast C K S 2 rfl (i := (nI c0)) (x := (nI t)) (vp_in_nI (by omega) (by decide)) (f' := fun i => nI (va_up sz c0 t i)) (ws' := [(h0, .inr (8, moL ma iv co)), ((ma 21), .inl (k 0, 319840, .inl (fun i => nI (U i)))), ((ma 22), .inl (k 0, 3998, .inl (fun i => nI (va_up sz c0 t i)))), ((ma 23), .inl (k 2, 3998, .inl (fun i => nI (bl i))))]) (upd_nI sz (by omega) _) rfl d_Mo_put_63 (fun H locs S => ?_)
      refine lv_aload_n hx hb d_Mo_put_64 rfl (lv_at hl 2 rfl) ?_
      refine r_get C K S 0 rfl rfl clOk_Mo 43 (by decide) wf_Mo_89 (v := .ref (ma 23)) rfl d_Mo_put_65 ?_
      refine lv_iload_n hx hb d_Mo_put_68 rfl (lv_at hl 3 rfl) ?_
      refine lv_lload_n hx hb d_Mo_put_69 rfl (lv_at hl 4 rfl) ?_
      refine lv_lconst (v := 0) hx hb d_Mo_put_70 (by decide) ?_
      refine W.lcmp hx hb d_Mo_put_71 ?_
      refine lv_if_ge (tgt := 79) hx hb d_Mo_put_72 (by decide) (fun _ => ?_) (fun hq => absurd ((lg_cmp_ge _ _).mpr (lN_nonneg ha)) hq)
      refine lv_iconst (v := 0) hx hb d_Mo_put_79 (by decide) ?_
      refine r_zast C K S 3 rfl (i := (nI c0)) (x := 0) (vp_in_nI (by omega) (by decide)) (f' := fun i => nI (va_up bl c0 0 i)) (ws' := [(h0, .inr (8, moL ma iv co)), ((ma 21), .inl (k 0, 319840, .inl (fun i => nI (U i)))), ((ma 22), .inl (k 0, 3998, .inl (fun i => nI (va_up sz c0 t i)))), ((ma 23), .inl (k 2, 3998, .inl (fun i => nI (va_up bl c0 0 i))))]) (upd_Z bl (v := 0) (by omega) (by omega)) rfl d_Mo_put_80 (fun H locs S => ?_)
      exact r_vret C K (U, t) ⟨e0, ht, hI.2.1.resolve_left (by omega), hI.2.2.1, hI.2.2.2⟩ (S.sub [0, 1, 2, 3] (by decide) rfl) d_Mo_put_81 (Nat.le_of_ble_eq_true rfl) (Nat.le_of_ble_eq_true rfl)
    intro f
    induction f with
    | zero =>
      intro t r9 ht hr _ U hI H locs S ls hl
      have : r9 = 0 := by rw [Nat.pow_zero] at hr; omega
      subst this
      exact stop t (by omega) U hI H locs S ls hl
    | succ f ih =>
      intro t r9 ht hr hr2 U hI H locs S ls hl
      by_cases z : r9 = 0
      · subst z
        exact stop t (by omega) U hI H locs S ls hl
      have rp : 0 < r9 := by omega
      refine lv_lload hx hb d_Mo_put_17 (lv_at hl 1 rfl) ?_
      refine lv_lconst (v := 0) hx hb d_Mo_put_19 (by decide) ?_
      refine W.lcmp hx hb d_Mo_put_20 ?_
      refine lv_if_le (tgt := 56) hx hb d_Mo_put_21 (by decide) (fun hq => absurd hq (fun e9 => lN_pos hr2 rp ((lg_cmp_le _ _).mp e9))) (fun _ => ?_)
      refine lv_aload_n hx hb d_Mo_put_24 rfl (lv_at hl 2 rfl) ?_
      refine r_get C K S 0 rfl rfl clOk_Mo 41 (by decide) wf_Mo_83 (v := .ref (ma 21)) rfl d_Mo_put_25 ?_
      refine lv_iload_n hx hb d_Mo_put_28 rfl (lv_at hl 3 rfl) ?_
      refine lv_bipush (v := 80) hx hb d_Mo_put_29 (by decide) ?_
      refine lv_imul hx hb d_Mo_put_31 ?_
      rw [show nI c0 * (80 : Int32) = nI (c0 * 80) from pk_mul c0 80]
      refine lv_iload hx hb d_Mo_put_32 (lv_at hl 0 rfl) ?_
      refine lv_iadd hx hb d_Mo_put_34 ?_
      rw [nI_add]
      refine lv_lload hx hb d_Mo_put_35 (lv_at hl 1 rfl) ?_
      refine lv_ldc2 (v := 65535) hx hb C.2.2.2.1 (C.2.2.2.2.1 _ wk_Mo_276) d_Mo_put_37 ?_
      refine lv_land hx hb d_Mo_put_40 ?_
      rw [show lN r9 &&& (65535 : Int64) = lN (r9 % 65536) from g_mask (s := 16) (p := 65536) (by decide) (by decide) (by omega)]
      refine lv_l2i (v := (nI (r9 % 65536))) hx hb d_Mo_put_41 (lN_i _) ?_
      refine r_iast C K S 1 rfl (i := nI (c0 * 80 + t)) (x := (nI (r9 % 65536))) (vp_in_nI (by omega) (by decide)) (f' := fun i => nI (va_up U (c0 * 80 + t) (r9 % 65536) i)) (ws' := [(h0, .inr (8, moL ma iv co)), ((ma 21), .inl (k 0, 319840, .inl (fun i => nI (va_up U (c0 * 80 + t) (r9 % 65536) i)))), ((ma 22), .inl (k 0, 3998, .inl (fun i => nI (sz i)))), ((ma 23), .inl (k 2, 3998, .inl (fun i => nI (bl i))))]) (upd_nI U (by omega) _) rfl d_Mo_put_42 (fun H locs S => ?_)
      refine lv_lload hx hb d_Mo_put_43 (lv_at hl 1 rfl) ?_
      refine lv_bipush (v := 16) hx hb d_Mo_put_45 (by decide) ?_
      refine lv_lshr (v := (lN (r9 / 65536))) hx hb d_Mo_put_47 (shr16 hr2 (by decide)) ?_
      refine lv_lstore (lv' := [(4, .long (lN (r9 / 65536))), (6, .int (nI t)), (0, .ref h0), (1, .int (nI c0)), (2, .long (lN a))]) hx hb d_Mo_put_48 hl (by decide) rfl (fun ls hl => ?_)
      refine lv_iinc (v := nI (t + 1)) (lv' := [(6, .int (nI (t + 1))), (4, .long (lN (r9 / 65536))), (0, .ref h0), (1, .int (nI c0)), (2, .long (lN a))]) hx hb d_Mo_put_50 hl (k := 1) rfl (nI_1 t) (by decide) rfl (fun ls hl => ?_)
      refine lv_goto (tgt := 17) hx hb d_Mo_put_53 (by decide) ?_
      refine ih (t + 1) (r9 / 65536) (by omega) ((Nat.div_lt_iff_lt_mul (by decide)).mpr (by rw [← Nat.pow_succ]; exact hr)) (by omega) (va_up U (c0 * 80 + t) (r9 % 65536)) ⟨?_, ?_, ?_, ?_⟩ _ _ S ls (lv_sub hl [0, 1, 2, 3, 4] rfl)
      · rw [vl_s, va_up_self, vl_congr (h := fun i => U (c0 * 80 + i)) t (fun i hi => va_up_ne U _ (by omega)), Nat.pow_succ, ← hI.1]
        have e2 := Nat.mod_add_div r9 65536
        have e3 : (r9 % 65536 + 65536 * (r9 / 65536)) * 65536 ^ t = r9 * 65536 ^ t := by rw [e2]
        rw [Nat.add_mul] at e3
        have e4 : r9 / 65536 * (65536 ^ t * 65536) = 65536 * (r9 / 65536) * 65536 ^ t := by rw [Nat.mul_comm (65536 ^ t), ← Nat.mul_assoc, Nat.mul_comm (r9 / 65536)]
        rw [e4]
        omega
      · by_cases y : 0 < r9 / 65536
        · exact Or.inl y
        · refine Or.inr (Or.inr ?_)
          rw [Nat.add_sub_cancel, va_up_self]
          omega
      · intro i hi
        by_cases w : i = c0 * 80 + t
        · rw [w, va_up_self]; exact Nat.mod_lt _ (by decide)
        · rw [va_up_ne U _ w]; exact hI.2.2.1 i hi
      · intro i hi
        rw [va_up_ne U _ (by omega)]
        exact hI.2.2.2 i hi
  refine lv_lload_n hx hb d_Mo_put_0 rfl (lv_at hl 2 rfl) ?_
  refine lv_lconst (v := 0) hx hb d_Mo_put_1 (by decide) ?_
  refine W.lcmp hx hb d_Mo_put_2 ?_
  refine lv_if_ge (tgt := 11) hx hb d_Mo_put_3 (by decide) (fun _ => ?_) (fun hq => absurd ((lg_cmp_ge _ _).mpr (lN_nonneg ha)) hq)
  refine lv_lload_n hx hb d_Mo_put_11 rfl (lv_at hl 2 rfl) ?_
  refine lv_lstore (lv' := [(4, .long (lN a)), (0, .ref h0), (1, .int (nI c0)), (2, .long (lN a))]) hx hb d_Mo_put_12 hl (by decide) rfl (fun ls hl => ?_)
  refine lv_iconst (v := 0) hx hb d_Mo_put_14 (by decide) ?_
  refine lv_istore (lv' := [(6, .int 0), (4, .long (lN a)), (0, .ref h0), (1, .int (nI c0)), (2, .long (lN a))]) hx hb d_Mo_put_15 hl (by decide) rfl (fun ls hl => ?_)
  exact loop 4 0 a (by omega) (by omega) ha dg ⟨by simp [vl], by omega, hdg, fun _ _ => rfl⟩ _ _ S ls (lv_sub hl [0, 1, 2, 3, 4] rfl)
set_option maxRecDepth 100000 in
set_option maxHeartbeats 8000000 in
/-- put(c0, -a) -/
theorem g_Mo_put_n (l : Launch) (G : va_G) (k : Nat → ClassId) (h0 s0 c0 a : Nat) (ma : Nat → Nat) (iv : Nat → Int32) (co : Int64) (dg sz bl : Nat → Nat) (kc : c0 < 3998) (ha : a < 9223372036854775808) (hp : 0 < a) (hdg : ∀ i, i < 319840 → dg i < 65536) : CV l y_Mo_put c_Mo_put 7 { frames := 0, cells := 0, slots := 0, locals := 0 } [.ref h0, .int (nI c0), .long (-lN a)] G k s0 [(h0, .inr (8, moL ma iv co)), ((ma 21), .inl (k 0, 319840, .inl (fun i => nI (dg i)))), ((ma 22), .inl (k 0, 3998, .inl (fun i => nI (sz i)))), ((ma 23), .inl (k 2, 3998, .inl (fun i => nI (bl i))))] (fun (u : (Nat → Nat) × Nat) => vl 65536 (fun i => u.1 (c0 * 80 + i)) u.2 = a ∧ u.2 ≤ 4 ∧ (u.2 = 0 ∨ u.1 (c0 * 80 + (u.2 - 1)) ≠ 0) ∧ (∀ i, i < 319840 → u.1 i < 65536) ∧ ∀ i, i < c0 * 80 ∨ c0 * 80 + 80 ≤ i → u.1 i = dg i) (fun u => [(h0, .inr (8, moL ma iv co)), ((ma 21), .inl (k 0, 319840, .inl (fun i => nI (u.1 i)))), ((ma 22), .inl (k 0, 3998, .inl (fun i => nI ((va_up sz c0 u.2) i)))), ((ma 23), .inl (k 2, 3998, .inl (fun i => nI ((va_up bl c0 1) i))))]) 0 0 := by
  refine met_start (by decide) (Nat.le_of_ble_eq_true rfl) ?_
  intro p e s m below meth c C K hA hsz S ls hl
  generalize va_A [(h0, .inr (8, moL ma iv co)), ((ma 21), .inl (k 0, 319840, .inl (fun i => nI (dg i)))), ((ma 22), .inl (k 0, 3998, .inl (fun i => nI (sz i)))), ((ma 23), .inl (k 2, 3998, .inl (fun i => nI (bl i))))] s0 = A at hA S ⊢
  have hx := C.1
  have hb := C.2.1
  have hl : lv_has ls 7 [(0, .ref h0), (1, .int (nI c0)), (2, .long (-lN a))] := hl
  have loop : ∀ f t r9, t + f = 4 → r9 < 65536 ^ f → r9 < 9223372036854775808 → ∀ U : Nat → Nat, (vl 65536 (fun i => U (c0 * 80 + i)) t + r9 * 65536 ^ t = a ∧ (0 < r9 ∨ t = 0 ∨ U (c0 * 80 + (t - 1)) ≠ 0) ∧ (∀ i, i < 319840 → U i < 65536) ∧ ∀ i, i < c0 * 80 ∨ c0 * 80 + 80 ≤ i → U i = dg i) → ∀ (H : Heap) (locs : List Loc), Sw G A s.heap H locs [(h0, .inr (8, moL ma iv co)), ((ma 21), .inl (k 0, 319840, .inl (fun i => nI (U i)))), ((ma 22), .inl (k 0, 3998, .inl (fun i => nI (sz i)))), ((ma 23), .inl (k 2, 3998, .inl (fun i => nI (bl i))))] → ∀ ls : Array Slot, lv_has ls 7 [(6, .int (nI t)), (4, .long (lN r9)), (0, .ref h0), (1, .int (nI c0)), (2, .long (-lN a))] → W p l e { frames := 0, cells := 0, slots := 0, locals := 0 } s m [Value.ref h0, Value.int (nI c0), Value.long (-lN a)].toArray below meth c H locs 0 0 (MQ below (va_Qv (fun (u : (Nat → Nat) × Nat) => vl 65536 (fun i => u.1 (c0 * 80 + i)) u.2 = a ∧ u.2 ≤ 4 ∧ (u.2 = 0 ∨ u.1 (c0 * 80 + (u.2 - 1)) ≠ 0) ∧ (∀ i, i < 319840 → u.1 i < 65536) ∧ ∀ i, i < c0 * 80 ∨ c0 * 80 + 80 ≤ i → u.1 i = dg i) (Po G k A (fun u => [(h0, .inr (8, moL ma iv co)), ((ma 21), .inl (k 0, 319840, .inl (fun i => nI (u.1 i)))), ((ma 22), .inl (k 0, 3998, .inl (fun i => nI ((va_up sz c0 u.2) i)))), ((ma 23), .inl (k 2, 3998, .inl (fun i => nI ((va_up bl c0 1) i))))])) A) [Value.ref h0, Value.int (nI c0), Value.long (-lN a)].toArray s 0 0 A) (F0 m 17 ls []) := by
    have stop : ∀ t, t ≤ 4 → ∀ U : Nat → Nat, (vl 65536 (fun i => U (c0 * 80 + i)) t + 0 * 65536 ^ t = a ∧ (0 < 0 ∨ t = 0 ∨ U (c0 * 80 + (t - 1)) ≠ 0) ∧ (∀ i, i < 319840 → U i < 65536) ∧ ∀ i, i < c0 * 80 ∨ c0 * 80 + 80 ≤ i → U i = dg i) → ∀ (H : Heap) (locs : List Loc), Sw G A s.heap H locs [(h0, .inr (8, moL ma iv co)), ((ma 21), .inl (k 0, 319840, .inl (fun i => nI (U i)))), ((ma 22), .inl (k 0, 3998, .inl (fun i => nI (sz i)))), ((ma 23), .inl (k 2, 3998, .inl (fun i => nI (bl i))))] → ∀ ls : Array Slot, lv_has ls 7 [(6, .int (nI t)), (4, .long (lN 0)), (0, .ref h0), (1, .int (nI c0)), (2, .long (-lN a))] → W p l e { frames := 0, cells := 0, slots := 0, locals := 0 } s m [Value.ref h0, Value.int (nI c0), Value.long (-lN a)].toArray below meth c H locs 0 0 (MQ below (va_Qv (fun (u : (Nat → Nat) × Nat) => vl 65536 (fun i => u.1 (c0 * 80 + i)) u.2 = a ∧ u.2 ≤ 4 ∧ (u.2 = 0 ∨ u.1 (c0 * 80 + (u.2 - 1)) ≠ 0) ∧ (∀ i, i < 319840 → u.1 i < 65536) ∧ ∀ i, i < c0 * 80 ∨ c0 * 80 + 80 ≤ i → u.1 i = dg i) (Po G k A (fun u => [(h0, .inr (8, moL ma iv co)), ((ma 21), .inl (k 0, 319840, .inl (fun i => nI (u.1 i)))), ((ma 22), .inl (k 0, 3998, .inl (fun i => nI ((va_up sz c0 u.2) i)))), ((ma 23), .inl (k 2, 3998, .inl (fun i => nI ((va_up bl c0 1) i))))])) A) [Value.ref h0, Value.int (nI c0), Value.long (-lN a)].toArray s 0 0 A) (F0 m 17 ls []) := by
      intro t ht U hI H locs S ls hl
      have e0 := hI.1
      rw [Nat.zero_mul, Nat.add_zero] at e0
      refine lv_lload hx hb d_Mo_put_17 (lv_at hl 1 rfl) ?_
      refine lv_lconst (v := 0) hx hb d_Mo_put_19 (by decide) ?_
      refine W.lcmp hx hb d_Mo_put_20 ?_
      refine lv_if_le (tgt := 56) hx hb d_Mo_put_21 (by decide) (fun _ => ?_) (fun hq => absurd ((lg_cmp_le (lN 0) 0).mpr (by decide)) hq)
      refine lv_aload_n hx hb d_Mo_put_56 rfl (lv_at hl 2 rfl) ?_
      refine r_get C K S 0 rfl rfl clOk_Mo 42 (by decide) wf_Mo_86 (v := .ref (ma 22)) rfl d_Mo_put_57 ?_
      refine lv_iload_n hx hb d_Mo_put_60 rfl (lv_at hl 3 rfl) ?_
      refine lv_iload hx hb d_Mo_put_61 (lv_at hl 0 rfl) ?_
      refine r_iast C K S 2 rfl (i := (nI c0)) (x := (nI t)) (vp_in_nI (by omega) (by decide)) (f' := fun i => nI (va_up sz c0 t i)) (ws' := [(h0, .inr (8, moL ma iv co)), ((ma 21), .inl (k 0, 319840, .inl (fun i => nI (U i)))), ((ma 22), .inl (k 0, 3998, .inl (fun i => nI (va_up sz c0 t i)))), ((ma 23), .inl (k 2, 3998, .inl (fun i => nI (bl i))))]) (upd_nI sz (by omega) _) rfl d_Mo_put_63 (fun H locs S => ?_)
      refine lv_aload_n hx hb d_Mo_put_64 rfl (lv_at hl 2 rfl) ?_
      refine r_get C K S 0 rfl rfl clOk_Mo 43 (by decide) wf_Mo_89 (v := .ref (ma 23)) rfl d_Mo_put_65 ?_
      refine lv_iload_n hx hb d_Mo_put_68 rfl (lv_at hl 3 rfl) ?_
      refine lv_lload_n hx hb d_Mo_put_69 rfl (lv_at hl 4 rfl) ?_
      refine lv_lconst (v := 0) hx hb d_Mo_put_70 (by decide) ?_
      refine W.lcmp hx hb d_Mo_put_71 ?_
      refine lv_if_ge (tgt := 79) hx hb d_Mo_put_72 (by decide) (fun hq => absurd hq (fun e9 => lN_neg0 ha hp ((lg_cmp_ge _ _).mp e9))) (fun _ => ?_)
      refine lv_iconst (v := 1) hx hb d_Mo_put_75 (by decide) ?_
      refine lv_goto (tgt := 80) hx hb d_Mo_put_76 (by decide) ?_
      refine r_zast C K S 3 rfl (i := (nI c0)) (x := 1) (vp_in_nI (by omega) (by decide)) (f' := fun i => nI (va_up bl c0 1 i)) (ws' := [(h0, .inr (8, moL ma iv co)), ((ma 21), .inl (k 0, 319840, .inl (fun i => nI (U i)))), ((ma 22), .inl (k 0, 3998, .inl (fun i => nI (va_up sz c0 t i)))), ((ma 23), .inl (k 2, 3998, .inl (fun i => nI (va_up bl c0 1 i))))]) (upd_Z bl (v := 1) (by omega) (by omega)) rfl d_Mo_put_80 (fun H locs S => ?_)
      exact r_vret C K (U, t) ⟨e0, ht, hI.2.1.resolve_left (by omega), hI.2.2.1, hI.2.2.2⟩ (S.sub [0, 1, 2, 3] (by decide) rfl) d_Mo_put_81 (Nat.le_of_ble_eq_true rfl) (Nat.le_of_ble_eq_true rfl)
    intro f
    induction f with
    | zero =>
      intro t r9 ht hr _ U hI H locs S ls hl
      have : r9 = 0 := by rw [Nat.pow_zero] at hr; omega
      subst this
      exact stop t (by omega) U hI H locs S ls hl
    | succ f ih =>
      intro t r9 ht hr hr2 U hI H locs S ls hl
      by_cases z : r9 = 0
      · subst z
        exact stop t (by omega) U hI H locs S ls hl
      have rp : 0 < r9 := by omega
      refine lv_lload hx hb d_Mo_put_17 (lv_at hl 1 rfl) ?_
      refine lv_lconst (v := 0) hx hb d_Mo_put_19 (by decide) ?_
      refine W.lcmp hx hb d_Mo_put_20 ?_
      refine lv_if_le (tgt := 56) hx hb d_Mo_put_21 (by decide) (fun hq => absurd hq (fun e9 => lN_pos hr2 rp ((lg_cmp_le _ _).mp e9))) (fun _ => ?_)
      refine lv_aload_n hx hb d_Mo_put_24 rfl (lv_at hl 2 rfl) ?_
      refine r_get C K S 0 rfl rfl clOk_Mo 41 (by decide) wf_Mo_83 (v := .ref (ma 21)) rfl d_Mo_put_25 ?_
      refine lv_iload_n hx hb d_Mo_put_28 rfl (lv_at hl 3 rfl) ?_
      refine lv_bipush (v := 80) hx hb d_Mo_put_29 (by decide) ?_
      refine lv_imul hx hb d_Mo_put_31 ?_
      rw [show nI c0 * (80 : Int32) = nI (c0 * 80) from pk_mul c0 80]
      refine lv_iload hx hb d_Mo_put_32 (lv_at hl 0 rfl) ?_
      refine lv_iadd hx hb d_Mo_put_34 ?_
      rw [nI_add]
      refine lv_lload hx hb d_Mo_put_35 (lv_at hl 1 rfl) ?_
      refine lv_ldc2 (v := 65535) hx hb C.2.2.2.1 (C.2.2.2.2.1 _ wk_Mo_276) d_Mo_put_37 ?_
      refine lv_land hx hb d_Mo_put_40 ?_
      rw [show lN r9 &&& (65535 : Int64) = lN (r9 % 65536) from g_mask (s := 16) (p := 65536) (by decide) (by decide) (by omega)]
      refine lv_l2i (v := (nI (r9 % 65536))) hx hb d_Mo_put_41 (lN_i _) ?_
      refine r_iast C K S 1 rfl (i := nI (c0 * 80 + t)) (x := (nI (r9 % 65536))) (vp_in_nI (by omega) (by decide)) (f' := fun i => nI (va_up U (c0 * 80 + t) (r9 % 65536) i)) (ws' := [(h0, .inr (8, moL ma iv co)), ((ma 21), .inl (k 0, 319840, .inl (fun i => nI (va_up U (c0 * 80 + t) (r9 % 65536) i)))), ((ma 22), .inl (k 0, 3998, .inl (fun i => nI (sz i)))), ((ma 23), .inl (k 2, 3998, .inl (fun i => nI (bl i))))]) (upd_nI U (by omega) _) rfl d_Mo_put_42 (fun H locs S => ?_)
      refine lv_lload hx hb d_Mo_put_43 (lv_at hl 1 rfl) ?_
      refine lv_bipush (v := 16) hx hb d_Mo_put_45 (by decide) ?_
      refine lv_lshr (v := (lN (r9 / 65536))) hx hb d_Mo_put_47 (shr16 hr2 (by decide)) ?_
      refine lv_lstore (lv' := [(4, .long (lN (r9 / 65536))), (6, .int (nI t)), (0, .ref h0), (1, .int (nI c0)), (2, .long (-lN a))]) hx hb d_Mo_put_48 hl (by decide) rfl (fun ls hl => ?_)
      refine lv_iinc (v := nI (t + 1)) (lv' := [(6, .int (nI (t + 1))), (4, .long (lN (r9 / 65536))), (0, .ref h0), (1, .int (nI c0)), (2, .long (-lN a))]) hx hb d_Mo_put_50 hl (k := 1) rfl (nI_1 t) (by decide) rfl (fun ls hl => ?_)
      refine lv_goto (tgt := 17) hx hb d_Mo_put_53 (by decide) ?_
      refine ih (t + 1) (r9 / 65536) (by omega) ((Nat.div_lt_iff_lt_mul (by decide)).mpr (by rw [← Nat.pow_succ]; exact hr)) (by omega) (va_up U (c0 * 80 + t) (r9 % 65536)) ⟨?_, ?_, ?_, ?_⟩ _ _ S ls (lv_sub hl [0, 1, 2, 3, 4] rfl)
      · rw [vl_s, va_up_self, vl_congr (h := fun i => U (c0 * 80 + i)) t (fun i hi => va_up_ne U _ (by omega)), Nat.pow_succ, ← hI.1]
        have e2 := Nat.mod_add_div r9 65536
        have e3 : (r9 % 65536 + 65536 * (r9 / 65536)) * 65536 ^ t = r9 * 65536 ^ t := by rw [e2]
        rw [Nat.add_mul] at e3
        have e4 : r9 / 65536 * (65536 ^ t * 65536) = 65536 * (r9 / 65536) * 65536 ^ t := by rw [Nat.mul_comm (65536 ^ t), ← Nat.mul_assoc, Nat.mul_comm (r9 / 65536)]
        rw [e4]
        omega
      · by_cases y : 0 < r9 / 65536
        · exact Or.inl y
        · refine Or.inr (Or.inr ?_)
          rw [Nat.add_sub_cancel, va_up_self]
          omega
      · intro i hi
        by_cases w : i = c0 * 80 + t
        · rw [w, va_up_self]; exact Nat.mod_lt _ (by decide)
        · rw [va_up_ne U _ w]; exact hI.2.2.1 i hi
      · intro i hi
        rw [va_up_ne U _ (by omega)]
        exact hI.2.2.2 i hi
  refine lv_lload_n hx hb d_Mo_put_0 rfl (lv_at hl 2 rfl) ?_
  refine lv_lconst (v := 0) hx hb d_Mo_put_1 (by decide) ?_
  refine W.lcmp hx hb d_Mo_put_2 ?_
  refine lv_if_ge (tgt := 11) hx hb d_Mo_put_3 (by decide) (fun hq => absurd hq (fun e9 => lN_neg0 ha hp ((lg_cmp_ge _ _).mp e9))) (fun _ => ?_)
  refine lv_lload_n hx hb d_Mo_put_6 rfl (lv_at hl 2 rfl) ?_
  refine lv_lneg hx hb d_Mo_put_7 ?_
  rw [Int64.neg_neg]
  refine lv_goto (tgt := 12) hx hb d_Mo_put_8 (by decide) ?_
  refine lv_lstore (lv' := [(4, .long (lN a)), (0, .ref h0), (1, .int (nI c0)), (2, .long (-lN a))]) hx hb d_Mo_put_12 hl (by decide) rfl (fun ls hl => ?_)
  refine lv_iconst (v := 0) hx hb d_Mo_put_14 (by decide) ?_
  refine lv_istore (lv' := [(6, .int 0), (4, .long (lN a)), (0, .ref h0), (1, .int (nI c0)), (2, .long (-lN a))]) hx hb d_Mo_put_15 hl (by decide) rfl (fun ls hl => ?_)
  exact loop 4 0 a (by omega) (by omega) ha dg ⟨by simp [vl], by omega, hdg, fun _ _ => rfl⟩ _ _ S ls (lv_sub hl [0, 1, 2, 3, 4] rfl)
