theorem d_Ru_slot_0 : decode c_Ru_slot 0 = .ok (.aload_n 0, 1) := by decide +kernel
theorem d_Ru_slot_1 : decode c_Ru_slot 1 = .ok (.getfield 32, 3) := by decide +kernel
theorem d_Ru_slot_4 : decode c_Ru_slot 4 = .ok (.iconst 1, 1) := by decide +kernel
theorem d_Ru_slot_5 : decode c_Ru_slot 5 = .ok (.isub, 1) := by decide +kernel
theorem d_Ru_slot_6 : decode c_Ru_slot 6 = .ok (.bipush 18, 2) := by decide +kernel
theorem d_Ru_slot_8 : decode c_Ru_slot 8 = .ok (.imul, 1) := by decide +kernel
theorem d_Ru_slot_9 : decode c_Ru_slot 9 = .ok (.iload_n 1, 1) := by decide +kernel
theorem d_Ru_slot_10 : decode c_Ru_slot 10 = .ok (.iadd, 1) := by decide +kernel
theorem d_Ru_slot_11 : decode c_Ru_slot 11 = .ok (.ireturn, 1) := by decide +kernel
set_option maxRecDepth 100000 in
set_option maxHeartbeats 16000000 in
/-- slot -/
theorem g_Ru_slot (l : Launch) (G : va_G) (k : Nat → ClassId) (h0 : Nat) (s0 : Nat) (v9 : Nat) (ru0 : Nat) (ru1 : Nat) (ru2 : Nat) (ru3 : Nat) (ru4 : Nat) (c9 : Nat) (w9 : Nat) (x9 : Nat) (ln9 : Int32) (sp9 : Nat) (cs9 : Nat) (gv9 : Int32) (hc : 1 ≤ c9) : CI l y_Ru_slot c_Ru_slot 2 .int { frames := 0, cells := 0, slots := 0, locals := 0 } [.ref h0, .int (nI v9)] G k s0 [(h0, .inr (6, [.ref ru0, .ref ru1, .ref ru2, .ref ru3, .ref ru4, .int (nI c9), .int (nI w9), .int (nI x9), .int ln9, .int (nI sp9), .long (lN cs9), .int gv9]))] (fun (r : Int32) (u : Unit) => r = nI (18 * (c9 - 1) + v9) ∧ True) (fun u => [(h0, .inr (6, [.ref ru0, .ref ru1, .ref ru2, .ref ru3, .ref ru4, .int (nI c9), .int (nI w9), .int (nI x9), .int ln9, .int (nI sp9), .long (lN cs9), .int gv9]))]) 0 0 := by
  refine met_start (by decide) (Nat.le_of_ble_eq_true rfl) ?_
  intro p e s m below meth c C K hA hsz S ls hl
  generalize va_A [(h0, .inr (6, [.ref ru0, .ref ru1, .ref ru2, .ref ru3, .ref ru4, .int (nI c9), .int (nI w9), .int (nI x9), .int ln9, .int (nI sp9), .long (lN cs9), .int gv9]))] s0 = A at hA S ⊢
  have hx := C.1
  have hb := C.2.1
  have hl : lv_has ls 2 [(0, .ref h0), (1, .int (nI v9))] := hl
  refine lv_aload_n hx hb d_Ru_slot_0 rfl (lv_at hl 0 rfl) ?_
  refine r_get C K S 0 rfl rfl clOk_Ru 5 (by decide) wf_Ru_32 (v := .int (nI c9)) rfl d_Ru_slot_1 ?_
  refine lv_iconst (v := 1) hx hb d_Ru_slot_4 (by decide) ?_
  refine z_isub (x := nI c9) (y := 1) (v := nI (c9 - 1)) hx hb d_Ru_slot_5 (pk_sub (a := c9) (b := 1) (by omega)) ?_
  refine lv_bipush (v := 18) hx hb d_Ru_slot_6 (by decide) ?_
  refine z_imul (x := nI (c9 - 1)) (y := 18) (v := nI ((c9 - 1) * 18)) hx hb d_Ru_slot_8 (pk_mul (c9 - 1) 18) ?_
  refine lv_iload_n hx hb d_Ru_slot_9 rfl (lv_at hl 1 rfl) ?_
  refine z_iadd (x := nI ((c9 - 1) * 18)) (y := nI v9) (v := nI (((c9 - 1) * 18) + v9)) hx hb d_Ru_slot_10 (nI_add ((c9 - 1) * 18) v9) ?_
  exact r_iret C K rfl () ⟨congrArg nI (by rw [Nat.mul_comm]), trivial⟩ (S.sub [0] (by decide) rfl) d_Ru_slot_11 (Nat.le_of_ble_eq_true rfl) (Nat.le_of_ble_eq_true rfl)
theorem d_Ru_open_0 : decode c_Ru_open 0 = .ok (.aload_n 0, 1) := by decide +kernel
theorem d_Ru_open_1 : decode c_Ru_open 1 = .ok (.getfield 9, 3) := by decide +kernel
theorem d_Ru_open_4 : decode c_Ru_open 4 = .ok (.aload_n 0, 1) := by decide +kernel
theorem d_Ru_open_5 : decode c_Ru_open 5 = .ok (.getfield 32, 3) := by decide +kernel
theorem d_Ru_open_8 : decode c_Ru_open 8 = .ok (.iload_n 1, 1) := by decide +kernel
theorem d_Ru_open_9 : decode c_Ru_open 9 = .ok (.iastore, 1) := by decide +kernel
theorem d_Ru_open_10 : decode c_Ru_open 10 = .ok (.aload_n 0, 1) := by decide +kernel
theorem d_Ru_open_11 : decode c_Ru_open 11 = .ok (.getfield 21, 3) := by decide +kernel
theorem d_Ru_open_14 : decode c_Ru_open 14 = .ok (.aload_n 0, 1) := by decide +kernel
theorem d_Ru_open_15 : decode c_Ru_open 15 = .ok (.getfield 32, 3) := by decide +kernel
theorem d_Ru_open_18 : decode c_Ru_open 18 = .ok (.aload_n 0, 1) := by decide +kernel
theorem d_Ru_open_19 : decode c_Ru_open 19 = .ok (.getfield 35, 3) := by decide +kernel
theorem d_Ru_open_22 : decode c_Ru_open 22 = .ok (.iastore, 1) := by decide +kernel
theorem d_Ru_open_23 : decode c_Ru_open 23 = .ok (.aload_n 0, 1) := by decide +kernel
theorem d_Ru_open_24 : decode c_Ru_open 24 = .ok (.dup, 1) := by decide +kernel
theorem d_Ru_open_25 : decode c_Ru_open 25 = .ok (.getfield 32, 3) := by decide +kernel
theorem d_Ru_open_28 : decode c_Ru_open 28 = .ok (.iconst 1, 1) := by decide +kernel
theorem d_Ru_open_29 : decode c_Ru_open 29 = .ok (.iadd, 1) := by decide +kernel
theorem d_Ru_open_30 : decode c_Ru_open 30 = .ok (.putfield 32, 3) := by decide +kernel
theorem d_Ru_open_33 : decode c_Ru_open 33 = .ok (.aload_n 0, 1) := by decide +kernel
theorem d_Ru_open_34 : decode c_Ru_open 34 = .ok (.iconst 0, 1) := by decide +kernel
theorem d_Ru_open_35 : decode c_Ru_open 35 = .ok (.putfield 59, 3) := by decide +kernel
theorem d_Ru_open_38 : decode c_Ru_open 38 = .ok (.return_, 1) := by decide +kernel
set_option maxRecDepth 100000 in
set_option maxHeartbeats 16000000 in
/-- open -/
theorem g_Ru_open (l : Launch) (G : va_G) (k : Nat → ClassId) (h0 : Nat) (s0 : Nat) (f9 : Nat) (ru0 : Nat) (ru1 : Nat) (ru2 : Nat) (ru3 : Nat) (ru4 : Nat) (c9 : Nat) (w9 : Nat) (x9 : Nat) (ln9 : Int32) (sp9 : Nat) (cs9 : Nat) (gv9 : Int32) (CA : Nat → Nat) (WB : Nat → Nat) (hc : c9 < 60) : CV l y_Ru_open c_Ru_open 2 { frames := 0, cells := 0, slots := 0, locals := 0 } [.ref h0, .int (nI f9)] G k s0 [(h0, .inr (6, [.ref ru0, .ref ru1, .ref ru2, .ref ru3, .ref ru4, .int (nI c9), .int (nI w9), .int (nI x9), .int ln9, .int (nI sp9), .long (lN cs9), .int gv9])), (ru1, .inl (k 0, 60, .inl (fun i => nI (CA i)))), (ru4, .inl (k 0, 60, .inl (fun i => nI (WB i))))] (fun (u : Unit) => True) (fun u => [(h0, .inr (6, [.ref ru0, .ref ru1, .ref ru2, .ref ru3, .ref ru4, .int (nI (c9 + 1)), .int (nI w9), .int 0, .int ln9, .int (nI sp9), .long (lN cs9), .int gv9])), (ru1, .inl (k 0, 60, .inl (fun i => nI ((va_up CA c9 f9) i)))), (ru4, .inl (k 0, 60, .inl (fun i => nI ((va_up WB c9 w9) i))))]) 0 0 := by
  refine met_start (by decide) (Nat.le_of_ble_eq_true rfl) ?_
  intro p e s m below meth c C K hA hsz S ls hl
  generalize va_A [(h0, .inr (6, [.ref ru0, .ref ru1, .ref ru2, .ref ru3, .ref ru4, .int (nI c9), .int (nI w9), .int (nI x9), .int ln9, .int (nI sp9), .long (lN cs9), .int gv9])), (ru1, .inl (k 0, 60, .inl (fun i => nI (CA i)))), (ru4, .inl (k 0, 60, .inl (fun i => nI (WB i))))] s0 = A at hA S ⊢
  have hx := C.1
  have hb := C.2.1
  have hl : lv_has ls 2 [(0, .ref h0), (1, .int (nI f9))] := hl
  refine lv_aload_n hx hb d_Ru_open_0 rfl (lv_at hl 0 rfl) ?_
  refine r_get C K S 0 rfl rfl clOk_Ru 1 (by decide) wf_Ru_9 (v := .ref ru1) rfl d_Ru_open_1 ?_
  refine lv_aload_n hx hb d_Ru_open_4 rfl (lv_at hl 0 rfl) ?_
  refine r_get C K S 0 rfl rfl clOk_Ru 5 (by decide) wf_Ru_32 (v := .int (nI c9)) rfl d_Ru_open_5 ?_
  refine lv_iload_n hx hb d_Ru_open_8 rfl (lv_at hl 1 rfl) ?_
  refine r_iast C K S 1 rfl (i := nI c9) (x := nI f9) (show vp_in (nI c9) _ from vp_in_nI (n := c9) (by omega) (by decide)) (f' := fun i => nI (va_up CA c9 f9 i)) (ws' := [(h0, .inr (6, [.ref ru0, .ref ru1, .ref ru2, .ref ru3, .ref ru4, .int (nI c9), .int (nI w9), .int (nI x9), .int ln9, .int (nI sp9), .long (lN cs9), .int gv9])), (ru1, .inl (k 0, 60, .inl (fun i => nI (va_up CA c9 f9 i)))), (ru4, .inl (k 0, 60, .inl (fun i => nI (WB i))))]) (show upd _ (nI c9 : Int32).toNatClampNeg (nI f9) = _ from upd_nI CA (j := c9) (by omega) f9) rfl d_Ru_open_9 (fun H locs S => ?_)
  refine lv_aload_n hx hb d_Ru_open_10 rfl (lv_at hl 0 rfl) ?_
  refine r_get C K S 0 rfl rfl clOk_Ru 4 (by decide) wf_Ru_21 (v := .ref ru4) rfl d_Ru_open_11 ?_
  refine lv_aload_n hx hb d_Ru_open_14 rfl (lv_at hl 0 rfl) ?_
  refine r_get C K S 0 rfl rfl clOk_Ru 5 (by decide) wf_Ru_32 (v := .int (nI c9)) rfl d_Ru_open_15 ?_
  refine lv_aload_n hx hb d_Ru_open_18 rfl (lv_at hl 0 rfl) ?_
  refine r_get C K S 0 rfl rfl clOk_Ru 6 (by decide) wf_Ru_35 (v := .int (nI w9)) rfl d_Ru_open_19 ?_
  refine r_iast C K S 2 rfl (i := nI c9) (x := nI w9) (show vp_in (nI c9) _ from vp_in_nI (n := c9) (by omega) (by decide)) (f' := fun i => nI (va_up WB c9 w9 i)) (ws' := [(h0, .inr (6, [.ref ru0, .ref ru1, .ref ru2, .ref ru3, .ref ru4, .int (nI c9), .int (nI w9), .int (nI x9), .int ln9, .int (nI sp9), .long (lN cs9), .int gv9])), (ru1, .inl (k 0, 60, .inl (fun i => nI (va_up CA c9 f9 i)))), (ru4, .inl (k 0, 60, .inl (fun i => nI (va_up WB c9 w9 i))))]) (show upd _ (nI c9 : Int32).toNatClampNeg (nI w9) = _ from upd_nI WB (j := c9) (by omega) w9) rfl d_Ru_open_22 (fun H locs S => ?_)
  refine lv_aload_n hx hb d_Ru_open_23 rfl (lv_at hl 0 rfl) ?_
  refine lv_dup hx hb d_Ru_open_24 rfl ?_
  refine r_get C K S 0 rfl rfl clOk_Ru 5 (by decide) wf_Ru_32 (v := .int (nI c9)) rfl d_Ru_open_25 ?_
  refine lv_iconst (v := 1) hx hb d_Ru_open_28 (by decide) ?_
  refine z_iadd (x := nI c9) (y := 1) (v := nI (c9 + 1)) hx hb d_Ru_open_29 (nI_add c9 1) ?_
  refine r_put C K S 0 rfl rfl clOk_Ru 5 (by decide) wf_Ru_32 rfl (ty := .int) (v := .int (nI (c9 + 1))) (by decide +kernel) rfl rfl (Nat.le_of_ble_eq_true rfl) (fs' := [.ref ru0, .ref ru1, .ref ru2, .ref ru3, .ref ru4, .int (nI (c9 + 1)), .int (nI w9), .int (nI x9), .int ln9, .int (nI sp9), .long (lN cs9), .int gv9]) (ws' := [(h0, .inr (6, [.ref ru0, .ref ru1, .ref ru2, .ref ru3, .ref ru4, .int (nI (c9 + 1)), .int (nI w9), .int (nI x9), .int ln9, .int (nI sp9), .long (lN cs9), .int gv9])), (ru1, .inl (k 0, 60, .inl (fun i => nI (va_up CA c9 f9 i)))), (ru4, .inl (k 0, 60, .inl (fun i => nI (va_up WB c9 w9 i))))]) rfl rfl d_Ru_open_30 (fun H locs S => ?_)
  refine lv_aload_n hx hb d_Ru_open_33 rfl (lv_at hl 0 rfl) ?_
  refine lv_iconst (v := 0) hx hb d_Ru_open_34 (by decide) ?_
  refine r_put C K S 0 rfl rfl clOk_Ru 7 (by decide) wf_Ru_59 rfl (ty := .int) (v := .int 0) (by decide +kernel) rfl rfl (Nat.le_of_ble_eq_true rfl) (fs' := [.ref ru0, .ref ru1, .ref ru2, .ref ru3, .ref ru4, .int (nI (c9 + 1)), .int (nI w9), .int 0, .int ln9, .int (nI sp9), .long (lN cs9), .int gv9]) (ws' := [(h0, .inr (6, [.ref ru0, .ref ru1, .ref ru2, .ref ru3, .ref ru4, .int (nI (c9 + 1)), .int (nI w9), .int 0, .int ln9, .int (nI sp9), .long (lN cs9), .int gv9])), (ru1, .inl (k 0, 60, .inl (fun i => nI (va_up CA c9 f9 i)))), (ru4, .inl (k 0, 60, .inl (fun i => nI (va_up WB c9 w9 i))))]) rfl rfl d_Ru_open_35 (fun H locs S => ?_)
  exact r_vret C K () trivial (S.sub [0, 1, 2] (by decide) rfl) d_Ru_open_38 (Nat.le_of_ble_eq_true rfl) (Nat.le_of_ble_eq_true rfl)
theorem d_Ru_start_0 : decode c_Ru_start 0 = .ok (.aload_n 0, 1) := by decide +kernel
theorem d_Ru_start_1 : decode c_Ru_start 1 = .ok (.iconst 0, 1) := by decide +kernel
theorem d_Ru_start_2 : decode c_Ru_start 2 = .ok (.putfield 32, 3) := by decide +kernel
theorem d_Ru_start_5 : decode c_Ru_start 5 = .ok (.aload_n 0, 1) := by decide +kernel
theorem d_Ru_start_6 : decode c_Ru_start 6 = .ok (.iconst 0, 1) := by decide +kernel
theorem d_Ru_start_7 : decode c_Ru_start 7 = .ok (.putfield 35, 3) := by decide +kernel
theorem d_Ru_start_10 : decode c_Ru_start 10 = .ok (.aload_n 0, 1) := by decide +kernel
theorem d_Ru_start_11 : decode c_Ru_start 11 = .ok (.iconst 0, 1) := by decide +kernel
theorem d_Ru_start_12 : decode c_Ru_start 12 = .ok (.putfield 38, 3) := by decide +kernel
theorem d_Ru_start_15 : decode c_Ru_start 15 = .ok (.aload_n 0, 1) := by decide +kernel
theorem d_Ru_start_16 : decode c_Ru_start 16 = .ok (.lconst 0, 1) := by decide +kernel
theorem d_Ru_start_17 : decode c_Ru_start 17 = .ok (.putfield 41, 3) := by decide +kernel
theorem d_Ru_start_20 : decode c_Ru_start 20 = .ok (.aload_n 0, 1) := by decide +kernel
theorem d_Ru_start_21 : decode c_Ru_start 21 = .ok (.bipush (-2), 2) := by decide +kernel
theorem d_Ru_start_23 : decode c_Ru_start 23 = .ok (.putfield 24, 3) := by decide +kernel
theorem d_Ru_start_26 : decode c_Ru_start 26 = .ok (.aload_n 0, 1) := by decide +kernel
theorem d_Ru_start_27 : decode c_Ru_start 27 = .ok (.iload_n 1, 1) := by decide +kernel
theorem d_Ru_start_28 : decode c_Ru_start 28 = .ok (.invokevirtual 45, 3) := by decide +kernel
theorem d_Ru_start_31 : decode c_Ru_start 31 = .ok (.aload_n 0, 1) := by decide +kernel
theorem d_Ru_start_32 : decode c_Ru_start 32 = .ok (.getfield 15, 3) := by decide +kernel
theorem d_Ru_start_35 : decode c_Ru_start 35 = .ok (.iconst 0, 1) := by decide +kernel
theorem d_Ru_start_36 : decode c_Ru_start 36 = .ok (.iload_n 2, 1) := by decide +kernel
theorem d_Ru_start_37 : decode c_Ru_start 37 = .ok (.iastore, 1) := by decide +kernel
theorem d_Ru_start_38 : decode c_Ru_start 38 = .ok (.aload_n 0, 1) := by decide +kernel
theorem d_Ru_start_39 : decode c_Ru_start 39 = .ok (.getfield 15, 3) := by decide +kernel
theorem d_Ru_start_42 : decode c_Ru_start 42 = .ok (.iconst 1, 1) := by decide +kernel
theorem d_Ru_start_43 : decode c_Ru_start 43 = .ok (.iload_n 3, 1) := by decide +kernel
theorem d_Ru_start_44 : decode c_Ru_start 44 = .ok (.iastore, 1) := by decide +kernel
theorem d_Ru_start_45 : decode c_Ru_start 45 = .ok (.aload_n 0, 1) := by decide +kernel
theorem d_Ru_start_46 : decode c_Ru_start 46 = .ok (.getfield 15, 3) := by decide +kernel
theorem d_Ru_start_49 : decode c_Ru_start 49 = .ok (.iconst 2, 1) := by decide +kernel
theorem d_Ru_start_50 : decode c_Ru_start 50 = .ok (.iload 4, 2) := by decide +kernel
theorem d_Ru_start_52 : decode c_Ru_start 52 = .ok (.iastore, 1) := by decide +kernel
theorem d_Ru_start_53 : decode c_Ru_start 53 = .ok (.return_, 1) := by decide +kernel
set_option maxRecDepth 100000 in
set_option maxHeartbeats 16000000 in
/-- start -/
theorem g_Ru_start (l : Launch) (G : va_G) (k : Nat → ClassId) (h0 : Nat) (s0 : Nat) (f9 : Nat) (a9 : Nat) (b9 : Nat) (e9 : Nat) (cz9 : Int64) (ru0 : Nat) (ru1 : Nat) (ru2 : Nat) (ru3 : Nat) (ru4 : Nat) (c9 : Nat) (w9 : Nat) (x9 : Nat) (ln9 : Int32) (sp9 : Nat) (gv9 : Int32) (CA : Nat → Nat) (WB : Nat → Nat) (LN : Nat → Nat) : CV l y_Ru_start c_Ru_start 5 { frames := 1, cells := 0, slots := 0, locals := 21 } [.ref h0, .int (nI f9), .int (nI a9), .int (nI b9), .int (nI e9)] G k s0 [(h0, .inr (6, [.ref ru0, .ref ru1, .ref ru2, .ref ru3, .ref ru4, .int (nI c9), .int (nI w9), .int (nI x9), .int ln9, .int (nI sp9), .long cz9, .int gv9])), (ru1, .inl (k 0, 60, .inl (fun i => nI (CA i)))), (ru4, .inl (k 0, 60, .inl (fun i => nI (WB i)))), (ru2, .inl (k 0, 1080, .inl (fun i => nI (LN i))))] (fun (u : Unit) => True) (fun u => [(h0, .inr (6, [.ref ru0, .ref ru1, .ref ru2, .ref ru3, .ref ru4, .int 1, .int 0, .int 0, .int ln9, .int 0, .long (lN 0), .int (-2)])), (ru1, .inl (k 0, 60, .inl (fun i => nI ((va_up CA 0 f9) i)))), (ru4, .inl (k 0, 60, .inl (fun i => nI ((va_up WB 0 0) i)))), (ru2, .inl (k 0, 1080, .inl (fun i => nI ((va_up (va_up (va_up LN 0 a9) 1 b9) 2 e9) i))))]) 0 0 := by
  refine met_start (by decide) (Nat.le_of_ble_eq_true rfl) ?_
  intro p e s m below meth c C K hA hsz S ls hl
  generalize va_A [(h0, .inr (6, [.ref ru0, .ref ru1, .ref ru2, .ref ru3, .ref ru4, .int (nI c9), .int (nI w9), .int (nI x9), .int ln9, .int (nI sp9), .long cz9, .int gv9])), (ru1, .inl (k 0, 60, .inl (fun i => nI (CA i)))), (ru4, .inl (k 0, 60, .inl (fun i => nI (WB i)))), (ru2, .inl (k 0, 1080, .inl (fun i => nI (LN i))))] s0 = A at hA S ⊢
  have hx := C.1
  have hb := C.2.1
  have hl : lv_has ls 5 [(0, .ref h0), (1, .int (nI f9)), (2, .int (nI a9)), (3, .int (nI b9)), (4, .int (nI e9))] := hl
  refine lv_aload_n hx hb d_Ru_start_0 rfl (lv_at hl 0 rfl) ?_
  refine lv_iconst (v := 0) hx hb d_Ru_start_1 (by decide) ?_
  refine r_put C K S 0 rfl rfl clOk_Ru 5 (by decide) wf_Ru_32 rfl (ty := .int) (v := .int 0) (by decide +kernel) rfl rfl (Nat.le_of_ble_eq_true rfl) (fs' := [.ref ru0, .ref ru1, .ref ru2, .ref ru3, .ref ru4, .int 0, .int (nI w9), .int (nI x9), .int ln9, .int (nI sp9), .long cz9, .int gv9]) (ws' := [(h0, .inr (6, [.ref ru0, .ref ru1, .ref ru2, .ref ru3, .ref ru4, .int 0, .int (nI w9), .int (nI x9), .int ln9, .int (nI sp9), .long cz9, .int gv9])), (ru1, .inl (k 0, 60, .inl (fun i => nI (CA i)))), (ru4, .inl (k 0, 60, .inl (fun i => nI (WB i)))), (ru2, .inl (k 0, 1080, .inl (fun i => nI (LN i))))]) rfl rfl d_Ru_start_2 (fun H locs S => ?_)
  refine lv_aload_n hx hb d_Ru_start_5 rfl (lv_at hl 0 rfl) ?_
  refine lv_iconst (v := 0) hx hb d_Ru_start_6 (by decide) ?_
  refine r_put C K S 0 rfl rfl clOk_Ru 6 (by decide) wf_Ru_35 rfl (ty := .int) (v := .int 0) (by decide +kernel) rfl rfl (Nat.le_of_ble_eq_true rfl) (fs' := [.ref ru0, .ref ru1, .ref ru2, .ref ru3, .ref ru4, .int 0, .int 0, .int (nI x9), .int ln9, .int (nI sp9), .long cz9, .int gv9]) (ws' := [(h0, .inr (6, [.ref ru0, .ref ru1, .ref ru2, .ref ru3, .ref ru4, .int 0, .int 0, .int (nI x9), .int ln9, .int (nI sp9), .long cz9, .int gv9])), (ru1, .inl (k 0, 60, .inl (fun i => nI (CA i)))), (ru4, .inl (k 0, 60, .inl (fun i => nI (WB i)))), (ru2, .inl (k 0, 1080, .inl (fun i => nI (LN i))))]) rfl rfl d_Ru_start_7 (fun H locs S => ?_)
  refine lv_aload_n hx hb d_Ru_start_10 rfl (lv_at hl 0 rfl) ?_
  refine lv_iconst (v := 0) hx hb d_Ru_start_11 (by decide) ?_
  refine r_put C K S 0 rfl rfl clOk_Ru 9 (by decide) wf_Ru_38 rfl (ty := .int) (v := .int 0) (by decide +kernel) rfl rfl (Nat.le_of_ble_eq_true rfl) (fs' := [.ref ru0, .ref ru1, .ref ru2, .ref ru3, .ref ru4, .int 0, .int 0, .int (nI x9), .int ln9, .int 0, .long cz9, .int gv9]) (ws' := [(h0, .inr (6, [.ref ru0, .ref ru1, .ref ru2, .ref ru3, .ref ru4, .int 0, .int 0, .int (nI x9), .int ln9, .int 0, .long cz9, .int gv9])), (ru1, .inl (k 0, 60, .inl (fun i => nI (CA i)))), (ru4, .inl (k 0, 60, .inl (fun i => nI (WB i)))), (ru2, .inl (k 0, 1080, .inl (fun i => nI (LN i))))]) rfl rfl d_Ru_start_12 (fun H locs S => ?_)
  refine lv_aload_n hx hb d_Ru_start_15 rfl (lv_at hl 0 rfl) ?_
  refine lv_lconst (v := 0) hx hb d_Ru_start_16 (by decide) ?_
  refine r_put C K S 0 rfl rfl clOk_Ru 10 (by decide) wf_Ru_41 rfl (ty := .long) (v := .long 0) (by decide +kernel) rfl rfl (Nat.le_of_ble_eq_true rfl) (fs' := [.ref ru0, .ref ru1, .ref ru2, .ref ru3, .ref ru4, .int 0, .int 0, .int (nI x9), .int ln9, .int 0, .long 0, .int gv9]) (ws' := [(h0, .inr (6, [.ref ru0, .ref ru1, .ref ru2, .ref ru3, .ref ru4, .int 0, .int 0, .int (nI x9), .int ln9, .int 0, .long 0, .int gv9])), (ru1, .inl (k 0, 60, .inl (fun i => nI (CA i)))), (ru4, .inl (k 0, 60, .inl (fun i => nI (WB i)))), (ru2, .inl (k 0, 1080, .inl (fun i => nI (LN i))))]) rfl rfl d_Ru_start_17 (fun H locs S => ?_)
  refine lv_aload_n hx hb d_Ru_start_20 rfl (lv_at hl 0 rfl) ?_
  refine lv_bipush (v := (-2)) hx hb d_Ru_start_21 (by decide) ?_
  refine r_put C K S 0 rfl rfl clOk_Ru 11 (by decide) wf_Ru_24 rfl (ty := .int) (v := .int (-2)) (by decide +kernel) rfl rfl (Nat.le_of_ble_eq_true rfl) (fs' := [.ref ru0, .ref ru1, .ref ru2, .ref ru3, .ref ru4, .int 0, .int 0, .int (nI x9), .int ln9, .int 0, .long 0, .int (-2)]) (ws' := [(h0, .inr (6, [.ref ru0, .ref ru1, .ref ru2, .ref ru3, .ref ru4, .int 0, .int 0, .int (nI x9), .int ln9, .int 0, .long 0, .int (-2)])), (ru1, .inl (k 0, 60, .inl (fun i => nI (CA i)))), (ru4, .inl (k 0, 60, .inl (fun i => nI (WB i)))), (ru2, .inl (k 0, 1080, .inl (fun i => nI (LN i))))]) rfl rfl d_Ru_start_23 (fun H locs S => ?_)
  refine lv_aload_n hx hb d_Ru_start_26 rfl (lv_at hl 0 rfl) ?_
  refine lv_iload_n hx hb d_Ru_start_27 rfl (lv_at hl 1 rfl) ?_
  refine r_backv (wi := [(h0, .inr (6, [.ref ru0, .ref ru1, .ref ru2, .ref ru3, .ref ru4, .int 0, .int 0, .int (nI x9), .int ln9, .int 0, .long 0, .int (-2)])), (ru1, .inl (k 0, 60, .inl (fun i => nI (CA i)))), (ru4, .inl (k 0, 60, .inl (fun i => nI (WB i))))]) (wr := [(ru2, .inl (k 0, 1080, .inl (fun i => nI (LN i))))]) S hA [0, 1, 2] [3] rfl rfl (by decide) (by decide) (va_runV (As := [.int (nI f9)]) (rest := []) ⟨hx, hb, C.2.2.1, C.2.2.2.1, C.2.2.2.2.1⟩ (g_Ru_open l G k h0 _ f9 ru0 ru1 ru2 ru3 ru4 0 0 x9 ln9 0 0 (-2) CA WB (by decide)) (k_virt (n := 1) C wc_Ru_open rfl rfl wz_Ru wm_Ru_45 wn_Ru_open ws_Ru_open (by decide +kernel) ⟨(Nat.le_of_ble_eq_true rfl), (Nat.le_of_ble_eq_true rfl)⟩) (pr_nowV K S [0, 1, 2] (by decide) rfl 0 rfl rfl) rfl rfl hl.1 rfl (lv_room (Nat.le_of_ble_eq_true rfl)) d_Ru_start_28 ⟨(Nat.le_of_ble_eq_true rfl), (Nat.le_of_ble_eq_true rfl)⟩) (fun u1 H locs hw2 S => ?_)
  have S : Sw G A s.heap _ _ [(ru2, .inl (k 0, 1080, .inl (fun i => nI (LN i)))), (h0, .inr (6, [.ref ru0, .ref ru1, .ref ru2, .ref ru3, .ref ru4, .int (nI (0 + 1)), .int (nI 0), .int 0, .int ln9, .int (nI 0), .long (lN 0), .int (-2)])), (ru1, .inl (k 0, 60, .inl (fun i => nI ((va_up CA 0 f9) i)))), (ru4, .inl (k 0, 60, .inl (fun i => nI ((va_up WB 0 0) i))))] := S
  refine lv_aload_n hx hb d_Ru_start_31 rfl (lv_at hl 0 rfl) ?_
  refine r_get C K S 1 rfl rfl clOk_Ru 2 (by decide) wf_Ru_15 (v := .ref ru2) rfl d_Ru_start_32 ?_
  refine lv_iconst (v := 0) hx hb d_Ru_start_35 (by decide) ?_
  refine lv_iload_n hx hb d_Ru_start_36 rfl (lv_at hl 2 rfl) ?_
  refine r_iast C K S 0 rfl (i := 0) (x := nI a9) (by unfold vp_in; decide) (f' := fun i => nI (va_up LN 0 a9 i)) (ws' := [(ru2, .inl (k 0, 1080, .inl (fun i => nI (va_up LN 0 a9 i)))), (h0, .inr (6, [.ref ru0, .ref ru1, .ref ru2, .ref ru3, .ref ru4, .int (nI (0 + 1)), .int (nI 0), .int 0, .int ln9, .int (nI 0), .long (lN 0), .int (-2)])), (ru1, .inl (k 0, 60, .inl (fun i => nI ((va_up CA 0 f9) i)))), (ru4, .inl (k 0, 60, .inl (fun i => nI ((va_up WB 0 0) i))))]) (show upd _ (0 : Int32).toNatClampNeg (nI a9) = _ from upd_nI LN (j := 0) (by omega) a9) rfl d_Ru_start_37 (fun H locs S => ?_)
  refine lv_aload_n hx hb d_Ru_start_38 rfl (lv_at hl 0 rfl) ?_
  refine r_get C K S 1 rfl rfl clOk_Ru 2 (by decide) wf_Ru_15 (v := .ref ru2) rfl d_Ru_start_39 ?_
  refine lv_iconst (v := 1) hx hb d_Ru_start_42 (by decide) ?_
  refine lv_iload_n hx hb d_Ru_start_43 rfl (lv_at hl 3 rfl) ?_
  refine r_iast C K S 0 rfl (i := 1) (x := nI b9) (by unfold vp_in; decide) (f' := fun i => nI (va_up (va_up LN 0 a9) 1 b9 i)) (ws' := [(ru2, .inl (k 0, 1080, .inl (fun i => nI (va_up (va_up LN 0 a9) 1 b9 i)))), (h0, .inr (6, [.ref ru0, .ref ru1, .ref ru2, .ref ru3, .ref ru4, .int (nI (0 + 1)), .int (nI 0), .int 0, .int ln9, .int (nI 0), .long (lN 0), .int (-2)])), (ru1, .inl (k 0, 60, .inl (fun i => nI ((va_up CA 0 f9) i)))), (ru4, .inl (k 0, 60, .inl (fun i => nI ((va_up WB 0 0) i))))]) (show upd _ (1 : Int32).toNatClampNeg (nI b9) = _ from upd_nI (va_up LN 0 a9) (j := 1) (by omega) b9) rfl d_Ru_start_44 (fun H locs S => ?_)
  refine lv_aload_n hx hb d_Ru_start_45 rfl (lv_at hl 0 rfl) ?_
  refine r_get C K S 1 rfl rfl clOk_Ru 2 (by decide) wf_Ru_15 (v := .ref ru2) rfl d_Ru_start_46 ?_
  refine lv_iconst (v := 2) hx hb d_Ru_start_49 (by decide) ?_
  refine lv_iload hx hb d_Ru_start_50 (lv_at hl 4 rfl) ?_
  refine r_iast C K S 0 rfl (i := 2) (x := nI e9) (by unfold vp_in; decide) (f' := fun i => nI (va_up (va_up (va_up LN 0 a9) 1 b9) 2 e9 i)) (ws' := [(ru2, .inl (k 0, 1080, .inl (fun i => nI (va_up (va_up (va_up LN 0 a9) 1 b9) 2 e9 i)))), (h0, .inr (6, [.ref ru0, .ref ru1, .ref ru2, .ref ru3, .ref ru4, .int (nI (0 + 1)), .int (nI 0), .int 0, .int ln9, .int (nI 0), .long (lN 0), .int (-2)])), (ru1, .inl (k 0, 60, .inl (fun i => nI ((va_up CA 0 f9) i)))), (ru4, .inl (k 0, 60, .inl (fun i => nI ((va_up WB 0 0) i))))]) (show upd _ (2 : Int32).toNatClampNeg (nI e9) = _ from upd_nI (va_up (va_up LN 0 a9) 1 b9) (j := 2) (by omega) e9) rfl d_Ru_start_52 (fun H locs S => ?_)
  exact r_vret C K () trivial (S.sub [1, 2, 3, 0] (by decide) rfl) d_Ru_start_53 (Nat.le_of_ble_eq_true rfl) (Nat.le_of_ble_eq_true rfl)
