theorem d_Mo_at_0 : decode c_Mo_at 0 = .ok (.bipush 42, 2) := by decide +kernel
theorem d_Mo_at_2 : decode c_Mo_at 2 = .ok (.iload_n 0, 1) := by decide +kernel
theorem d_Mo_at_3 : decode c_Mo_at 3 = .ok (.imul, 1) := by decide +kernel
theorem d_Mo_at_4 : decode c_Mo_at 4 = .ok (.iload_n 1, 1) := by decide +kernel
theorem d_Mo_at_5 : decode c_Mo_at 5 = .ok (.iadd, 1) := by decide +kernel
theorem d_Mo_at_6 : decode c_Mo_at 6 = .ok (.ireturn, 1) := by decide +kernel
set_option maxRecDepth 100000 in
set_option maxHeartbeats 4000000 in
/-- at(r, c) -/
theorem g_Mo_at (l : Launch) (G : va_G) (k : Nat → ClassId) (s0 : Nat) (r9 c9 : Nat) : CI l y_Mo_at c_Mo_at 2 .int { frames := 0, cells := 0, slots := 0, locals := 0 } [.int (nI r9), .int (nI c9)] G k s0 [] (fun (r : Int32) (_ : Unit) => r = nI (42 * r9 + c9)) (fun _ => []) 0 0 := by
  refine met_start (by decide) (Nat.le_of_ble_eq_true rfl) ?_
  intro p e s m below meth c C K hA hsz S ls hl
  generalize va_A [] s0 = A at hA S ⊢
  have hx := C.1
  have hb := C.2.1
  have hl : lv_has ls 2 [(0, .int (nI r9)), (1, .int (nI c9))] := hl
  refine lv_bipush (v := 42) hx hb d_Mo_at_0 (by decide) ?_
  refine lv_iload_n hx hb d_Mo_at_2 rfl (lv_at hl 0 rfl) ?_
  refine lv_imul hx hb d_Mo_at_3 ?_
  rw [show (42 : Int32) * nI r9 = nI (42 * r9) from pk_mul 42 r9]
  refine lv_iload_n hx hb d_Mo_at_4 rfl (lv_at hl 1 rfl) ?_
  refine lv_iadd hx hb d_Mo_at_5 ?_
  rw [nI_add]
  exact r_iret C K rfl () rfl (S.sub [] rfl rfl) d_Mo_at_6 (Nat.le_of_ble_eq_true rfl) (Nat.le_of_ble_eq_true rfl)
theorem d_Mo_line_0 : decode c_Mo_line 0 = .ok (.bipush 22, 2) := by decide +kernel
theorem d_Mo_line_2 : decode c_Mo_line 2 = .ok (.iload_n 0, 1) := by decide +kernel
theorem d_Mo_line_3 : decode c_Mo_line 3 = .ok (.imul, 1) := by decide +kernel
theorem d_Mo_line_4 : decode c_Mo_line 4 = .ok (.iload_n 1, 1) := by decide +kernel
theorem d_Mo_line_5 : decode c_Mo_line 5 = .ok (.iadd, 1) := by decide +kernel
theorem d_Mo_line_6 : decode c_Mo_line 6 = .ok (.bipush 41, 2) := by decide +kernel
theorem d_Mo_line_8 : decode c_Mo_line 8 = .ok (.imul, 1) := by decide +kernel
theorem d_Mo_line_9 : decode c_Mo_line 9 = .ok (.ireturn, 1) := by decide +kernel
set_option maxRecDepth 100000 in
set_option maxHeartbeats 4000000 in
/-- line(b, w) -/
theorem g_Mo_line (l : Launch) (G : va_G) (k : Nat → ClassId) (s0 : Nat) (b9 w9 : Nat) : CI l y_Mo_line c_Mo_line 2 .int { frames := 0, cells := 0, slots := 0, locals := 0 } [.int (nI b9), .int (nI w9)] G k s0 [] (fun (r : Int32) (_ : Unit) => r = nI ((22 * b9 + w9) * 41)) (fun _ => []) 0 0 := by
  refine met_start (by decide) (Nat.le_of_ble_eq_true rfl) ?_
  intro p e s m below meth c C K hA hsz S ls hl
  generalize va_A [] s0 = A at hA S ⊢
  have hx := C.1
  have hb := C.2.1
  have hl : lv_has ls 2 [(0, .int (nI b9)), (1, .int (nI w9))] := hl
  refine lv_bipush (v := 22) hx hb d_Mo_line_0 (by decide) ?_
  refine lv_iload_n hx hb d_Mo_line_2 rfl (lv_at hl 0 rfl) ?_
  refine lv_imul hx hb d_Mo_line_3 ?_
  rw [show (22 : Int32) * nI b9 = nI (22 * b9) from pk_mul 22 b9]
  refine lv_iload_n hx hb d_Mo_line_4 rfl (lv_at hl 1 rfl) ?_
  refine lv_iadd hx hb d_Mo_line_5 ?_
  rw [nI_add]
  refine lv_bipush (v := 41) hx hb d_Mo_line_6 (by decide) ?_
  refine lv_imul hx hb d_Mo_line_8 ?_
  rw [show nI (22 * b9 + w9) * (41 : Int32) = nI ((22 * b9 + w9) * 41) from pk_mul _ 41]
  exact r_iret C K rfl () rfl (S.sub [] rfl rfl) d_Mo_line_9 (Nat.le_of_ble_eq_true rfl) (Nat.le_of_ble_eq_true rfl)
theorem d_Mo_unknown_0 : decode c_Mo_unknown 0 = .ok (.aload_n 0, 1) := by decide +kernel
theorem d_Mo_unknown_1 : decode c_Mo_unknown 1 = .ok (.getfield 61, 3) := by decide +kernel
theorem d_Mo_unknown_4 : decode c_Mo_unknown 4 = .ok (.iload_n 1, 1) := by decide +kernel
theorem d_Mo_unknown_5 : decode c_Mo_unknown 5 = .ok (.iaload, 1) := by decide +kernel
theorem d_Mo_unknown_6 : decode c_Mo_unknown 6 = .ok (.iload_n 2, 1) := by decide +kernel
theorem d_Mo_unknown_7 : decode c_Mo_unknown 7 = .ok (.iadd, 1) := by decide +kernel
theorem d_Mo_unknown_8 : decode c_Mo_unknown 8 = .ok (.ireturn, 1) := by decide +kernel
set_option maxRecDepth 100000 in
set_option maxHeartbeats 4000000 in
/-- unknown(f, i) -/
theorem g_Mo_unknown (l : Launch) (G : va_G) (k : Nat → ClassId) (h0 s0 : Nat) (ma : Nat → Nat) (iv : Nat → Int32) (co : Int64) (fs : Nat → Nat) (f9 i9 : Nat) (hf : f9 < 4) : CI l y_Mo_unknown c_Mo_unknown 3 .int { frames := 1, cells := 0, slots := 0, locals := 20 } [.ref h0, .int (nI f9), .int (nI i9)] G k s0 [(h0, .inr (8, moL ma iv co)), ((ma 14), .inl (k 0, 4, .inl (fun i => nI (fs i))))] (fun (r : Int32) (u : Unit) => r = nI (fs f9 + i9)) (fun u => [(h0, .inr (8, moL ma iv co)), ((ma 14), .inl (k 0, 4, .inl (fun i => nI (fs i))))]) 0 0 := by
  refine met_start (by decide) (Nat.le_of_ble_eq_true rfl) ?_
  intro p e s m below meth c C K hA hsz S ls hl
  generalize va_A [(h0, .inr (8, moL ma iv co)), ((ma 14), .inl (k 0, 4, .inl (fun i => nI (fs i))))] s0 = A at hA S ⊢
  have hx := C.1
  have hb := C.2.1
  have hl : lv_has ls 3 [(0, .ref h0), (1, .int (nI f9)), (2, .int (nI i9))] := hl
  refine lv_aload_n hx hb d_Mo_unknown_0 rfl (lv_at hl 0 rfl) ?_
  refine r_get C K S 0 rfl rfl clOk_Mo 32 (by decide) wf_Mo_61 (v := .ref (ma 14)) rfl d_Mo_unknown_1 ?_
  refine lv_iload_n hx hb d_Mo_unknown_4 rfl (lv_at hl 1 rfl) ?_
  refine r_iald C K S 1 rfl (i := (nI f9)) (vp_in_nI (by omega) (by decide)) (v := (nI (fs f9))) (by rw [nI_clamp (by omega)]) d_Mo_unknown_5 ?_
  refine lv_iload_n hx hb d_Mo_unknown_6 rfl (lv_at hl 2 rfl) ?_
  refine lv_iadd hx hb d_Mo_unknown_7 ?_
  rw [nI_add]
  exact r_iret C K rfl () rfl (S.sub [0, 1] (by decide) rfl) d_Mo_unknown_8 (Nat.le_of_ble_eq_true rfl) (Nat.le_of_ble_eq_true rfl)
