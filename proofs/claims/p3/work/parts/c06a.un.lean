set_option maxRecDepth 100000 in
set_option maxHeartbeats 16000000 in
/-- scaled(xi, xk), nothing solved -/
theorem g_Mo_scaled_un (l : Launch) (G : va_G) (k : Nat → ClassId) (h0 : Nat) (s0 : Nat) (xi : Int32) (xk : Int32) (ma : Nat → Nat) (iv : Nat → Int32) (co : Int64) : CL l y_Mo_scaled c_Mo_scaled 6 { frames := 0, cells := 0, slots := 0, locals := 0 } [.ref h0, .int xi, .int xk] G k s0 [(h0, .inr (8, moL ma (va_up iv 26 (nI 0)) co))] (fun (r : Int64) (u : Unit) => True) (fun u => [(h0, .inr (8, moL ma (va_up iv 26 (nI 0)) co))]) 0 0 := by
  refine met_start (by decide) (Nat.le_of_ble_eq_true rfl) ?_
  intro p e s m below meth c C K hA hsz S ls hl
  generalize va_A [(h0, .inr (8, moL ma (va_up iv 26 (nI 0)) co))] s0 = A at hA S ⊢
  have hx := C.1
  have hb := C.2.1
  have hl : lv_has ls 6 [(0, .ref h0), (1, .int xi), (2, .int xk)] := hl
  refine lv_aload_n hx hb d_Mo_scaled_0 rfl (lv_at hl 0 rfl) ?_
  refine r_get C K S 0 rfl rfl clOk_Mo 57 (by decide) wf_Mo_383 (v := .int (nI 0)) rfl d_Mo_scaled_1 ?_
  refine z_if_eq (a := 0) (tgt := 25) hx hb d_Mo_scaled_4 (by decide) (by omega) (fun hc1 => ?_) (fun hc1 => False.elim (Nat.lt_irrefl _ hc1))
  refine lv_ldc2 (v := (-2)) hx hb C.2.2.2.1 (C.2.2.2.2.1 _ wk_Mo_407) d_Mo_scaled_25 ?_
  exact r_lret C K () trivial (S.sub [0] (by decide) rfl) d_Mo_scaled_28 (Nat.le_of_ble_eq_true rfl) (Nat.le_of_ble_eq_true rfl)
set_option maxRecDepth 100000 in
set_option maxHeartbeats 16000000 in
/-- covers(..), nothing solved -/
theorem g_Mo_covers_un (l : Launch) (G : va_G) (k : Nat → ClassId) (h0 : Nat) (s0 : Nat) (xa : Int32) (xb : Int32) (xc : Int32) (xn : Int64) (ma : Nat → Nat) (iv : Nat → Int32) (co : Int64) : CI l y_Mo_covers c_Mo_covers 8 .int { frames := 0, cells := 0, slots := 0, locals := 0 } [.ref h0, .int xa, .int xb, .int xc, .long xn] G k s0 [(h0, .inr (8, moL ma (va_up iv 26 (nI 0)) co))] (fun (r : Int32) (u : Unit) => True) (fun u => [(h0, .inr (8, moL ma (va_up iv 26 (nI 0)) co))]) 0 0 := by
  refine met_start (by decide) (Nat.le_of_ble_eq_true rfl) ?_
  intro p e s m below meth c C K hA hsz S ls hl
  generalize va_A [(h0, .inr (8, moL ma (va_up iv 26 (nI 0)) co))] s0 = A at hA S ⊢
  have hx := C.1
  have hb := C.2.1
  have hl : lv_has ls 8 [(0, .ref h0), (1, .int xa), (2, .int xb), (3, .int xc), (4, .long xn)] := hl
  refine lv_aload_n hx hb d_Mo_covers_0 rfl (lv_at hl 0 rfl) ?_
  refine r_get C K S 0 rfl rfl clOk_Mo 57 (by decide) wf_Mo_383 (v := .int (nI 0)) rfl d_Mo_covers_1 ?_
  refine z_if_ne (a := 0) (tgt := 10) hx hb d_Mo_covers_4 (by decide) (by omega) (fun hc1 => False.elim (Nat.lt_irrefl _ hc1)) (fun hc1 => ?_)
  refine lv_bipush (v := (-2)) hx hb d_Mo_covers_7 (by decide) ?_
  exact r_iret C K rfl () trivial (S.sub [0] (by decide) rfl) d_Mo_covers_9 (Nat.le_of_ble_eq_true rfl) (Nat.le_of_ble_eq_true rfl)
