/-- the reference's object: arrays m, ints and booleans i, the cost -/
def moL (m : Nat → Nat) (i : Nat → Int32) (co : Int64) : List Value := [.int (i 0), .ref (m 0), .ref (m 1), .ref (m 2), .int (i 1), .ref (m 3), .ref (m 4), .ref (m 5), .ref (m 6), .int (i 2), .long co, .int (i 3), .int (i 4), .ref (m 7), .ref (m 8), .ref (m 9), .ref (m 10), .ref (m 11), .int (i 5), .ref (m 12), .int (i 6), .int (i 7), .int (i 8), .int (i 9), .int (i 10), .int (i 11), .int (i 12), .ref (m 13), .int (i 13), .int (i 14), .int (i 15), .int (i 16), .ref (m 14), .ref (m 15), .int (i 17), .ref (m 16), .ref (m 17), .ref (m 18), .ref (m 19), .ref (m 20), .int (i 18), .ref (m 21), .ref (m 22), .ref (m 23), .ref (m 24), .ref (m 25), .ref (m 26), .ref (m 27), .int (i 19), .int (i 20), .int (i 21), .int (i 22), .int (i 23), .int (i 24), .int (i 25), .ref (m 28), .ref (m 29), .int (i 26), .int (i 27), .int (i 28), .int (i 29)]
theorem d_Mo_place_0 : decode c_Mo_place 0 = .ok (.aload_n 0, 1) := by decide +kernel
theorem d_Mo_place_1 : decode c_Mo_place 1 = .ok (.getfield 19, 3) := by decide +kernel
theorem d_Mo_place_4 : decode c_Mo_place 4 = .ok (.ireturn, 1) := by decide +kernel
set_option maxRecDepth 100000 in
set_option maxHeartbeats 4000000 in
/-- place() -/
theorem g_Mo_place (l : Launch) (G : va_G) (k : Nat → ClassId) (h0 sz : Nat) (ma : Nat → Nat) (iv : Nat → Int32) (co : Int64) : CI l y_Mo_place c_Mo_place 1 .int { frames := 1, cells := 0, slots := 0, locals := 20 } [.ref h0] G k sz [(h0, .inr (8, moL ma iv co))] (fun (r : Int32) (u : Unit) => r = iv 1) (fun u => [(h0, .inr (8, moL ma iv co))]) 0 0 := by
  refine met_start (by decide) (Nat.le_of_ble_eq_true rfl) ?_
  intro p e s m below meth c C K hA hsz S ls hl
  generalize va_A [(h0, .inr (8, moL ma iv co))] sz = A at hA S ⊢
  have hx := C.1
  have hb := C.2.1
  have hl : lv_has ls 1 [(0, .ref h0)] := hl
  refine lv_aload_n hx hb d_Mo_place_0 rfl (lv_at hl 0 rfl) ?_
  refine r_get C K S 0 rfl rfl clOk_Mo 4 (by decide) wf_Mo_19 (v := .int (iv 1)) rfl d_Mo_place_1 ?_
  exact r_iret C K rfl () rfl (S.sub [0] (by decide) rfl) d_Mo_place_4 (Nat.le_of_ble_eq_true rfl) (Nat.le_of_ble_eq_true rfl)
theorem d_Mo_cost_0 : decode c_Mo_cost 0 = .ok (.aload_n 0, 1) := by decide +kernel
theorem d_Mo_cost_1 : decode c_Mo_cost 1 = .ok (.getfield 175, 3) := by decide +kernel
theorem d_Mo_cost_4 : decode c_Mo_cost 4 = .ok (.lreturn, 1) := by decide +kernel
set_option maxRecDepth 100000 in
set_option maxHeartbeats 4000000 in
/-- cost() -/
theorem g_Mo_cost (l : Launch) (G : va_G) (k : Nat → ClassId) (h0 sz : Nat) (ma : Nat → Nat) (iv : Nat → Int32) (co : Int64) : CL l y_Mo_cost c_Mo_cost 1 { frames := 1, cells := 0, slots := 0, locals := 20 } [.ref h0] G k sz [(h0, .inr (8, moL ma iv co))] (fun (r : Int64) (u : Unit) => r = co) (fun u => [(h0, .inr (8, moL ma iv co))]) 0 0 := by
  refine met_start (by decide) (Nat.le_of_ble_eq_true rfl) ?_
  intro p e s m below meth c C K hA hsz S ls hl
  generalize va_A [(h0, .inr (8, moL ma iv co))] sz = A at hA S ⊢
  have hx := C.1
  have hb := C.2.1
  have hl : lv_has ls 1 [(0, .ref h0)] := hl
  refine lv_aload_n hx hb d_Mo_cost_0 rfl (lv_at hl 0 rfl) ?_
  refine r_get C K S 0 rfl rfl clOk_Mo 10 (by decide) wf_Mo_175 (v := .long co) rfl d_Mo_cost_1 ?_
  exact r_lret C K () rfl (S.sub [0] (by decide) rfl) d_Mo_cost_4 (Nat.le_of_ble_eq_true rfl) (Nat.le_of_ble_eq_true rfl)
theorem d_Mo_given_0 : decode c_Mo_given 0 = .ok (.aload_n 0, 1) := by decide +kernel
theorem d_Mo_given_1 : decode c_Mo_given 1 = .ok (.getfield 35, 3) := by decide +kernel
theorem d_Mo_given_4 : decode c_Mo_given 4 = .ok (.ireturn, 1) := by decide +kernel
set_option maxRecDepth 100000 in
set_option maxHeartbeats 4000000 in
/-- given() -/
theorem g_Mo_given (l : Launch) (G : va_G) (k : Nat → ClassId) (h0 sz : Nat) (ma : Nat → Nat) (iv : Nat → Int32) (co : Int64) : CI l y_Mo_given c_Mo_given 1 .int { frames := 1, cells := 0, slots := 0, locals := 20 } [.ref h0] G k sz [(h0, .inr (8, moL ma iv co))] (fun (r : Int32) (u : Unit) => r = iv 3) (fun u => [(h0, .inr (8, moL ma iv co))]) 0 0 := by
  refine met_start (by decide) (Nat.le_of_ble_eq_true rfl) ?_
  intro p e s m below meth c C K hA hsz S ls hl
  generalize va_A [(h0, .inr (8, moL ma iv co))] sz = A at hA S ⊢
  have hx := C.1
  have hb := C.2.1
  have hl : lv_has ls 1 [(0, .ref h0)] := hl
  refine lv_aload_n hx hb d_Mo_given_0 rfl (lv_at hl 0 rfl) ?_
  refine r_get C K S 0 rfl rfl clOk_Mo 11 (by decide) wf_Mo_35 (v := .int (iv 3)) rfl d_Mo_given_1 ?_
  exact r_iret C K rfl () rfl (S.sub [0] (by decide) rfl) d_Mo_given_4 (Nat.le_of_ble_eq_true rfl) (Nat.le_of_ble_eq_true rfl)
theorem d_Mo_steps_0 : decode c_Mo_steps 0 = .ok (.aload_n 0, 1) := by decide +kernel
theorem d_Mo_steps_1 : decode c_Mo_steps 1 = .ok (.getfield 165, 3) := by decide +kernel
theorem d_Mo_steps_4 : decode c_Mo_steps 4 = .ok (.ireturn, 1) := by decide +kernel
set_option maxRecDepth 100000 in
set_option maxHeartbeats 4000000 in
/-- steps() -/
theorem g_Mo_steps (l : Launch) (G : va_G) (k : Nat → ClassId) (h0 sz : Nat) (ma : Nat → Nat) (iv : Nat → Int32) (co : Int64) : CI l y_Mo_steps c_Mo_steps 1 .int { frames := 1, cells := 0, slots := 0, locals := 20 } [.ref h0] G k sz [(h0, .inr (8, moL ma iv co))] (fun (r : Int32) (u : Unit) => r = iv 4) (fun u => [(h0, .inr (8, moL ma iv co))]) 0 0 := by
  refine met_start (by decide) (Nat.le_of_ble_eq_true rfl) ?_
  intro p e s m below meth c C K hA hsz S ls hl
  generalize va_A [(h0, .inr (8, moL ma iv co))] sz = A at hA S ⊢
  have hx := C.1
  have hb := C.2.1
  have hl : lv_has ls 1 [(0, .ref h0)] := hl
  refine lv_aload_n hx hb d_Mo_steps_0 rfl (lv_at hl 0 rfl) ?_
  refine r_get C K S 0 rfl rfl clOk_Mo 12 (by decide) wf_Mo_165 (v := .int (iv 4)) rfl d_Mo_steps_1 ?_
  exact r_iret C K rfl () rfl (S.sub [0] (by decide) rfl) d_Mo_steps_4 (Nat.le_of_ble_eq_true rfl) (Nat.le_of_ble_eq_true rfl)
/-- is f one of n functions? -/
def isF (n f : Int32) : Int32 := if f < 0 then 0 else if n ≤ f then 0 else 1
theorem d_Mo_isFunction_0 : decode c_Mo_isFunction 0 = .ok (.iload_n 1, 1) := by decide +kernel
theorem d_Mo_isFunction_1 : decode c_Mo_isFunction 1 = .ok (.ifCond .lt 15, 3) := by decide +kernel
theorem d_Mo_isFunction_4 : decode c_Mo_isFunction 4 = .ok (.iload_n 1, 1) := by decide +kernel
theorem d_Mo_isFunction_5 : decode c_Mo_isFunction 5 = .ok (.aload_n 0, 1) := by decide +kernel
theorem d_Mo_isFunction_6 : decode c_Mo_isFunction 6 = .ok (.getfield 111, 3) := by decide +kernel
theorem d_Mo_isFunction_9 : decode c_Mo_isFunction 9 = .ok (.if_icmp .ge 7, 3) := by decide +kernel
theorem d_Mo_isFunction_12 : decode c_Mo_isFunction 12 = .ok (.iconst 1, 1) := by decide +kernel
theorem d_Mo_isFunction_13 : decode c_Mo_isFunction 13 = .ok (.goto 4, 3) := by decide +kernel
theorem d_Mo_isFunction_16 : decode c_Mo_isFunction 16 = .ok (.iconst 0, 1) := by decide +kernel
theorem d_Mo_isFunction_17 : decode c_Mo_isFunction 17 = .ok (.ireturn, 1) := by decide +kernel
set_option maxRecDepth 100000 in
set_option maxHeartbeats 4000000 in
/-- isFunction(f) -/
theorem g_Mo_isFunction (l : Launch) (G : va_G) (k : Nat → ClassId) (h0 sz : Nat) (ma : Nat → Nat) (iv : Nat → Int32) (co : Int64) (f : Int32) : CI l y_Mo_isFunction c_Mo_isFunction 2 .boolean { frames := 1, cells := 0, slots := 0, locals := 20 } [.ref h0, .int f] G k sz [(h0, .inr (8, moL ma iv co))] (fun (r : Int32) (u : Unit) => r = isF (iv 0) f) (fun u => [(h0, .inr (8, moL ma iv co))]) 0 0 := by
  refine met_start (by decide) (Nat.le_of_ble_eq_true rfl) ?_
  intro p e s m below meth c C K hA hsz S ls hl
  generalize va_A [(h0, .inr (8, moL ma iv co))] sz = A at hA S ⊢
  have hx := C.1
  have hb := C.2.1
  have hl : lv_has ls 2 [(0, .ref h0), (1, .int f)] := hl
  refine lv_iload_n hx hb d_Mo_isFunction_0 rfl (lv_at hl 1 rfl) ?_
  refine lv_if_lt (tgt := 16) hx hb d_Mo_isFunction_1 (by decide) (fun hc1 => ?_) (fun hc1 => ?_)
  · refine lv_iconst (v := 0) hx hb d_Mo_isFunction_16 (by decide) ?_
    exact r_iret C K rfl () (by simp [isF, hc1]) (S.sub [0] (by decide) rfl) d_Mo_isFunction_17 (Nat.le_of_ble_eq_true rfl) (Nat.le_of_ble_eq_true rfl)
  · refine lv_iload_n hx hb d_Mo_isFunction_4 rfl (lv_at hl 1 rfl) ?_
    refine lv_aload_n hx hb d_Mo_isFunction_5 rfl (lv_at hl 0 rfl) ?_
    refine r_get C K S 0 rfl rfl clOk_Mo 0 (by decide) wf_Mo_111 (v := .int (iv 0)) rfl d_Mo_isFunction_6 ?_
    refine lv_icmp_ge (tgt := 16) hx hb d_Mo_isFunction_9 (by decide) (fun hc2 => ?_) (fun hc2 => ?_)
    · refine lv_iconst (v := 0) hx hb d_Mo_isFunction_16 (by decide) ?_
      exact r_iret C K rfl () (by simp [isF, hc1, hc2]) (S.sub [0] (by decide) rfl) d_Mo_isFunction_17 (Nat.le_of_ble_eq_true rfl) (Nat.le_of_ble_eq_true rfl)
    · refine lv_iconst (v := 1) hx hb d_Mo_isFunction_12 (by decide) ?_
      refine lv_goto (tgt := 17) hx hb d_Mo_isFunction_13 (by decide) ?_
      exact r_iret C K rfl () (by simp [isF, hc1, hc2]) (S.sub [0] (by decide) rfl) d_Mo_isFunction_17 (Nat.le_of_ble_eq_true rfl) (Nat.le_of_ble_eq_true rfl)
def toldM (c w u d : Int32) : Int32 := if c = 0 then -2 else if w < 0 then -2 else if w ≤ 1 then (if w = 0 then u else d) else -2
theorem d_Mo_told_0 : decode c_Mo_told 0 = .ok (.aload_n 0, 1) := by decide +kernel
theorem d_Mo_told_1 : decode c_Mo_told 1 = .ok (.getfield 386, 3) := by decide +kernel
theorem d_Mo_told_4 : decode c_Mo_told 4 = .ok (.ifCond .eq 12, 3) := by decide +kernel
theorem d_Mo_told_7 : decode c_Mo_told 7 = .ok (.iload_n 1, 1) := by decide +kernel
theorem d_Mo_told_8 : decode c_Mo_told 8 = .ok (.ifCond .lt 8, 3) := by decide +kernel
theorem d_Mo_told_11 : decode c_Mo_told 11 = .ok (.iload_n 1, 1) := by decide +kernel
theorem d_Mo_told_12 : decode c_Mo_told 12 = .ok (.iconst 1, 1) := by decide +kernel
theorem d_Mo_told_13 : decode c_Mo_told 13 = .ok (.if_icmp .le 8, 3) := by decide +kernel
theorem d_Mo_told_16 : decode c_Mo_told 16 = .ok (.bipush (-2), 2) := by decide +kernel
theorem d_Mo_told_18 : decode c_Mo_told 18 = .ok (.goto 18, 3) := by decide +kernel
theorem d_Mo_told_21 : decode c_Mo_told 21 = .ok (.iload_n 1, 1) := by decide +kernel
theorem d_Mo_told_22 : decode c_Mo_told 22 = .ok (.ifCond .ne 10, 3) := by decide +kernel
theorem d_Mo_told_25 : decode c_Mo_told 25 = .ok (.aload_n 0, 1) := by decide +kernel
theorem d_Mo_told_26 : decode c_Mo_told 26 = .ok (.getfield 192, 3) := by decide +kernel
theorem d_Mo_told_29 : decode c_Mo_told 29 = .ok (.goto 7, 3) := by decide +kernel
theorem d_Mo_told_32 : decode c_Mo_told 32 = .ok (.aload_n 0, 1) := by decide +kernel
theorem d_Mo_told_33 : decode c_Mo_told 33 = .ok (.getfield 198, 3) := by decide +kernel
theorem d_Mo_told_36 : decode c_Mo_told 36 = .ok (.ireturn, 1) := by decide +kernel
set_option maxRecDepth 100000 in
set_option maxHeartbeats 4000000 in
/-- told(w) -/
theorem g_Mo_told (l : Launch) (G : va_G) (k : Nat → ClassId) (h0 sz : Nat) (ma : Nat → Nat) (iv : Nat → Int32) (co : Int64) (w : Int32) : CI l y_Mo_told c_Mo_told 2 .int { frames := 1, cells := 0, slots := 0, locals := 20 } [.ref h0, .int w] G k sz [(h0, .inr (8, moL ma iv co))] (fun (r : Int32) (u : Unit) => r = toldM (iv 29) w (iv 14) (iv 15)) (fun u => [(h0, .inr (8, moL ma iv co))]) 0 0 := by
  refine met_start (by decide) (Nat.le_of_ble_eq_true rfl) ?_
  intro p e s m below meth c C K hA hsz S ls hl
  generalize va_A [(h0, .inr (8, moL ma iv co))] sz = A at hA S ⊢
  have hx := C.1
  have hb := C.2.1
  have hl : lv_has ls 2 [(0, .ref h0), (1, .int w)] := hl
  refine lv_aload_n hx hb d_Mo_told_0 rfl (lv_at hl 0 rfl) ?_
  refine r_get C K S 0 rfl rfl clOk_Mo 60 (by decide) wf_Mo_386 (v := .int (iv 29)) rfl d_Mo_told_1 ?_
  refine lv_if_eq (tgt := 16) hx hb d_Mo_told_4 (by decide) (fun hc1 => ?_) (fun hc1 => ?_)
  · refine lv_bipush (v := (-2)) hx hb d_Mo_told_16 (by decide) ?_
    refine lv_goto (tgt := 36) hx hb d_Mo_told_18 (by decide) ?_
    exact r_iret C K rfl () (by simp [toldM, hc1]) (S.sub [0] (by decide) rfl) d_Mo_told_36 (Nat.le_of_ble_eq_true rfl) (Nat.le_of_ble_eq_true rfl)
  · refine lv_iload_n hx hb d_Mo_told_7 rfl (lv_at hl 1 rfl) ?_
    refine lv_if_lt (tgt := 16) hx hb d_Mo_told_8 (by decide) (fun hc2 => ?_) (fun hc2 => ?_)
    · refine lv_bipush (v := (-2)) hx hb d_Mo_told_16 (by decide) ?_
      refine lv_goto (tgt := 36) hx hb d_Mo_told_18 (by decide) ?_
      exact r_iret C K rfl () (by simp [toldM, hc1, hc2]) (S.sub [0] (by decide) rfl) d_Mo_told_36 (Nat.le_of_ble_eq_true rfl) (Nat.le_of_ble_eq_true rfl)
    · refine lv_iload_n hx hb d_Mo_told_11 rfl (lv_at hl 1 rfl) ?_
      refine lv_iconst (v := 1) hx hb d_Mo_told_12 (by decide) ?_
      refine lv_icmp_le (tgt := 21) hx hb d_Mo_told_13 (by decide) (fun hc3 => ?_) (fun hc3 => ?_)
      · refine lv_iload_n hx hb d_Mo_told_21 rfl (lv_at hl 1 rfl) ?_
        refine lv_if_ne (tgt := 32) hx hb d_Mo_told_22 (by decide) (fun hc4 => ?_) (fun hc4 => ?_)
        · refine lv_aload_n hx hb d_Mo_told_32 rfl (lv_at hl 0 rfl) ?_
          refine r_get C K S 0 rfl rfl clOk_Mo 30 (by decide) wf_Mo_198 (v := .int (iv 15)) rfl d_Mo_told_33 ?_
          exact r_iret C K rfl () (by simp [toldM, hc1, hc2, hc3, hc4]) (S.sub [0] (by decide) rfl) d_Mo_told_36 (Nat.le_of_ble_eq_true rfl) (Nat.le_of_ble_eq_true rfl)
        · refine lv_aload_n hx hb d_Mo_told_25 rfl (lv_at hl 0 rfl) ?_
          refine r_get C K S 0 rfl rfl clOk_Mo 29 (by decide) wf_Mo_192 (v := .int (iv 14)) rfl d_Mo_told_26 ?_
          refine lv_goto (tgt := 36) hx hb d_Mo_told_29 (by decide) ?_
          exact r_iret C K rfl () (by simp [toldM, hc1, hc2, hc3, hc4]) (S.sub [0] (by decide) rfl) d_Mo_told_36 (Nat.le_of_ble_eq_true rfl) (Nat.le_of_ble_eq_true rfl)
      · refine lv_bipush (v := (-2)) hx hb d_Mo_told_16 (by decide) ?_
        refine lv_goto (tgt := 36) hx hb d_Mo_told_18 (by decide) ?_
        exact r_iret C K rfl () (by simp [toldM, hc1, hc2, hc3]) (S.sub [0] (by decide) rfl) d_Mo_told_36 (Nat.le_of_ble_eq_true rfl) (Nat.le_of_ble_eq_true rfl)
