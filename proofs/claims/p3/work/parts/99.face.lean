theorem d_PB_place_0 : decode c_PB_place 0 = .ok (.aload_n 0, 1) := by decide +kernel
theorem d_PB_place_1 : decode c_PB_place 1 = .ok (.getfield 29, 3) := by decide +kernel
theorem d_PB_place_4 : decode c_PB_place 4 = .ok (.ireturn, 1) := by decide +kernel
set_option maxRecDepth 100000 in
set_option maxHeartbeats 16000000 in
/-- PB_place -/
theorem g_PB_place (l : Launch) (G : va_G) (k : Nat → ClassId) (h0 : Nat) (s0 : Nat) (ca : Nat) (cr : Nat) (cu : Nat) (cne : Nat) (cs : Nat) (cb : Nat) (nf : Nat) (it : Nat) (wp : Int32) : CI l y_PB_place c_PB_place 1 .int { frames := 0, cells := 0, slots := 0, locals := 0 } [.ref h0] G k s0 [(h0, .inr (0, [.ref ca, .ref cr, .ref cu, .ref cne, .ref cs, .ref cb, .int (nI nf), .int wp, .int (nI it)]))] (fun (r : Int32) (u : Unit) => r = wp ∧ True) (fun u => [(h0, .inr (0, [.ref ca, .ref cr, .ref cu, .ref cne, .ref cs, .ref cb, .int (nI nf), .int wp, .int (nI it)]))]) 0 0 := by
  refine met_start (by decide) (Nat.le_of_ble_eq_true rfl) ?_
  intro p e s m below meth c C K hA hsz S ls hl
  generalize va_A [(h0, .inr (0, [.ref ca, .ref cr, .ref cu, .ref cne, .ref cs, .ref cb, .int (nI nf), .int wp, .int (nI it)]))] s0 = A at hA S ⊢
  have hx := C.1
  have hb := C.2.1
  have hl : lv_has ls 1 [(0, .ref h0)] := hl
  refine lv_aload_n hx hb d_PB_place_0 rfl (lv_at hl 0 rfl) ?_
  refine r_get C K S 0 rfl rfl clOk_PB 7 (by decide) wf_PB_29 (v := .int wp) rfl d_PB_place_1 ?_
  exact r_iret C K rfl () ⟨rfl, trivial⟩ (S.sub [0] (by decide) rfl) d_PB_place_4 (Nat.le_of_ble_eq_true rfl) (Nat.le_of_ble_eq_true rfl)
theorem d_PB_cost_0 : decode c_PB_cost 0 = .ok (.aload_n 0, 1) := by decide +kernel
theorem d_PB_cost_1 : decode c_PB_cost 1 = .ok (.getfield 46, 3) := by decide +kernel
theorem d_PB_cost_4 : decode c_PB_cost 4 = .ok (.getfield 93, 3) := by decide +kernel
theorem d_PB_cost_7 : decode c_PB_cost 7 = .ok (.lreturn, 1) := by decide +kernel
set_option maxRecDepth 100000 in
set_option maxHeartbeats 16000000 in
/-- PB_cost -/
theorem g_PB_cost (l : Launch) (G : va_G) (k : Nat → ClassId) (h0 : Nat) (s0 : Nat) (ca : Nat) (cr : Nat) (cu : Nat) (cne : Nat) (cs : Nat) (cb : Nat) (nf : Nat) (it : Nat) (wp : Int32) (ru0 : Nat) (ru1 : Nat) (ru2 : Nat) (ru3 : Nat) (ru4 : Nat) (rc5 : Int32) (rc6 : Int32) (rc7 : Int32) (rc8 : Int32) (rc9 : Int32) (rpd : Int64) (rgv : Int32) : CL l y_PB_cost c_PB_cost 1 { frames := 0, cells := 0, slots := 0, locals := 0 } [.ref h0] G k s0 [(h0, .inr (0, [.ref ca, .ref cr, .ref cu, .ref cne, .ref cs, .ref cb, .int (nI nf), .int wp, .int (nI it)])), (cu, .inr (6, [.ref ru0, .ref ru1, .ref ru2, .ref ru3, .ref ru4, .int rc5, .int rc6, .int rc7, .int rc8, .int rc9, .long rpd, .int rgv]))] (fun (r : Int64) (u : Unit) => r = rpd ∧ True) (fun u => [(h0, .inr (0, [.ref ca, .ref cr, .ref cu, .ref cne, .ref cs, .ref cb, .int (nI nf), .int wp, .int (nI it)])), (cu, .inr (6, [.ref ru0, .ref ru1, .ref ru2, .ref ru3, .ref ru4, .int rc5, .int rc6, .int rc7, .int rc8, .int rc9, .long rpd, .int rgv]))]) 0 0 := by
  refine met_start (by decide) (Nat.le_of_ble_eq_true rfl) ?_
  intro p e s m below meth c C K hA hsz S ls hl
  generalize va_A [(h0, .inr (0, [.ref ca, .ref cr, .ref cu, .ref cne, .ref cs, .ref cb, .int (nI nf), .int wp, .int (nI it)])), (cu, .inr (6, [.ref ru0, .ref ru1, .ref ru2, .ref ru3, .ref ru4, .int rc5, .int rc6, .int rc7, .int rc8, .int rc9, .long rpd, .int rgv]))] s0 = A at hA S ⊢
  have hx := C.1
  have hb := C.2.1
  have hl : lv_has ls 1 [(0, .ref h0)] := hl
  refine lv_aload_n hx hb d_PB_cost_0 rfl (lv_at hl 0 rfl) ?_
  refine r_get C K S 0 rfl rfl clOk_PB 2 (by decide) wf_PB_46 (v := .ref cu) rfl d_PB_cost_1 ?_
  refine r_getN C K S 1 rfl rfl clOk_Ru 10 (by decide) xf_PB_93 (v := .long rpd) rfl d_PB_cost_4 ?_
  exact r_lret C K () ⟨rfl, trivial⟩ (S.sub [0, 1] (by decide) rfl) d_PB_cost_7 (Nat.le_of_ble_eq_true rfl) (Nat.le_of_ble_eq_true rfl)
theorem d_PB_given_0 : decode c_PB_given 0 = .ok (.aload_n 0, 1) := by decide +kernel
theorem d_PB_given_1 : decode c_PB_given 1 = .ok (.getfield 46, 3) := by decide +kernel
theorem d_PB_given_4 : decode c_PB_given 4 = .ok (.getfield 97, 3) := by decide +kernel
theorem d_PB_given_7 : decode c_PB_given 7 = .ok (.ireturn, 1) := by decide +kernel
set_option maxRecDepth 100000 in
set_option maxHeartbeats 16000000 in
/-- PB_given -/
theorem g_PB_given (l : Launch) (G : va_G) (k : Nat → ClassId) (h0 : Nat) (s0 : Nat) (ca : Nat) (cr : Nat) (cu : Nat) (cne : Nat) (cs : Nat) (cb : Nat) (nf : Nat) (it : Nat) (wp : Int32) (ru0 : Nat) (ru1 : Nat) (ru2 : Nat) (ru3 : Nat) (ru4 : Nat) (rc5 : Int32) (rc6 : Int32) (rc7 : Int32) (rc8 : Int32) (rc9 : Int32) (rpd : Int64) (rgv : Int32) : CI l y_PB_given c_PB_given 1 .int { frames := 0, cells := 0, slots := 0, locals := 0 } [.ref h0] G k s0 [(h0, .inr (0, [.ref ca, .ref cr, .ref cu, .ref cne, .ref cs, .ref cb, .int (nI nf), .int wp, .int (nI it)])), (cu, .inr (6, [.ref ru0, .ref ru1, .ref ru2, .ref ru3, .ref ru4, .int rc5, .int rc6, .int rc7, .int rc8, .int rc9, .long rpd, .int rgv]))] (fun (r : Int32) (u : Unit) => r = rgv ∧ True) (fun u => [(h0, .inr (0, [.ref ca, .ref cr, .ref cu, .ref cne, .ref cs, .ref cb, .int (nI nf), .int wp, .int (nI it)])), (cu, .inr (6, [.ref ru0, .ref ru1, .ref ru2, .ref ru3, .ref ru4, .int rc5, .int rc6, .int rc7, .int rc8, .int rc9, .long rpd, .int rgv]))]) 0 0 := by
  refine met_start (by decide) (Nat.le_of_ble_eq_true rfl) ?_
  intro p e s m below meth c C K hA hsz S ls hl
  generalize va_A [(h0, .inr (0, [.ref ca, .ref cr, .ref cu, .ref cne, .ref cs, .ref cb, .int (nI nf), .int wp, .int (nI it)])), (cu, .inr (6, [.ref ru0, .ref ru1, .ref ru2, .ref ru3, .ref ru4, .int rc5, .int rc6, .int rc7, .int rc8, .int rc9, .long rpd, .int rgv]))] s0 = A at hA S ⊢
  have hx := C.1
  have hb := C.2.1
  have hl : lv_has ls 1 [(0, .ref h0)] := hl
  refine lv_aload_n hx hb d_PB_given_0 rfl (lv_at hl 0 rfl) ?_
  refine r_get C K S 0 rfl rfl clOk_PB 2 (by decide) wf_PB_46 (v := .ref cu) rfl d_PB_given_1 ?_
  refine r_getN C K S 1 rfl rfl clOk_Ru 11 (by decide) xf_PB_97 (v := .int rgv) rfl d_PB_given_4 ?_
  exact r_iret C K rfl () ⟨rfl, trivial⟩ (S.sub [0, 1] (by decide) rfl) d_PB_given_7 (Nat.le_of_ble_eq_true rfl) (Nat.le_of_ble_eq_true rfl)
theorem d_PB_steps_0 : decode c_PB_steps 0 = .ok (.aload_n 0, 1) := by decide +kernel
theorem d_PB_steps_1 : decode c_PB_steps 1 = .ok (.getfield 46, 3) := by decide +kernel
theorem d_PB_steps_4 : decode c_PB_steps 4 = .ok (.getfield 100, 3) := by decide +kernel
theorem d_PB_steps_7 : decode c_PB_steps 7 = .ok (.ireturn, 1) := by decide +kernel
set_option maxRecDepth 100000 in
set_option maxHeartbeats 16000000 in
/-- PB_steps -/
theorem g_PB_steps (l : Launch) (G : va_G) (k : Nat → ClassId) (h0 : Nat) (s0 : Nat) (ca : Nat) (cr : Nat) (cu : Nat) (cne : Nat) (cs : Nat) (cb : Nat) (nf : Nat) (it : Nat) (wp : Int32) (ru0 : Nat) (ru1 : Nat) (ru2 : Nat) (ru3 : Nat) (ru4 : Nat) (rc5 : Int32) (rc6 : Int32) (rc7 : Int32) (rc8 : Int32) (rc9 : Int32) (rpd : Int64) (rgv : Int32) : CI l y_PB_steps c_PB_steps 1 .int { frames := 0, cells := 0, slots := 0, locals := 0 } [.ref h0] G k s0 [(h0, .inr (0, [.ref ca, .ref cr, .ref cu, .ref cne, .ref cs, .ref cb, .int (nI nf), .int wp, .int (nI it)])), (cu, .inr (6, [.ref ru0, .ref ru1, .ref ru2, .ref ru3, .ref ru4, .int rc5, .int rc6, .int rc7, .int rc8, .int rc9, .long rpd, .int rgv]))] (fun (r : Int32) (u : Unit) => r = rc9 ∧ True) (fun u => [(h0, .inr (0, [.ref ca, .ref cr, .ref cu, .ref cne, .ref cs, .ref cb, .int (nI nf), .int wp, .int (nI it)])), (cu, .inr (6, [.ref ru0, .ref ru1, .ref ru2, .ref ru3, .ref ru4, .int rc5, .int rc6, .int rc7, .int rc8, .int rc9, .long rpd, .int rgv]))]) 0 0 := by
  refine met_start (by decide) (Nat.le_of_ble_eq_true rfl) ?_
  intro p e s m below meth c C K hA hsz S ls hl
  generalize va_A [(h0, .inr (0, [.ref ca, .ref cr, .ref cu, .ref cne, .ref cs, .ref cb, .int (nI nf), .int wp, .int (nI it)])), (cu, .inr (6, [.ref ru0, .ref ru1, .ref ru2, .ref ru3, .ref ru4, .int rc5, .int rc6, .int rc7, .int rc8, .int rc9, .long rpd, .int rgv]))] s0 = A at hA S ⊢
  have hx := C.1
  have hb := C.2.1
  have hl : lv_has ls 1 [(0, .ref h0)] := hl
  refine lv_aload_n hx hb d_PB_steps_0 rfl (lv_at hl 0 rfl) ?_
  refine r_get C K S 0 rfl rfl clOk_PB 2 (by decide) wf_PB_46 (v := .ref cu) rfl d_PB_steps_1 ?_
  refine r_getN C K S 1 rfl rfl clOk_Ru 9 (by decide) xf_PB_100 (v := .int rc9) rfl d_PB_steps_4 ?_
  exact r_iret C K rfl () ⟨rfl, trivial⟩ (S.sub [0, 1] (by decide) rfl) d_PB_steps_7 (Nat.le_of_ble_eq_true rfl) (Nat.le_of_ble_eq_true rfl)
theorem isF_1 {n f : Int32} (h : ¬ f < 0) (h2 : ¬ n ≤ f) : 1 = isF n f := by
  unfold isF
  rw [if_neg h, if_neg h2]
theorem isF_0a {n f : Int32} (h : f < 0) : 0 = isF n f := by
  unfold isF
  rw [if_pos h]
theorem isF_0b {n f : Int32} (h : n ≤ f) : 0 = isF n f := by
  unfold isF
  by_cases q : f < 0
  · rw [if_pos q]
  · rw [if_neg q, if_pos h]
theorem d_PB_isFunction_0 : decode c_PB_isFunction 0 = .ok (.iload_n 1, 1) := by decide +kernel
theorem d_PB_isFunction_1 : decode c_PB_isFunction 1 = .ok (.ifCond .lt 15, 3) := by decide +kernel
theorem d_PB_isFunction_4 : decode c_PB_isFunction 4 = .ok (.iload_n 1, 1) := by decide +kernel
theorem d_PB_isFunction_5 : decode c_PB_isFunction 5 = .ok (.aload_n 0, 1) := by decide +kernel
theorem d_PB_isFunction_6 : decode c_PB_isFunction 6 = .ok (.getfield 57, 3) := by decide +kernel
theorem d_PB_isFunction_9 : decode c_PB_isFunction 9 = .ok (.if_icmp .ge 7, 3) := by decide +kernel
theorem d_PB_isFunction_12 : decode c_PB_isFunction 12 = .ok (.iconst 1, 1) := by decide +kernel
theorem d_PB_isFunction_13 : decode c_PB_isFunction 13 = .ok (.goto 4, 3) := by decide +kernel
theorem d_PB_isFunction_16 : decode c_PB_isFunction 16 = .ok (.iconst 0, 1) := by decide +kernel
theorem d_PB_isFunction_17 : decode c_PB_isFunction 17 = .ok (.ireturn, 1) := by decide +kernel
set_option maxRecDepth 100000 in
set_option maxHeartbeats 16000000 in
/-- isFunction -/
theorem g_PB_isFunction (l : Launch) (G : va_G) (k : Nat → ClassId) (h0 : Nat) (s0 : Nat) (f : Int32) (ca : Nat) (cr : Nat) (cu : Nat) (cne : Nat) (cs : Nat) (cb : Nat) (nf : Nat) (it : Nat) (wp : Int32) : CI l y_PB_isFunction c_PB_isFunction 2 .boolean { frames := 0, cells := 0, slots := 0, locals := 0 } [.ref h0, .int f] G k s0 [(h0, .inr (0, [.ref ca, .ref cr, .ref cu, .ref cne, .ref cs, .ref cb, .int (nI nf), .int wp, .int (nI it)]))] (fun (r : Int32) (u : Unit) => r = isF (nI nf) f ∧ True) (fun u => [(h0, .inr (0, [.ref ca, .ref cr, .ref cu, .ref cne, .ref cs, .ref cb, .int (nI nf), .int wp, .int (nI it)]))]) 0 0 := by
  refine met_start (by decide) (Nat.le_of_ble_eq_true rfl) ?_
  intro p e s m below meth c C K hA hsz S ls hl
  generalize va_A [(h0, .inr (0, [.ref ca, .ref cr, .ref cu, .ref cne, .ref cs, .ref cb, .int (nI nf), .int wp, .int (nI it)]))] s0 = A at hA S ⊢
  have hx := C.1
  have hb := C.2.1
  have hl : lv_has ls 2 [(0, .ref h0), (1, .int f)] := hl
  refine lv_iload_n hx hb d_PB_isFunction_0 rfl (lv_at hl 1 rfl) ?_
  refine lv_if_lt (tgt := 16) hx hb d_PB_isFunction_1 (by decide) (fun hc1 => ?_) (fun hc1 => ?_)
  · refine lv_iconst (v := 0) hx hb d_PB_isFunction_16 (by decide) ?_
    exact r_iret C K rfl () ⟨(isF_0a hc1), trivial⟩ (S.sub [0] (by decide) rfl) d_PB_isFunction_17 (Nat.le_of_ble_eq_true rfl) (Nat.le_of_ble_eq_true rfl)
  · refine lv_iload_n hx hb d_PB_isFunction_4 rfl (lv_at hl 1 rfl) ?_
    refine lv_aload_n hx hb d_PB_isFunction_5 rfl (lv_at hl 0 rfl) ?_
    refine r_get C K S 0 rfl rfl clOk_PB 6 (by decide) wf_PB_57 (v := .int (nI nf)) rfl d_PB_isFunction_6 ?_
    refine lv_icmp_ge (tgt := 16) hx hb d_PB_isFunction_9 (by decide) (fun hc2 => ?_) (fun hc2 => ?_)
    · refine lv_iconst (v := 0) hx hb d_PB_isFunction_16 (by decide) ?_
      exact r_iret C K rfl () ⟨(isF_0b hc2), trivial⟩ (S.sub [0] (by decide) rfl) d_PB_isFunction_17 (Nat.le_of_ble_eq_true rfl) (Nat.le_of_ble_eq_true rfl)
    · refine lv_iconst (v := 1) hx hb d_PB_isFunction_12 (by decide) ?_
      refine lv_goto (tgt := 17) hx hb d_PB_isFunction_13 (by decide) ?_
      exact r_iret C K rfl () ⟨(isF_1 hc1 hc2), trivial⟩ (S.sub [0] (by decide) rfl) d_PB_isFunction_17 (Nat.le_of_ble_eq_true rfl) (Nat.le_of_ble_eq_true rfl)
def lnI (n : Int32) : Nat := if n < 0 ∨ 3000 < n then 0 else 1
theorem lnI_0 {n : Int32} (h : n < 0 ∨ 3000 < n) : 0 = nI (lnI n) := by
  unfold lnI
  rw [if_pos h]
  rfl
theorem lnI_1 {n : Int32} (h : ¬ n < 0) (h2 : ¬ 3000 < n) : 1 = nI (lnI n) := by
  unfold lnI
  rw [if_neg (fun q => q.elim h h2)]
  rfl
theorem d_PB_isLength_0 : decode c_PB_isLength 0 = .ok (.iload_n 0, 1) := by decide +kernel
theorem d_PB_isLength_1 : decode c_PB_isLength 1 = .ok (.ifCond .lt 14, 3) := by decide +kernel
theorem d_PB_isLength_4 : decode c_PB_isLength 4 = .ok (.iload_n 0, 1) := by decide +kernel
theorem d_PB_isLength_5 : decode c_PB_isLength 5 = .ok (.sipush 3000, 3) := by decide +kernel
theorem d_PB_isLength_8 : decode c_PB_isLength 8 = .ok (.if_icmp .gt 7, 3) := by decide +kernel
theorem d_PB_isLength_11 : decode c_PB_isLength 11 = .ok (.iconst 1, 1) := by decide +kernel
theorem d_PB_isLength_12 : decode c_PB_isLength 12 = .ok (.goto 4, 3) := by decide +kernel
theorem d_PB_isLength_15 : decode c_PB_isLength 15 = .ok (.iconst 0, 1) := by decide +kernel
theorem d_PB_isLength_16 : decode c_PB_isLength 16 = .ok (.ireturn, 1) := by decide +kernel
set_option maxRecDepth 100000 in
set_option maxHeartbeats 16000000 in
/-- isLength -/
theorem g_PB_isLength (l : Launch) (G : va_G) (k : Nat → ClassId) (s0 : Nat) (n9 : Int32) : CI l y_PB_isLength c_PB_isLength 1 .boolean { frames := 0, cells := 0, slots := 0, locals := 0 } [.int n9] G k s0 [] (fun (r : Int32) (u : Unit) => r = nI (lnI n9) ∧ True) (fun u => []) 0 0 := by
  refine met_start (by decide) (Nat.le_of_ble_eq_true rfl) ?_
  intro p e s m below meth c C K hA hsz S ls hl
  generalize va_A [] s0 = A at hA S ⊢
  have hx := C.1
  have hb := C.2.1
  have hl : lv_has ls 1 [(0, .int n9)] := hl
  refine lv_iload_n hx hb d_PB_isLength_0 rfl (lv_at hl 0 rfl) ?_
  refine lv_if_lt (tgt := 15) hx hb d_PB_isLength_1 (by decide) (fun hc1 => ?_) (fun hc1 => ?_)
  · refine lv_iconst (v := 0) hx hb d_PB_isLength_15 (by decide) ?_
    exact r_iret C K rfl () ⟨lnI_0 (Or.inl hc1), trivial⟩ (S.sub [] (by decide) rfl) d_PB_isLength_16 (Nat.le_of_ble_eq_true rfl) (Nat.le_of_ble_eq_true rfl)
  · refine lv_iload_n hx hb d_PB_isLength_4 rfl (lv_at hl 0 rfl) ?_
    refine lv_sipush (v := 3000) hx hb d_PB_isLength_5 (by decide) ?_
    refine lv_icmp_gt (tgt := 15) hx hb d_PB_isLength_8 (by decide) (fun hc2 => ?_) (fun hc2 => ?_)
    · refine lv_iconst (v := 0) hx hb d_PB_isLength_15 (by decide) ?_
      exact r_iret C K rfl () ⟨lnI_0 (Or.inr hc2), trivial⟩ (S.sub [] (by decide) rfl) d_PB_isLength_16 (Nat.le_of_ble_eq_true rfl) (Nat.le_of_ble_eq_true rfl)
    · refine lv_iconst (v := 1) hx hb d_PB_isLength_11 (by decide) ?_
      refine lv_goto (tgt := 16) hx hb d_PB_isLength_12 (by decide) ?_
      exact r_iret C K rfl () ⟨lnI_1 hc1 hc2, trivial⟩ (S.sub [] (by decide) rfl) d_PB_isLength_16 (Nat.le_of_ble_eq_true rfl) (Nat.le_of_ble_eq_true rfl)
