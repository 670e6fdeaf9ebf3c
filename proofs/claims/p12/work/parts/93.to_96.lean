section
theorem d_Mo_wait_0 : decode c_Mo_wait 0 = .ok (.aload_n 0, 1) := by decide +kernel
theorem d_Mo_wait_1 : decode c_Mo_wait 1 = .ok (.getfield 38, 3) := by decide +kernel
theorem d_Mo_wait_4 : decode c_Mo_wait 4 = .ok (.aload_n 0, 1) := by decide +kernel
theorem d_Mo_wait_5 : decode c_Mo_wait 5 = .ok (.getfield 143, 3) := by decide +kernel
theorem d_Mo_wait_8 : decode c_Mo_wait 8 = .ok (.iload_n 1, 1) := by decide +kernel
theorem d_Mo_wait_9 : decode c_Mo_wait 9 = .ok (.iastore, 1) := by decide +kernel
theorem d_Mo_wait_10 : decode c_Mo_wait 10 = .ok (.aload_n 0, 1) := by decide +kernel
theorem d_Mo_wait_11 : decode c_Mo_wait 11 = .ok (.getfield 41, 3) := by decide +kernel
theorem d_Mo_wait_14 : decode c_Mo_wait 14 = .ok (.aload_n 0, 1) := by decide +kernel
theorem d_Mo_wait_15 : decode c_Mo_wait 15 = .ok (.getfield 143, 3) := by decide +kernel
theorem d_Mo_wait_18 : decode c_Mo_wait 18 = .ok (.aload_n 0, 1) := by decide +kernel
theorem d_Mo_wait_19 : decode c_Mo_wait 19 = .ok (.getfield 146, 3) := by decide +kernel
theorem d_Mo_wait_22 : decode c_Mo_wait 22 = .ok (.iastore, 1) := by decide +kernel
theorem d_Mo_wait_23 : decode c_Mo_wait 23 = .ok (.aload_n 0, 1) := by decide +kernel
theorem d_Mo_wait_24 : decode c_Mo_wait 24 = .ok (.getfield 44, 3) := by decide +kernel
theorem d_Mo_wait_27 : decode c_Mo_wait 27 = .ok (.aload_n 0, 1) := by decide +kernel
theorem d_Mo_wait_28 : decode c_Mo_wait 28 = .ok (.getfield 143, 3) := by decide +kernel
theorem d_Mo_wait_31 : decode c_Mo_wait 31 = .ok (.iload_n 2, 1) := by decide +kernel
theorem d_Mo_wait_32 : decode c_Mo_wait 32 = .ok (.iastore, 1) := by decide +kernel
theorem d_Mo_wait_33 : decode c_Mo_wait 33 = .ok (.aload_n 0, 1) := by decide +kernel
theorem d_Mo_wait_34 : decode c_Mo_wait 34 = .ok (.getfield 47, 3) := by decide +kernel
theorem d_Mo_wait_37 : decode c_Mo_wait 37 = .ok (.aload_n 0, 1) := by decide +kernel
theorem d_Mo_wait_38 : decode c_Mo_wait 38 = .ok (.getfield 143, 3) := by decide +kernel
theorem d_Mo_wait_41 : decode c_Mo_wait 41 = .ok (.aload_n 0, 1) := by decide +kernel
theorem d_Mo_wait_42 : decode c_Mo_wait 42 = .ok (.getfield 149, 3) := by decide +kernel
theorem d_Mo_wait_45 : decode c_Mo_wait 45 = .ok (.iastore, 1) := by decide +kernel
theorem d_Mo_wait_46 : decode c_Mo_wait 46 = .ok (.aload_n 0, 1) := by decide +kernel
theorem d_Mo_wait_47 : decode c_Mo_wait 47 = .ok (.getfield 50, 3) := by decide +kernel
theorem d_Mo_wait_50 : decode c_Mo_wait 50 = .ok (.aload_n 0, 1) := by decide +kernel
theorem d_Mo_wait_51 : decode c_Mo_wait 51 = .ok (.getfield 143, 3) := by decide +kernel
theorem d_Mo_wait_54 : decode c_Mo_wait 54 = .ok (.aload_n 0, 1) := by decide +kernel
theorem d_Mo_wait_55 : decode c_Mo_wait 55 = .ok (.getfield 152, 3) := by decide +kernel
theorem d_Mo_wait_58 : decode c_Mo_wait 58 = .ok (.iastore, 1) := by decide +kernel
theorem d_Mo_wait_59 : decode c_Mo_wait 59 = .ok (.aload_n 0, 1) := by decide +kernel
theorem d_Mo_wait_60 : decode c_Mo_wait 60 = .ok (.dup, 1) := by decide +kernel
theorem d_Mo_wait_61 : decode c_Mo_wait 61 = .ok (.getfield 143, 3) := by decide +kernel
theorem d_Mo_wait_64 : decode c_Mo_wait 64 = .ok (.iconst 1, 1) := by decide +kernel
theorem d_Mo_wait_65 : decode c_Mo_wait 65 = .ok (.iadd, 1) := by decide +kernel
theorem d_Mo_wait_66 : decode c_Mo_wait 66 = .ok (.putfield 143, 3) := by decide +kernel
theorem d_Mo_wait_69 : decode c_Mo_wait 69 = .ok (.return_, 1) := by decide +kernel
set_option maxRecDepth 100000 in
set_option maxHeartbeats 16000000 in
/-- wait(kd, w9) -/
theorem g_Mo_wait (l : Launch) (G : va_G) (k : Nat → ClassId) (h0 : Nat) (s0 : Nat) (kd : Nat) (w9 : Nat) (fn : Nat) (bs : Nat) (kn : Nat) (wt : Nat) (ma : Nat → Nat) (iv : Nat → Int32) (co : Int64) (WK : Nat → Nat) (WF : Nat → Nat) (WA : Nat → Nat) (WB : Nat → Nat) (WN : Nat → Nat) (hwt : wt < 1200) : CV l y_Mo_wait c_Mo_wait 3 { frames := 0, cells := 0, slots := 0, locals := 0 } [.ref h0, .int (nI kd), .int (nI w9)] G k s0 [(h0, .inr (8, moL ma (va_up (va_up (va_up (va_up iv 8 (nI fn)) 6 (nI bs)) 7 (nI kn)) 5 (nI wt)) co)), ((ma 7), .inl (k 0, 1200, .inl (fun i => nI (WK i)))), ((ma 8), .inl (k 0, 1200, .inl (fun i => nI (WF i)))), ((ma 9), .inl (k 0, 1200, .inl (fun i => nI (WA i)))), ((ma 10), .inl (k 0, 1200, .inl (fun i => nI (WB i)))), ((ma 11), .inl (k 0, 1200, .inl (fun i => nI (WN i))))] (fun (u : Unit) => True) (fun u => [(h0, .inr (8, moL ma (va_up (va_up (va_up (va_up iv 8 (nI fn)) 6 (nI bs)) 7 (nI kn)) 5 (nI (wt + 1))) co)), ((ma 7), .inl (k 0, 1200, .inl (fun i => nI ((va_up WK wt kd) i)))), ((ma 8), .inl (k 0, 1200, .inl (fun i => nI ((va_up WF wt fn) i)))), ((ma 9), .inl (k 0, 1200, .inl (fun i => nI ((va_up WA wt w9) i)))), ((ma 10), .inl (k 0, 1200, .inl (fun i => nI ((va_up WB wt bs) i)))), ((ma 11), .inl (k 0, 1200, .inl (fun i => nI ((va_up WN wt kn) i))))]) 0 0 := by
  refine met_start (by decide) (Nat.le_of_ble_eq_true rfl) ?_
  intro p e s m below meth c C K hA hsz S ls hl
  generalize va_A [(h0, .inr (8, moL ma (va_up (va_up (va_up (va_up iv 8 (nI fn)) 6 (nI bs)) 7 (nI kn)) 5 (nI wt)) co)), ((ma 7), .inl (k 0, 1200, .inl (fun i => nI (WK i)))), ((ma 8), .inl (k 0, 1200, .inl (fun i => nI (WF i)))), ((ma 9), .inl (k 0, 1200, .inl (fun i => nI (WA i)))), ((ma 10), .inl (k 0, 1200, .inl (fun i => nI (WB i)))), ((ma 11), .inl (k 0, 1200, .inl (fun i => nI (WN i))))] s0 = A at hA S ⊢
  have hx := C.1
  have hb := C.2.1
  have hl : lv_has ls 3 [(0, .ref h0), (1, .int (nI kd)), (2, .int (nI w9))] := hl
  refine lv_aload_n hx hb d_Mo_wait_0 rfl (lv_at hl 0 rfl) ?_
  refine r_get C K S 0 rfl rfl clOk_Mo 13 (by decide) wf_Mo_38 (v := .ref (ma 7)) rfl d_Mo_wait_1 ?_
  refine lv_aload_n hx hb d_Mo_wait_4 rfl (lv_at hl 0 rfl) ?_
  refine r_get C K S 0 rfl rfl clOk_Mo 18 (by decide) wf_Mo_143 (v := .int (nI wt)) rfl d_Mo_wait_5 ?_
  refine lv_iload_n hx hb d_Mo_wait_8 rfl (lv_at hl 1 rfl) ?_
  refine r_iast C K S 1 rfl (i := nI wt) (x := nI kd) (show vp_in (nI wt) _ from vp_in_nI (n := wt) (by omega) (by decide)) (f' := fun i => nI (va_up WK wt kd i)) (ws' := [(h0, .inr (8, moL ma (va_up (va_up (va_up (va_up iv 8 (nI fn)) 6 (nI bs)) 7 (nI kn)) 5 (nI wt)) co)), ((ma 7), .inl (k 0, 1200, .inl (fun i => nI (va_up WK wt kd i)))), ((ma 8), .inl (k 0, 1200, .inl (fun i => nI (WF i)))), ((ma 9), .inl (k 0, 1200, .inl (fun i => nI (WA i)))), ((ma 10), .inl (k 0, 1200, .inl (fun i => nI (WB i)))), ((ma 11), .inl (k 0, 1200, .inl (fun i => nI (WN i))))]) (show upd _ (nI wt : Int32).toNatClampNeg (nI kd) = _ from upd_nI WK (j := wt) (by omega) kd) rfl d_Mo_wait_9 (fun H locs S => ?_)
  refine lv_aload_n hx hb d_Mo_wait_10 rfl (lv_at hl 0 rfl) ?_
  refine r_get C K S 0 rfl rfl clOk_Mo 14 (by decide) wf_Mo_41 (v := .ref (ma 8)) rfl d_Mo_wait_11 ?_
  refine lv_aload_n hx hb d_Mo_wait_14 rfl (lv_at hl 0 rfl) ?_
  refine r_get C K S 0 rfl rfl clOk_Mo 18 (by decide) wf_Mo_143 (v := .int (nI wt)) rfl d_Mo_wait_15 ?_
  refine lv_aload_n hx hb d_Mo_wait_18 rfl (lv_at hl 0 rfl) ?_
  refine r_get C K S 0 rfl rfl clOk_Mo 22 (by decide) wf_Mo_146 (v := .int (nI fn)) rfl d_Mo_wait_19 ?_
  refine r_iast C K S 2 rfl (i := nI wt) (x := nI fn) (show vp_in (nI wt) _ from vp_in_nI (n := wt) (by omega) (by decide)) (f' := fun i => nI (va_up WF wt fn i)) (ws' := [(h0, .inr (8, moL ma (va_up (va_up (va_up (va_up iv 8 (nI fn)) 6 (nI bs)) 7 (nI kn)) 5 (nI wt)) co)), ((ma 7), .inl (k 0, 1200, .inl (fun i => nI (va_up WK wt kd i)))), ((ma 8), .inl (k 0, 1200, .inl (fun i => nI (va_up WF wt fn i)))), ((ma 9), .inl (k 0, 1200, .inl (fun i => nI (WA i)))), ((ma 10), .inl (k 0, 1200, .inl (fun i => nI (WB i)))), ((ma 11), .inl (k 0, 1200, .inl (fun i => nI (WN i))))]) (show upd _ (nI wt : Int32).toNatClampNeg (nI fn) = _ from upd_nI WF (j := wt) (by omega) fn) rfl d_Mo_wait_22 (fun H locs S => ?_)
  refine lv_aload_n hx hb d_Mo_wait_23 rfl (lv_at hl 0 rfl) ?_
  refine r_get C K S 0 rfl rfl clOk_Mo 15 (by decide) wf_Mo_44 (v := .ref (ma 9)) rfl d_Mo_wait_24 ?_
  refine lv_aload_n hx hb d_Mo_wait_27 rfl (lv_at hl 0 rfl) ?_
  refine r_get C K S 0 rfl rfl clOk_Mo 18 (by decide) wf_Mo_143 (v := .int (nI wt)) rfl d_Mo_wait_28 ?_
  refine lv_iload_n hx hb d_Mo_wait_31 rfl (lv_at hl 2 rfl) ?_
  refine r_iast C K S 3 rfl (i := nI wt) (x := nI w9) (show vp_in (nI wt) _ from vp_in_nI (n := wt) (by omega) (by decide)) (f' := fun i => nI (va_up WA wt w9 i)) (ws' := [(h0, .inr (8, moL ma (va_up (va_up (va_up (va_up iv 8 (nI fn)) 6 (nI bs)) 7 (nI kn)) 5 (nI wt)) co)), ((ma 7), .inl (k 0, 1200, .inl (fun i => nI (va_up WK wt kd i)))), ((ma 8), .inl (k 0, 1200, .inl (fun i => nI (va_up WF wt fn i)))), ((ma 9), .inl (k 0, 1200, .inl (fun i => nI (va_up WA wt w9 i)))), ((ma 10), .inl (k 0, 1200, .inl (fun i => nI (WB i)))), ((ma 11), .inl (k 0, 1200, .inl (fun i => nI (WN i))))]) (show upd _ (nI wt : Int32).toNatClampNeg (nI w9) = _ from upd_nI WA (j := wt) (by omega) w9) rfl d_Mo_wait_32 (fun H locs S => ?_)
  refine lv_aload_n hx hb d_Mo_wait_33 rfl (lv_at hl 0 rfl) ?_
  refine r_get C K S 0 rfl rfl clOk_Mo 16 (by decide) wf_Mo_47 (v := .ref (ma 10)) rfl d_Mo_wait_34 ?_
  refine lv_aload_n hx hb d_Mo_wait_37 rfl (lv_at hl 0 rfl) ?_
  refine r_get C K S 0 rfl rfl clOk_Mo 18 (by decide) wf_Mo_143 (v := .int (nI wt)) rfl d_Mo_wait_38 ?_
  refine lv_aload_n hx hb d_Mo_wait_41 rfl (lv_at hl 0 rfl) ?_
  refine r_get C K S 0 rfl rfl clOk_Mo 20 (by decide) wf_Mo_149 (v := .int (nI bs)) rfl d_Mo_wait_42 ?_
  refine r_iast C K S 4 rfl (i := nI wt) (x := nI bs) (show vp_in (nI wt) _ from vp_in_nI (n := wt) (by omega) (by decide)) (f' := fun i => nI (va_up WB wt bs i)) (ws' := [(h0, .inr (8, moL ma (va_up (va_up (va_up (va_up iv 8 (nI fn)) 6 (nI bs)) 7 (nI kn)) 5 (nI wt)) co)), ((ma 7), .inl (k 0, 1200, .inl (fun i => nI (va_up WK wt kd i)))), ((ma 8), .inl (k 0, 1200, .inl (fun i => nI (va_up WF wt fn i)))), ((ma 9), .inl (k 0, 1200, .inl (fun i => nI (va_up WA wt w9 i)))), ((ma 10), .inl (k 0, 1200, .inl (fun i => nI (va_up WB wt bs i)))), ((ma 11), .inl (k 0, 1200, .inl (fun i => nI (WN i))))]) (show upd _ (nI wt : Int32).toNatClampNeg (nI bs) = _ from upd_nI WB (j := wt) (by omega) bs) rfl d_Mo_wait_45 (fun H locs S => ?_)
  refine lv_aload_n hx hb d_Mo_wait_46 rfl (lv_at hl 0 rfl) ?_
  refine r_get C K S 0 rfl rfl clOk_Mo 17 (by decide) wf_Mo_50 (v := .ref (ma 11)) rfl d_Mo_wait_47 ?_
  refine lv_aload_n hx hb d_Mo_wait_50 rfl (lv_at hl 0 rfl) ?_
  refine r_get C K S 0 rfl rfl clOk_Mo 18 (by decide) wf_Mo_143 (v := .int (nI wt)) rfl d_Mo_wait_51 ?_
  refine lv_aload_n hx hb d_Mo_wait_54 rfl (lv_at hl 0 rfl) ?_
  refine r_get C K S 0 rfl rfl clOk_Mo 21 (by decide) wf_Mo_152 (v := .int (nI kn)) rfl d_Mo_wait_55 ?_
  refine r_iast C K S 5 rfl (i := nI wt) (x := nI kn) (show vp_in (nI wt) _ from vp_in_nI (n := wt) (by omega) (by decide)) (f' := fun i => nI (va_up WN wt kn i)) (ws' := [(h0, .inr (8, moL ma (va_up (va_up (va_up (va_up iv 8 (nI fn)) 6 (nI bs)) 7 (nI kn)) 5 (nI wt)) co)), ((ma 7), .inl (k 0, 1200, .inl (fun i => nI (va_up WK wt kd i)))), ((ma 8), .inl (k 0, 1200, .inl (fun i => nI (va_up WF wt fn i)))), ((ma 9), .inl (k 0, 1200, .inl (fun i => nI (va_up WA wt w9 i)))), ((ma 10), .inl (k 0, 1200, .inl (fun i => nI (va_up WB wt bs i)))), ((ma 11), .inl (k 0, 1200, .inl (fun i => nI (va_up WN wt kn i))))]) (show upd _ (nI wt : Int32).toNatClampNeg (nI kn) = _ from upd_nI WN (j := wt) (by omega) kn) rfl d_Mo_wait_58 (fun H locs S => ?_)
  refine lv_aload_n hx hb d_Mo_wait_59 rfl (lv_at hl 0 rfl) ?_
  refine lv_dup hx hb d_Mo_wait_60 rfl ?_
  refine r_get C K S 0 rfl rfl clOk_Mo 18 (by decide) wf_Mo_143 (v := .int (nI wt)) rfl d_Mo_wait_61 ?_
  refine lv_iconst (v := 1) hx hb d_Mo_wait_64 (by decide) ?_
  refine z_iadd (x := nI wt) (y := 1) (v := nI (wt + 1)) hx hb d_Mo_wait_65 (nI_add wt 1) ?_
  refine r_put C K S 0 rfl rfl clOk_Mo 18 (by decide) wf_Mo_143 rfl (ty := .int) (v := .int (nI (wt + 1))) (by decide +kernel) rfl rfl (Nat.le_of_ble_eq_true rfl) (fs' := moL ma (va_up (va_up (va_up (va_up iv 8 (nI fn)) 6 (nI bs)) 7 (nI kn)) 5 (nI (wt + 1))) co) (ws' := [(h0, .inr (8, moL ma (va_up (va_up (va_up (va_up iv 8 (nI fn)) 6 (nI bs)) 7 (nI kn)) 5 (nI (wt + 1))) co)), ((ma 7), .inl (k 0, 1200, .inl (fun i => nI (va_up WK wt kd i)))), ((ma 8), .inl (k 0, 1200, .inl (fun i => nI (va_up WF wt fn i)))), ((ma 9), .inl (k 0, 1200, .inl (fun i => nI (va_up WA wt w9 i)))), ((ma 10), .inl (k 0, 1200, .inl (fun i => nI (va_up WB wt bs i)))), ((ma 11), .inl (k 0, 1200, .inl (fun i => nI (va_up WN wt kn i))))]) rfl rfl d_Mo_wait_66 (fun H locs S => ?_)
  exact r_vret C K () trivial (S.sub [0, 1, 2, 3, 4, 5] (by decide) rfl) d_Mo_wait_69 (Nat.le_of_ble_eq_true rfl) (Nat.le_of_ble_eq_true rfl)
theorem d_Mo_enter_0 : decode c_Mo_enter 0 = .ok (.aload_n 0, 1) := by decide +kernel
theorem d_Mo_enter_1 : decode c_Mo_enter 1 = .ok (.getfield 155, 3) := by decide +kernel
theorem d_Mo_enter_4 : decode c_Mo_enter 4 = .ok (.bipush 60, 2) := by decide +kernel
theorem d_Mo_enter_6 : decode c_Mo_enter 6 = .ok (.if_icmp .ne 9, 3) := by decide +kernel
theorem d_Mo_enter_9 : decode c_Mo_enter 9 = .ok (.aload_n 0, 1) := by decide +kernel
theorem d_Mo_enter_10 : decode c_Mo_enter 10 = .ok (.iconst 1, 1) := by decide +kernel
theorem d_Mo_enter_11 : decode c_Mo_enter 11 = .ok (.putfield 158, 3) := by decide +kernel
theorem d_Mo_enter_14 : decode c_Mo_enter 14 = .ok (.return_, 1) := by decide +kernel
theorem d_Mo_enter_15 : decode c_Mo_enter 15 = .ok (.aload_n 0, 1) := by decide +kernel
theorem d_Mo_enter_16 : decode c_Mo_enter 16 = .ok (.dup, 1) := by decide +kernel
theorem d_Mo_enter_17 : decode c_Mo_enter 17 = .ok (.getfield 155, 3) := by decide +kernel
theorem d_Mo_enter_20 : decode c_Mo_enter 20 = .ok (.iconst 1, 1) := by decide +kernel
theorem d_Mo_enter_21 : decode c_Mo_enter 21 = .ok (.iadd, 1) := by decide +kernel
theorem d_Mo_enter_22 : decode c_Mo_enter 22 = .ok (.putfield 155, 3) := by decide +kernel
theorem d_Mo_enter_25 : decode c_Mo_enter 25 = .ok (.aload_n 0, 1) := by decide +kernel
theorem d_Mo_enter_26 : decode c_Mo_enter 26 = .ok (.iload_n 1, 1) := by decide +kernel
theorem d_Mo_enter_27 : decode c_Mo_enter 27 = .ok (.putfield 146, 3) := by decide +kernel
theorem d_Mo_enter_30 : decode c_Mo_enter 30 = .ok (.aload_n 0, 1) := by decide +kernel
theorem d_Mo_enter_31 : decode c_Mo_enter 31 = .ok (.iconst 0, 1) := by decide +kernel
theorem d_Mo_enter_32 : decode c_Mo_enter 32 = .ok (.putfield 162, 3) := by decide +kernel
theorem d_Mo_enter_35 : decode c_Mo_enter 35 = .ok (.aload_n 0, 1) := by decide +kernel
theorem d_Mo_enter_36 : decode c_Mo_enter 36 = .ok (.iload_n 2, 1) := by decide +kernel
theorem d_Mo_enter_37 : decode c_Mo_enter 37 = .ok (.putfield 149, 3) := by decide +kernel
theorem d_Mo_enter_40 : decode c_Mo_enter 40 = .ok (.aload_n 0, 1) := by decide +kernel
theorem d_Mo_enter_41 : decode c_Mo_enter 41 = .ok (.aload_n 0, 1) := by decide +kernel
theorem d_Mo_enter_42 : decode c_Mo_enter 42 = .ok (.getfield 9, 3) := by decide +kernel
theorem d_Mo_enter_45 : decode c_Mo_enter 45 = .ok (.iload_n 1, 1) := by decide +kernel
theorem d_Mo_enter_46 : decode c_Mo_enter 46 = .ok (.iaload, 1) := by decide +kernel
theorem d_Mo_enter_47 : decode c_Mo_enter 47 = .ok (.putfield 152, 3) := by decide +kernel
theorem d_Mo_enter_50 : decode c_Mo_enter 50 = .ok (.return_, 1) := by decide +kernel
set_option maxRecDepth 100000 in
set_option maxHeartbeats 16000000 in
/-- enter(g9, b9) -/
theorem g_Mo_enter (l : Launch) (G : va_G) (k : Nat → ClassId) (h0 : Nat) (s0 : Nat) (g9 : Nat) (b9 : Nat) (cl : Nat) (ma : Nat → Nat) (iv : Nat → Int32) (co : Int64) (tk : Nat → Nat) (hg : g9 < 4) (hcl : cl < 60) : CV l y_Mo_enter c_Mo_enter 3 { frames := 0, cells := 0, slots := 0, locals := 0 } [.ref h0, .int (nI g9), .int (nI b9)] G k s0 [(h0, .inr (8, moL ma (va_up iv 10 (nI cl)) co)), ((ma 0), .inl (k 0, 4, .inl (fun i => nI (tk i))))] (fun (u : Unit) => True) (fun u => [(h0, .inr (8, moL ma (va_up (va_up (va_up (va_up (va_up iv 10 (nI (cl + 1))) 8 (nI g9)) 9 0) 6 (nI b9)) 7 (nI (tk g9))) co)), ((ma 0), .inl (k 0, 4, .inl (fun i => nI (tk i))))]) 0 0 := by
  refine met_start (by decide) (Nat.le_of_ble_eq_true rfl) ?_
  intro p e s m below meth c C K hA hsz S ls hl
  generalize va_A [(h0, .inr (8, moL ma (va_up iv 10 (nI cl)) co)), ((ma 0), .inl (k 0, 4, .inl (fun i => nI (tk i))))] s0 = A at hA S ⊢
  have hx := C.1
  have hb := C.2.1
  have hl : lv_has ls 3 [(0, .ref h0), (1, .int (nI g9)), (2, .int (nI b9))] := hl
  refine lv_aload_n hx hb d_Mo_enter_0 rfl (lv_at hl 0 rfl) ?_
  refine r_get C K S 0 rfl rfl clOk_Mo 24 (by decide) wf_Mo_155 (v := .int (nI cl)) rfl d_Mo_enter_1 ?_
  refine lv_bipush (v := 60) hx hb d_Mo_enter_4 (by decide) ?_
  refine z_icmp_ne (a := cl) (b := 60) (tgt := 15) hx hb d_Mo_enter_6 (by decide) (by omega) (by omega) (fun hc1 => ?_) (fun hc1 => False.elim (by omega))
  refine lv_aload_n hx hb d_Mo_enter_15 rfl (lv_at hl 0 rfl) ?_
  refine lv_dup hx hb d_Mo_enter_16 rfl ?_
  refine r_get C K S 0 rfl rfl clOk_Mo 24 (by decide) wf_Mo_155 (v := .int (nI cl)) rfl d_Mo_enter_17 ?_
  refine lv_iconst (v := 1) hx hb d_Mo_enter_20 (by decide) ?_
  refine z_iadd (x := nI cl) (y := 1) (v := nI (cl + 1)) hx hb d_Mo_enter_21 (nI_add cl 1) ?_
  refine r_put C K S 0 rfl rfl clOk_Mo 24 (by decide) wf_Mo_155 rfl (ty := .int) (v := .int (nI (cl + 1))) (by decide +kernel) rfl rfl (Nat.le_of_ble_eq_true rfl) (fs' := moL ma (va_up iv 10 (nI (cl + 1))) co) (ws' := [(h0, .inr (8, moL ma (va_up iv 10 (nI (cl + 1))) co)), ((ma 0), .inl (k 0, 4, .inl (fun i => nI (tk i))))]) rfl rfl d_Mo_enter_22 (fun H locs S => ?_)
  refine lv_aload_n hx hb d_Mo_enter_25 rfl (lv_at hl 0 rfl) ?_
  refine lv_iload_n hx hb d_Mo_enter_26 rfl (lv_at hl 1 rfl) ?_
  refine r_put C K S 0 rfl rfl clOk_Mo 22 (by decide) wf_Mo_146 rfl (ty := .int) (v := .int (nI g9)) (by decide +kernel) rfl rfl (Nat.le_of_ble_eq_true rfl) (fs' := moL ma (va_up (va_up iv 10 (nI (cl + 1))) 8 (nI g9)) co) (ws' := [(h0, .inr (8, moL ma (va_up (va_up iv 10 (nI (cl + 1))) 8 (nI g9)) co)), ((ma 0), .inl (k 0, 4, .inl (fun i => nI (tk i))))]) rfl rfl d_Mo_enter_27 (fun H locs S => ?_)
  refine lv_aload_n hx hb d_Mo_enter_30 rfl (lv_at hl 0 rfl) ?_
  refine lv_iconst (v := 0) hx hb d_Mo_enter_31 (by decide) ?_
  refine r_put C K S 0 rfl rfl clOk_Mo 23 (by decide) wf_Mo_162 rfl (ty := .int) (v := .int 0) (by decide +kernel) rfl rfl (Nat.le_of_ble_eq_true rfl) (fs' := moL ma (va_up (va_up (va_up iv 10 (nI (cl + 1))) 8 (nI g9)) 9 0) co) (ws' := [(h0, .inr (8, moL ma (va_up (va_up (va_up iv 10 (nI (cl + 1))) 8 (nI g9)) 9 0) co)), ((ma 0), .inl (k 0, 4, .inl (fun i => nI (tk i))))]) rfl rfl d_Mo_enter_32 (fun H locs S => ?_)
  refine lv_aload_n hx hb d_Mo_enter_35 rfl (lv_at hl 0 rfl) ?_
  refine lv_iload_n hx hb d_Mo_enter_36 rfl (lv_at hl 2 rfl) ?_
  refine r_put C K S 0 rfl rfl clOk_Mo 20 (by decide) wf_Mo_149 rfl (ty := .int) (v := .int (nI b9)) (by decide +kernel) rfl rfl (Nat.le_of_ble_eq_true rfl) (fs' := moL ma (va_up (va_up (va_up (va_up iv 10 (nI (cl + 1))) 8 (nI g9)) 9 0) 6 (nI b9)) co) (ws' := [(h0, .inr (8, moL ma (va_up (va_up (va_up (va_up iv 10 (nI (cl + 1))) 8 (nI g9)) 9 0) 6 (nI b9)) co)), ((ma 0), .inl (k 0, 4, .inl (fun i => nI (tk i))))]) rfl rfl d_Mo_enter_37 (fun H locs S => ?_)
  refine lv_aload_n hx hb d_Mo_enter_40 rfl (lv_at hl 0 rfl) ?_
  refine lv_aload_n hx hb d_Mo_enter_41 rfl (lv_at hl 0 rfl) ?_
  refine r_get C K S 0 rfl rfl clOk_Mo 1 (by decide) wf_Mo_9 (v := .ref (ma 0)) rfl d_Mo_enter_42 ?_
  refine lv_iload_n hx hb d_Mo_enter_45 rfl (lv_at hl 1 rfl) ?_
  refine r_iald C K S 1 rfl (i := nI g9) (show vp_in (nI g9) _ from vp_in_nI (n := g9) (by omega) (by decide)) (v := nI (tk g9)) (by rw [nI_clamp (by omega)]) d_Mo_enter_46 ?_
  refine r_put C K S 0 rfl rfl clOk_Mo 21 (by decide) wf_Mo_152 rfl (ty := .int) (v := .int (nI (tk g9))) (by decide +kernel) rfl rfl (Nat.le_of_ble_eq_true rfl) (fs' := moL ma (va_up (va_up (va_up (va_up (va_up iv 10 (nI (cl + 1))) 8 (nI g9)) 9 0) 6 (nI b9)) 7 (nI (tk g9))) co) (ws' := [(h0, .inr (8, moL ma (va_up (va_up (va_up (va_up (va_up iv 10 (nI (cl + 1))) 8 (nI g9)) 9 0) 6 (nI b9)) 7 (nI (tk g9))) co)), ((ma 0), .inl (k 0, 4, .inl (fun i => nI (tk i))))]) rfl rfl d_Mo_enter_47 (fun H locs S => ?_)
  exact r_vret C K () trivial (S.sub [0, 1] (by decide) rfl) d_Mo_enter_50 (Nat.le_of_ble_eq_true rfl) (Nat.le_of_ble_eq_true rfl)
set_option maxRecDepth 100000 in
set_option maxHeartbeats 16000000 in
/-- enter, too long -/
theorem g_Mo_enter_l (l : Launch) (G : va_G) (k : Nat → ClassId) (h0 : Nat) (s0 : Nat) (g9 : Nat) (b9 : Nat) (cl : Nat) (ma : Nat → Nat) (iv : Nat → Int32) (co : Int64) (tk : Nat → Nat) (hcl : cl = 60) : CV l y_Mo_enter c_Mo_enter 3 { frames := 0, cells := 0, slots := 0, locals := 0 } [.ref h0, .int (nI g9), .int (nI b9)] G k s0 [(h0, .inr (8, moL ma (va_up iv 10 (nI cl)) co)), ((ma 0), .inl (k 0, 4, .inl (fun i => nI (tk i))))] (fun (u : Unit) => True) (fun u => [(h0, .inr (8, moL ma (va_up (va_up iv 10 (nI cl)) 11 1) co)), ((ma 0), .inl (k 0, 4, .inl (fun i => nI (tk i))))]) 0 0 := by
  refine met_start (by decide) (Nat.le_of_ble_eq_true rfl) ?_
  intro p e s m below meth c C K hA hsz S ls hl
  generalize va_A [(h0, .inr (8, moL ma (va_up iv 10 (nI cl)) co)), ((ma 0), .inl (k 0, 4, .inl (fun i => nI (tk i))))] s0 = A at hA S ⊢
  have hx := C.1
  have hb := C.2.1
  have hl : lv_has ls 3 [(0, .ref h0), (1, .int (nI g9)), (2, .int (nI b9))] := hl
  refine lv_aload_n hx hb d_Mo_enter_0 rfl (lv_at hl 0 rfl) ?_
  refine r_get C K S 0 rfl rfl clOk_Mo 24 (by decide) wf_Mo_155 (v := .int (nI cl)) rfl d_Mo_enter_1 ?_
  refine lv_bipush (v := 60) hx hb d_Mo_enter_4 (by decide) ?_
  refine z_icmp_ne (a := cl) (b := 60) (tgt := 15) hx hb d_Mo_enter_6 (by decide) (by omega) (by omega) (fun hc1 => False.elim (by omega)) (fun hc1 => ?_)
  refine lv_aload_n hx hb d_Mo_enter_9 rfl (lv_at hl 0 rfl) ?_
  refine lv_iconst (v := 1) hx hb d_Mo_enter_10 (by decide) ?_
  refine r_put C K S 0 rfl rfl clOk_Mo 25 (by decide) wf_Mo_158 rfl (ty := .boolean) (v := .int 1) (by decide +kernel) rfl rfl (Nat.le_of_ble_eq_true rfl) (fs' := moL ma (va_up (va_up iv 10 (nI cl)) 11 1) co) (ws' := [(h0, .inr (8, moL ma (va_up (va_up iv 10 (nI cl)) 11 1) co)), ((ma 0), .inl (k 0, 4, .inl (fun i => nI (tk i))))]) rfl rfl d_Mo_enter_11 (fun H locs S => ?_)
  exact r_vret C K () trivial (S.sub [0, 1] (by decide) rfl) d_Mo_enter_14 (Nat.le_of_ble_eq_true rfl) (Nat.le_of_ble_eq_true rfl)
theorem d_Mo_beginOne_0 : decode c_Mo_beginOne 0 = .ok (.aload_n 0, 1) := by decide +kernel
theorem d_Mo_beginOne_1 : decode c_Mo_beginOne 1 = .ok (.getfield 165, 3) := by decide +kernel
theorem d_Mo_beginOne_4 : decode c_Mo_beginOne 4 = .ok (.sipush 20000, 3) := by decide +kernel
theorem d_Mo_beginOne_7 : decode c_Mo_beginOne 7 = .ok (.if_icmp .ne 9, 3) := by decide +kernel
theorem d_Mo_beginOne_10 : decode c_Mo_beginOne 10 = .ok (.aload_n 0, 1) := by decide +kernel
theorem d_Mo_beginOne_11 : decode c_Mo_beginOne 11 = .ok (.iconst 1, 1) := by decide +kernel
theorem d_Mo_beginOne_12 : decode c_Mo_beginOne 12 = .ok (.putfield 158, 3) := by decide +kernel
theorem d_Mo_beginOne_15 : decode c_Mo_beginOne 15 = .ok (.return_, 1) := by decide +kernel
theorem d_Mo_beginOne_16 : decode c_Mo_beginOne 16 = .ok (.aload_n 0, 1) := by decide +kernel
theorem d_Mo_beginOne_17 : decode c_Mo_beginOne 17 = .ok (.dup, 1) := by decide +kernel
theorem d_Mo_beginOne_18 : decode c_Mo_beginOne 18 = .ok (.getfield 165, 3) := by decide +kernel
theorem d_Mo_beginOne_21 : decode c_Mo_beginOne 21 = .ok (.iconst 1, 1) := by decide +kernel
theorem d_Mo_beginOne_22 : decode c_Mo_beginOne 22 = .ok (.iadd, 1) := by decide +kernel
theorem d_Mo_beginOne_23 : decode c_Mo_beginOne 23 = .ok (.putfield 165, 3) := by decide +kernel
theorem d_Mo_beginOne_26 : decode c_Mo_beginOne 26 = .ok (.sipush 200, 3) := by decide +kernel
theorem d_Mo_beginOne_29 : decode c_Mo_beginOne 29 = .ok (.aload_n 0, 1) := by decide +kernel
theorem d_Mo_beginOne_30 : decode c_Mo_beginOne 30 = .ok (.getfield 146, 3) := by decide +kernel
theorem d_Mo_beginOne_33 : decode c_Mo_beginOne 33 = .ok (.imul, 1) := by decide +kernel
theorem d_Mo_beginOne_34 : decode c_Mo_beginOne 34 = .ok (.aload_n 0, 1) := by decide +kernel
theorem d_Mo_beginOne_35 : decode c_Mo_beginOne 35 = .ok (.getfield 162, 3) := by decide +kernel
theorem d_Mo_beginOne_38 : decode c_Mo_beginOne 38 = .ok (.iadd, 1) := by decide +kernel
theorem d_Mo_beginOne_39 : decode c_Mo_beginOne 39 = .ok (.istore_n 1, 1) := by decide +kernel
theorem d_Mo_beginOne_40 : decode c_Mo_beginOne 40 = .ok (.aload_n 0, 1) := by decide +kernel
theorem d_Mo_beginOne_41 : decode c_Mo_beginOne 41 = .ok (.getfield 13, 3) := by decide +kernel
theorem d_Mo_beginOne_44 : decode c_Mo_beginOne 44 = .ok (.iload_n 1, 1) := by decide +kernel
theorem d_Mo_beginOne_45 : decode c_Mo_beginOne 45 = .ok (.iconst 1, 1) := by decide +kernel
theorem d_Mo_beginOne_46 : decode c_Mo_beginOne 46 = .ok (.iadd, 1) := by decide +kernel
theorem d_Mo_beginOne_47 : decode c_Mo_beginOne 47 = .ok (.sipush 800, 3) := by decide +kernel
theorem d_Mo_beginOne_50 : decode c_Mo_beginOne 50 = .ok (.if_icmp .ge 9, 3) := by decide +kernel
theorem d_Mo_beginOne_53 : decode c_Mo_beginOne 53 = .ok (.iload_n 1, 1) := by decide +kernel
theorem d_Mo_beginOne_54 : decode c_Mo_beginOne 54 = .ok (.iconst 1, 1) := by decide +kernel
theorem d_Mo_beginOne_55 : decode c_Mo_beginOne 55 = .ok (.iadd, 1) := by decide +kernel
theorem d_Mo_beginOne_56 : decode c_Mo_beginOne 56 = .ok (.goto 4, 3) := by decide +kernel
theorem d_Mo_beginOne_59 : decode c_Mo_beginOne 59 = .ok (.iload_n 1, 1) := by decide +kernel
theorem d_Mo_beginOne_60 : decode c_Mo_beginOne 60 = .ok (.iaload, 1) := by decide +kernel
theorem d_Mo_beginOne_61 : decode c_Mo_beginOne 61 = .ok (.istore_n 2, 1) := by decide +kernel
theorem d_Mo_beginOne_62 : decode c_Mo_beginOne 62 = .ok (.aload_n 0, 1) := by decide +kernel
theorem d_Mo_beginOne_63 : decode c_Mo_beginOne 63 = .ok (.getfield 13, 3) := by decide +kernel
theorem d_Mo_beginOne_66 : decode c_Mo_beginOne 66 = .ok (.iload_n 1, 1) := by decide +kernel
theorem d_Mo_beginOne_67 : decode c_Mo_beginOne 67 = .ok (.iaload, 1) := by decide +kernel
theorem d_Mo_beginOne_68 : decode c_Mo_beginOne 68 = .ok (.tableswitch 258 0 5 #[40, 48, 66, 85, 156, 180], 40) := by decide +kernel
theorem d_Mo_beginOne_108 : decode c_Mo_beginOne 108 = .ok (.aload_n 0, 1) := by decide +kernel
theorem d_Mo_beginOne_109 : decode c_Mo_beginOne 109 = .ok (.iconst 0, 1) := by decide +kernel
theorem d_Mo_beginOne_110 : decode c_Mo_beginOne 110 = .ok (.putfield 168, 3) := by decide +kernel
theorem d_Mo_beginOne_113 : decode c_Mo_beginOne 113 = .ok (.goto 236, 3) := by decide +kernel
theorem d_Mo_beginOne_116 : decode c_Mo_beginOne 116 = .ok (.aload_n 0, 1) := by decide +kernel
theorem d_Mo_beginOne_117 : decode c_Mo_beginOne 117 = .ok (.aload_n 0, 1) := by decide +kernel
theorem d_Mo_beginOne_118 : decode c_Mo_beginOne 118 = .ok (.getfield 53, 3) := by decide +kernel
theorem d_Mo_beginOne_121 : decode c_Mo_beginOne 121 = .ok (.aload_n 0, 1) := by decide +kernel
theorem d_Mo_beginOne_122 : decode c_Mo_beginOne 122 = .ok (.getfield 149, 3) := by decide +kernel
theorem d_Mo_beginOne_125 : decode c_Mo_beginOne 125 = .ok (.iload_n 2, 1) := by decide +kernel
theorem d_Mo_beginOne_126 : decode c_Mo_beginOne 126 = .ok (.iadd, 1) := by decide +kernel
theorem d_Mo_beginOne_127 : decode c_Mo_beginOne 127 = .ok (.iaload, 1) := by decide +kernel
theorem d_Mo_beginOne_128 : decode c_Mo_beginOne 128 = .ok (.putfield 168, 3) := by decide +kernel
theorem d_Mo_beginOne_131 : decode c_Mo_beginOne 131 = .ok (.goto 218, 3) := by decide +kernel
theorem d_Mo_beginOne_134 : decode c_Mo_beginOne 134 = .ok (.aload_n 0, 1) := by decide +kernel
theorem d_Mo_beginOne_135 : decode c_Mo_beginOne 135 = .ok (.iconst 0, 1) := by decide +kernel
theorem d_Mo_beginOne_136 : decode c_Mo_beginOne 136 = .ok (.iconst 0, 1) := by decide +kernel
theorem d_Mo_beginOne_137 : decode c_Mo_beginOne 137 = .ok (.invokevirtual 171, 3) := by decide +kernel
theorem d_Mo_beginOne_140 : decode c_Mo_beginOne 140 = .ok (.aload_n 0, 1) := by decide +kernel
theorem d_Mo_beginOne_141 : decode c_Mo_beginOne 141 = .ok (.dup, 1) := by decide +kernel
theorem d_Mo_beginOne_142 : decode c_Mo_beginOne 142 = .ok (.getfield 162, 3) := by decide +kernel
theorem d_Mo_beginOne_145 : decode c_Mo_beginOne 145 = .ok (.iconst 1, 1) := by decide +kernel
theorem d_Mo_beginOne_146 : decode c_Mo_beginOne 146 = .ok (.iadd, 1) := by decide +kernel
theorem d_Mo_beginOne_147 : decode c_Mo_beginOne 147 = .ok (.putfield 162, 3) := by decide +kernel
theorem d_Mo_beginOne_150 : decode c_Mo_beginOne 150 = .ok (.goto 199, 3) := by decide +kernel
theorem d_Mo_beginOne_153 : decode c_Mo_beginOne 153 = .ok (.aload_n 0, 1) := by decide +kernel
theorem d_Mo_beginOne_154 : decode c_Mo_beginOne 154 = .ok (.getfield 53, 3) := by decide +kernel
theorem d_Mo_beginOne_157 : decode c_Mo_beginOne 157 = .ok (.aload_n 0, 1) := by decide +kernel
theorem d_Mo_beginOne_158 : decode c_Mo_beginOne 158 = .ok (.getfield 149, 3) := by decide +kernel
theorem d_Mo_beginOne_161 : decode c_Mo_beginOne 161 = .ok (.iload_n 2, 1) := by decide +kernel
theorem d_Mo_beginOne_162 : decode c_Mo_beginOne 162 = .ok (.iadd, 1) := by decide +kernel
theorem d_Mo_beginOne_163 : decode c_Mo_beginOne 163 = .ok (.iaload, 1) := by decide +kernel
theorem d_Mo_beginOne_164 : decode c_Mo_beginOne 164 = .ok (.istore_n 3, 1) := by decide +kernel
theorem d_Mo_beginOne_165 : decode c_Mo_beginOne 165 = .ok (.aload_n 0, 1) := by decide +kernel
theorem d_Mo_beginOne_166 : decode c_Mo_beginOne 166 = .ok (.iload_n 3, 1) := by decide +kernel
theorem d_Mo_beginOne_167 : decode c_Mo_beginOne 167 = .ok (.ifCond .ne 12, 3) := by decide +kernel
theorem d_Mo_beginOne_170 : decode c_Mo_beginOne 170 = .ok (.aload_n 0, 1) := by decide +kernel
theorem d_Mo_beginOne_171 : decode c_Mo_beginOne 171 = .ok (.getfield 162, 3) := by decide +kernel
theorem d_Mo_beginOne_174 : decode c_Mo_beginOne 174 = .ok (.iconst 2, 1) := by decide +kernel
theorem d_Mo_beginOne_175 : decode c_Mo_beginOne 175 = .ok (.iadd, 1) := by decide +kernel
theorem d_Mo_beginOne_176 : decode c_Mo_beginOne 176 = .ok (.goto 11, 3) := by decide +kernel
theorem d_Mo_beginOne_179 : decode c_Mo_beginOne 179 = .ok (.aload_n 0, 1) := by decide +kernel
theorem d_Mo_beginOne_180 : decode c_Mo_beginOne 180 = .ok (.getfield 23, 3) := by decide +kernel
theorem d_Mo_beginOne_183 : decode c_Mo_beginOne 183 = .ok (.iload_n 1, 1) := by decide +kernel
theorem d_Mo_beginOne_184 : decode c_Mo_beginOne 184 = .ok (.iconst 2, 1) := by decide +kernel
theorem d_Mo_beginOne_185 : decode c_Mo_beginOne 185 = .ok (.iadd, 1) := by decide +kernel
theorem d_Mo_beginOne_186 : decode c_Mo_beginOne 186 = .ok (.iaload, 1) := by decide +kernel
theorem d_Mo_beginOne_187 : decode c_Mo_beginOne 187 = .ok (.putfield 162, 3) := by decide +kernel
theorem d_Mo_beginOne_190 : decode c_Mo_beginOne 190 = .ok (.iload_n 3, 1) := by decide +kernel
theorem d_Mo_beginOne_191 : decode c_Mo_beginOne 191 = .ok (.ifCond .le 158, 3) := by decide +kernel
theorem d_Mo_beginOne_194 : decode c_Mo_beginOne 194 = .ok (.aload_n 0, 1) := by decide +kernel
theorem d_Mo_beginOne_195 : decode c_Mo_beginOne 195 = .ok (.getfield 53, 3) := by decide +kernel
theorem d_Mo_beginOne_198 : decode c_Mo_beginOne 198 = .ok (.aload_n 0, 1) := by decide +kernel
theorem d_Mo_beginOne_199 : decode c_Mo_beginOne 199 = .ok (.getfield 149, 3) := by decide +kernel
theorem d_Mo_beginOne_202 : decode c_Mo_beginOne 202 = .ok (.aload_n 0, 1) := by decide +kernel
theorem d_Mo_beginOne_203 : decode c_Mo_beginOne 203 = .ok (.getfield 152, 3) := by decide +kernel
theorem d_Mo_beginOne_206 : decode c_Mo_beginOne 206 = .ok (.iadd, 1) := by decide +kernel
theorem d_Mo_beginOne_207 : decode c_Mo_beginOne 207 = .ok (.iload_n 3, 1) := by decide +kernel
theorem d_Mo_beginOne_208 : decode c_Mo_beginOne 208 = .ok (.iconst 1, 1) := by decide +kernel
theorem d_Mo_beginOne_209 : decode c_Mo_beginOne 209 = .ok (.isub, 1) := by decide +kernel
theorem d_Mo_beginOne_210 : decode c_Mo_beginOne 210 = .ok (.iastore, 1) := by decide +kernel
theorem d_Mo_beginOne_211 : decode c_Mo_beginOne 211 = .ok (.aload_n 0, 1) := by decide +kernel
theorem d_Mo_beginOne_212 : decode c_Mo_beginOne 212 = .ok (.dup, 1) := by decide +kernel
theorem d_Mo_beginOne_213 : decode c_Mo_beginOne 213 = .ok (.getfield 152, 3) := by decide +kernel
theorem d_Mo_beginOne_216 : decode c_Mo_beginOne 216 = .ok (.iconst 1, 1) := by decide +kernel
theorem d_Mo_beginOne_217 : decode c_Mo_beginOne 217 = .ok (.iadd, 1) := by decide +kernel
theorem d_Mo_beginOne_218 : decode c_Mo_beginOne 218 = .ok (.putfield 152, 3) := by decide +kernel
theorem d_Mo_beginOne_221 : decode c_Mo_beginOne 221 = .ok (.goto 128, 3) := by decide +kernel
theorem d_Mo_beginOne_224 : decode c_Mo_beginOne 224 = .ok (.aload_n 0, 1) := by decide +kernel
theorem d_Mo_beginOne_225 : decode c_Mo_beginOne 225 = .ok (.dup, 1) := by decide +kernel
theorem d_Mo_beginOne_226 : decode c_Mo_beginOne 226 = .ok (.getfield 175, 3) := by decide +kernel
theorem d_Mo_beginOne_229 : decode c_Mo_beginOne 229 = .ok (.iload_n 2, 1) := by decide +kernel
theorem d_Mo_beginOne_230 : decode c_Mo_beginOne 230 = .ok (.i2l, 1) := by decide +kernel
theorem d_Mo_beginOne_231 : decode c_Mo_beginOne 231 = .ok (.ladd, 1) := by decide +kernel
theorem d_Mo_beginOne_232 : decode c_Mo_beginOne 232 = .ok (.putfield 175, 3) := by decide +kernel
theorem d_Mo_beginOne_235 : decode c_Mo_beginOne 235 = .ok (.aload_n 0, 1) := by decide +kernel
theorem d_Mo_beginOne_236 : decode c_Mo_beginOne 236 = .ok (.dup, 1) := by decide +kernel
theorem d_Mo_beginOne_237 : decode c_Mo_beginOne 237 = .ok (.getfield 162, 3) := by decide +kernel
theorem d_Mo_beginOne_240 : decode c_Mo_beginOne 240 = .ok (.iconst 2, 1) := by decide +kernel
theorem d_Mo_beginOne_241 : decode c_Mo_beginOne 241 = .ok (.iadd, 1) := by decide +kernel
theorem d_Mo_beginOne_242 : decode c_Mo_beginOne 242 = .ok (.putfield 162, 3) := by decide +kernel
theorem d_Mo_beginOne_245 : decode c_Mo_beginOne 245 = .ok (.goto 104, 3) := by decide +kernel
theorem d_Mo_beginOne_248 : decode c_Mo_beginOne 248 = .ok (.aload_n 0, 1) := by decide +kernel
theorem d_Mo_beginOne_249 : decode c_Mo_beginOne 249 = .ok (.getfield 149, 3) := by decide +kernel
theorem d_Mo_beginOne_252 : decode c_Mo_beginOne 252 = .ok (.aload_n 0, 1) := by decide +kernel
theorem d_Mo_beginOne_253 : decode c_Mo_beginOne 253 = .ok (.getfield 152, 3) := by decide +kernel
theorem d_Mo_beginOne_256 : decode c_Mo_beginOne 256 = .ok (.iadd, 1) := by decide +kernel
theorem d_Mo_beginOne_257 : decode c_Mo_beginOne 257 = .ok (.istore 4, 2) := by decide +kernel
theorem d_Mo_beginOne_259 : decode c_Mo_beginOne 259 = .ok (.iconst 0, 1) := by decide +kernel
theorem d_Mo_beginOne_260 : decode c_Mo_beginOne 260 = .ok (.istore 5, 2) := by decide +kernel
theorem d_Mo_beginOne_262 : decode c_Mo_beginOne 262 = .ok (.iload 5, 2) := by decide +kernel
theorem d_Mo_beginOne_264 : decode c_Mo_beginOne 264 = .ok (.aload_n 0, 1) := by decide +kernel
theorem d_Mo_beginOne_265 : decode c_Mo_beginOne 265 = .ok (.getfield 9, 3) := by decide +kernel
theorem d_Mo_beginOne_268 : decode c_Mo_beginOne 268 = .ok (.iload_n 2, 1) := by decide +kernel
theorem d_Mo_beginOne_269 : decode c_Mo_beginOne 269 = .ok (.iaload, 1) := by decide +kernel
theorem d_Mo_beginOne_270 : decode c_Mo_beginOne 270 = .ok (.if_icmp .ge 40, 3) := by decide +kernel
theorem d_Mo_beginOne_273 : decode c_Mo_beginOne 273 = .ok (.aload_n 0, 1) := by decide +kernel
theorem d_Mo_beginOne_274 : decode c_Mo_beginOne 274 = .ok (.getfield 53, 3) := by decide +kernel
theorem d_Mo_beginOne_277 : decode c_Mo_beginOne 277 = .ok (.iload 4, 2) := by decide +kernel
theorem d_Mo_beginOne_279 : decode c_Mo_beginOne 279 = .ok (.iload 5, 2) := by decide +kernel
theorem d_Mo_beginOne_281 : decode c_Mo_beginOne 281 = .ok (.iadd, 1) := by decide +kernel
theorem d_Mo_beginOne_282 : decode c_Mo_beginOne 282 = .ok (.aload_n 0, 1) := by decide +kernel
theorem d_Mo_beginOne_283 : decode c_Mo_beginOne 283 = .ok (.getfield 53, 3) := by decide +kernel
theorem d_Mo_beginOne_286 : decode c_Mo_beginOne 286 = .ok (.aload_n 0, 1) := by decide +kernel
theorem d_Mo_beginOne_287 : decode c_Mo_beginOne 287 = .ok (.getfield 149, 3) := by decide +kernel
theorem d_Mo_beginOne_290 : decode c_Mo_beginOne 290 = .ok (.aload_n 0, 1) := by decide +kernel
theorem d_Mo_beginOne_291 : decode c_Mo_beginOne 291 = .ok (.getfield 13, 3) := by decide +kernel
theorem d_Mo_beginOne_294 : decode c_Mo_beginOne 294 = .ok (.iload_n 1, 1) := by decide +kernel
theorem d_Mo_beginOne_295 : decode c_Mo_beginOne 295 = .ok (.iconst 2, 1) := by decide +kernel
theorem d_Mo_beginOne_296 : decode c_Mo_beginOne 296 = .ok (.iadd, 1) := by decide +kernel
theorem d_Mo_beginOne_297 : decode c_Mo_beginOne 297 = .ok (.iload 5, 2) := by decide +kernel
theorem d_Mo_beginOne_299 : decode c_Mo_beginOne 299 = .ok (.iadd, 1) := by decide +kernel
theorem d_Mo_beginOne_300 : decode c_Mo_beginOne 300 = .ok (.iaload, 1) := by decide +kernel
theorem d_Mo_beginOne_301 : decode c_Mo_beginOne 301 = .ok (.iadd, 1) := by decide +kernel
theorem d_Mo_beginOne_302 : decode c_Mo_beginOne 302 = .ok (.iaload, 1) := by decide +kernel
theorem d_Mo_beginOne_303 : decode c_Mo_beginOne 303 = .ok (.iastore, 1) := by decide +kernel
theorem d_Mo_beginOne_304 : decode c_Mo_beginOne 304 = .ok (.iinc 5 1, 3) := by decide +kernel
theorem d_Mo_beginOne_307 : decode c_Mo_beginOne 307 = .ok (.goto (-45), 3) := by decide +kernel
theorem d_Mo_beginOne_310 : decode c_Mo_beginOne 310 = .ok (.aload_n 0, 1) := by decide +kernel
theorem d_Mo_beginOne_311 : decode c_Mo_beginOne 311 = .ok (.iconst 2, 1) := by decide +kernel
theorem d_Mo_beginOne_312 : decode c_Mo_beginOne 312 = .ok (.iconst 0, 1) := by decide +kernel
theorem d_Mo_beginOne_313 : decode c_Mo_beginOne 313 = .ok (.invokevirtual 171, 3) := by decide +kernel
theorem d_Mo_beginOne_316 : decode c_Mo_beginOne 316 = .ok (.aload_n 0, 1) := by decide +kernel
theorem d_Mo_beginOne_317 : decode c_Mo_beginOne 317 = .ok (.iload_n 2, 1) := by decide +kernel
theorem d_Mo_beginOne_318 : decode c_Mo_beginOne 318 = .ok (.iload 4, 2) := by decide +kernel
theorem d_Mo_beginOne_320 : decode c_Mo_beginOne 320 = .ok (.invokevirtual 179, 3) := by decide +kernel
theorem d_Mo_beginOne_323 : decode c_Mo_beginOne 323 = .ok (.goto 26, 3) := by decide +kernel
theorem d_Mo_beginOne_326 : decode c_Mo_beginOne 326 = .ok (.aload_n 0, 1) := by decide +kernel
theorem d_Mo_beginOne_327 : decode c_Mo_beginOne 327 = .ok (.iconst 1, 1) := by decide +kernel
theorem d_Mo_beginOne_328 : decode c_Mo_beginOne 328 = .ok (.aload_n 0, 1) := by decide +kernel
theorem d_Mo_beginOne_329 : decode c_Mo_beginOne 329 = .ok (.getfield 23, 3) := by decide +kernel
theorem d_Mo_beginOne_332 : decode c_Mo_beginOne 332 = .ok (.iload_n 1, 1) := by decide +kernel
theorem d_Mo_beginOne_333 : decode c_Mo_beginOne 333 = .ok (.iconst 1, 1) := by decide +kernel
theorem d_Mo_beginOne_334 : decode c_Mo_beginOne 334 = .ok (.iadd, 1) := by decide +kernel
theorem d_Mo_beginOne_335 : decode c_Mo_beginOne 335 = .ok (.iaload, 1) := by decide +kernel
theorem d_Mo_beginOne_336 : decode c_Mo_beginOne 336 = .ok (.invokevirtual 171, 3) := by decide +kernel
theorem d_Mo_beginOne_339 : decode c_Mo_beginOne 339 = .ok (.aload_n 0, 1) := by decide +kernel
theorem d_Mo_beginOne_340 : decode c_Mo_beginOne 340 = .ok (.dup, 1) := by decide +kernel
theorem d_Mo_beginOne_341 : decode c_Mo_beginOne 341 = .ok (.getfield 162, 3) := by decide +kernel
theorem d_Mo_beginOne_344 : decode c_Mo_beginOne 344 = .ok (.iconst 1, 1) := by decide +kernel
theorem d_Mo_beginOne_345 : decode c_Mo_beginOne 345 = .ok (.iadd, 1) := by decide +kernel
theorem d_Mo_beginOne_346 : decode c_Mo_beginOne 346 = .ok (.putfield 162, 3) := by decide +kernel
theorem d_Mo_beginOne_349 : decode c_Mo_beginOne 349 = .ok (.return_, 1) := by decide +kernel
set_option maxRecDepth 100000 in
set_option maxHeartbeats 16000000 in
/-- Mo_beginOne_0 -/
theorem g_Mo_beginOne_0 (l : Launch) (G : va_G) (k : Nat → ClassId) (h0 : Nat) (s0 : Nat) (fn : Nat) (pa : Nat) (stp : Nat) (ma : Nat → Nat) (iv : Nat → Int32) (co : Int64) (wd : Nat → Int32) (hfn : fn < 4) (hst : stp < 20000) (hpa : pa + 1 ≤ 200) (hk : wdF wd fn pa = 0) : CV l y_Mo_beginOne c_Mo_beginOne 6 { frames := 0, cells := 0, slots := 0, locals := 0 } [.ref h0] G k s0 [(h0, .inr (8, moL ma (va_up (va_up (va_up iv 8 (nI fn)) 9 (nI pa)) 4 (nI stp)) co)), ((ma 1), .inl (k 0, 800, .inl wd))] (fun (u : Unit) => True) (fun u => [(h0, .inr (8, moL ma (va_up (va_up (va_up (va_up iv 8 (nI fn)) 9 (nI pa)) 12 0) 4 (nI (stp + 1))) co)), ((ma 1), .inl (k 0, 800, .inl wd))]) 0 0 := by
  refine met_start (by decide) (Nat.le_of_ble_eq_true rfl) ?_
  intro p e s m below meth c C K hA hsz S ls hl
  generalize va_A [(h0, .inr (8, moL ma (va_up (va_up (va_up iv 8 (nI fn)) 9 (nI pa)) 4 (nI stp)) co)), ((ma 1), .inl (k 0, 800, .inl wd))] s0 = A at hA S ⊢
  have hx := C.1
  have hb := C.2.1
  have hl : lv_has ls 6 [(0, .ref h0)] := hl
  refine lv_aload_n hx hb d_Mo_beginOne_0 rfl (lv_at hl 0 rfl) ?_
  refine r_get C K S 0 rfl rfl clOk_Mo 12 (by decide) wf_Mo_165 (v := .int (nI stp)) rfl d_Mo_beginOne_1 ?_
  refine lv_sipush (v := 20000) hx hb d_Mo_beginOne_4 (by decide) ?_
  refine z_icmp_ne (a := stp) (b := 20000) (tgt := 16) hx hb d_Mo_beginOne_7 (by decide) (by omega) (by omega) (fun hc1 => ?_) (fun hc1 => False.elim (by omega))
  refine lv_aload_n hx hb d_Mo_beginOne_16 rfl (lv_at hl 0 rfl) ?_
  refine lv_dup hx hb d_Mo_beginOne_17 rfl ?_
  refine r_get C K S 0 rfl rfl clOk_Mo 12 (by decide) wf_Mo_165 (v := .int (nI stp)) rfl d_Mo_beginOne_18 ?_
  refine lv_iconst (v := 1) hx hb d_Mo_beginOne_21 (by decide) ?_
  refine z_iadd (x := nI stp) (y := 1) (v := nI (stp + 1)) hx hb d_Mo_beginOne_22 (nI_add stp 1) ?_
  refine r_put C K S 0 rfl rfl clOk_Mo 12 (by decide) wf_Mo_165 rfl (ty := .int) (v := .int (nI (stp + 1))) (by decide +kernel) rfl rfl (Nat.le_of_ble_eq_true rfl) (fs' := moL ma (va_up (va_up (va_up iv 8 (nI fn)) 9 (nI pa)) 4 (nI (stp + 1))) co) (ws' := [(h0, .inr (8, moL ma (va_up (va_up (va_up iv 8 (nI fn)) 9 (nI pa)) 4 (nI (stp + 1))) co)), ((ma 1), .inl (k 0, 800, .inl wd))]) rfl rfl d_Mo_beginOne_23 (fun H locs S => ?_)
  refine lv_sipush (v := 200) hx hb d_Mo_beginOne_26 (by decide) ?_
  refine lv_aload_n hx hb d_Mo_beginOne_29 rfl (lv_at hl 0 rfl) ?_
  refine r_get C K S 0 rfl rfl clOk_Mo 22 (by decide) wf_Mo_146 (v := .int (nI fn)) rfl d_Mo_beginOne_30 ?_
  refine z_imul (x := 200) (y := nI fn) (v := nI (200 * fn)) hx hb d_Mo_beginOne_33 (pk_mul 200 fn) ?_
  refine lv_aload_n hx hb d_Mo_beginOne_34 rfl (lv_at hl 0 rfl) ?_
  refine r_get C K S 0 rfl rfl clOk_Mo 23 (by decide) wf_Mo_162 (v := .int (nI pa)) rfl d_Mo_beginOne_35 ?_
  refine z_iadd (x := nI (200 * fn)) (y := nI pa) (v := nI (200 * fn + pa)) hx hb d_Mo_beginOne_38 (nI_add (200 * fn) pa) ?_
  refine lv_istore_n (lv' := [(1, .int (nI (200 * fn + pa))), (0, .ref h0)]) hx hb d_Mo_beginOne_39 rfl hl (by decide) rfl (fun ls hl => ?_)
  refine lv_aload_n hx hb d_Mo_beginOne_40 rfl (lv_at hl 1 rfl) ?_
  refine r_get C K S 0 rfl rfl clOk_Mo 2 (by decide) wf_Mo_13 (v := .ref (ma 1)) rfl d_Mo_beginOne_41 ?_
  refine lv_iload_n hx hb d_Mo_beginOne_44 rfl (lv_at hl 0 rfl) ?_
  refine lv_iconst (v := 1) hx hb d_Mo_beginOne_45 (by decide) ?_
  refine z_iadd (x := nI (200 * fn + pa)) (y := 1) (v := nI (200 * fn + pa + 1)) hx hb d_Mo_beginOne_46 (nI_add (200 * fn + pa) 1) ?_
  refine lv_sipush (v := 800) hx hb d_Mo_beginOne_47 (by decide) ?_
  refine z_icmp_ge (a := (200 * fn + pa + 1)) (b := 800) (tgt := 59) hx hb d_Mo_beginOne_50 (by decide) (by omega) (by omega) (fun hc2 => ?_) (fun hc2 => ?_)
  · refine lv_iload_n hx hb d_Mo_beginOne_59 rfl (lv_at hl 0 rfl) ?_
    refine r_iald C K S 1 rfl (i := nI (200 * fn + pa)) (show vp_in (nI (200 * fn + pa)) _ from vp_in_nI (n := (200 * fn + pa)) (by omega) (by decide)) (v := wdF wd fn pa) (by rw [nI_clamp (by omega)]; exact (show wd (200 * fn + pa) = wd (200 * fn + pa) from congrArg wd (by omega))) d_Mo_beginOne_60 ?_
    refine lv_istore_n (lv' := [(2, .int (wdF wd fn pa)), (1, .int (nI (200 * fn + pa))), (0, .ref h0)]) hx hb d_Mo_beginOne_61 rfl hl (by decide) rfl (fun ls hl => ?_)
    refine lv_aload_n hx hb d_Mo_beginOne_62 rfl (lv_at hl 2 rfl) ?_
    refine r_get C K S 0 rfl rfl clOk_Mo 2 (by decide) wf_Mo_13 (v := .ref (ma 1)) rfl d_Mo_beginOne_63 ?_
    refine lv_iload_n hx hb d_Mo_beginOne_66 rfl (lv_at hl 1 rfl) ?_
    refine r_iald C K S 1 rfl (i := nI (200 * fn + pa)) (show vp_in (nI (200 * fn + pa)) _ from vp_in_nI (n := (200 * fn + pa)) (by omega) (by decide)) (v := wdF wd fn pa) (by rw [nI_clamp (by omega)]; exact (show wd (200 * fn + pa) = wd (200 * fn + pa) from congrArg wd (by omega))) d_Mo_beginOne_67 ?_
    refine lv_tableIn (x := wdF wd fn pa) (off := 40) (tgt := 108) hx hb d_Mo_beginOne_68 (by rw [hk]; decide) (by rw [hk]; decide) (by rw [hk]; rfl) (by decide) ?_
    refine lv_aload_n hx hb d_Mo_beginOne_108 rfl (lv_at hl 2 rfl) ?_
    refine lv_iconst (v := 0) hx hb d_Mo_beginOne_109 (by decide) ?_
    refine r_put C K S 0 rfl rfl clOk_Mo 26 (by decide) wf_Mo_168 rfl (ty := .int) (v := .int 0) (by decide +kernel) rfl rfl (Nat.le_of_ble_eq_true rfl) (fs' := moL ma (va_up (va_up (va_up (va_up iv 8 (nI fn)) 9 (nI pa)) 4 (nI (stp + 1))) 12 0) co) (ws' := [(h0, .inr (8, moL ma (va_up (va_up (va_up (va_up iv 8 (nI fn)) 9 (nI pa)) 4 (nI (stp + 1))) 12 0) co)), ((ma 1), .inl (k 0, 800, .inl wd))]) rfl rfl d_Mo_beginOne_110 (fun H locs S => ?_)
    refine lv_goto (tgt := 349) hx hb d_Mo_beginOne_113 (by decide) ?_
    exact r_vret C K () trivial (S.sub [0, 1] (by decide) rfl) d_Mo_beginOne_349 (Nat.le_of_ble_eq_true rfl) (Nat.le_of_ble_eq_true rfl)
  · refine lv_iload_n hx hb d_Mo_beginOne_53 rfl (lv_at hl 0 rfl) ?_
    refine lv_iconst (v := 1) hx hb d_Mo_beginOne_54 (by decide) ?_
    refine z_iadd (x := nI (200 * fn + pa)) (y := 1) (v := nI (200 * fn + pa + 1)) hx hb d_Mo_beginOne_55 (nI_add (200 * fn + pa) 1) ?_
    refine lv_goto (tgt := 60) hx hb d_Mo_beginOne_56 (by decide) ?_
    refine r_iald C K S 1 rfl (i := nI (200 * fn + pa + 1)) (show vp_in (nI (200 * fn + pa + 1)) _ from vp_in_nI (n := (200 * fn + pa + 1)) (by omega) (by decide)) (v := wdF wd fn (pa + 1)) (by rw [nI_clamp (by omega)]; exact (show wd (200 * fn + pa + 1) = wd (200 * fn + (pa + 1)) from congrArg wd (by omega))) d_Mo_beginOne_60 ?_
    refine lv_istore_n (lv' := [(2, .int (wdF wd fn (pa + 1))), (1, .int (nI (200 * fn + pa))), (0, .ref h0)]) hx hb d_Mo_beginOne_61 rfl hl (by decide) rfl (fun ls hl => ?_)
    refine lv_aload_n hx hb d_Mo_beginOne_62 rfl (lv_at hl 2 rfl) ?_
    refine r_get C K S 0 rfl rfl clOk_Mo 2 (by decide) wf_Mo_13 (v := .ref (ma 1)) rfl d_Mo_beginOne_63 ?_
    refine lv_iload_n hx hb d_Mo_beginOne_66 rfl (lv_at hl 1 rfl) ?_
    refine r_iald C K S 1 rfl (i := nI (200 * fn + pa)) (show vp_in (nI (200 * fn + pa)) _ from vp_in_nI (n := (200 * fn + pa)) (by omega) (by decide)) (v := wdF wd fn pa) (by rw [nI_clamp (by omega)]; exact (show wd (200 * fn + pa) = wd (200 * fn + pa) from congrArg wd (by omega))) d_Mo_beginOne_67 ?_
    refine lv_tableIn (x := wdF wd fn pa) (off := 40) (tgt := 108) hx hb d_Mo_beginOne_68 (by rw [hk]; decide) (by rw [hk]; decide) (by rw [hk]; rfl) (by decide) ?_
    refine lv_aload_n hx hb d_Mo_beginOne_108 rfl (lv_at hl 2 rfl) ?_
    refine lv_iconst (v := 0) hx hb d_Mo_beginOne_109 (by decide) ?_
    refine r_put C K S 0 rfl rfl clOk_Mo 26 (by decide) wf_Mo_168 rfl (ty := .int) (v := .int 0) (by decide +kernel) rfl rfl (Nat.le_of_ble_eq_true rfl) (fs' := moL ma (va_up (va_up (va_up (va_up iv 8 (nI fn)) 9 (nI pa)) 4 (nI (stp + 1))) 12 0) co) (ws' := [(h0, .inr (8, moL ma (va_up (va_up (va_up (va_up iv 8 (nI fn)) 9 (nI pa)) 4 (nI (stp + 1))) 12 0) co)), ((ma 1), .inl (k 0, 800, .inl wd))]) rfl rfl d_Mo_beginOne_110 (fun H locs S => ?_)
    refine lv_goto (tgt := 349) hx hb d_Mo_beginOne_113 (by decide) ?_
    exact r_vret C K () trivial (S.sub [0, 1] (by decide) rfl) d_Mo_beginOne_349 (Nat.le_of_ble_eq_true rfl) (Nat.le_of_ble_eq_true rfl)
set_option maxRecDepth 100000 in
set_option maxHeartbeats 16000000 in
/-- Mo_beginOne_1 -/
theorem g_Mo_beginOne_1 (l : Launch) (G : va_G) (k : Nat → ClassId) (h0 : Nat) (s0 : Nat) (fn : Nat) (pa : Nat) (stp : Nat) (v9 : Nat) (bs : Nat) (vr : Nat → Int32) (ma : Nat → Nat) (iv : Nat → Int32) (co : Int64) (wd : Nat → Int32) (hfn : fn < 4) (hst : stp < 20000) (hpa : pa + 2 ≤ 200) (hv : wdF wd fn (pa + 1) = nI v9) (hb9 : bs + v9 < 1400) (hk : wdF wd fn pa = 1) : CV l y_Mo_beginOne c_Mo_beginOne 6 { frames := 0, cells := 0, slots := 0, locals := 0 } [.ref h0] G k s0 [(h0, .inr (8, moL ma (va_up (va_up (va_up (va_up iv 8 (nI fn)) 9 (nI pa)) 4 (nI stp)) 6 (nI bs)) co)), ((ma 1), .inl (k 0, 800, .inl wd)), ((ma 12), .inl (k 0, 1400, .inl vr))] (fun (u : Unit) => True) (fun u => [(h0, .inr (8, moL ma (va_up (va_up (va_up (va_up (va_up iv 8 (nI fn)) 9 (nI pa)) 6 (nI bs)) 12 (vr (bs + v9))) 4 (nI (stp + 1))) co)), ((ma 1), .inl (k 0, 800, .inl wd)), ((ma 12), .inl (k 0, 1400, .inl vr))]) 0 0 := by
  refine met_start (by decide) (Nat.le_of_ble_eq_true rfl) ?_
  intro p e s m below meth c C K hA hsz S ls hl
  generalize va_A [(h0, .inr (8, moL ma (va_up (va_up (va_up (va_up iv 8 (nI fn)) 9 (nI pa)) 4 (nI stp)) 6 (nI bs)) co)), ((ma 1), .inl (k 0, 800, .inl wd)), ((ma 12), .inl (k 0, 1400, .inl vr))] s0 = A at hA S ⊢
  have hx := C.1
  have hb := C.2.1
  have hl : lv_has ls 6 [(0, .ref h0)] := hl
  refine lv_aload_n hx hb d_Mo_beginOne_0 rfl (lv_at hl 0 rfl) ?_
  refine r_get C K S 0 rfl rfl clOk_Mo 12 (by decide) wf_Mo_165 (v := .int (nI stp)) rfl d_Mo_beginOne_1 ?_
  refine lv_sipush (v := 20000) hx hb d_Mo_beginOne_4 (by decide) ?_
  refine z_icmp_ne (a := stp) (b := 20000) (tgt := 16) hx hb d_Mo_beginOne_7 (by decide) (by omega) (by omega) (fun hc1 => ?_) (fun hc1 => False.elim (by omega))
  refine lv_aload_n hx hb d_Mo_beginOne_16 rfl (lv_at hl 0 rfl) ?_
  refine lv_dup hx hb d_Mo_beginOne_17 rfl ?_
  refine r_get C K S 0 rfl rfl clOk_Mo 12 (by decide) wf_Mo_165 (v := .int (nI stp)) rfl d_Mo_beginOne_18 ?_
  refine lv_iconst (v := 1) hx hb d_Mo_beginOne_21 (by decide) ?_
  refine z_iadd (x := nI stp) (y := 1) (v := nI (stp + 1)) hx hb d_Mo_beginOne_22 (nI_add stp 1) ?_
  refine r_put C K S 0 rfl rfl clOk_Mo 12 (by decide) wf_Mo_165 rfl (ty := .int) (v := .int (nI (stp + 1))) (by decide +kernel) rfl rfl (Nat.le_of_ble_eq_true rfl) (fs' := moL ma (va_up (va_up (va_up (va_up iv 8 (nI fn)) 9 (nI pa)) 6 (nI bs)) 4 (nI (stp + 1))) co) (ws' := [(h0, .inr (8, moL ma (va_up (va_up (va_up (va_up iv 8 (nI fn)) 9 (nI pa)) 6 (nI bs)) 4 (nI (stp + 1))) co)), ((ma 1), .inl (k 0, 800, .inl wd)), ((ma 12), .inl (k 0, 1400, .inl vr))]) rfl rfl d_Mo_beginOne_23 (fun H locs S => ?_)
  refine lv_sipush (v := 200) hx hb d_Mo_beginOne_26 (by decide) ?_
  refine lv_aload_n hx hb d_Mo_beginOne_29 rfl (lv_at hl 0 rfl) ?_
  refine r_get C K S 0 rfl rfl clOk_Mo 22 (by decide) wf_Mo_146 (v := .int (nI fn)) rfl d_Mo_beginOne_30 ?_
  refine z_imul (x := 200) (y := nI fn) (v := nI (200 * fn)) hx hb d_Mo_beginOne_33 (pk_mul 200 fn) ?_
  refine lv_aload_n hx hb d_Mo_beginOne_34 rfl (lv_at hl 0 rfl) ?_
  refine r_get C K S 0 rfl rfl clOk_Mo 23 (by decide) wf_Mo_162 (v := .int (nI pa)) rfl d_Mo_beginOne_35 ?_
  refine z_iadd (x := nI (200 * fn)) (y := nI pa) (v := nI (200 * fn + pa)) hx hb d_Mo_beginOne_38 (nI_add (200 * fn) pa) ?_
  refine lv_istore_n (lv' := [(1, .int (nI (200 * fn + pa))), (0, .ref h0)]) hx hb d_Mo_beginOne_39 rfl hl (by decide) rfl (fun ls hl => ?_)
  refine lv_aload_n hx hb d_Mo_beginOne_40 rfl (lv_at hl 1 rfl) ?_
  refine r_get C K S 0 rfl rfl clOk_Mo 2 (by decide) wf_Mo_13 (v := .ref (ma 1)) rfl d_Mo_beginOne_41 ?_
  refine lv_iload_n hx hb d_Mo_beginOne_44 rfl (lv_at hl 0 rfl) ?_
  refine lv_iconst (v := 1) hx hb d_Mo_beginOne_45 (by decide) ?_
  refine z_iadd (x := nI (200 * fn + pa)) (y := 1) (v := nI (200 * fn + pa + 1)) hx hb d_Mo_beginOne_46 (nI_add (200 * fn + pa) 1) ?_
  refine lv_sipush (v := 800) hx hb d_Mo_beginOne_47 (by decide) ?_
  refine z_icmp_ge (a := (200 * fn + pa + 1)) (b := 800) (tgt := 59) hx hb d_Mo_beginOne_50 (by decide) (by omega) (by omega) (fun hc2 => False.elim (by omega)) (fun hc2 => ?_)
  refine lv_iload_n hx hb d_Mo_beginOne_53 rfl (lv_at hl 0 rfl) ?_
  refine lv_iconst (v := 1) hx hb d_Mo_beginOne_54 (by decide) ?_
  refine z_iadd (x := nI (200 * fn + pa)) (y := 1) (v := nI (200 * fn + pa + 1)) hx hb d_Mo_beginOne_55 (nI_add (200 * fn + pa) 1) ?_
  refine lv_goto (tgt := 60) hx hb d_Mo_beginOne_56 (by decide) ?_
  refine r_iald C K S 1 rfl (i := nI (200 * fn + pa + 1)) (show vp_in (nI (200 * fn + pa + 1)) _ from vp_in_nI (n := (200 * fn + pa + 1)) (by omega) (by decide)) (v := wdF wd fn (pa + 1)) (by rw [nI_clamp (by omega)]; exact (show wd (200 * fn + pa + 1) = wd (200 * fn + (pa + 1)) from congrArg wd (by omega))) d_Mo_beginOne_60 ?_
  rw [hv]
  refine lv_istore_n (lv' := [(2, .int (nI v9)), (1, .int (nI (200 * fn + pa))), (0, .ref h0)]) hx hb d_Mo_beginOne_61 rfl hl (by decide) rfl (fun ls hl => ?_)
  refine lv_aload_n hx hb d_Mo_beginOne_62 rfl (lv_at hl 2 rfl) ?_
  refine r_get C K S 0 rfl rfl clOk_Mo 2 (by decide) wf_Mo_13 (v := .ref (ma 1)) rfl d_Mo_beginOne_63 ?_
  refine lv_iload_n hx hb d_Mo_beginOne_66 rfl (lv_at hl 1 rfl) ?_
  refine r_iald C K S 1 rfl (i := nI (200 * fn + pa)) (show vp_in (nI (200 * fn + pa)) _ from vp_in_nI (n := (200 * fn + pa)) (by omega) (by decide)) (v := wdF wd fn pa) (by rw [nI_clamp (by omega)]; exact (show wd (200 * fn + pa) = wd (200 * fn + pa) from congrArg wd (by omega))) d_Mo_beginOne_67 ?_
  refine lv_tableIn (x := wdF wd fn pa) (off := 48) (tgt := 116) hx hb d_Mo_beginOne_68 (by rw [hk]; decide) (by rw [hk]; decide) (by rw [hk]; rfl) (by decide) ?_
  refine lv_aload_n hx hb d_Mo_beginOne_116 rfl (lv_at hl 2 rfl) ?_
  refine lv_aload_n hx hb d_Mo_beginOne_117 rfl (lv_at hl 2 rfl) ?_
  refine r_get C K S 0 rfl rfl clOk_Mo 19 (by decide) wf_Mo_53 (v := .ref (ma 12)) rfl d_Mo_beginOne_118 ?_
  refine lv_aload_n hx hb d_Mo_beginOne_121 rfl (lv_at hl 2 rfl) ?_
  refine r_get C K S 0 rfl rfl clOk_Mo 20 (by decide) wf_Mo_149 (v := .int (nI bs)) rfl d_Mo_beginOne_122 ?_
  refine lv_iload_n hx hb d_Mo_beginOne_125 rfl (lv_at hl 0 rfl) ?_
  refine z_iadd (x := nI bs) (y := nI v9) (v := nI (bs + v9)) hx hb d_Mo_beginOne_126 (nI_add bs v9) ?_
  refine r_iald C K S 2 rfl (i := nI (bs + v9)) (show vp_in (nI (bs + v9)) _ from vp_in_nI (n := (bs + v9)) (by omega) (by decide)) (v := vr (bs + v9)) (by rw [nI_clamp (by omega)]) d_Mo_beginOne_127 ?_
  refine r_put C K S 0 rfl rfl clOk_Mo 26 (by decide) wf_Mo_168 rfl (ty := .int) (v := .int (vr (bs + v9))) (by decide +kernel) rfl rfl (Nat.le_of_ble_eq_true rfl) (fs' := moL ma (va_up (va_up (va_up (va_up (va_up iv 8 (nI fn)) 9 (nI pa)) 6 (nI bs)) 4 (nI (stp + 1))) 12 (vr (bs + v9))) co) (ws' := [(h0, .inr (8, moL ma (va_up (va_up (va_up (va_up (va_up iv 8 (nI fn)) 9 (nI pa)) 6 (nI bs)) 4 (nI (stp + 1))) 12 (vr (bs + v9))) co)), ((ma 1), .inl (k 0, 800, .inl wd)), ((ma 12), .inl (k 0, 1400, .inl vr))]) rfl rfl d_Mo_beginOne_128 (fun H locs S => ?_)
  refine lv_goto (tgt := 349) hx hb d_Mo_beginOne_131 (by decide) ?_
  exact r_vret C K () trivial (S.sub [0, 1, 2] (by decide) rfl) d_Mo_beginOne_349 (Nat.le_of_ble_eq_true rfl) (Nat.le_of_ble_eq_true rfl)
set_option maxRecDepth 100000 in
set_option maxHeartbeats 16000000 in
/-- Mo_beginOne_2 -/
theorem g_Mo_beginOne_2 (l : Launch) (G : va_G) (k : Nat → ClassId) (h0 : Nat) (s0 : Nat) (fn : Nat) (pa : Nat) (stp : Nat) (bs : Nat) (kn : Nat) (wt : Nat) (WK : Nat → Nat) (WF : Nat → Nat) (WA : Nat → Nat) (WB : Nat → Nat) (WN : Nat → Nat) (ma : Nat → Nat) (iv : Nat → Int32) (co : Int64) (wd : Nat → Int32) (hfn : fn < 4) (hst : stp < 20000) (hpa : pa + 1 ≤ 200) (hwt : wt < 1200) (hk : wdF wd fn pa = 2) : CV l y_Mo_beginOne c_Mo_beginOne 6 { frames := 1, cells := 0, slots := 0, locals := 22 } [.ref h0] G k s0 [(h0, .inr (8, moL ma (va_up (va_up (va_up (va_up (va_up (va_up iv 8 (nI fn)) 9 (nI pa)) 4 (nI stp)) 6 (nI bs)) 7 (nI kn)) 5 (nI wt)) co)), ((ma 1), .inl (k 0, 800, .inl wd)), ((ma 7), .inl (k 0, 1200, .inl (fun i => nI (WK i)))), ((ma 8), .inl (k 0, 1200, .inl (fun i => nI (WF i)))), ((ma 9), .inl (k 0, 1200, .inl (fun i => nI (WA i)))), ((ma 10), .inl (k 0, 1200, .inl (fun i => nI (WB i)))), ((ma 11), .inl (k 0, 1200, .inl (fun i => nI (WN i))))] (fun (u : Unit) => True) (fun u => [(h0, .inr (8, moL ma (va_up (va_up (va_up (va_up (va_up (va_up iv 8 (nI fn)) 9 (nI (pa + 1))) 6 (nI bs)) 7 (nI kn)) 5 (nI (wt + 1))) 4 (nI (stp + 1))) co)), ((ma 1), .inl (k 0, 800, .inl wd)), ((ma 7), .inl (k 0, 1200, .inl (fun i => nI ((va_up WK wt 0) i)))), ((ma 8), .inl (k 0, 1200, .inl (fun i => nI ((va_up WF wt fn) i)))), ((ma 9), .inl (k 0, 1200, .inl (fun i => nI ((va_up WA wt 0) i)))), ((ma 10), .inl (k 0, 1200, .inl (fun i => nI ((va_up WB wt bs) i)))), ((ma 11), .inl (k 0, 1200, .inl (fun i => nI ((va_up WN wt kn) i))))]) 0 0 := by
  refine met_start (by decide) (Nat.le_of_ble_eq_true rfl) ?_
  intro p e s m below meth c C K hA hsz S ls hl
  generalize va_A [(h0, .inr (8, moL ma (va_up (va_up (va_up (va_up (va_up (va_up iv 8 (nI fn)) 9 (nI pa)) 4 (nI stp)) 6 (nI bs)) 7 (nI kn)) 5 (nI wt)) co)), ((ma 1), .inl (k 0, 800, .inl wd)), ((ma 7), .inl (k 0, 1200, .inl (fun i => nI (WK i)))), ((ma 8), .inl (k 0, 1200, .inl (fun i => nI (WF i)))), ((ma 9), .inl (k 0, 1200, .inl (fun i => nI (WA i)))), ((ma 10), .inl (k 0, 1200, .inl (fun i => nI (WB i)))), ((ma 11), .inl (k 0, 1200, .inl (fun i => nI (WN i))))] s0 = A at hA S ⊢
  have hx := C.1
  have hb := C.2.1
  have hl : lv_has ls 6 [(0, .ref h0)] := hl
  refine lv_aload_n hx hb d_Mo_beginOne_0 rfl (lv_at hl 0 rfl) ?_
  refine r_get C K S 0 rfl rfl clOk_Mo 12 (by decide) wf_Mo_165 (v := .int (nI stp)) rfl d_Mo_beginOne_1 ?_
  refine lv_sipush (v := 20000) hx hb d_Mo_beginOne_4 (by decide) ?_
  refine z_icmp_ne (a := stp) (b := 20000) (tgt := 16) hx hb d_Mo_beginOne_7 (by decide) (by omega) (by omega) (fun hc1 => ?_) (fun hc1 => False.elim (by omega))
  refine lv_aload_n hx hb d_Mo_beginOne_16 rfl (lv_at hl 0 rfl) ?_
  refine lv_dup hx hb d_Mo_beginOne_17 rfl ?_
  refine r_get C K S 0 rfl rfl clOk_Mo 12 (by decide) wf_Mo_165 (v := .int (nI stp)) rfl d_Mo_beginOne_18 ?_
  refine lv_iconst (v := 1) hx hb d_Mo_beginOne_21 (by decide) ?_
  refine z_iadd (x := nI stp) (y := 1) (v := nI (stp + 1)) hx hb d_Mo_beginOne_22 (nI_add stp 1) ?_
  refine r_put C K S 0 rfl rfl clOk_Mo 12 (by decide) wf_Mo_165 rfl (ty := .int) (v := .int (nI (stp + 1))) (by decide +kernel) rfl rfl (Nat.le_of_ble_eq_true rfl) (fs' := moL ma (va_up (va_up (va_up (va_up (va_up (va_up iv 8 (nI fn)) 9 (nI pa)) 6 (nI bs)) 7 (nI kn)) 5 (nI wt)) 4 (nI (stp + 1))) co) (ws' := [(h0, .inr (8, moL ma (va_up (va_up (va_up (va_up (va_up (va_up iv 8 (nI fn)) 9 (nI pa)) 6 (nI bs)) 7 (nI kn)) 5 (nI wt)) 4 (nI (stp + 1))) co)), ((ma 1), .inl (k 0, 800, .inl wd)), ((ma 7), .inl (k 0, 1200, .inl (fun i => nI (WK i)))), ((ma 8), .inl (k 0, 1200, .inl (fun i => nI (WF i)))), ((ma 9), .inl (k 0, 1200, .inl (fun i => nI (WA i)))), ((ma 10), .inl (k 0, 1200, .inl (fun i => nI (WB i)))), ((ma 11), .inl (k 0, 1200, .inl (fun i => nI (WN i))))]) rfl rfl d_Mo_beginOne_23 (fun H locs S => ?_)
  refine lv_sipush (v := 200) hx hb d_Mo_beginOne_26 (by decide) ?_
  refine lv_aload_n hx hb d_Mo_beginOne_29 rfl (lv_at hl 0 rfl) ?_
  refine r_get C K S 0 rfl rfl clOk_Mo 22 (by decide) wf_Mo_146 (v := .int (nI fn)) rfl d_Mo_beginOne_30 ?_
  refine z_imul (x := 200) (y := nI fn) (v := nI (200 * fn)) hx hb d_Mo_beginOne_33 (pk_mul 200 fn) ?_
  refine lv_aload_n hx hb d_Mo_beginOne_34 rfl (lv_at hl 0 rfl) ?_
  refine r_get C K S 0 rfl rfl clOk_Mo 23 (by decide) wf_Mo_162 (v := .int (nI pa)) rfl d_Mo_beginOne_35 ?_
  refine z_iadd (x := nI (200 * fn)) (y := nI pa) (v := nI (200 * fn + pa)) hx hb d_Mo_beginOne_38 (nI_add (200 * fn) pa) ?_
  refine lv_istore_n (lv' := [(1, .int (nI (200 * fn + pa))), (0, .ref h0)]) hx hb d_Mo_beginOne_39 rfl hl (by decide) rfl (fun ls hl => ?_)
  refine lv_aload_n hx hb d_Mo_beginOne_40 rfl (lv_at hl 1 rfl) ?_
  refine r_get C K S 0 rfl rfl clOk_Mo 2 (by decide) wf_Mo_13 (v := .ref (ma 1)) rfl d_Mo_beginOne_41 ?_
  refine lv_iload_n hx hb d_Mo_beginOne_44 rfl (lv_at hl 0 rfl) ?_
  refine lv_iconst (v := 1) hx hb d_Mo_beginOne_45 (by decide) ?_
  refine z_iadd (x := nI (200 * fn + pa)) (y := 1) (v := nI (200 * fn + pa + 1)) hx hb d_Mo_beginOne_46 (nI_add (200 * fn + pa) 1) ?_
  refine lv_sipush (v := 800) hx hb d_Mo_beginOne_47 (by decide) ?_
  refine z_icmp_ge (a := (200 * fn + pa + 1)) (b := 800) (tgt := 59) hx hb d_Mo_beginOne_50 (by decide) (by omega) (by omega) (fun hc2 => ?_) (fun hc2 => ?_)
  · refine lv_iload_n hx hb d_Mo_beginOne_59 rfl (lv_at hl 0 rfl) ?_
    refine r_iald C K S 1 rfl (i := nI (200 * fn + pa)) (show vp_in (nI (200 * fn + pa)) _ from vp_in_nI (n := (200 * fn + pa)) (by omega) (by decide)) (v := wdF wd fn pa) (by rw [nI_clamp (by omega)]; exact (show wd (200 * fn + pa) = wd (200 * fn + pa) from congrArg wd (by omega))) d_Mo_beginOne_60 ?_
    refine lv_istore_n (lv' := [(2, .int (wdF wd fn pa)), (1, .int (nI (200 * fn + pa))), (0, .ref h0)]) hx hb d_Mo_beginOne_61 rfl hl (by decide) rfl (fun ls hl => ?_)
    refine lv_aload_n hx hb d_Mo_beginOne_62 rfl (lv_at hl 2 rfl) ?_
    refine r_get C K S 0 rfl rfl clOk_Mo 2 (by decide) wf_Mo_13 (v := .ref (ma 1)) rfl d_Mo_beginOne_63 ?_
    refine lv_iload_n hx hb d_Mo_beginOne_66 rfl (lv_at hl 1 rfl) ?_
    refine r_iald C K S 1 rfl (i := nI (200 * fn + pa)) (show vp_in (nI (200 * fn + pa)) _ from vp_in_nI (n := (200 * fn + pa)) (by omega) (by decide)) (v := wdF wd fn pa) (by rw [nI_clamp (by omega)]; exact (show wd (200 * fn + pa) = wd (200 * fn + pa) from congrArg wd (by omega))) d_Mo_beginOne_67 ?_
    refine lv_tableIn (x := wdF wd fn pa) (off := 66) (tgt := 134) hx hb d_Mo_beginOne_68 (by rw [hk]; decide) (by rw [hk]; decide) (by rw [hk]; rfl) (by decide) ?_
    refine lv_aload_n hx hb d_Mo_beginOne_134 rfl (lv_at hl 2 rfl) ?_
    refine lv_iconst (v := 0) hx hb d_Mo_beginOne_135 (by decide) ?_
    refine lv_iconst (v := 0) hx hb d_Mo_beginOne_136 (by decide) ?_
    refine r_backv (wi := [(h0, .inr (8, moL ma (va_up (va_up (va_up (va_up (va_up (va_up iv 9 (nI pa)) 4 (nI (stp + 1))) 8 (nI fn)) 6 (nI bs)) 7 (nI kn)) 5 (nI wt)) co)), ((ma 7), .inl (k 0, 1200, .inl (fun i => nI (WK i)))), ((ma 8), .inl (k 0, 1200, .inl (fun i => nI (WF i)))), ((ma 9), .inl (k 0, 1200, .inl (fun i => nI (WA i)))), ((ma 10), .inl (k 0, 1200, .inl (fun i => nI (WB i)))), ((ma 11), .inl (k 0, 1200, .inl (fun i => nI (WN i))))]) (wr := [((ma 1), .inl (k 0, 800, .inl wd))]) S hA [0, 2, 3, 4, 5, 6] [1] rfl rfl (by decide) (by decide) (va_runV (As := [.int 0, .int 0]) (rest := []) ⟨hx, hb, C.2.2.1, C.2.2.2.1, C.2.2.2.2.1⟩ (g_Mo_wait l G k h0 _ 0 0 fn bs kn wt ma (va_up (va_up iv 9 (nI pa)) 4 (nI (stp + 1))) co WK WF WA WB WN hwt) (k_virt (n := 2) C wc_Mo_wait rfl rfl wz_Mo wm_Mo_171 wn_Mo_wait ws_Mo_wait (by decide +kernel) ⟨(Nat.le_of_ble_eq_true rfl), (Nat.le_of_ble_eq_true rfl)⟩) (pr_nowV K S [0, 2, 3, 4, 5, 6] (by decide) rfl 0 rfl rfl) rfl rfl hl.1 rfl (lv_room (Nat.le_of_ble_eq_true rfl)) d_Mo_beginOne_137 ⟨(Nat.le_of_ble_eq_true rfl), (Nat.le_of_ble_eq_true rfl)⟩) (fun u3 H locs hw4 S => ?_)
    have S : Sw G A s.heap _ _ [((ma 1), .inl (k 0, 800, .inl wd)), (h0, .inr (8, moL ma (va_up (va_up (va_up (va_up (va_up (va_up iv 9 (nI pa)) 4 (nI (stp + 1))) 8 (nI fn)) 6 (nI bs)) 7 (nI kn)) 5 (nI (wt + 1))) co)), ((ma 7), .inl (k 0, 1200, .inl (fun i => nI ((va_up WK wt 0) i)))), ((ma 8), .inl (k 0, 1200, .inl (fun i => nI ((va_up WF wt fn) i)))), ((ma 9), .inl (k 0, 1200, .inl (fun i => nI ((va_up WA wt 0) i)))), ((ma 10), .inl (k 0, 1200, .inl (fun i => nI ((va_up WB wt bs) i)))), ((ma 11), .inl (k 0, 1200, .inl (fun i => nI ((va_up WN wt kn) i))))] := S
    refine lv_aload_n hx hb d_Mo_beginOne_140 rfl (lv_at hl 2 rfl) ?_
    refine lv_dup hx hb d_Mo_beginOne_141 rfl ?_
    refine r_get C K S 1 rfl rfl clOk_Mo 23 (by decide) wf_Mo_162 (v := .int (nI pa)) rfl d_Mo_beginOne_142 ?_
    refine lv_iconst (v := 1) hx hb d_Mo_beginOne_145 (by decide) ?_
    refine z_iadd (x := nI pa) (y := 1) (v := nI (pa + 1)) hx hb d_Mo_beginOne_146 (nI_add pa 1) ?_
    refine r_put C K S 1 rfl rfl clOk_Mo 23 (by decide) wf_Mo_162 rfl (ty := .int) (v := .int (nI (pa + 1))) (by decide +kernel) rfl rfl (Nat.le_of_ble_eq_true rfl) (fs' := moL ma (va_up (va_up (va_up (va_up (va_up (va_up iv 4 (nI (stp + 1))) 8 (nI fn)) 6 (nI bs)) 7 (nI kn)) 5 (nI (wt + 1))) 9 (nI (pa + 1))) co) (ws' := [((ma 1), .inl (k 0, 800, .inl wd)), (h0, .inr (8, moL ma (va_up (va_up (va_up (va_up (va_up (va_up iv 4 (nI (stp + 1))) 8 (nI fn)) 6 (nI bs)) 7 (nI kn)) 5 (nI (wt + 1))) 9 (nI (pa + 1))) co)), ((ma 7), .inl (k 0, 1200, .inl (fun i => nI ((va_up WK wt 0) i)))), ((ma 8), .inl (k 0, 1200, .inl (fun i => nI ((va_up WF wt fn) i)))), ((ma 9), .inl (k 0, 1200, .inl (fun i => nI ((va_up WA wt 0) i)))), ((ma 10), .inl (k 0, 1200, .inl (fun i => nI ((va_up WB wt bs) i)))), ((ma 11), .inl (k 0, 1200, .inl (fun i => nI ((va_up WN wt kn) i))))]) rfl rfl d_Mo_beginOne_147 (fun H locs S => ?_)
    refine lv_goto (tgt := 349) hx hb d_Mo_beginOne_150 (by decide) ?_
    exact r_vret C K () trivial (S.sub [1, 0, 2, 3, 4, 5, 6] (by decide) rfl) d_Mo_beginOne_349 (Nat.le_of_ble_eq_true rfl) (Nat.le_of_ble_eq_true rfl)
  · refine lv_iload_n hx hb d_Mo_beginOne_53 rfl (lv_at hl 0 rfl) ?_
    refine lv_iconst (v := 1) hx hb d_Mo_beginOne_54 (by decide) ?_
    refine z_iadd (x := nI (200 * fn + pa)) (y := 1) (v := nI (200 * fn + pa + 1)) hx hb d_Mo_beginOne_55 (nI_add (200 * fn + pa) 1) ?_
    refine lv_goto (tgt := 60) hx hb d_Mo_beginOne_56 (by decide) ?_
    refine r_iald C K S 1 rfl (i := nI (200 * fn + pa + 1)) (show vp_in (nI (200 * fn + pa + 1)) _ from vp_in_nI (n := (200 * fn + pa + 1)) (by omega) (by decide)) (v := wdF wd fn (pa + 1)) (by rw [nI_clamp (by omega)]; exact (show wd (200 * fn + pa + 1) = wd (200 * fn + (pa + 1)) from congrArg wd (by omega))) d_Mo_beginOne_60 ?_
    refine lv_istore_n (lv' := [(2, .int (wdF wd fn (pa + 1))), (1, .int (nI (200 * fn + pa))), (0, .ref h0)]) hx hb d_Mo_beginOne_61 rfl hl (by decide) rfl (fun ls hl => ?_)
    refine lv_aload_n hx hb d_Mo_beginOne_62 rfl (lv_at hl 2 rfl) ?_
    refine r_get C K S 0 rfl rfl clOk_Mo 2 (by decide) wf_Mo_13 (v := .ref (ma 1)) rfl d_Mo_beginOne_63 ?_
    refine lv_iload_n hx hb d_Mo_beginOne_66 rfl (lv_at hl 1 rfl) ?_
    refine r_iald C K S 1 rfl (i := nI (200 * fn + pa)) (show vp_in (nI (200 * fn + pa)) _ from vp_in_nI (n := (200 * fn + pa)) (by omega) (by decide)) (v := wdF wd fn pa) (by rw [nI_clamp (by omega)]; exact (show wd (200 * fn + pa) = wd (200 * fn + pa) from congrArg wd (by omega))) d_Mo_beginOne_67 ?_
    refine lv_tableIn (x := wdF wd fn pa) (off := 66) (tgt := 134) hx hb d_Mo_beginOne_68 (by rw [hk]; decide) (by rw [hk]; decide) (by rw [hk]; rfl) (by decide) ?_
    refine lv_aload_n hx hb d_Mo_beginOne_134 rfl (lv_at hl 2 rfl) ?_
    refine lv_iconst (v := 0) hx hb d_Mo_beginOne_135 (by decide) ?_
    refine lv_iconst (v := 0) hx hb d_Mo_beginOne_136 (by decide) ?_
    refine r_backv (wi := [(h0, .inr (8, moL ma (va_up (va_up (va_up (va_up (va_up (va_up iv 9 (nI pa)) 4 (nI (stp + 1))) 8 (nI fn)) 6 (nI bs)) 7 (nI kn)) 5 (nI wt)) co)), ((ma 7), .inl (k 0, 1200, .inl (fun i => nI (WK i)))), ((ma 8), .inl (k 0, 1200, .inl (fun i => nI (WF i)))), ((ma 9), .inl (k 0, 1200, .inl (fun i => nI (WA i)))), ((ma 10), .inl (k 0, 1200, .inl (fun i => nI (WB i)))), ((ma 11), .inl (k 0, 1200, .inl (fun i => nI (WN i))))]) (wr := [((ma 1), .inl (k 0, 800, .inl wd))]) S hA [0, 2, 3, 4, 5, 6] [1] rfl rfl (by decide) (by decide) (va_runV (As := [.int 0, .int 0]) (rest := []) ⟨hx, hb, C.2.2.1, C.2.2.2.1, C.2.2.2.2.1⟩ (g_Mo_wait l G k h0 _ 0 0 fn bs kn wt ma (va_up (va_up iv 9 (nI pa)) 4 (nI (stp + 1))) co WK WF WA WB WN hwt) (k_virt (n := 2) C wc_Mo_wait rfl rfl wz_Mo wm_Mo_171 wn_Mo_wait ws_Mo_wait (by decide +kernel) ⟨(Nat.le_of_ble_eq_true rfl), (Nat.le_of_ble_eq_true rfl)⟩) (pr_nowV K S [0, 2, 3, 4, 5, 6] (by decide) rfl 0 rfl rfl) rfl rfl hl.1 rfl (lv_room (Nat.le_of_ble_eq_true rfl)) d_Mo_beginOne_137 ⟨(Nat.le_of_ble_eq_true rfl), (Nat.le_of_ble_eq_true rfl)⟩) (fun u5 H locs hw6 S => ?_)
    have S : Sw G A s.heap _ _ [((ma 1), .inl (k 0, 800, .inl wd)), (h0, .inr (8, moL ma (va_up (va_up (va_up (va_up (va_up (va_up iv 9 (nI pa)) 4 (nI (stp + 1))) 8 (nI fn)) 6 (nI bs)) 7 (nI kn)) 5 (nI (wt + 1))) co)), ((ma 7), .inl (k 0, 1200, .inl (fun i => nI ((va_up WK wt 0) i)))), ((ma 8), .inl (k 0, 1200, .inl (fun i => nI ((va_up WF wt fn) i)))), ((ma 9), .inl (k 0, 1200, .inl (fun i => nI ((va_up WA wt 0) i)))), ((ma 10), .inl (k 0, 1200, .inl (fun i => nI ((va_up WB wt bs) i)))), ((ma 11), .inl (k 0, 1200, .inl (fun i => nI ((va_up WN wt kn) i))))] := S
    refine lv_aload_n hx hb d_Mo_beginOne_140 rfl (lv_at hl 2 rfl) ?_
    refine lv_dup hx hb d_Mo_beginOne_141 rfl ?_
    refine r_get C K S 1 rfl rfl clOk_Mo 23 (by decide) wf_Mo_162 (v := .int (nI pa)) rfl d_Mo_beginOne_142 ?_
    refine lv_iconst (v := 1) hx hb d_Mo_beginOne_145 (by decide) ?_
    refine z_iadd (x := nI pa) (y := 1) (v := nI (pa + 1)) hx hb d_Mo_beginOne_146 (nI_add pa 1) ?_
    refine r_put C K S 1 rfl rfl clOk_Mo 23 (by decide) wf_Mo_162 rfl (ty := .int) (v := .int (nI (pa + 1))) (by decide +kernel) rfl rfl (Nat.le_of_ble_eq_true rfl) (fs' := moL ma (va_up (va_up (va_up (va_up (va_up (va_up iv 4 (nI (stp + 1))) 8 (nI fn)) 6 (nI bs)) 7 (nI kn)) 5 (nI (wt + 1))) 9 (nI (pa + 1))) co) (ws' := [((ma 1), .inl (k 0, 800, .inl wd)), (h0, .inr (8, moL ma (va_up (va_up (va_up (va_up (va_up (va_up iv 4 (nI (stp + 1))) 8 (nI fn)) 6 (nI bs)) 7 (nI kn)) 5 (nI (wt + 1))) 9 (nI (pa + 1))) co)), ((ma 7), .inl (k 0, 1200, .inl (fun i => nI ((va_up WK wt 0) i)))), ((ma 8), .inl (k 0, 1200, .inl (fun i => nI ((va_up WF wt fn) i)))), ((ma 9), .inl (k 0, 1200, .inl (fun i => nI ((va_up WA wt 0) i)))), ((ma 10), .inl (k 0, 1200, .inl (fun i => nI ((va_up WB wt bs) i)))), ((ma 11), .inl (k 0, 1200, .inl (fun i => nI ((va_up WN wt kn) i))))]) rfl rfl d_Mo_beginOne_147 (fun H locs S => ?_)
    refine lv_goto (tgt := 349) hx hb d_Mo_beginOne_150 (by decide) ?_
    exact r_vret C K () trivial (S.sub [1, 0, 2, 3, 4, 5, 6] (by decide) rfl) d_Mo_beginOne_349 (Nat.le_of_ble_eq_true rfl) (Nat.le_of_ble_eq_true rfl)
set_option maxRecDepth 100000 in
set_option maxHeartbeats 16000000 in
/-- Mo_beginOne_6 -/
theorem g_Mo_beginOne_6 (l : Launch) (G : va_G) (k : Nat → ClassId) (h0 : Nat) (s0 : Nat) (fn : Nat) (pa : Nat) (stp : Nat) (m9 : Nat) (bs : Nat) (kn : Nat) (wt : Nat) (WK : Nat → Nat) (WF : Nat → Nat) (WA : Nat → Nat) (WB : Nat → Nat) (WN : Nat → Nat) (En : Nat → Nat) (ma : Nat → Nat) (iv : Nat → Int32) (co : Int64) (wd : Nat → Int32) (hfn : fn < 4) (hst : stp < 20000) (hpa : pa + 2 ≤ 200) (hwt : wt < 1200) (hm : En (200 * fn + pa + 1) = m9) (hk : wdF wd fn pa = 6) : CV l y_Mo_beginOne c_Mo_beginOne 6 { frames := 1, cells := 0, slots := 0, locals := 22 } [.ref h0] G k s0 [(h0, .inr (8, moL ma (va_up (va_up (va_up (va_up (va_up (va_up iv 8 (nI fn)) 9 (nI pa)) 4 (nI stp)) 6 (nI bs)) 7 (nI kn)) 5 (nI wt)) co)), ((ma 1), .inl (k 0, 800, .inl wd)), ((ma 3), .inl (k 0, 800, .inl (fun i => nI (En i)))), ((ma 7), .inl (k 0, 1200, .inl (fun i => nI (WK i)))), ((ma 8), .inl (k 0, 1200, .inl (fun i => nI (WF i)))), ((ma 9), .inl (k 0, 1200, .inl (fun i => nI (WA i)))), ((ma 10), .inl (k 0, 1200, .inl (fun i => nI (WB i)))), ((ma 11), .inl (k 0, 1200, .inl (fun i => nI (WN i))))] (fun (u : Unit) => True) (fun u => [(h0, .inr (8, moL ma (va_up (va_up (va_up (va_up (va_up (va_up iv 8 (nI fn)) 9 (nI (pa + 1))) 6 (nI bs)) 7 (nI kn)) 5 (nI (wt + 1))) 4 (nI (stp + 1))) co)), ((ma 1), .inl (k 0, 800, .inl wd)), ((ma 3), .inl (k 0, 800, .inl (fun i => nI (En i)))), ((ma 7), .inl (k 0, 1200, .inl (fun i => nI ((va_up WK wt 1) i)))), ((ma 8), .inl (k 0, 1200, .inl (fun i => nI ((va_up WF wt fn) i)))), ((ma 9), .inl (k 0, 1200, .inl (fun i => nI ((va_up WA wt m9) i)))), ((ma 10), .inl (k 0, 1200, .inl (fun i => nI ((va_up WB wt bs) i)))), ((ma 11), .inl (k 0, 1200, .inl (fun i => nI ((va_up WN wt kn) i))))]) 0 0 := by
  refine met_start (by decide) (Nat.le_of_ble_eq_true rfl) ?_
  intro p e s m below meth c C K hA hsz S ls hl
  generalize va_A [(h0, .inr (8, moL ma (va_up (va_up (va_up (va_up (va_up (va_up iv 8 (nI fn)) 9 (nI pa)) 4 (nI stp)) 6 (nI bs)) 7 (nI kn)) 5 (nI wt)) co)), ((ma 1), .inl (k 0, 800, .inl wd)), ((ma 3), .inl (k 0, 800, .inl (fun i => nI (En i)))), ((ma 7), .inl (k 0, 1200, .inl (fun i => nI (WK i)))), ((ma 8), .inl (k 0, 1200, .inl (fun i => nI (WF i)))), ((ma 9), .inl (k 0, 1200, .inl (fun i => nI (WA i)))), ((ma 10), .inl (k 0, 1200, .inl (fun i => nI (WB i)))), ((ma 11), .inl (k 0, 1200, .inl (fun i => nI (WN i))))] s0 = A at hA S ⊢
  have hx := C.1
  have hb := C.2.1
  have hl : lv_has ls 6 [(0, .ref h0)] := hl
  refine lv_aload_n hx hb d_Mo_beginOne_0 rfl (lv_at hl 0 rfl) ?_
  refine r_get C K S 0 rfl rfl clOk_Mo 12 (by decide) wf_Mo_165 (v := .int (nI stp)) rfl d_Mo_beginOne_1 ?_
  refine lv_sipush (v := 20000) hx hb d_Mo_beginOne_4 (by decide) ?_
  refine z_icmp_ne (a := stp) (b := 20000) (tgt := 16) hx hb d_Mo_beginOne_7 (by decide) (by omega) (by omega) (fun hc1 => ?_) (fun hc1 => False.elim (by omega))
  refine lv_aload_n hx hb d_Mo_beginOne_16 rfl (lv_at hl 0 rfl) ?_
  refine lv_dup hx hb d_Mo_beginOne_17 rfl ?_
  refine r_get C K S 0 rfl rfl clOk_Mo 12 (by decide) wf_Mo_165 (v := .int (nI stp)) rfl d_Mo_beginOne_18 ?_
  refine lv_iconst (v := 1) hx hb d_Mo_beginOne_21 (by decide) ?_
  refine z_iadd (x := nI stp) (y := 1) (v := nI (stp + 1)) hx hb d_Mo_beginOne_22 (nI_add stp 1) ?_
  refine r_put C K S 0 rfl rfl clOk_Mo 12 (by decide) wf_Mo_165 rfl (ty := .int) (v := .int (nI (stp + 1))) (by decide +kernel) rfl rfl (Nat.le_of_ble_eq_true rfl) (fs' := moL ma (va_up (va_up (va_up (va_up (va_up (va_up iv 8 (nI fn)) 9 (nI pa)) 6 (nI bs)) 7 (nI kn)) 5 (nI wt)) 4 (nI (stp + 1))) co) (ws' := [(h0, .inr (8, moL ma (va_up (va_up (va_up (va_up (va_up (va_up iv 8 (nI fn)) 9 (nI pa)) 6 (nI bs)) 7 (nI kn)) 5 (nI wt)) 4 (nI (stp + 1))) co)), ((ma 1), .inl (k 0, 800, .inl wd)), ((ma 3), .inl (k 0, 800, .inl (fun i => nI (En i)))), ((ma 7), .inl (k 0, 1200, .inl (fun i => nI (WK i)))), ((ma 8), .inl (k 0, 1200, .inl (fun i => nI (WF i)))), ((ma 9), .inl (k 0, 1200, .inl (fun i => nI (WA i)))), ((ma 10), .inl (k 0, 1200, .inl (fun i => nI (WB i)))), ((ma 11), .inl (k 0, 1200, .inl (fun i => nI (WN i))))]) rfl rfl d_Mo_beginOne_23 (fun H locs S => ?_)
  refine lv_sipush (v := 200) hx hb d_Mo_beginOne_26 (by decide) ?_
  refine lv_aload_n hx hb d_Mo_beginOne_29 rfl (lv_at hl 0 rfl) ?_
  refine r_get C K S 0 rfl rfl clOk_Mo 22 (by decide) wf_Mo_146 (v := .int (nI fn)) rfl d_Mo_beginOne_30 ?_
  refine z_imul (x := 200) (y := nI fn) (v := nI (200 * fn)) hx hb d_Mo_beginOne_33 (pk_mul 200 fn) ?_
  refine lv_aload_n hx hb d_Mo_beginOne_34 rfl (lv_at hl 0 rfl) ?_
  refine r_get C K S 0 rfl rfl clOk_Mo 23 (by decide) wf_Mo_162 (v := .int (nI pa)) rfl d_Mo_beginOne_35 ?_
  refine z_iadd (x := nI (200 * fn)) (y := nI pa) (v := nI (200 * fn + pa)) hx hb d_Mo_beginOne_38 (nI_add (200 * fn) pa) ?_
  refine lv_istore_n (lv' := [(1, .int (nI (200 * fn + pa))), (0, .ref h0)]) hx hb d_Mo_beginOne_39 rfl hl (by decide) rfl (fun ls hl => ?_)
  refine lv_aload_n hx hb d_Mo_beginOne_40 rfl (lv_at hl 1 rfl) ?_
  refine r_get C K S 0 rfl rfl clOk_Mo 2 (by decide) wf_Mo_13 (v := .ref (ma 1)) rfl d_Mo_beginOne_41 ?_
  refine lv_iload_n hx hb d_Mo_beginOne_44 rfl (lv_at hl 0 rfl) ?_
  refine lv_iconst (v := 1) hx hb d_Mo_beginOne_45 (by decide) ?_
  refine z_iadd (x := nI (200 * fn + pa)) (y := 1) (v := nI (200 * fn + pa + 1)) hx hb d_Mo_beginOne_46 (nI_add (200 * fn + pa) 1) ?_
  refine lv_sipush (v := 800) hx hb d_Mo_beginOne_47 (by decide) ?_
  refine z_icmp_ge (a := (200 * fn + pa + 1)) (b := 800) (tgt := 59) hx hb d_Mo_beginOne_50 (by decide) (by omega) (by omega) (fun hc2 => ?_) (fun hc2 => ?_)
  · refine lv_iload_n hx hb d_Mo_beginOne_59 rfl (lv_at hl 0 rfl) ?_
    refine r_iald C K S 1 rfl (i := nI (200 * fn + pa)) (show vp_in (nI (200 * fn + pa)) _ from vp_in_nI (n := (200 * fn + pa)) (by omega) (by decide)) (v := wdF wd fn pa) (by rw [nI_clamp (by omega)]; exact (show wd (200 * fn + pa) = wd (200 * fn + pa) from congrArg wd (by omega))) d_Mo_beginOne_60 ?_
    refine lv_istore_n (lv' := [(2, .int (wdF wd fn pa)), (1, .int (nI (200 * fn + pa))), (0, .ref h0)]) hx hb d_Mo_beginOne_61 rfl hl (by decide) rfl (fun ls hl => ?_)
    refine lv_aload_n hx hb d_Mo_beginOne_62 rfl (lv_at hl 2 rfl) ?_
    refine r_get C K S 0 rfl rfl clOk_Mo 2 (by decide) wf_Mo_13 (v := .ref (ma 1)) rfl d_Mo_beginOne_63 ?_
    refine lv_iload_n hx hb d_Mo_beginOne_66 rfl (lv_at hl 1 rfl) ?_
    refine r_iald C K S 1 rfl (i := nI (200 * fn + pa)) (show vp_in (nI (200 * fn + pa)) _ from vp_in_nI (n := (200 * fn + pa)) (by omega) (by decide)) (v := wdF wd fn pa) (by rw [nI_clamp (by omega)]; exact (show wd (200 * fn + pa) = wd (200 * fn + pa) from congrArg wd (by omega))) d_Mo_beginOne_67 ?_
    refine lv_tableOut (x := wdF wd fn pa) (tgt := 326) hx hb d_Mo_beginOne_68 (by rw [hk]; decide) (by decide) ?_
    refine lv_aload_n hx hb d_Mo_beginOne_326 rfl (lv_at hl 2 rfl) ?_
    refine lv_iconst (v := 1) hx hb d_Mo_beginOne_327 (by decide) ?_
    refine lv_aload_n hx hb d_Mo_beginOne_328 rfl (lv_at hl 2 rfl) ?_
    refine r_get C K S 0 rfl rfl clOk_Mo 5 (by decide) wf_Mo_23 (v := .ref (ma 3)) rfl d_Mo_beginOne_329 ?_
    refine lv_iload_n hx hb d_Mo_beginOne_332 rfl (lv_at hl 1 rfl) ?_
    refine lv_iconst (v := 1) hx hb d_Mo_beginOne_333 (by decide) ?_
    refine z_iadd (x := nI (200 * fn + pa)) (y := 1) (v := nI (200 * fn + pa + 1)) hx hb d_Mo_beginOne_334 (nI_add (200 * fn + pa) 1) ?_
    refine r_iald C K S 2 rfl (i := nI (200 * fn + pa + 1)) (show vp_in (nI (200 * fn + pa + 1)) _ from vp_in_nI (n := (200 * fn + pa + 1)) (by omega) (by decide)) (v := nI (En (200 * fn + pa + 1))) (by rw [nI_clamp (by omega)]) d_Mo_beginOne_335 ?_
    rw [hm]
    refine r_backv (wi := [(h0, .inr (8, moL ma (va_up (va_up (va_up (va_up (va_up (va_up iv 9 (nI pa)) 4 (nI (stp + 1))) 8 (nI fn)) 6 (nI bs)) 7 (nI kn)) 5 (nI wt)) co)), ((ma 7), .inl (k 0, 1200, .inl (fun i => nI (WK i)))), ((ma 8), .inl (k 0, 1200, .inl (fun i => nI (WF i)))), ((ma 9), .inl (k 0, 1200, .inl (fun i => nI (WA i)))), ((ma 10), .inl (k 0, 1200, .inl (fun i => nI (WB i)))), ((ma 11), .inl (k 0, 1200, .inl (fun i => nI (WN i))))]) (wr := [((ma 1), .inl (k 0, 800, .inl wd)), ((ma 3), .inl (k 0, 800, .inl (fun i => nI (En i))))]) S hA [0, 3, 4, 5, 6, 7] [1, 2] rfl rfl (by decide) (by decide) (va_runV (As := [.int 1, .int (nI m9)]) (rest := []) ⟨hx, hb, C.2.2.1, C.2.2.2.1, C.2.2.2.2.1⟩ (g_Mo_wait l G k h0 _ 1 m9 fn bs kn wt ma (va_up (va_up iv 9 (nI pa)) 4 (nI (stp + 1))) co WK WF WA WB WN hwt) (k_virt (n := 2) C wc_Mo_wait rfl rfl wz_Mo wm_Mo_171 wn_Mo_wait ws_Mo_wait (by decide +kernel) ⟨(Nat.le_of_ble_eq_true rfl), (Nat.le_of_ble_eq_true rfl)⟩) (pr_nowV K S [0, 3, 4, 5, 6, 7] (by decide) rfl 0 rfl rfl) rfl rfl hl.1 rfl (lv_room (Nat.le_of_ble_eq_true rfl)) d_Mo_beginOne_336 ⟨(Nat.le_of_ble_eq_true rfl), (Nat.le_of_ble_eq_true rfl)⟩) (fun u3 H locs hw4 S => ?_)
    have S : Sw G A s.heap _ _ [((ma 1), .inl (k 0, 800, .inl wd)), ((ma 3), .inl (k 0, 800, .inl (fun i => nI (En i)))), (h0, .inr (8, moL ma (va_up (va_up (va_up (va_up (va_up (va_up iv 9 (nI pa)) 4 (nI (stp + 1))) 8 (nI fn)) 6 (nI bs)) 7 (nI kn)) 5 (nI (wt + 1))) co)), ((ma 7), .inl (k 0, 1200, .inl (fun i => nI ((va_up WK wt 1) i)))), ((ma 8), .inl (k 0, 1200, .inl (fun i => nI ((va_up WF wt fn) i)))), ((ma 9), .inl (k 0, 1200, .inl (fun i => nI ((va_up WA wt m9) i)))), ((ma 10), .inl (k 0, 1200, .inl (fun i => nI ((va_up WB wt bs) i)))), ((ma 11), .inl (k 0, 1200, .inl (fun i => nI ((va_up WN wt kn) i))))] := S
    refine lv_aload_n hx hb d_Mo_beginOne_339 rfl (lv_at hl 2 rfl) ?_
    refine lv_dup hx hb d_Mo_beginOne_340 rfl ?_
    refine r_get C K S 2 rfl rfl clOk_Mo 23 (by decide) wf_Mo_162 (v := .int (nI pa)) rfl d_Mo_beginOne_341 ?_
    refine lv_iconst (v := 1) hx hb d_Mo_beginOne_344 (by decide) ?_
    refine z_iadd (x := nI pa) (y := 1) (v := nI (pa + 1)) hx hb d_Mo_beginOne_345 (nI_add pa 1) ?_
    refine r_put C K S 2 rfl rfl clOk_Mo 23 (by decide) wf_Mo_162 rfl (ty := .int) (v := .int (nI (pa + 1))) (by decide +kernel) rfl rfl (Nat.le_of_ble_eq_true rfl) (fs' := moL ma (va_up (va_up (va_up (va_up (va_up (va_up iv 4 (nI (stp + 1))) 8 (nI fn)) 6 (nI bs)) 7 (nI kn)) 5 (nI (wt + 1))) 9 (nI (pa + 1))) co) (ws' := [((ma 1), .inl (k 0, 800, .inl wd)), ((ma 3), .inl (k 0, 800, .inl (fun i => nI (En i)))), (h0, .inr (8, moL ma (va_up (va_up (va_up (va_up (va_up (va_up iv 4 (nI (stp + 1))) 8 (nI fn)) 6 (nI bs)) 7 (nI kn)) 5 (nI (wt + 1))) 9 (nI (pa + 1))) co)), ((ma 7), .inl (k 0, 1200, .inl (fun i => nI ((va_up WK wt 1) i)))), ((ma 8), .inl (k 0, 1200, .inl (fun i => nI ((va_up WF wt fn) i)))), ((ma 9), .inl (k 0, 1200, .inl (fun i => nI ((va_up WA wt m9) i)))), ((ma 10), .inl (k 0, 1200, .inl (fun i => nI ((va_up WB wt bs) i)))), ((ma 11), .inl (k 0, 1200, .inl (fun i => nI ((va_up WN wt kn) i))))]) rfl rfl d_Mo_beginOne_346 (fun H locs S => ?_)
    exact r_vret C K () trivial (S.sub [2, 0, 1, 3, 4, 5, 6, 7] (by decide) rfl) d_Mo_beginOne_349 (Nat.le_of_ble_eq_true rfl) (Nat.le_of_ble_eq_true rfl)
  · refine lv_iload_n hx hb d_Mo_beginOne_53 rfl (lv_at hl 0 rfl) ?_
    refine lv_iconst (v := 1) hx hb d_Mo_beginOne_54 (by decide) ?_
    refine z_iadd (x := nI (200 * fn + pa)) (y := 1) (v := nI (200 * fn + pa + 1)) hx hb d_Mo_beginOne_55 (nI_add (200 * fn + pa) 1) ?_
    refine lv_goto (tgt := 60) hx hb d_Mo_beginOne_56 (by decide) ?_
    refine r_iald C K S 1 rfl (i := nI (200 * fn + pa + 1)) (show vp_in (nI (200 * fn + pa + 1)) _ from vp_in_nI (n := (200 * fn + pa + 1)) (by omega) (by decide)) (v := wdF wd fn (pa + 1)) (by rw [nI_clamp (by omega)]; exact (show wd (200 * fn + pa + 1) = wd (200 * fn + (pa + 1)) from congrArg wd (by omega))) d_Mo_beginOne_60 ?_
    refine lv_istore_n (lv' := [(2, .int (wdF wd fn (pa + 1))), (1, .int (nI (200 * fn + pa))), (0, .ref h0)]) hx hb d_Mo_beginOne_61 rfl hl (by decide) rfl (fun ls hl => ?_)
    refine lv_aload_n hx hb d_Mo_beginOne_62 rfl (lv_at hl 2 rfl) ?_
    refine r_get C K S 0 rfl rfl clOk_Mo 2 (by decide) wf_Mo_13 (v := .ref (ma 1)) rfl d_Mo_beginOne_63 ?_
    refine lv_iload_n hx hb d_Mo_beginOne_66 rfl (lv_at hl 1 rfl) ?_
    refine r_iald C K S 1 rfl (i := nI (200 * fn + pa)) (show vp_in (nI (200 * fn + pa)) _ from vp_in_nI (n := (200 * fn + pa)) (by omega) (by decide)) (v := wdF wd fn pa) (by rw [nI_clamp (by omega)]; exact (show wd (200 * fn + pa) = wd (200 * fn + pa) from congrArg wd (by omega))) d_Mo_beginOne_67 ?_
    refine lv_tableOut (x := wdF wd fn pa) (tgt := 326) hx hb d_Mo_beginOne_68 (by rw [hk]; decide) (by decide) ?_
    refine lv_aload_n hx hb d_Mo_beginOne_326 rfl (lv_at hl 2 rfl) ?_
    refine lv_iconst (v := 1) hx hb d_Mo_beginOne_327 (by decide) ?_
    refine lv_aload_n hx hb d_Mo_beginOne_328 rfl (lv_at hl 2 rfl) ?_
    refine r_get C K S 0 rfl rfl clOk_Mo 5 (by decide) wf_Mo_23 (v := .ref (ma 3)) rfl d_Mo_beginOne_329 ?_
    refine lv_iload_n hx hb d_Mo_beginOne_332 rfl (lv_at hl 1 rfl) ?_
    refine lv_iconst (v := 1) hx hb d_Mo_beginOne_333 (by decide) ?_
    refine z_iadd (x := nI (200 * fn + pa)) (y := 1) (v := nI (200 * fn + pa + 1)) hx hb d_Mo_beginOne_334 (nI_add (200 * fn + pa) 1) ?_
    refine r_iald C K S 2 rfl (i := nI (200 * fn + pa + 1)) (show vp_in (nI (200 * fn + pa + 1)) _ from vp_in_nI (n := (200 * fn + pa + 1)) (by omega) (by decide)) (v := nI (En (200 * fn + pa + 1))) (by rw [nI_clamp (by omega)]) d_Mo_beginOne_335 ?_
    rw [hm]
    refine r_backv (wi := [(h0, .inr (8, moL ma (va_up (va_up (va_up (va_up (va_up (va_up iv 9 (nI pa)) 4 (nI (stp + 1))) 8 (nI fn)) 6 (nI bs)) 7 (nI kn)) 5 (nI wt)) co)), ((ma 7), .inl (k 0, 1200, .inl (fun i => nI (WK i)))), ((ma 8), .inl (k 0, 1200, .inl (fun i => nI (WF i)))), ((ma 9), .inl (k 0, 1200, .inl (fun i => nI (WA i)))), ((ma 10), .inl (k 0, 1200, .inl (fun i => nI (WB i)))), ((ma 11), .inl (k 0, 1200, .inl (fun i => nI (WN i))))]) (wr := [((ma 1), .inl (k 0, 800, .inl wd)), ((ma 3), .inl (k 0, 800, .inl (fun i => nI (En i))))]) S hA [0, 3, 4, 5, 6, 7] [1, 2] rfl rfl (by decide) (by decide) (va_runV (As := [.int 1, .int (nI m9)]) (rest := []) ⟨hx, hb, C.2.2.1, C.2.2.2.1, C.2.2.2.2.1⟩ (g_Mo_wait l G k h0 _ 1 m9 fn bs kn wt ma (va_up (va_up iv 9 (nI pa)) 4 (nI (stp + 1))) co WK WF WA WB WN hwt) (k_virt (n := 2) C wc_Mo_wait rfl rfl wz_Mo wm_Mo_171 wn_Mo_wait ws_Mo_wait (by decide +kernel) ⟨(Nat.le_of_ble_eq_true rfl), (Nat.le_of_ble_eq_true rfl)⟩) (pr_nowV K S [0, 3, 4, 5, 6, 7] (by decide) rfl 0 rfl rfl) rfl rfl hl.1 rfl (lv_room (Nat.le_of_ble_eq_true rfl)) d_Mo_beginOne_336 ⟨(Nat.le_of_ble_eq_true rfl), (Nat.le_of_ble_eq_true rfl)⟩) (fun u5 H locs hw6 S => ?_)
    have S : Sw G A s.heap _ _ [((ma 1), .inl (k 0, 800, .inl wd)), ((ma 3), .inl (k 0, 800, .inl (fun i => nI (En i)))), (h0, .inr (8, moL ma (va_up (va_up (va_up (va_up (va_up (va_up iv 9 (nI pa)) 4 (nI (stp + 1))) 8 (nI fn)) 6 (nI bs)) 7 (nI kn)) 5 (nI (wt + 1))) co)), ((ma 7), .inl (k 0, 1200, .inl (fun i => nI ((va_up WK wt 1) i)))), ((ma 8), .inl (k 0, 1200, .inl (fun i => nI ((va_up WF wt fn) i)))), ((ma 9), .inl (k 0, 1200, .inl (fun i => nI ((va_up WA wt m9) i)))), ((ma 10), .inl (k 0, 1200, .inl (fun i => nI ((va_up WB wt bs) i)))), ((ma 11), .inl (k 0, 1200, .inl (fun i => nI ((va_up WN wt kn) i))))] := S
    refine lv_aload_n hx hb d_Mo_beginOne_339 rfl (lv_at hl 2 rfl) ?_
    refine lv_dup hx hb d_Mo_beginOne_340 rfl ?_
    refine r_get C K S 2 rfl rfl clOk_Mo 23 (by decide) wf_Mo_162 (v := .int (nI pa)) rfl d_Mo_beginOne_341 ?_
    refine lv_iconst (v := 1) hx hb d_Mo_beginOne_344 (by decide) ?_
    refine z_iadd (x := nI pa) (y := 1) (v := nI (pa + 1)) hx hb d_Mo_beginOne_345 (nI_add pa 1) ?_
    refine r_put C K S 2 rfl rfl clOk_Mo 23 (by decide) wf_Mo_162 rfl (ty := .int) (v := .int (nI (pa + 1))) (by decide +kernel) rfl rfl (Nat.le_of_ble_eq_true rfl) (fs' := moL ma (va_up (va_up (va_up (va_up (va_up (va_up iv 4 (nI (stp + 1))) 8 (nI fn)) 6 (nI bs)) 7 (nI kn)) 5 (nI (wt + 1))) 9 (nI (pa + 1))) co) (ws' := [((ma 1), .inl (k 0, 800, .inl wd)), ((ma 3), .inl (k 0, 800, .inl (fun i => nI (En i)))), (h0, .inr (8, moL ma (va_up (va_up (va_up (va_up (va_up (va_up iv 4 (nI (stp + 1))) 8 (nI fn)) 6 (nI bs)) 7 (nI kn)) 5 (nI (wt + 1))) 9 (nI (pa + 1))) co)), ((ma 7), .inl (k 0, 1200, .inl (fun i => nI ((va_up WK wt 1) i)))), ((ma 8), .inl (k 0, 1200, .inl (fun i => nI ((va_up WF wt fn) i)))), ((ma 9), .inl (k 0, 1200, .inl (fun i => nI ((va_up WA wt m9) i)))), ((ma 10), .inl (k 0, 1200, .inl (fun i => nI ((va_up WB wt bs) i)))), ((ma 11), .inl (k 0, 1200, .inl (fun i => nI ((va_up WN wt kn) i))))]) rfl rfl d_Mo_beginOne_346 (fun H locs S => ?_)
    exact r_vret C K () trivial (S.sub [2, 0, 1, 3, 4, 5, 6, 7] (by decide) rfl) d_Mo_beginOne_349 (Nat.le_of_ble_eq_true rfl) (Nat.le_of_ble_eq_true rfl)
set_option maxRecDepth 100000 in
set_option maxHeartbeats 16000000 in
/-- Mo_beginOne_4 -/
theorem g_Mo_beginOne_4 (l : Launch) (G : va_G) (k : Nat → ClassId) (h0 : Nat) (s0 : Nat) (fn : Nat) (pa : Nat) (stp : Nat) (v9 : Nat) (ma : Nat → Nat) (iv : Nat → Int32) (co : Int64) (wd : Nat → Int32) (hfn : fn < 4) (hst : stp < 20000) (hpa : pa + 2 ≤ 200) (hv : wdF wd fn (pa + 1) = nI v9) (hv2 : v9 ≤ 1000) (hk : wdF wd fn pa = 4) : CV l y_Mo_beginOne c_Mo_beginOne 6 { frames := 0, cells := 0, slots := 0, locals := 0 } [.ref h0] G k s0 [(h0, .inr (8, moL ma (va_up (va_up (va_up iv 8 (nI fn)) 9 (nI pa)) 4 (nI stp)) co)), ((ma 1), .inl (k 0, 800, .inl wd))] (fun (u : Unit) => True) (fun u => [(h0, .inr (8, moL ma (va_up (va_up (va_up iv 8 (nI fn)) 9 (nI (pa + 2))) 4 (nI (stp + 1))) (co + lN v9))), ((ma 1), .inl (k 0, 800, .inl wd))]) 0 0 := by
  refine met_start (by decide) (Nat.le_of_ble_eq_true rfl) ?_
  intro p e s m below meth c C K hA hsz S ls hl
  generalize va_A [(h0, .inr (8, moL ma (va_up (va_up (va_up iv 8 (nI fn)) 9 (nI pa)) 4 (nI stp)) co)), ((ma 1), .inl (k 0, 800, .inl wd))] s0 = A at hA S ⊢
  have hx := C.1
  have hb := C.2.1
  have hl : lv_has ls 6 [(0, .ref h0)] := hl
  refine lv_aload_n hx hb d_Mo_beginOne_0 rfl (lv_at hl 0 rfl) ?_
  refine r_get C K S 0 rfl rfl clOk_Mo 12 (by decide) wf_Mo_165 (v := .int (nI stp)) rfl d_Mo_beginOne_1 ?_
  refine lv_sipush (v := 20000) hx hb d_Mo_beginOne_4 (by decide) ?_
  refine z_icmp_ne (a := stp) (b := 20000) (tgt := 16) hx hb d_Mo_beginOne_7 (by decide) (by omega) (by omega) (fun hc1 => ?_) (fun hc1 => False.elim (by omega))
  refine lv_aload_n hx hb d_Mo_beginOne_16 rfl (lv_at hl 0 rfl) ?_
  refine lv_dup hx hb d_Mo_beginOne_17 rfl ?_
  refine r_get C K S 0 rfl rfl clOk_Mo 12 (by decide) wf_Mo_165 (v := .int (nI stp)) rfl d_Mo_beginOne_18 ?_
  refine lv_iconst (v := 1) hx hb d_Mo_beginOne_21 (by decide) ?_
  refine z_iadd (x := nI stp) (y := 1) (v := nI (stp + 1)) hx hb d_Mo_beginOne_22 (nI_add stp 1) ?_
  refine r_put C K S 0 rfl rfl clOk_Mo 12 (by decide) wf_Mo_165 rfl (ty := .int) (v := .int (nI (stp + 1))) (by decide +kernel) rfl rfl (Nat.le_of_ble_eq_true rfl) (fs' := moL ma (va_up (va_up (va_up iv 8 (nI fn)) 9 (nI pa)) 4 (nI (stp + 1))) co) (ws' := [(h0, .inr (8, moL ma (va_up (va_up (va_up iv 8 (nI fn)) 9 (nI pa)) 4 (nI (stp + 1))) co)), ((ma 1), .inl (k 0, 800, .inl wd))]) rfl rfl d_Mo_beginOne_23 (fun H locs S => ?_)
  refine lv_sipush (v := 200) hx hb d_Mo_beginOne_26 (by decide) ?_
  refine lv_aload_n hx hb d_Mo_beginOne_29 rfl (lv_at hl 0 rfl) ?_
  refine r_get C K S 0 rfl rfl clOk_Mo 22 (by decide) wf_Mo_146 (v := .int (nI fn)) rfl d_Mo_beginOne_30 ?_
  refine z_imul (x := 200) (y := nI fn) (v := nI (200 * fn)) hx hb d_Mo_beginOne_33 (pk_mul 200 fn) ?_
  refine lv_aload_n hx hb d_Mo_beginOne_34 rfl (lv_at hl 0 rfl) ?_
  refine r_get C K S 0 rfl rfl clOk_Mo 23 (by decide) wf_Mo_162 (v := .int (nI pa)) rfl d_Mo_beginOne_35 ?_
  refine z_iadd (x := nI (200 * fn)) (y := nI pa) (v := nI (200 * fn + pa)) hx hb d_Mo_beginOne_38 (nI_add (200 * fn) pa) ?_
  refine lv_istore_n (lv' := [(1, .int (nI (200 * fn + pa))), (0, .ref h0)]) hx hb d_Mo_beginOne_39 rfl hl (by decide) rfl (fun ls hl => ?_)
  refine lv_aload_n hx hb d_Mo_beginOne_40 rfl (lv_at hl 1 rfl) ?_
  refine r_get C K S 0 rfl rfl clOk_Mo 2 (by decide) wf_Mo_13 (v := .ref (ma 1)) rfl d_Mo_beginOne_41 ?_
  refine lv_iload_n hx hb d_Mo_beginOne_44 rfl (lv_at hl 0 rfl) ?_
  refine lv_iconst (v := 1) hx hb d_Mo_beginOne_45 (by decide) ?_
  refine z_iadd (x := nI (200 * fn + pa)) (y := 1) (v := nI (200 * fn + pa + 1)) hx hb d_Mo_beginOne_46 (nI_add (200 * fn + pa) 1) ?_
  refine lv_sipush (v := 800) hx hb d_Mo_beginOne_47 (by decide) ?_
  refine z_icmp_ge (a := (200 * fn + pa + 1)) (b := 800) (tgt := 59) hx hb d_Mo_beginOne_50 (by decide) (by omega) (by omega) (fun hc2 => False.elim (by omega)) (fun hc2 => ?_)
  refine lv_iload_n hx hb d_Mo_beginOne_53 rfl (lv_at hl 0 rfl) ?_
  refine lv_iconst (v := 1) hx hb d_Mo_beginOne_54 (by decide) ?_
  refine z_iadd (x := nI (200 * fn + pa)) (y := 1) (v := nI (200 * fn + pa + 1)) hx hb d_Mo_beginOne_55 (nI_add (200 * fn + pa) 1) ?_
  refine lv_goto (tgt := 60) hx hb d_Mo_beginOne_56 (by decide) ?_
  refine r_iald C K S 1 rfl (i := nI (200 * fn + pa + 1)) (show vp_in (nI (200 * fn + pa + 1)) _ from vp_in_nI (n := (200 * fn + pa + 1)) (by omega) (by decide)) (v := wdF wd fn (pa + 1)) (by rw [nI_clamp (by omega)]; exact (show wd (200 * fn + pa + 1) = wd (200 * fn + (pa + 1)) from congrArg wd (by omega))) d_Mo_beginOne_60 ?_
  rw [hv]
  refine lv_istore_n (lv' := [(2, .int (nI v9)), (1, .int (nI (200 * fn + pa))), (0, .ref h0)]) hx hb d_Mo_beginOne_61 rfl hl (by decide) rfl (fun ls hl => ?_)
  refine lv_aload_n hx hb d_Mo_beginOne_62 rfl (lv_at hl 2 rfl) ?_
  refine r_get C K S 0 rfl rfl clOk_Mo 2 (by decide) wf_Mo_13 (v := .ref (ma 1)) rfl d_Mo_beginOne_63 ?_
  refine lv_iload_n hx hb d_Mo_beginOne_66 rfl (lv_at hl 1 rfl) ?_
  refine r_iald C K S 1 rfl (i := nI (200 * fn + pa)) (show vp_in (nI (200 * fn + pa)) _ from vp_in_nI (n := (200 * fn + pa)) (by omega) (by decide)) (v := wdF wd fn pa) (by rw [nI_clamp (by omega)]; exact (show wd (200 * fn + pa) = wd (200 * fn + pa) from congrArg wd (by omega))) d_Mo_beginOne_67 ?_
  refine lv_tableIn (x := wdF wd fn pa) (off := 156) (tgt := 224) hx hb d_Mo_beginOne_68 (by rw [hk]; decide) (by rw [hk]; decide) (by rw [hk]; rfl) (by decide) ?_
  refine lv_aload_n hx hb d_Mo_beginOne_224 rfl (lv_at hl 2 rfl) ?_
  refine lv_dup hx hb d_Mo_beginOne_225 rfl ?_
  refine r_get C K S 0 rfl rfl clOk_Mo 10 (by decide) wf_Mo_175 (v := .long co) rfl d_Mo_beginOne_226 ?_
  refine lv_iload_n hx hb d_Mo_beginOne_229 rfl (lv_at hl 0 rfl) ?_
  refine lv_i2l (v := lN v9) hx hb d_Mo_beginOne_230 (show (nI v9 : Int32).toInt64 = _ from nI_l (n := v9) (by omega)) ?_
  refine lv_ladd hx hb d_Mo_beginOne_231 ?_
  refine r_put C K S 0 rfl rfl clOk_Mo 10 (by decide) wf_Mo_175 rfl (ty := .long) (v := .long (co + (lN v9))) (by decide +kernel) rfl rfl (Nat.le_of_ble_eq_true rfl) (fs' := moL ma (va_up (va_up (va_up iv 8 (nI fn)) 9 (nI pa)) 4 (nI (stp + 1))) (co + (lN v9))) (ws' := [(h0, .inr (8, moL ma (va_up (va_up (va_up iv 8 (nI fn)) 9 (nI pa)) 4 (nI (stp + 1))) (co + (lN v9)))), ((ma 1), .inl (k 0, 800, .inl wd))]) rfl rfl d_Mo_beginOne_232 (fun H locs S => ?_)
  refine lv_aload_n hx hb d_Mo_beginOne_235 rfl (lv_at hl 2 rfl) ?_
  refine lv_dup hx hb d_Mo_beginOne_236 rfl ?_
  refine r_get C K S 0 rfl rfl clOk_Mo 23 (by decide) wf_Mo_162 (v := .int (nI pa)) rfl d_Mo_beginOne_237 ?_
  refine lv_iconst (v := 2) hx hb d_Mo_beginOne_240 (by decide) ?_
  refine z_iadd (x := nI pa) (y := 2) (v := nI (pa + 2)) hx hb d_Mo_beginOne_241 (nI_add pa 2) ?_
  refine r_put C K S 0 rfl rfl clOk_Mo 23 (by decide) wf_Mo_162 rfl (ty := .int) (v := .int (nI (pa + 2))) (by decide +kernel) rfl rfl (Nat.le_of_ble_eq_true rfl) (fs' := moL ma (va_up (va_up (va_up iv 8 (nI fn)) 4 (nI (stp + 1))) 9 (nI (pa + 2))) (co + (lN v9))) (ws' := [(h0, .inr (8, moL ma (va_up (va_up (va_up iv 8 (nI fn)) 4 (nI (stp + 1))) 9 (nI (pa + 2))) (co + (lN v9)))), ((ma 1), .inl (k 0, 800, .inl wd))]) rfl rfl d_Mo_beginOne_242 (fun H locs S => ?_)
  refine lv_goto (tgt := 349) hx hb d_Mo_beginOne_245 (by decide) ?_
  exact r_vret C K () trivial (S.sub [0, 1] (by decide) rfl) d_Mo_beginOne_349 (Nat.le_of_ble_eq_true rfl) (Nat.le_of_ble_eq_true rfl)
set_option maxRecDepth 100000 in
set_option maxHeartbeats 16000000 in
/-- Mo_beginOne_3e -/
theorem g_Mo_beginOne_3e (l : Launch) (G : va_G) (k : Nat → ClassId) (h0 : Nat) (s0 : Nat) (fn : Nat) (pa : Nat) (stp : Nat) (v9 : Nat) (n9 : Nat) (bs : Nat) (kn : Nat) (vr : Nat → Int32) (En : Nat → Nat) (ma : Nat → Nat) (iv : Nat → Int32) (co : Int64) (wd : Nat → Int32) (hfn : fn < 4) (hst : stp < 20000) (hpa : pa + 2 ≤ 200) (hv : wdF wd fn (pa + 1) = nI v9) (hb9 : bs + v9 < 1400) (hvn : vr (bs + v9) = nI n9) (hn0 : n9 = 0) (hk : wdF wd fn pa = 3) : CV l y_Mo_beginOne c_Mo_beginOne 6 { frames := 0, cells := 0, slots := 0, locals := 0 } [.ref h0] G k s0 [(h0, .inr (8, moL ma (va_up (va_up (va_up (va_up (va_up iv 8 (nI fn)) 9 (nI pa)) 4 (nI stp)) 6 (nI bs)) 7 (nI kn)) co)), ((ma 1), .inl (k 0, 800, .inl wd)), ((ma 3), .inl (k 0, 800, .inl (fun i => nI (En i)))), ((ma 12), .inl (k 0, 1400, .inl vr))] (fun (u : Unit) => True) (fun u => [(h0, .inr (8, moL ma (va_up (va_up (va_up (va_up (va_up iv 8 (nI fn)) 9 (nI (pa + 2))) 6 (nI bs)) 7 (nI kn)) 4 (nI (stp + 1))) co)), ((ma 1), .inl (k 0, 800, .inl wd)), ((ma 3), .inl (k 0, 800, .inl (fun i => nI (En i)))), ((ma 12), .inl (k 0, 1400, .inl vr))]) 0 0 := by
  refine met_start (by decide) (Nat.le_of_ble_eq_true rfl) ?_
  intro p e s m below meth c C K hA hsz S ls hl
  generalize va_A [(h0, .inr (8, moL ma (va_up (va_up (va_up (va_up (va_up iv 8 (nI fn)) 9 (nI pa)) 4 (nI stp)) 6 (nI bs)) 7 (nI kn)) co)), ((ma 1), .inl (k 0, 800, .inl wd)), ((ma 3), .inl (k 0, 800, .inl (fun i => nI (En i)))), ((ma 12), .inl (k 0, 1400, .inl vr))] s0 = A at hA S ⊢
  have hx := C.1
  have hb := C.2.1
  have hl : lv_has ls 6 [(0, .ref h0)] := hl
  refine lv_aload_n hx hb d_Mo_beginOne_0 rfl (lv_at hl 0 rfl) ?_
  refine r_get C K S 0 rfl rfl clOk_Mo 12 (by decide) wf_Mo_165 (v := .int (nI stp)) rfl d_Mo_beginOne_1 ?_
  refine lv_sipush (v := 20000) hx hb d_Mo_beginOne_4 (by decide) ?_
  refine z_icmp_ne (a := stp) (b := 20000) (tgt := 16) hx hb d_Mo_beginOne_7 (by decide) (by omega) (by omega) (fun hc1 => ?_) (fun hc1 => False.elim (by omega))
  refine lv_aload_n hx hb d_Mo_beginOne_16 rfl (lv_at hl 0 rfl) ?_
  refine lv_dup hx hb d_Mo_beginOne_17 rfl ?_
  refine r_get C K S 0 rfl rfl clOk_Mo 12 (by decide) wf_Mo_165 (v := .int (nI stp)) rfl d_Mo_beginOne_18 ?_
  refine lv_iconst (v := 1) hx hb d_Mo_beginOne_21 (by decide) ?_
  refine z_iadd (x := nI stp) (y := 1) (v := nI (stp + 1)) hx hb d_Mo_beginOne_22 (nI_add stp 1) ?_
  refine r_put C K S 0 rfl rfl clOk_Mo 12 (by decide) wf_Mo_165 rfl (ty := .int) (v := .int (nI (stp + 1))) (by decide +kernel) rfl rfl (Nat.le_of_ble_eq_true rfl) (fs' := moL ma (va_up (va_up (va_up (va_up (va_up iv 8 (nI fn)) 9 (nI pa)) 6 (nI bs)) 7 (nI kn)) 4 (nI (stp + 1))) co) (ws' := [(h0, .inr (8, moL ma (va_up (va_up (va_up (va_up (va_up iv 8 (nI fn)) 9 (nI pa)) 6 (nI bs)) 7 (nI kn)) 4 (nI (stp + 1))) co)), ((ma 1), .inl (k 0, 800, .inl wd)), ((ma 3), .inl (k 0, 800, .inl (fun i => nI (En i)))), ((ma 12), .inl (k 0, 1400, .inl vr))]) rfl rfl d_Mo_beginOne_23 (fun H locs S => ?_)
  refine lv_sipush (v := 200) hx hb d_Mo_beginOne_26 (by decide) ?_
  refine lv_aload_n hx hb d_Mo_beginOne_29 rfl (lv_at hl 0 rfl) ?_
  refine r_get C K S 0 rfl rfl clOk_Mo 22 (by decide) wf_Mo_146 (v := .int (nI fn)) rfl d_Mo_beginOne_30 ?_
  refine z_imul (x := 200) (y := nI fn) (v := nI (200 * fn)) hx hb d_Mo_beginOne_33 (pk_mul 200 fn) ?_
  refine lv_aload_n hx hb d_Mo_beginOne_34 rfl (lv_at hl 0 rfl) ?_
  refine r_get C K S 0 rfl rfl clOk_Mo 23 (by decide) wf_Mo_162 (v := .int (nI pa)) rfl d_Mo_beginOne_35 ?_
  refine z_iadd (x := nI (200 * fn)) (y := nI pa) (v := nI (200 * fn + pa)) hx hb d_Mo_beginOne_38 (nI_add (200 * fn) pa) ?_
  refine lv_istore_n (lv' := [(1, .int (nI (200 * fn + pa))), (0, .ref h0)]) hx hb d_Mo_beginOne_39 rfl hl (by decide) rfl (fun ls hl => ?_)
  refine lv_aload_n hx hb d_Mo_beginOne_40 rfl (lv_at hl 1 rfl) ?_
  refine r_get C K S 0 rfl rfl clOk_Mo 2 (by decide) wf_Mo_13 (v := .ref (ma 1)) rfl d_Mo_beginOne_41 ?_
  refine lv_iload_n hx hb d_Mo_beginOne_44 rfl (lv_at hl 0 rfl) ?_
  refine lv_iconst (v := 1) hx hb d_Mo_beginOne_45 (by decide) ?_
  refine z_iadd (x := nI (200 * fn + pa)) (y := 1) (v := nI (200 * fn + pa + 1)) hx hb d_Mo_beginOne_46 (nI_add (200 * fn + pa) 1) ?_
  refine lv_sipush (v := 800) hx hb d_Mo_beginOne_47 (by decide) ?_
  refine z_icmp_ge (a := (200 * fn + pa + 1)) (b := 800) (tgt := 59) hx hb d_Mo_beginOne_50 (by decide) (by omega) (by omega) (fun hc2 => False.elim (by omega)) (fun hc2 => ?_)
  refine lv_iload_n hx hb d_Mo_beginOne_53 rfl (lv_at hl 0 rfl) ?_
  refine lv_iconst (v := 1) hx hb d_Mo_beginOne_54 (by decide) ?_
  refine z_iadd (x := nI (200 * fn + pa)) (y := 1) (v := nI (200 * fn + pa + 1)) hx hb d_Mo_beginOne_55 (nI_add (200 * fn + pa) 1) ?_
  refine lv_goto (tgt := 60) hx hb d_Mo_beginOne_56 (by decide) ?_
  refine r_iald C K S 1 rfl (i := nI (200 * fn + pa + 1)) (show vp_in (nI (200 * fn + pa + 1)) _ from vp_in_nI (n := (200 * fn + pa + 1)) (by omega) (by decide)) (v := wdF wd fn (pa + 1)) (by rw [nI_clamp (by omega)]; exact (show wd (200 * fn + pa + 1) = wd (200 * fn + (pa + 1)) from congrArg wd (by omega))) d_Mo_beginOne_60 ?_
  rw [hv]
  refine lv_istore_n (lv' := [(2, .int (nI v9)), (1, .int (nI (200 * fn + pa))), (0, .ref h0)]) hx hb d_Mo_beginOne_61 rfl hl (by decide) rfl (fun ls hl => ?_)
  refine lv_aload_n hx hb d_Mo_beginOne_62 rfl (lv_at hl 2 rfl) ?_
  refine r_get C K S 0 rfl rfl clOk_Mo 2 (by decide) wf_Mo_13 (v := .ref (ma 1)) rfl d_Mo_beginOne_63 ?_
  refine lv_iload_n hx hb d_Mo_beginOne_66 rfl (lv_at hl 1 rfl) ?_
  refine r_iald C K S 1 rfl (i := nI (200 * fn + pa)) (show vp_in (nI (200 * fn + pa)) _ from vp_in_nI (n := (200 * fn + pa)) (by omega) (by decide)) (v := wdF wd fn pa) (by rw [nI_clamp (by omega)]; exact (show wd (200 * fn + pa) = wd (200 * fn + pa) from congrArg wd (by omega))) d_Mo_beginOne_67 ?_
  refine lv_tableIn (x := wdF wd fn pa) (off := 85) (tgt := 153) hx hb d_Mo_beginOne_68 (by rw [hk]; decide) (by rw [hk]; decide) (by rw [hk]; rfl) (by decide) ?_
  refine lv_aload_n hx hb d_Mo_beginOne_153 rfl (lv_at hl 2 rfl) ?_
  refine r_get C K S 0 rfl rfl clOk_Mo 19 (by decide) wf_Mo_53 (v := .ref (ma 12)) rfl d_Mo_beginOne_154 ?_
  refine lv_aload_n hx hb d_Mo_beginOne_157 rfl (lv_at hl 2 rfl) ?_
  refine r_get C K S 0 rfl rfl clOk_Mo 20 (by decide) wf_Mo_149 (v := .int (nI bs)) rfl d_Mo_beginOne_158 ?_
  refine lv_iload_n hx hb d_Mo_beginOne_161 rfl (lv_at hl 0 rfl) ?_
  refine z_iadd (x := nI bs) (y := nI v9) (v := nI (bs + v9)) hx hb d_Mo_beginOne_162 (nI_add bs v9) ?_
  refine r_iald C K S 3 rfl (i := nI (bs + v9)) (show vp_in (nI (bs + v9)) _ from vp_in_nI (n := (bs + v9)) (by omega) (by decide)) (v := vr (bs + v9)) (by rw [nI_clamp (by omega)]) d_Mo_beginOne_163 ?_
  rw [hvn, hn0]
  refine lv_istore_n (lv' := [(3, .int (nI 0)), (2, .int (nI v9)), (1, .int (nI (200 * fn + pa))), (0, .ref h0)]) hx hb d_Mo_beginOne_164 rfl hl (by decide) rfl (fun ls hl => ?_)
  refine lv_aload_n hx hb d_Mo_beginOne_165 rfl (lv_at hl 3 rfl) ?_
  refine lv_iload_n hx hb d_Mo_beginOne_166 rfl (lv_at hl 0 rfl) ?_
  refine z_if_ne (a := 0) (tgt := 179) hx hb d_Mo_beginOne_167 (by decide) (by omega) (fun hc3 => False.elim (by omega)) (fun hc3 => ?_)
  refine lv_aload_n hx hb d_Mo_beginOne_170 rfl (lv_at hl 3 rfl) ?_
  refine r_get C K S 0 rfl rfl clOk_Mo 23 (by decide) wf_Mo_162 (v := .int (nI pa)) rfl d_Mo_beginOne_171 ?_
  refine lv_iconst (v := 2) hx hb d_Mo_beginOne_174 (by decide) ?_
  refine z_iadd (x := nI pa) (y := 2) (v := nI (pa + 2)) hx hb d_Mo_beginOne_175 (nI_add pa 2) ?_
  refine lv_goto (tgt := 187) hx hb d_Mo_beginOne_176 (by decide) ?_
  refine r_put C K S 0 rfl rfl clOk_Mo 23 (by decide) wf_Mo_162 rfl (ty := .int) (v := .int (nI (pa + 2))) (by decide +kernel) rfl rfl (Nat.le_of_ble_eq_true rfl) (fs' := moL ma (va_up (va_up (va_up (va_up (va_up iv 8 (nI fn)) 6 (nI bs)) 7 (nI kn)) 4 (nI (stp + 1))) 9 (nI (pa + 2))) co) (ws' := [(h0, .inr (8, moL ma (va_up (va_up (va_up (va_up (va_up iv 8 (nI fn)) 6 (nI bs)) 7 (nI kn)) 4 (nI (stp + 1))) 9 (nI (pa + 2))) co)), ((ma 1), .inl (k 0, 800, .inl wd)), ((ma 3), .inl (k 0, 800, .inl (fun i => nI (En i)))), ((ma 12), .inl (k 0, 1400, .inl vr))]) rfl rfl d_Mo_beginOne_187 (fun H locs S => ?_)
  refine lv_iload_n hx hb d_Mo_beginOne_190 rfl (lv_at hl 0 rfl) ?_
  refine z_if_le (a := 0) (tgt := 349) hx hb d_Mo_beginOne_191 (by decide) (by omega) (fun hc4 => ?_) (fun hc4 => False.elim (by omega))
  exact r_vret C K () trivial (S.sub [0, 1, 2, 3] (by decide) rfl) d_Mo_beginOne_349 (Nat.le_of_ble_eq_true rfl) (Nat.le_of_ble_eq_true rfl)
set_option maxRecDepth 100000 in
set_option maxHeartbeats 16000000 in
/-- Mo_beginOne_3f -/
theorem g_Mo_beginOne_3f (l : Launch) (G : va_G) (k : Nat → ClassId) (h0 : Nat) (s0 : Nat) (fn : Nat) (pa : Nat) (stp : Nat) (v9 : Nat) (n9 : Nat) (bs : Nat) (kn : Nat) (vr : Nat → Int32) (En : Nat → Nat) (m9 : Nat) (ma : Nat → Nat) (iv : Nat → Int32) (co : Int64) (wd : Nat → Int32) (hfn : fn < 4) (hst : stp < 20000) (hpa : pa + 3 ≤ 200) (hv : wdF wd fn (pa + 1) = nI v9) (hb9 : bs + v9 < 1400) (hb8 : bs + kn < 1400) (hvn : vr (bs + v9) = nI n9) (hn0 : 0 < n9 ∧ n9 < 100000) (hm : En (200 * fn + pa + 2) = m9) (hk : wdF wd fn pa = 3) : CV l y_Mo_beginOne c_Mo_beginOne 6 { frames := 0, cells := 0, slots := 0, locals := 0 } [.ref h0] G k s0 [(h0, .inr (8, moL ma (va_up (va_up (va_up (va_up (va_up iv 8 (nI fn)) 9 (nI pa)) 4 (nI stp)) 6 (nI bs)) 7 (nI kn)) co)), ((ma 1), .inl (k 0, 800, .inl wd)), ((ma 3), .inl (k 0, 800, .inl (fun i => nI (En i)))), ((ma 12), .inl (k 0, 1400, .inl vr))] (fun (u : Unit) => True) (fun u => [(h0, .inr (8, moL ma (va_up (va_up (va_up (va_up (va_up iv 8 (nI fn)) 9 (nI m9)) 6 (nI bs)) 7 (nI (kn + 1))) 4 (nI (stp + 1))) co)), ((ma 1), .inl (k 0, 800, .inl wd)), ((ma 3), .inl (k 0, 800, .inl (fun i => nI (En i)))), ((ma 12), .inl (k 0, 1400, .inl (va_up vr (bs + kn) (nI (n9 - 1)))))]) 0 0 := by
  refine met_start (by decide) (Nat.le_of_ble_eq_true rfl) ?_
  intro p e s m below meth c C K hA hsz S ls hl
  generalize va_A [(h0, .inr (8, moL ma (va_up (va_up (va_up (va_up (va_up iv 8 (nI fn)) 9 (nI pa)) 4 (nI stp)) 6 (nI bs)) 7 (nI kn)) co)), ((ma 1), .inl (k 0, 800, .inl wd)), ((ma 3), .inl (k 0, 800, .inl (fun i => nI (En i)))), ((ma 12), .inl (k 0, 1400, .inl vr))] s0 = A at hA S ⊢
  have hx := C.1
  have hb := C.2.1
  have hl : lv_has ls 6 [(0, .ref h0)] := hl
  refine lv_aload_n hx hb d_Mo_beginOne_0 rfl (lv_at hl 0 rfl) ?_
  refine r_get C K S 0 rfl rfl clOk_Mo 12 (by decide) wf_Mo_165 (v := .int (nI stp)) rfl d_Mo_beginOne_1 ?_
  refine lv_sipush (v := 20000) hx hb d_Mo_beginOne_4 (by decide) ?_
  refine z_icmp_ne (a := stp) (b := 20000) (tgt := 16) hx hb d_Mo_beginOne_7 (by decide) (by omega) (by omega) (fun hc1 => ?_) (fun hc1 => False.elim (by omega))
  refine lv_aload_n hx hb d_Mo_beginOne_16 rfl (lv_at hl 0 rfl) ?_
  refine lv_dup hx hb d_Mo_beginOne_17 rfl ?_
  refine r_get C K S 0 rfl rfl clOk_Mo 12 (by decide) wf_Mo_165 (v := .int (nI stp)) rfl d_Mo_beginOne_18 ?_
  refine lv_iconst (v := 1) hx hb d_Mo_beginOne_21 (by decide) ?_
  refine z_iadd (x := nI stp) (y := 1) (v := nI (stp + 1)) hx hb d_Mo_beginOne_22 (nI_add stp 1) ?_
  refine r_put C K S 0 rfl rfl clOk_Mo 12 (by decide) wf_Mo_165 rfl (ty := .int) (v := .int (nI (stp + 1))) (by decide +kernel) rfl rfl (Nat.le_of_ble_eq_true rfl) (fs' := moL ma (va_up (va_up (va_up (va_up (va_up iv 8 (nI fn)) 9 (nI pa)) 6 (nI bs)) 7 (nI kn)) 4 (nI (stp + 1))) co) (ws' := [(h0, .inr (8, moL ma (va_up (va_up (va_up (va_up (va_up iv 8 (nI fn)) 9 (nI pa)) 6 (nI bs)) 7 (nI kn)) 4 (nI (stp + 1))) co)), ((ma 1), .inl (k 0, 800, .inl wd)), ((ma 3), .inl (k 0, 800, .inl (fun i => nI (En i)))), ((ma 12), .inl (k 0, 1400, .inl vr))]) rfl rfl d_Mo_beginOne_23 (fun H locs S => ?_)
  refine lv_sipush (v := 200) hx hb d_Mo_beginOne_26 (by decide) ?_
  refine lv_aload_n hx hb d_Mo_beginOne_29 rfl (lv_at hl 0 rfl) ?_
  refine r_get C K S 0 rfl rfl clOk_Mo 22 (by decide) wf_Mo_146 (v := .int (nI fn)) rfl d_Mo_beginOne_30 ?_
  refine z_imul (x := 200) (y := nI fn) (v := nI (200 * fn)) hx hb d_Mo_beginOne_33 (pk_mul 200 fn) ?_
  refine lv_aload_n hx hb d_Mo_beginOne_34 rfl (lv_at hl 0 rfl) ?_
  refine r_get C K S 0 rfl rfl clOk_Mo 23 (by decide) wf_Mo_162 (v := .int (nI pa)) rfl d_Mo_beginOne_35 ?_
  refine z_iadd (x := nI (200 * fn)) (y := nI pa) (v := nI (200 * fn + pa)) hx hb d_Mo_beginOne_38 (nI_add (200 * fn) pa) ?_
  refine lv_istore_n (lv' := [(1, .int (nI (200 * fn + pa))), (0, .ref h0)]) hx hb d_Mo_beginOne_39 rfl hl (by decide) rfl (fun ls hl => ?_)
  refine lv_aload_n hx hb d_Mo_beginOne_40 rfl (lv_at hl 1 rfl) ?_
  refine r_get C K S 0 rfl rfl clOk_Mo 2 (by decide) wf_Mo_13 (v := .ref (ma 1)) rfl d_Mo_beginOne_41 ?_
  refine lv_iload_n hx hb d_Mo_beginOne_44 rfl (lv_at hl 0 rfl) ?_
  refine lv_iconst (v := 1) hx hb d_Mo_beginOne_45 (by decide) ?_
  refine z_iadd (x := nI (200 * fn + pa)) (y := 1) (v := nI (200 * fn + pa + 1)) hx hb d_Mo_beginOne_46 (nI_add (200 * fn + pa) 1) ?_
  refine lv_sipush (v := 800) hx hb d_Mo_beginOne_47 (by decide) ?_
  refine z_icmp_ge (a := (200 * fn + pa + 1)) (b := 800) (tgt := 59) hx hb d_Mo_beginOne_50 (by decide) (by omega) (by omega) (fun hc2 => False.elim (by omega)) (fun hc2 => ?_)
  refine lv_iload_n hx hb d_Mo_beginOne_53 rfl (lv_at hl 0 rfl) ?_
  refine lv_iconst (v := 1) hx hb d_Mo_beginOne_54 (by decide) ?_
  refine z_iadd (x := nI (200 * fn + pa)) (y := 1) (v := nI (200 * fn + pa + 1)) hx hb d_Mo_beginOne_55 (nI_add (200 * fn + pa) 1) ?_
  refine lv_goto (tgt := 60) hx hb d_Mo_beginOne_56 (by decide) ?_
  refine r_iald C K S 1 rfl (i := nI (200 * fn + pa + 1)) (show vp_in (nI (200 * fn + pa + 1)) _ from vp_in_nI (n := (200 * fn + pa + 1)) (by omega) (by decide)) (v := wdF wd fn (pa + 1)) (by rw [nI_clamp (by omega)]; exact (show wd (200 * fn + pa + 1) = wd (200 * fn + (pa + 1)) from congrArg wd (by omega))) d_Mo_beginOne_60 ?_
  rw [hv]
  refine lv_istore_n (lv' := [(2, .int (nI v9)), (1, .int (nI (200 * fn + pa))), (0, .ref h0)]) hx hb d_Mo_beginOne_61 rfl hl (by decide) rfl (fun ls hl => ?_)
  refine lv_aload_n hx hb d_Mo_beginOne_62 rfl (lv_at hl 2 rfl) ?_
  refine r_get C K S 0 rfl rfl clOk_Mo 2 (by decide) wf_Mo_13 (v := .ref (ma 1)) rfl d_Mo_beginOne_63 ?_
  refine lv_iload_n hx hb d_Mo_beginOne_66 rfl (lv_at hl 1 rfl) ?_
  refine r_iald C K S 1 rfl (i := nI (200 * fn + pa)) (show vp_in (nI (200 * fn + pa)) _ from vp_in_nI (n := (200 * fn + pa)) (by omega) (by decide)) (v := wdF wd fn pa) (by rw [nI_clamp (by omega)]; exact (show wd (200 * fn + pa) = wd (200 * fn + pa) from congrArg wd (by omega))) d_Mo_beginOne_67 ?_
  refine lv_tableIn (x := wdF wd fn pa) (off := 85) (tgt := 153) hx hb d_Mo_beginOne_68 (by rw [hk]; decide) (by rw [hk]; decide) (by rw [hk]; rfl) (by decide) ?_
  refine lv_aload_n hx hb d_Mo_beginOne_153 rfl (lv_at hl 2 rfl) ?_
  refine r_get C K S 0 rfl rfl clOk_Mo 19 (by decide) wf_Mo_53 (v := .ref (ma 12)) rfl d_Mo_beginOne_154 ?_
  refine lv_aload_n hx hb d_Mo_beginOne_157 rfl (lv_at hl 2 rfl) ?_
  refine r_get C K S 0 rfl rfl clOk_Mo 20 (by decide) wf_Mo_149 (v := .int (nI bs)) rfl d_Mo_beginOne_158 ?_
  refine lv_iload_n hx hb d_Mo_beginOne_161 rfl (lv_at hl 0 rfl) ?_
  refine z_iadd (x := nI bs) (y := nI v9) (v := nI (bs + v9)) hx hb d_Mo_beginOne_162 (nI_add bs v9) ?_
  refine r_iald C K S 3 rfl (i := nI (bs + v9)) (show vp_in (nI (bs + v9)) _ from vp_in_nI (n := (bs + v9)) (by omega) (by decide)) (v := vr (bs + v9)) (by rw [nI_clamp (by omega)]) d_Mo_beginOne_163 ?_
  rw [hvn]
  refine lv_istore_n (lv' := [(3, .int (nI n9)), (2, .int (nI v9)), (1, .int (nI (200 * fn + pa))), (0, .ref h0)]) hx hb d_Mo_beginOne_164 rfl hl (by decide) rfl (fun ls hl => ?_)
  refine lv_aload_n hx hb d_Mo_beginOne_165 rfl (lv_at hl 3 rfl) ?_
  refine lv_iload_n hx hb d_Mo_beginOne_166 rfl (lv_at hl 0 rfl) ?_
  refine z_if_ne (a := n9) (tgt := 179) hx hb d_Mo_beginOne_167 (by decide) (by omega) (fun hc3 => ?_) (fun hc3 => False.elim (by omega))
  refine lv_aload_n hx hb d_Mo_beginOne_179 rfl (lv_at hl 3 rfl) ?_
  refine r_get C K S 0 rfl rfl clOk_Mo 5 (by decide) wf_Mo_23 (v := .ref (ma 3)) rfl d_Mo_beginOne_180 ?_
  refine lv_iload_n hx hb d_Mo_beginOne_183 rfl (lv_at hl 2 rfl) ?_
  refine lv_iconst (v := 2) hx hb d_Mo_beginOne_184 (by decide) ?_
  refine z_iadd (x := nI (200 * fn + pa)) (y := 2) (v := nI (200 * fn + pa + 2)) hx hb d_Mo_beginOne_185 (nI_add (200 * fn + pa) 2) ?_
  refine r_iald C K S 2 rfl (i := nI (200 * fn + pa + 2)) (show vp_in (nI (200 * fn + pa + 2)) _ from vp_in_nI (n := (200 * fn + pa + 2)) (by omega) (by decide)) (v := nI (En (200 * fn + pa + 2))) (by rw [nI_clamp (by omega)]) d_Mo_beginOne_186 ?_
  rw [hm]
  refine r_put C K S 0 rfl rfl clOk_Mo 23 (by decide) wf_Mo_162 rfl (ty := .int) (v := .int (nI m9)) (by decide +kernel) rfl rfl (Nat.le_of_ble_eq_true rfl) (fs' := moL ma (va_up (va_up (va_up (va_up (va_up iv 8 (nI fn)) 6 (nI bs)) 7 (nI kn)) 4 (nI (stp + 1))) 9 (nI m9)) co) (ws' := [(h0, .inr (8, moL ma (va_up (va_up (va_up (va_up (va_up iv 8 (nI fn)) 6 (nI bs)) 7 (nI kn)) 4 (nI (stp + 1))) 9 (nI m9)) co)), ((ma 1), .inl (k 0, 800, .inl wd)), ((ma 3), .inl (k 0, 800, .inl (fun i => nI (En i)))), ((ma 12), .inl (k 0, 1400, .inl vr))]) rfl rfl d_Mo_beginOne_187 (fun H locs S => ?_)
  refine lv_iload_n hx hb d_Mo_beginOne_190 rfl (lv_at hl 0 rfl) ?_
  refine z_if_le (a := n9) (tgt := 349) hx hb d_Mo_beginOne_191 (by decide) (by omega) (fun hc4 => False.elim (by omega)) (fun hc4 => ?_)
  refine lv_aload_n hx hb d_Mo_beginOne_194 rfl (lv_at hl 3 rfl) ?_
  refine r_get C K S 0 rfl rfl clOk_Mo 19 (by decide) wf_Mo_53 (v := .ref (ma 12)) rfl d_Mo_beginOne_195 ?_
  refine lv_aload_n hx hb d_Mo_beginOne_198 rfl (lv_at hl 3 rfl) ?_
  refine r_get C K S 0 rfl rfl clOk_Mo 20 (by decide) wf_Mo_149 (v := .int (nI bs)) rfl d_Mo_beginOne_199 ?_
  refine lv_aload_n hx hb d_Mo_beginOne_202 rfl (lv_at hl 3 rfl) ?_
  refine r_get C K S 0 rfl rfl clOk_Mo 21 (by decide) wf_Mo_152 (v := .int (nI kn)) rfl d_Mo_beginOne_203 ?_
  refine z_iadd (x := nI bs) (y := nI kn) (v := nI (bs + kn)) hx hb d_Mo_beginOne_206 (nI_add bs kn) ?_
  refine lv_iload_n hx hb d_Mo_beginOne_207 rfl (lv_at hl 0 rfl) ?_
  refine lv_iconst (v := 1) hx hb d_Mo_beginOne_208 (by decide) ?_
  refine z_isub (x := nI n9) (y := 1) (v := nI (n9 - 1)) hx hb d_Mo_beginOne_209 (pk_sub (a := n9) (b := 1) (by omega)) ?_
  refine r_iast C K S 3 rfl (i := nI (bs + kn)) (x := nI (n9 - 1)) (show vp_in (nI (bs + kn)) _ from vp_in_nI (n := (bs + kn)) (by omega) (by decide)) (f' := va_up vr (bs + kn) (nI (n9 - 1))) (ws' := [(h0, .inr (8, moL ma (va_up (va_up (va_up (va_up (va_up iv 8 (nI fn)) 6 (nI bs)) 7 (nI kn)) 4 (nI (stp + 1))) 9 (nI m9)) co)), ((ma 1), .inl (k 0, 800, .inl wd)), ((ma 3), .inl (k 0, 800, .inl (fun i => nI (En i)))), ((ma 12), .inl (k 0, 1400, .inl (va_up vr (bs + kn) (nI (n9 - 1)))))]) (show upd _ (nI (bs + kn) : Int32).toNatClampNeg (nI (n9 - 1)) = _ from upd_W vr (j := (bs + kn)) (by omega) (nI (n9 - 1))) rfl d_Mo_beginOne_210 (fun H locs S => ?_)
  refine lv_aload_n hx hb d_Mo_beginOne_211 rfl (lv_at hl 3 rfl) ?_
  refine lv_dup hx hb d_Mo_beginOne_212 rfl ?_
  refine r_get C K S 0 rfl rfl clOk_Mo 21 (by decide) wf_Mo_152 (v := .int (nI kn)) rfl d_Mo_beginOne_213 ?_
  refine lv_iconst (v := 1) hx hb d_Mo_beginOne_216 (by decide) ?_
  refine z_iadd (x := nI kn) (y := 1) (v := nI (kn + 1)) hx hb d_Mo_beginOne_217 (nI_add kn 1) ?_
  refine r_put C K S 0 rfl rfl clOk_Mo 21 (by decide) wf_Mo_152 rfl (ty := .int) (v := .int (nI (kn + 1))) (by decide +kernel) rfl rfl (Nat.le_of_ble_eq_true rfl) (fs' := moL ma (va_up (va_up (va_up (va_up (va_up iv 8 (nI fn)) 6 (nI bs)) 4 (nI (stp + 1))) 9 (nI m9)) 7 (nI (kn + 1))) co) (ws' := [(h0, .inr (8, moL ma (va_up (va_up (va_up (va_up (va_up iv 8 (nI fn)) 6 (nI bs)) 4 (nI (stp + 1))) 9 (nI m9)) 7 (nI (kn + 1))) co)), ((ma 1), .inl (k 0, 800, .inl wd)), ((ma 3), .inl (k 0, 800, .inl (fun i => nI (En i)))), ((ma 12), .inl (k 0, 1400, .inl (va_up vr (bs + kn) (nI (n9 - 1)))))]) rfl rfl d_Mo_beginOne_218 (fun H locs S => ?_)
  refine lv_goto (tgt := 349) hx hb d_Mo_beginOne_221 (by decide) ?_
  exact r_vret C K () trivial (S.sub [0, 1, 2, 3] (by decide) rfl) d_Mo_beginOne_349 (Nat.le_of_ble_eq_true rfl) (Nat.le_of_ble_eq_true rfl)
end
section
set_option maxRecDepth 100000 in
set_option maxHeartbeats 16000000 in
/-- beginOne, too long -/
theorem g_Mo_beginOne_l (l : Launch) (G : va_G) (k : Nat → ClassId) (h0 : Nat) (s0 : Nat) (stp : Nat) (ma : Nat → Nat) (iv : Nat → Int32) (co : Int64) (hst : stp = 20000) : CV l y_Mo_beginOne c_Mo_beginOne 6 { frames := 0, cells := 0, slots := 0, locals := 0 } [.ref h0] G k s0 [(h0, .inr (8, moL ma (va_up iv 4 (nI stp)) co))] (fun (u : Unit) => True) (fun u => [(h0, .inr (8, moL ma (va_up (va_up iv 4 (nI stp)) 11 1) co))]) 0 0 := by
  refine met_start (by decide) (Nat.le_of_ble_eq_true rfl) ?_
  intro p e s m below meth c C K hA hsz S ls hl
  generalize va_A [(h0, .inr (8, moL ma (va_up iv 4 (nI stp)) co))] s0 = A at hA S ⊢
  have hx := C.1
  have hb := C.2.1
  have hl : lv_has ls 6 [(0, .ref h0)] := hl
  refine lv_aload_n hx hb d_Mo_beginOne_0 rfl (lv_at hl 0 rfl) ?_
  refine r_get C K S 0 rfl rfl clOk_Mo 12 (by decide) wf_Mo_165 (v := .int (nI stp)) rfl d_Mo_beginOne_1 ?_
  refine lv_sipush (v := 20000) hx hb d_Mo_beginOne_4 (by decide) ?_
  refine z_icmp_ne (a := stp) (b := 20000) (tgt := 16) hx hb d_Mo_beginOne_7 (by decide) (by omega) (by omega) (fun hc1 => False.elim (by omega)) (fun hc1 => ?_)
  refine lv_aload_n hx hb d_Mo_beginOne_10 rfl (lv_at hl 0 rfl) ?_
  refine lv_iconst (v := 1) hx hb d_Mo_beginOne_11 (by decide) ?_
  refine r_put C K S 0 rfl rfl clOk_Mo 25 (by decide) wf_Mo_158 rfl (ty := .boolean) (v := .int 1) (by decide +kernel) rfl rfl (Nat.le_of_ble_eq_true rfl) (fs' := moL ma (va_up (va_up iv 4 (nI stp)) 11 1) co) (ws' := [(h0, .inr (8, moL ma (va_up (va_up iv 4 (nI stp)) 11 1) co))]) rfl rfl d_Mo_beginOne_12 (fun H locs S => ?_)
  exact r_vret C K () trivial (S.sub [0] (by decide) rfl) d_Mo_beginOne_15 (Nat.le_of_ble_eq_true rfl) (Nat.le_of_ble_eq_true rfl)
set_option maxRecDepth 100000 in
set_option maxHeartbeats 16000000 in
/-- beginOne, a call -/
theorem g_Mo_beginOne_5 (l : Launch) (G : va_G) (k : Nat → ClassId) (h0 : Nat) (s0 : Nat) (fn : Nat) (pa : Nat) (stp : Nat) (g9 : Nat) (vs : Nat → Nat) (bs : Nat) (kn : Nat) (wt : Nat) (cl : Nat) (WK : Nat → Nat) (WF : Nat → Nat) (WA : Nat → Nat) (WB : Nat → Nat) (WN : Nat → Nat) (tk : Nat → Nat) (vr : Nat → Int32) (ma : Nat → Nat) (iv : Nat → Int32) (co : Int64) (wd : Nat → Int32) (hfn : fn < 4) (hst : stp < 20000) (hpa : pa + 2 + tk g9 ≤ 200) (hv : wdF wd fn (pa + 1) = nI g9) (hg : g9 < 4) (hvs : ∀ k9, k9 < tk g9 → wdF wd fn (pa + 2 + k9) = nI (vs k9) ∧ vs k9 < kn) (htg : tk g9 ≤ 3) (hbs : bs + kn + 3 ≤ 1400) (hwt : wt < 1200) (hcl : cl < 60) (hk : wdF wd fn pa = 5) : CV l y_Mo_beginOne c_Mo_beginOne 6 { frames := 1, cells := 0, slots := 0, locals := 22 } [.ref h0] G k s0 [(h0, .inr (8, moL ma (va_up (va_up (va_up (va_up (va_up (va_up (va_up iv 8 (nI fn)) 9 (nI pa)) 4 (nI stp)) 6 (nI bs)) 7 (nI kn)) 5 (nI wt)) 10 (nI cl)) co)), ((ma 1), .inl (k 0, 800, .inl wd)), ((ma 0), .inl (k 0, 4, .inl (fun i => nI (tk i)))), ((ma 12), .inl (k 0, 1400, .inl vr)), ((ma 7), .inl (k 0, 1200, .inl (fun i => nI (WK i)))), ((ma 8), .inl (k 0, 1200, .inl (fun i => nI (WF i)))), ((ma 9), .inl (k 0, 1200, .inl (fun i => nI (WA i)))), ((ma 10), .inl (k 0, 1200, .inl (fun i => nI (WB i)))), ((ma 11), .inl (k 0, 1200, .inl (fun i => nI (WN i))))] (fun (u : Nat → Int32) => (∀ j9, j9 < tk g9 → u (bs + kn + j9) = vr (bs + vs j9)) ∧ ∀ x, x < bs + kn → u x = vr x) (fun u => [(h0, .inr (8, moL ma (va_up (va_up (va_up (va_up (va_up (va_up (va_up iv 4 (nI (stp + 1))) 5 (nI (wt + 1))) 10 (nI (cl + 1))) 8 (nI g9)) 9 0) 6 (nI (bs + kn))) 7 (nI (tk g9))) co)), ((ma 1), .inl (k 0, 800, .inl wd)), ((ma 0), .inl (k 0, 4, .inl (fun i => nI (tk i)))), ((ma 12), .inl (k 0, 1400, .inl u)), ((ma 7), .inl (k 0, 1200, .inl (fun i => nI ((va_up WK wt 2) i)))), ((ma 8), .inl (k 0, 1200, .inl (fun i => nI ((va_up WF wt fn) i)))), ((ma 9), .inl (k 0, 1200, .inl (fun i => nI ((va_up WA wt 0) i)))), ((ma 10), .inl (k 0, 1200, .inl (fun i => nI ((va_up WB wt bs) i)))), ((ma 11), .inl (k 0, 1200, .inl (fun i => nI ((va_up WN wt kn) i))))]) 0 0 := by
  refine met_start (by decide) (Nat.le_of_ble_eq_true rfl) ?_
  intro p e s m below meth c C K hA hsz S ls hl
  generalize va_A [(h0, .inr (8, moL ma (va_up (va_up (va_up (va_up (va_up (va_up (va_up iv 8 (nI fn)) 9 (nI pa)) 4 (nI stp)) 6 (nI bs)) 7 (nI kn)) 5 (nI wt)) 10 (nI cl)) co)), ((ma 1), .inl (k 0, 800, .inl wd)), ((ma 0), .inl (k 0, 4, .inl (fun i => nI (tk i)))), ((ma 12), .inl (k 0, 1400, .inl vr)), ((ma 7), .inl (k 0, 1200, .inl (fun i => nI (WK i)))), ((ma 8), .inl (k 0, 1200, .inl (fun i => nI (WF i)))), ((ma 9), .inl (k 0, 1200, .inl (fun i => nI (WA i)))), ((ma 10), .inl (k 0, 1200, .inl (fun i => nI (WB i)))), ((ma 11), .inl (k 0, 1200, .inl (fun i => nI (WN i))))] s0 = A at hA S ⊢
  have hx := C.1
  have hb := C.2.1
  have hl : lv_has ls 6 [(0, .ref h0)] := hl
  refine lv_aload_n hx hb d_Mo_beginOne_0 rfl (lv_at hl 0 rfl) ?_
  refine r_get C K S 0 rfl rfl clOk_Mo 12 (by decide) wf_Mo_165 (v := .int (nI stp)) rfl d_Mo_beginOne_1 ?_
  refine lv_sipush (v := 20000) hx hb d_Mo_beginOne_4 (by decide) ?_
  refine z_icmp_ne (a := stp) (b := 20000) (tgt := 16) hx hb d_Mo_beginOne_7 (by decide) (by omega) (by omega) (fun hc1 => ?_) (fun hc1 => False.elim (by omega))
  refine lv_aload_n hx hb d_Mo_beginOne_16 rfl (lv_at hl 0 rfl) ?_
  refine lv_dup hx hb d_Mo_beginOne_17 rfl ?_
  refine r_get C K S 0 rfl rfl clOk_Mo 12 (by decide) wf_Mo_165 (v := .int (nI stp)) rfl d_Mo_beginOne_18 ?_
  refine lv_iconst (v := 1) hx hb d_Mo_beginOne_21 (by decide) ?_
  refine z_iadd (x := nI stp) (y := 1) (v := nI (stp + 1)) hx hb d_Mo_beginOne_22 (nI_add stp 1) ?_
  refine r_put C K S 0 rfl rfl clOk_Mo 12 (by decide) wf_Mo_165 rfl (ty := .int) (v := .int (nI (stp + 1))) (by decide +kernel) rfl rfl (Nat.le_of_ble_eq_true rfl) (fs' := moL ma (va_up (va_up (va_up (va_up (va_up (va_up (va_up iv 8 (nI fn)) 9 (nI pa)) 6 (nI bs)) 7 (nI kn)) 5 (nI wt)) 10 (nI cl)) 4 (nI (stp + 1))) co) (ws' := [(h0, .inr (8, moL ma (va_up (va_up (va_up (va_up (va_up (va_up (va_up iv 8 (nI fn)) 9 (nI pa)) 6 (nI bs)) 7 (nI kn)) 5 (nI wt)) 10 (nI cl)) 4 (nI (stp + 1))) co)), ((ma 1), .inl (k 0, 800, .inl wd)), ((ma 0), .inl (k 0, 4, .inl (fun i => nI (tk i)))), ((ma 12), .inl (k 0, 1400, .inl vr)), ((ma 7), .inl (k 0, 1200, .inl (fun i => nI (WK i)))), ((ma 8), .inl (k 0, 1200, .inl (fun i => nI (WF i)))), ((ma 9), .inl (k 0, 1200, .inl (fun i => nI (WA i)))), ((ma 10), .inl (k 0, 1200, .inl (fun i => nI (WB i)))), ((ma 11), .inl (k 0, 1200, .inl (fun i => nI (WN i))))]) rfl rfl d_Mo_beginOne_23 (fun H locs S => ?_)
  refine lv_sipush (v := 200) hx hb d_Mo_beginOne_26 (by decide) ?_
  refine lv_aload_n hx hb d_Mo_beginOne_29 rfl (lv_at hl 0 rfl) ?_
  refine r_get C K S 0 rfl rfl clOk_Mo 22 (by decide) wf_Mo_146 (v := .int (nI fn)) rfl d_Mo_beginOne_30 ?_
  refine z_imul (x := 200) (y := nI fn) (v := nI (200 * fn)) hx hb d_Mo_beginOne_33 (pk_mul 200 fn) ?_
  refine lv_aload_n hx hb d_Mo_beginOne_34 rfl (lv_at hl 0 rfl) ?_
  refine r_get C K S 0 rfl rfl clOk_Mo 23 (by decide) wf_Mo_162 (v := .int (nI pa)) rfl d_Mo_beginOne_35 ?_
  refine z_iadd (x := nI (200 * fn)) (y := nI pa) (v := nI (200 * fn + pa)) hx hb d_Mo_beginOne_38 (nI_add (200 * fn) pa) ?_
  refine lv_istore_n (lv' := [(1, .int (nI (200 * fn + pa))), (0, .ref h0)]) hx hb d_Mo_beginOne_39 rfl hl (by decide) rfl (fun ls hl => ?_)
  refine lv_aload_n hx hb d_Mo_beginOne_40 rfl (lv_at hl 1 rfl) ?_
  refine r_get C K S 0 rfl rfl clOk_Mo 2 (by decide) wf_Mo_13 (v := .ref (ma 1)) rfl d_Mo_beginOne_41 ?_
  refine lv_iload_n hx hb d_Mo_beginOne_44 rfl (lv_at hl 0 rfl) ?_
  refine lv_iconst (v := 1) hx hb d_Mo_beginOne_45 (by decide) ?_
  refine z_iadd (x := nI (200 * fn + pa)) (y := 1) (v := nI (200 * fn + pa + 1)) hx hb d_Mo_beginOne_46 (nI_add (200 * fn + pa) 1) ?_
  refine lv_sipush (v := 800) hx hb d_Mo_beginOne_47 (by decide) ?_
  refine z_icmp_ge (a := (200 * fn + pa + 1)) (b := 800) (tgt := 59) hx hb d_Mo_beginOne_50 (by decide) (by omega) (by omega) (fun hc2 => False.elim (by omega)) (fun hc2 => ?_)
  refine lv_iload_n hx hb d_Mo_beginOne_53 rfl (lv_at hl 0 rfl) ?_
  refine lv_iconst (v := 1) hx hb d_Mo_beginOne_54 (by decide) ?_
  refine z_iadd (x := nI (200 * fn + pa)) (y := 1) (v := nI (200 * fn + pa + 1)) hx hb d_Mo_beginOne_55 (nI_add (200 * fn + pa) 1) ?_
  refine lv_goto (tgt := 60) hx hb d_Mo_beginOne_56 (by decide) ?_
  refine r_iald C K S 1 rfl (i := nI (200 * fn + pa + 1)) (show vp_in (nI (200 * fn + pa + 1)) _ from vp_in_nI (n := (200 * fn + pa + 1)) (by omega) (by decide)) (v := wdF wd fn (pa + 1)) (by rw [nI_clamp (by omega)]; exact (show wd (200 * fn + pa + 1) = wd (200 * fn + (pa + 1)) from congrArg wd (by omega))) d_Mo_beginOne_60 ?_
  rw [hv]
  refine lv_istore_n (lv' := [(2, .int (nI g9)), (1, .int (nI (200 * fn + pa))), (0, .ref h0)]) hx hb d_Mo_beginOne_61 rfl hl (by decide) rfl (fun ls hl => ?_)
  refine lv_aload_n hx hb d_Mo_beginOne_62 rfl (lv_at hl 2 rfl) ?_
  refine r_get C K S 0 rfl rfl clOk_Mo 2 (by decide) wf_Mo_13 (v := .ref (ma 1)) rfl d_Mo_beginOne_63 ?_
  refine lv_iload_n hx hb d_Mo_beginOne_66 rfl (lv_at hl 1 rfl) ?_
  refine r_iald C K S 1 rfl (i := nI (200 * fn + pa)) (show vp_in (nI (200 * fn + pa)) _ from vp_in_nI (n := (200 * fn + pa)) (by omega) (by decide)) (v := wdF wd fn pa) (by rw [nI_clamp (by omega)]; exact (show wd (200 * fn + pa) = wd (200 * fn + pa) from congrArg wd (by omega))) d_Mo_beginOne_67 ?_
  refine lv_tableIn (x := wdF wd fn pa) (off := 180) (tgt := 248) hx hb d_Mo_beginOne_68 (by rw [hk]; decide) (by rw [hk]; decide) (by rw [hk]; rfl) (by decide) ?_
  refine lv_aload_n hx hb d_Mo_beginOne_248 rfl (lv_at hl 2 rfl) ?_
  refine r_get C K S 0 rfl rfl clOk_Mo 20 (by decide) wf_Mo_149 (v := .int (nI bs)) rfl d_Mo_beginOne_249 ?_
  refine lv_aload_n hx hb d_Mo_beginOne_252 rfl (lv_at hl 2 rfl) ?_
  refine r_get C K S 0 rfl rfl clOk_Mo 21 (by decide) wf_Mo_152 (v := .int (nI kn)) rfl d_Mo_beginOne_253 ?_
  refine z_iadd (x := nI bs) (y := nI kn) (v := nI (bs + kn)) hx hb d_Mo_beginOne_256 (nI_add bs kn) ?_
  refine lv_istore (lv' := [(4, .int (nI (bs + kn))), (2, .int (nI g9)), (1, .int (nI (200 * fn + pa))), (0, .ref h0)]) hx hb d_Mo_beginOne_257 hl (by decide) rfl (fun ls hl => ?_)
  refine lv_iconst (v := 0) hx hb d_Mo_beginOne_259 (by decide) ?_
  refine lv_istore (lv' := [(5, .int 0), (4, .int (nI (bs + kn))), (2, .int (nI g9)), (1, .int (nI (200 * fn + pa))), (0, .ref h0)]) hx hb d_Mo_beginOne_260 hl (by decide) rfl (fun ls hl => ?_)
  have lp : ∀ d9, ∀ (k9 : Nat), ∀ (vr9 : Nat → Int32), (tk g9 - k9) < d9 → (k9 ≤ tk g9) → (∀ j9, j9 < k9 → vr9 (bs + kn + j9) = vr (bs + vs j9)) → (∀ x, x < bs + kn → vr9 x = vr x) → ∀ (H : Heap) (locs : List Loc), Sw G A s.heap H locs [(h0, .inr (8, moL ma (va_up (va_up (va_up (va_up (va_up (va_up (va_up iv 8 (nI fn)) 9 (nI pa)) 6 (nI bs)) 7 (nI kn)) 5 (nI wt)) 10 (nI cl)) 4 (nI (stp + 1))) co)), ((ma 1), .inl (k 0, 800, .inl wd)), ((ma 0), .inl (k 0, 4, .inl (fun i => nI (tk i)))), ((ma 12), .inl (k 0, 1400, .inl vr9)), ((ma 7), .inl (k 0, 1200, .inl (fun i => nI (WK i)))), ((ma 8), .inl (k 0, 1200, .inl (fun i => nI (WF i)))), ((ma 9), .inl (k 0, 1200, .inl (fun i => nI (WA i)))), ((ma 10), .inl (k 0, 1200, .inl (fun i => nI (WB i)))), ((ma 11), .inl (k 0, 1200, .inl (fun i => nI (WN i))))] → ∀ ls : Array Slot, lv_has ls 6 [(5, .int (nI k9)), (4, .int (nI (bs + kn))), (2, .int (nI g9)), (1, .int (nI (200 * fn + pa))), (0, .ref h0)] → W p l e { frames := 1, cells := 0, slots := 0, locals := 22 } s m [Value.ref h0].toArray below meth c H locs 0 0 (MQ below (va_Qv (fun (u : Nat → Int32) => (∀ j9, j9 < tk g9 → u (bs + kn + j9) = vr (bs + vs j9)) ∧ ∀ x, x < bs + kn → u x = vr x) (Po G k A (fun u => [(h0, .inr (8, moL ma (va_up (va_up (va_up (va_up (va_up (va_up (va_up iv 4 (nI (stp + 1))) 5 (nI (wt + 1))) 10 (nI (cl + 1))) 8 (nI g9)) 9 0) 6 (nI (bs + kn))) 7 (nI (tk g9))) co)), ((ma 1), .inl (k 0, 800, .inl wd)), ((ma 0), .inl (k 0, 4, .inl (fun i => nI (tk i)))), ((ma 12), .inl (k 0, 1400, .inl u)), ((ma 7), .inl (k 0, 1200, .inl (fun i => nI ((va_up WK wt 2) i)))), ((ma 8), .inl (k 0, 1200, .inl (fun i => nI ((va_up WF wt fn) i)))), ((ma 9), .inl (k 0, 1200, .inl (fun i => nI ((va_up WA wt 0) i)))), ((ma 10), .inl (k 0, 1200, .inl (fun i => nI ((va_up WB wt bs) i)))), ((ma 11), .inl (k 0, 1200, .inl (fun i => nI ((va_up WN wt kn) i))))])) A) [Value.ref h0].toArray s 0 0 A) (F0 m 262 ls []) := by
    intro d9
    induction d9 with
    | zero => intro k9 vr9 hm; exact absurd hm (Nat.not_lt_zero _)
    | succ d9 ih_lp =>
      intro k9 vr9 hm hk9 hc ho H locs S ls hl
      refine lv_iload hx hb d_Mo_beginOne_262 (lv_at hl 0 rfl) ?_
      refine lv_aload_n hx hb d_Mo_beginOne_264 rfl (lv_at hl 4 rfl) ?_
      refine r_get C K S 0 rfl rfl clOk_Mo 1 (by decide) wf_Mo_9 (v := .ref (ma 0)) rfl d_Mo_beginOne_265 ?_
      refine lv_iload_n hx hb d_Mo_beginOne_268 rfl (lv_at hl 2 rfl) ?_
      refine r_iald C K S 2 rfl (i := nI g9) (show vp_in (nI g9) _ from vp_in_nI (n := g9) (by omega) (by decide)) (v := nI (tk g9)) (by rw [nI_clamp (by omega)]) d_Mo_beginOne_269 ?_
      refine z_icmp_ge (a := k9) (b := (tk g9)) (tgt := 310) hx hb d_Mo_beginOne_270 (by decide) (by omega) (by omega) (fun hc3 => ?_) (fun hc3 => ?_)
      · refine lv_aload_n hx hb d_Mo_beginOne_310 rfl (lv_at hl 4 rfl) ?_
        refine lv_iconst (v := 2) hx hb d_Mo_beginOne_311 (by decide) ?_
        refine lv_iconst (v := 0) hx hb d_Mo_beginOne_312 (by decide) ?_
        refine r_backv (wi := [(h0, .inr (8, moL ma (va_up (va_up (va_up (va_up (va_up (va_up (va_up iv 9 (nI pa)) 10 (nI cl)) 4 (nI (stp + 1))) 8 (nI fn)) 6 (nI bs)) 7 (nI kn)) 5 (nI wt)) co)), ((ma 7), .inl (k 0, 1200, .inl (fun i => nI (WK i)))), ((ma 8), .inl (k 0, 1200, .inl (fun i => nI (WF i)))), ((ma 9), .inl (k 0, 1200, .inl (fun i => nI (WA i)))), ((ma 10), .inl (k 0, 1200, .inl (fun i => nI (WB i)))), ((ma 11), .inl (k 0, 1200, .inl (fun i => nI (WN i))))]) (wr := [((ma 1), .inl (k 0, 800, .inl wd)), ((ma 0), .inl (k 0, 4, .inl (fun i => nI (tk i)))), ((ma 12), .inl (k 0, 1400, .inl vr9))]) S hA [0, 4, 5, 6, 7, 8] [1, 2, 3] rfl rfl (by decide) (by decide) (va_runV (As := [.int 2, .int 0]) (rest := []) ⟨hx, hb, C.2.2.1, C.2.2.2.1, C.2.2.2.2.1⟩ (g_Mo_wait l G k h0 _ 2 0 fn bs kn wt ma (va_up (va_up (va_up iv 9 (nI pa)) 10 (nI cl)) 4 (nI (stp + 1))) co WK WF WA WB WN hwt) (k_virt (n := 2) C wc_Mo_wait rfl rfl wz_Mo wm_Mo_171 wn_Mo_wait ws_Mo_wait (by decide +kernel) ⟨(Nat.le_of_ble_eq_true rfl), (Nat.le_of_ble_eq_true rfl)⟩) (pr_nowV K S [0, 4, 5, 6, 7, 8] (by decide) rfl 0 rfl rfl) rfl rfl hl.1 rfl (lv_room (Nat.le_of_ble_eq_true rfl)) d_Mo_beginOne_313 ⟨(Nat.le_of_ble_eq_true rfl), (Nat.le_of_ble_eq_true rfl)⟩) (fun u4 H locs hw5 S => ?_)
        have S : Sw G A s.heap _ _ [((ma 1), .inl (k 0, 800, .inl wd)), ((ma 0), .inl (k 0, 4, .inl (fun i => nI (tk i)))), ((ma 12), .inl (k 0, 1400, .inl vr9)), (h0, .inr (8, moL ma (va_up (va_up (va_up (va_up (va_up (va_up (va_up iv 9 (nI pa)) 10 (nI cl)) 4 (nI (stp + 1))) 8 (nI fn)) 6 (nI bs)) 7 (nI kn)) 5 (nI (wt + 1))) co)), ((ma 7), .inl (k 0, 1200, .inl (fun i => nI ((va_up WK wt 2) i)))), ((ma 8), .inl (k 0, 1200, .inl (fun i => nI ((va_up WF wt fn) i)))), ((ma 9), .inl (k 0, 1200, .inl (fun i => nI ((va_up WA wt 0) i)))), ((ma 10), .inl (k 0, 1200, .inl (fun i => nI ((va_up WB wt bs) i)))), ((ma 11), .inl (k 0, 1200, .inl (fun i => nI ((va_up WN wt kn) i))))] := S
        refine lv_aload_n hx hb d_Mo_beginOne_316 rfl (lv_at hl 4 rfl) ?_
        refine lv_iload_n hx hb d_Mo_beginOne_317 rfl (lv_at hl 2 rfl) ?_
        refine lv_iload hx hb d_Mo_beginOne_318 (lv_at hl 1 rfl) ?_
        refine r_backv (wi := [(h0, .inr (8, moL ma (va_up (va_up (va_up (va_up (va_up (va_up (va_up iv 9 (nI pa)) 4 (nI (stp + 1))) 8 (nI fn)) 6 (nI bs)) 7 (nI kn)) 5 (nI (wt + 1))) 10 (nI cl)) co)), ((ma 0), .inl (k 0, 4, .inl (fun i => nI (tk i))))]) (wr := [((ma 1), .inl (k 0, 800, .inl wd)), ((ma 12), .inl (k 0, 1400, .inl vr9)), ((ma 7), .inl (k 0, 1200, .inl (fun i => nI ((va_up WK wt 2) i)))), ((ma 8), .inl (k 0, 1200, .inl (fun i => nI ((va_up WF wt fn) i)))), ((ma 9), .inl (k 0, 1200, .inl (fun i => nI ((va_up WA wt 0) i)))), ((ma 10), .inl (k 0, 1200, .inl (fun i => nI ((va_up WB wt bs) i)))), ((ma 11), .inl (k 0, 1200, .inl (fun i => nI ((va_up WN wt kn) i))))]) S hA [3, 1] [0, 2, 4, 5, 6, 7, 8] rfl rfl (by decide) (by decide) (va_runV (As := [.int (nI g9), .int (nI (bs + kn))]) (rest := []) ⟨hx, hb, C.2.2.1, C.2.2.2.1, C.2.2.2.2.1⟩ (g_Mo_enter l G k h0 _ g9 (bs + kn) cl ma (va_up (va_up (va_up (va_up (va_up (va_up iv 9 (nI pa)) 4 (nI (stp + 1))) 8 (nI fn)) 6 (nI bs)) 7 (nI kn)) 5 (nI (wt + 1))) co tk hg hcl) (k_virt (n := 2) C wc_Mo_enter rfl rfl wz_Mo wm_Mo_179 wn_Mo_enter ws_Mo_enter (by decide +kernel) ⟨(Nat.le_of_ble_eq_true rfl), (Nat.le_of_ble_eq_true rfl)⟩) (pr_nowV K S [3, 1] (by decide) rfl 3 rfl rfl) rfl rfl hl.1 rfl (lv_room (Nat.le_of_ble_eq_true rfl)) d_Mo_beginOne_320 ⟨(Nat.le_of_ble_eq_true rfl), (Nat.le_of_ble_eq_true rfl)⟩) (fun u6 H locs hw7 S => ?_)
        have S : Sw G A s.heap _ _ [((ma 1), .inl (k 0, 800, .inl wd)), ((ma 12), .inl (k 0, 1400, .inl vr9)), ((ma 7), .inl (k 0, 1200, .inl (fun i => nI ((va_up WK wt 2) i)))), ((ma 8), .inl (k 0, 1200, .inl (fun i => nI ((va_up WF wt fn) i)))), ((ma 9), .inl (k 0, 1200, .inl (fun i => nI ((va_up WA wt 0) i)))), ((ma 10), .inl (k 0, 1200, .inl (fun i => nI ((va_up WB wt bs) i)))), ((ma 11), .inl (k 0, 1200, .inl (fun i => nI ((va_up WN wt kn) i)))), (h0, .inr (8, moL ma (va_up (va_up (va_up (va_up (va_up (va_up (va_up iv 4 (nI (stp + 1))) 5 (nI (wt + 1))) 10 (nI (cl + 1))) 8 (nI g9)) 9 0) 6 (nI (bs + kn))) 7 (nI (tk g9))) co)), ((ma 0), .inl (k 0, 4, .inl (fun i => nI (tk i))))] := S
        refine lv_goto (tgt := 349) hx hb d_Mo_beginOne_323 (by decide) ?_
        exact r_vret C K vr9 ⟨(show k9 = tk g9 by omega) ▸ hc, ho⟩ (S.sub [7, 0, 8, 1, 2, 3, 4, 5, 6] (by decide) rfl) d_Mo_beginOne_349 (Nat.le_of_ble_eq_true rfl) (Nat.le_of_ble_eq_true rfl)
      · obtain ⟨hv1, hv2⟩ := hvs k9 (by omega)
        refine lv_aload_n hx hb d_Mo_beginOne_273 rfl (lv_at hl 4 rfl) ?_
        refine r_get C K S 0 rfl rfl clOk_Mo 19 (by decide) wf_Mo_53 (v := .ref (ma 12)) rfl d_Mo_beginOne_274 ?_
        refine lv_iload hx hb d_Mo_beginOne_277 (lv_at hl 1 rfl) ?_
        refine lv_iload hx hb d_Mo_beginOne_279 (lv_at hl 0 rfl) ?_
        refine z_iadd (x := nI (bs + kn)) (y := nI k9) (v := nI (bs + kn + k9)) hx hb d_Mo_beginOne_281 (nI_add (bs + kn) k9) ?_
        refine lv_aload_n hx hb d_Mo_beginOne_282 rfl (lv_at hl 4 rfl) ?_
        refine r_get C K S 0 rfl rfl clOk_Mo 19 (by decide) wf_Mo_53 (v := .ref (ma 12)) rfl d_Mo_beginOne_283 ?_
        refine lv_aload_n hx hb d_Mo_beginOne_286 rfl (lv_at hl 4 rfl) ?_
        refine r_get C K S 0 rfl rfl clOk_Mo 20 (by decide) wf_Mo_149 (v := .int (nI bs)) rfl d_Mo_beginOne_287 ?_
        refine lv_aload_n hx hb d_Mo_beginOne_290 rfl (lv_at hl 4 rfl) ?_
        refine r_get C K S 0 rfl rfl clOk_Mo 2 (by decide) wf_Mo_13 (v := .ref (ma 1)) rfl d_Mo_beginOne_291 ?_
        refine lv_iload_n hx hb d_Mo_beginOne_294 rfl (lv_at hl 3 rfl) ?_
        refine lv_iconst (v := 2) hx hb d_Mo_beginOne_295 (by decide) ?_
        refine z_iadd (x := nI (200 * fn + pa)) (y := 2) (v := nI (200 * fn + pa + 2)) hx hb d_Mo_beginOne_296 (nI_add (200 * fn + pa) 2) ?_
        refine lv_iload hx hb d_Mo_beginOne_297 (lv_at hl 0 rfl) ?_
        refine z_iadd (x := nI (200 * fn + pa + 2)) (y := nI k9) (v := nI (200 * fn + pa + 2 + k9)) hx hb d_Mo_beginOne_299 (nI_add (200 * fn + pa + 2) k9) ?_
        refine r_iald C K S 1 rfl (i := nI (200 * fn + pa + 2 + k9)) (show vp_in (nI (200 * fn + pa + 2 + k9)) _ from vp_in_nI (n := (200 * fn + pa + 2 + k9)) (by omega) (by decide)) (v := wdF wd fn (pa + 2 + k9)) (by rw [nI_clamp (by omega)]; exact (show wd (200 * fn + pa + 2 + k9) = wd (200 * fn + (pa + 2 + k9)) from congrArg wd (by omega))) d_Mo_beginOne_300 ?_
        rw [hv1]
        refine z_iadd (x := nI bs) (y := nI (vs k9)) (v := nI (bs + vs k9)) hx hb d_Mo_beginOne_301 (nI_add bs (vs k9)) ?_
        refine r_iald C K S 3 rfl (i := nI (bs + vs k9)) (show vp_in (nI (bs + vs k9)) _ from vp_in_nI (n := (bs + vs k9)) (by omega) (by decide)) (v := vr9 (bs + vs k9)) (by rw [nI_clamp (by omega)]) d_Mo_beginOne_302 ?_
        rw [ho (bs + vs k9) (by omega)]
        refine r_iast C K S 3 rfl (i := nI (bs + kn + k9)) (x := vr (bs + vs k9)) (show vp_in (nI (bs + kn + k9)) _ from vp_in_nI (n := (bs + kn + k9)) (by omega) (by decide)) (f' := va_up vr9 (bs + kn + k9) (vr (bs + vs k9))) (ws' := [(h0, .inr (8, moL ma (va_up (va_up (va_up (va_up (va_up (va_up (va_up iv 8 (nI fn)) 9 (nI pa)) 6 (nI bs)) 7 (nI kn)) 5 (nI wt)) 10 (nI cl)) 4 (nI (stp + 1))) co)), ((ma 1), .inl (k 0, 800, .inl wd)), ((ma 0), .inl (k 0, 4, .inl (fun i => nI (tk i)))), ((ma 12), .inl (k 0, 1400, .inl (va_up vr9 (bs + kn + k9) (vr (bs + vs k9))))), ((ma 7), .inl (k 0, 1200, .inl (fun i => nI (WK i)))), ((ma 8), .inl (k 0, 1200, .inl (fun i => nI (WF i)))), ((ma 9), .inl (k 0, 1200, .inl (fun i => nI (WA i)))), ((ma 10), .inl (k 0, 1200, .inl (fun i => nI (WB i)))), ((ma 11), .inl (k 0, 1200, .inl (fun i => nI (WN i))))]) (show upd _ (nI (bs + kn + k9) : Int32).toNatClampNeg (vr (bs + vs k9)) = _ from upd_W vr9 (j := (bs + kn + k9)) (by omega) (vr (bs + vs k9))) rfl d_Mo_beginOne_303 (fun H locs S => ?_)
        refine lv_iinc (v := nI (k9 + 1)) (lv' := [(5, .int (nI (k9 + 1))), (4, .int (nI (bs + kn))), (2, .int (nI g9)), (1, .int (nI (200 * fn + pa))), (0, .ref h0)]) hx hb d_Mo_beginOne_304 hl (k := 0) rfl (show nI k9 + Int32.ofInt 1 = nI (k9 + 1) from (nI_add k9 1).trans (congrArg nI (by omega))) (by decide) rfl (fun ls hl => ?_)
        refine lv_goto (tgt := 262) hx hb d_Mo_beginOne_307 (by decide) ?_
        exact ih_lp (k9 + 1) (va_up vr9 (bs + kn + k9) (vr (bs + vs k9))) (by omega) (by omega) (fun j9 hj => (Nat.lt_or_eq_of_le (Nat.le_of_lt_succ hj)).elim (fun q => by rw [va_up_ne _ _ (by omega)]; exact hc j9 q) (fun q => by rw [q, va_up_self])) (fun x hx => by rw [va_up_ne _ _ (by omega)]; exact ho x hx) _ _ (S.sub [0, 1, 2, 3, 4, 5, 6, 7, 8] (by decide) rfl) ls (lv_sub hl [0, 1, 2, 3, 4] rfl)
  exact lp _ 0 vr (Nat.lt_succ_self _) (by omega) (fun _ h => absurd h (Nat.not_lt_zero _)) (fun _ _ => rfl) _ _ (S.sub [0, 1, 2, 3, 4, 5, 6, 7, 8] (by decide) rfl) ls (lv_sub hl [0, 1, 2, 3, 4] rfl)
set_option maxRecDepth 100000 in
set_option maxHeartbeats 16000000 in
/-- beginOne, a call -/
theorem g_Mo_beginOne_5l (l : Launch) (G : va_G) (k : Nat → ClassId) (h0 : Nat) (s0 : Nat) (fn : Nat) (pa : Nat) (stp : Nat) (g9 : Nat) (vs : Nat → Nat) (bs : Nat) (kn : Nat) (wt : Nat) (cl : Nat) (WK : Nat → Nat) (WF : Nat → Nat) (WA : Nat → Nat) (WB : Nat → Nat) (WN : Nat → Nat) (tk : Nat → Nat) (vr : Nat → Int32) (ma : Nat → Nat) (iv : Nat → Int32) (co : Int64) (wd : Nat → Int32) (hfn : fn < 4) (hst : stp < 20000) (hpa : pa + 2 + tk g9 ≤ 200) (hv : wdF wd fn (pa + 1) = nI g9) (hg : g9 < 4) (hvs : ∀ k9, k9 < tk g9 → wdF wd fn (pa + 2 + k9) = nI (vs k9) ∧ vs k9 < kn) (htg : tk g9 ≤ 3) (hbs : bs + kn + 3 ≤ 1400) (hwt : wt < 1200) (hcl : cl = 60) (hk : wdF wd fn pa = 5) : CV l y_Mo_beginOne c_Mo_beginOne 6 { frames := 1, cells := 0, slots := 0, locals := 22 } [.ref h0] G k s0 [(h0, .inr (8, moL ma (va_up (va_up (va_up (va_up (va_up (va_up (va_up iv 8 (nI fn)) 9 (nI pa)) 4 (nI stp)) 6 (nI bs)) 7 (nI kn)) 5 (nI wt)) 10 (nI cl)) co)), ((ma 1), .inl (k 0, 800, .inl wd)), ((ma 0), .inl (k 0, 4, .inl (fun i => nI (tk i)))), ((ma 12), .inl (k 0, 1400, .inl vr)), ((ma 7), .inl (k 0, 1200, .inl (fun i => nI (WK i)))), ((ma 8), .inl (k 0, 1200, .inl (fun i => nI (WF i)))), ((ma 9), .inl (k 0, 1200, .inl (fun i => nI (WA i)))), ((ma 10), .inl (k 0, 1200, .inl (fun i => nI (WB i)))), ((ma 11), .inl (k 0, 1200, .inl (fun i => nI (WN i))))] (fun (u : Nat → Int32) => (∀ j9, j9 < tk g9 → u (bs + kn + j9) = vr (bs + vs j9)) ∧ ∀ x, x < bs + kn → u x = vr x) (fun u => [(h0, .inr (8, moL ma (va_up (va_up (va_up (va_up (va_up (va_up (va_up (va_up iv 4 (nI (stp + 1))) 5 (nI (wt + 1))) 10 (nI cl)) 11 1) 8 (nI fn)) 9 (nI pa)) 6 (nI bs)) 7 (nI kn)) co)), ((ma 1), .inl (k 0, 800, .inl wd)), ((ma 0), .inl (k 0, 4, .inl (fun i => nI (tk i)))), ((ma 12), .inl (k 0, 1400, .inl u)), ((ma 7), .inl (k 0, 1200, .inl (fun i => nI ((va_up WK wt 2) i)))), ((ma 8), .inl (k 0, 1200, .inl (fun i => nI ((va_up WF wt fn) i)))), ((ma 9), .inl (k 0, 1200, .inl (fun i => nI ((va_up WA wt 0) i)))), ((ma 10), .inl (k 0, 1200, .inl (fun i => nI ((va_up WB wt bs) i)))), ((ma 11), .inl (k 0, 1200, .inl (fun i => nI ((va_up WN wt kn) i))))]) 0 0 := by
  refine met_start (by decide) (Nat.le_of_ble_eq_true rfl) ?_
  intro p e s m below meth c C K hA hsz S ls hl
  generalize va_A [(h0, .inr (8, moL ma (va_up (va_up (va_up (va_up (va_up (va_up (va_up iv 8 (nI fn)) 9 (nI pa)) 4 (nI stp)) 6 (nI bs)) 7 (nI kn)) 5 (nI wt)) 10 (nI cl)) co)), ((ma 1), .inl (k 0, 800, .inl wd)), ((ma 0), .inl (k 0, 4, .inl (fun i => nI (tk i)))), ((ma 12), .inl (k 0, 1400, .inl vr)), ((ma 7), .inl (k 0, 1200, .inl (fun i => nI (WK i)))), ((ma 8), .inl (k 0, 1200, .inl (fun i => nI (WF i)))), ((ma 9), .inl (k 0, 1200, .inl (fun i => nI (WA i)))), ((ma 10), .inl (k 0, 1200, .inl (fun i => nI (WB i)))), ((ma 11), .inl (k 0, 1200, .inl (fun i => nI (WN i))))] s0 = A at hA S ⊢
  have hx := C.1
  have hb := C.2.1
  have hl : lv_has ls 6 [(0, .ref h0)] := hl
  refine lv_aload_n hx hb d_Mo_beginOne_0 rfl (lv_at hl 0 rfl) ?_
  refine r_get C K S 0 rfl rfl clOk_Mo 12 (by decide) wf_Mo_165 (v := .int (nI stp)) rfl d_Mo_beginOne_1 ?_
  refine lv_sipush (v := 20000) hx hb d_Mo_beginOne_4 (by decide) ?_
  refine z_icmp_ne (a := stp) (b := 20000) (tgt := 16) hx hb d_Mo_beginOne_7 (by decide) (by omega) (by omega) (fun hc1 => ?_) (fun hc1 => False.elim (by omega))
  refine lv_aload_n hx hb d_Mo_beginOne_16 rfl (lv_at hl 0 rfl) ?_
  refine lv_dup hx hb d_Mo_beginOne_17 rfl ?_
  refine r_get C K S 0 rfl rfl clOk_Mo 12 (by decide) wf_Mo_165 (v := .int (nI stp)) rfl d_Mo_beginOne_18 ?_
  refine lv_iconst (v := 1) hx hb d_Mo_beginOne_21 (by decide) ?_
  refine z_iadd (x := nI stp) (y := 1) (v := nI (stp + 1)) hx hb d_Mo_beginOne_22 (nI_add stp 1) ?_
  refine r_put C K S 0 rfl rfl clOk_Mo 12 (by decide) wf_Mo_165 rfl (ty := .int) (v := .int (nI (stp + 1))) (by decide +kernel) rfl rfl (Nat.le_of_ble_eq_true rfl) (fs' := moL ma (va_up (va_up (va_up (va_up (va_up (va_up (va_up iv 8 (nI fn)) 9 (nI pa)) 6 (nI bs)) 7 (nI kn)) 5 (nI wt)) 10 (nI cl)) 4 (nI (stp + 1))) co) (ws' := [(h0, .inr (8, moL ma (va_up (va_up (va_up (va_up (va_up (va_up (va_up iv 8 (nI fn)) 9 (nI pa)) 6 (nI bs)) 7 (nI kn)) 5 (nI wt)) 10 (nI cl)) 4 (nI (stp + 1))) co)), ((ma 1), .inl (k 0, 800, .inl wd)), ((ma 0), .inl (k 0, 4, .inl (fun i => nI (tk i)))), ((ma 12), .inl (k 0, 1400, .inl vr)), ((ma 7), .inl (k 0, 1200, .inl (fun i => nI (WK i)))), ((ma 8), .inl (k 0, 1200, .inl (fun i => nI (WF i)))), ((ma 9), .inl (k 0, 1200, .inl (fun i => nI (WA i)))), ((ma 10), .inl (k 0, 1200, .inl (fun i => nI (WB i)))), ((ma 11), .inl (k 0, 1200, .inl (fun i => nI (WN i))))]) rfl rfl d_Mo_beginOne_23 (fun H locs S => ?_)
  refine lv_sipush (v := 200) hx hb d_Mo_beginOne_26 (by decide) ?_
  refine lv_aload_n hx hb d_Mo_beginOne_29 rfl (lv_at hl 0 rfl) ?_
  refine r_get C K S 0 rfl rfl clOk_Mo 22 (by decide) wf_Mo_146 (v := .int (nI fn)) rfl d_Mo_beginOne_30 ?_
  refine z_imul (x := 200) (y := nI fn) (v := nI (200 * fn)) hx hb d_Mo_beginOne_33 (pk_mul 200 fn) ?_
  refine lv_aload_n hx hb d_Mo_beginOne_34 rfl (lv_at hl 0 rfl) ?_
  refine r_get C K S 0 rfl rfl clOk_Mo 23 (by decide) wf_Mo_162 (v := .int (nI pa)) rfl d_Mo_beginOne_35 ?_
  refine z_iadd (x := nI (200 * fn)) (y := nI pa) (v := nI (200 * fn + pa)) hx hb d_Mo_beginOne_38 (nI_add (200 * fn) pa) ?_
  refine lv_istore_n (lv' := [(1, .int (nI (200 * fn + pa))), (0, .ref h0)]) hx hb d_Mo_beginOne_39 rfl hl (by decide) rfl (fun ls hl => ?_)
  refine lv_aload_n hx hb d_Mo_beginOne_40 rfl (lv_at hl 1 rfl) ?_
  refine r_get C K S 0 rfl rfl clOk_Mo 2 (by decide) wf_Mo_13 (v := .ref (ma 1)) rfl d_Mo_beginOne_41 ?_
  refine lv_iload_n hx hb d_Mo_beginOne_44 rfl (lv_at hl 0 rfl) ?_
  refine lv_iconst (v := 1) hx hb d_Mo_beginOne_45 (by decide) ?_
  refine z_iadd (x := nI (200 * fn + pa)) (y := 1) (v := nI (200 * fn + pa + 1)) hx hb d_Mo_beginOne_46 (nI_add (200 * fn + pa) 1) ?_
  refine lv_sipush (v := 800) hx hb d_Mo_beginOne_47 (by decide) ?_
  refine z_icmp_ge (a := (200 * fn + pa + 1)) (b := 800) (tgt := 59) hx hb d_Mo_beginOne_50 (by decide) (by omega) (by omega) (fun hc2 => False.elim (by omega)) (fun hc2 => ?_)
  refine lv_iload_n hx hb d_Mo_beginOne_53 rfl (lv_at hl 0 rfl) ?_
  refine lv_iconst (v := 1) hx hb d_Mo_beginOne_54 (by decide) ?_
  refine z_iadd (x := nI (200 * fn + pa)) (y := 1) (v := nI (200 * fn + pa + 1)) hx hb d_Mo_beginOne_55 (nI_add (200 * fn + pa) 1) ?_
  refine lv_goto (tgt := 60) hx hb d_Mo_beginOne_56 (by decide) ?_
  refine r_iald C K S 1 rfl (i := nI (200 * fn + pa + 1)) (show vp_in (nI (200 * fn + pa + 1)) _ from vp_in_nI (n := (200 * fn + pa + 1)) (by omega) (by decide)) (v := wdF wd fn (pa + 1)) (by rw [nI_clamp (by omega)]; exact (show wd (200 * fn + pa + 1) = wd (200 * fn + (pa + 1)) from congrArg wd (by omega))) d_Mo_beginOne_60 ?_
  rw [hv]
  refine lv_istore_n (lv' := [(2, .int (nI g9)), (1, .int (nI (200 * fn + pa))), (0, .ref h0)]) hx hb d_Mo_beginOne_61 rfl hl (by decide) rfl (fun ls hl => ?_)
  refine lv_aload_n hx hb d_Mo_beginOne_62 rfl (lv_at hl 2 rfl) ?_
  refine r_get C K S 0 rfl rfl clOk_Mo 2 (by decide) wf_Mo_13 (v := .ref (ma 1)) rfl d_Mo_beginOne_63 ?_
  refine lv_iload_n hx hb d_Mo_beginOne_66 rfl (lv_at hl 1 rfl) ?_
  refine r_iald C K S 1 rfl (i := nI (200 * fn + pa)) (show vp_in (nI (200 * fn + pa)) _ from vp_in_nI (n := (200 * fn + pa)) (by omega) (by decide)) (v := wdF wd fn pa) (by rw [nI_clamp (by omega)]; exact (show wd (200 * fn + pa) = wd (200 * fn + pa) from congrArg wd (by omega))) d_Mo_beginOne_67 ?_
  refine lv_tableIn (x := wdF wd fn pa) (off := 180) (tgt := 248) hx hb d_Mo_beginOne_68 (by rw [hk]; decide) (by rw [hk]; decide) (by rw [hk]; rfl) (by decide) ?_
  refine lv_aload_n hx hb d_Mo_beginOne_248 rfl (lv_at hl 2 rfl) ?_
  refine r_get C K S 0 rfl rfl clOk_Mo 20 (by decide) wf_Mo_149 (v := .int (nI bs)) rfl d_Mo_beginOne_249 ?_
  refine lv_aload_n hx hb d_Mo_beginOne_252 rfl (lv_at hl 2 rfl) ?_
  refine r_get C K S 0 rfl rfl clOk_Mo 21 (by decide) wf_Mo_152 (v := .int (nI kn)) rfl d_Mo_beginOne_253 ?_
  refine z_iadd (x := nI bs) (y := nI kn) (v := nI (bs + kn)) hx hb d_Mo_beginOne_256 (nI_add bs kn) ?_
  refine lv_istore (lv' := [(4, .int (nI (bs + kn))), (2, .int (nI g9)), (1, .int (nI (200 * fn + pa))), (0, .ref h0)]) hx hb d_Mo_beginOne_257 hl (by decide) rfl (fun ls hl => ?_)
  refine lv_iconst (v := 0) hx hb d_Mo_beginOne_259 (by decide) ?_
  refine lv_istore (lv' := [(5, .int 0), (4, .int (nI (bs + kn))), (2, .int (nI g9)), (1, .int (nI (200 * fn + pa))), (0, .ref h0)]) hx hb d_Mo_beginOne_260 hl (by decide) rfl (fun ls hl => ?_)
  have lp : ∀ d9, ∀ (k9 : Nat), ∀ (vr9 : Nat → Int32), (tk g9 - k9) < d9 → (k9 ≤ tk g9) → (∀ j9, j9 < k9 → vr9 (bs + kn + j9) = vr (bs + vs j9)) → (∀ x, x < bs + kn → vr9 x = vr x) → ∀ (H : Heap) (locs : List Loc), Sw G A s.heap H locs [(h0, .inr (8, moL ma (va_up (va_up (va_up (va_up (va_up (va_up (va_up iv 8 (nI fn)) 9 (nI pa)) 6 (nI bs)) 7 (nI kn)) 5 (nI wt)) 10 (nI cl)) 4 (nI (stp + 1))) co)), ((ma 1), .inl (k 0, 800, .inl wd)), ((ma 0), .inl (k 0, 4, .inl (fun i => nI (tk i)))), ((ma 12), .inl (k 0, 1400, .inl vr9)), ((ma 7), .inl (k 0, 1200, .inl (fun i => nI (WK i)))), ((ma 8), .inl (k 0, 1200, .inl (fun i => nI (WF i)))), ((ma 9), .inl (k 0, 1200, .inl (fun i => nI (WA i)))), ((ma 10), .inl (k 0, 1200, .inl (fun i => nI (WB i)))), ((ma 11), .inl (k 0, 1200, .inl (fun i => nI (WN i))))] → ∀ ls : Array Slot, lv_has ls 6 [(5, .int (nI k9)), (4, .int (nI (bs + kn))), (2, .int (nI g9)), (1, .int (nI (200 * fn + pa))), (0, .ref h0)] → W p l e { frames := 1, cells := 0, slots := 0, locals := 22 } s m [Value.ref h0].toArray below meth c H locs 0 0 (MQ below (va_Qv (fun (u : Nat → Int32) => (∀ j9, j9 < tk g9 → u (bs + kn + j9) = vr (bs + vs j9)) ∧ ∀ x, x < bs + kn → u x = vr x) (Po G k A (fun u => [(h0, .inr (8, moL ma (va_up (va_up (va_up (va_up (va_up (va_up (va_up (va_up iv 4 (nI (stp + 1))) 5 (nI (wt + 1))) 10 (nI cl)) 11 1) 8 (nI fn)) 9 (nI pa)) 6 (nI bs)) 7 (nI kn)) co)), ((ma 1), .inl (k 0, 800, .inl wd)), ((ma 0), .inl (k 0, 4, .inl (fun i => nI (tk i)))), ((ma 12), .inl (k 0, 1400, .inl u)), ((ma 7), .inl (k 0, 1200, .inl (fun i => nI ((va_up WK wt 2) i)))), ((ma 8), .inl (k 0, 1200, .inl (fun i => nI ((va_up WF wt fn) i)))), ((ma 9), .inl (k 0, 1200, .inl (fun i => nI ((va_up WA wt 0) i)))), ((ma 10), .inl (k 0, 1200, .inl (fun i => nI ((va_up WB wt bs) i)))), ((ma 11), .inl (k 0, 1200, .inl (fun i => nI ((va_up WN wt kn) i))))])) A) [Value.ref h0].toArray s 0 0 A) (F0 m 262 ls []) := by
    intro d9
    induction d9 with
    | zero => intro k9 vr9 hm; exact absurd hm (Nat.not_lt_zero _)
    | succ d9 ih_lp =>
      intro k9 vr9 hm hk9 hc ho H locs S ls hl
      refine lv_iload hx hb d_Mo_beginOne_262 (lv_at hl 0 rfl) ?_
      refine lv_aload_n hx hb d_Mo_beginOne_264 rfl (lv_at hl 4 rfl) ?_
      refine r_get C K S 0 rfl rfl clOk_Mo 1 (by decide) wf_Mo_9 (v := .ref (ma 0)) rfl d_Mo_beginOne_265 ?_
      refine lv_iload_n hx hb d_Mo_beginOne_268 rfl (lv_at hl 2 rfl) ?_
      refine r_iald C K S 2 rfl (i := nI g9) (show vp_in (nI g9) _ from vp_in_nI (n := g9) (by omega) (by decide)) (v := nI (tk g9)) (by rw [nI_clamp (by omega)]) d_Mo_beginOne_269 ?_
      refine z_icmp_ge (a := k9) (b := (tk g9)) (tgt := 310) hx hb d_Mo_beginOne_270 (by decide) (by omega) (by omega) (fun hc3 => ?_) (fun hc3 => ?_)
      · refine lv_aload_n hx hb d_Mo_beginOne_310 rfl (lv_at hl 4 rfl) ?_
        refine lv_iconst (v := 2) hx hb d_Mo_beginOne_311 (by decide) ?_
        refine lv_iconst (v := 0) hx hb d_Mo_beginOne_312 (by decide) ?_
        refine r_backv (wi := [(h0, .inr (8, moL ma (va_up (va_up (va_up (va_up (va_up (va_up (va_up iv 9 (nI pa)) 10 (nI cl)) 4 (nI (stp + 1))) 8 (nI fn)) 6 (nI bs)) 7 (nI kn)) 5 (nI wt)) co)), ((ma 7), .inl (k 0, 1200, .inl (fun i => nI (WK i)))), ((ma 8), .inl (k 0, 1200, .inl (fun i => nI (WF i)))), ((ma 9), .inl (k 0, 1200, .inl (fun i => nI (WA i)))), ((ma 10), .inl (k 0, 1200, .inl (fun i => nI (WB i)))), ((ma 11), .inl (k 0, 1200, .inl (fun i => nI (WN i))))]) (wr := [((ma 1), .inl (k 0, 800, .inl wd)), ((ma 0), .inl (k 0, 4, .inl (fun i => nI (tk i)))), ((ma 12), .inl (k 0, 1400, .inl vr9))]) S hA [0, 4, 5, 6, 7, 8] [1, 2, 3] rfl rfl (by decide) (by decide) (va_runV (As := [.int 2, .int 0]) (rest := []) ⟨hx, hb, C.2.2.1, C.2.2.2.1, C.2.2.2.2.1⟩ (g_Mo_wait l G k h0 _ 2 0 fn bs kn wt ma (va_up (va_up (va_up iv 9 (nI pa)) 10 (nI cl)) 4 (nI (stp + 1))) co WK WF WA WB WN hwt) (k_virt (n := 2) C wc_Mo_wait rfl rfl wz_Mo wm_Mo_171 wn_Mo_wait ws_Mo_wait (by decide +kernel) ⟨(Nat.le_of_ble_eq_true rfl), (Nat.le_of_ble_eq_true rfl)⟩) (pr_nowV K S [0, 4, 5, 6, 7, 8] (by decide) rfl 0 rfl rfl) rfl rfl hl.1 rfl (lv_room (Nat.le_of_ble_eq_true rfl)) d_Mo_beginOne_313 ⟨(Nat.le_of_ble_eq_true rfl), (Nat.le_of_ble_eq_true rfl)⟩) (fun u4 H locs hw5 S => ?_)
        have S : Sw G A s.heap _ _ [((ma 1), .inl (k 0, 800, .inl wd)), ((ma 0), .inl (k 0, 4, .inl (fun i => nI (tk i)))), ((ma 12), .inl (k 0, 1400, .inl vr9)), (h0, .inr (8, moL ma (va_up (va_up (va_up (va_up (va_up (va_up (va_up iv 9 (nI pa)) 10 (nI cl)) 4 (nI (stp + 1))) 8 (nI fn)) 6 (nI bs)) 7 (nI kn)) 5 (nI (wt + 1))) co)), ((ma 7), .inl (k 0, 1200, .inl (fun i => nI ((va_up WK wt 2) i)))), ((ma 8), .inl (k 0, 1200, .inl (fun i => nI ((va_up WF wt fn) i)))), ((ma 9), .inl (k 0, 1200, .inl (fun i => nI ((va_up WA wt 0) i)))), ((ma 10), .inl (k 0, 1200, .inl (fun i => nI ((va_up WB wt bs) i)))), ((ma 11), .inl (k 0, 1200, .inl (fun i => nI ((va_up WN wt kn) i))))] := S
        refine lv_aload_n hx hb d_Mo_beginOne_316 rfl (lv_at hl 4 rfl) ?_
        refine lv_iload_n hx hb d_Mo_beginOne_317 rfl (lv_at hl 2 rfl) ?_
        refine lv_iload hx hb d_Mo_beginOne_318 (lv_at hl 1 rfl) ?_
        refine r_backv (wi := [(h0, .inr (8, moL ma (va_up (va_up (va_up (va_up (va_up (va_up (va_up iv 9 (nI pa)) 4 (nI (stp + 1))) 8 (nI fn)) 6 (nI bs)) 7 (nI kn)) 5 (nI (wt + 1))) 10 (nI cl)) co)), ((ma 0), .inl (k 0, 4, .inl (fun i => nI (tk i))))]) (wr := [((ma 1), .inl (k 0, 800, .inl wd)), ((ma 12), .inl (k 0, 1400, .inl vr9)), ((ma 7), .inl (k 0, 1200, .inl (fun i => nI ((va_up WK wt 2) i)))), ((ma 8), .inl (k 0, 1200, .inl (fun i => nI ((va_up WF wt fn) i)))), ((ma 9), .inl (k 0, 1200, .inl (fun i => nI ((va_up WA wt 0) i)))), ((ma 10), .inl (k 0, 1200, .inl (fun i => nI ((va_up WB wt bs) i)))), ((ma 11), .inl (k 0, 1200, .inl (fun i => nI ((va_up WN wt kn) i))))]) S hA [3, 1] [0, 2, 4, 5, 6, 7, 8] rfl rfl (by decide) (by decide) (va_runV (As := [.int (nI g9), .int (nI (bs + kn))]) (rest := []) ⟨hx, hb, C.2.2.1, C.2.2.2.1, C.2.2.2.2.1⟩ (g_Mo_enter_l l G k h0 _ g9 (bs + kn) cl ma (va_up (va_up (va_up (va_up (va_up (va_up iv 9 (nI pa)) 4 (nI (stp + 1))) 8 (nI fn)) 6 (nI bs)) 7 (nI kn)) 5 (nI (wt + 1))) co tk hcl) (k_virt (n := 2) C wc_Mo_enter rfl rfl wz_Mo wm_Mo_179 wn_Mo_enter ws_Mo_enter (by decide +kernel) ⟨(Nat.le_of_ble_eq_true rfl), (Nat.le_of_ble_eq_true rfl)⟩) (pr_nowV K S [3, 1] (by decide) rfl 3 rfl rfl) rfl rfl hl.1 rfl (lv_room (Nat.le_of_ble_eq_true rfl)) d_Mo_beginOne_320 ⟨(Nat.le_of_ble_eq_true rfl), (Nat.le_of_ble_eq_true rfl)⟩) (fun u6 H locs hw7 S => ?_)
        have S : Sw G A s.heap _ _ [((ma 1), .inl (k 0, 800, .inl wd)), ((ma 12), .inl (k 0, 1400, .inl vr9)), ((ma 7), .inl (k 0, 1200, .inl (fun i => nI ((va_up WK wt 2) i)))), ((ma 8), .inl (k 0, 1200, .inl (fun i => nI ((va_up WF wt fn) i)))), ((ma 9), .inl (k 0, 1200, .inl (fun i => nI ((va_up WA wt 0) i)))), ((ma 10), .inl (k 0, 1200, .inl (fun i => nI ((va_up WB wt bs) i)))), ((ma 11), .inl (k 0, 1200, .inl (fun i => nI ((va_up WN wt kn) i)))), (h0, .inr (8, moL ma (va_up (va_up (va_up (va_up (va_up (va_up (va_up (va_up iv 9 (nI pa)) 4 (nI (stp + 1))) 8 (nI fn)) 6 (nI bs)) 7 (nI kn)) 5 (nI (wt + 1))) 10 (nI cl)) 11 1) co)), ((ma 0), .inl (k 0, 4, .inl (fun i => nI (tk i))))] := S
        refine lv_goto (tgt := 349) hx hb d_Mo_beginOne_323 (by decide) ?_
        exact r_vret C K vr9 ⟨(show k9 = tk g9 by omega) ▸ hc, ho⟩ (S.sub [7, 0, 8, 1, 2, 3, 4, 5, 6] (by decide) rfl) d_Mo_beginOne_349 (Nat.le_of_ble_eq_true rfl) (Nat.le_of_ble_eq_true rfl)
      · obtain ⟨hv1, hv2⟩ := hvs k9 (by omega)
        refine lv_aload_n hx hb d_Mo_beginOne_273 rfl (lv_at hl 4 rfl) ?_
        refine r_get C K S 0 rfl rfl clOk_Mo 19 (by decide) wf_Mo_53 (v := .ref (ma 12)) rfl d_Mo_beginOne_274 ?_
        refine lv_iload hx hb d_Mo_beginOne_277 (lv_at hl 1 rfl) ?_
        refine lv_iload hx hb d_Mo_beginOne_279 (lv_at hl 0 rfl) ?_
        refine z_iadd (x := nI (bs + kn)) (y := nI k9) (v := nI (bs + kn + k9)) hx hb d_Mo_beginOne_281 (nI_add (bs + kn) k9) ?_
        refine lv_aload_n hx hb d_Mo_beginOne_282 rfl (lv_at hl 4 rfl) ?_
        refine r_get C K S 0 rfl rfl clOk_Mo 19 (by decide) wf_Mo_53 (v := .ref (ma 12)) rfl d_Mo_beginOne_283 ?_
        refine lv_aload_n hx hb d_Mo_beginOne_286 rfl (lv_at hl 4 rfl) ?_
        refine r_get C K S 0 rfl rfl clOk_Mo 20 (by decide) wf_Mo_149 (v := .int (nI bs)) rfl d_Mo_beginOne_287 ?_
        refine lv_aload_n hx hb d_Mo_beginOne_290 rfl (lv_at hl 4 rfl) ?_
        refine r_get C K S 0 rfl rfl clOk_Mo 2 (by decide) wf_Mo_13 (v := .ref (ma 1)) rfl d_Mo_beginOne_291 ?_
        refine lv_iload_n hx hb d_Mo_beginOne_294 rfl (lv_at hl 3 rfl) ?_
        refine lv_iconst (v := 2) hx hb d_Mo_beginOne_295 (by decide) ?_
        refine z_iadd (x := nI (200 * fn + pa)) (y := 2) (v := nI (200 * fn + pa + 2)) hx hb d_Mo_beginOne_296 (nI_add (200 * fn + pa) 2) ?_
        refine lv_iload hx hb d_Mo_beginOne_297 (lv_at hl 0 rfl) ?_
        refine z_iadd (x := nI (200 * fn + pa + 2)) (y := nI k9) (v := nI (200 * fn + pa + 2 + k9)) hx hb d_Mo_beginOne_299 (nI_add (200 * fn + pa + 2) k9) ?_
        refine r_iald C K S 1 rfl (i := nI (200 * fn + pa + 2 + k9)) (show vp_in (nI (200 * fn + pa + 2 + k9)) _ from vp_in_nI (n := (200 * fn + pa + 2 + k9)) (by omega) (by decide)) (v := wdF wd fn (pa + 2 + k9)) (by rw [nI_clamp (by omega)]; exact (show wd (200 * fn + pa + 2 + k9) = wd (200 * fn + (pa + 2 + k9)) from congrArg wd (by omega))) d_Mo_beginOne_300 ?_
        rw [hv1]
        refine z_iadd (x := nI bs) (y := nI (vs k9)) (v := nI (bs + vs k9)) hx hb d_Mo_beginOne_301 (nI_add bs (vs k9)) ?_
        refine r_iald C K S 3 rfl (i := nI (bs + vs k9)) (show vp_in (nI (bs + vs k9)) _ from vp_in_nI (n := (bs + vs k9)) (by omega) (by decide)) (v := vr9 (bs + vs k9)) (by rw [nI_clamp (by omega)]) d_Mo_beginOne_302 ?_
        rw [ho (bs + vs k9) (by omega)]
        refine r_iast C K S 3 rfl (i := nI (bs + kn + k9)) (x := vr (bs + vs k9)) (show vp_in (nI (bs + kn + k9)) _ from vp_in_nI (n := (bs + kn + k9)) (by omega) (by decide)) (f' := va_up vr9 (bs + kn + k9) (vr (bs + vs k9))) (ws' := [(h0, .inr (8, moL ma (va_up (va_up (va_up (va_up (va_up (va_up (va_up iv 8 (nI fn)) 9 (nI pa)) 6 (nI bs)) 7 (nI kn)) 5 (nI wt)) 10 (nI cl)) 4 (nI (stp + 1))) co)), ((ma 1), .inl (k 0, 800, .inl wd)), ((ma 0), .inl (k 0, 4, .inl (fun i => nI (tk i)))), ((ma 12), .inl (k 0, 1400, .inl (va_up vr9 (bs + kn + k9) (vr (bs + vs k9))))), ((ma 7), .inl (k 0, 1200, .inl (fun i => nI (WK i)))), ((ma 8), .inl (k 0, 1200, .inl (fun i => nI (WF i)))), ((ma 9), .inl (k 0, 1200, .inl (fun i => nI (WA i)))), ((ma 10), .inl (k 0, 1200, .inl (fun i => nI (WB i)))), ((ma 11), .inl (k 0, 1200, .inl (fun i => nI (WN i))))]) (show upd _ (nI (bs + kn + k9) : Int32).toNatClampNeg (vr (bs + vs k9)) = _ from upd_W vr9 (j := (bs + kn + k9)) (by omega) (vr (bs + vs k9))) rfl d_Mo_beginOne_303 (fun H locs S => ?_)
        refine lv_iinc (v := nI (k9 + 1)) (lv' := [(5, .int (nI (k9 + 1))), (4, .int (nI (bs + kn))), (2, .int (nI g9)), (1, .int (nI (200 * fn + pa))), (0, .ref h0)]) hx hb d_Mo_beginOne_304 hl (k := 0) rfl (show nI k9 + Int32.ofInt 1 = nI (k9 + 1) from (nI_add k9 1).trans (congrArg nI (by omega))) (by decide) rfl (fun ls hl => ?_)
        refine lv_goto (tgt := 262) hx hb d_Mo_beginOne_307 (by decide) ?_
        exact ih_lp (k9 + 1) (va_up vr9 (bs + kn + k9) (vr (bs + vs k9))) (by omega) (by omega) (fun j9 hj => (Nat.lt_or_eq_of_le (Nat.le_of_lt_succ hj)).elim (fun q => by rw [va_up_ne _ _ (by omega)]; exact hc j9 q) (fun q => by rw [q, va_up_self])) (fun x hx => by rw [va_up_ne _ _ (by omega)]; exact ho x hx) _ _ (S.sub [0, 1, 2, 3, 4, 5, 6, 7, 8] (by decide) rfl) ls (lv_sub hl [0, 1, 2, 3, 4] rfl)
  exact lp _ 0 vr (Nat.lt_succ_self _) (by omega) (fun _ h => absurd h (Nat.not_lt_zero _)) (fun _ _ => rfl) _ _ (S.sub [0, 1, 2, 3, 4, 5, 6, 7, 8] (by decide) rfl) ls (lv_sub hl [0, 1, 2, 3, 4] rfl)
theorem d_Mo_giveOn_0 : decode c_Mo_giveOn 0 = .ok (.aload_n 0, 1) := by decide +kernel
theorem d_Mo_giveOn_1 : decode c_Mo_giveOn 1 = .ok (.dup, 1) := by decide +kernel
theorem d_Mo_giveOn_2 : decode c_Mo_giveOn 2 = .ok (.getfield 143, 3) := by decide +kernel
theorem d_Mo_giveOn_5 : decode c_Mo_giveOn 5 = .ok (.iconst 1, 1) := by decide +kernel
theorem d_Mo_giveOn_6 : decode c_Mo_giveOn 6 = .ok (.isub, 1) := by decide +kernel
theorem d_Mo_giveOn_7 : decode c_Mo_giveOn 7 = .ok (.putfield 143, 3) := by decide +kernel
theorem d_Mo_giveOn_10 : decode c_Mo_giveOn 10 = .ok (.aload_n 0, 1) := by decide +kernel
theorem d_Mo_giveOn_11 : decode c_Mo_giveOn 11 = .ok (.aload_n 0, 1) := by decide +kernel
theorem d_Mo_giveOn_12 : decode c_Mo_giveOn 12 = .ok (.getfield 41, 3) := by decide +kernel
theorem d_Mo_giveOn_15 : decode c_Mo_giveOn 15 = .ok (.aload_n 0, 1) := by decide +kernel
theorem d_Mo_giveOn_16 : decode c_Mo_giveOn 16 = .ok (.getfield 143, 3) := by decide +kernel
theorem d_Mo_giveOn_19 : decode c_Mo_giveOn 19 = .ok (.iaload, 1) := by decide +kernel
theorem d_Mo_giveOn_20 : decode c_Mo_giveOn 20 = .ok (.putfield 146, 3) := by decide +kernel
theorem d_Mo_giveOn_23 : decode c_Mo_giveOn 23 = .ok (.aload_n 0, 1) := by decide +kernel
theorem d_Mo_giveOn_24 : decode c_Mo_giveOn 24 = .ok (.aload_n 0, 1) := by decide +kernel
theorem d_Mo_giveOn_25 : decode c_Mo_giveOn 25 = .ok (.getfield 47, 3) := by decide +kernel
theorem d_Mo_giveOn_28 : decode c_Mo_giveOn 28 = .ok (.aload_n 0, 1) := by decide +kernel
theorem d_Mo_giveOn_29 : decode c_Mo_giveOn 29 = .ok (.getfield 143, 3) := by decide +kernel
theorem d_Mo_giveOn_32 : decode c_Mo_giveOn 32 = .ok (.iaload, 1) := by decide +kernel
theorem d_Mo_giveOn_33 : decode c_Mo_giveOn 33 = .ok (.putfield 149, 3) := by decide +kernel
theorem d_Mo_giveOn_36 : decode c_Mo_giveOn 36 = .ok (.aload_n 0, 1) := by decide +kernel
theorem d_Mo_giveOn_37 : decode c_Mo_giveOn 37 = .ok (.aload_n 0, 1) := by decide +kernel
theorem d_Mo_giveOn_38 : decode c_Mo_giveOn 38 = .ok (.getfield 50, 3) := by decide +kernel
theorem d_Mo_giveOn_41 : decode c_Mo_giveOn 41 = .ok (.aload_n 0, 1) := by decide +kernel
theorem d_Mo_giveOn_42 : decode c_Mo_giveOn 42 = .ok (.getfield 143, 3) := by decide +kernel
theorem d_Mo_giveOn_45 : decode c_Mo_giveOn 45 = .ok (.iaload, 1) := by decide +kernel
theorem d_Mo_giveOn_46 : decode c_Mo_giveOn 46 = .ok (.putfield 152, 3) := by decide +kernel
theorem d_Mo_giveOn_49 : decode c_Mo_giveOn 49 = .ok (.aload_n 0, 1) := by decide +kernel
theorem d_Mo_giveOn_50 : decode c_Mo_giveOn 50 = .ok (.getfield 38, 3) := by decide +kernel
theorem d_Mo_giveOn_53 : decode c_Mo_giveOn 53 = .ok (.aload_n 0, 1) := by decide +kernel
theorem d_Mo_giveOn_54 : decode c_Mo_giveOn 54 = .ok (.getfield 143, 3) := by decide +kernel
theorem d_Mo_giveOn_57 : decode c_Mo_giveOn 57 = .ok (.iaload, 1) := by decide +kernel
theorem d_Mo_giveOn_58 : decode c_Mo_giveOn 58 = .ok (.ifCond .ne 35, 3) := by decide +kernel
theorem d_Mo_giveOn_61 : decode c_Mo_giveOn 61 = .ok (.aload_n 0, 1) := by decide +kernel
theorem d_Mo_giveOn_62 : decode c_Mo_giveOn 62 = .ok (.aload_n 0, 1) := by decide +kernel
theorem d_Mo_giveOn_63 : decode c_Mo_giveOn 63 = .ok (.getfield 168, 3) := by decide +kernel
theorem d_Mo_giveOn_66 : decode c_Mo_giveOn 66 = .ok (.sipush 30000, 3) := by decide +kernel
theorem d_Mo_giveOn_69 : decode c_Mo_giveOn 69 = .ok (.if_icmp .ne 7, 3) := by decide +kernel
theorem d_Mo_giveOn_72 : decode c_Mo_giveOn 72 = .ok (.iconst 1, 1) := by decide +kernel
theorem d_Mo_giveOn_73 : decode c_Mo_giveOn 73 = .ok (.goto 4, 3) := by decide +kernel
theorem d_Mo_giveOn_76 : decode c_Mo_giveOn 76 = .ok (.iconst 0, 1) := by decide +kernel
theorem d_Mo_giveOn_77 : decode c_Mo_giveOn 77 = .ok (.putfield 158, 3) := by decide +kernel
theorem d_Mo_giveOn_80 : decode c_Mo_giveOn 80 = .ok (.aload_n 0, 1) := by decide +kernel
theorem d_Mo_giveOn_81 : decode c_Mo_giveOn 81 = .ok (.dup, 1) := by decide +kernel
theorem d_Mo_giveOn_82 : decode c_Mo_giveOn 82 = .ok (.getfield 168, 3) := by decide +kernel
theorem d_Mo_giveOn_85 : decode c_Mo_giveOn 85 = .ok (.iconst 1, 1) := by decide +kernel
theorem d_Mo_giveOn_86 : decode c_Mo_giveOn 86 = .ok (.iadd, 1) := by decide +kernel
theorem d_Mo_giveOn_87 : decode c_Mo_giveOn 87 = .ok (.putfield 168, 3) := by decide +kernel
theorem d_Mo_giveOn_90 : decode c_Mo_giveOn 90 = .ok (.goto 75, 3) := by decide +kernel
theorem d_Mo_giveOn_93 : decode c_Mo_giveOn 93 = .ok (.aload_n 0, 1) := by decide +kernel
theorem d_Mo_giveOn_94 : decode c_Mo_giveOn 94 = .ok (.getfield 38, 3) := by decide +kernel
theorem d_Mo_giveOn_97 : decode c_Mo_giveOn 97 = .ok (.aload_n 0, 1) := by decide +kernel
theorem d_Mo_giveOn_98 : decode c_Mo_giveOn 98 = .ok (.getfield 143, 3) := by decide +kernel
theorem d_Mo_giveOn_101 : decode c_Mo_giveOn 101 = .ok (.iaload, 1) := by decide +kernel
theorem d_Mo_giveOn_102 : decode c_Mo_giveOn 102 = .ok (.iconst 1, 1) := by decide +kernel
theorem d_Mo_giveOn_103 : decode c_Mo_giveOn 103 = .ok (.if_icmp .ne 52, 3) := by decide +kernel
theorem d_Mo_giveOn_106 : decode c_Mo_giveOn 106 = .ok (.aload_n 0, 1) := by decide +kernel
theorem d_Mo_giveOn_107 : decode c_Mo_giveOn 107 = .ok (.getfield 53, 3) := by decide +kernel
theorem d_Mo_giveOn_110 : decode c_Mo_giveOn 110 = .ok (.aload_n 0, 1) := by decide +kernel
theorem d_Mo_giveOn_111 : decode c_Mo_giveOn 111 = .ok (.getfield 149, 3) := by decide +kernel
theorem d_Mo_giveOn_114 : decode c_Mo_giveOn 114 = .ok (.aload_n 0, 1) := by decide +kernel
theorem d_Mo_giveOn_115 : decode c_Mo_giveOn 115 = .ok (.getfield 152, 3) := by decide +kernel
theorem d_Mo_giveOn_118 : decode c_Mo_giveOn 118 = .ok (.iadd, 1) := by decide +kernel
theorem d_Mo_giveOn_119 : decode c_Mo_giveOn 119 = .ok (.aload_n 0, 1) := by decide +kernel
theorem d_Mo_giveOn_120 : decode c_Mo_giveOn 120 = .ok (.getfield 168, 3) := by decide +kernel
theorem d_Mo_giveOn_123 : decode c_Mo_giveOn 123 = .ok (.iastore, 1) := by decide +kernel
theorem d_Mo_giveOn_124 : decode c_Mo_giveOn 124 = .ok (.aload_n 0, 1) := by decide +kernel
theorem d_Mo_giveOn_125 : decode c_Mo_giveOn 125 = .ok (.dup, 1) := by decide +kernel
theorem d_Mo_giveOn_126 : decode c_Mo_giveOn 126 = .ok (.getfield 152, 3) := by decide +kernel
theorem d_Mo_giveOn_129 : decode c_Mo_giveOn 129 = .ok (.iconst 1, 1) := by decide +kernel
theorem d_Mo_giveOn_130 : decode c_Mo_giveOn 130 = .ok (.iadd, 1) := by decide +kernel
theorem d_Mo_giveOn_131 : decode c_Mo_giveOn 131 = .ok (.putfield 152, 3) := by decide +kernel
theorem d_Mo_giveOn_134 : decode c_Mo_giveOn 134 = .ok (.aload_n 0, 1) := by decide +kernel
theorem d_Mo_giveOn_135 : decode c_Mo_giveOn 135 = .ok (.aload_n 0, 1) := by decide +kernel
theorem d_Mo_giveOn_136 : decode c_Mo_giveOn 136 = .ok (.getfield 44, 3) := by decide +kernel
theorem d_Mo_giveOn_139 : decode c_Mo_giveOn 139 = .ok (.aload_n 0, 1) := by decide +kernel
theorem d_Mo_giveOn_140 : decode c_Mo_giveOn 140 = .ok (.getfield 143, 3) := by decide +kernel
theorem d_Mo_giveOn_143 : decode c_Mo_giveOn 143 = .ok (.iaload, 1) := by decide +kernel
theorem d_Mo_giveOn_144 : decode c_Mo_giveOn 144 = .ok (.putfield 162, 3) := by decide +kernel
theorem d_Mo_giveOn_147 : decode c_Mo_giveOn 147 = .ok (.aload_n 0, 1) := by decide +kernel
theorem d_Mo_giveOn_148 : decode c_Mo_giveOn 148 = .ok (.iconst (-1), 1) := by decide +kernel
theorem d_Mo_giveOn_149 : decode c_Mo_giveOn 149 = .ok (.putfield 168, 3) := by decide +kernel
theorem d_Mo_giveOn_152 : decode c_Mo_giveOn 152 = .ok (.goto 13, 3) := by decide +kernel
theorem d_Mo_giveOn_155 : decode c_Mo_giveOn 155 = .ok (.aload_n 0, 1) := by decide +kernel
theorem d_Mo_giveOn_156 : decode c_Mo_giveOn 156 = .ok (.dup, 1) := by decide +kernel
theorem d_Mo_giveOn_157 : decode c_Mo_giveOn 157 = .ok (.getfield 155, 3) := by decide +kernel
theorem d_Mo_giveOn_160 : decode c_Mo_giveOn 160 = .ok (.iconst 1, 1) := by decide +kernel
theorem d_Mo_giveOn_161 : decode c_Mo_giveOn 161 = .ok (.isub, 1) := by decide +kernel
theorem d_Mo_giveOn_162 : decode c_Mo_giveOn 162 = .ok (.putfield 155, 3) := by decide +kernel
theorem d_Mo_giveOn_165 : decode c_Mo_giveOn 165 = .ok (.return_, 1) := by decide +kernel
set_option maxRecDepth 100000 in
set_option maxHeartbeats 16000000 in
/-- Mo_giveOn_0 -/
theorem g_Mo_giveOn_0 (l : Launch) (G : va_G) (k : Nat → ClassId) (h0 : Nat) (s0 : Nat) (wt : Nat) (vl : Nat) (ma : Nat → Nat) (iv : Nat → Int32) (co : Int64) (WK : Nat → Nat) (WF : Nat → Nat) (WA : Nat → Nat) (WB : Nat → Nat) (WN : Nat → Nat) (hwt : wt < 1200) (hvl : vl ≤ 30000) (hk : WK wt = 0) (hv2 : vl < 30000) : CV l y_Mo_giveOn c_Mo_giveOn 1 { frames := 0, cells := 0, slots := 0, locals := 0 } [.ref h0] G k s0 [(h0, .inr (8, moL ma (va_up (va_up iv 5 (nI (wt + 1))) 12 (nI vl)) co)), ((ma 7), .inl (k 0, 1200, .inl (fun i => nI (WK i)))), ((ma 8), .inl (k 0, 1200, .inl (fun i => nI (WF i)))), ((ma 9), .inl (k 0, 1200, .inl (fun i => nI (WA i)))), ((ma 10), .inl (k 0, 1200, .inl (fun i => nI (WB i)))), ((ma 11), .inl (k 0, 1200, .inl (fun i => nI (WN i))))] (fun (u : Unit) => True) (fun u => [(h0, .inr (8, moL ma (va_up (va_up (va_up (va_up (va_up (va_up iv 5 (nI wt)) 8 (nI (WF wt))) 6 (nI (WB wt))) 7 (nI (WN wt))) 11 0) 12 (nI (vl + 1))) co)), ((ma 7), .inl (k 0, 1200, .inl (fun i => nI (WK i)))), ((ma 8), .inl (k 0, 1200, .inl (fun i => nI (WF i)))), ((ma 9), .inl (k 0, 1200, .inl (fun i => nI (WA i)))), ((ma 10), .inl (k 0, 1200, .inl (fun i => nI (WB i)))), ((ma 11), .inl (k 0, 1200, .inl (fun i => nI (WN i))))]) 0 0 := by
  refine met_start (by decide) (Nat.le_of_ble_eq_true rfl) ?_
  intro p e s m below meth c C K hA hsz S ls hl
  generalize va_A [(h0, .inr (8, moL ma (va_up (va_up iv 5 (nI (wt + 1))) 12 (nI vl)) co)), ((ma 7), .inl (k 0, 1200, .inl (fun i => nI (WK i)))), ((ma 8), .inl (k 0, 1200, .inl (fun i => nI (WF i)))), ((ma 9), .inl (k 0, 1200, .inl (fun i => nI (WA i)))), ((ma 10), .inl (k 0, 1200, .inl (fun i => nI (WB i)))), ((ma 11), .inl (k 0, 1200, .inl (fun i => nI (WN i))))] s0 = A at hA S ⊢
  have hx := C.1
  have hb := C.2.1
  have hl : lv_has ls 1 [(0, .ref h0)] := hl
  refine lv_aload_n hx hb d_Mo_giveOn_0 rfl (lv_at hl 0 rfl) ?_
  refine lv_dup hx hb d_Mo_giveOn_1 rfl ?_
  refine r_get C K S 0 rfl rfl clOk_Mo 18 (by decide) wf_Mo_143 (v := .int (nI (wt + 1))) rfl d_Mo_giveOn_2 ?_
  refine lv_iconst (v := 1) hx hb d_Mo_giveOn_5 (by decide) ?_
  refine z_isub (x := nI (wt + 1)) (y := 1) (v := nI (wt + 1 - 1)) hx hb d_Mo_giveOn_6 (pk_sub (a := (wt + 1)) (b := 1) (by omega)) ?_
  refine r_put C K S 0 rfl rfl clOk_Mo 18 (by decide) wf_Mo_143 rfl (ty := .int) (v := .int (nI (wt + 1 - 1))) (by decide +kernel) rfl rfl (Nat.le_of_ble_eq_true rfl) (fs' := moL ma (va_up (va_up iv 12 (nI vl)) 5 (nI (wt + 1 - 1))) co) (ws' := [(h0, .inr (8, moL ma (va_up (va_up iv 12 (nI vl)) 5 (nI (wt + 1 - 1))) co)), ((ma 7), .inl (k 0, 1200, .inl (fun i => nI (WK i)))), ((ma 8), .inl (k 0, 1200, .inl (fun i => nI (WF i)))), ((ma 9), .inl (k 0, 1200, .inl (fun i => nI (WA i)))), ((ma 10), .inl (k 0, 1200, .inl (fun i => nI (WB i)))), ((ma 11), .inl (k 0, 1200, .inl (fun i => nI (WN i))))]) rfl rfl d_Mo_giveOn_7 (fun H locs S => ?_)
  have S : Sw G A s.heap H locs [(h0, .inr (8, moL ma (va_up (va_up iv 12 (nI vl)) 5 (nI wt)) co)), ((ma 7), .inl (k 0, 1200, .inl (fun i => nI (WK i)))), ((ma 8), .inl (k 0, 1200, .inl (fun i => nI (WF i)))), ((ma 9), .inl (k 0, 1200, .inl (fun i => nI (WA i)))), ((ma 10), .inl (k 0, 1200, .inl (fun i => nI (WB i)))), ((ma 11), .inl (k 0, 1200, .inl (fun i => nI (WN i))))] := S
  refine lv_aload_n hx hb d_Mo_giveOn_10 rfl (lv_at hl 0 rfl) ?_
  refine lv_aload_n hx hb d_Mo_giveOn_11 rfl (lv_at hl 0 rfl) ?_
  refine r_get C K S 0 rfl rfl clOk_Mo 14 (by decide) wf_Mo_41 (v := .ref (ma 8)) rfl d_Mo_giveOn_12 ?_
  refine lv_aload_n hx hb d_Mo_giveOn_15 rfl (lv_at hl 0 rfl) ?_
  refine r_get C K S 0 rfl rfl clOk_Mo 18 (by decide) wf_Mo_143 (v := .int (nI wt)) rfl d_Mo_giveOn_16 ?_
  refine r_iald C K S 2 rfl (i := nI wt) (show vp_in (nI wt) _ from vp_in_nI (n := wt) (by omega) (by decide)) (v := nI (WF wt)) (by rw [nI_clamp (by omega)]) d_Mo_giveOn_19 ?_
  refine r_put C K S 0 rfl rfl clOk_Mo 22 (by decide) wf_Mo_146 rfl (ty := .int) (v := .int (nI (WF wt))) (by decide +kernel) rfl rfl (Nat.le_of_ble_eq_true rfl) (fs' := moL ma (va_up (va_up (va_up iv 12 (nI vl)) 5 (nI wt)) 8 (nI (WF wt))) co) (ws' := [(h0, .inr (8, moL ma (va_up (va_up (va_up iv 12 (nI vl)) 5 (nI wt)) 8 (nI (WF wt))) co)), ((ma 7), .inl (k 0, 1200, .inl (fun i => nI (WK i)))), ((ma 8), .inl (k 0, 1200, .inl (fun i => nI (WF i)))), ((ma 9), .inl (k 0, 1200, .inl (fun i => nI (WA i)))), ((ma 10), .inl (k 0, 1200, .inl (fun i => nI (WB i)))), ((ma 11), .inl (k 0, 1200, .inl (fun i => nI (WN i))))]) rfl rfl d_Mo_giveOn_20 (fun H locs S => ?_)
  refine lv_aload_n hx hb d_Mo_giveOn_23 rfl (lv_at hl 0 rfl) ?_
  refine lv_aload_n hx hb d_Mo_giveOn_24 rfl (lv_at hl 0 rfl) ?_
  refine r_get C K S 0 rfl rfl clOk_Mo 16 (by decide) wf_Mo_47 (v := .ref (ma 10)) rfl d_Mo_giveOn_25 ?_
  refine lv_aload_n hx hb d_Mo_giveOn_28 rfl (lv_at hl 0 rfl) ?_
  refine r_get C K S 0 rfl rfl clOk_Mo 18 (by decide) wf_Mo_143 (v := .int (nI wt)) rfl d_Mo_giveOn_29 ?_
  refine r_iald C K S 4 rfl (i := nI wt) (show vp_in (nI wt) _ from vp_in_nI (n := wt) (by omega) (by decide)) (v := nI (WB wt)) (by rw [nI_clamp (by omega)]) d_Mo_giveOn_32 ?_
  refine r_put C K S 0 rfl rfl clOk_Mo 20 (by decide) wf_Mo_149 rfl (ty := .int) (v := .int (nI (WB wt))) (by decide +kernel) rfl rfl (Nat.le_of_ble_eq_true rfl) (fs' := moL ma (va_up (va_up (va_up (va_up iv 12 (nI vl)) 5 (nI wt)) 8 (nI (WF wt))) 6 (nI (WB wt))) co) (ws' := [(h0, .inr (8, moL ma (va_up (va_up (va_up (va_up iv 12 (nI vl)) 5 (nI wt)) 8 (nI (WF wt))) 6 (nI (WB wt))) co)), ((ma 7), .inl (k 0, 1200, .inl (fun i => nI (WK i)))), ((ma 8), .inl (k 0, 1200, .inl (fun i => nI (WF i)))), ((ma 9), .inl (k 0, 1200, .inl (fun i => nI (WA i)))), ((ma 10), .inl (k 0, 1200, .inl (fun i => nI (WB i)))), ((ma 11), .inl (k 0, 1200, .inl (fun i => nI (WN i))))]) rfl rfl d_Mo_giveOn_33 (fun H locs S => ?_)
  refine lv_aload_n hx hb d_Mo_giveOn_36 rfl (lv_at hl 0 rfl) ?_
  refine lv_aload_n hx hb d_Mo_giveOn_37 rfl (lv_at hl 0 rfl) ?_
  refine r_get C K S 0 rfl rfl clOk_Mo 17 (by decide) wf_Mo_50 (v := .ref (ma 11)) rfl d_Mo_giveOn_38 ?_
  refine lv_aload_n hx hb d_Mo_giveOn_41 rfl (lv_at hl 0 rfl) ?_
  refine r_get C K S 0 rfl rfl clOk_Mo 18 (by decide) wf_Mo_143 (v := .int (nI wt)) rfl d_Mo_giveOn_42 ?_
  refine r_iald C K S 5 rfl (i := nI wt) (show vp_in (nI wt) _ from vp_in_nI (n := wt) (by omega) (by decide)) (v := nI (WN wt)) (by rw [nI_clamp (by omega)]) d_Mo_giveOn_45 ?_
  refine r_put C K S 0 rfl rfl clOk_Mo 21 (by decide) wf_Mo_152 rfl (ty := .int) (v := .int (nI (WN wt))) (by decide +kernel) rfl rfl (Nat.le_of_ble_eq_true rfl) (fs' := moL ma (va_up (va_up (va_up (va_up (va_up iv 12 (nI vl)) 5 (nI wt)) 8 (nI (WF wt))) 6 (nI (WB wt))) 7 (nI (WN wt))) co) (ws' := [(h0, .inr (8, moL ma (va_up (va_up (va_up (va_up (va_up iv 12 (nI vl)) 5 (nI wt)) 8 (nI (WF wt))) 6 (nI (WB wt))) 7 (nI (WN wt))) co)), ((ma 7), .inl (k 0, 1200, .inl (fun i => nI (WK i)))), ((ma 8), .inl (k 0, 1200, .inl (fun i => nI (WF i)))), ((ma 9), .inl (k 0, 1200, .inl (fun i => nI (WA i)))), ((ma 10), .inl (k 0, 1200, .inl (fun i => nI (WB i)))), ((ma 11), .inl (k 0, 1200, .inl (fun i => nI (WN i))))]) rfl rfl d_Mo_giveOn_46 (fun H locs S => ?_)
  refine lv_aload_n hx hb d_Mo_giveOn_49 rfl (lv_at hl 0 rfl) ?_
  refine r_get C K S 0 rfl rfl clOk_Mo 13 (by decide) wf_Mo_38 (v := .ref (ma 7)) rfl d_Mo_giveOn_50 ?_
  refine lv_aload_n hx hb d_Mo_giveOn_53 rfl (lv_at hl 0 rfl) ?_
  refine r_get C K S 0 rfl rfl clOk_Mo 18 (by decide) wf_Mo_143 (v := .int (nI wt)) rfl d_Mo_giveOn_54 ?_
  refine r_iald C K S 1 rfl (i := nI wt) (show vp_in (nI wt) _ from vp_in_nI (n := wt) (by omega) (by decide)) (v := nI (WK wt)) (by rw [nI_clamp (by omega)]) d_Mo_giveOn_57 ?_
  rw [hk]
  refine z_if_ne (a := 0) (tgt := 93) hx hb d_Mo_giveOn_58 (by decide) (by omega) (fun hc1 => False.elim (by omega)) (fun hc1 => ?_)
  refine lv_aload_n hx hb d_Mo_giveOn_61 rfl (lv_at hl 0 rfl) ?_
  refine lv_aload_n hx hb d_Mo_giveOn_62 rfl (lv_at hl 0 rfl) ?_
  refine r_get C K S 0 rfl rfl clOk_Mo 26 (by decide) wf_Mo_168 (v := .int (nI vl)) rfl d_Mo_giveOn_63 ?_
  refine lv_sipush (v := 30000) hx hb d_Mo_giveOn_66 (by decide) ?_
  refine z_icmp_ne (a := vl) (b := 30000) (tgt := 76) hx hb d_Mo_giveOn_69 (by decide) (by omega) (by omega) (fun hc2 => ?_) (fun hc2 => False.elim (by omega))
  refine lv_iconst (v := 0) hx hb d_Mo_giveOn_76 (by decide) ?_
  refine r_put C K S 0 rfl rfl clOk_Mo 25 (by decide) wf_Mo_158 rfl (ty := .boolean) (v := .int 0) (by decide +kernel) rfl rfl (Nat.le_of_ble_eq_true rfl) (fs' := moL ma (va_up (va_up (va_up (va_up (va_up (va_up iv 12 (nI vl)) 5 (nI wt)) 8 (nI (WF wt))) 6 (nI (WB wt))) 7 (nI (WN wt))) 11 0) co) (ws' := [(h0, .inr (8, moL ma (va_up (va_up (va_up (va_up (va_up (va_up iv 12 (nI vl)) 5 (nI wt)) 8 (nI (WF wt))) 6 (nI (WB wt))) 7 (nI (WN wt))) 11 0) co)), ((ma 7), .inl (k 0, 1200, .inl (fun i => nI (WK i)))), ((ma 8), .inl (k 0, 1200, .inl (fun i => nI (WF i)))), ((ma 9), .inl (k 0, 1200, .inl (fun i => nI (WA i)))), ((ma 10), .inl (k 0, 1200, .inl (fun i => nI (WB i)))), ((ma 11), .inl (k 0, 1200, .inl (fun i => nI (WN i))))]) rfl rfl d_Mo_giveOn_77 (fun H locs S => ?_)
  refine lv_aload_n hx hb d_Mo_giveOn_80 rfl (lv_at hl 0 rfl) ?_
  refine lv_dup hx hb d_Mo_giveOn_81 rfl ?_
  refine r_get C K S 0 rfl rfl clOk_Mo 26 (by decide) wf_Mo_168 (v := .int (nI vl)) rfl d_Mo_giveOn_82 ?_
  refine lv_iconst (v := 1) hx hb d_Mo_giveOn_85 (by decide) ?_
  refine z_iadd (x := nI vl) (y := 1) (v := nI (vl + 1)) hx hb d_Mo_giveOn_86 (nI_add vl 1) ?_
  refine r_put C K S 0 rfl rfl clOk_Mo 26 (by decide) wf_Mo_168 rfl (ty := .int) (v := .int (nI (vl + 1))) (by decide +kernel) rfl rfl (Nat.le_of_ble_eq_true rfl) (fs' := moL ma (va_up (va_up (va_up (va_up (va_up (va_up iv 5 (nI wt)) 8 (nI (WF wt))) 6 (nI (WB wt))) 7 (nI (WN wt))) 11 0) 12 (nI (vl + 1))) co) (ws' := [(h0, .inr (8, moL ma (va_up (va_up (va_up (va_up (va_up (va_up iv 5 (nI wt)) 8 (nI (WF wt))) 6 (nI (WB wt))) 7 (nI (WN wt))) 11 0) 12 (nI (vl + 1))) co)), ((ma 7), .inl (k 0, 1200, .inl (fun i => nI (WK i)))), ((ma 8), .inl (k 0, 1200, .inl (fun i => nI (WF i)))), ((ma 9), .inl (k 0, 1200, .inl (fun i => nI (WA i)))), ((ma 10), .inl (k 0, 1200, .inl (fun i => nI (WB i)))), ((ma 11), .inl (k 0, 1200, .inl (fun i => nI (WN i))))]) rfl rfl d_Mo_giveOn_87 (fun H locs S => ?_)
  refine lv_goto (tgt := 165) hx hb d_Mo_giveOn_90 (by decide) ?_
  exact r_vret C K () trivial (S.sub [0, 1, 2, 3, 4, 5] (by decide) rfl) d_Mo_giveOn_165 (Nat.le_of_ble_eq_true rfl) (Nat.le_of_ble_eq_true rfl)
set_option maxRecDepth 100000 in
set_option maxHeartbeats 16000000 in
/-- Mo_giveOn_0l -/
theorem g_Mo_giveOn_0l (l : Launch) (G : va_G) (k : Nat → ClassId) (h0 : Nat) (s0 : Nat) (wt : Nat) (vl : Nat) (ma : Nat → Nat) (iv : Nat → Int32) (co : Int64) (WK : Nat → Nat) (WF : Nat → Nat) (WA : Nat → Nat) (WB : Nat → Nat) (WN : Nat → Nat) (hwt : wt < 1200) (hvl : vl ≤ 30000) (hk : WK wt = 0) (hv2 : vl = 30000) : CV l y_Mo_giveOn c_Mo_giveOn 1 { frames := 0, cells := 0, slots := 0, locals := 0 } [.ref h0] G k s0 [(h0, .inr (8, moL ma (va_up (va_up iv 5 (nI (wt + 1))) 12 (nI vl)) co)), ((ma 7), .inl (k 0, 1200, .inl (fun i => nI (WK i)))), ((ma 8), .inl (k 0, 1200, .inl (fun i => nI (WF i)))), ((ma 9), .inl (k 0, 1200, .inl (fun i => nI (WA i)))), ((ma 10), .inl (k 0, 1200, .inl (fun i => nI (WB i)))), ((ma 11), .inl (k 0, 1200, .inl (fun i => nI (WN i))))] (fun (u : Unit) => True) (fun u => [(h0, .inr (8, moL ma (va_up (va_up (va_up (va_up (va_up (va_up iv 5 (nI wt)) 8 (nI (WF wt))) 6 (nI (WB wt))) 7 (nI (WN wt))) 11 1) 12 (nI (vl + 1))) co)), ((ma 7), .inl (k 0, 1200, .inl (fun i => nI (WK i)))), ((ma 8), .inl (k 0, 1200, .inl (fun i => nI (WF i)))), ((ma 9), .inl (k 0, 1200, .inl (fun i => nI (WA i)))), ((ma 10), .inl (k 0, 1200, .inl (fun i => nI (WB i)))), ((ma 11), .inl (k 0, 1200, .inl (fun i => nI (WN i))))]) 0 0 := by
  refine met_start (by decide) (Nat.le_of_ble_eq_true rfl) ?_
  intro p e s m below meth c C K hA hsz S ls hl
  generalize va_A [(h0, .inr (8, moL ma (va_up (va_up iv 5 (nI (wt + 1))) 12 (nI vl)) co)), ((ma 7), .inl (k 0, 1200, .inl (fun i => nI (WK i)))), ((ma 8), .inl (k 0, 1200, .inl (fun i => nI (WF i)))), ((ma 9), .inl (k 0, 1200, .inl (fun i => nI (WA i)))), ((ma 10), .inl (k 0, 1200, .inl (fun i => nI (WB i)))), ((ma 11), .inl (k 0, 1200, .inl (fun i => nI (WN i))))] s0 = A at hA S ⊢
  have hx := C.1
  have hb := C.2.1
  have hl : lv_has ls 1 [(0, .ref h0)] := hl
  refine lv_aload_n hx hb d_Mo_giveOn_0 rfl (lv_at hl 0 rfl) ?_
  refine lv_dup hx hb d_Mo_giveOn_1 rfl ?_
  refine r_get C K S 0 rfl rfl clOk_Mo 18 (by decide) wf_Mo_143 (v := .int (nI (wt + 1))) rfl d_Mo_giveOn_2 ?_
  refine lv_iconst (v := 1) hx hb d_Mo_giveOn_5 (by decide) ?_
  refine z_isub (x := nI (wt + 1)) (y := 1) (v := nI (wt + 1 - 1)) hx hb d_Mo_giveOn_6 (pk_sub (a := (wt + 1)) (b := 1) (by omega)) ?_
  refine r_put C K S 0 rfl rfl clOk_Mo 18 (by decide) wf_Mo_143 rfl (ty := .int) (v := .int (nI (wt + 1 - 1))) (by decide +kernel) rfl rfl (Nat.le_of_ble_eq_true rfl) (fs' := moL ma (va_up (va_up iv 12 (nI vl)) 5 (nI (wt + 1 - 1))) co) (ws' := [(h0, .inr (8, moL ma (va_up (va_up iv 12 (nI vl)) 5 (nI (wt + 1 - 1))) co)), ((ma 7), .inl (k 0, 1200, .inl (fun i => nI (WK i)))), ((ma 8), .inl (k 0, 1200, .inl (fun i => nI (WF i)))), ((ma 9), .inl (k 0, 1200, .inl (fun i => nI (WA i)))), ((ma 10), .inl (k 0, 1200, .inl (fun i => nI (WB i)))), ((ma 11), .inl (k 0, 1200, .inl (fun i => nI (WN i))))]) rfl rfl d_Mo_giveOn_7 (fun H locs S => ?_)
  have S : Sw G A s.heap H locs [(h0, .inr (8, moL ma (va_up (va_up iv 12 (nI vl)) 5 (nI wt)) co)), ((ma 7), .inl (k 0, 1200, .inl (fun i => nI (WK i)))), ((ma 8), .inl (k 0, 1200, .inl (fun i => nI (WF i)))), ((ma 9), .inl (k 0, 1200, .inl (fun i => nI (WA i)))), ((ma 10), .inl (k 0, 1200, .inl (fun i => nI (WB i)))), ((ma 11), .inl (k 0, 1200, .inl (fun i => nI (WN i))))] := S
  refine lv_aload_n hx hb d_Mo_giveOn_10 rfl (lv_at hl 0 rfl) ?_
  refine lv_aload_n hx hb d_Mo_giveOn_11 rfl (lv_at hl 0 rfl) ?_
  refine r_get C K S 0 rfl rfl clOk_Mo 14 (by decide) wf_Mo_41 (v := .ref (ma 8)) rfl d_Mo_giveOn_12 ?_
  refine lv_aload_n hx hb d_Mo_giveOn_15 rfl (lv_at hl 0 rfl) ?_
  refine r_get C K S 0 rfl rfl clOk_Mo 18 (by decide) wf_Mo_143 (v := .int (nI wt)) rfl d_Mo_giveOn_16 ?_
  refine r_iald C K S 2 rfl (i := nI wt) (show vp_in (nI wt) _ from vp_in_nI (n := wt) (by omega) (by decide)) (v := nI (WF wt)) (by rw [nI_clamp (by omega)]) d_Mo_giveOn_19 ?_
  refine r_put C K S 0 rfl rfl clOk_Mo 22 (by decide) wf_Mo_146 rfl (ty := .int) (v := .int (nI (WF wt))) (by decide +kernel) rfl rfl (Nat.le_of_ble_eq_true rfl) (fs' := moL ma (va_up (va_up (va_up iv 12 (nI vl)) 5 (nI wt)) 8 (nI (WF wt))) co) (ws' := [(h0, .inr (8, moL ma (va_up (va_up (va_up iv 12 (nI vl)) 5 (nI wt)) 8 (nI (WF wt))) co)), ((ma 7), .inl (k 0, 1200, .inl (fun i => nI (WK i)))), ((ma 8), .inl (k 0, 1200, .inl (fun i => nI (WF i)))), ((ma 9), .inl (k 0, 1200, .inl (fun i => nI (WA i)))), ((ma 10), .inl (k 0, 1200, .inl (fun i => nI (WB i)))), ((ma 11), .inl (k 0, 1200, .inl (fun i => nI (WN i))))]) rfl rfl d_Mo_giveOn_20 (fun H locs S => ?_)
  refine lv_aload_n hx hb d_Mo_giveOn_23 rfl (lv_at hl 0 rfl) ?_
  refine lv_aload_n hx hb d_Mo_giveOn_24 rfl (lv_at hl 0 rfl) ?_
  refine r_get C K S 0 rfl rfl clOk_Mo 16 (by decide) wf_Mo_47 (v := .ref (ma 10)) rfl d_Mo_giveOn_25 ?_
  refine lv_aload_n hx hb d_Mo_giveOn_28 rfl (lv_at hl 0 rfl) ?_
  refine r_get C K S 0 rfl rfl clOk_Mo 18 (by decide) wf_Mo_143 (v := .int (nI wt)) rfl d_Mo_giveOn_29 ?_
  refine r_iald C K S 4 rfl (i := nI wt) (show vp_in (nI wt) _ from vp_in_nI (n := wt) (by omega) (by decide)) (v := nI (WB wt)) (by rw [nI_clamp (by omega)]) d_Mo_giveOn_32 ?_
  refine r_put C K S 0 rfl rfl clOk_Mo 20 (by decide) wf_Mo_149 rfl (ty := .int) (v := .int (nI (WB wt))) (by decide +kernel) rfl rfl (Nat.le_of_ble_eq_true rfl) (fs' := moL ma (va_up (va_up (va_up (va_up iv 12 (nI vl)) 5 (nI wt)) 8 (nI (WF wt))) 6 (nI (WB wt))) co) (ws' := [(h0, .inr (8, moL ma (va_up (va_up (va_up (va_up iv 12 (nI vl)) 5 (nI wt)) 8 (nI (WF wt))) 6 (nI (WB wt))) co)), ((ma 7), .inl (k 0, 1200, .inl (fun i => nI (WK i)))), ((ma 8), .inl (k 0, 1200, .inl (fun i => nI (WF i)))), ((ma 9), .inl (k 0, 1200, .inl (fun i => nI (WA i)))), ((ma 10), .inl (k 0, 1200, .inl (fun i => nI (WB i)))), ((ma 11), .inl (k 0, 1200, .inl (fun i => nI (WN i))))]) rfl rfl d_Mo_giveOn_33 (fun H locs S => ?_)
  refine lv_aload_n hx hb d_Mo_giveOn_36 rfl (lv_at hl 0 rfl) ?_
  refine lv_aload_n hx hb d_Mo_giveOn_37 rfl (lv_at hl 0 rfl) ?_
  refine r_get C K S 0 rfl rfl clOk_Mo 17 (by decide) wf_Mo_50 (v := .ref (ma 11)) rfl d_Mo_giveOn_38 ?_
  refine lv_aload_n hx hb d_Mo_giveOn_41 rfl (lv_at hl 0 rfl) ?_
  refine r_get C K S 0 rfl rfl clOk_Mo 18 (by decide) wf_Mo_143 (v := .int (nI wt)) rfl d_Mo_giveOn_42 ?_
  refine r_iald C K S 5 rfl (i := nI wt) (show vp_in (nI wt) _ from vp_in_nI (n := wt) (by omega) (by decide)) (v := nI (WN wt)) (by rw [nI_clamp (by omega)]) d_Mo_giveOn_45 ?_
  refine r_put C K S 0 rfl rfl clOk_Mo 21 (by decide) wf_Mo_152 rfl (ty := .int) (v := .int (nI (WN wt))) (by decide +kernel) rfl rfl (Nat.le_of_ble_eq_true rfl) (fs' := moL ma (va_up (va_up (va_up (va_up (va_up iv 12 (nI vl)) 5 (nI wt)) 8 (nI (WF wt))) 6 (nI (WB wt))) 7 (nI (WN wt))) co) (ws' := [(h0, .inr (8, moL ma (va_up (va_up (va_up (va_up (va_up iv 12 (nI vl)) 5 (nI wt)) 8 (nI (WF wt))) 6 (nI (WB wt))) 7 (nI (WN wt))) co)), ((ma 7), .inl (k 0, 1200, .inl (fun i => nI (WK i)))), ((ma 8), .inl (k 0, 1200, .inl (fun i => nI (WF i)))), ((ma 9), .inl (k 0, 1200, .inl (fun i => nI (WA i)))), ((ma 10), .inl (k 0, 1200, .inl (fun i => nI (WB i)))), ((ma 11), .inl (k 0, 1200, .inl (fun i => nI (WN i))))]) rfl rfl d_Mo_giveOn_46 (fun H locs S => ?_)
  refine lv_aload_n hx hb d_Mo_giveOn_49 rfl (lv_at hl 0 rfl) ?_
  refine r_get C K S 0 rfl rfl clOk_Mo 13 (by decide) wf_Mo_38 (v := .ref (ma 7)) rfl d_Mo_giveOn_50 ?_
  refine lv_aload_n hx hb d_Mo_giveOn_53 rfl (lv_at hl 0 rfl) ?_
  refine r_get C K S 0 rfl rfl clOk_Mo 18 (by decide) wf_Mo_143 (v := .int (nI wt)) rfl d_Mo_giveOn_54 ?_
  refine r_iald C K S 1 rfl (i := nI wt) (show vp_in (nI wt) _ from vp_in_nI (n := wt) (by omega) (by decide)) (v := nI (WK wt)) (by rw [nI_clamp (by omega)]) d_Mo_giveOn_57 ?_
  rw [hk]
  refine z_if_ne (a := 0) (tgt := 93) hx hb d_Mo_giveOn_58 (by decide) (by omega) (fun hc1 => False.elim (by omega)) (fun hc1 => ?_)
  refine lv_aload_n hx hb d_Mo_giveOn_61 rfl (lv_at hl 0 rfl) ?_
  refine lv_aload_n hx hb d_Mo_giveOn_62 rfl (lv_at hl 0 rfl) ?_
  refine r_get C K S 0 rfl rfl clOk_Mo 26 (by decide) wf_Mo_168 (v := .int (nI vl)) rfl d_Mo_giveOn_63 ?_
  refine lv_sipush (v := 30000) hx hb d_Mo_giveOn_66 (by decide) ?_
  refine z_icmp_ne (a := vl) (b := 30000) (tgt := 76) hx hb d_Mo_giveOn_69 (by decide) (by omega) (by omega) (fun hc2 => False.elim (by omega)) (fun hc2 => ?_)
  refine lv_iconst (v := 1) hx hb d_Mo_giveOn_72 (by decide) ?_
  refine lv_goto (tgt := 77) hx hb d_Mo_giveOn_73 (by decide) ?_
  refine r_put C K S 0 rfl rfl clOk_Mo 25 (by decide) wf_Mo_158 rfl (ty := .boolean) (v := .int 1) (by decide +kernel) rfl rfl (Nat.le_of_ble_eq_true rfl) (fs' := moL ma (va_up (va_up (va_up (va_up (va_up (va_up iv 12 (nI vl)) 5 (nI wt)) 8 (nI (WF wt))) 6 (nI (WB wt))) 7 (nI (WN wt))) 11 1) co) (ws' := [(h0, .inr (8, moL ma (va_up (va_up (va_up (va_up (va_up (va_up iv 12 (nI vl)) 5 (nI wt)) 8 (nI (WF wt))) 6 (nI (WB wt))) 7 (nI (WN wt))) 11 1) co)), ((ma 7), .inl (k 0, 1200, .inl (fun i => nI (WK i)))), ((ma 8), .inl (k 0, 1200, .inl (fun i => nI (WF i)))), ((ma 9), .inl (k 0, 1200, .inl (fun i => nI (WA i)))), ((ma 10), .inl (k 0, 1200, .inl (fun i => nI (WB i)))), ((ma 11), .inl (k 0, 1200, .inl (fun i => nI (WN i))))]) rfl rfl d_Mo_giveOn_77 (fun H locs S => ?_)
  refine lv_aload_n hx hb d_Mo_giveOn_80 rfl (lv_at hl 0 rfl) ?_
  refine lv_dup hx hb d_Mo_giveOn_81 rfl ?_
  refine r_get C K S 0 rfl rfl clOk_Mo 26 (by decide) wf_Mo_168 (v := .int (nI vl)) rfl d_Mo_giveOn_82 ?_
  refine lv_iconst (v := 1) hx hb d_Mo_giveOn_85 (by decide) ?_
  refine z_iadd (x := nI vl) (y := 1) (v := nI (vl + 1)) hx hb d_Mo_giveOn_86 (nI_add vl 1) ?_
  refine r_put C K S 0 rfl rfl clOk_Mo 26 (by decide) wf_Mo_168 rfl (ty := .int) (v := .int (nI (vl + 1))) (by decide +kernel) rfl rfl (Nat.le_of_ble_eq_true rfl) (fs' := moL ma (va_up (va_up (va_up (va_up (va_up (va_up iv 5 (nI wt)) 8 (nI (WF wt))) 6 (nI (WB wt))) 7 (nI (WN wt))) 11 1) 12 (nI (vl + 1))) co) (ws' := [(h0, .inr (8, moL ma (va_up (va_up (va_up (va_up (va_up (va_up iv 5 (nI wt)) 8 (nI (WF wt))) 6 (nI (WB wt))) 7 (nI (WN wt))) 11 1) 12 (nI (vl + 1))) co)), ((ma 7), .inl (k 0, 1200, .inl (fun i => nI (WK i)))), ((ma 8), .inl (k 0, 1200, .inl (fun i => nI (WF i)))), ((ma 9), .inl (k 0, 1200, .inl (fun i => nI (WA i)))), ((ma 10), .inl (k 0, 1200, .inl (fun i => nI (WB i)))), ((ma 11), .inl (k 0, 1200, .inl (fun i => nI (WN i))))]) rfl rfl d_Mo_giveOn_87 (fun H locs S => ?_)
  refine lv_goto (tgt := 165) hx hb d_Mo_giveOn_90 (by decide) ?_
  exact r_vret C K () trivial (S.sub [0, 1, 2, 3, 4, 5] (by decide) rfl) d_Mo_giveOn_165 (Nat.le_of_ble_eq_true rfl) (Nat.le_of_ble_eq_true rfl)
set_option maxRecDepth 100000 in
set_option maxHeartbeats 16000000 in
/-- Mo_giveOn_1 -/
theorem g_Mo_giveOn_1 (l : Launch) (G : va_G) (k : Nat → ClassId) (h0 : Nat) (s0 : Nat) (wt : Nat) (vl : Nat) (vr : Nat → Int32) (ma : Nat → Nat) (iv : Nat → Int32) (co : Int64) (WK : Nat → Nat) (WF : Nat → Nat) (WA : Nat → Nat) (WB : Nat → Nat) (WN : Nat → Nat) (hwt : wt < 1200) (hvl : vl ≤ 30000) (hk : WK wt = 1) (hb9 : WB wt + WN wt < 1400) : CV l y_Mo_giveOn c_Mo_giveOn 1 { frames := 0, cells := 0, slots := 0, locals := 0 } [.ref h0] G k s0 [(h0, .inr (8, moL ma (va_up (va_up iv 5 (nI (wt + 1))) 12 (nI vl)) co)), ((ma 7), .inl (k 0, 1200, .inl (fun i => nI (WK i)))), ((ma 8), .inl (k 0, 1200, .inl (fun i => nI (WF i)))), ((ma 9), .inl (k 0, 1200, .inl (fun i => nI (WA i)))), ((ma 10), .inl (k 0, 1200, .inl (fun i => nI (WB i)))), ((ma 11), .inl (k 0, 1200, .inl (fun i => nI (WN i)))), ((ma 12), .inl (k 0, 1400, .inl vr))] (fun (u : Unit) => True) (fun u => [(h0, .inr (8, moL ma (va_up (va_up (va_up (va_up (va_up (va_up iv 5 (nI wt)) 8 (nI (WF wt))) 6 (nI (WB wt))) 7 (nI (WN wt + 1))) 9 (nI (WA wt))) 12 (-1)) co)), ((ma 7), .inl (k 0, 1200, .inl (fun i => nI (WK i)))), ((ma 8), .inl (k 0, 1200, .inl (fun i => nI (WF i)))), ((ma 9), .inl (k 0, 1200, .inl (fun i => nI (WA i)))), ((ma 10), .inl (k 0, 1200, .inl (fun i => nI (WB i)))), ((ma 11), .inl (k 0, 1200, .inl (fun i => nI (WN i)))), ((ma 12), .inl (k 0, 1400, .inl (va_up vr (WB wt + WN wt) (nI vl))))]) 0 0 := by
  refine met_start (by decide) (Nat.le_of_ble_eq_true rfl) ?_
  intro p e s m below meth c C K hA hsz S ls hl
  generalize va_A [(h0, .inr (8, moL ma (va_up (va_up iv 5 (nI (wt + 1))) 12 (nI vl)) co)), ((ma 7), .inl (k 0, 1200, .inl (fun i => nI (WK i)))), ((ma 8), .inl (k 0, 1200, .inl (fun i => nI (WF i)))), ((ma 9), .inl (k 0, 1200, .inl (fun i => nI (WA i)))), ((ma 10), .inl (k 0, 1200, .inl (fun i => nI (WB i)))), ((ma 11), .inl (k 0, 1200, .inl (fun i => nI (WN i)))), ((ma 12), .inl (k 0, 1400, .inl vr))] s0 = A at hA S ⊢
  have hx := C.1
  have hb := C.2.1
  have hl : lv_has ls 1 [(0, .ref h0)] := hl
  refine lv_aload_n hx hb d_Mo_giveOn_0 rfl (lv_at hl 0 rfl) ?_
  refine lv_dup hx hb d_Mo_giveOn_1 rfl ?_
  refine r_get C K S 0 rfl rfl clOk_Mo 18 (by decide) wf_Mo_143 (v := .int (nI (wt + 1))) rfl d_Mo_giveOn_2 ?_
  refine lv_iconst (v := 1) hx hb d_Mo_giveOn_5 (by decide) ?_
  refine z_isub (x := nI (wt + 1)) (y := 1) (v := nI (wt + 1 - 1)) hx hb d_Mo_giveOn_6 (pk_sub (a := (wt + 1)) (b := 1) (by omega)) ?_
  refine r_put C K S 0 rfl rfl clOk_Mo 18 (by decide) wf_Mo_143 rfl (ty := .int) (v := .int (nI (wt + 1 - 1))) (by decide +kernel) rfl rfl (Nat.le_of_ble_eq_true rfl) (fs' := moL ma (va_up (va_up iv 12 (nI vl)) 5 (nI (wt + 1 - 1))) co) (ws' := [(h0, .inr (8, moL ma (va_up (va_up iv 12 (nI vl)) 5 (nI (wt + 1 - 1))) co)), ((ma 7), .inl (k 0, 1200, .inl (fun i => nI (WK i)))), ((ma 8), .inl (k 0, 1200, .inl (fun i => nI (WF i)))), ((ma 9), .inl (k 0, 1200, .inl (fun i => nI (WA i)))), ((ma 10), .inl (k 0, 1200, .inl (fun i => nI (WB i)))), ((ma 11), .inl (k 0, 1200, .inl (fun i => nI (WN i)))), ((ma 12), .inl (k 0, 1400, .inl vr))]) rfl rfl d_Mo_giveOn_7 (fun H locs S => ?_)
  have S : Sw G A s.heap H locs [(h0, .inr (8, moL ma (va_up (va_up iv 12 (nI vl)) 5 (nI wt)) co)), ((ma 7), .inl (k 0, 1200, .inl (fun i => nI (WK i)))), ((ma 8), .inl (k 0, 1200, .inl (fun i => nI (WF i)))), ((ma 9), .inl (k 0, 1200, .inl (fun i => nI (WA i)))), ((ma 10), .inl (k 0, 1200, .inl (fun i => nI (WB i)))), ((ma 11), .inl (k 0, 1200, .inl (fun i => nI (WN i)))), ((ma 12), .inl (k 0, 1400, .inl vr))] := S
  refine lv_aload_n hx hb d_Mo_giveOn_10 rfl (lv_at hl 0 rfl) ?_
  refine lv_aload_n hx hb d_Mo_giveOn_11 rfl (lv_at hl 0 rfl) ?_
  refine r_get C K S 0 rfl rfl clOk_Mo 14 (by decide) wf_Mo_41 (v := .ref (ma 8)) rfl d_Mo_giveOn_12 ?_
  refine lv_aload_n hx hb d_Mo_giveOn_15 rfl (lv_at hl 0 rfl) ?_
  refine r_get C K S 0 rfl rfl clOk_Mo 18 (by decide) wf_Mo_143 (v := .int (nI wt)) rfl d_Mo_giveOn_16 ?_
  refine r_iald C K S 2 rfl (i := nI wt) (show vp_in (nI wt) _ from vp_in_nI (n := wt) (by omega) (by decide)) (v := nI (WF wt)) (by rw [nI_clamp (by omega)]) d_Mo_giveOn_19 ?_
  refine r_put C K S 0 rfl rfl clOk_Mo 22 (by decide) wf_Mo_146 rfl (ty := .int) (v := .int (nI (WF wt))) (by decide +kernel) rfl rfl (Nat.le_of_ble_eq_true rfl) (fs' := moL ma (va_up (va_up (va_up iv 12 (nI vl)) 5 (nI wt)) 8 (nI (WF wt))) co) (ws' := [(h0, .inr (8, moL ma (va_up (va_up (va_up iv 12 (nI vl)) 5 (nI wt)) 8 (nI (WF wt))) co)), ((ma 7), .inl (k 0, 1200, .inl (fun i => nI (WK i)))), ((ma 8), .inl (k 0, 1200, .inl (fun i => nI (WF i)))), ((ma 9), .inl (k 0, 1200, .inl (fun i => nI (WA i)))), ((ma 10), .inl (k 0, 1200, .inl (fun i => nI (WB i)))), ((ma 11), .inl (k 0, 1200, .inl (fun i => nI (WN i)))), ((ma 12), .inl (k 0, 1400, .inl vr))]) rfl rfl d_Mo_giveOn_20 (fun H locs S => ?_)
  refine lv_aload_n hx hb d_Mo_giveOn_23 rfl (lv_at hl 0 rfl) ?_
  refine lv_aload_n hx hb d_Mo_giveOn_24 rfl (lv_at hl 0 rfl) ?_
  refine r_get C K S 0 rfl rfl clOk_Mo 16 (by decide) wf_Mo_47 (v := .ref (ma 10)) rfl d_Mo_giveOn_25 ?_
  refine lv_aload_n hx hb d_Mo_giveOn_28 rfl (lv_at hl 0 rfl) ?_
  refine r_get C K S 0 rfl rfl clOk_Mo 18 (by decide) wf_Mo_143 (v := .int (nI wt)) rfl d_Mo_giveOn_29 ?_
  refine r_iald C K S 4 rfl (i := nI wt) (show vp_in (nI wt) _ from vp_in_nI (n := wt) (by omega) (by decide)) (v := nI (WB wt)) (by rw [nI_clamp (by omega)]) d_Mo_giveOn_32 ?_
  refine r_put C K S 0 rfl rfl clOk_Mo 20 (by decide) wf_Mo_149 rfl (ty := .int) (v := .int (nI (WB wt))) (by decide +kernel) rfl rfl (Nat.le_of_ble_eq_true rfl) (fs' := moL ma (va_up (va_up (va_up (va_up iv 12 (nI vl)) 5 (nI wt)) 8 (nI (WF wt))) 6 (nI (WB wt))) co) (ws' := [(h0, .inr (8, moL ma (va_up (va_up (va_up (va_up iv 12 (nI vl)) 5 (nI wt)) 8 (nI (WF wt))) 6 (nI (WB wt))) co)), ((ma 7), .inl (k 0, 1200, .inl (fun i => nI (WK i)))), ((ma 8), .inl (k 0, 1200, .inl (fun i => nI (WF i)))), ((ma 9), .inl (k 0, 1200, .inl (fun i => nI (WA i)))), ((ma 10), .inl (k 0, 1200, .inl (fun i => nI (WB i)))), ((ma 11), .inl (k 0, 1200, .inl (fun i => nI (WN i)))), ((ma 12), .inl (k 0, 1400, .inl vr))]) rfl rfl d_Mo_giveOn_33 (fun H locs S => ?_)
  refine lv_aload_n hx hb d_Mo_giveOn_36 rfl (lv_at hl 0 rfl) ?_
  refine lv_aload_n hx hb d_Mo_giveOn_37 rfl (lv_at hl 0 rfl) ?_
  refine r_get C K S 0 rfl rfl clOk_Mo 17 (by decide) wf_Mo_50 (v := .ref (ma 11)) rfl d_Mo_giveOn_38 ?_
  refine lv_aload_n hx hb d_Mo_giveOn_41 rfl (lv_at hl 0 rfl) ?_
  refine r_get C K S 0 rfl rfl clOk_Mo 18 (by decide) wf_Mo_143 (v := .int (nI wt)) rfl d_Mo_giveOn_42 ?_
  refine r_iald C K S 5 rfl (i := nI wt) (show vp_in (nI wt) _ from vp_in_nI (n := wt) (by omega) (by decide)) (v := nI (WN wt)) (by rw [nI_clamp (by omega)]) d_Mo_giveOn_45 ?_
  refine r_put C K S 0 rfl rfl clOk_Mo 21 (by decide) wf_Mo_152 rfl (ty := .int) (v := .int (nI (WN wt))) (by decide +kernel) rfl rfl (Nat.le_of_ble_eq_true rfl) (fs' := moL ma (va_up (va_up (va_up (va_up (va_up iv 12 (nI vl)) 5 (nI wt)) 8 (nI (WF wt))) 6 (nI (WB wt))) 7 (nI (WN wt))) co) (ws' := [(h0, .inr (8, moL ma (va_up (va_up (va_up (va_up (va_up iv 12 (nI vl)) 5 (nI wt)) 8 (nI (WF wt))) 6 (nI (WB wt))) 7 (nI (WN wt))) co)), ((ma 7), .inl (k 0, 1200, .inl (fun i => nI (WK i)))), ((ma 8), .inl (k 0, 1200, .inl (fun i => nI (WF i)))), ((ma 9), .inl (k 0, 1200, .inl (fun i => nI (WA i)))), ((ma 10), .inl (k 0, 1200, .inl (fun i => nI (WB i)))), ((ma 11), .inl (k 0, 1200, .inl (fun i => nI (WN i)))), ((ma 12), .inl (k 0, 1400, .inl vr))]) rfl rfl d_Mo_giveOn_46 (fun H locs S => ?_)
  refine lv_aload_n hx hb d_Mo_giveOn_49 rfl (lv_at hl 0 rfl) ?_
  refine r_get C K S 0 rfl rfl clOk_Mo 13 (by decide) wf_Mo_38 (v := .ref (ma 7)) rfl d_Mo_giveOn_50 ?_
  refine lv_aload_n hx hb d_Mo_giveOn_53 rfl (lv_at hl 0 rfl) ?_
  refine r_get C K S 0 rfl rfl clOk_Mo 18 (by decide) wf_Mo_143 (v := .int (nI wt)) rfl d_Mo_giveOn_54 ?_
  refine r_iald C K S 1 rfl (i := nI wt) (show vp_in (nI wt) _ from vp_in_nI (n := wt) (by omega) (by decide)) (v := nI (WK wt)) (by rw [nI_clamp (by omega)]) d_Mo_giveOn_57 ?_
  rw [hk]
  refine z_if_ne (a := 1) (tgt := 93) hx hb d_Mo_giveOn_58 (by decide) (by omega) (fun hc1 => ?_) (fun hc1 => False.elim (by omega))
  refine lv_aload_n hx hb d_Mo_giveOn_93 rfl (lv_at hl 0 rfl) ?_
  refine r_get C K S 0 rfl rfl clOk_Mo 13 (by decide) wf_Mo_38 (v := .ref (ma 7)) rfl d_Mo_giveOn_94 ?_
  refine lv_aload_n hx hb d_Mo_giveOn_97 rfl (lv_at hl 0 rfl) ?_
  refine r_get C K S 0 rfl rfl clOk_Mo 18 (by decide) wf_Mo_143 (v := .int (nI wt)) rfl d_Mo_giveOn_98 ?_
  refine r_iald C K S 1 rfl (i := nI wt) (show vp_in (nI wt) _ from vp_in_nI (n := wt) (by omega) (by decide)) (v := nI (WK wt)) (by rw [nI_clamp (by omega)]) d_Mo_giveOn_101 ?_
  rw [hk]
  refine lv_iconst (v := 1) hx hb d_Mo_giveOn_102 (by decide) ?_
  refine z_icmp_ne (a := 1) (b := 1) (tgt := 155) hx hb d_Mo_giveOn_103 (by decide) (by omega) (by omega) (fun hc2 => False.elim (by omega)) (fun hc2 => ?_)
  refine lv_aload_n hx hb d_Mo_giveOn_106 rfl (lv_at hl 0 rfl) ?_
  refine r_get C K S 0 rfl rfl clOk_Mo 19 (by decide) wf_Mo_53 (v := .ref (ma 12)) rfl d_Mo_giveOn_107 ?_
  refine lv_aload_n hx hb d_Mo_giveOn_110 rfl (lv_at hl 0 rfl) ?_
  refine r_get C K S 0 rfl rfl clOk_Mo 20 (by decide) wf_Mo_149 (v := .int (nI (WB wt))) rfl d_Mo_giveOn_111 ?_
  refine lv_aload_n hx hb d_Mo_giveOn_114 rfl (lv_at hl 0 rfl) ?_
  refine r_get C K S 0 rfl rfl clOk_Mo 21 (by decide) wf_Mo_152 (v := .int (nI (WN wt))) rfl d_Mo_giveOn_115 ?_
  refine z_iadd (x := nI (WB wt)) (y := nI (WN wt)) (v := nI (WB wt + WN wt)) hx hb d_Mo_giveOn_118 (nI_add (WB wt) (WN wt)) ?_
  refine lv_aload_n hx hb d_Mo_giveOn_119 rfl (lv_at hl 0 rfl) ?_
  refine r_get C K S 0 rfl rfl clOk_Mo 26 (by decide) wf_Mo_168 (v := .int (nI vl)) rfl d_Mo_giveOn_120 ?_
  refine r_iast C K S 6 rfl (i := nI (WB wt + WN wt)) (x := nI vl) (show vp_in (nI (WB wt + WN wt)) _ from vp_in_nI (n := (WB wt + WN wt)) (by omega) (by decide)) (f' := va_up vr (WB wt + WN wt) (nI vl)) (ws' := [(h0, .inr (8, moL ma (va_up (va_up (va_up (va_up (va_up iv 12 (nI vl)) 5 (nI wt)) 8 (nI (WF wt))) 6 (nI (WB wt))) 7 (nI (WN wt))) co)), ((ma 7), .inl (k 0, 1200, .inl (fun i => nI (WK i)))), ((ma 8), .inl (k 0, 1200, .inl (fun i => nI (WF i)))), ((ma 9), .inl (k 0, 1200, .inl (fun i => nI (WA i)))), ((ma 10), .inl (k 0, 1200, .inl (fun i => nI (WB i)))), ((ma 11), .inl (k 0, 1200, .inl (fun i => nI (WN i)))), ((ma 12), .inl (k 0, 1400, .inl (va_up vr (WB wt + WN wt) (nI vl))))]) (show upd _ (nI (WB wt + WN wt) : Int32).toNatClampNeg (nI vl) = _ from upd_W vr (j := (WB wt + WN wt)) (by omega) (nI vl)) rfl d_Mo_giveOn_123 (fun H locs S => ?_)
  refine lv_aload_n hx hb d_Mo_giveOn_124 rfl (lv_at hl 0 rfl) ?_
  refine lv_dup hx hb d_Mo_giveOn_125 rfl ?_
  refine r_get C K S 0 rfl rfl clOk_Mo 21 (by decide) wf_Mo_152 (v := .int (nI (WN wt))) rfl d_Mo_giveOn_126 ?_
  refine lv_iconst (v := 1) hx hb d_Mo_giveOn_129 (by decide) ?_
  refine z_iadd (x := nI (WN wt)) (y := 1) (v := nI (WN wt + 1)) hx hb d_Mo_giveOn_130 (nI_add (WN wt) 1) ?_
  refine r_put C K S 0 rfl rfl clOk_Mo 21 (by decide) wf_Mo_152 rfl (ty := .int) (v := .int (nI (WN wt + 1))) (by decide +kernel) rfl rfl (Nat.le_of_ble_eq_true rfl) (fs' := moL ma (va_up (va_up (va_up (va_up (va_up iv 12 (nI vl)) 5 (nI wt)) 8 (nI (WF wt))) 6 (nI (WB wt))) 7 (nI (WN wt + 1))) co) (ws' := [(h0, .inr (8, moL ma (va_up (va_up (va_up (va_up (va_up iv 12 (nI vl)) 5 (nI wt)) 8 (nI (WF wt))) 6 (nI (WB wt))) 7 (nI (WN wt + 1))) co)), ((ma 7), .inl (k 0, 1200, .inl (fun i => nI (WK i)))), ((ma 8), .inl (k 0, 1200, .inl (fun i => nI (WF i)))), ((ma 9), .inl (k 0, 1200, .inl (fun i => nI (WA i)))), ((ma 10), .inl (k 0, 1200, .inl (fun i => nI (WB i)))), ((ma 11), .inl (k 0, 1200, .inl (fun i => nI (WN i)))), ((ma 12), .inl (k 0, 1400, .inl (va_up vr (WB wt + WN wt) (nI vl))))]) rfl rfl d_Mo_giveOn_131 (fun H locs S => ?_)
  refine lv_aload_n hx hb d_Mo_giveOn_134 rfl (lv_at hl 0 rfl) ?_
  refine lv_aload_n hx hb d_Mo_giveOn_135 rfl (lv_at hl 0 rfl) ?_
  refine r_get C K S 0 rfl rfl clOk_Mo 15 (by decide) wf_Mo_44 (v := .ref (ma 9)) rfl d_Mo_giveOn_136 ?_
  refine lv_aload_n hx hb d_Mo_giveOn_139 rfl (lv_at hl 0 rfl) ?_
  refine r_get C K S 0 rfl rfl clOk_Mo 18 (by decide) wf_Mo_143 (v := .int (nI wt)) rfl d_Mo_giveOn_140 ?_
  refine r_iald C K S 3 rfl (i := nI wt) (show vp_in (nI wt) _ from vp_in_nI (n := wt) (by omega) (by decide)) (v := nI (WA wt)) (by rw [nI_clamp (by omega)]) d_Mo_giveOn_143 ?_
  refine r_put C K S 0 rfl rfl clOk_Mo 23 (by decide) wf_Mo_162 rfl (ty := .int) (v := .int (nI (WA wt))) (by decide +kernel) rfl rfl (Nat.le_of_ble_eq_true rfl) (fs' := moL ma (va_up (va_up (va_up (va_up (va_up (va_up iv 12 (nI vl)) 5 (nI wt)) 8 (nI (WF wt))) 6 (nI (WB wt))) 7 (nI (WN wt + 1))) 9 (nI (WA wt))) co) (ws' := [(h0, .inr (8, moL ma (va_up (va_up (va_up (va_up (va_up (va_up iv 12 (nI vl)) 5 (nI wt)) 8 (nI (WF wt))) 6 (nI (WB wt))) 7 (nI (WN wt + 1))) 9 (nI (WA wt))) co)), ((ma 7), .inl (k 0, 1200, .inl (fun i => nI (WK i)))), ((ma 8), .inl (k 0, 1200, .inl (fun i => nI (WF i)))), ((ma 9), .inl (k 0, 1200, .inl (fun i => nI (WA i)))), ((ma 10), .inl (k 0, 1200, .inl (fun i => nI (WB i)))), ((ma 11), .inl (k 0, 1200, .inl (fun i => nI (WN i)))), ((ma 12), .inl (k 0, 1400, .inl (va_up vr (WB wt + WN wt) (nI vl))))]) rfl rfl d_Mo_giveOn_144 (fun H locs S => ?_)
  refine lv_aload_n hx hb d_Mo_giveOn_147 rfl (lv_at hl 0 rfl) ?_
  refine lv_iconst (v := (-1)) hx hb d_Mo_giveOn_148 (by decide) ?_
  refine r_put C K S 0 rfl rfl clOk_Mo 26 (by decide) wf_Mo_168 rfl (ty := .int) (v := .int (-1)) (by decide +kernel) rfl rfl (Nat.le_of_ble_eq_true rfl) (fs' := moL ma (va_up (va_up (va_up (va_up (va_up (va_up iv 5 (nI wt)) 8 (nI (WF wt))) 6 (nI (WB wt))) 7 (nI (WN wt + 1))) 9 (nI (WA wt))) 12 (-1)) co) (ws' := [(h0, .inr (8, moL ma (va_up (va_up (va_up (va_up (va_up (va_up iv 5 (nI wt)) 8 (nI (WF wt))) 6 (nI (WB wt))) 7 (nI (WN wt + 1))) 9 (nI (WA wt))) 12 (-1)) co)), ((ma 7), .inl (k 0, 1200, .inl (fun i => nI (WK i)))), ((ma 8), .inl (k 0, 1200, .inl (fun i => nI (WF i)))), ((ma 9), .inl (k 0, 1200, .inl (fun i => nI (WA i)))), ((ma 10), .inl (k 0, 1200, .inl (fun i => nI (WB i)))), ((ma 11), .inl (k 0, 1200, .inl (fun i => nI (WN i)))), ((ma 12), .inl (k 0, 1400, .inl (va_up vr (WB wt + WN wt) (nI vl))))]) rfl rfl d_Mo_giveOn_149 (fun H locs S => ?_)
  refine lv_goto (tgt := 165) hx hb d_Mo_giveOn_152 (by decide) ?_
  exact r_vret C K () trivial (S.sub [0, 1, 2, 3, 4, 5, 6] (by decide) rfl) d_Mo_giveOn_165 (Nat.le_of_ble_eq_true rfl) (Nat.le_of_ble_eq_true rfl)
set_option maxRecDepth 100000 in
set_option maxHeartbeats 16000000 in
/-- Mo_giveOn_2 -/
theorem g_Mo_giveOn_2 (l : Launch) (G : va_G) (k : Nat → ClassId) (h0 : Nat) (s0 : Nat) (wt : Nat) (vl : Nat) (cl : Nat) (ma : Nat → Nat) (iv : Nat → Int32) (co : Int64) (WK : Nat → Nat) (WF : Nat → Nat) (WA : Nat → Nat) (WB : Nat → Nat) (WN : Nat → Nat) (hwt : wt < 1200) (hvl : vl ≤ 30000) (hk : WK wt = 2) (hcl : 1 ≤ cl) : CV l y_Mo_giveOn c_Mo_giveOn 1 { frames := 0, cells := 0, slots := 0, locals := 0 } [.ref h0] G k s0 [(h0, .inr (8, moL ma (va_up (va_up (va_up iv 5 (nI (wt + 1))) 12 (nI vl)) 10 (nI cl)) co)), ((ma 7), .inl (k 0, 1200, .inl (fun i => nI (WK i)))), ((ma 8), .inl (k 0, 1200, .inl (fun i => nI (WF i)))), ((ma 9), .inl (k 0, 1200, .inl (fun i => nI (WA i)))), ((ma 10), .inl (k 0, 1200, .inl (fun i => nI (WB i)))), ((ma 11), .inl (k 0, 1200, .inl (fun i => nI (WN i))))] (fun (u : Unit) => True) (fun u => [(h0, .inr (8, moL ma (va_up (va_up (va_up (va_up (va_up (va_up iv 5 (nI wt)) 8 (nI (WF wt))) 6 (nI (WB wt))) 7 (nI (WN wt))) 10 (nI (cl - 1))) 12 (nI vl)) co)), ((ma 7), .inl (k 0, 1200, .inl (fun i => nI (WK i)))), ((ma 8), .inl (k 0, 1200, .inl (fun i => nI (WF i)))), ((ma 9), .inl (k 0, 1200, .inl (fun i => nI (WA i)))), ((ma 10), .inl (k 0, 1200, .inl (fun i => nI (WB i)))), ((ma 11), .inl (k 0, 1200, .inl (fun i => nI (WN i))))]) 0 0 := by
  refine met_start (by decide) (Nat.le_of_ble_eq_true rfl) ?_
  intro p e s m below meth c C K hA hsz S ls hl
  generalize va_A [(h0, .inr (8, moL ma (va_up (va_up (va_up iv 5 (nI (wt + 1))) 12 (nI vl)) 10 (nI cl)) co)), ((ma 7), .inl (k 0, 1200, .inl (fun i => nI (WK i)))), ((ma 8), .inl (k 0, 1200, .inl (fun i => nI (WF i)))), ((ma 9), .inl (k 0, 1200, .inl (fun i => nI (WA i)))), ((ma 10), .inl (k 0, 1200, .inl (fun i => nI (WB i)))), ((ma 11), .inl (k 0, 1200, .inl (fun i => nI (WN i))))] s0 = A at hA S ⊢
  have hx := C.1
  have hb := C.2.1
  have hl : lv_has ls 1 [(0, .ref h0)] := hl
  refine lv_aload_n hx hb d_Mo_giveOn_0 rfl (lv_at hl 0 rfl) ?_
  refine lv_dup hx hb d_Mo_giveOn_1 rfl ?_
  refine r_get C K S 0 rfl rfl clOk_Mo 18 (by decide) wf_Mo_143 (v := .int (nI (wt + 1))) rfl d_Mo_giveOn_2 ?_
  refine lv_iconst (v := 1) hx hb d_Mo_giveOn_5 (by decide) ?_
  refine z_isub (x := nI (wt + 1)) (y := 1) (v := nI (wt + 1 - 1)) hx hb d_Mo_giveOn_6 (pk_sub (a := (wt + 1)) (b := 1) (by omega)) ?_
  refine r_put C K S 0 rfl rfl clOk_Mo 18 (by decide) wf_Mo_143 rfl (ty := .int) (v := .int (nI (wt + 1 - 1))) (by decide +kernel) rfl rfl (Nat.le_of_ble_eq_true rfl) (fs' := moL ma (va_up (va_up (va_up iv 12 (nI vl)) 10 (nI cl)) 5 (nI (wt + 1 - 1))) co) (ws' := [(h0, .inr (8, moL ma (va_up (va_up (va_up iv 12 (nI vl)) 10 (nI cl)) 5 (nI (wt + 1 - 1))) co)), ((ma 7), .inl (k 0, 1200, .inl (fun i => nI (WK i)))), ((ma 8), .inl (k 0, 1200, .inl (fun i => nI (WF i)))), ((ma 9), .inl (k 0, 1200, .inl (fun i => nI (WA i)))), ((ma 10), .inl (k 0, 1200, .inl (fun i => nI (WB i)))), ((ma 11), .inl (k 0, 1200, .inl (fun i => nI (WN i))))]) rfl rfl d_Mo_giveOn_7 (fun H locs S => ?_)
  have S : Sw G A s.heap H locs [(h0, .inr (8, moL ma (va_up (va_up (va_up iv 12 (nI vl)) 10 (nI cl)) 5 (nI wt)) co)), ((ma 7), .inl (k 0, 1200, .inl (fun i => nI (WK i)))), ((ma 8), .inl (k 0, 1200, .inl (fun i => nI (WF i)))), ((ma 9), .inl (k 0, 1200, .inl (fun i => nI (WA i)))), ((ma 10), .inl (k 0, 1200, .inl (fun i => nI (WB i)))), ((ma 11), .inl (k 0, 1200, .inl (fun i => nI (WN i))))] := S
  refine lv_aload_n hx hb d_Mo_giveOn_10 rfl (lv_at hl 0 rfl) ?_
  refine lv_aload_n hx hb d_Mo_giveOn_11 rfl (lv_at hl 0 rfl) ?_
  refine r_get C K S 0 rfl rfl clOk_Mo 14 (by decide) wf_Mo_41 (v := .ref (ma 8)) rfl d_Mo_giveOn_12 ?_
  refine lv_aload_n hx hb d_Mo_giveOn_15 rfl (lv_at hl 0 rfl) ?_
  refine r_get C K S 0 rfl rfl clOk_Mo 18 (by decide) wf_Mo_143 (v := .int (nI wt)) rfl d_Mo_giveOn_16 ?_
  refine r_iald C K S 2 rfl (i := nI wt) (show vp_in (nI wt) _ from vp_in_nI (n := wt) (by omega) (by decide)) (v := nI (WF wt)) (by rw [nI_clamp (by omega)]) d_Mo_giveOn_19 ?_
  refine r_put C K S 0 rfl rfl clOk_Mo 22 (by decide) wf_Mo_146 rfl (ty := .int) (v := .int (nI (WF wt))) (by decide +kernel) rfl rfl (Nat.le_of_ble_eq_true rfl) (fs' := moL ma (va_up (va_up (va_up (va_up iv 12 (nI vl)) 10 (nI cl)) 5 (nI wt)) 8 (nI (WF wt))) co) (ws' := [(h0, .inr (8, moL ma (va_up (va_up (va_up (va_up iv 12 (nI vl)) 10 (nI cl)) 5 (nI wt)) 8 (nI (WF wt))) co)), ((ma 7), .inl (k 0, 1200, .inl (fun i => nI (WK i)))), ((ma 8), .inl (k 0, 1200, .inl (fun i => nI (WF i)))), ((ma 9), .inl (k 0, 1200, .inl (fun i => nI (WA i)))), ((ma 10), .inl (k 0, 1200, .inl (fun i => nI (WB i)))), ((ma 11), .inl (k 0, 1200, .inl (fun i => nI (WN i))))]) rfl rfl d_Mo_giveOn_20 (fun H locs S => ?_)
  refine lv_aload_n hx hb d_Mo_giveOn_23 rfl (lv_at hl 0 rfl) ?_
  refine lv_aload_n hx hb d_Mo_giveOn_24 rfl (lv_at hl 0 rfl) ?_
  refine r_get C K S 0 rfl rfl clOk_Mo 16 (by decide) wf_Mo_47 (v := .ref (ma 10)) rfl d_Mo_giveOn_25 ?_
  refine lv_aload_n hx hb d_Mo_giveOn_28 rfl (lv_at hl 0 rfl) ?_
  refine r_get C K S 0 rfl rfl clOk_Mo 18 (by decide) wf_Mo_143 (v := .int (nI wt)) rfl d_Mo_giveOn_29 ?_
  refine r_iald C K S 4 rfl (i := nI wt) (show vp_in (nI wt) _ from vp_in_nI (n := wt) (by omega) (by decide)) (v := nI (WB wt)) (by rw [nI_clamp (by omega)]) d_Mo_giveOn_32 ?_
  refine r_put C K S 0 rfl rfl clOk_Mo 20 (by decide) wf_Mo_149 rfl (ty := .int) (v := .int (nI (WB wt))) (by decide +kernel) rfl rfl (Nat.le_of_ble_eq_true rfl) (fs' := moL ma (va_up (va_up (va_up (va_up (va_up iv 12 (nI vl)) 10 (nI cl)) 5 (nI wt)) 8 (nI (WF wt))) 6 (nI (WB wt))) co) (ws' := [(h0, .inr (8, moL ma (va_up (va_up (va_up (va_up (va_up iv 12 (nI vl)) 10 (nI cl)) 5 (nI wt)) 8 (nI (WF wt))) 6 (nI (WB wt))) co)), ((ma 7), .inl (k 0, 1200, .inl (fun i => nI (WK i)))), ((ma 8), .inl (k 0, 1200, .inl (fun i => nI (WF i)))), ((ma 9), .inl (k 0, 1200, .inl (fun i => nI (WA i)))), ((ma 10), .inl (k 0, 1200, .inl (fun i => nI (WB i)))), ((ma 11), .inl (k 0, 1200, .inl (fun i => nI (WN i))))]) rfl rfl d_Mo_giveOn_33 (fun H locs S => ?_)
  refine lv_aload_n hx hb d_Mo_giveOn_36 rfl (lv_at hl 0 rfl) ?_
  refine lv_aload_n hx hb d_Mo_giveOn_37 rfl (lv_at hl 0 rfl) ?_
  refine r_get C K S 0 rfl rfl clOk_Mo 17 (by decide) wf_Mo_50 (v := .ref (ma 11)) rfl d_Mo_giveOn_38 ?_
  refine lv_aload_n hx hb d_Mo_giveOn_41 rfl (lv_at hl 0 rfl) ?_
  refine r_get C K S 0 rfl rfl clOk_Mo 18 (by decide) wf_Mo_143 (v := .int (nI wt)) rfl d_Mo_giveOn_42 ?_
  refine r_iald C K S 5 rfl (i := nI wt) (show vp_in (nI wt) _ from vp_in_nI (n := wt) (by omega) (by decide)) (v := nI (WN wt)) (by rw [nI_clamp (by omega)]) d_Mo_giveOn_45 ?_
  refine r_put C K S 0 rfl rfl clOk_Mo 21 (by decide) wf_Mo_152 rfl (ty := .int) (v := .int (nI (WN wt))) (by decide +kernel) rfl rfl (Nat.le_of_ble_eq_true rfl) (fs' := moL ma (va_up (va_up (va_up (va_up (va_up (va_up iv 12 (nI vl)) 10 (nI cl)) 5 (nI wt)) 8 (nI (WF wt))) 6 (nI (WB wt))) 7 (nI (WN wt))) co) (ws' := [(h0, .inr (8, moL ma (va_up (va_up (va_up (va_up (va_up (va_up iv 12 (nI vl)) 10 (nI cl)) 5 (nI wt)) 8 (nI (WF wt))) 6 (nI (WB wt))) 7 (nI (WN wt))) co)), ((ma 7), .inl (k 0, 1200, .inl (fun i => nI (WK i)))), ((ma 8), .inl (k 0, 1200, .inl (fun i => nI (WF i)))), ((ma 9), .inl (k 0, 1200, .inl (fun i => nI (WA i)))), ((ma 10), .inl (k 0, 1200, .inl (fun i => nI (WB i)))), ((ma 11), .inl (k 0, 1200, .inl (fun i => nI (WN i))))]) rfl rfl d_Mo_giveOn_46 (fun H locs S => ?_)
  refine lv_aload_n hx hb d_Mo_giveOn_49 rfl (lv_at hl 0 rfl) ?_
  refine r_get C K S 0 rfl rfl clOk_Mo 13 (by decide) wf_Mo_38 (v := .ref (ma 7)) rfl d_Mo_giveOn_50 ?_
  refine lv_aload_n hx hb d_Mo_giveOn_53 rfl (lv_at hl 0 rfl) ?_
  refine r_get C K S 0 rfl rfl clOk_Mo 18 (by decide) wf_Mo_143 (v := .int (nI wt)) rfl d_Mo_giveOn_54 ?_
  refine r_iald C K S 1 rfl (i := nI wt) (show vp_in (nI wt) _ from vp_in_nI (n := wt) (by omega) (by decide)) (v := nI (WK wt)) (by rw [nI_clamp (by omega)]) d_Mo_giveOn_57 ?_
  rw [hk]
  refine z_if_ne (a := 2) (tgt := 93) hx hb d_Mo_giveOn_58 (by decide) (by omega) (fun hc1 => ?_) (fun hc1 => False.elim (by omega))
  refine lv_aload_n hx hb d_Mo_giveOn_93 rfl (lv_at hl 0 rfl) ?_
  refine r_get C K S 0 rfl rfl clOk_Mo 13 (by decide) wf_Mo_38 (v := .ref (ma 7)) rfl d_Mo_giveOn_94 ?_
  refine lv_aload_n hx hb d_Mo_giveOn_97 rfl (lv_at hl 0 rfl) ?_
  refine r_get C K S 0 rfl rfl clOk_Mo 18 (by decide) wf_Mo_143 (v := .int (nI wt)) rfl d_Mo_giveOn_98 ?_
  refine r_iald C K S 1 rfl (i := nI wt) (show vp_in (nI wt) _ from vp_in_nI (n := wt) (by omega) (by decide)) (v := nI (WK wt)) (by rw [nI_clamp (by omega)]) d_Mo_giveOn_101 ?_
  rw [hk]
  refine lv_iconst (v := 1) hx hb d_Mo_giveOn_102 (by decide) ?_
  refine z_icmp_ne (a := 2) (b := 1) (tgt := 155) hx hb d_Mo_giveOn_103 (by decide) (by omega) (by omega) (fun hc2 => ?_) (fun hc2 => False.elim (by omega))
  refine lv_aload_n hx hb d_Mo_giveOn_155 rfl (lv_at hl 0 rfl) ?_
  refine lv_dup hx hb d_Mo_giveOn_156 rfl ?_
  refine r_get C K S 0 rfl rfl clOk_Mo 24 (by decide) wf_Mo_155 (v := .int (nI cl)) rfl d_Mo_giveOn_157 ?_
  refine lv_iconst (v := 1) hx hb d_Mo_giveOn_160 (by decide) ?_
  refine z_isub (x := nI cl) (y := 1) (v := nI (cl - 1)) hx hb d_Mo_giveOn_161 (pk_sub (a := cl) (b := 1) (by omega)) ?_
  refine r_put C K S 0 rfl rfl clOk_Mo 24 (by decide) wf_Mo_155 rfl (ty := .int) (v := .int (nI (cl - 1))) (by decide +kernel) rfl rfl (Nat.le_of_ble_eq_true rfl) (fs' := moL ma (va_up (va_up (va_up (va_up (va_up (va_up iv 12 (nI vl)) 5 (nI wt)) 8 (nI (WF wt))) 6 (nI (WB wt))) 7 (nI (WN wt))) 10 (nI (cl - 1))) co) (ws' := [(h0, .inr (8, moL ma (va_up (va_up (va_up (va_up (va_up (va_up iv 12 (nI vl)) 5 (nI wt)) 8 (nI (WF wt))) 6 (nI (WB wt))) 7 (nI (WN wt))) 10 (nI (cl - 1))) co)), ((ma 7), .inl (k 0, 1200, .inl (fun i => nI (WK i)))), ((ma 8), .inl (k 0, 1200, .inl (fun i => nI (WF i)))), ((ma 9), .inl (k 0, 1200, .inl (fun i => nI (WA i)))), ((ma 10), .inl (k 0, 1200, .inl (fun i => nI (WB i)))), ((ma 11), .inl (k 0, 1200, .inl (fun i => nI (WN i))))]) rfl rfl d_Mo_giveOn_162 (fun H locs S => ?_)
  exact r_vret C K () trivial (S.sub [0, 1, 2, 3, 4, 5] (by decide) rfl) d_Mo_giveOn_165 (Nat.le_of_ble_eq_true rfl) (Nat.le_of_ble_eq_true rfl)
end
section
/-! running: a machine over positions, that both sides follow -/
/-- what waits: kind (0 one element more, 1 then, 2 a call), function, where it goes on, its variables, how many -/
abbrev Fr := Nat × Nat × Nat × (Nat → Nat) × Nat
abbrev Ro := Bool × Nat × Nat × Nat
section RUN
variable (wd : Nat → Int32) (tk : Nat → Nat) (nf : Nat) (En : Nat → Nat)
/-- a property that every turn keeps -/
def RLc (P : Option Nat → Nat → Nat → (Nat → Nat) → Nat → List Fr → Nat → Nat → Nat → Ro → Prop) : Prop :=
  (∀ f p env kn st cst cl, P none f p env kn st 20000 cst cl (true, 0, cst, 20000))
  ∧ (∀ f p env kn st stp cst cl r, stp < 20000 → wdF wd f p = 0 → P (some 0) f p env kn st (stp + 1) cst cl r → P none f p env kn st stp cst cl r)
  ∧ (∀ f p env kn st stp cst cl r v, stp < 20000 → wdF wd f p = 1 → wdF wd f (p + 1) = nI v → v < kn → P (some (env v)) f p env kn st (stp + 1) cst cl r → P none f p env kn st stp cst cl r)
  ∧ (∀ f p env kn st stp cst cl r, stp < 20000 → wdF wd f p = 2 → P none f (p + 1) env kn ((0, f, 0, env, kn) :: st) (stp + 1) cst cl r → P none f p env kn st stp cst cl r)
  ∧ (∀ f p env kn st stp cst cl r v, stp < 20000 → wdF wd f p = 3 → wdF wd f (p + 1) = nI v → v < kn → env v = 0 → P none f (p + 2) env kn st (stp + 1) cst cl r → P none f p env kn st stp cst cl r)
  ∧ (∀ f p env kn st stp cst cl r v, stp < 20000 → wdF wd f p = 3 → wdF wd f (p + 1) = nI v → v < kn → 0 < env v → P none f (enF En f (p + 2)) (va_up env kn (env v - 1)) (kn + 1) st (stp + 1) cst cl r → P none f p env kn st stp cst cl r)
  ∧ (∀ f p env kn st stp cst cl r v, stp < 20000 → wdF wd f p = 4 → wdF wd f (p + 1) = nI v → v ≤ 1000 → P none f (p + 2) env kn st (stp + 1) (cst + v) cl r → P none f p env kn st stp cst cl r)
  ∧ (∀ f p env kn st stp cst g (vs : Nat → Nat), stp < 20000 → wdF wd f p = 5 → wdF wd f (p + 1) = nI g → g < nf → (∀ k, k < tk g → wdF wd f (p + 2 + k) = nI (vs k) ∧ vs k < kn) → P none f p env kn st stp cst 60 (true, 0, cst, stp + 1))
  ∧ (∀ f p env kn st stp cst cl r g (vs : Nat → Nat), stp < 20000 → wdF wd f p = 5 → wdF wd f (p + 1) = nI g → g < nf → (∀ k, k < tk g → wdF wd f (p + 2 + k) = nI (vs k) ∧ vs k < kn) → cl < 60 → P none g 0 (fun k => env (vs k)) (tk g) ((2, f, 0, env, kn) :: st) (stp + 1) cst (cl + 1) r → P none f p env kn st stp cst cl r)
  ∧ (∀ f p env kn st stp cst cl r, stp < 20000 → wdF wd f p = 6 → P none f (p + 1) env kn ((1, f, enF En f (p + 1), env, kn) :: st) (stp + 1) cst cl r → P none f p env kn st stp cst cl r)
  ∧ (∀ v f p env kn stp cst cl, P (some v) f p env kn [] stp cst cl (false, v, cst, stp))
  ∧ (∀ f p env kn g a env2 kn2 st stp cst cl, P (some 30000) f p env kn ((0, g, a, env2, kn2) :: st) stp cst cl (true, 0, cst, stp))
  ∧ (∀ v f p env kn g a env2 kn2 st stp cst cl r, v < 30000 → P (some (v + 1)) g a env2 kn2 st stp cst cl r → P (some v) f p env kn ((0, g, a, env2, kn2) :: st) stp cst cl r)
  ∧ (∀ v f p env kn g a env2 kn2 st stp cst cl r, P none g a (va_up env2 kn2 v) (kn2 + 1) st stp cst cl r → P (some v) f p env kn ((1, g, a, env2, kn2) :: st) stp cst cl r)
  ∧ (∀ v f p env kn g a env2 kn2 st stp cst cl r, P (some v) g a env2 kn2 st stp cst (cl - 1) r → P (some v) f p env kn ((2, g, a, env2, kn2) :: st) stp cst cl r)
/-- a run from a state comes to an end -/
def RL (v : Option Nat) (f p : Nat) (env : Nat → Nat) (kn : Nat) (st : List Fr) (stp cst cl : Nat) (r : Ro) : Prop := ∀ P, RLc wd tk nf En P → P v f p env kn st stp cst cl r
def wfP (f fu kn p : Nat) : Prop := ∃ q, wf (wdF wd f) tk nf (enF En f) fu kn p q ∧ q ≤ 200
/-- what waits is in order: c calls are open, d nodes wait in the last -/
def stkO : List Fr → Nat → Nat → Prop
  | [], c, d => c = 1 ∧ d = 0
  | (kd, f, a, env, kn) :: st, c, d => f < nf ∧ (∀ i, i < kn → env i ≤ 30000) ∧ kn ≤ 19 ∧ ((kd = 2 ∧ d = 0 ∧ 2 ≤ c ∧ ∃ d2, d2 ≤ 16 ∧ stkO st (c - 1) d2) ∨ (kd = 0 ∧ ∃ d2, d = d2 + 1 ∧ stkO st c d2) ∨ (kd = 1 ∧ ∃ d2, d = d2 + 1 ∧ stkO st c d2 ∧ ∃ fu, wfP wd tk nf En f fu (kn + 1) a ∧ d2 + fu ≤ 16 ∧ kn + 1 + fu ≤ 19))
def evO (f p : Nat) (env : Nat → Nat) (kn : Nat) (st : List Fr) (cl : Nat) : Prop := ∃ fu d, wfP wd tk nf En f fu kn p ∧ f < nf ∧ stkO wd tk nf En st cl d ∧ d + fu ≤ 16 ∧ kn + fu ≤ 19 ∧ ∀ i, i < kn → env i ≤ 30000
def geO (v : Nat) (st : List Fr) (cl : Nat) : Prop := ∃ d, stkO wd tk nf En st cl d ∧ d ≤ 16 ∧ v ≤ 30000
end RUN
section RUN2
variable {wd : Nat → Int32} {tk : Nat → Nat} {nf : Nat} {En : Nat → Nat}
theorem stkO_len : ∀ {st : List Fr} {c d : Nat}, stkO wd tk nf En st c d → d ≤ 16 → 1 ≤ c ∧ st.length ≤ 17 * (c - 1) + d
  | [], c, d, h, _ => by obtain ⟨a, b⟩ : c = 1 ∧ d = 0 := h; subst a; subst b; exact ⟨Nat.le_refl _, Nat.le_refl _⟩
  | (kd, f, a, env, kn) :: st, c, d, h, hd => by
    obtain ⟨-, -, -, h⟩ := h
    rcases h with ⟨-, h1, h2, d2, h3, h4⟩ | ⟨-, d2, h1, h4⟩ | ⟨-, d2, h1, h4, -⟩
    · have := stkO_len h4 h3
      simp only [List.length_cons]
      omega
    · have := stkO_len h4 (by omega)
      simp only [List.length_cons]
      omega
    · have := stkO_len h4 (by omega)
      simp only [List.length_cons]
      omega
theorem cal_vs {f p kn g : Nat} (h : ∀ k, k < tk g → ∃ v, wdF wd f (p + 2 + k) = nI v ∧ v < kn) : ∃ vs : Nat → Nat, ∀ k, k < tk g → wdF wd f (p + 2 + k) = nI (vs k) ∧ vs k < kn :=
  ⟨fun k => if hk : k < tk g then Classical.choose (h k hk) else 0, fun k hk => by
    show wdF wd f (p + 2 + k) = nI (if hk : k < tk g then Classical.choose (h k hk) else 0) ∧ (if hk : k < tk g then Classical.choose (h k hk) else 0) < kn
    rw [dif_pos hk]
    exact Classical.choose_spec (h k hk)⟩
/-- every run ends -/
theorem rl_ends (hnf : nf ≤ 4) (htk : ∀ g, g < 4 → tk g ≤ 3) (hb : ∀ g, g < nf → wfP wd tk nf En g 16 (tk g) 0) : ∀ (n : Nat), ∀ (stp : Nat), 20000 - stp = n → stp ≤ 20000 →
    (∀ (f p : Nat) (env : Nat → Nat) (kn : Nat) (st : List Fr) (cst cl : Nat), cl ≤ 60 → evO wd tk nf En f p env kn st cl → ∃ r, RL wd tk nf En none f p env kn st stp cst cl r)
    ∧ (∀ (st : List Fr) (v f p : Nat) (env : Nat → Nat) (kn cst cl : Nat), cl ≤ 60 → geO wd tk nf En v st cl → ∃ r, RL wd tk nf En (some v) f p env kn st stp cst cl r) := by
  intro n
  induction n with
  | zero =>
    intro stp h1 h2
    obtain rfl : stp = 20000 := by omega
    have ev : ∀ (f p : Nat) (env : Nat → Nat) (kn : Nat) (st : List Fr) (cst cl : Nat), ∃ r, RL wd tk nf En none f p env kn st 20000 cst cl r := fun f p env kn st cst cl => ⟨(true, 0, cst, 20000), fun P hP => hP.1 f p env kn st cst cl⟩
    refine ⟨fun f p env kn st cst cl _ _ => ev f p env kn st cst cl, ?_⟩
    intro st
    induction st with
    | nil => exact fun v f p env kn cst cl _ _ => ⟨(false, v, cst, 20000), fun P hP => hP.2.2.2.2.2.2.2.2.2.2.1 v f p env kn 20000 cst cl⟩
    | cons x st ih =>
      intro v f p env kn cst cl hc hg
      obtain ⟨kd, g, a, env2, kn2⟩ := x
      obtain ⟨d, ⟨k1, k2, k3, hs⟩, hd, hv⟩ := hg
      rcases hs with ⟨rfl, h1, h2, d2, h3, h4⟩ | ⟨rfl, d2, h1, h4⟩ | ⟨rfl, d2, h1, h4, -⟩
      · obtain ⟨r, hr⟩ := ih v g a env2 kn2 cst (cl - 1) (by omega) ⟨d2, h4, h3, hv⟩
        exact ⟨r, fun P hP => hP.2.2.2.2.2.2.2.2.2.2.2.2.2.2 v f p env kn g a env2 kn2 st 20000 cst cl r (hr P hP)⟩
      · by_cases q : v = 30000
        · subst q
          exact ⟨(true, 0, cst, 20000), fun P hP => hP.2.2.2.2.2.2.2.2.2.2.2.1 f p env kn g a env2 kn2 st 20000 cst cl⟩
        · obtain ⟨r, hr⟩ := ih (v + 1) g a env2 kn2 cst cl hc ⟨d2, h4, by omega, by omega⟩
          exact ⟨r, fun P hP => hP.2.2.2.2.2.2.2.2.2.2.2.2.1 v f p env kn g a env2 kn2 st 20000 cst cl r (by omega) (hr P hP)⟩
      · obtain ⟨r, hr⟩ := ev g a (va_up env2 kn2 v) (kn2 + 1) st cst cl
        exact ⟨r, fun P hP => hP.2.2.2.2.2.2.2.2.2.2.2.2.2.1 v f p env kn g a env2 kn2 st 20000 cst cl r (hr P hP)⟩
  | succ n ihn =>
    intro stp h1 h2
    have hlt : stp < 20000 := by omega
    obtain ⟨iev, igv⟩ := ihn (stp + 1) (by omega) (by omega)
    have ev : ∀ (f p : Nat) (env : Nat → Nat) (kn : Nat) (st : List Fr) (cst cl : Nat), cl ≤ 60 → evO wd tk nf En f p env kn st cl → ∃ r, RL wd tk nf En none f p env kn st stp cst cl r := by
      intro f p env kn st cst cl hc he
      obtain ⟨fu, d, ⟨q, hw, hq⟩, hf, hs, hdf, hkf, henv⟩ := he
      cases fu with
      | zero => exact hw.elim
      | succ fu =>
        obtain ⟨hE, hw⟩ := hw
        rcases hw with ⟨a0, -⟩ | ⟨a0, ⟨v, a1, a2⟩, -⟩ | ⟨a0, a1⟩ | ⟨a0, ⟨v, a1, a2⟩, m, a3, a4⟩ | ⟨a0, ⟨v, a1, a2⟩, a3⟩ | ⟨a0, g, a1, a2, a3, a4⟩ | ⟨a0, m, a3, a4⟩
        · obtain ⟨r, hr⟩ := igv st 0 f p env kn cst cl hc ⟨d, hs, by omega, by omega⟩
          exact ⟨r, fun P hP => hP.2.1 f p env kn st stp cst cl r hlt a0 (hr P hP)⟩
        · obtain ⟨r, hr⟩ := igv st (env v) f p env kn cst cl hc ⟨d, hs, by omega, henv v a2⟩
          exact ⟨r, fun P hP => hP.2.2.1 f p env kn st stp cst cl r v hlt a0 a1 a2 (hr P hP)⟩
        · obtain ⟨r, hr⟩ := iev f (p + 1) env kn ((0, f, 0, env, kn) :: st) cst cl hc ⟨fu, d + 1, ⟨q, a1, hq⟩, hf, ⟨hf, henv, by omega, Or.inr (Or.inl ⟨rfl, d, rfl, hs⟩)⟩, by omega, by omega, henv⟩
          exact ⟨r, fun P hP => hP.2.2.2.1 f p env kn st stp cst cl r hlt a0 (hr P hP)⟩
        · have l1 := wf_lt _ _ _ _ a4
          by_cases z : env v = 0
          · obtain ⟨r, hr⟩ := iev f (p + 2) env kn st cst cl hc ⟨fu, d, ⟨m, a3, by omega⟩, hf, hs, by omega, by omega, henv⟩
            exact ⟨r, fun P hP => hP.2.2.2.2.1 f p env kn st stp cst cl r v hlt a0 a1 a2 z (hr P hP)⟩
          · have hm : enF En f (p + 2) = m := wf_end a3
            obtain ⟨r, hr⟩ := iev f (enF En f (p + 2)) (va_up env kn (env v - 1)) (kn + 1) st cst cl hc ⟨fu, d, ⟨q, by rw [hm]; exact a4, hq⟩, hf, hs, by omega, by omega, fun i hi => by
              have := henv v a2
              by_cases w : i = kn
              · rw [w, va_up_self]; omega
              · rw [va_up_ne _ _ w]; exact henv i (by omega)⟩
            exact ⟨r, fun P hP => hP.2.2.2.2.2.1 f p env kn st stp cst cl r v hlt a0 a1 a2 (by omega) (hr P hP)⟩
        · obtain ⟨r, hr⟩ := iev f (p + 2) env kn st (cst + v) cl hc ⟨fu, d, ⟨q, a3, hq⟩, hf, hs, by omega, by omega, henv⟩
          exact ⟨r, fun P hP => hP.2.2.2.2.2.2.1 f p env kn st stp cst cl r v hlt a0 a1 a2 (hr P hP)⟩
        · obtain ⟨vs, hvs⟩ := cal_vs a4
          by_cases z : cl = 60
          · subst z
            exact ⟨(true, 0, cst, stp + 1), fun P hP => hP.2.2.2.2.2.2.2.1 f p env kn st stp cst g vs hlt a0 a1 a2 hvs⟩
          · have htg := htk g (by omega)
            have hcl := (stkO_len hs (by omega)).1
            obtain ⟨r, hr⟩ := iev g 0 (fun k => env (vs k)) (tk g) ((2, f, 0, env, kn) :: st) cst (cl + 1) (by omega) ⟨16, 0, hb g a2, a2, ⟨hf, henv, by omega, Or.inl ⟨rfl, rfl, by omega, d, by omega, by rw [Nat.add_sub_cancel]; exact hs⟩⟩, by omega, by omega, fun i hi => henv _ (hvs i hi).2⟩
            exact ⟨r, fun P hP => hP.2.2.2.2.2.2.2.2.1 f p env kn st stp cst cl r g vs hlt a0 a1 a2 hvs (by omega) (hr P hP)⟩
        · have l1 := wf_lt _ _ _ _ a4
          have hm : enF En f (p + 1) = m := wf_end a3
          obtain ⟨r, hr⟩ := iev f (p + 1) env kn ((1, f, enF En f (p + 1), env, kn) :: st) cst cl hc ⟨fu, d + 1, ⟨m, a3, by omega⟩, hf, ⟨hf, henv, by omega, Or.inr (Or.inr ⟨rfl, d, rfl, hs, fu, ⟨q, by rw [hm]; exact a4, hq⟩, by omega, by omega⟩)⟩, by omega, by omega, henv⟩
          exact ⟨r, fun P hP => hP.2.2.2.2.2.2.2.2.2.1 f p env kn st stp cst cl r hlt a0 (hr P hP)⟩
    refine ⟨ev, ?_⟩
    intro st
    induction st with
    | nil => exact fun v f p env kn cst cl _ _ => ⟨(false, v, cst, stp), fun P hP => hP.2.2.2.2.2.2.2.2.2.2.1 v f p env kn stp cst cl⟩
    | cons x st ih =>
      intro v f p env kn cst cl hc hg
      obtain ⟨kd, g, a, env2, kn2⟩ := x
      obtain ⟨d, ⟨k1, k2, k3, hs⟩, hd, hv⟩ := hg
      rcases hs with ⟨rfl, h1, h2, d2, h3, h4⟩ | ⟨rfl, d2, h1, h4⟩ | ⟨rfl, d2, h1, h4, fu, h5, h6, h7⟩
      · obtain ⟨r, hr⟩ := ih v g a env2 kn2 cst (cl - 1) (by omega) ⟨d2, h4, h3, hv⟩
        exact ⟨r, fun P hP => hP.2.2.2.2.2.2.2.2.2.2.2.2.2.2 v f p env kn g a env2 kn2 st stp cst cl r (hr P hP)⟩
      · by_cases q : v = 30000
        · subst q
          exact ⟨(true, 0, cst, stp), fun P hP => hP.2.2.2.2.2.2.2.2.2.2.2.1 f p env kn g a env2 kn2 st stp cst cl⟩
        · obtain ⟨r, hr⟩ := ih (v + 1) g a env2 kn2 cst cl hc ⟨d2, h4, by omega, by omega⟩
          exact ⟨r, fun P hP => hP.2.2.2.2.2.2.2.2.2.2.2.2.1 v f p env kn g a env2 kn2 st stp cst cl r (by omega) (hr P hP)⟩
      · obtain ⟨r, hr⟩ := ev g a (va_up env2 kn2 v) (kn2 + 1) st cst cl hc ⟨fu, d2, h5, k1, h4, h6, h7, fun i hi => by
          by_cases w : i = kn2
          · rw [w, va_up_self]; exact hv
          · rw [va_up_ne _ _ w]; exact k2 i (by omega)⟩
        exact ⟨r, fun P hP => hP.2.2.2.2.2.2.2.2.2.2.2.2.2.1 v f p env kn g a env2 kn2 st stp cst cl r (hr P hP)⟩
end RUN2
end
section
/-- what waits, in the arrays; c calls are open, nothing of it lies at t or above -/
def stM (WK WF WA WB WN : Nat → Nat) (vr : Nat → Int32) : List Fr → Nat → Nat → Prop
  | [], _, _ => True
  | (kd, f, a, env, kn) :: st, c, t => WK st.length = kd ∧ WF st.length = f ∧ WA st.length = a ∧ WN st.length = kn ∧ WB st.length + kn ≤ t ∧ (∀ i, i < kn → vr (WB st.length + i) = nI (env i)) ∧ WB st.length ≤ 19 * ((if kd = 2 then c - 1 else c) - 1) ∧ stM WK WF WA WB WN vr st (if kd = 2 then c - 1 else c) (WB st.length + kn)
theorem stM_keep {WK WF WA WB WN WK2 WF2 WA2 WB2 WN2 : Nat → Nat} {vr vr2 : Nat → Int32} : ∀ {st : List Fr} {c t t2 : Nat}, (∀ i, i < st.length → WK2 i = WK i ∧ WF2 i = WF i ∧ WA2 i = WA i ∧ WB2 i = WB i ∧ WN2 i = WN i) → (∀ i, i < t → vr2 i = vr i) → t ≤ t2 → stM WK WF WA WB WN vr st c t → stM WK2 WF2 WA2 WB2 WN2 vr2 st c t2
  | [], _, _, _, _, _, _, _ => trivial
  | (kd, f, a, env, kn) :: st, c, t, t2, h1, h2, h3, h => by
    obtain ⟨a1, a2, a3, a4, a5, a6, a7, a8⟩ := h
    obtain ⟨b1, b2, b3, b4, b5⟩ := h1 st.length (by simp)
    refine ⟨b1.trans a1, b2.trans a2, b3.trans a3, b5.trans a4, by rw [b4]; omega, fun i hi => by rw [b4, h2 _ (by omega)]; exact a6 i hi, by rw [b4]; exact a7, ?_⟩
    rw [b4]
    exact stM_keep (fun i hi => h1 i (by simp only [List.length_cons]; omega)) (fun i hi => h2 i (by omega)) (Nat.le_refl _) a8
theorem stM_pop {WK WF WA WB WN : Nat → Nat} {vr : Nat → Int32} {kd f a kn c t : Nat} {env : Nat → Nat} {st : List Fr} (h : stM WK WF WA WB WN vr ((kd, f, a, env, kn) :: st) c t) : WK st.length = kd ∧ WF st.length = f ∧ WA st.length = a ∧ WN st.length = kn ∧ WB st.length + kn ≤ t ∧ (∀ i, i < kn → vr (WB st.length + i) = nI (env i)) ∧ WB st.length ≤ 19 * ((if kd = 2 then c - 1 else c) - 1) ∧ stM WK WF WA WB WN vr st (if kd = 2 then c - 1 else c) (WB st.length + kn) := h
theorem stM_push {WK WF WA WB WN : Nat → Nat} {vr vr2 : Nat → Int32} {kd f a kn c c2 bs t2 : Nat} {env : Nat → Nat} {st : List Fr} (h : stM WK WF WA WB WN vr st c2 (bs + kn)) (hc : (if kd = 2 then c - 1 else c) = c2) (hb : bs ≤ 19 * (c2 - 1)) (he : ∀ i, i < kn → vr (bs + i) = nI (env i)) (hv : ∀ i, i < bs + kn → vr2 i = vr i) (ht : bs + kn ≤ t2) : stM (va_up WK st.length kd) (va_up WF st.length f) (va_up WA st.length a) (va_up WB st.length bs) (va_up WN st.length kn) vr2 ((kd, f, a, env, kn) :: st) c t2 := by
  refine ⟨va_up_self _ _ _, va_up_self _ _ _, va_up_self _ _ _, va_up_self _ _ _, by rw [va_up_self]; exact ht, fun i hi => by rw [va_up_self, hv _ (by omega)]; exact he i hi, by rw [va_up_self, hc]; exact hb, ?_⟩
  rw [va_up_self, hc]
  exact stM_keep (fun i hi => ⟨va_up_ne _ _ (by omega), va_up_ne _ _ (by omega), va_up_ne _ _ (by omega), va_up_ne _ _ (by omega), va_up_ne _ _ (by omega)⟩) hv (Nat.le_refl _) h
def rsI (wd : Nat → Int32) (tk : Nat → Nat) (nf : Nat) (En : Nat → Nat) (f p : Nat) (env : Nat → Nat) (kn : Nat) (st : List Fr) (cl : Nat) : Option Nat → Prop
  | none => evO wd tk nf En f p env kn st cl
  | some x => geO wd tk nf En x st cl
theorem rs_len {wd : Nat → Int32} {tk : Nat → Nat} {nf : Nat} {En : Nat → Nat} {f p kn cl : Nat} {env : Nat → Nat} {st : List Fr} {v : Option Nat} (h : rsI wd tk nf En f p env kn st cl v) (hc : cl ≤ 60) : 1 ≤ cl ∧ st.length ≤ 1100 := by
  cases v with
  | none => obtain ⟨fu, d, h1, h2, h3, h4, h5, h6⟩ := h; have := stkO_len h3 (by omega); omega
  | some x => obtain ⟨d, h3, h4, h5⟩ := h; have := stkO_len h3 h4; omega
theorem en_up {vr : Nat → Int32} {bs kn v : Nat} {env : Nat → Nat} (h : ∀ i, i < kn → vr (bs + i) = nI (env i)) : ∀ i, i < kn + 1 → va_up vr (bs + kn) (nI v) (bs + i) = nI (va_up env kn v i) := by
  intro i hi
  by_cases q : i = kn
  · rw [q, va_up_self, va_up_self]
  · rw [va_up_ne _ _ q, va_up_ne _ _ (by omega)]; exact h i (by omega)
theorem env_up {kn v : Nat} {env : Nat → Nat} (h : ∀ i, i < kn → env i ≤ 30000) (hv : v ≤ 30000) : ∀ i, i < kn + 1 → va_up env kn v i ≤ 30000 := by
  intro i hi
  by_cases q : i = kn
  · rw [q, va_up_self]; exact hv
  · rw [va_up_ne _ _ q]; exact h i (by omega)
section WFK
variable {W : Nat → Int32} {tk : Nat → Nat} {nf : Nat} {E : Nat → Nat} {fu kn p q : Nat}
theorem wf_1 (h : wf W tk nf E fu kn p q) (hk : W p = 1) : p + 2 = q := by
  cases fu with
  | zero => exact h.elim
  | succ fu =>
    obtain ⟨-, h⟩ := h
    rcases h with h | h | h | h | h | h | h
    · rw [hk] at h; exact absurd h.1 (by decide)
    · exact h.2.2.symm
    · rw [hk] at h; exact absurd h.1 (by decide)
    · rw [hk] at h; exact absurd h.1 (by decide)
    · rw [hk] at h; exact absurd h.1 (by decide)
    · rw [hk] at h; exact absurd h.1 (by decide)
    · rw [hk] at h; exact absurd h.1 (by decide)
theorem wf_2 (h : wf W tk nf E fu kn p q) (hk : W p = 2) : ∃ fu2, fu = fu2 + 1 ∧ wf W tk nf E fu2 kn (p + 1) q := by
  cases fu with
  | zero => exact h.elim
  | succ fu =>
    obtain ⟨-, h⟩ := h
    rcases h with h | h | h | h | h | h | h
    · rw [hk] at h; exact absurd h.1 (by decide)
    · rw [hk] at h; exact absurd h.1 (by decide)
    · exact ⟨fu, rfl, h.2⟩
    · rw [hk] at h; exact absurd h.1 (by decide)
    · rw [hk] at h; exact absurd h.1 (by decide)
    · rw [hk] at h; exact absurd h.1 (by decide)
    · rw [hk] at h; exact absurd h.1 (by decide)
theorem wf_3 (h : wf W tk nf E fu kn p q) (hk : W p = 3) : ∃ fu2 m, fu = fu2 + 1 ∧ wf W tk nf E fu2 kn (p + 2) m ∧ wf W tk nf E fu2 (kn + 1) m q := by
  cases fu with
  | zero => exact h.elim
  | succ fu =>
    obtain ⟨-, h⟩ := h
    rcases h with h | h | h | h | h | h | h
    · rw [hk] at h; exact absurd h.1 (by decide)
    · rw [hk] at h; exact absurd h.1 (by decide)
    · rw [hk] at h; exact absurd h.1 (by decide)
    · obtain ⟨-, -, m, a, b⟩ := h; exact ⟨fu, m, rfl, a, b⟩
    · rw [hk] at h; exact absurd h.1 (by decide)
    · rw [hk] at h; exact absurd h.1 (by decide)
    · rw [hk] at h; exact absurd h.1 (by decide)
theorem wf_4 (h : wf W tk nf E fu kn p q) (hk : W p = 4) : ∃ fu2, fu = fu2 + 1 ∧ wf W tk nf E fu2 kn (p + 2) q := by
  cases fu with
  | zero => exact h.elim
  | succ fu =>
    obtain ⟨-, h⟩ := h
    rcases h with h | h | h | h | h | h | h
    · rw [hk] at h; exact absurd h.1 (by decide)
    · rw [hk] at h; exact absurd h.1 (by decide)
    · rw [hk] at h; exact absurd h.1 (by decide)
    · rw [hk] at h; exact absurd h.1 (by decide)
    · exact ⟨fu, rfl, h.2.2⟩
    · rw [hk] at h; exact absurd h.1 (by decide)
    · rw [hk] at h; exact absurd h.1 (by decide)
theorem wf_5 (hnf : nf ≤ 4) (h : wf W tk nf E fu kn p q) (hk : W p = 5) {g : Nat} (hg1 : W (p + 1) = nI g) (hg2 : g < nf) : q = p + 2 + tk g := by
  cases fu with
  | zero => exact h.elim
  | succ fu =>
    obtain ⟨-, h⟩ := h
    rcases h with h | h | h | h | h | h | h
    · rw [hk] at h; exact absurd h.1 (by decide)
    · rw [hk] at h; exact absurd h.1 (by decide)
    · rw [hk] at h; exact absurd h.1 (by decide)
    · rw [hk] at h; exact absurd h.1 (by decide)
    · rw [hk] at h; exact absurd h.1 (by decide)
    · obtain ⟨-, g2, a, b, c9, -⟩ := h; have e : g2 = g := by { have := nI_clamp (n := g2) (by omega); rw [← a, hg1, nI_clamp (by omega)] at this; omega }; rw [← e]; exact c9
    · rw [hk] at h; exact absurd h.1 (by decide)
theorem wf_6 (h : wf W tk nf E fu kn p q) (hk : W p = 6) : ∃ fu2 m, fu = fu2 + 1 ∧ wf W tk nf E fu2 kn (p + 1) m ∧ wf W tk nf E fu2 (kn + 1) m q := by
  cases fu with
  | zero => exact h.elim
  | succ fu =>
    obtain ⟨-, h⟩ := h
    rcases h with h | h | h | h | h | h | h
    · rw [hk] at h; exact absurd h.1 (by decide)
    · rw [hk] at h; exact absurd h.1 (by decide)
    · rw [hk] at h; exact absurd h.1 (by decide)
    · rw [hk] at h; exact absurd h.1 (by decide)
    · rw [hk] at h; exact absurd h.1 (by decide)
    · rw [hk] at h; exact absurd h.1 (by decide)
    · obtain ⟨-, m, a, b⟩ := h; exact ⟨fu, m, rfl, a, b⟩
end WFK
theorem nn_3 {x : Int32} (h : ¬ x < 0) (h2 : x ≤ 3000) : x.toNatClampNeg ≤ 3000 := by
  rw [Int32.lt_iff_toInt_lt, show (0 : Int32).toInt = 0 by decide] at h
  rw [Int32.le_iff_toInt_le, show (3000 : Int32).toInt = 3000 by decide] at h2
  have h4 : x.toNatClampNeg = x.toInt.toNat := rfl
  omega
theorem d_Mo_run_0 : decode c_Mo_run 0 = .ok (.aload_n 0, 1) := by decide +kernel
theorem d_Mo_run_1 : decode c_Mo_run 1 = .ok (.iload_n 1, 1) := by decide +kernel
theorem d_Mo_run_2 : decode c_Mo_run 2 = .ok (.invokevirtual 114, 3) := by decide +kernel
theorem d_Mo_run_5 : decode c_Mo_run 5 = .ok (.ifCond .eq 10, 3) := by decide +kernel
theorem d_Mo_run_8 : decode c_Mo_run 8 = .ok (.aload_n 0, 1) := by decide +kernel
theorem d_Mo_run_9 : decode c_Mo_run 9 = .ok (.invokevirtual 182, 3) := by decide +kernel
theorem d_Mo_run_12 : decode c_Mo_run 12 = .ok (.ifCond .ne 5, 3) := by decide +kernel
theorem d_Mo_run_15 : decode c_Mo_run 15 = .ok (.iconst (-1), 1) := by decide +kernel
theorem d_Mo_run_16 : decode c_Mo_run 16 = .ok (.ireturn, 1) := by decide +kernel
theorem d_Mo_run_17 : decode c_Mo_run 17 = .ok (.iconst 0, 1) := by decide +kernel
theorem d_Mo_run_18 : decode c_Mo_run 18 = .ok (.istore 5, 2) := by decide +kernel
theorem d_Mo_run_20 : decode c_Mo_run 20 = .ok (.iload 5, 2) := by decide +kernel
theorem d_Mo_run_22 : decode c_Mo_run 22 = .ok (.aload_n 0, 1) := by decide +kernel
theorem d_Mo_run_23 : decode c_Mo_run 23 = .ok (.getfield 9, 3) := by decide +kernel
theorem d_Mo_run_26 : decode c_Mo_run 26 = .ok (.iload_n 1, 1) := by decide +kernel
theorem d_Mo_run_27 : decode c_Mo_run 27 = .ok (.iaload, 1) := by decide +kernel
theorem d_Mo_run_28 : decode c_Mo_run 28 = .ok (.if_icmp .ge 47, 3) := by decide +kernel
theorem d_Mo_run_31 : decode c_Mo_run 31 = .ok (.iload 5, 2) := by decide +kernel
theorem d_Mo_run_33 : decode c_Mo_run 33 = .ok (.ifCond .ne 7, 3) := by decide +kernel
theorem d_Mo_run_36 : decode c_Mo_run 36 = .ok (.iload_n 2, 1) := by decide +kernel
theorem d_Mo_run_37 : decode c_Mo_run 37 = .ok (.goto 15, 3) := by decide +kernel
theorem d_Mo_run_40 : decode c_Mo_run 40 = .ok (.iload 5, 2) := by decide +kernel
theorem d_Mo_run_42 : decode c_Mo_run 42 = .ok (.iconst 1, 1) := by decide +kernel
theorem d_Mo_run_43 : decode c_Mo_run 43 = .ok (.if_icmp .ne 7, 3) := by decide +kernel
theorem d_Mo_run_46 : decode c_Mo_run 46 = .ok (.iload_n 3, 1) := by decide +kernel
theorem d_Mo_run_47 : decode c_Mo_run 47 = .ok (.goto 5, 3) := by decide +kernel
theorem d_Mo_run_50 : decode c_Mo_run 50 = .ok (.iload 4, 2) := by decide +kernel
theorem d_Mo_run_52 : decode c_Mo_run 52 = .ok (.istore 6, 2) := by decide +kernel
theorem d_Mo_run_54 : decode c_Mo_run 54 = .ok (.iload 6, 2) := by decide +kernel
theorem d_Mo_run_56 : decode c_Mo_run 56 = .ok (.ifCond .lt 11, 3) := by decide +kernel
theorem d_Mo_run_59 : decode c_Mo_run 59 = .ok (.iload 6, 2) := by decide +kernel
theorem d_Mo_run_61 : decode c_Mo_run 61 = .ok (.sipush 3000, 3) := by decide +kernel
theorem d_Mo_run_64 : decode c_Mo_run 64 = .ok (.if_icmp .le 5, 3) := by decide +kernel
theorem d_Mo_run_67 : decode c_Mo_run 67 = .ok (.iconst (-1), 1) := by decide +kernel
theorem d_Mo_run_68 : decode c_Mo_run 68 = .ok (.ireturn, 1) := by decide +kernel
theorem d_Mo_run_69 : decode c_Mo_run 69 = .ok (.iinc 5 1, 3) := by decide +kernel
theorem d_Mo_run_72 : decode c_Mo_run 72 = .ok (.goto (-52), 3) := by decide +kernel
theorem d_Mo_run_75 : decode c_Mo_run 75 = .ok (.aload_n 0, 1) := by decide +kernel
theorem d_Mo_run_76 : decode c_Mo_run 76 = .ok (.getfield 53, 3) := by decide +kernel
theorem d_Mo_run_79 : decode c_Mo_run 79 = .ok (.iconst 0, 1) := by decide +kernel
theorem d_Mo_run_80 : decode c_Mo_run 80 = .ok (.iload_n 2, 1) := by decide +kernel
theorem d_Mo_run_81 : decode c_Mo_run 81 = .ok (.iastore, 1) := by decide +kernel
theorem d_Mo_run_82 : decode c_Mo_run 82 = .ok (.aload_n 0, 1) := by decide +kernel
theorem d_Mo_run_83 : decode c_Mo_run 83 = .ok (.getfield 53, 3) := by decide +kernel
theorem d_Mo_run_86 : decode c_Mo_run 86 = .ok (.iconst 1, 1) := by decide +kernel
theorem d_Mo_run_87 : decode c_Mo_run 87 = .ok (.iload_n 3, 1) := by decide +kernel
theorem d_Mo_run_88 : decode c_Mo_run 88 = .ok (.iastore, 1) := by decide +kernel
theorem d_Mo_run_89 : decode c_Mo_run 89 = .ok (.aload_n 0, 1) := by decide +kernel
theorem d_Mo_run_90 : decode c_Mo_run 90 = .ok (.getfield 53, 3) := by decide +kernel
theorem d_Mo_run_93 : decode c_Mo_run 93 = .ok (.iconst 2, 1) := by decide +kernel
theorem d_Mo_run_94 : decode c_Mo_run 94 = .ok (.iload 4, 2) := by decide +kernel
theorem d_Mo_run_96 : decode c_Mo_run 96 = .ok (.iastore, 1) := by decide +kernel
theorem d_Mo_run_97 : decode c_Mo_run 97 = .ok (.aload_n 0, 1) := by decide +kernel
theorem d_Mo_run_98 : decode c_Mo_run 98 = .ok (.lconst 0, 1) := by decide +kernel
theorem d_Mo_run_99 : decode c_Mo_run 99 = .ok (.putfield 175, 3) := by decide +kernel
theorem d_Mo_run_102 : decode c_Mo_run 102 = .ok (.aload_n 0, 1) := by decide +kernel
theorem d_Mo_run_103 : decode c_Mo_run 103 = .ok (.iconst 0, 1) := by decide +kernel
theorem d_Mo_run_104 : decode c_Mo_run 104 = .ok (.putfield 165, 3) := by decide +kernel
theorem d_Mo_run_107 : decode c_Mo_run 107 = .ok (.aload_n 0, 1) := by decide +kernel
theorem d_Mo_run_108 : decode c_Mo_run 108 = .ok (.bipush (-2), 2) := by decide +kernel
theorem d_Mo_run_110 : decode c_Mo_run 110 = .ok (.putfield 35, 3) := by decide +kernel
theorem d_Mo_run_113 : decode c_Mo_run 113 = .ok (.aload_n 0, 1) := by decide +kernel
theorem d_Mo_run_114 : decode c_Mo_run 114 = .ok (.iconst 0, 1) := by decide +kernel
theorem d_Mo_run_115 : decode c_Mo_run 115 = .ok (.putfield 155, 3) := by decide +kernel
theorem d_Mo_run_118 : decode c_Mo_run 118 = .ok (.aload_n 0, 1) := by decide +kernel
theorem d_Mo_run_119 : decode c_Mo_run 119 = .ok (.iconst 0, 1) := by decide +kernel
theorem d_Mo_run_120 : decode c_Mo_run 120 = .ok (.putfield 143, 3) := by decide +kernel
theorem d_Mo_run_123 : decode c_Mo_run 123 = .ok (.aload_n 0, 1) := by decide +kernel
theorem d_Mo_run_124 : decode c_Mo_run 124 = .ok (.iconst 0, 1) := by decide +kernel
theorem d_Mo_run_125 : decode c_Mo_run 125 = .ok (.putfield 158, 3) := by decide +kernel
theorem d_Mo_run_128 : decode c_Mo_run 128 = .ok (.aload_n 0, 1) := by decide +kernel
theorem d_Mo_run_129 : decode c_Mo_run 129 = .ok (.iconst (-1), 1) := by decide +kernel
theorem d_Mo_run_130 : decode c_Mo_run 130 = .ok (.putfield 168, 3) := by decide +kernel
theorem d_Mo_run_133 : decode c_Mo_run 133 = .ok (.aload_n 0, 1) := by decide +kernel
theorem d_Mo_run_134 : decode c_Mo_run 134 = .ok (.iload_n 1, 1) := by decide +kernel
theorem d_Mo_run_135 : decode c_Mo_run 135 = .ok (.iconst 0, 1) := by decide +kernel
theorem d_Mo_run_136 : decode c_Mo_run 136 = .ok (.invokevirtual 179, 3) := by decide +kernel
theorem d_Mo_run_139 : decode c_Mo_run 139 = .ok (.aload_n 0, 1) := by decide +kernel
theorem d_Mo_run_140 : decode c_Mo_run 140 = .ok (.getfield 158, 3) := by decide +kernel
theorem d_Mo_run_143 : decode c_Mo_run 143 = .ok (.ifCond .ne 38, 3) := by decide +kernel
theorem d_Mo_run_146 : decode c_Mo_run 146 = .ok (.aload_n 0, 1) := by decide +kernel
theorem d_Mo_run_147 : decode c_Mo_run 147 = .ok (.getfield 168, 3) := by decide +kernel
theorem d_Mo_run_150 : decode c_Mo_run 150 = .ok (.ifCond .lt 10, 3) := by decide +kernel
theorem d_Mo_run_153 : decode c_Mo_run 153 = .ok (.aload_n 0, 1) := by decide +kernel
theorem d_Mo_run_154 : decode c_Mo_run 154 = .ok (.getfield 143, 3) := by decide +kernel
theorem d_Mo_run_157 : decode c_Mo_run 157 = .ok (.ifCond .le 24, 3) := by decide +kernel
theorem d_Mo_run_160 : decode c_Mo_run 160 = .ok (.aload_n 0, 1) := by decide +kernel
theorem d_Mo_run_161 : decode c_Mo_run 161 = .ok (.getfield 168, 3) := by decide +kernel
theorem d_Mo_run_164 : decode c_Mo_run 164 = .ok (.ifCond .ge 10, 3) := by decide +kernel
theorem d_Mo_run_167 : decode c_Mo_run 167 = .ok (.aload_n 0, 1) := by decide +kernel
theorem d_Mo_run_168 : decode c_Mo_run 168 = .ok (.invokevirtual 186, 3) := by decide +kernel
theorem d_Mo_run_171 : decode c_Mo_run 171 = .ok (.goto (-32), 3) := by decide +kernel
theorem d_Mo_run_174 : decode c_Mo_run 174 = .ok (.aload_n 0, 1) := by decide +kernel
theorem d_Mo_run_175 : decode c_Mo_run 175 = .ok (.invokevirtual 189, 3) := by decide +kernel
theorem d_Mo_run_178 : decode c_Mo_run 178 = .ok (.goto (-39), 3) := by decide +kernel
theorem d_Mo_run_181 : decode c_Mo_run 181 = .ok (.aload_n 0, 1) := by decide +kernel
theorem d_Mo_run_182 : decode c_Mo_run 182 = .ok (.getfield 158, 3) := by decide +kernel
theorem d_Mo_run_185 : decode c_Mo_run 185 = .ok (.ifCond .eq 5, 3) := by decide +kernel
theorem d_Mo_run_188 : decode c_Mo_run 188 = .ok (.iconst 1, 1) := by decide +kernel
theorem d_Mo_run_189 : decode c_Mo_run 189 = .ok (.ireturn, 1) := by decide +kernel
theorem d_Mo_run_190 : decode c_Mo_run 190 = .ok (.aload_n 0, 1) := by decide +kernel
theorem d_Mo_run_191 : decode c_Mo_run 191 = .ok (.aload_n 0, 1) := by decide +kernel
theorem d_Mo_run_192 : decode c_Mo_run 192 = .ok (.getfield 168, 3) := by decide +kernel
theorem d_Mo_run_195 : decode c_Mo_run 195 = .ok (.putfield 35, 3) := by decide +kernel
theorem d_Mo_run_198 : decode c_Mo_run 198 = .ok (.iconst 0, 1) := by decide +kernel
theorem d_Mo_run_199 : decode c_Mo_run 199 = .ok (.ireturn, 1) := by decide +kernel
end
