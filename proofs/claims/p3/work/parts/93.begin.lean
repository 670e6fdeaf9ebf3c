theorem d_Mo_wait_0 : decode c_Mo_wait 0 = .ok (.aload_n 0, 1) := by decide +kernel
theorem d_Mo_wait_1 : decode c_Mo_wait 1 = .ok (.getfield 38, 3) := by decide +kernel
theorem d_Mo_wait_4 : decode c_Mo_wait 4 = .ok (.aload_n 0, 1) := by decide +kernel
theorem d_Mo_wait_5 : decode c_Mo_wait 5 = .ok (.getfield 143, 3) := by decide +kernel
theorem d_Mo_wait_8 : decode c_Mo_wait 8 = .ok (.iload_n 1, 1) := by decide +kernel
theorem d_Mo_wait_9 : decode c_Mo_wait 9 = .ok (.iastore, 1) := by decide +kernel
theorem d_Mo_wait_10 : decode c_Mo_wait 10 = .ok (.aload_n 0, 1) := by decide +kernel
theorem d_Mo_wait_11 : decode c_Mo_wait 11 = .ok (.getfield 41, 3) := by decide +kernel
theorem d_Mo_wait_14 : decode c_Mo_wait 14 = .ok (.aload_n 0, 1) := by decide +kernel
theorem d_Mo_wait_15 : decode c_Mo_wait 15 = .ok (.getfield 143, 3) := by decide +kernel
theorem d_Mo_wait_18 : decode c_Mo_wait 18 = .ok (.aload_n 0, 1) := by decide +kernel
theorem d_Mo_wait_19 : decode c_Mo_wait 19 = .ok (.getfield 146, 3) := by decide +kernel
theorem d_Mo_wait_22 : decode c_Mo_wait 22 = .ok (.iastore, 1) := by decide +kernel
theorem d_Mo_wait_23 : decode c_Mo_wait 23 = .ok (.aload_n 0, 1) := by decide +kernel
theorem d_Mo_wait_24 : decode c_Mo_wait 24 = .ok (.getfield 44, 3) := by decide +kernel
theorem d_Mo_wait_27 : decode c_Mo_wait 27 = .ok (.aload_n 0, 1) := by decide +kernel
theorem d_Mo_wait_28 : decode c_Mo_wait 28 = .ok (.getfield 143, 3) := by decide +kernel
theorem d_Mo_wait_31 : decode c_Mo_wait 31 = .ok (.iload_n 2, 1) := by decide +kernel
theorem d_Mo_wait_32 : decode c_Mo_wait 32 = .ok (.iastore, 1) := by decide +kernel
theorem d_Mo_wait_33 : decode c_Mo_wait 33 = .ok (.aload_n 0, 1) := by decide +kernel
theorem d_Mo_wait_34 : decode c_Mo_wait 34 = .ok (.getfield 47, 3) := by decide +kernel
theorem d_Mo_wait_37 : decode c_Mo_wait 37 = .ok (.aload_n 0, 1) := by decide +kernel
theorem d_Mo_wait_38 : decode c_Mo_wait 38 = .ok (.getfield 143, 3) := by decide +kernel
theorem d_Mo_wait_41 : decode c_Mo_wait 41 = .ok (.aload_n 0, 1) := by decide +kernel
theorem d_Mo_wait_42 : decode c_Mo_wait 42 = .ok (.getfield 149, 3) := by decide +kernel
theorem d_Mo_wait_45 : decode c_Mo_wait 45 = .ok (.iastore, 1) := by decide +kernel
theorem d_Mo_wait_46 : decode c_Mo_wait 46 = .ok (.aload_n 0, 1) := by decide +kernel
theorem d_Mo_wait_47 : decode c_Mo_wait 47 = .ok (.getfield 50, 3) := by decide +kernel
theorem d_Mo_wait_50 : decode c_Mo_wait 50 = .ok (.aload_n 0, 1) := by decide +kernel
theorem d_Mo_wait_51 : decode c_Mo_wait 51 = .ok (.getfield 143, 3) := by decide +kernel
theorem d_Mo_wait_54 : decode c_Mo_wait 54 = .ok (.aload_n 0, 1) := by decide +kernel
theorem d_Mo_wait_55 : decode c_Mo_wait 55 = .ok (.getfield 152, 3) := by decide +kernel
theorem d_Mo_wait_58 : decode c_Mo_wait 58 = .ok (.iastore, 1) := by decide +kernel
theorem d_Mo_wait_59 : decode c_Mo_wait 59 = .ok (.aload_n 0, 1) := by decide +kernel
theorem d_Mo_wait_60 : decode c_Mo_wait 60 = .ok (.dup, 1) := by decide +kernel
theorem d_Mo_wait_61 : decode c_Mo_wait 61 = .ok (.getfield 143, 3) := by decide +kernel
theorem d_Mo_wait_64 : decode c_Mo_wait 64 = .ok (.iconst 1, 1) := by decide +kernel
theorem d_Mo_wait_65 : decode c_Mo_wait 65 = .ok (.iadd, 1) := by decide +kernel
theorem d_Mo_wait_66 : decode c_Mo_wait 66 = .ok (.putfield 143, 3) := by decide +kernel
theorem d_Mo_wait_69 : decode c_Mo_wait 69 = .ok (.return_, 1) := by decide +kernel
set_option maxRecDepth 100000 in
set_option maxHeartbeats 16000000 in
/-- wait(kd, w9) -/
theorem g_Mo_wait (l : Launch) (G : va_G) (k : Nat → ClassId) (h0 : Nat) (s0 : Nat) (kd : Nat) (w9 : Nat) (fn : Nat) (bs : Nat) (kn : Nat) (wt : Nat) (ma : Nat → Nat) (iv : Nat → Int32) (co : Int64) (WK : Nat → Nat) (WF : Nat → Nat) (WA : Nat → Nat) (WB : Nat → Nat) (WN : Nat → Nat) (hwt : wt < 1200) : CV l y_Mo_wait c_Mo_wait 3 { frames := 0, cells := 0, slots := 0, locals := 0 } [.ref h0, .int (nI kd), .int (nI w9)] G k s0 [(h0, .inr (8, moL ma (va_up (va_up (va_up (va_up iv 8 (nI fn)) 6 (nI bs)) 7 (nI kn)) 5 (nI wt)) co)), ((ma 7), .inl (k 0, 1200, .inl (fun i => nI (WK i)))), ((ma 8), .inl (k 0, 1200, .inl (fun i => nI (WF i)))), ((ma 9), .inl (k 0, 1200, .inl (fun i => nI (WA i)))), ((ma 10), .inl (k 0, 1200, .inl (fun i => nI (WB i)))), ((ma 11), .inl (k 0, 1200, .inl (fun i => nI (WN i))))] (fun (u : Unit) => True) (fun u => [(h0, .inr (8, moL ma (va_up (va_up (va_up (va_up iv 8 (nI fn)) 6 (nI bs)) 7 (nI kn)) 5 (nI (wt + 1))) co)), ((ma 7), .inl (k 0, 1200, .inl (fun i => nI ((va_up WK wt kd) i)))), ((ma 8), .inl (k 0, 1200, .inl (fun i => nI ((va_up WF wt fn) i)))), ((ma 9), .inl (k 0, 1200, .inl (fun i => nI ((va_up WA wt w9) i)))), ((ma 10), .inl (k 0, 1200, .inl (fun i => nI ((va_up WB wt bs) i)))), ((ma 11), .inl (k 0, 1200, .inl (fun i => nI ((va_up WN wt kn) i))))]) 0 0 := by
  refine met_start (by decide) (Nat.le_of_ble_eq_true rfl) ?_
  intro p e s m below meth c C K hA hsz S ls hl
  generalize va_A [(h0, .inr (8, moL ma (va_up (va_up (va_up (va_up iv 8 (nI fn)) 6 (nI bs)) 7 (nI kn)) 5 (nI wt)) co)), ((ma 7), .inl (k 0, 1200, .inl (fun i => nI (WK i)))), ((ma 8), .inl (k 0, 1200, .inl (fun i => nI (WF i)))), ((ma 9), .inl (k 0, 1200, .inl (fun i => nI (WA i)))), ((ma 10), .inl (k 0, 1200, .inl (fun i => nI (WB i)))), ((ma 11), .inl (k 0, 1200, .inl (fun i => nI (WN i))))] s0 = A at hA S ⊢
  have hx := C.1
  have hb := C.2.1
  have hl : lv_has ls 3 [(0, .ref h0), (1, .int (nI kd)), (2, .int (nI w9))] := hl
  refine lv_aload_n hx hb d_Mo_wait_0 rfl (lv_at hl 0 rfl) ?_
  refine r_get C K S 0 rfl rfl clOk_Mo 13 (by decide) wf_Mo_38 (v := .ref (ma 7)) rfl d_Mo_wait_1 ?_
  refine lv_aload_n hx hb d_Mo_wait_4 rfl (lv_at hl 0 rfl) ?_
  refine r_get C K S 0 rfl rfl clOk_Mo 18 (by decide) wf_Mo_143 (v := .int (nI wt)) rfl d_Mo_wait_5 ?_
  refine lv_iload_n hx hb d_Mo_wait_8 rfl (lv_at hl 1 rfl) ?_
  refine r_iast C K S 1 rfl (i := nI wt) (x := nI kd) (show vp_in (nI wt) _ from vp_in_nI (n := wt) (by omega) (by decide)) (f' := fun i => nI (va_up WK wt kd i)) (ws' := [(h0, .inr (8, moL ma (va_up (va_up (va_up (va_up iv 8 (nI fn)) 6 (nI bs)) 7 (nI kn)) 5 (nI wt)) co)), ((ma 7), .inl (k 0, 1200, .inl (fun i => nI (va_up WK wt kd i)))), ((ma 8), .inl (k 0, 1200, .inl (fun i => nI (WF i)))), ((ma 9), .inl (k 0, 1200, .inl (fun i => nI (WA i)))), ((ma 10), .inl (k 0, 1200, .inl (fun i => nI (WB i)))), ((ma 11), .inl (k 0, 1200, .inl (fun i => nI (WN i))))]) (show upd _ (nI wt : Int32).toNatClampNeg (nI kd) = _ from upd_nI WK (j := wt) (by omega) kd) rfl d_Mo_wait_9 (fun H locs S => ?_)
  refine lv_aload_n hx hb d_Mo_wait_10 rfl (lv_at hl 0 rfl) ?_
  refine r_get C K S 0 rfl rfl clOk_Mo 14 (by decide) wf_Mo_41 (v := .ref (ma 8)) rfl d_Mo_wait_11 ?_
  refine lv_aload_n hx hb d_Mo_wait_14 rfl (lv_at hl 0 rfl) ?_
  refine r_get C K S 0 rfl rfl clOk_Mo 18 (by decide) wf_Mo_143 (v := .int (nI wt)) rfl d_Mo_wait_15 ?_
  refine lv_aload_n hx hb d_Mo_wait_18 rfl (lv_at hl 0 rfl) ?_
  refine r_get C K S 0 rfl rfl clOk_Mo 22 (by decide) wf_Mo_146 (v := .int (nI fn)) rfl d_Mo_wait_19 ?_
  refine r_iast C K S 2 rfl (i := nI wt) (x := nI fn) (show vp_in (nI wt) _ from vp_in_nI (n := wt) (by omega) (by decide)) (f' := fun i => nI (va_up WF wt fn i)) (ws' := [(h0, .inr (8, moL ma (va_up (va_up (va_up (va_up iv 8 (nI fn)) 6 (nI bs)) 7 (nI kn)) 5 (nI wt)) co)), ((ma 7), .inl (k 0, 1200, .inl (fun i => nI (va_up WK wt kd i)))), ((ma 8), .inl (k 0, 1200, .inl (fun i => nI (va_up WF wt fn i)))), ((ma 9), .inl (k 0, 1200, .inl (fun i => nI (WA i)))), ((ma 10), .inl (k 0, 1200, .inl (fun i => nI (WB i)))), ((ma 11), .inl (k 0, 1200, .inl (fun i => nI (WN i))))]) (show upd _ (nI wt : Int32).toNatClampNeg (nI fn) = _ from upd_nI WF (j := wt) (by omega) fn) rfl d_Mo_wait_22 (fun H locs S => ?_)
  refine lv_aload_n hx hb d_Mo_wait_23 rfl (lv_at hl 0 rfl) ?_
  refine r_get C K S 0 rfl rfl clOk_Mo 15 (by decide) wf_Mo_44 (v := .ref (ma 9)) rfl d_Mo_wait_24 ?_
  refine lv_aload_n hx hb d_Mo_wait_27 rfl (lv_at hl 0 rfl) ?_
  refine r_get C K S 0 rfl rfl clOk_Mo 18 (by decide) wf_Mo_143 (v := .int (nI wt)) rfl d_Mo_wait_28 ?_
  refine lv_iload_n hx hb d_Mo_wait_31 rfl (lv_at hl 2 rfl) ?_
  refine r_iast C K S 3 rfl (i := nI wt) (x := nI w9) (show vp_in (nI wt) _ from vp_in_nI (n := wt) (by omega) (by decide)) (f' := fun i => nI (va_up WA wt w9 i)) (ws' := [(h0, .inr (8, moL ma (va_up (va_up (va_up (va_up iv 8 (nI fn)) 6 (nI bs)) 7 (nI kn)) 5 (nI wt)) co)), ((ma 7), .inl (k 0, 1200, .inl (fun i => nI (va_up WK wt kd i)))), ((ma 8), .inl (k 0, 1200, .inl (fun i => nI (va_up WF wt fn i)))), ((ma 9), .inl (k 0, 1200, .inl (fun i => nI (va_up WA wt w9 i)))), ((ma 10), .inl (k 0, 1200, .inl (fun i => nI (WB i)))), ((ma 11), .inl (k 0, 1200, .inl (fun i => nI (WN i))))]) (show upd _ (nI wt : Int32).toNatClampNeg (nI w9) = _ from upd_nI WA (j := wt) (by omega) w9) rfl d_Mo_wait_32 (fun H locs S => ?_)
  refine lv_aload_n hx hb d_Mo_wait_33 rfl (lv_at hl 0 rfl) ?_
  refine r_get C K S 0 rfl rfl clOk_Mo 16 (by decide) wf_Mo_47 (v := .ref (ma 10)) rfl d_Mo_wait_34 ?_
  refine lv_aload_n hx hb d_Mo_wait_37 rfl (lv_at hl 0 rfl) ?_
  refine r_get C K S 0 rfl rfl clOk_Mo 18 (by decide) wf_Mo_143 (v := .int (nI wt)) rfl d_Mo_wait_38 ?_
  refine lv_aload_n hx hb d_Mo_wait_41 rfl (lv_at hl 0 rfl) ?_
  refine r_get C K S 0 rfl rfl clOk_Mo 20 (by decide) wf_Mo_149 (v := .int (nI bs)) rfl d_Mo_wait_42 ?_
  refine r_iast C K S 4 rfl (i := nI wt) (x := nI bs) (show vp_in (nI wt) _ from vp_in_nI (n := wt) (by omega) (by decide)) (f' := fun i => nI (va_up WB wt bs i)) (ws' := [(h0, .inr (8, moL ma (va_up (va_up (va_up (va_up iv 8 (nI fn)) 6 (nI bs)) 7 (nI kn)) 5 (nI wt)) co)), ((ma 7), .inl (k 0, 1200, .inl (fun i => nI (va_up WK wt kd i)))), ((ma 8), .inl (k 0, 1200, .inl (fun i => nI (va_up WF wt fn i)))), ((ma 9), .inl (k 0, 1200, .inl (fun i => nI (va_up WA wt w9 i)))), ((ma 10), .inl (k 0, 1200, .inl (fun i => nI (va_up WB wt bs i)))), ((ma 11), .inl (k 0, 1200, .inl (fun i => nI (WN i))))]) (show upd _ (nI wt : Int32).toNatClampNeg (nI bs) = _ from upd_nI WB (j := wt) (by omega) bs) rfl d_Mo_wait_45 (fun H locs S => ?_)
  refine lv_aload_n hx hb d_Mo_wait_46 rfl (lv_at hl 0 rfl) ?_
  refine r_get C K S 0 rfl rfl clOk_Mo 17 (by decide) wf_Mo_50 (v := .ref (ma 11)) rfl d_Mo_wait_47 ?_
  refine lv_aload_n hx hb d_Mo_wait_50 rfl (lv_at hl 0 rfl) ?_
  refine r_get C K S 0 rfl rfl clOk_Mo 18 (by decide) wf_Mo_143 (v := .int (nI wt)) rfl d_Mo_wait_51 ?_
  refine lv_aload_n hx hb d_Mo_wait_54 rfl (lv_at hl 0 rfl) ?_
  refine r_get C K S 0 rfl rfl clOk_Mo 21 (by decide) wf_Mo_152 (v := .int (nI kn)) rfl d_Mo_wait_55 ?_
  refine r_iast C K S 5 rfl (i := nI wt) (x := nI kn) (show vp_in (nI wt) _ from vp_in_nI (n := wt) (by omega) (by decide)) (f' := fun i => nI (va_up WN wt kn i)) (ws' := [(h0, .inr (8, moL ma (va_up (va_up (va_up (va_up iv 8 (nI fn)) 6 (nI bs)) 7 (nI kn)) 5 (nI wt)) co)), ((ma 7), .inl (k 0, 1200, .inl (fun i => nI (va_up WK wt kd i)))), ((ma 8), .inl (k 0, 1200, .inl (fun i => nI (va_up WF wt fn i)))), ((ma 9), .inl (k 0, 1200, .inl (fun i => nI (va_up WA wt w9 i)))), ((ma 10), .inl (k 0, 1200, .inl (fun i => nI (va_up WB wt bs i)))), ((ma 11), .inl (k 0, 1200, .inl (fun i => nI (va_up WN wt kn i))))]) (show upd _ (nI wt : Int32).toNatClampNeg (nI kn) = _ from upd_nI WN (j := wt) (by omega) kn) rfl d_Mo_wait_58 (fun H locs S => ?_)
  refine lv_aload_n hx hb d_Mo_wait_59 rfl (lv_at hl 0 rfl) ?_
  refine lv_dup hx hb d_Mo_wait_60 rfl ?_
  refine r_get C K S 0 rfl rfl clOk_Mo 18 (by decide) wf_Mo_143 (v := .int (nI wt)) rfl d_Mo_wait_61 ?_
  refine lv_iconst (v := 1) hx hb d_Mo_wait_64 (by decide) ?_
  refine z_iadd (x := nI wt) (y := 1) (v := nI (wt + 1)) hx hb d_Mo_wait_65 (nI_add wt 1) ?_
  refine r_put C K S 0 rfl rfl clOk_Mo 18 (by decide) wf_Mo_143 rfl (ty := .int) (v := .int (nI (wt + 1))) (by decide +kernel) rfl rfl (Nat.le_of_ble_eq_true rfl) (fs' := moL ma (va_up (va_up (va_up (va_up iv 8 (nI fn)) 6 (nI bs)) 7 (nI kn)) 5 (nI (wt + 1))) co) (ws' := [(h0, .inr (8, moL ma (va_up (va_up (va_up (va_up iv 8 (nI fn)) 6 (nI bs)) 7 (nI kn)) 5 (nI (wt + 1))) co)), ((ma 7), .inl (k 0, 1200, .inl (fun i => nI (va_up WK wt kd i)))), ((ma 8), .inl (k 0, 1200, .inl (fun i => nI (va_up WF wt fn i)))), ((ma 9), .inl (k 0, 1200, .inl (fun i => nI (va_up WA wt w9 i)))), ((ma 10), .inl (k 0, 1200, .inl (fun i => nI (va_up WB wt bs i)))), ((ma 11), .inl (k 0, 1200, .inl (fun i => nI (va_up WN wt kn i))))]) rfl rfl d_Mo_wait_66 (fun H locs S => ?_)
  exact r_vret C K () trivial (S.sub [0, 1, 2, 3, 4, 5] (by decide) rfl) d_Mo_wait_69 (Nat.le_of_ble_eq_true rfl) (Nat.le_of_ble_eq_true rfl)
theorem d_Mo_enter_0 : decode c_Mo_enter 0 = .ok (.aload_n 0, 1) := by decide +kernel
theorem d_Mo_enter_1 : decode c_Mo_enter 1 = .ok (.getfield 155, 3) := by decide +kernel
theorem d_Mo_enter_4 : decode c_Mo_enter 4 = .ok (.bipush 60, 2) := by decide +kernel
theorem d_Mo_enter_6 : decode c_Mo_enter 6 = .ok (.if_icmp .ne 9, 3) := by decide +kernel
theorem d_Mo_enter_9 : decode c_Mo_enter 9 = .ok (.aload_n 0, 1) := by decide +kernel
theorem d_Mo_enter_10 : decode c_Mo_enter 10 = .ok (.iconst 1, 1) := by decide +kernel
theorem d_Mo_enter_11 : decode c_Mo_enter 11 = .ok (.putfield 158, 3) := by decide +kernel
theorem d_Mo_enter_14 : decode c_Mo_enter 14 = .ok (.return_, 1) := by decide +kernel
theorem d_Mo_enter_15 : decode c_Mo_enter 15 = .ok (.aload_n 0, 1) := by decide +kernel
theorem d_Mo_enter_16 : decode c_Mo_enter 16 = .ok (.dup, 1) := by decide +kernel
theorem d_Mo_enter_17 : decode c_Mo_enter 17 = .ok (.getfield 155, 3) := by decide +kernel
theorem d_Mo_enter_20 : decode c_Mo_enter 20 = .ok (.iconst 1, 1) := by decide +kernel
theorem d_Mo_enter_21 : decode c_Mo_enter 21 = .ok (.iadd, 1) := by decide +kernel
theorem d_Mo_enter_22 : decode c_Mo_enter 22 = .ok (.putfield 155, 3) := by decide +kernel
theorem d_Mo_enter_25 : decode c_Mo_enter 25 = .ok (.aload_n 0, 1) := by decide +kernel
theorem d_Mo_enter_26 : decode c_Mo_enter 26 = .ok (.iload_n 1, 1) := by decide +kernel
theorem d_Mo_enter_27 : decode c_Mo_enter 27 = .ok (.putfield 146, 3) := by decide +kernel
theorem d_Mo_enter_30 : decode c_Mo_enter 30 = .ok (.aload_n 0, 1) := by decide +kernel
theorem d_Mo_enter_31 : decode c_Mo_enter 31 = .ok (.iconst 0, 1) := by decide +kernel
theorem d_Mo_enter_32 : decode c_Mo_enter 32 = .ok (.putfield 162, 3) := by decide +kernel
theorem d_Mo_enter_35 : decode c_Mo_enter 35 = .ok (.aload_n 0, 1) := by decide +kernel
theorem d_Mo_enter_36 : decode c_Mo_enter 36 = .ok (.iload_n 2, 1) := by decide +kernel
theorem d_Mo_enter_37 : decode c_Mo_enter 37 = .ok (.putfield 149, 3) := by decide +kernel
theorem d_Mo_enter_40 : decode c_Mo_enter 40 = .ok (.aload_n 0, 1) := by decide +kernel
theorem d_Mo_enter_41 : decode c_Mo_enter 41 = .ok (.aload_n 0, 1) := by decide +kernel
theorem d_Mo_enter_42 : decode c_Mo_enter 42 = .ok (.getfield 9, 3) := by decide +kernel
theorem d_Mo_enter_45 : decode c_Mo_enter 45 = .ok (.iload_n 1, 1) := by decide +kernel
theorem d_Mo_enter_46 : decode c_Mo_enter 46 = .ok (.iaload, 1) := by decide +kernel
theorem d_Mo_enter_47 : decode c_Mo_enter 47 = .ok (.putfield 152, 3) := by decide +kernel
theorem d_Mo_enter_50 : decode c_Mo_enter 50 = .ok (.return_, 1) := by decide +kernel
set_option maxRecDepth 100000 in
set_option maxHeartbeats 16000000 in
/-- enter(g9, b9) -/
theorem g_Mo_enter (l : Launch) (G : va_G) (k : Nat → ClassId) (h0 : Nat) (s0 : Nat) (g9 : Nat) (b9 : Nat) (cl : Nat) (ma : Nat → Nat) (iv : Nat → Int32) (co : Int64) (tk : Nat → Nat) (hg : g9 < 4) (hcl : cl < 60) : CV l y_Mo_enter c_Mo_enter 3 { frames := 0, cells := 0, slots := 0, locals := 0 } [.ref h0, .int (nI g9), .int (nI b9)] G k s0 [(h0, .inr (8, moL ma (va_up iv 10 (nI cl)) co)), ((ma 0), .inl (k 0, 4, .inl (fun i => nI (tk i))))] (fun (u : Unit) => True) (fun u => [(h0, .inr (8, moL ma (va_up (va_up (va_up (va_up (va_up iv 10 (nI (cl + 1))) 8 (nI g9)) 9 0) 6 (nI b9)) 7 (nI (tk g9))) co)), ((ma 0), .inl (k 0, 4, .inl (fun i => nI (tk i))))]) 0 0 := by
  refine met_start (by decide) (Nat.le_of_ble_eq_true rfl) ?_
  intro p e s m below meth c C K hA hsz S ls hl
  generalize va_A [(h0, .inr (8, moL ma (va_up iv 10 (nI cl)) co)), ((ma 0), .inl (k 0, 4, .inl (fun i => nI (tk i))))] s0 = A at hA S ⊢
  have hx := C.1
  have hb := C.2.1
  have hl : lv_has ls 3 [(0, .ref h0), (1, .int (nI g9)), (2, .int (nI b9))] := hl
  refine lv_aload_n hx hb d_Mo_enter_0 rfl (lv_at hl 0 rfl) ?_
  refine r_get C K S 0 rfl rfl clOk_Mo 24 (by decide) wf_Mo_155 (v := .int (nI cl)) rfl d_Mo_enter_1 ?_
  refine lv_bipush (v := 60) hx hb d_Mo_enter_4 (by decide) ?_
  refine z_icmp_ne (a := cl) (b := 60) (tgt := 15) hx hb d_Mo_enter_6 (by decide) (by omega) (by omega) (fun hc1 => ?_) (fun hc1 => False.elim (by omega))
  refine lv_aload_n hx hb d_Mo_enter_15 rfl (lv_at hl 0 rfl) ?_
  refine lv_dup hx hb d_Mo_enter_16 rfl ?_
  refine r_get C K S 0 rfl rfl clOk_Mo 24 (by decide) wf_Mo_155 (v := .int (nI cl)) rfl d_Mo_enter_17 ?_
  refine lv_iconst (v := 1) hx hb d_Mo_enter_20 (by decide) ?_
  refine z_iadd (x := nI cl) (y := 1) (v := nI (cl + 1)) hx hb d_Mo_enter_21 (nI_add cl 1) ?_
  refine r_put C K S 0 rfl rfl clOk_Mo 24 (by decide) wf_Mo_155 rfl (ty := .int) (v := .int (nI (cl + 1))) (by decide +kernel) rfl rfl (Nat.le_of_ble_eq_true rfl) (fs' := moL ma (va_up iv 10 (nI (cl + 1))) co) (ws' := [(h0, .inr (8, moL ma (va_up iv 10 (nI (cl + 1))) co)), ((ma 0), .inl (k 0, 4, .inl (fun i => nI (tk i))))]) rfl rfl d_Mo_enter_22 (fun H locs S => ?_)
  refine lv_aload_n hx hb d_Mo_enter_25 rfl (lv_at hl 0 rfl) ?_
  refine lv_iload_n hx hb d_Mo_enter_26 rfl (lv_at hl 1 rfl) ?_
  refine r_put C K S 0 rfl rfl clOk_Mo 22 (by decide) wf_Mo_146 rfl (ty := .int) (v := .int (nI g9)) (by decide +kernel) rfl rfl (Nat.le_of_ble_eq_true rfl) (fs' := moL ma (va_up (va_up iv 10 (nI (cl + 1))) 8 (nI g9)) co) (ws' := [(h0, .inr (8, moL ma (va_up (va_up iv 10 (nI (cl + 1))) 8 (nI g9)) co)), ((ma 0), .inl (k 0, 4, .inl (fun i => nI (tk i))))]) rfl rfl d_Mo_enter_27 (fun H locs S => ?_)
  refine lv_aload_n hx hb d_Mo_enter_30 rfl (lv_at hl 0 rfl) ?_
  refine lv_iconst (v := 0) hx hb d_Mo_enter_31 (by decide) ?_
  refine r_put C K S 0 rfl rfl clOk_Mo 23 (by decide) wf_Mo_162 rfl (ty := .int) (v := .int 0) (by decide +kernel) rfl rfl (Nat.le_of_ble_eq_true rfl) (fs' := moL ma (va_up (va_up (va_up iv 10 (nI (cl + 1))) 8 (nI g9)) 9 0) co) (ws' := [(h0, .inr (8, moL ma (va_up (va_up (va_up iv 10 (nI (cl + 1))) 8 (nI g9)) 9 0) co)), ((ma 0), .inl (k 0, 4, .inl (fun i => nI (tk i))))]) rfl rfl d_Mo_enter_32 (fun H locs S => ?_)
  refine lv_aload_n hx hb d_Mo_enter_35 rfl (lv_at hl 0 rfl) ?_
  refine lv_iload_n hx hb d_Mo_enter_36 rfl (lv_at hl 2 rfl) ?_
  refine r_put C K S 0 rfl rfl clOk_Mo 20 (by decide) wf_Mo_149 rfl (ty := .int) (v := .int (nI b9)) (by decide +kernel) rfl rfl (Nat.le_of_ble_eq_true rfl) (fs' := moL ma (va_up (va_up (va_up (va_up iv 10 (nI (cl + 1))) 8 (nI g9)) 9 0) 6 (nI b9)) co) (ws' := [(h0, .inr (8, moL ma (va_up (va_up (va_up (va_up iv 10 (nI (cl + 1))) 8 (nI g9)) 9 0) 6 (nI b9)) co)), ((ma 0), .inl (k 0, 4, .inl (fun i => nI (tk i))))]) rfl rfl d_Mo_enter_37 (fun H locs S => ?_)
  refine lv_aload_n hx hb d_Mo_enter_40 rfl (lv_at hl 0 rfl) ?_
  refine lv_aload_n hx hb d_Mo_enter_41 rfl (lv_at hl 0 rfl) ?_
  refine r_get C K S 0 rfl rfl clOk_Mo 1 (by decide) wf_Mo_9 (v := .ref (ma 0)) rfl d_Mo_enter_42 ?_
  refine lv_iload_n hx hb d_Mo_enter_45 rfl (lv_at hl 1 rfl) ?_
  refine r_iald C K S 1 rfl (i := nI g9) (show vp_in (nI g9) _ from vp_in_nI (n := g9) (by omega) (by decide)) (v := nI (tk g9)) (by rw [nI_clamp (by omega)]) d_Mo_enter_46 ?_
  refine r_put C K S 0 rfl rfl clOk_Mo 21 (by decide) wf_Mo_152 rfl (ty := .int) (v := .int (nI (tk g9))) (by decide +kernel) rfl rfl (Nat.le_of_ble_eq_true rfl) (fs' := moL ma (va_up (va_up (va_up (va_up (va_up iv 10 (nI (cl + 1))) 8 (nI g9)) 9 0) 6 (nI b9)) 7 (nI (tk g9))) co) (ws' := [(h0, .inr (8, moL ma (va_up (va_up (va_up (va_up (va_up iv 10 (nI (cl + 1))) 8 (nI g9)) 9 0) 6 (nI b9)) 7 (nI (tk g9))) co)), ((ma 0), .inl (k 0, 4, .inl (fun i => nI (tk i))))]) rfl rfl d_Mo_enter_47 (fun H locs S => ?_)
  exact r_vret C K () trivial (S.sub [0, 1] (by decide) rfl) d_Mo_enter_50 (Nat.le_of_ble_eq_true rfl) (Nat.le_of_ble_eq_true rfl)
set_option maxRecDepth 100000 in
set_option maxHeartbeats 16000000 in
/-- enter, too long -/
theorem g_Mo_enter_l (l : Launch) (G : va_G) (k : Nat → ClassId) (h0 : Nat) (s0 : Nat) (g9 : Nat) (b9 : Nat) (cl : Nat) (ma : Nat → Nat) (iv : Nat → Int32) (co : Int64) (tk : Nat → Nat) (hcl : cl = 60) : CV l y_Mo_enter c_Mo_enter 3 { frames := 0, cells := 0, slots := 0, locals := 0 } [.ref h0, .int (nI g9), .int (nI b9)] G k s0 [(h0, .inr (8, moL ma (va_up iv 10 (nI cl)) co)), ((ma 0), .inl (k 0, 4, .inl (fun i => nI (tk i))))] (fun (u : Unit) => True) (fun u => [(h0, .inr (8, moL ma (va_up (va_up iv 10 (nI cl)) 11 1) co)), ((ma 0), .inl (k 0, 4, .inl (fun i => nI (tk i))))]) 0 0 := by
  refine met_start (by decide) (Nat.le_of_ble_eq_true rfl) ?_
  intro p e s m below meth c C K hA hsz S ls hl
  generalize va_A [(h0, .inr (8, moL ma (va_up iv 10 (nI cl)) co)), ((ma 0), .inl (k 0, 4, .inl (fun i => nI (tk i))))] s0 = A at hA S ⊢
  have hx := C.1
  have hb := C.2.1
  have hl : lv_has ls 3 [(0, .ref h0), (1, .int (nI g9)), (2, .int (nI b9))] := hl
  refine lv_aload_n hx hb d_Mo_enter_0 rfl (lv_at hl 0 rfl) ?_
  refine r_get C K S 0 rfl rfl clOk_Mo 24 (by decide) wf_Mo_155 (v := .int (nI cl)) rfl d_Mo_enter_1 ?_
  refine lv_bipush (v := 60) hx hb d_Mo_enter_4 (by decide) ?_
  refine z_icmp_ne (a := cl) (b := 60) (tgt := 15) hx hb d_Mo_enter_6 (by decide) (by omega) (by omega) (fun hc1 => False.elim (by omega)) (fun hc1 => ?_)
  refine lv_aload_n hx hb d_Mo_enter_9 rfl (lv_at hl 0 rfl) ?_
  refine lv_iconst (v := 1) hx hb d_Mo_enter_10 (by decide) ?_
  refine r_put C K S 0 rfl rfl clOk_Mo 25 (by decide) wf_Mo_158 rfl (ty := .boolean) (v := .int 1) (by decide +kernel) rfl rfl (Nat.le_of_ble_eq_true rfl) (fs' := moL ma (va_up (va_up iv 10 (nI cl)) 11 1) co) (ws' := [(h0, .inr (8, moL ma (va_up (va_up iv 10 (nI cl)) 11 1) co)), ((ma 0), .inl (k 0, 4, .inl (fun i => nI (tk i))))]) rfl rfl d_Mo_enter_11 (fun H locs S => ?_)
  exact r_vret C K () trivial (S.sub [0, 1] (by decide) rfl) d_Mo_enter_14 (Nat.le_of_ble_eq_true rfl) (Nat.le_of_ble_eq_true rfl)
theorem d_Mo_beginOne_0 : decode c_Mo_beginOne 0 = .ok (.aload_n 0, 1) := by decide +kernel
theorem d_Mo_beginOne_1 : decode c_Mo_beginOne 1 = .ok (.getfield 165, 3) := by decide +kernel
theorem d_Mo_beginOne_4 : decode c_Mo_beginOne 4 = .ok (.sipush 20000, 3) := by decide +kernel
theorem d_Mo_beginOne_7 : decode c_Mo_beginOne 7 = .ok (.if_icmp .ne 9, 3) := by decide +kernel
theorem d_Mo_beginOne_10 : decode c_Mo_beginOne 10 = .ok (.aload_n 0, 1) := by decide +kernel
theorem d_Mo_beginOne_11 : decode c_Mo_beginOne 11 = .ok (.iconst 1, 1) := by decide +kernel
theorem d_Mo_beginOne_12 : decode c_Mo_beginOne 12 = .ok (.putfield 158, 3) := by decide +kernel
theorem d_Mo_beginOne_15 : decode c_Mo_beginOne 15 = .ok (.return_, 1) := by decide +kernel
theorem d_Mo_beginOne_16 : decode c_Mo_beginOne 16 = .ok (.aload_n 0, 1) := by decide +kernel
theorem d_Mo_beginOne_17 : decode c_Mo_beginOne 17 = .ok (.dup, 1) := by decide +kernel
theorem d_Mo_beginOne_18 : decode c_Mo_beginOne 18 = .ok (.getfield 165, 3) := by decide +kernel
theorem d_Mo_beginOne_21 : decode c_Mo_beginOne 21 = .ok (.iconst 1, 1) := by decide +kernel
theorem d_Mo_beginOne_22 : decode c_Mo_beginOne 22 = .ok (.iadd, 1) := by decide +kernel
theorem d_Mo_beginOne_23 : decode c_Mo_beginOne 23 = .ok (.putfield 165, 3) := by decide +kernel
theorem d_Mo_beginOne_26 : decode c_Mo_beginOne 26 = .ok (.sipush 200, 3) := by decide +kernel
theorem d_Mo_beginOne_29 : decode c_Mo_beginOne 29 = .ok (.aload_n 0, 1) := by decide +kernel
theorem d_Mo_beginOne_30 : decode c_Mo_beginOne 30 = .ok (.getfield 146, 3) := by decide +kernel
theorem d_Mo_beginOne_33 : decode c_Mo_beginOne 33 = .ok (.imul, 1) := by decide +kernel
theorem d_Mo_beginOne_34 : decode c_Mo_beginOne 34 = .ok (.aload_n 0, 1) := by decide +kernel
theorem d_Mo_beginOne_35 : decode c_Mo_beginOne 35 = .ok (.getfield 162, 3) := by decide +kernel
theorem d_Mo_beginOne_38 : decode c_Mo_beginOne 38 = .ok (.iadd, 1) := by decide +kernel
theorem d_Mo_beginOne_39 : decode c_Mo_beginOne 39 = .ok (.istore_n 1, 1) := by decide +kernel
theorem d_Mo_beginOne_40 : decode c_Mo_beginOne 40 = .ok (.aload_n 0, 1) := by decide +kernel
theorem d_Mo_beginOne_41 : decode c_Mo_beginOne 41 = .ok (.getfield 13, 3) := by decide +kernel
theorem d_Mo_beginOne_44 : decode c_Mo_beginOne 44 = .ok (.iload_n 1, 1) := by decide +kernel
theorem d_Mo_beginOne_45 : decode c_Mo_beginOne 45 = .ok (.iconst 1, 1) := by decide +kernel
theorem d_Mo_beginOne_46 : decode c_Mo_beginOne 46 = .ok (.iadd, 1) := by decide +kernel
theorem d_Mo_beginOne_47 : decode c_Mo_beginOne 47 = .ok (.sipush 800, 3) := by decide +kernel
theorem d_Mo_beginOne_50 : decode c_Mo_beginOne 50 = .ok (.if_icmp .ge 9, 3) := by decide +kernel
theorem d_Mo_beginOne_53 : decode c_Mo_beginOne 53 = .ok (.iload_n 1, 1) := by decide +kernel
theorem d_Mo_beginOne_54 : decode c_Mo_beginOne 54 = .ok (.iconst 1, 1) := by decide +kernel
theorem d_Mo_beginOne_55 : decode c_Mo_beginOne 55 = .ok (.iadd, 1) := by decide +kernel
theorem d_Mo_beginOne_56 : decode c_Mo_beginOne 56 = .ok (.goto 4, 3) := by decide +kernel
theorem d_Mo_beginOne_59 : decode c_Mo_beginOne 59 = .ok (.iload_n 1, 1) := by decide +kernel
theorem d_Mo_beginOne_60 : decode c_Mo_beginOne 60 = .ok (.iaload, 1) := by decide +kernel
theorem d_Mo_beginOne_61 : decode c_Mo_beginOne 61 = .ok (.istore_n 2, 1) := by decide +kernel
theorem d_Mo_beginOne_62 : decode c_Mo_beginOne 62 = .ok (.aload_n 0, 1) := by decide +kernel
theorem d_Mo_beginOne_63 : decode c_Mo_beginOne 63 = .ok (.getfield 13, 3) := by decide +kernel
theorem d_Mo_beginOne_66 : decode c_Mo_beginOne 66 = .ok (.iload_n 1, 1) := by decide +kernel
theorem d_Mo_beginOne_67 : decode c_Mo_beginOne 67 = .ok (.iaload, 1) := by decide +kernel
theorem d_Mo_beginOne_68 : decode c_Mo_beginOne 68 = .ok (.tableswitch 258 0 5 #[40, 48, 66, 85, 156, 180], 40) := by decide +kernel
theorem d_Mo_beginOne_108 : decode c_Mo_beginOne 108 = .ok (.aload_n 0, 1) := by decide +kernel
theorem d_Mo_beginOne_109 : decode c_Mo_beginOne 109 = .ok (.iconst 0, 1) := by decide +kernel
theorem d_Mo_beginOne_110 : decode c_Mo_beginOne 110 = .ok (.putfield 168, 3) := by decide +kernel
theorem d_Mo_beginOne_113 : decode c_Mo_beginOne 113 = .ok (.goto 236, 3) := by decide +kernel
theorem d_Mo_beginOne_116 : decode c_Mo_beginOne 116 = .ok (.aload_n 0, 1) := by decide +kernel
theorem d_Mo_beginOne_117 : decode c_Mo_beginOne 117 = .ok (.aload_n 0, 1) := by decide +kernel
theorem d_Mo_beginOne_118 : decode c_Mo_beginOne 118 = .ok (.getfield 53, 3) := by decide +kernel
theorem d_Mo_beginOne_121 : decode c_Mo_beginOne 121 = .ok (.aload_n 0, 1) := by decide +kernel
theorem d_Mo_beginOne_122 : decode c_Mo_beginOne 122 = .ok (.getfield 149, 3) := by decide +kernel
theorem d_Mo_beginOne_125 : decode c_Mo_beginOne 125 = .ok (.iload_n 2, 1) := by decide +kernel
theorem d_Mo_beginOne_126 : decode c_Mo_beginOne 126 = .ok (.iadd, 1) := by decide +kernel
theorem d_Mo_beginOne_127 : decode c_Mo_beginOne 127 = .ok (.iaload, 1) := by decide +kernel
theorem d_Mo_beginOne_128 : decode c_Mo_beginOne 128 = .ok (.putfield 168, 3) := by decide +kernel
theorem d_Mo_beginOne_131 : decode c_Mo_beginOne 131 = .ok (.goto 218, 3) := by decide +kernel
theorem d_Mo_beginOne_134 : decode c_Mo_beginOne 134 = .ok (.aload_n 0, 1) := by decide +kernel
theorem d_Mo_beginOne_135 : decode c_Mo_beginOne 135 = .ok (.iconst 0, 1) := by decide +kernel
theorem d_Mo_beginOne_136 : decode c_Mo_beginOne 136 = .ok (.iconst 0, 1) := by decide +kernel
theorem d_Mo_beginOne_137 : decode c_Mo_beginOne 137 = .ok (.invokevirtual 171, 3) := by decide +kernel
theorem d_Mo_beginOne_140 : decode c_Mo_beginOne 140 = .ok (.aload_n 0, 1) := by decide +kernel
theorem d_Mo_beginOne_141 : decode c_Mo_beginOne 141 = .ok (.dup, 1) := by decide +kernel
theorem d_Mo_beginOne_142 : decode c_Mo_beginOne 142 = .ok (.getfield 162, 3) := by decide +kernel
theorem d_Mo_beginOne_145 : decode c_Mo_beginOne 145 = .ok (.iconst 1, 1) := by decide +kernel
theorem d_Mo_beginOne_146 : decode c_Mo_beginOne 146 = .ok (.iadd, 1) := by decide +kernel
theorem d_Mo_beginOne_147 : decode c_Mo_beginOne 147 = .ok (.putfield 162, 3) := by decide +kernel
theorem d_Mo_beginOne_150 : decode c_Mo_beginOne 150 = .ok (.goto 199, 3) := by decide +kernel
theorem d_Mo_beginOne_153 : decode c_Mo_beginOne 153 = .ok (.aload_n 0, 1) := by decide +kernel
theorem d_Mo_beginOne_154 : decode c_Mo_beginOne 154 = .ok (.getfield 53, 3) := by decide +kernel
theorem d_Mo_beginOne_157 : decode c_Mo_beginOne 157 = .ok (.aload_n 0, 1) := by decide +kernel
theorem d_Mo_beginOne_158 : decode c_Mo_beginOne 158 = .ok (.getfield 149, 3) := by decide +kernel
theorem d_Mo_beginOne_161 : decode c_Mo_beginOne 161 = .ok (.iload_n 2, 1) := by decide +kernel
theorem d_Mo_beginOne_162 : decode c_Mo_beginOne 162 = .ok (.iadd, 1) := by decide +kernel
theorem d_Mo_beginOne_163 : decode c_Mo_beginOne 163 = .ok (.iaload, 1) := by decide +kernel
theorem d_Mo_beginOne_164 : decode c_Mo_beginOne 164 = .ok (.istore_n 3, 1) := by decide +kernel
theorem d_Mo_beginOne_165 : decode c_Mo_beginOne 165 = .ok (.aload_n 0, 1) := by decide +kernel
theorem d_Mo_beginOne_166 : decode c_Mo_beginOne 166 = .ok (.iload_n 3, 1) := by decide +kernel
theorem d_Mo_beginOne_167 : decode c_Mo_beginOne 167 = .ok (.ifCond .ne 12, 3) := by decide +kernel
theorem d_Mo_beginOne_170 : decode c_Mo_beginOne 170 = .ok (.aload_n 0, 1) := by decide +kernel
theorem d_Mo_beginOne_171 : decode c_Mo_beginOne 171 = .ok (.getfield 162, 3) := by decide +kernel
theorem d_Mo_beginOne_174 : decode c_Mo_beginOne 174 = .ok (.iconst 2, 1) := by decide +kernel
theorem d_Mo_beginOne_175 : decode c_Mo_beginOne 175 = .ok (.iadd, 1) := by decide +kernel
theorem d_Mo_beginOne_176 : decode c_Mo_beginOne 176 = .ok (.goto 11, 3) := by decide +kernel
theorem d_Mo_beginOne_179 : decode c_Mo_beginOne 179 = .ok (.aload_n 0, 1) := by decide +kernel
theorem d_Mo_beginOne_180 : decode c_Mo_beginOne 180 = .ok (.getfield 23, 3) := by decide +kernel
theorem d_Mo_beginOne_183 : decode c_Mo_beginOne 183 = .ok (.iload_n 1, 1) := by decide +kernel
theorem d_Mo_beginOne_184 : decode c_Mo_beginOne 184 = .ok (.iconst 2, 1) := by decide +kernel
theorem d_Mo_beginOne_185 : decode c_Mo_beginOne 185 = .ok (.iadd, 1) := by decide +kernel
theorem d_Mo_beginOne_186 : decode c_Mo_beginOne 186 = .ok (.iaload, 1) := by decide +kernel
theorem d_Mo_beginOne_187 : decode c_Mo_beginOne 187 = .ok (.putfield 162, 3) := by decide +kernel
theorem d_Mo_beginOne_190 : decode c_Mo_beginOne 190 = .ok (.iload_n 3, 1) := by decide +kernel
theorem d_Mo_beginOne_191 : decode c_Mo_beginOne 191 = .ok (.ifCond .le 158, 3) := by decide +kernel
theorem d_Mo_beginOne_194 : decode c_Mo_beginOne 194 = .ok (.aload_n 0, 1) := by decide +kernel
theorem d_Mo_beginOne_195 : decode c_Mo_beginOne 195 = .ok (.getfield 53, 3) := by decide +kernel
theorem d_Mo_beginOne_198 : decode c_Mo_beginOne 198 = .ok (.aload_n 0, 1) := by decide +kernel
theorem d_Mo_beginOne_199 : decode c_Mo_beginOne 199 = .ok (.getfield 149, 3) := by decide +kernel
theorem d_Mo_beginOne_202 : decode c_Mo_beginOne 202 = .ok (.aload_n 0, 1) := by decide +kernel
theorem d_Mo_beginOne_203 : decode c_Mo_beginOne 203 = .ok (.getfield 152, 3) := by decide +kernel
theorem d_Mo_beginOne_206 : decode c_Mo_beginOne 206 = .ok (.iadd, 1) := by decide +kernel
theorem d_Mo_beginOne_207 : decode c_Mo_beginOne 207 = .ok (.iload_n 3, 1) := by decide +kernel
theorem d_Mo_beginOne_208 : decode c_Mo_beginOne 208 = .ok (.iconst 1, 1) := by decide +kernel
theorem d_Mo_beginOne_209 : decode c_Mo_beginOne 209 = .ok (.isub, 1) := by decide +kernel
theorem d_Mo_beginOne_210 : decode c_Mo_beginOne 210 = .ok (.iastore, 1) := by decide +kernel
theorem d_Mo_beginOne_211 : decode c_Mo_beginOne 211 = .ok (.aload_n 0, 1) := by decide +kernel
theorem d_Mo_beginOne_212 : decode c_Mo_beginOne 212 = .ok (.dup, 1) := by decide +kernel
theorem d_Mo_beginOne_213 : decode c_Mo_beginOne 213 = .ok (.getfield 152, 3) := by decide +kernel
theorem d_Mo_beginOne_216 : decode c_Mo_beginOne 216 = .ok (.iconst 1, 1) := by decide +kernel
theorem d_Mo_beginOne_217 : decode c_Mo_beginOne 217 = .ok (.iadd, 1) := by decide +kernel
theorem d_Mo_beginOne_218 : decode c_Mo_beginOne 218 = .ok (.putfield 152, 3) := by decide +kernel
theorem d_Mo_beginOne_221 : decode c_Mo_beginOne 221 = .ok (.goto 128, 3) := by decide +kernel
theorem d_Mo_beginOne_224 : decode c_Mo_beginOne 224 = .ok (.aload_n 0, 1) := by decide +kernel
theorem d_Mo_beginOne_225 : decode c_Mo_beginOne 225 = .ok (.dup, 1) := by decide +kernel
theorem d_Mo_beginOne_226 : decode c_Mo_beginOne 226 = .ok (.getfield 175, 3) := by decide +kernel
theorem d_Mo_beginOne_229 : decode c_Mo_beginOne 229 = .ok (.iload_n 2, 1) := by decide +kernel
theorem d_Mo_beginOne_230 : decode c_Mo_beginOne 230 = .ok (.i2l, 1) := by decide +kernel
theorem d_Mo_beginOne_231 : decode c_Mo_beginOne 231 = .ok (.ladd, 1) := by decide +kernel
theorem d_Mo_beginOne_232 : decode c_Mo_beginOne 232 = .ok (.putfield 175, 3) := by decide +kernel
theorem d_Mo_beginOne_235 : decode c_Mo_beginOne 235 = .ok (.aload_n 0, 1) := by decide +kernel
theorem d_Mo_beginOne_236 : decode c_Mo_beginOne 236 = .ok (.dup, 1) := by decide +kernel
theorem d_Mo_beginOne_237 : decode c_Mo_beginOne 237 = .ok (.getfield 162, 3) := by decide +kernel
theorem d_Mo_beginOne_240 : decode c_Mo_beginOne 240 = .ok (.iconst 2, 1) := by decide +kernel
theorem d_Mo_beginOne_241 : decode c_Mo_beginOne 241 = .ok (.iadd, 1) := by decide +kernel
theorem d_Mo_beginOne_242 : decode c_Mo_beginOne 242 = .ok (.putfield 162, 3) := by decide +kernel
theorem d_Mo_beginOne_245 : decode c_Mo_beginOne 245 = .ok (.goto 104, 3) := by decide +kernel
theorem d_Mo_beginOne_248 : decode c_Mo_beginOne 248 = .ok (.aload_n 0, 1) := by decide +kernel
theorem d_Mo_beginOne_249 : decode c_Mo_beginOne 249 = .ok (.getfield 149, 3) := by decide +kernel
theorem d_Mo_beginOne_252 : decode c_Mo_beginOne 252 = .ok (.aload_n 0, 1) := by decide +kernel
theorem d_Mo_beginOne_253 : decode c_Mo_beginOne 253 = .ok (.getfield 152, 3) := by decide +kernel
theorem d_Mo_beginOne_256 : decode c_Mo_beginOne 256 = .ok (.iadd, 1) := by decide +kernel
theorem d_Mo_beginOne_257 : decode c_Mo_beginOne 257 = .ok (.istore 4, 2) := by decide +kernel
theorem d_Mo_beginOne_259 : decode c_Mo_beginOne 259 = .ok (.iconst 0, 1) := by decide +kernel
theorem d_Mo_beginOne_260 : decode c_Mo_beginOne 260 = .ok (.istore 5, 2) := by decide +kernel
theorem d_Mo_beginOne_262 : decode c_Mo_beginOne 262 = .ok (.iload 5, 2) := by decide +kernel
theorem d_Mo_beginOne_264 : decode c_Mo_beginOne 264 = .ok (.aload_n 0, 1) := by decide +kernel
theorem d_Mo_beginOne_265 : decode c_Mo_beginOne 265 = .ok (.getfield 9, 3) := by decide +kernel
theorem d_Mo_beginOne_268 : decode c_Mo_beginOne 268 = .ok (.iload_n 2, 1) := by decide +kernel
theorem d_Mo_beginOne_269 : decode c_Mo_beginOne 269 = .ok (.iaload, 1) := by decide +kernel
theorem d_Mo_beginOne_270 : decode c_Mo_beginOne 270 = .ok (.if_icmp .ge 40, 3) := by decide +kernel
theorem d_Mo_beginOne_273 : decode c_Mo_beginOne 273 = .ok (.aload_n 0, 1) := by decide +kernel
theorem d_Mo_beginOne_274 : decode c_Mo_beginOne 274 = .ok (.getfield 53, 3) := by decide +kernel
theorem d_Mo_beginOne_277 : decode c_Mo_beginOne 277 = .ok (.iload 4, 2) := by decide +kernel
theorem d_Mo_beginOne_279 : decode c_Mo_beginOne 279 = .ok (.iload 5, 2) := by decide +kernel
theorem d_Mo_beginOne_281 : decode c_Mo_beginOne 281 = .ok (.iadd, 1) := by decide +kernel
theorem d_Mo_beginOne_282 : decode c_Mo_beginOne 282 = .ok (.aload_n 0, 1) := by decide +kernel
theorem d_Mo_beginOne_283 : decode c_Mo_beginOne 283 = .ok (.getfield 53, 3) := by decide +kernel
theorem d_Mo_beginOne_286 : decode c_Mo_beginOne 286 = .ok (.aload_n 0, 1) := by decide +kernel
theorem d_Mo_beginOne_287 : decode c_Mo_beginOne 287 = .ok (.getfield 149, 3) := by decide +kernel
theorem d_Mo_beginOne_290 : decode c_Mo_beginOne 290 = .ok (.aload_n 0, 1) := by decide +kernel
theorem d_Mo_beginOne_291 : decode c_Mo_beginOne 291 = .ok (.getfield 13, 3) := by decide +kernel
theorem d_Mo_beginOne_294 : decode c_Mo_beginOne 294 = .ok (.iload_n 1, 1) := by decide +kernel
theorem d_Mo_beginOne_295 : decode c_Mo_beginOne 295 = .ok (.iconst 2, 1) := by decide +kernel
theorem d_Mo_beginOne_296 : decode c_Mo_beginOne 296 = .ok (.iadd, 1) := by decide +kernel
theorem d_Mo_beginOne_297 : decode c_Mo_beginOne 297 = .ok (.iload 5, 2) := by decide +kernel
theorem d_Mo_beginOne_299 : decode c_Mo_beginOne 299 = .ok (.iadd, 1) := by decide +kernel
theorem d_Mo_beginOne_300 : decode c_Mo_beginOne 300 = .ok (.iaload, 1) := by decide +kernel
theorem d_Mo_beginOne_301 : decode c_Mo_beginOne 301 = .ok (.iadd, 1) := by decide +kernel
theorem d_Mo_beginOne_302 : decode c_Mo_beginOne 302 = .ok (.iaload, 1) := by decide +kernel
theorem d_Mo_beginOne_303 : decode c_Mo_beginOne 303 = .ok (.iastore, 1) := by decide +kernel
theorem d_Mo_beginOne_304 : decode c_Mo_beginOne 304 = .ok (.iinc 5 1, 3) := by decide +kernel
theorem d_Mo_beginOne_307 : decode c_Mo_beginOne 307 = .ok (.goto (-45), 3) := by decide +kernel
theorem d_Mo_beginOne_310 : decode c_Mo_beginOne 310 = .ok (.aload_n 0, 1) := by decide +kernel
theorem d_Mo_beginOne_311 : decode c_Mo_beginOne 311 = .ok (.iconst 2, 1) := by decide +kernel
theorem d_Mo_beginOne_312 : decode c_Mo_beginOne 312 = .ok (.iconst 0, 1) := by decide +kernel
theorem d_Mo_beginOne_313 : decode c_Mo_beginOne 313 = .ok (.invokevirtual 171, 3) := by decide +kernel
theorem d_Mo_beginOne_316 : decode c_Mo_beginOne 316 = .ok (.aload_n 0, 1) := by decide +kernel
theorem d_Mo_beginOne_317 : decode c_Mo_beginOne 317 = .ok (.iload_n 2, 1) := by decide +kernel
theorem d_Mo_beginOne_318 : decode c_Mo_beginOne 318 = .ok (.iload 4, 2) := by decide +kernel
theorem d_Mo_beginOne_320 : decode c_Mo_beginOne 320 = .ok (.invokevirtual 179, 3) := by decide +kernel
theorem d_Mo_beginOne_323 : decode c_Mo_beginOne 323 = .ok (.goto 26, 3) := by decide +kernel
theorem d_Mo_beginOne_326 : decode c_Mo_beginOne 326 = .ok (.aload_n 0, 1) := by decide +kernel
theorem d_Mo_beginOne_327 : decode c_Mo_beginOne 327 = .ok (.iconst 1, 1) := by decide +kernel
theorem d_Mo_beginOne_328 : decode c_Mo_beginOne 328 = .ok (.aload_n 0, 1) := by decide +kernel
theorem d_Mo_beginOne_329 : decode c_Mo_beginOne 329 = .ok (.getfield 23, 3) := by decide +kernel
theorem d_Mo_beginOne_332 : decode c_Mo_beginOne 332 = .ok (.iload_n 1, 1) := by decide +kernel
theorem d_Mo_beginOne_333 : decode c_Mo_beginOne 333 = .ok (.iconst 1, 1) := by decide +kernel
theorem d_Mo_beginOne_334 : decode c_Mo_beginOne 334 = .ok (.iadd, 1) := by decide +kernel
theorem d_Mo_beginOne_335 : decode c_Mo_beginOne 335 = .ok (.iaload, 1) := by decide +kernel
theorem d_Mo_beginOne_336 : decode c_Mo_beginOne 336 = .ok (.invokevirtual 171, 3) := by decide +kernel
theorem d_Mo_beginOne_339 : decode c_Mo_beginOne 339 = .ok (.aload_n 0, 1) := by decide +kernel
theorem d_Mo_beginOne_340 : decode c_Mo_beginOne 340 = .ok (.dup, 1) := by decide +kernel
theorem d_Mo_beginOne_341 : decode c_Mo_beginOne 341 = .ok (.getfield 162, 3) := by decide +kernel
theorem d_Mo_beginOne_344 : decode c_Mo_beginOne 344 = .ok (.iconst 1, 1) := by decide +kernel
theorem d_Mo_beginOne_345 : decode c_Mo_beginOne 345 = .ok (.iadd, 1) := by decide +kernel
theorem d_Mo_beginOne_346 : decode c_Mo_beginOne 346 = .ok (.putfield 162, 3) := by decide +kernel
theorem d_Mo_beginOne_349 : decode c_Mo_beginOne 349 = .ok (.return_, 1) := by decide +kernel
set_option maxRecDepth 100000 in
set_option maxHeartbeats 16000000 in
/-- Mo_beginOne_0 -/
theorem g_Mo_beginOne_0 (l : Launch) (G : va_G) (k : Nat → ClassId) (h0 : Nat) (s0 : Nat) (fn : Nat) (pa : Nat) (stp : Nat) (ma : Nat → Nat) (iv : Nat → Int32) (co : Int64) (wd : Nat → Int32) (hfn : fn < 4) (hst : stp < 20000) (hpa : pa + 1 ≤ 200) (hk : wdF wd fn pa = 0) : CV l y_Mo_beginOne c_Mo_beginOne 6 { frames := 0, cells := 0, slots := 0, locals := 0 } [.ref h0] G k s0 [(h0, .inr (8, moL ma (va_up (va_up (va_up iv 8 (nI fn)) 9 (nI pa)) 4 (nI stp)) co)), ((ma 1), .inl (k 0, 800, .inl wd))] (fun (u : Unit) => True) (fun u => [(h0, .inr (8, moL ma (va_up (va_up (va_up (va_up iv 8 (nI fn)) 9 (nI pa)) 12 0) 4 (nI (stp + 1))) co)), ((ma 1), .inl (k 0, 800, .inl wd))]) 0 0 := by
  refine met_start (by decide) (Nat.le_of_ble_eq_true rfl) ?_
  intro p e s m below meth c C K hA hsz S ls hl
  generalize va_A [(h0, .inr (8, moL ma (va_up (va_up (va_up iv 8 (nI fn)) 9 (nI pa)) 4 (nI stp)) co)), ((ma 1), .inl (k 0, 800, .inl wd))] s0 = A at hA S ⊢
  have hx := C.1
  have hb := C.2.1
  have hl : lv_has ls 6 [(0, .ref h0)] := hl
  refine lv_aload_n hx hb d_Mo_beginOne_0 rfl (lv_at hl 0 rfl) ?_
  refine r_get C K S 0 rfl rfl clOk_Mo 12 (by decide) wf_Mo_165 (v := .int (nI stp)) rfl d_Mo_beginOne_1 ?_
  refine lv_sipush (v := 20000) hx hb d_Mo_beginOne_4 (by decide) ?_
  refine z_icmp_ne (a := stp) (b := 20000) (tgt := 16) hx hb d_Mo_beginOne_7 (by decide) (by omega) (by omega) (fun hc1 => ?_) (fun hc1 => False.elim (by omega))
  refine lv_aload_n hx hb d_Mo_beginOne_16 rfl (lv_at hl 0 rfl) ?_
  refine lv_dup hx hb d_Mo_beginOne_17 rfl ?_
  refine r_get C K S 0 rfl rfl clOk_Mo 12 (by decide) wf_Mo_165 (v := .int (nI stp)) rfl d_Mo_beginOne_18 ?_
  refine lv_iconst (v := 1) hx hb d_Mo_beginOne_21 (by decide) ?_
  refine z_iadd (x := nI stp) (y := 1) (v := nI (stp + 1)) hx hb d_Mo_beginOne_22 (nI_add stp 1) ?_
  refine r_put C K S 0 rfl rfl clOk_Mo 12 (by decide) wf_Mo_165 rfl (ty := .int) (v := .int (nI (stp + 1))) (by decide +kernel) rfl rfl (Nat.le_of_ble_eq_true rfl) (fs' := moL ma (va_up (va_up (va_up iv 8 (nI fn)) 9 (nI pa)) 4 (nI (stp + 1))) co) (ws' := [(h0, .inr (8, moL ma (va_up (va_up (va_up iv 8 (nI fn)) 9 (nI pa)) 4 (nI (stp + 1))) co)), ((ma 1), .inl (k 0, 800, .inl wd))]) rfl rfl d_Mo_beginOne_23 (fun H locs S => ?_)
  refine lv_sipush (v := 200) hx hb d_Mo_beginOne_26 (by decide) ?_
  refine lv_aload_n hx hb d_Mo_beginOne_29 rfl (lv_at hl 0 rfl) ?_
  refine r_get C K S 0 rfl rfl clOk_Mo 22 (by decide) wf_Mo_146 (v := .int (nI fn)) rfl d_Mo_beginOne_30 ?_
  refine z_imul (x := 200) (y := nI fn) (v := nI (200 * fn)) hx hb d_Mo_beginOne_33 (pk_mul 200 fn) ?_
  refine lv_aload_n hx hb d_Mo_beginOne_34 rfl (lv_at hl 0 rfl) ?_
  refine r_get C K S 0 rfl rfl clOk_Mo 23 (by decide) wf_Mo_162 (v := .int (nI pa)) rfl d_Mo_beginOne_35 ?_
  refine z_iadd (x := nI (200 * fn)) (y := nI pa) (v := nI (200 * fn + pa)) hx hb d_Mo_beginOne_38 (nI_add (200 * fn) pa) ?_
  refine lv_istore_n (lv' := [(1, .int (nI (200 * fn + pa))), (0, .ref h0)]) hx hb d_Mo_beginOne_39 rfl hl (by decide) rfl (fun ls hl => ?_)
  refine lv_aload_n hx hb d_Mo_beginOne_40 rfl (lv_at hl 1 rfl) ?_
  refine r_get C K S 0 rfl rfl clOk_Mo 2 (by decide) wf_Mo_13 (v := .ref (ma 1)) rfl d_Mo_beginOne_41 ?_
  refine lv_iload_n hx hb d_Mo_beginOne_44 rfl (lv_at hl 0 rfl) ?_
  refine lv_iconst (v := 1) hx hb d_Mo_beginOne_45 (by decide) ?_
  refine z_iadd (x := nI (200 * fn + pa)) (y := 1) (v := nI (200 * fn + pa + 1)) hx hb d_Mo_beginOne_46 (nI_add (200 * fn + pa) 1) ?_
  refine lv_sipush (v := 800) hx hb d_Mo_beginOne_47 (by decide) ?_
  refine z_icmp_ge (a := (200 * fn + pa + 1)) (b := 800) (tgt := 59) hx hb d_Mo_beginOne_50 (by decide) (by omega) (by omega) (fun hc2 => ?_) (fun hc2 => ?_)
  · refine lv_iload_n hx hb d_Mo_beginOne_59 rfl (lv_at hl 0 rfl) ?_
    refine r_iald C K S 1 rfl (i := nI (200 * fn + pa)) (show vp_in (nI (200 * fn + pa)) _ from vp_in_nI (n := (200 * fn + pa)) (by omega) (by decide)) (v := wdF wd fn pa) (by rw [nI_clamp (by omega)]; exact (show wd (200 * fn + pa) = wd (200 * fn + pa) from congrArg wd (by omega))) d_Mo_beginOne_60 ?_
    refine lv_istore_n (lv' := [(2, .int (wdF wd fn pa)), (1, .int (nI (200 * fn + pa))), (0, .ref h0)]) hx hb d_Mo_beginOne_61 rfl hl (by decide) rfl (fun ls hl => ?_)
    refine lv_aload_n hx hb d_Mo_beginOne_62 rfl (lv_at hl 2 rfl) ?_
    refine r_get C K S 0 rfl rfl clOk_Mo 2 (by decide) wf_Mo_13 (v := .ref (ma 1)) rfl d_Mo_beginOne_63 ?_
    refine lv_iload_n hx hb d_Mo_beginOne_66 rfl (lv_at hl 1 rfl) ?_
    refine r_iald C K S 1 rfl (i := nI (200 * fn + pa)) (show vp_in (nI (200 * fn + pa)) _ from vp_in_nI (n := (200 * fn + pa)) (by omega) (by decide)) (v := wdF wd fn pa) (by rw [nI_clamp (by omega)]; exact (show wd (200 * fn + pa) = wd (200 * fn + pa) from congrArg wd (by omega))) d_Mo_beginOne_67 ?_
    refine lv_tableIn (x := wdF wd fn pa) (off := 40) (tgt := 108) hx hb d_Mo_beginOne_68 (by rw [hk]; decide) (by rw [hk]; decide) (by rw [hk]; rfl) (by decide) ?_
    refine lv_aload_n hx hb d_Mo_beginOne_108 rfl (lv_at hl 2 rfl) ?_
    refine lv_iconst (v := 0) hx hb d_Mo_beginOne_109 (by decide) ?_
    refine r_put C K S 0 rfl rfl clOk_Mo 26 (by decide) wf_Mo_168 rfl (ty := .int) (v := .int 0) (by decide +kernel) rfl rfl (Nat.le_of_ble_eq_true rfl) (fs' := moL ma (va_up (va_up (va_up (va_up iv 8 (nI fn)) 9 (nI pa)) 4 (nI (stp + 1))) 12 0) co) (ws' := [(h0, .inr (8, moL ma (va_up (va_up (va_up (va_up iv 8 (nI fn)) 9 (nI pa)) 4 (nI (stp + 1))) 12 0) co)), ((ma 1), .inl (k 0, 800, .inl wd))]) rfl rfl d_Mo_beginOne_110 (fun H locs S => ?_)
    refine lv_goto (tgt := 349) hx hb d_Mo_beginOne_113 (by decide) ?_
    exact r_vret C K () trivial (S.sub [0, 1] (by decide) rfl) d_Mo_beginOne_349 (Nat.le_of_ble_eq_true rfl) (Nat.le_of_ble_eq_true rfl)
  · refine lv_iload_n hx hb d_Mo_beginOne_53 rfl (lv_at hl 0 rfl) ?_
    refine lv_iconst (v := 1) hx hb d_Mo_beginOne_54 (by decide) ?_
    refine z_iadd (x := nI (200 * fn + pa)) (y := 1) (v := nI (200 * fn + pa + 1)) hx hb d_Mo_beginOne_55 (nI_add (200 * fn + pa) 1) ?_
    refine lv_goto (tgt := 60) hx hb d_Mo_beginOne_56 (by decide) ?_
    refine r_iald C K S 1 rfl (i := nI (200 * fn + pa + 1)) (show vp_in (nI (200 * fn + pa + 1)) _ from vp_in_nI (n := (200 * fn + pa + 1)) (by omega) (by decide)) (v := wdF wd fn (pa + 1)) (by rw [nI_clamp (by omega)]; exact (show wd (200 * fn + pa + 1) = wd (200 * fn + (pa + 1)) from congrArg wd (by omega))) d_Mo_beginOne_60 ?_
    refine lv_istore_n (lv' := [(2, .int (wdF wd fn (pa + 1))), (1, .int (nI (200 * fn + pa))), (0, .ref h0)]) hx hb d_Mo_beginOne_61 rfl hl (by decide) rfl (fun ls hl => ?_)
    refine lv_aload_n hx hb d_Mo_beginOne_62 rfl (lv_at hl 2 rfl) ?_
    refine r_get C K S 0 rfl rfl clOk_Mo 2 (by decide) wf_Mo_13 (v := .ref (ma 1)) rfl d_Mo_beginOne_63 ?_
    refine lv_iload_n hx hb d_Mo_beginOne_66 rfl (lv_at hl 1 rfl) ?_
    refine r_iald C K S 1 rfl (i := nI (200 * fn + pa)) (show vp_in (nI (200 * fn + pa)) _ from vp_in_nI (n := (200 * fn + pa)) (by omega) (by decide)) (v := wdF wd fn pa) (by rw [nI_clamp (by omega)]; exact (show wd (200 * fn + pa) = wd (200 * fn + pa) from congrArg wd (by omega))) d_Mo_beginOne_67 ?_
    refine lv_tableIn (x := wdF wd fn pa) (off := 40) (tgt := 108) hx hb d_Mo_beginOne_68 (by rw [hk]; decide) (by rw [hk]; decide) (by rw [hk]; rfl) (by decide) ?_
    refine lv_aload_n hx hb d_Mo_beginOne_108 rfl (lv_at hl 2 rfl) ?_
    refine lv_iconst (v := 0) hx hb d_Mo_beginOne_109 (by decide) ?_
    refine r_put C K S 0 rfl rfl clOk_Mo 26 (by decide) wf_Mo_168 rfl (ty := .int) (v := .int 0) (by decide +kernel) rfl rfl (Nat.le_of_ble_eq_true rfl) (fs' := moL ma (va_up (va_up (va_up (va_up iv 8 (nI fn)) 9 (nI pa)) 4 (nI (stp + 1))) 12 0) co) (ws' := [(h0, .inr (8, moL ma (va_up (va_up (va_up (va_up iv 8 (nI fn)) 9 (nI pa)) 4 (nI (stp + 1))) 12 0) co)), ((ma 1), .inl (k 0, 800, .inl wd))]) rfl rfl d_Mo_beginOne_110 (fun H locs S => ?_)
    refine lv_goto (tgt := 349) hx hb d_Mo_beginOne_113 (by decide) ?_
    exact r_vret C K () trivial (S.sub [0, 1] (by decide) rfl) d_Mo_beginOne_349 (Nat.le_of_ble_eq_true rfl) (Nat.le_of_ble_eq_true rfl)
set_option maxRecDepth 100000 in
set_option maxHeartbeats 16000000 in
/-- Mo_beginOne_1 -/
theorem g_Mo_beginOne_1 (l : Launch) (G : va_G) (k : Nat → ClassId) (h0 : Nat) (s0 : Nat) (fn : Nat) (pa : Nat) (stp : Nat) (v9 : Nat) (bs : Nat) (vr : Nat → Int32) (ma : Nat → Nat) (iv : Nat → Int32) (co : Int64) (wd : Nat → Int32) (hfn : fn < 4) (hst : stp < 20000) (hpa : pa + 2 ≤ 200) (hv : wdF wd fn (pa + 1) = nI v9) (hb9 : bs + v9 < 1400) (hk : wdF wd fn pa = 1) : CV l y_Mo_beginOne c_Mo_beginOne 6 { frames := 0, cells := 0, slots := 0, locals := 0 } [.ref h0] G k s0 [(h0, .inr (8, moL ma (va_up (va_up (va_up (va_up iv 8 (nI fn)) 9 (nI pa)) 4 (nI stp)) 6 (nI bs)) co)), ((ma 1), .inl (k 0, 800, .inl wd)), ((ma 12), .inl (k 0, 1400, .inl vr))] (fun (u : Unit) => True) (fun u => [(h0, .inr (8, moL ma (va_up (va_up (va_up (va_up (va_up iv 8 (nI fn)) 9 (nI pa)) 6 (nI bs)) 12 (vr (bs + v9))) 4 (nI (stp + 1))) co)), ((ma 1), .inl (k 0, 800, .inl wd)), ((ma 12), .inl (k 0, 1400, .inl vr))]) 0 0 := by
  refine met_start (by decide) (Nat.le_of_ble_eq_true rfl) ?_
  intro p e s m below meth c C K hA hsz S ls hl
  generalize va_A [(h0, .inr (8, moL ma (va_up (va_up (va_up (va_up iv 8 (nI fn)) 9 (nI pa)) 4 (nI stp)) 6 (nI bs)) co)), ((ma 1), .inl (k 0, 800, .inl wd)), ((ma 12), .inl (k 0, 1400, .inl vr))] s0 = A at hA S ⊢
  have hx := C.1
  have hb := C.2.1
  have hl : lv_has ls 6 [(0, .ref h0)] := hl
  refine lv_aload_n hx hb d_Mo_beginOne_0 rfl (lv_at hl 0 rfl) ?_
  refine r_get C K S 0 rfl rfl clOk_Mo 12 (by decide) wf_Mo_165 (v := .int (nI stp)) rfl d_Mo_beginOne_1 ?_
  refine lv_sipush (v := 20000) hx hb d_Mo_beginOne_4 (by decide) ?_
  refine z_icmp_ne (a := stp) (b := 20000) (tgt := 16) hx hb d_Mo_beginOne_7 (by decide) (by omega) (by omega) (fun hc1 => ?_) (fun hc1 => False.elim (by omega))
  refine lv_aload_n hx hb d_Mo_beginOne_16 rfl (lv_at hl 0 rfl) ?_
  refine lv_dup hx hb d_Mo_beginOne_17 rfl ?_
  refine r_get C K S 0 rfl rfl clOk_Mo 12 (by decide) wf_Mo_165 (v := .int (nI stp)) rfl d_Mo_beginOne_18 ?_
  refine lv_iconst (v := 1) hx hb d_Mo_beginOne_21 (by decide) ?_
  refine z_iadd (x := nI stp) (y := 1) (v := nI (stp + 1)) hx hb d_Mo_beginOne_22 (nI_add stp 1) ?_
  refine r_put C K S 0 rfl rfl clOk_Mo 12 (by decide) wf_Mo_165 rfl (ty := .int) (v := .int (nI (stp + 1))) (by decide +kernel) rfl rfl (Nat.le_of_ble_eq_true rfl) (fs' := moL ma (va_up (va_up (va_up (va_up iv 8 (nI fn)) 9 (nI pa)) 6 (nI bs)) 4 (nI (stp + 1))) co) (ws' := [(h0, .inr (8, moL ma (va_up (va_up (va_up (va_up iv 8 (nI fn)) 9 (nI pa)) 6 (nI bs)) 4 (nI (stp + 1))) co)), ((ma 1), .inl (k 0, 800, .inl wd)), ((ma 12), .inl (k 0, 1400, .inl vr))]) rfl rfl d_Mo_beginOne_23 (fun H locs S => ?_)
  refine lv_sipush (v := 200) hx hb d_Mo_beginOne_26 (by decide) ?_
  refine lv_aload_n hx hb d_Mo_beginOne_29 rfl (lv_at hl 0 rfl) ?_
  refine r_get C K S 0 rfl rfl clOk_Mo 22 (by decide) wf_Mo_146 (v := .int (nI fn)) rfl d_Mo_beginOne_30 ?_
  refine z_imul (x := 200) (y := nI fn) (v := nI (200 * fn)) hx hb d_Mo_beginOne_33 (pk_mul 200 fn) ?_
  refine lv_aload_n hx hb d_Mo_beginOne_34 rfl (lv_at hl 0 rfl) ?_
  refine r_get C K S 0 rfl rfl clOk_Mo 23 (by decide) wf_Mo_162 (v := .int (nI pa)) rfl d_Mo_beginOne_35 ?_
  refine z_iadd (x := nI (200 * fn)) (y := nI pa) (v := nI (200 * fn + pa)) hx hb d_Mo_beginOne_38 (nI_add (200 * fn) pa) ?_
  refine lv_istore_n (lv' := [(1, .int (nI (200 * fn + pa))), (0, .ref h0)]) hx hb d_Mo_beginOne_39 rfl hl (by decide) rfl (fun ls hl => ?_)
  refine lv_aload_n hx hb d_Mo_beginOne_40 rfl (lv_at hl 1 rfl) ?_
  refine r_get C K S 0 rfl rfl clOk_Mo 2 (by decide) wf_Mo_13 (v := .ref (ma 1)) rfl d_Mo_beginOne_41 ?_
  refine lv_iload_n hx hb d_Mo_beginOne_44 rfl (lv_at hl 0 rfl) ?_
  refine lv_iconst (v := 1) hx hb d_Mo_beginOne_45 (by decide) ?_
  refine z_iadd (x := nI (200 * fn + pa)) (y := 1) (v := nI (200 * fn + pa + 1)) hx hb d_Mo_beginOne_46 (nI_add (200 * fn + pa) 1) ?_
  refine lv_sipush (v := 800) hx hb d_Mo_beginOne_47 (by decide) ?_
  refine z_icmp_ge (a := (200 * fn + pa + 1)) (b := 800) (tgt := 59) hx hb d_Mo_beginOne_50 (by decide) (by omega) (by omega) (fun hc2 => False.elim (by omega)) (fun hc2 => ?_)
  refine lv_iload_n hx hb d_Mo_beginOne_53 rfl (lv_at hl 0 rfl) ?_
  refine lv_iconst (v := 1) hx hb d_Mo_beginOne_54 (by decide) ?_
  refine z_iadd (x := nI (200 * fn + pa)) (y := 1) (v := nI (200 * fn + pa + 1)) hx hb d_Mo_beginOne_55 (nI_add (200 * fn + pa) 1) ?_
  refine lv_goto (tgt := 60) hx hb d_Mo_beginOne_56 (by decide) ?_
  refine r_iald C K S 1 rfl (i := nI (200 * fn + pa + 1)) (show vp_in (nI (200 * fn + pa + 1)) _ from vp_in_nI (n := (200 * fn + pa + 1)) (by omega) (by decide)) (v := wdF wd fn (pa + 1)) (by rw [nI_clamp (by omega)]; exact (show wd (200 * fn + pa + 1) = wd (200 * fn + (pa + 1)) from congrArg wd (by omega))) d_Mo_beginOne_60 ?_
  rw [hv]
  refine lv_istore_n (lv' := [(2, .int (nI v9)), (1, .int (nI (200 * fn + pa))), (0, .ref h0)]) hx hb d_Mo_beginOne_61 rfl hl (by decide) rfl (fun ls hl => ?_)
  refine lv_aload_n hx hb d_Mo_beginOne_62 rfl (lv_at hl 2 rfl) ?_
  refine r_get C K S 0 rfl rfl clOk_Mo 2 (by decide) wf_Mo_13 (v := .ref (ma 1)) rfl d_Mo_beginOne_63 ?_
  refine lv_iload_n hx hb d_Mo_beginOne_66 rfl (lv_at hl 1 rfl) ?_
  refine r_iald C K S 1 rfl (i := nI (200 * fn + pa)) (show vp_in (nI (200 * fn + pa)) _ from vp_in_nI (n := (200 * fn + pa)) (by omega) (by decide)) (v := wdF wd fn pa) (by rw [nI_clamp (by omega)]; exact (show wd (200 * fn + pa) = wd (200 * fn + pa) from congrArg wd (by omega))) d_Mo_beginOne_67 ?_
  refine lv_tableIn (x := wdF wd fn pa) (off := 48) (tgt := 116) hx hb d_Mo_beginOne_68 (by rw [hk]; decide) (by rw [hk]; decide) (by rw [hk]; rfl) (by decide) ?_
  refine lv_aload_n hx hb d_Mo_beginOne_116 rfl (lv_at hl 2 rfl) ?_
  refine lv_aload_n hx hb d_Mo_beginOne_117 rfl (lv_at hl 2 rfl) ?_
  refine r_get C K S 0 rfl rfl clOk_Mo 19 (by decide) wf_Mo_53 (v := .ref (ma 12)) rfl d_Mo_beginOne_118 ?_
  refine lv_aload_n hx hb d_Mo_beginOne_121 rfl (lv_at hl 2 rfl) ?_
  refine r_get C K S 0 rfl rfl clOk_Mo 20 (by decide) wf_Mo_149 (v := .int (nI bs)) rfl d_Mo_beginOne_122 ?_
  refine lv_iload_n hx hb d_Mo_beginOne_125 rfl (lv_at hl 0 rfl) ?_
  refine z_iadd (x := nI bs) (y := nI v9) (v := nI (bs + v9)) hx hb d_Mo_beginOne_126 (nI_add bs v9) ?_
  refine r_iald C K S 2 rfl (i := nI (bs + v9)) (show vp_in (nI (bs + v9)) _ from vp_in_nI (n := (bs + v9)) (by omega) (by decide)) (v := vr (bs + v9)) (by rw [nI_clamp (by omega)]) d_Mo_beginOne_127 ?_
  refine r_put C K S 0 rfl rfl clOk_Mo 26 (by decide) wf_Mo_168 rfl (ty := .int) (v := .int (vr (bs + v9))) (by decide +kernel) rfl rfl (Nat.le_of_ble_eq_true rfl) (fs' := moL ma (va_up (va_up (va_up (va_up (va_up iv 8 (nI fn)) 9 (nI pa)) 6 (nI bs)) 4 (nI (stp + 1))) 12 (vr (bs + v9))) co) (ws' := [(h0, .inr (8, moL ma (va_up (va_up (va_up (va_up (va_up iv 8 (nI fn)) 9 (nI pa)) 6 (nI bs)) 4 (nI (stp + 1))) 12 (vr (bs + v9))) co)), ((ma 1), .inl (k 0, 800, .inl wd)), ((ma 12), .inl (k 0, 1400, .inl vr))]) rfl rfl d_Mo_beginOne_128 (fun H locs S => ?_)
  refine lv_goto (tgt := 349) hx hb d_Mo_beginOne_131 (by decide) ?_
  exact r_vret C K () trivial (S.sub [0, 1, 2] (by decide) rfl) d_Mo_beginOne_349 (Nat.le_of_ble_eq_true rfl) (Nat.le_of_ble_eq_true rfl)
set_option maxRecDepth 100000 in
set_option maxHeartbeats 16000000 in
/-- Mo_beginOne_2 -/
theorem g_Mo_beginOne_2 (l : Launch) (G : va_G) (k : Nat → ClassId) (h0 : Nat) (s0 : Nat) (fn : Nat) (pa : Nat) (stp : Nat) (bs : Nat) (kn : Nat) (wt : Nat) (WK : Nat → Nat) (WF : Nat → Nat) (WA : Nat → Nat) (WB : Nat → Nat) (WN : Nat → Nat) (ma : Nat → Nat) (iv : Nat → Int32) (co : Int64) (wd : Nat → Int32) (hfn : fn < 4) (hst : stp < 20000) (hpa : pa + 1 ≤ 200) (hwt : wt < 1200) (hk : wdF wd fn pa = 2) : CV l y_Mo_beginOne c_Mo_beginOne 6 { frames := 1, cells := 0, slots := 0, locals := 22 } [.ref h0] G k s0 [(h0, .inr (8, moL ma (va_up (va_up (va_up (va_up (va_up (va_up iv 8 (nI fn)) 9 (nI pa)) 4 (nI stp)) 6 (nI bs)) 7 (nI kn)) 5 (nI wt)) co)), ((ma 1), .inl (k 0, 800, .inl wd)), ((ma 7), .inl (k 0, 1200, .inl (fun i => nI (WK i)))), ((ma 8), .inl (k 0, 1200, .inl (fun i => nI (WF i)))), ((ma 9), .inl (k 0, 1200, .inl (fun i => nI (WA i)))), ((ma 10), .inl (k 0, 1200, .inl (fun i => nI (WB i)))), ((ma 11), .inl (k 0, 1200, .inl (fun i => nI (WN i))))] (fun (u : Unit) => True) (fun u => [(h0, .inr (8, moL ma (va_up (va_up (va_up (va_up (va_up (va_up iv 8 (nI fn)) 9 (nI (pa + 1))) 6 (nI bs)) 7 (nI kn)) 5 (nI (wt + 1))) 4 (nI (stp + 1))) co)), ((ma 1), .inl (k 0, 800, .inl wd)), ((ma 7), .inl (k 0, 1200, .inl (fun i => nI ((va_up WK wt 0) i)))), ((ma 8), .inl (k 0, 1200, .inl (fun i => nI ((va_up WF wt fn) i)))), ((ma 9), .inl (k 0, 1200, .inl (fun i => nI ((va_up WA wt 0) i)))), ((ma 10), .inl (k 0, 1200, .inl (fun i => nI ((va_up WB wt bs) i)))), ((ma 11), .inl (k 0, 1200, .inl (fun i => nI ((va_up WN wt kn) i))))]) 0 0 := by
  refine met_start (by decide) (Nat.le_of_ble_eq_true rfl) ?_
  intro p e s m below meth c C K hA hsz S ls hl
  generalize va_A [(h0, .inr (8, moL ma (va_up (va_up (va_up (va_up (va_up (va_up iv 8 (nI fn)) 9 (nI pa)) 4 (nI stp)) 6 (nI bs)) 7 (nI kn)) 5 (nI wt)) co)), ((ma 1), .inl (k 0, 800, .inl wd)), ((ma 7), .inl (k 0, 1200, .inl (fun i => nI (WK i)))), ((ma 8), .inl (k 0, 1200, .inl (fun i => nI (WF i)))), ((ma 9), .inl (k 0, 1200, .inl (fun i => nI (WA i)))), ((ma 10), .inl (k 0, 1200, .inl (fun i => nI (WB i)))), ((ma 11), .inl (k 0, 1200, .inl (fun i => nI (WN i))))] s0 = A at hA S ⊢
  have hx := C.1
  have hb := C.2.1
  have hl : lv_has ls 6 [(0, .ref h0)] := hl
  refine lv_aload_n hx hb d_Mo_beginOne_0 rfl (lv_at hl 0 rfl) ?_
  refine r_get C K S 0 rfl rfl clOk_Mo 12 (by decide) wf_Mo_165 (v := .int (nI stp)) rfl d_Mo_beginOne_1 ?_
  refine lv_sipush (v := 20000) hx hb d_Mo_beginOne_4 (by decide) ?_
  refine z_icmp_ne (a := stp) (b := 20000) (tgt := 16) hx hb d_Mo_beginOne_7 (by decide) (by omega) (by omega) (fun hc1 => ?_) (fun hc1 => False.elim (by omega))
  refine lv_aload_n hx hb d_Mo_beginOne_16 rfl (lv_at hl 0 rfl) ?_
  refine lv_dup hx hb d_Mo_beginOne_17 rfl ?_
  refine r_get C K S 0 rfl rfl clOk_Mo 12 (by decide) wf_Mo_165 (v := .int (nI stp)) rfl d_Mo_beginOne_18 ?_
  refine lv_iconst (v := 1) hx hb d_Mo_beginOne_21 (by decide) ?_
  refine z_iadd (x := nI stp) (y := 1) (v := nI (stp + 1)) hx hb d_Mo_beginOne_22 (nI_add stp 1) ?_
  refine r_put C K S 0 rfl rfl clOk_Mo 12 (by decide) wf_Mo_165 rfl (ty := .int) (v := .int (nI (stp + 1))) (by decide +kernel) rfl rfl (Nat.le_of_ble_eq_true rfl) (fs' := moL ma (va_up (va_up (va_up (va_up (va_up (va_up iv 8 (nI fn)) 9 (nI pa)) 6 (nI bs)) 7 (nI kn)) 5 (nI wt)) 4 (nI (stp + 1))) co) (ws' := [(h0, .inr (8, moL ma (va_up (va_up (va_up (va_up (va_up (va_up iv 8 (nI fn)) 9 (nI pa)) 6 (nI bs)) 7 (nI kn)) 5 (nI wt)) 4 (nI (stp + 1))) co)), ((ma 1), .inl (k 0, 800, .inl wd)), ((ma 7), .inl (k 0, 1200, .inl (fun i => nI (WK i)))), ((ma 8), .inl (k 0, 1200, .inl (fun i => nI (WF i)))), ((ma 9), .inl (k 0, 1200, .inl (fun i => nI (WA i)))), ((ma 10), .inl (k 0, 1200, .inl (fun i => nI (WB i)))), ((ma 11), .inl (k 0, 1200, .inl (fun i => nI (WN i))))]) rfl rfl d_Mo_beginOne_23 (fun H locs S => ?_)
  refine lv_sipush (v := 200) hx hb d_Mo_beginOne_26 (by decide) ?_
  refine lv_aload_n hx hb d_Mo_beginOne_29 rfl (lv_at hl 0 rfl) ?_
  refine r_get C K S 0 rfl rfl clOk_Mo 22 (by decide) wf_Mo_146 (v := .int (nI fn)) rfl d_Mo_beginOne_30 ?_
  refine z_imul (x := 200) (y := nI fn) (v := nI (200 * fn)) hx hb d_Mo_beginOne_33 (pk_mul 200 fn) ?_
  refine lv_aload_n hx hb d_Mo_beginOne_34 rfl (lv_at hl 0 rfl) ?_
  refine r_get C K S 0 rfl rfl clOk_Mo 23 (by decide) wf_Mo_162 (v := .int (nI pa)) rfl d_Mo_beginOne_35 ?_
  refine z_iadd (x := nI (200 * fn)) (y := nI pa) (v := nI (200 * fn + pa)) hx hb d_Mo_beginOne_38 (nI_add (200 * fn) pa) ?_
  refine lv_istore_n (lv' := [(1, .int (nI (200 * fn + pa))), (0, .ref h0)]) hx hb d_Mo_beginOne_39 rfl hl (by decide) rfl (fun ls hl => ?_)
  refine lv_aload_n hx hb d_Mo_beginOne_40 rfl (lv_at hl 1 rfl) ?_
  refine r_get C K S 0 rfl rfl clOk_Mo 2 (by decide) wf_Mo_13 (v := .ref (ma 1)) rfl d_Mo_beginOne_41 ?_
  refine lv_iload_n hx hb d_Mo_beginOne_44 rfl (lv_at hl 0 rfl) ?_
  refine lv_iconst (v := 1) hx hb d_Mo_beginOne_45 (by decide) ?_
  refine z_iadd (x := nI (200 * fn + pa)) (y := 1) (v := nI (200 * fn + pa + 1)) hx hb d_Mo_beginOne_46 (nI_add (200 * fn + pa) 1) ?_
  refine lv_sipush (v := 800) hx hb d_Mo_beginOne_47 (by decide) ?_
  refine z_icmp_ge (a := (200 * fn + pa + 1)) (b := 800) (tgt := 59) hx hb d_Mo_beginOne_50 (by decide) (by omega) (by omega) (fun hc2 => ?_) (fun hc2 => ?_)
  · refine lv_iload_n hx hb d_Mo_beginOne_59 rfl (lv_at hl 0 rfl) ?_
    refine r_iald C K S 1 rfl (i := nI (200 * fn + pa)) (show vp_in (nI (200 * fn + pa)) _ from vp_in_nI (n := (200 * fn + pa)) (by omega) (by decide)) (v := wdF wd fn pa) (by rw [nI_clamp (by omega)]; exact (show wd (200 * fn + pa) = wd (200 * fn + pa) from congrArg wd (by omega))) d_Mo_beginOne_60 ?_
    refine lv_istore_n (lv' := [(2, .int (wdF wd fn pa)), (1, .int (nI (200 * fn + pa))), (0, .ref h0)]) hx hb d_Mo_beginOne_61 rfl hl (by decide) rfl (fun ls hl => ?_)
    refine lv_aload_n hx hb d_Mo_beginOne_62 rfl (lv_at hl 2 rfl) ?_
    refine r_get C K S 0 rfl rfl clOk_Mo 2 (by decide) wf_Mo_13 (v := .ref (ma 1)) rfl d_Mo_beginOne_63 ?_
    refine lv_iload_n hx hb d_Mo_beginOne_66 rfl (lv_at hl 1 rfl) ?_
    refine r_iald C K S 1 rfl (i := nI (200 * fn + pa)) (show vp_in (nI (200 * fn + pa)) _ from vp_in_nI (n := (200 * fn + pa)) (by omega) (by decide)) (v := wdF wd fn pa) (by rw [nI_clamp (by omega)]; exact (show wd (200 * fn + pa) = wd (200 * fn + pa) from congrArg wd (by omega))) d_Mo_beginOne_67 ?_
    refine lv_tableIn (x := wdF wd fn pa) (off := 66) (tgt := 134) hx hb d_Mo_beginOne_68 (by rw [hk]; decide) (by rw [hk]; decide) (by rw [hk]; rfl) (by decide) ?_
    refine lv_aload_n hx hb d_Mo_beginOne_134 rfl (lv_at hl 2 rfl) ?_
    refine lv_iconst (v := 0) hx hb d_Mo_beginOne_135 (by decide) ?_
    refine lv_iconst (v := 0) hx hb d_Mo_beginOne_136 (by decide) ?_
    refine r_backv (wi := [(h0, .inr (8, moL ma (va_up (va_up (va_up (va_up (va_up (va_up iv 9 (nI pa)) 4 (nI (stp + 1))) 8 (nI fn)) 6 (nI bs)) 7 (nI kn)) 5 (nI wt)) co)), ((ma 7), .inl (k 0, 1200, .inl (fun i => nI (WK i)))), ((ma 8), .inl (k 0, 1200, .inl (fun i => nI (WF i)))), ((ma 9), .inl (k 0, 1200, .inl (fun i => nI (WA i)))), ((ma 10), .inl (k 0, 1200, .inl (fun i => nI (WB i)))), ((ma 11), .inl (k 0, 1200, .inl (fun i => nI (WN i))))]) (wr := [((ma 1), .inl (k 0, 800, .inl wd))]) S hA [0, 2, 3, 4, 5, 6] [1] rfl rfl (by decide) (by decide) (va_runV (As := [.int 0, .int 0]) (rest := []) ⟨hx, hb, C.2.2.1, C.2.2.2.1, C.2.2.2.2.1⟩ (g_Mo_wait l G k h0 _ 0 0 fn bs kn wt ma (va_up (va_up iv 9 (nI pa)) 4 (nI (stp + 1))) co WK WF WA WB WN hwt) (k_virt (n := 2) C wc_Mo_wait rfl rfl wz_Mo wm_Mo_171 wn_Mo_wait ws_Mo_wait (by decide +kernel) ⟨(Nat.le_of_ble_eq_true rfl), (Nat.le_of_ble_eq_true rfl)⟩) (pr_nowV K S [0, 2, 3, 4, 5, 6] (by decide) rfl 0 rfl rfl) rfl rfl hl.1 rfl (lv_room (Nat.le_of_ble_eq_true rfl)) d_Mo_beginOne_137 ⟨(Nat.le_of_ble_eq_true rfl), (Nat.le_of_ble_eq_true rfl)⟩) (fun u3 H locs hw4 S => ?_)
    have S : Sw G A s.heap _ _ [((ma 1), .inl (k 0, 800, .inl wd)), (h0, .inr (8, moL ma (va_up (va_up (va_up (va_up (va_up (va_up iv 9 (nI pa)) 4 (nI (stp + 1))) 8 (nI fn)) 6 (nI bs)) 7 (nI kn)) 5 (nI (wt + 1))) co)), ((ma 7), .inl (k 0, 1200, .inl (fun i => nI ((va_up WK wt 0) i)))), ((ma 8), .inl (k 0, 1200, .inl (fun i => nI ((va_up WF wt fn) i)))), ((ma 9), .inl (k 0, 1200, .inl (fun i => nI ((va_up WA wt 0) i)))), ((ma 10), .inl (k 0, 1200, .inl (fun i => nI ((va_up WB wt bs) i)))), ((ma 11), .inl (k 0, 1200, .inl (fun i => nI ((va_up WN wt kn) i))))] := S
    refine lv_aload_n hx hb d_Mo_beginOne_140 rfl (lv_at hl 2 rfl) ?_
    refine lv_dup hx hb d_Mo_beginOne_141 rfl ?_
    refine r_get C K S 1 rfl rfl clOk_Mo 23 (by decide) wf_Mo_162 (v := .int (nI pa)) rfl d_Mo_beginOne_142 ?_
    refine lv_iconst (v := 1) hx hb d_Mo_beginOne_145 (by decide) ?_
    refine z_iadd (x := nI pa) (y := 1) (v := nI (pa + 1)) hx hb d_Mo_beginOne_146 (nI_add pa 1) ?_
    refine r_put C K S 1 rfl rfl clOk_Mo 23 (by decide) wf_Mo_162 rfl (ty := .int) (v := .int (nI (pa + 1))) (by decide +kernel) rfl rfl (Nat.le_of_ble_eq_true rfl) (fs' := moL ma (va_up (va_up (va_up (va_up (va_up (va_up iv 4 (nI (stp + 1))) 8 (nI fn)) 6 (nI bs)) 7 (nI kn)) 5 (nI (wt + 1))) 9 (nI (pa + 1))) co) (ws' := [((ma 1), .inl (k 0, 800, .inl wd)), (h0, .inr (8, moL ma (va_up (va_up (va_up (va_up (va_up (va_up iv 4 (nI (stp + 1))) 8 (nI fn)) 6 (nI bs)) 7 (nI kn)) 5 (nI (wt + 1))) 9 (nI (pa + 1))) co)), ((ma 7), .inl (k 0, 1200, .inl (fun i => nI ((va_up WK wt 0) i)))), ((ma 8), .inl (k 0, 1200, .inl (fun i => nI ((va_up WF wt fn) i)))), ((ma 9), .inl (k 0, 1200, .inl (fun i => nI ((va_up WA wt 0) i)))), ((ma 10), .inl (k 0, 1200, .inl (fun i => nI ((va_up WB wt bs) i)))), ((ma 11), .inl (k 0, 1200, .inl (fun i => nI ((va_up WN wt kn) i))))]) rfl rfl d_Mo_beginOne_147 (fun H locs S => ?_)
    refine lv_goto (tgt := 349) hx hb d_Mo_beginOne_150 (by decide) ?_
    exact r_vret C K () trivial (S.sub [1, 0, 2, 3, 4, 5, 6] (by decide) rfl) d_Mo_beginOne_349 (Nat.le_of_ble_eq_true rfl) (Nat.le_of_ble_eq_true rfl)
  · refine lv_iload_n hx hb d_Mo_beginOne_53 rfl (lv_at hl 0 rfl) ?_
    refine lv_iconst (v := 1) hx hb d_Mo_beginOne_54 (by decide) ?_
    refine z_iadd (x := nI (200 * fn + pa)) (y := 1) (v := nI (200 * fn + pa + 1)) hx hb d_Mo_beginOne_55 (nI_add (200 * fn + pa) 1) ?_
    refine lv_goto (tgt := 60) hx hb d_Mo_beginOne_56 (by decide) ?_
    refine r_iald C K S 1 rfl (i := nI (200 * fn + pa + 1)) (show vp_in (nI (200 * fn + pa + 1)) _ from vp_in_nI (n := (200 * fn + pa + 1)) (by omega) (by decide)) (v := wdF wd fn (pa + 1)) (by rw [nI_clamp (by omega)]; exact (show wd (200 * fn + pa + 1) = wd (200 * fn + (pa + 1)) from congrArg wd (by omega))) d_Mo_beginOne_60 ?_
    refine lv_istore_n (lv' := [(2, .int (wdF wd fn (pa + 1))), (1, .int (nI (200 * fn + pa))), (0, .ref h0)]) hx hb d_Mo_beginOne_61 rfl hl (by decide) rfl (fun ls hl => ?_)
    refine lv_aload_n hx hb d_Mo_beginOne_62 rfl (lv_at hl 2 rfl) ?_
    refine r_get C K S 0 rfl rfl clOk_Mo 2 (by decide) wf_Mo_13 (v := .ref (ma 1)) rfl d_Mo_beginOne_63 ?_
    refine lv_iload_n hx hb d_Mo_beginOne_66 rfl (lv_at hl 1 rfl) ?_
    refine r_iald C K S 1 rfl (i := nI (200 * fn + pa)) (show vp_in (nI (200 * fn + pa)) _ from vp_in_nI (n := (200 * fn + pa)) (by omega) (by decide)) (v := wdF wd fn pa) (by rw [nI_clamp (by omega)]; exact (show wd (200 * fn + pa) = wd (200 * fn + pa) from congrArg wd (by omega))) d_Mo_beginOne_67 ?_
    refine lv_tableIn (x := wdF wd fn pa) (off := 66) (tgt := 134) hx hb d_Mo_beginOne_68 (by rw [hk]; decide) (by rw [hk]; decide) (by rw [hk]; rfl) (by decide) ?_
    refine lv_aload_n hx hb d_Mo_beginOne_134 rfl (lv_at hl 2 rfl) ?_
    refine lv_iconst (v := 0) hx hb d_Mo_beginOne_135 (by decide) ?_
    refine lv_iconst (v := 0) hx hb d_Mo_beginOne_136 (by decide) ?_
    refine r_backv (wi := [(h0, .inr (8, moL ma (va_up (va_up (va_up (va_up (va_up (va_up iv 9 (nI pa)) 4 (nI (stp + 1))) 8 (nI fn)) 6 (nI bs)) 7 (nI kn)) 5 (nI wt)) co)), ((ma 7), .inl (k 0, 1200, .inl (fun i => nI (WK i)))), ((ma 8), .inl (k 0, 1200, .inl (fun i => nI (WF i)))), ((ma 9), .inl (k 0, 1200, .inl (fun i => nI (WA i)))), ((ma 10), .inl (k 0, 1200, .inl (fun i => nI (WB i)))), ((ma 11), .inl (k 0, 1200, .inl (fun i => nI (WN i))))]) (wr := [((ma 1), .inl (k 0, 800, .inl wd))]) S hA [0, 2, 3, 4, 5, 6] [1] rfl rfl (by decide) (by decide) (va_runV (As := [.int 0, .int 0]) (rest := []) ⟨hx, hb, C.2.2.1, C.2.2.2.1, C.2.2.2.2.1⟩ (g_Mo_wait l G k h0 _ 0 0 fn bs kn wt ma (va_up (va_up iv 9 (nI pa)) 4 (nI (stp + 1))) co WK WF WA WB WN hwt) (k_virt (n := 2) C wc_Mo_wait rfl rfl wz_Mo wm_Mo_171 wn_Mo_wait ws_Mo_wait (by decide +kernel) ⟨(Nat.le_of_ble_eq_true rfl), (Nat.le_of_ble_eq_true rfl)⟩) (pr_nowV K S [0, 2, 3, 4, 5, 6] (by decide) rfl 0 rfl rfl) rfl rfl hl.1 rfl (lv_room (Nat.le_of_ble_eq_true rfl)) d_Mo_beginOne_137 ⟨(Nat.le_of_ble_eq_true rfl), (Nat.le_of_ble_eq_true rfl)⟩) (fun u5 H locs hw6 S => ?_)
    have S : Sw G A s.heap _ _ [((ma 1), .inl (k 0, 800, .inl wd)), (h0, .inr (8, moL ma (va_up (va_up (va_up (va_up (va_up (va_up iv 9 (nI pa)) 4 (nI (stp + 1))) 8 (nI fn)) 6 (nI bs)) 7 (nI kn)) 5 (nI (wt + 1))) co)), ((ma 7), .inl (k 0, 1200, .inl (fun i => nI ((va_up WK wt 0) i)))), ((ma 8), .inl (k 0, 1200, .inl (fun i => nI ((va_up WF wt fn) i)))), ((ma 9), .inl (k 0, 1200, .inl (fun i => nI ((va_up WA wt 0) i)))), ((ma 10), .inl (k 0, 1200, .inl (fun i => nI ((va_up WB wt bs) i)))), ((ma 11), .inl (k 0, 1200, .inl (fun i => nI ((va_up WN wt kn) i))))] := S
    refine lv_aload_n hx hb d_Mo_beginOne_140 rfl (lv_at hl 2 rfl) ?_
    refine lv_dup hx hb d_Mo_beginOne_141 rfl ?_
    refine r_get C K S 1 rfl rfl clOk_Mo 23 (by decide) wf_Mo_162 (v := .int (nI pa)) rfl d_Mo_beginOne_142 ?_
    refine lv_iconst (v := 1) hx hb d_Mo_beginOne_145 (by decide) ?_
    refine z_iadd (x := nI pa) (y := 1) (v := nI (pa + 1)) hx hb d_Mo_beginOne_146 (nI_add pa 1) ?_
    refine r_put C K S 1 rfl rfl clOk_Mo 23 (by decide) wf_Mo_162 rfl (ty := .int) (v := .int (nI (pa + 1))) (by decide +kernel) rfl rfl (Nat.le_of_ble_eq_true rfl) (fs' := moL ma (va_up (va_up (va_up (va_up (va_up (va_up iv 4 (nI (stp + 1))) 8 (nI fn)) 6 (nI bs)) 7 (nI kn)) 5 (nI (wt + 1))) 9 (nI (pa + 1))) co) (ws' := [((ma 1), .inl (k 0, 800, .inl wd)), (h0, .inr (8, moL ma (va_up (va_up (va_up (va_up (va_up (va_up iv 4 (nI (stp + 1))) 8 (nI fn)) 6 (nI bs)) 7 (nI kn)) 5 (nI (wt + 1))) 9 (nI (pa + 1))) co)), ((ma 7), .inl (k 0, 1200, .inl (fun i => nI ((va_up WK wt 0) i)))), ((ma 8), .inl (k 0, 1200, .inl (fun i => nI ((va_up WF wt fn) i)))), ((ma 9), .inl (k 0, 1200, .inl (fun i => nI ((va_up WA wt 0) i)))), ((ma 10), .inl (k 0, 1200, .inl (fun i => nI ((va_up WB wt bs) i)))), ((ma 11), .inl (k 0, 1200, .inl (fun i => nI ((va_up WN wt kn) i))))]) rfl rfl d_Mo_beginOne_147 (fun H locs S => ?_)
    refine lv_goto (tgt := 349) hx hb d_Mo_beginOne_150 (by decide) ?_
    exact r_vret C K () trivial (S.sub [1, 0, 2, 3, 4, 5, 6] (by decide) rfl) d_Mo_beginOne_349 (Nat.le_of_ble_eq_true rfl) (Nat.le_of_ble_eq_true rfl)
set_option maxRecDepth 100000 in
set_option maxHeartbeats 16000000 in
/-- Mo_beginOne_6 -/
theorem g_Mo_beginOne_6 (l : Launch) (G : va_G) (k : Nat → ClassId) (h0 : Nat) (s0 : Nat) (fn : Nat) (pa : Nat) (stp : Nat) (m9 : Nat) (bs : Nat) (kn : Nat) (wt : Nat) (WK : Nat → Nat) (WF : Nat → Nat) (WA : Nat → Nat) (WB : Nat → Nat) (WN : Nat → Nat) (En : Nat → Nat) (ma : Nat → Nat) (iv : Nat → Int32) (co : Int64) (wd : Nat → Int32) (hfn : fn < 4) (hst : stp < 20000) (hpa : pa + 2 ≤ 200) (hwt : wt < 1200) (hm : En (200 * fn + pa + 1) = m9) (hk : wdF wd fn pa = 6) : CV l y_Mo_beginOne c_Mo_beginOne 6 { frames := 1, cells := 0, slots := 0, locals := 22 } [.ref h0] G k s0 [(h0, .inr (8, moL ma (va_up (va_up (va_up (va_up (va_up (va_up iv 8 (nI fn)) 9 (nI pa)) 4 (nI stp)) 6 (nI bs)) 7 (nI kn)) 5 (nI wt)) co)), ((ma 1), .inl (k 0, 800, .inl wd)), ((ma 3), .inl (k 0, 800, .inl (fun i => nI (En i)))), ((ma 7), .inl (k 0, 1200, .inl (fun i => nI (WK i)))), ((ma 8), .inl (k 0, 1200, .inl (fun i => nI (WF i)))), ((ma 9), .inl (k 0, 1200, .inl (fun i => nI (WA i)))), ((ma 10), .inl (k 0, 1200, .inl (fun i => nI (WB i)))), ((ma 11), .inl (k 0, 1200, .inl (fun i => nI (WN i))))] (fun (u : Unit) => True) (fun u => [(h0, .inr (8, moL ma (va_up (va_up (va_up (va_up (va_up (va_up iv 8 (nI fn)) 9 (nI (pa + 1))) 6 (nI bs)) 7 (nI kn)) 5 (nI (wt + 1))) 4 (nI (stp + 1))) co)), ((ma 1), .inl (k 0, 800, .inl wd)), ((ma 3), .inl (k 0, 800, .inl (fun i => nI (En i)))), ((ma 7), .inl (k 0, 1200, .inl (fun i => nI ((va_up WK wt 1) i)))), ((ma 8), .inl (k 0, 1200, .inl (fun i => nI ((va_up WF wt fn) i)))), ((ma 9), .inl (k 0, 1200, .inl (fun i => nI ((va_up WA wt m9) i)))), ((ma 10), .inl (k 0, 1200, .inl (fun i => nI ((va_up WB wt bs) i)))), ((ma 11), .inl (k 0, 1200, .inl (fun i => nI ((va_up WN wt kn) i))))]) 0 0 := by
  refine met_start (by decide) (Nat.le_of_ble_eq_true rfl) ?_
  intro p e s m below meth c C K hA hsz S ls hl
  generalize va_A [(h0, .inr (8, moL ma (va_up (va_up (va_up (va_up (va_up (va_up iv 8 (nI fn)) 9 (nI pa)) 4 (nI stp)) 6 (nI bs)) 7 (nI kn)) 5 (nI wt)) co)), ((ma 1), .inl (k 0, 800, .inl wd)), ((ma 3), .inl (k 0, 800, .inl (fun i => nI (En i)))), ((ma 7), .inl (k 0, 1200, .inl (fun i => nI (WK i)))), ((ma 8), .inl (k 0, 1200, .inl (fun i => nI (WF i)))), ((ma 9), .inl (k 0, 1200, .inl (fun i => nI (WA i)))), ((ma 10), .inl (k 0, 1200, .inl (fun i => nI (WB i)))), ((ma 11), .inl (k 0, 1200, .inl (fun i => nI (WN i))))] s0 = A at hA S ⊢
  have hx := C.1
  have hb := C.2.1
  have hl : lv_has ls 6 [(0, .ref h0)] := hl
  refine lv_aload_n hx hb d_Mo_beginOne_0 rfl (lv_at hl 0 rfl) ?_
  refine r_get C K S 0 rfl rfl clOk_Mo 12 (by decide) wf_Mo_165 (v := .int (nI stp)) rfl d_Mo_beginOne_1 ?_
  refine lv_sipush (v := 20000) hx hb d_Mo_beginOne_4 (by decide) ?_
  refine z_icmp_ne (a := stp) (b := 20000) (tgt := 16) hx hb d_Mo_beginOne_7 (by decide) (by omega) (by omega) (fun hc1 => ?_) (fun hc1 => False.elim (by omega))
  refine lv_aload_n hx hb d_Mo_beginOne_16 rfl (lv_at hl 0 rfl) ?_
  refine lv_dup hx hb d_Mo_beginOne_17 rfl ?_
  refine r_get C K S 0 rfl rfl clOk_Mo 12 (by decide) wf_Mo_165 (v := .int (nI stp)) rfl d_Mo_beginOne_18 ?_
  refine lv_iconst (v := 1) hx hb d_Mo_beginOne_21 (by decide) ?_
  refine z_iadd (x := nI stp) (y := 1) (v := nI (stp + 1)) hx hb d_Mo_beginOne_22 (nI_add stp 1) ?_
  refine r_put C K S 0 rfl rfl clOk_Mo 12 (by decide) wf_Mo_165 rfl (ty := .int) (v := .int (nI (stp + 1))) (by decide +kernel) rfl rfl (Nat.le_of_ble_eq_true rfl) (fs' := moL ma (va_up (va_up (va_up (va_up (va_up (va_up iv 8 (nI fn)) 9 (nI pa)) 6 (nI bs)) 7 (nI kn)) 5 (nI wt)) 4 (nI (stp + 1))) co) (ws' := [(h0, .inr (8, moL ma (va_up (va_up (va_up (va_up (va_up (va_up iv 8 (nI fn)) 9 (nI pa)) 6 (nI bs)) 7 (nI kn)) 5 (nI wt)) 4 (nI (stp + 1))) co)), ((ma 1), .inl (k 0, 800, .inl wd)), ((ma 3), .inl (k 0, 800, .inl (fun i => nI (En i)))), ((ma 7), .inl (k 0, 1200, .inl (fun i => nI (WK i)))), ((ma 8), .inl (k 0, 1200, .inl (fun i => nI (WF i)))), ((ma 9), .inl (k 0, 1200, .inl (fun i => nI (WA i)))), ((ma 10), .inl (k 0, 1200, .inl (fun i => nI (WB i)))), ((ma 11), .inl (k 0, 1200, .inl (fun i => nI (WN i))))]) rfl rfl d_Mo_beginOne_23 (fun H locs S => ?_)
  refine lv_sipush (v := 200) hx hb d_Mo_beginOne_26 (by decide) ?_
  refine lv_aload_n hx hb d_Mo_beginOne_29 rfl (lv_at hl 0 rfl) ?_
  refine r_get C K S 0 rfl rfl clOk_Mo 22 (by decide) wf_Mo_146 (v := .int (nI fn)) rfl d_Mo_beginOne_30 ?_
  refine z_imul (x := 200) (y := nI fn) (v := nI (200 * fn)) hx hb d_Mo_beginOne_33 (pk_mul 200 fn) ?_
  refine lv_aload_n hx hb d_Mo_beginOne_34 rfl (lv_at hl 0 rfl) ?_
  refine r_get C K S 0 rfl rfl clOk_Mo 23 (by decide) wf_Mo_162 (v := .int (nI pa)) rfl d_Mo_beginOne_35 ?_
  refine z_iadd (x := nI (200 * fn)) (y := nI pa) (v := nI (200 * fn + pa)) hx hb d_Mo_beginOne_38 (nI_add (200 * fn) pa) ?_
  refine lv_istore_n (lv' := [(1, .int (nI (200 * fn + pa))), (0, .ref h0)]) hx hb d_Mo_beginOne_39 rfl hl (by decide) rfl (fun ls hl => ?_)
  refine lv_aload_n hx hb d_Mo_beginOne_40 rfl (lv_at hl 1 rfl) ?_
  refine r_get C K S 0 rfl rfl clOk_Mo 2 (by decide) wf_Mo_13 (v := .ref (ma 1)) rfl d_Mo_beginOne_41 ?_
  refine lv_iload_n hx hb d_Mo_beginOne_44 rfl (lv_at hl 0 rfl) ?_
  refine lv_iconst (v := 1) hx hb d_Mo_beginOne_45 (by decide) ?_
  refine z_iadd (x := nI (200 * fn + pa)) (y := 1) (v := nI (200 * fn + pa + 1)) hx hb d_Mo_beginOne_46 (nI_add (200 * fn + pa) 1) ?_
  refine lv_sipush (v := 800) hx hb d_Mo_beginOne_47 (by decide) ?_
  refine z_icmp_ge (a := (200 * fn + pa + 1)) (b := 800) (tgt := 59) hx hb d_Mo_beginOne_50 (by decide) (by omega) (by omega) (fun hc2 => ?_) (fun hc2 => ?_)
  · refine lv_iload_n hx hb d_Mo_beginOne_59 rfl (lv_at hl 0 rfl) ?_
    refine r_iald C K S 1 rfl (i := nI (200 * fn + pa)) (show vp_in (nI (200 * fn + pa)) _ from vp_in_nI (n := (200 * fn + pa)) (by omega) (by decide)) (v := wdF wd fn pa) (by rw [nI_clamp (by omega)]; exact (show wd (200 * fn + pa) = wd (200 * fn + pa) from congrArg wd (by omega))) d_Mo_beginOne_60 ?_
    refine lv_istore_n (lv' := [(2, .int (wdF wd fn pa)), (1, .int (nI (200 * fn + pa))), (0, .ref h0)]) hx hb d_Mo_beginOne_61 rfl hl (by decide) rfl (fun ls hl => ?_)
    refine lv_aload_n hx hb d_Mo_beginOne_62 rfl (lv_at hl 2 rfl) ?_
    refine r_get C K S 0 rfl rfl clOk_Mo 2 (by decide) wf_Mo_13 (v := .ref (ma 1)) rfl d_Mo_beginOne_63 ?_
    refine lv_iload_n hx hb d_Mo_beginOne_66 rfl (lv_at hl 1 rfl) ?_
    refine r_iald C K S 1 rfl (i := nI (200 * fn + pa)) (show vp_in (nI (200 * fn + pa)) _ from vp_in_nI (n := (200 * fn + pa)) (by omega) (by decide)) (v := wdF wd fn pa) (by rw [nI_clamp (by omega)]; exact (show wd (200 * fn + pa) = wd (200 * fn + pa) from congrArg wd (by omega))) d_Mo_beginOne_67 ?_
    refine lv_tableOut (x := wdF wd fn pa) (tgt := 326) hx hb d_Mo_beginOne_68 (by rw [hk]; decide) (by decide) ?_
    refine lv_aload_n hx hb d_Mo_beginOne_326 rfl (lv_at hl 2 rfl) ?_
    refine lv_iconst (v := 1) hx hb d_Mo_beginOne_327 (by decide) ?_
    refine lv_aload_n hx hb d_Mo_beginOne_328 rfl (lv_at hl 2 rfl) ?_
    refine r_get C K S 0 rfl rfl clOk_Mo 5 (by decide) wf_Mo_23 (v := .ref (ma 3)) rfl d_Mo_beginOne_329 ?_
    refine lv_iload_n hx hb d_Mo_beginOne_332 rfl (lv_at hl 1 rfl) ?_
    refine lv_iconst (v := 1) hx hb d_Mo_beginOne_333 (by decide) ?_
    refine z_iadd (x := nI (200 * fn + pa)) (y := 1) (v := nI (200 * fn + pa + 1)) hx hb d_Mo_beginOne_334 (nI_add (200 * fn + pa) 1) ?_
    refine r_iald C K S 2 rfl (i := nI (200 * fn + pa + 1)) (show vp_in (nI (200 * fn + pa + 1)) _ from vp_in_nI (n := (200 * fn + pa + 1)) (by omega) (by decide)) (v := nI (En (200 * fn + pa + 1))) (by rw [nI_clamp (by omega)]) d_Mo_beginOne_335 ?_
    rw [hm]
    refine r_backv (wi := [(h0, .inr (8, moL ma (va_up (va_up (va_up (va_up (va_up (va_up iv 9 (nI pa)) 4 (nI (stp + 1))) 8 (nI fn)) 6 (nI bs)) 7 (nI kn)) 5 (nI wt)) co)), ((ma 7), .inl (k 0, 1200, .inl (fun i => nI (WK i)))), ((ma 8), .inl (k 0, 1200, .inl (fun i => nI (WF i)))), ((ma 9), .inl (k 0, 1200, .inl (fun i => nI (WA i)))), ((ma 10), .inl (k 0, 1200, .inl (fun i => nI (WB i)))), ((ma 11), .inl (k 0, 1200, .inl (fun i => nI (WN i))))]) (wr := [((ma 1), .inl (k 0, 800, .inl wd)), ((ma 3), .inl (k 0, 800, .inl (fun i => nI (En i))))]) S hA [0, 3, 4, 5, 6, 7] [1, 2] rfl rfl (by decide) (by decide) (va_runV (As := [.int 1, .int (nI m9)]) (rest := []) ⟨hx, hb, C.2.2.1, C.2.2.2.1, C.2.2.2.2.1⟩ (g_Mo_wait l G k h0 _ 1 m9 fn bs kn wt ma (va_up (va_up iv 9 (nI pa)) 4 (nI (stp + 1))) co WK WF WA WB WN hwt) (k_virt (n := 2) C wc_Mo_wait rfl rfl wz_Mo wm_Mo_171 wn_Mo_wait ws_Mo_wait (by decide +kernel) ⟨(Nat.le_of_ble_eq_true rfl), (Nat.le_of_ble_eq_true rfl)⟩) (pr_nowV K S [0, 3, 4, 5, 6, 7] (by decide) rfl 0 rfl rfl) rfl rfl hl.1 rfl (lv_room (Nat.le_of_ble_eq_true rfl)) d_Mo_beginOne_336 ⟨(Nat.le_of_ble_eq_true rfl), (Nat.le_of_ble_eq_true rfl)⟩) (fun u3 H locs hw4 S => ?_)
    have S : Sw G A s.heap _ _ [((ma 1), .inl (k 0, 800, .inl wd)), ((ma 3), .inl (k 0, 800, .inl (fun i => nI (En i)))), (h0, .inr (8, moL ma (va_up (va_up (va_up (va_up (va_up (va_up iv 9 (nI pa)) 4 (nI (stp + 1))) 8 (nI fn)) 6 (nI bs)) 7 (nI kn)) 5 (nI (wt + 1))) co)), ((ma 7), .inl (k 0, 1200, .inl (fun i => nI ((va_up WK wt 1) i)))), ((ma 8), .inl (k 0, 1200, .inl (fun i => nI ((va_up WF wt fn) i)))), ((ma 9), .inl (k 0, 1200, .inl (fun i => nI ((va_up WA wt m9) i)))), ((ma 10), .inl (k 0, 1200, .inl (fun i => nI ((va_up WB wt bs) i)))), ((ma 11), .inl (k 0, 1200, .inl (fun i => nI ((va_up WN wt kn) i))))] := S
    refine lv_aload_n hx hb d_Mo_beginOne_339 rfl (lv_at hl 2 rfl) ?_
    refine lv_dup hx hb d_Mo_beginOne_340 rfl ?_
    refine r_get C K S 2 rfl rfl clOk_Mo 23 (by decide) wf_Mo_162 (v := .int (nI pa)) rfl d_Mo_beginOne_341 ?_
    refine lv_iconst (v := 1) hx hb d_Mo_beginOne_344 (by decide) ?_
    refine z_iadd (x := nI pa) (y := 1) (v := nI (pa + 1)) hx hb d_Mo_beginOne_345 (nI_add pa 1) ?_
    refine r_put C K S 2 rfl rfl clOk_Mo 23 (by decide) wf_Mo_162 rfl (ty := .int) (v := .int (nI (pa + 1))) (by decide +kernel) rfl rfl (Nat.le_of_ble_eq_true rfl) (fs' := moL ma (va_up (va_up (va_up (va_up (va_up (va_up iv 4 (nI (stp + 1))) 8 (nI fn)) 6 (nI bs)) 7 (nI kn)) 5 (nI (wt + 1))) 9 (nI (pa + 1))) co) (ws' := [((ma 1), .inl (k 0, 800, .inl wd)), ((ma 3), .inl (k 0, 800, .inl (fun i => nI (En i)))), (h0, .inr (8, moL ma (va_up (va_up (va_up (va_up (va_up (va_up iv 4 (nI (stp + 1))) 8 (nI fn)) 6 (nI bs)) 7 (nI kn)) 5 (nI (wt + 1))) 9 (nI (pa + 1))) co)), ((ma 7), .inl (k 0, 1200, .inl (fun i => nI ((va_up WK wt 1) i)))), ((ma 8), .inl (k 0, 1200, .inl (fun i => nI ((va_up WF wt fn) i)))), ((ma 9), .inl (k 0, 1200, .inl (fun i => nI ((va_up WA wt m9) i)))), ((ma 10), .inl (k 0, 1200, .inl (fun i => nI ((va_up WB wt bs) i)))), ((ma 11), .inl (k 0, 1200, .inl (fun i => nI ((va_up WN wt kn) i))))]) rfl rfl d_Mo_beginOne_346 (fun H locs S => ?_)
    exact r_vret C K () trivial (S.sub [2, 0, 1, 3, 4, 5, 6, 7] (by decide) rfl) d_Mo_beginOne_349 (Nat.le_of_ble_eq_true rfl) (Nat.le_of_ble_eq_true rfl)
  · refine lv_iload_n hx hb d_Mo_beginOne_53 rfl (lv_at hl 0 rfl) ?_
    refine lv_iconst (v := 1) hx hb d_Mo_beginOne_54 (by decide) ?_
    refine z_iadd (x := nI (200 * fn + pa)) (y := 1) (v := nI (200 * fn + pa + 1)) hx hb d_Mo_beginOne_55 (nI_add (200 * fn + pa) 1) ?_
    refine lv_goto (tgt := 60) hx hb d_Mo_beginOne_56 (by decide) ?_
    refine r_iald C K S 1 rfl (i := nI (200 * fn + pa + 1)) (show vp_in (nI (200 * fn + pa + 1)) _ from vp_in_nI (n := (200 * fn + pa + 1)) (by omega) (by decide)) (v := wdF wd fn (pa + 1)) (by rw [nI_clamp (by omega)]; exact (show wd (200 * fn + pa + 1) = wd (200 * fn + (pa + 1)) from congrArg wd (by omega))) d_Mo_beginOne_60 ?_
    refine lv_istore_n (lv' := [(2, .int (wdF wd fn (pa + 1))), (1, .int (nI (200 * fn + pa))), (0, .ref h0)]) hx hb d_Mo_beginOne_61 rfl hl (by decide) rfl (fun ls hl => ?_)
    refine lv_aload_n hx hb d_Mo_beginOne_62 rfl (lv_at hl 2 rfl) ?_
    refine r_get C K S 0 rfl rfl clOk_Mo 2 (by decide) wf_Mo_13 (v := .ref (ma 1)) rfl d_Mo_beginOne_63 ?_
    refine lv_iload_n hx hb d_Mo_beginOne_66 rfl (lv_at hl 1 rfl) ?_
    refine r_iald C K S 1 rfl (i := nI (200 * fn + pa)) (show vp_in (nI (200 * fn + pa)) _ from vp_in_nI (n := (200 * fn + pa)) (by omega) (by decide)) (v := wdF wd fn pa) (by rw [nI_clamp (by omega)]; exact (show wd (200 * fn + pa) = wd (200 * fn + pa) from congrArg wd (by omega))) d_Mo_beginOne_67 ?_
    refine lv_tableOut (x := wdF wd fn pa) (tgt := 326) hx hb d_Mo_beginOne_68 (by rw [hk]; decide) (by decide) ?_
    refine lv_aload_n hx hb d_Mo_beginOne_326 rfl (lv_at hl 2 rfl) ?_
    refine lv_iconst (v := 1) hx hb d_Mo_beginOne_327 (by decide) ?_
    refine lv_aload_n hx hb d_Mo_beginOne_328 rfl (lv_at hl 2 rfl) ?_
    refine r_get C K S 0 rfl rfl clOk_Mo 5 (by decide) wf_Mo_23 (v := .ref (ma 3)) rfl d_Mo_beginOne_329 ?_
    refine lv_iload_n hx hb d_Mo_beginOne_332 rfl (lv_at hl 1 rfl) ?_
    refine lv_iconst (v := 1) hx hb d_Mo_beginOne_333 (by decide) ?_
    refine z_iadd (x := nI (200 * fn + pa)) (y := 1) (v := nI (200 * fn + pa + 1)) hx hb d_Mo_beginOne_334 (nI_add (200 * fn + pa) 1) ?_
    refine r_iald C K S 2 rfl (i := nI (200 * fn + pa + 1)) (show vp_in (nI (200 * fn + pa + 1)) _ from vp_in_nI (n := (200 * fn + pa + 1)) (by omega) (by decide)) (v := nI (En (200 * fn + pa + 1))) (by rw [nI_clamp (by omega)]) d_Mo_beginOne_335 ?_
    rw [hm]
    refine r_backv (wi := [(h0, .inr (8, moL ma (va_up (va_up (va_up (va_up (va_up (va_up iv 9 (nI pa)) 4 (nI (stp + 1))) 8 (nI fn)) 6 (nI bs)) 7 (nI kn)) 5 (nI wt)) co)), ((ma 7), .inl (k 0, 1200, .inl (fun i => nI (WK i)))), ((ma 8), .inl (k 0, 1200, .inl (fun i => nI (WF i)))), ((ma 9), .inl (k 0, 1200, .inl (fun i => nI (WA i)))), ((ma 10), .inl (k 0, 1200, .inl (fun i => nI (WB i)))), ((ma 11), .inl (k 0, 1200, .inl (fun i => nI (WN i))))]) (wr := [((ma 1), .inl (k 0, 800, .inl wd)), ((ma 3), .inl (k 0, 800, .inl (fun i => nI (En i))))]) S hA [0, 3, 4, 5, 6, 7] [1, 2] rfl rfl (by decide) (by decide) (va_runV (As := [.int 1, .int (nI m9)]) (rest := []) ⟨hx, hb, C.2.2.1, C.2.2.2.1, C.2.2.2.2.1⟩ (g_Mo_wait l G k h0 _ 1 m9 fn bs kn wt ma (va_up (va_up iv 9 (nI pa)) 4 (nI (stp + 1))) co WK WF WA WB WN hwt) (k_virt (n := 2) C wc_Mo_wait rfl rfl wz_Mo wm_Mo_171 wn_Mo_wait ws_Mo_wait (by decide +kernel) ⟨(Nat.le_of_ble_eq_true rfl), (Nat.le_of_ble_eq_true rfl)⟩) (pr_nowV K S [0, 3, 4, 5, 6, 7] (by decide) rfl 0 rfl rfl) rfl rfl hl.1 rfl (lv_room (Nat.le_of_ble_eq_true rfl)) d_Mo_beginOne_336 ⟨(Nat.le_of_ble_eq_true rfl), (Nat.le_of_ble_eq_true rfl)⟩) (fun u5 H locs hw6 S => ?_)
    have S : Sw G A s.heap _ _ [((ma 1), .inl (k 0, 800, .inl wd)), ((ma 3), .inl (k 0, 800, .inl (fun i => nI (En i)))), (h0, .inr (8, moL ma (va_up (va_up (va_up (va_up (va_up (va_up iv 9 (nI pa)) 4 (nI (stp + 1))) 8 (nI fn)) 6 (nI bs)) 7 (nI kn)) 5 (nI (wt + 1))) co)), ((ma 7), .inl (k 0, 1200, .inl (fun i => nI ((va_up WK wt 1) i)))), ((ma 8), .inl (k 0, 1200, .inl (fun i => nI ((va_up WF wt fn) i)))), ((ma 9), .inl (k 0, 1200, .inl (fun i => nI ((va_up WA wt m9) i)))), ((ma 10), .inl (k 0, 1200, .inl (fun i => nI ((va_up WB wt bs) i)))), ((ma 11), .inl (k 0, 1200, .inl (fun i => nI ((va_up WN wt kn) i))))] := S
    refine lv_aload_n hx hb d_Mo_beginOne_339 rfl (lv_at hl 2 rfl) ?_
    refine lv_dup hx hb d_Mo_beginOne_340 rfl ?_
    refine r_get C K S 2 rfl rfl clOk_Mo 23 (by decide) wf_Mo_162 (v := .int (nI pa)) rfl d_Mo_beginOne_341 ?_
    refine lv_iconst (v := 1) hx hb d_Mo_beginOne_344 (by decide) ?_
    refine z_iadd (x := nI pa) (y := 1) (v := nI (pa + 1)) hx hb d_Mo_beginOne_345 (nI_add pa 1) ?_
    refine r_put C K S 2 rfl rfl clOk_Mo 23 (by decide) wf_Mo_162 rfl (ty := .int) (v := .int (nI (pa + 1))) (by decide +kernel) rfl rfl (Nat.le_of_ble_eq_true rfl) (fs' := moL ma (va_up (va_up (va_up (va_up (va_up (va_up iv 4 (nI (stp + 1))) 8 (nI fn)) 6 (nI bs)) 7 (nI kn)) 5 (nI (wt + 1))) 9 (nI (pa + 1))) co) (ws' := [((ma 1), .inl (k 0, 800, .inl wd)), ((ma 3), .inl (k 0, 800, .inl (fun i => nI (En i)))), (h0, .inr (8, moL ma (va_up (va_up (va_up (va_up (va_up (va_up iv 4 (nI (stp + 1))) 8 (nI fn)) 6 (nI bs)) 7 (nI kn)) 5 (nI (wt + 1))) 9 (nI (pa + 1))) co)), ((ma 7), .inl (k 0, 1200, .inl (fun i => nI ((va_up WK wt 1) i)))), ((ma 8), .inl (k 0, 1200, .inl (fun i => nI ((va_up WF wt fn) i)))), ((ma 9), .inl (k 0, 1200, .inl (fun i => nI ((va_up WA wt m9) i)))), ((ma 10), .inl (k 0, 1200, .inl (fun i => nI ((va_up WB wt bs) i)))), ((ma 11), .inl (k 0, 1200, .inl (fun i => nI ((va_up WN wt kn) i))))]) rfl rfl d_Mo_beginOne_346 (fun H locs S => ?_)
    exact r_vret C K () trivial (S.sub [2, 0, 1, 3, 4, 5, 6, 7] (by decide) rfl) d_Mo_beginOne_349 (Nat.le_of_ble_eq_true rfl) (Nat.le_of_ble_eq_true rfl)
set_option maxRecDepth 100000 in
set_option maxHeartbeats 16000000 in
/-- Mo_beginOne_4 -/
theorem g_Mo_beginOne_4 (l : Launch) (G : va_G) (k : Nat → ClassId) (h0 : Nat) (s0 : Nat) (fn : Nat) (pa : Nat) (stp : Nat) (v9 : Nat) (ma : Nat → Nat) (iv : Nat → Int32) (co : Int64) (wd : Nat → Int32) (hfn : fn < 4) (hst : stp < 20000) (hpa : pa + 2 ≤ 200) (hv : wdF wd fn (pa + 1) = nI v9) (hv2 : v9 ≤ 1000) (hk : wdF wd fn pa = 4) : CV l y_Mo_beginOne c_Mo_beginOne 6 { frames := 0, cells := 0, slots := 0, locals := 0 } [.ref h0] G k s0 [(h0, .inr (8, moL ma (va_up (va_up (va_up iv 8 (nI fn)) 9 (nI pa)) 4 (nI stp)) co)), ((ma 1), .inl (k 0, 800, .inl wd))] (fun (u : Unit) => True) (fun u => [(h0, .inr (8, moL ma (va_up (va_up (va_up iv 8 (nI fn)) 9 (nI (pa + 2))) 4 (nI (stp + 1))) (co + lN v9))), ((ma 1), .inl (k 0, 800, .inl wd))]) 0 0 := by
  refine met_start (by decide) (Nat.le_of_ble_eq_true rfl) ?_
  intro p e s m below meth c C K hA hsz S ls hl
  generalize va_A [(h0, .inr (8, moL ma (va_up (va_up (va_up iv 8 (nI fn)) 9 (nI pa)) 4 (nI stp)) co)), ((ma 1), .inl (k 0, 800, .inl wd))] s0 = A at hA S ⊢
  have hx := C.1
  have hb := C.2.1
  have hl : lv_has ls 6 [(0, .ref h0)] := hl
  refine lv_aload_n hx hb d_Mo_beginOne_0 rfl (lv_at hl 0 rfl) ?_
  refine r_get C K S 0 rfl rfl clOk_Mo 12 (by decide) wf_Mo_165 (v := .int (nI stp)) rfl d_Mo_beginOne_1 ?_
  refine lv_sipush (v := 20000) hx hb d_Mo_beginOne_4 (by decide) ?_
  refine z_icmp_ne (a := stp) (b := 20000) (tgt := 16) hx hb d_Mo_beginOne_7 (by decide) (by omega) (by omega) (fun hc1 => ?_) (fun hc1 => False.elim (by omega))
  refine lv_aload_n hx hb d_Mo_beginOne_16 rfl (lv_at hl 0 rfl) ?_
  refine lv_dup hx hb d_Mo_beginOne_17 rfl ?_
  refine r_get C K S 0 rfl rfl clOk_Mo 12 (by decide) wf_Mo_165 (v := .int (nI stp)) rfl d_Mo_beginOne_18 ?_
  refine lv_iconst (v := 1) hx hb d_Mo_beginOne_21 (by decide) ?_
  refine z_iadd (x := nI stp) (y := 1) (v := nI (stp + 1)) hx hb d_Mo_beginOne_22 (nI_add stp 1) ?_
  refine r_put C K S 0 rfl rfl clOk_Mo 12 (by decide) wf_Mo_165 rfl (ty := .int) (v := .int (nI (stp + 1))) (by decide +kernel) rfl rfl (Nat.le_of_ble_eq_true rfl) (fs' := moL ma (va_up (va_up (va_up iv 8 (nI fn)) 9 (nI pa)) 4 (nI (stp + 1))) co) (ws' := [(h0, .inr (8, moL ma (va_up (va_up (va_up iv 8 (nI fn)) 9 (nI pa)) 4 (nI (stp + 1))) co)), ((ma 1), .inl (k 0, 800, .inl wd))]) rfl rfl d_Mo_beginOne_23 (fun H locs S => ?_)
  refine lv_sipush (v := 200) hx hb d_Mo_beginOne_26 (by decide) ?_
  refine lv_aload_n hx hb d_Mo_beginOne_29 rfl (lv_at hl 0 rfl) ?_
  refine r_get C K S 0 rfl rfl clOk_Mo 22 (by decide) wf_Mo_146 (v := .int (nI fn)) rfl d_Mo_beginOne_30 ?_
  refine z_imul (x := 200) (y := nI fn) (v := nI (200 * fn)) hx hb d_Mo_beginOne_33 (pk_mul 200 fn) ?_
  refine lv_aload_n hx hb d_Mo_beginOne_34 rfl (lv_at hl 0 rfl) ?_
  refine r_get C K S 0 rfl rfl clOk_Mo 23 (by decide) wf_Mo_162 (v := .int (nI pa)) rfl d_Mo_beginOne_35 ?_
  refine z_iadd (x := nI (200 * fn)) (y := nI pa) (v := nI (200 * fn + pa)) hx hb d_Mo_beginOne_38 (nI_add (200 * fn) pa) ?_
  refine lv_istore_n (lv' := [(1, .int (nI (200 * fn + pa))), (0, .ref h0)]) hx hb d_Mo_beginOne_39 rfl hl (by decide) rfl (fun ls hl => ?_)
  refine lv_aload_n hx hb d_Mo_beginOne_40 rfl (lv_at hl 1 rfl) ?_
  refine r_get C K S 0 rfl rfl clOk_Mo 2 (by decide) wf_Mo_13 (v := .ref (ma 1)) rfl d_Mo_beginOne_41 ?_
  refine lv_iload_n hx hb d_Mo_beginOne_44 rfl (lv_at hl 0 rfl) ?_
  refine lv_iconst (v := 1) hx hb d_Mo_beginOne_45 (by decide) ?_
  refine z_iadd (x := nI (200 * fn + pa)) (y := 1) (v := nI (200 * fn + pa + 1)) hx hb d_Mo_beginOne_46 (nI_add (200 * fn + pa) 1) ?_
  refine lv_sipush (v := 800) hx hb d_Mo_beginOne_47 (by decide) ?_
  refine z_icmp_ge (a := (200 * fn + pa + 1)) (b := 800) (tgt := 59) hx hb d_Mo_beginOne_50 (by decide) (by omega) (by omega) (fun hc2 => False.elim (by omega)) (fun hc2 => ?_)
  refine lv_iload_n hx hb d_Mo_beginOne_53 rfl (lv_at hl 0 rfl) ?_
  refine lv_iconst (v := 1) hx hb d_Mo_beginOne_54 (by decide) ?_
  refine z_iadd (x := nI (200 * fn + pa)) (y := 1) (v := nI (200 * fn + pa + 1)) hx hb d_Mo_beginOne_55 (nI_add (200 * fn + pa) 1) ?_
  refine lv_goto (tgt := 60) hx hb d_Mo_beginOne_56 (by decide) ?_
  refine r_iald C K S 1 rfl (i := nI (200 * fn + pa + 1)) (show vp_in (nI (200 * fn + pa + 1)) _ from vp_in_nI (n := (200 * fn + pa + 1)) (by omega) (by decide)) (v := wdF wd fn (pa + 1)) (by rw [nI_clamp (by omega)]; exact (show wd (200 * fn + pa + 1) = wd (200 * fn + (pa + 1)) from congrArg wd (by omega))) d_Mo_beginOne_60 ?_
  rw [hv]
  refine lv_istore_n (lv' := [(2, .int (nI v9)), (1, .int (nI (200 * fn + pa))), (0, .ref h0)]) hx hb d_Mo_beginOne_61 rfl hl (by decide) rfl (fun ls hl => ?_)
  refine lv_aload_n hx hb d_Mo_beginOne_62 rfl (lv_at hl 2 rfl) ?_
  refine r_get C K S 0 rfl rfl clOk_Mo 2 (by decide) wf_Mo_13 (v := .ref (ma 1)) rfl d_Mo_beginOne_63 ?_
  refine lv_iload_n hx hb d_Mo_beginOne_66 rfl (lv_at hl 1 rfl) ?_
  refine r_iald C K S 1 rfl (i := nI (200 * fn + pa)) (show vp_in (nI (200 * fn + pa)) _ from vp_in_nI (n := (200 * fn + pa)) (by omega) (by decide)) (v := wdF wd fn pa) (by rw [nI_clamp (by omega)]; exact (show wd (200 * fn + pa) = wd (200 * fn + pa) from congrArg wd (by omega))) d_Mo_beginOne_67 ?_
  refine lv_tableIn (x := wdF wd fn pa) (off := 156) (tgt := 224) hx hb d_Mo_beginOne_68 (by rw [hk]; decide) (by rw [hk]; decide) (by rw [hk]; rfl) (by decide) ?_
  refine lv_aload_n hx hb d_Mo_beginOne_224 rfl (lv_at hl 2 rfl) ?_
  refine lv_dup hx hb d_Mo_beginOne_225 rfl ?_
  refine r_get C K S 0 rfl rfl clOk_Mo 10 (by decide) wf_Mo_175 (v := .long co) rfl d_Mo_beginOne_226 ?_
  refine lv_iload_n hx hb d_Mo_beginOne_229 rfl (lv_at hl 0 rfl) ?_
  refine lv_i2l (v := lN v9) hx hb d_Mo_beginOne_230 (show (nI v9 : Int32).toInt64 = _ from nI_l (n := v9) (by omega)) ?_
  refine lv_ladd hx hb d_Mo_beginOne_231 ?_
  refine r_put C K S 0 rfl rfl clOk_Mo 10 (by decide) wf_Mo_175 rfl (ty := .long) (v := .long (co + (lN v9))) (by decide +kernel) rfl rfl (Nat.le_of_ble_eq_true rfl) (fs' := moL ma (va_up (va_up (va_up iv 8 (nI fn)) 9 (nI pa)) 4 (nI (stp + 1))) (co + (lN v9))) (ws' := [(h0, .inr (8, moL ma (va_up (va_up (va_up iv 8 (nI fn)) 9 (nI pa)) 4 (nI (stp + 1))) (co + (lN v9)))), ((ma 1), .inl (k 0, 800, .inl wd))]) rfl rfl d_Mo_beginOne_232 (fun H locs S => ?_)
  refine lv_aload_n hx hb d_Mo_beginOne_235 rfl (lv_at hl 2 rfl) ?_
  refine lv_dup hx hb d_Mo_beginOne_236 rfl ?_
  refine r_get C K S 0 rfl rfl clOk_Mo 23 (by decide) wf_Mo_162 (v := .int (nI pa)) rfl d_Mo_beginOne_237 ?_
  refine lv_iconst (v := 2) hx hb d_Mo_beginOne_240 (by decide) ?_
  refine z_iadd (x := nI pa) (y := 2) (v := nI (pa + 2)) hx hb d_Mo_beginOne_241 (nI_add pa 2) ?_
  refine r_put C K S 0 rfl rfl clOk_Mo 23 (by decide) wf_Mo_162 rfl (ty := .int) (v := .int (nI (pa + 2))) (by decide +kernel) rfl rfl (Nat.le_of_ble_eq_true rfl) (fs' := moL ma (va_up (va_up (va_up iv 8 (nI fn)) 4 (nI (stp + 1))) 9 (nI (pa + 2))) (co + (lN v9))) (ws' := [(h0, .inr (8, moL ma (va_up (va_up (va_up iv 8 (nI fn)) 4 (nI (stp + 1))) 9 (nI (pa + 2))) (co + (lN v9)))), ((ma 1), .inl (k 0, 800, .inl wd))]) rfl rfl d_Mo_beginOne_242 (fun H locs S => ?_)
  refine lv_goto (tgt := 349) hx hb d_Mo_beginOne_245 (by decide) ?_
  exact r_vret C K () trivial (S.sub [0, 1] (by decide) rfl) d_Mo_beginOne_349 (Nat.le_of_ble_eq_true rfl) (Nat.le_of_ble_eq_true rfl)
set_option maxRecDepth 100000 in
set_option maxHeartbeats 16000000 in
/-- Mo_beginOne_3e -/
theorem g_Mo_beginOne_3e (l : Launch) (G : va_G) (k : Nat → ClassId) (h0 : Nat) (s0 : Nat) (fn : Nat) (pa : Nat) (stp : Nat) (v9 : Nat) (n9 : Nat) (bs : Nat) (kn : Nat) (vr : Nat → Int32) (En : Nat → Nat) (ma : Nat → Nat) (iv : Nat → Int32) (co : Int64) (wd : Nat → Int32) (hfn : fn < 4) (hst : stp < 20000) (hpa : pa + 2 ≤ 200) (hv : wdF wd fn (pa + 1) = nI v9) (hb9 : bs + v9 < 1400) (hvn : vr (bs + v9) = nI n9) (hn0 : n9 = 0) (hk : wdF wd fn pa = 3) : CV l y_Mo_beginOne c_Mo_beginOne 6 { frames := 0, cells := 0, slots := 0, locals := 0 } [.ref h0] G k s0 [(h0, .inr (8, moL ma (va_up (va_up (va_up (va_up (va_up iv 8 (nI fn)) 9 (nI pa)) 4 (nI stp)) 6 (nI bs)) 7 (nI kn)) co)), ((ma 1), .inl (k 0, 800, .inl wd)), ((ma 3), .inl (k 0, 800, .inl (fun i => nI (En i)))), ((ma 12), .inl (k 0, 1400, .inl vr))] (fun (u : Unit) => True) (fun u => [(h0, .inr (8, moL ma (va_up (va_up (va_up (va_up (va_up iv 8 (nI fn)) 9 (nI (pa + 2))) 6 (nI bs)) 7 (nI kn)) 4 (nI (stp + 1))) co)), ((ma 1), .inl (k 0, 800, .inl wd)), ((ma 3), .inl (k 0, 800, .inl (fun i => nI (En i)))), ((ma 12), .inl (k 0, 1400, .inl vr))]) 0 0 := by
  refine met_start (by decide) (Nat.le_of_ble_eq_true rfl) ?_
  intro p e s m below meth c C K hA hsz S ls hl
  generalize va_A [(h0, .inr (8, moL ma (va_up (va_up (va_up (va_up (va_up iv 8 (nI fn)) 9 (nI pa)) 4 (nI stp)) 6 (nI bs)) 7 (nI kn)) co)), ((ma 1), .inl (k 0, 800, .inl wd)), ((ma 3), .inl (k 0, 800, .inl (fun i => nI (En i)))), ((ma 12), .inl (k 0, 1400, .inl vr))] s0 = A at hA S ⊢
  have hx := C.1
  have hb := C.2.1
  have hl : lv_has ls 6 [(0, .ref h0)] := hl
  refine lv_aload_n hx hb d_Mo_beginOne_0 rfl (lv_at hl 0 rfl) ?_
  refine r_get C K S 0 rfl rfl clOk_Mo 12 (by decide) wf_Mo_165 (v := .int (nI stp)) rfl d_Mo_beginOne_1 ?_
  refine lv_sipush (v := 20000) hx hb d_Mo_beginOne_4 (by decide) ?_
  refine z_icmp_ne (a := stp) (b := 20000) (tgt := 16) hx hb d_Mo_beginOne_7 (by decide) (by omega) (by omega) (fun hc1 => ?_) (fun hc1 => False.elim (by omega))
  refine lv_aload_n hx hb d_Mo_beginOne_16 rfl (lv_at hl 0 rfl) ?_
  refine lv_dup hx hb d_Mo_beginOne_17 rfl ?_
  refine r_get C K S 0 rfl rfl clOk_Mo 12 (by decide) wf_Mo_165 (v := .int (nI stp)) rfl d_Mo_beginOne_18 ?_
  refine lv_iconst (v := 1) hx hb d_Mo_beginOne_21 (by decide) ?_
  refine z_iadd (x := nI stp) (y := 1) (v := nI (stp + 1)) hx hb d_Mo_beginOne_22 (nI_add stp 1) ?_
  refine r_put C K S 0 rfl rfl clOk_Mo 12 (by decide) wf_Mo_165 rfl (ty := .int) (v := .int (nI (stp + 1))) (by decide +kernel) rfl rfl (Nat.le_of_ble_eq_true rfl) (fs' := moL ma (va_up (va_up (va_up (va_up (va_up iv 8 (nI fn)) 9 (nI pa)) 6 (nI bs)) 7 (nI kn)) 4 (nI (stp + 1))) co) (ws' := [(h0, .inr (8, moL ma (va_up (va_up (va_up (va_up (va_up iv 8 (nI fn)) 9 (nI pa)) 6 (nI bs)) 7 (nI kn)) 4 (nI (stp + 1))) co)), ((ma 1), .inl (k 0, 800, .inl wd)), ((ma 3), .inl (k 0, 800, .inl (fun i => nI (En i)))), ((ma 12), .inl (k 0, 1400, .inl vr))]) rfl rfl d_Mo_beginOne_23 (fun H locs S => ?_)
  refine lv_sipush (v := 200) hx hb d_Mo_beginOne_26 (by decide) ?_
  refine lv_aload_n hx hb d_Mo_beginOne_29 rfl (lv_at hl 0 rfl) ?_
  refine r_get C K S 0 rfl rfl clOk_Mo 22 (by decide) wf_Mo_146 (v := .int (nI fn)) rfl d_Mo_beginOne_30 ?_
  refine z_imul (x := 200) (y := nI fn) (v := nI (200 * fn)) hx hb d_Mo_beginOne_33 (pk_mul 200 fn) ?_
  refine lv_aload_n hx hb d_Mo_beginOne_34 rfl (lv_at hl 0 rfl) ?_
  refine r_get C K S 0 rfl rfl clOk_Mo 23 (by decide) wf_Mo_162 (v := .int (nI pa)) rfl d_Mo_beginOne_35 ?_
  refine z_iadd (x := nI (200 * fn)) (y := nI pa) (v := nI (200 * fn + pa)) hx hb d_Mo_beginOne_38 (nI_add (200 * fn) pa) ?_
  refine lv_istore_n (lv' := [(1, .int (nI (200 * fn + pa))), (0, .ref h0)]) hx hb d_Mo_beginOne_39 rfl hl (by decide) rfl (fun ls hl => ?_)
  refine lv_aload_n hx hb d_Mo_beginOne_40 rfl (lv_at hl 1 rfl) ?_
  refine r_get C K S 0 rfl rfl clOk_Mo 2 (by decide) wf_Mo_13 (v := .ref (ma 1)) rfl d_Mo_beginOne_41 ?_
  refine lv_iload_n hx hb d_Mo_beginOne_44 rfl (lv_at hl 0 rfl) ?_
  refine lv_iconst (v := 1) hx hb d_Mo_beginOne_45 (by decide) ?_
  refine z_iadd (x := nI (200 * fn + pa)) (y := 1) (v := nI (200 * fn + pa + 1)) hx hb d_Mo_beginOne_46 (nI_add (200 * fn + pa) 1) ?_
  refine lv_sipush (v := 800) hx hb d_Mo_beginOne_47 (by decide) ?_
  refine z_icmp_ge (a := (200 * fn + pa + 1)) (b := 800) (tgt := 59) hx hb d_Mo_beginOne_50 (by decide) (by omega) (by omega) (fun hc2 => False.elim (by omega)) (fun hc2 => ?_)
  refine lv_iload_n hx hb d_Mo_beginOne_53 rfl (lv_at hl 0 rfl) ?_
  refine lv_iconst (v := 1) hx hb d_Mo_beginOne_54 (by decide) ?_
  refine z_iadd (x := nI (200 * fn + pa)) (y := 1) (v := nI (200 * fn + pa + 1)) hx hb d_Mo_beginOne_55 (nI_add (200 * fn + pa) 1) ?_
  refine lv_goto (tgt := 60) hx hb d_Mo_beginOne_56 (by decide) ?_
  refine r_iald C K S 1 rfl (i := nI (200 * fn + pa + 1)) (show vp_in (nI (200 * fn + pa + 1)) _ from vp_in_nI (n := (200 * fn + pa + 1)) (by omega) (by decide)) (v := wdF wd fn (pa + 1)) (by rw [nI_clamp (by omega)]; exact (show wd (200 * fn + pa + 1) = wd (200 * fn + (pa + 1)) from congrArg wd (by omega))) d_Mo_beginOne_60 ?_
  rw [hv]
  refine lv_istore_n (lv' := [(2, .int (nI v9)), (1, .int (nI (200 * fn + pa))), (0, .ref h0)]) hx hb d_Mo_beginOne_61 rfl hl (by decide) rfl (fun ls hl => ?_)
  refine lv_aload_n hx hb d_Mo_beginOne_62 rfl (lv_at hl 2 rfl) ?_
  refine r_get C K S 0 rfl rfl clOk_Mo 2 (by decide) wf_Mo_13 (v := .ref (ma 1)) rfl d_Mo_beginOne_63 ?_
  refine lv_iload_n hx hb d_Mo_beginOne_66 rfl (lv_at hl 1 rfl) ?_
  refine r_iald C K S 1 rfl (i := nI (200 * fn + pa)) (show vp_in (nI (200 * fn + pa)) _ from vp_in_nI (n := (200 * fn + pa)) (by omega) (by decide)) (v := wdF wd fn pa) (by rw [nI_clamp (by omega)]; exact (show wd (200 * fn + pa) = wd (200 * fn + pa) from congrArg wd (by omega))) d_Mo_beginOne_67 ?_
  refine lv_tableIn (x := wdF wd fn pa) (off := 85) (tgt := 153) hx hb d_Mo_beginOne_68 (by rw [hk]; decide) (by rw [hk]; decide) (by rw [hk]; rfl) (by decide) ?_
  refine lv_aload_n hx hb d_Mo_beginOne_153 rfl (lv_at hl 2 rfl) ?_
  refine r_get C K S 0 rfl rfl clOk_Mo 19 (by decide) wf_Mo_53 (v := .ref (ma 12)) rfl d_Mo_beginOne_154 ?_
  refine lv_aload_n hx hb d_Mo_beginOne_157 rfl (lv_at hl 2 rfl) ?_
  refine r_get C K S 0 rfl rfl clOk_Mo 20 (by decide) wf_Mo_149 (v := .int (nI bs)) rfl d_Mo_beginOne_158 ?_
  refine lv_iload_n hx hb d_Mo_beginOne_161 rfl (lv_at hl 0 rfl) ?_
  refine z_iadd (x := nI bs) (y := nI v9) (v := nI (bs + v9)) hx hb d_Mo_beginOne_162 (nI_add bs v9) ?_
  refine r_iald C K S 3 rfl (i := nI (bs + v9)) (show vp_in (nI (bs + v9)) _ from vp_in_nI (n := (bs + v9)) (by omega) (by decide)) (v := vr (bs + v9)) (by rw [nI_clamp (by omega)]) d_Mo_beginOne_163 ?_
  rw [hvn, hn0]
  refine lv_istore_n (lv' := [(3, .int (nI 0)), (2, .int (nI v9)), (1, .int (nI (200 * fn + pa))), (0, .ref h0)]) hx hb d_Mo_beginOne_164 rfl hl (by decide) rfl (fun ls hl => ?_)
  refine lv_aload_n hx hb d_Mo_beginOne_165 rfl (lv_at hl 3 rfl) ?_
  refine lv_iload_n hx hb d_Mo_beginOne_166 rfl (lv_at hl 0 rfl) ?_
  refine z_if_ne (a := 0) (tgt := 179) hx hb d_Mo_beginOne_167 (by decide) (by omega) (fun hc3 => False.elim (by omega)) (fun hc3 => ?_)
  refine lv_aload_n hx hb d_Mo_beginOne_170 rfl (lv_at hl 3 rfl) ?_
  refine r_get C K S 0 rfl rfl clOk_Mo 23 (by decide) wf_Mo_162 (v := .int (nI pa)) rfl d_Mo_beginOne_171 ?_
  refine lv_iconst (v := 2) hx hb d_Mo_beginOne_174 (by decide) ?_
  refine z_iadd (x := nI pa) (y := 2) (v := nI (pa + 2)) hx hb d_Mo_beginOne_175 (nI_add pa 2) ?_
  refine lv_goto (tgt := 187) hx hb d_Mo_beginOne_176 (by decide) ?_
  refine r_put C K S 0 rfl rfl clOk_Mo 23 (by decide) wf_Mo_162 rfl (ty := .int) (v := .int (nI (pa + 2))) (by decide +kernel) rfl rfl (Nat.le_of_ble_eq_true rfl) (fs' := moL ma (va_up (va_up (va_up (va_up (va_up iv 8 (nI fn)) 6 (nI bs)) 7 (nI kn)) 4 (nI (stp + 1))) 9 (nI (pa + 2))) co) (ws' := [(h0, .inr (8, moL ma (va_up (va_up (va_up (va_up (va_up iv 8 (nI fn)) 6 (nI bs)) 7 (nI kn)) 4 (nI (stp + 1))) 9 (nI (pa + 2))) co)), ((ma 1), .inl (k 0, 800, .inl wd)), ((ma 3), .inl (k 0, 800, .inl (fun i => nI (En i)))), ((ma 12), .inl (k 0, 1400, .inl vr))]) rfl rfl d_Mo_beginOne_187 (fun H locs S => ?_)
  refine lv_iload_n hx hb d_Mo_beginOne_190 rfl (lv_at hl 0 rfl) ?_
  refine z_if_le (a := 0) (tgt := 349) hx hb d_Mo_beginOne_191 (by decide) (by omega) (fun hc4 => ?_) (fun hc4 => False.elim (by omega))
  exact r_vret C K () trivial (S.sub [0, 1, 2, 3] (by decide) rfl) d_Mo_beginOne_349 (Nat.le_of_ble_eq_true rfl) (Nat.le_of_ble_eq_true rfl)
set_option maxRecDepth 100000 in
set_option maxHeartbeats 16000000 in
/-- Mo_beginOne_3f -/
theorem g_Mo_beginOne_3f (l : Launch) (G : va_G) (k : Nat → ClassId) (h0 : Nat) (s0 : Nat) (fn : Nat) (pa : Nat) (stp : Nat) (v9 : Nat) (n9 : Nat) (bs : Nat) (kn : Nat) (vr : Nat → Int32) (En : Nat → Nat) (m9 : Nat) (ma : Nat → Nat) (iv : Nat → Int32) (co : Int64) (wd : Nat → Int32) (hfn : fn < 4) (hst : stp < 20000) (hpa : pa + 3 ≤ 200) (hv : wdF wd fn (pa + 1) = nI v9) (hb9 : bs + v9 < 1400) (hb8 : bs + kn < 1400) (hvn : vr (bs + v9) = nI n9) (hn0 : 0 < n9 ∧ n9 < 100000) (hm : En (200 * fn + pa + 2) = m9) (hk : wdF wd fn pa = 3) : CV l y_Mo_beginOne c_Mo_beginOne 6 { frames := 0, cells := 0, slots := 0, locals := 0 } [.ref h0] G k s0 [(h0, .inr (8, moL ma (va_up (va_up (va_up (va_up (va_up iv 8 (nI fn)) 9 (nI pa)) 4 (nI stp)) 6 (nI bs)) 7 (nI kn)) co)), ((ma 1), .inl (k 0, 800, .inl wd)), ((ma 3), .inl (k 0, 800, .inl (fun i => nI (En i)))), ((ma 12), .inl (k 0, 1400, .inl vr))] (fun (u : Unit) => True) (fun u => [(h0, .inr (8, moL ma (va_up (va_up (va_up (va_up (va_up iv 8 (nI fn)) 9 (nI m9)) 6 (nI bs)) 7 (nI (kn + 1))) 4 (nI (stp + 1))) co)), ((ma 1), .inl (k 0, 800, .inl wd)), ((ma 3), .inl (k 0, 800, .inl (fun i => nI (En i)))), ((ma 12), .inl (k 0, 1400, .inl (va_up vr (bs + kn) (nI (n9 - 1)))))]) 0 0 := by
  refine met_start (by decide) (Nat.le_of_ble_eq_true rfl) ?_
  intro p e s m below meth c C K hA hsz S ls hl
  generalize va_A [(h0, .inr (8, moL ma (va_up (va_up (va_up (va_up (va_up iv 8 (nI fn)) 9 (nI pa)) 4 (nI stp)) 6 (nI bs)) 7 (nI kn)) co)), ((ma 1), .inl (k 0, 800, .inl wd)), ((ma 3), .inl (k 0, 800, .inl (fun i => nI (En i)))), ((ma 12), .inl (k 0, 1400, .inl vr))] s0 = A at hA S ⊢
  have hx := C.1
  have hb := C.2.1
  have hl : lv_has ls 6 [(0, .ref h0)] := hl
  refine lv_aload_n hx hb d_Mo_beginOne_0 rfl (lv_at hl 0 rfl) ?_
  refine r_get C K S 0 rfl rfl clOk_Mo 12 (by decide) wf_Mo_165 (v := .int (nI stp)) rfl d_Mo_beginOne_1 ?_
  refine lv_sipush (v := 20000) hx hb d_Mo_beginOne_4 (by decide) ?_
  refine z_icmp_ne (a := stp) (b := 20000) (tgt := 16) hx hb d_Mo_beginOne_7 (by decide) (by omega) (by omega) (fun hc1 => ?_) (fun hc1 => False.elim (by omega))
  refine lv_aload_n hx hb d_Mo_beginOne_16 rfl (lv_at hl 0 rfl) ?_
  refine lv_dup hx hb d_Mo_beginOne_17 rfl ?_
  refine r_get C K S 0 rfl rfl clOk_Mo 12 (by decide) wf_Mo_165 (v := .int (nI stp)) rfl d_Mo_beginOne_18 ?_
  refine lv_iconst (v := 1) hx hb d_Mo_beginOne_21 (by decide) ?_
  refine z_iadd (x := nI stp) (y := 1) (v := nI (stp + 1)) hx hb d_Mo_beginOne_22 (nI_add stp 1) ?_
  refine r_put C K S 0 rfl rfl clOk_Mo 12 (by decide) wf_Mo_165 rfl (ty := .int) (v := .int (nI (stp + 1))) (by decide +kernel) rfl rfl (Nat.le_of_ble_eq_true rfl) (fs' := moL ma (va_up (va_up (va_up (va_up (va_up iv 8 (nI fn)) 9 (nI pa)) 6 (nI bs)) 7 (nI kn)) 4 (nI (stp + 1))) co) (ws' := [(h0, .inr (8, moL ma (va_up (va_up (va_up (va_up (va_up iv 8 (nI fn)) 9 (nI pa)) 6 (nI bs)) 7 (nI kn)) 4 (nI (stp + 1))) co)), ((ma 1), .inl (k 0, 800, .inl wd)), ((ma 3), .inl (k 0, 800, .inl (fun i => nI (En i)))), ((ma 12), .inl (k 0, 1400, .inl vr))]) rfl rfl d_Mo_beginOne_23 (fun H locs S => ?_)
  refine lv_sipush (v := 200) hx hb d_Mo_beginOne_26 (by decide) ?_
  refine lv_aload_n hx hb d_Mo_beginOne_29 rfl (lv_at hl 0 rfl) ?_
  refine r_get C K S 0 rfl rfl clOk_Mo 22 (by decide) wf_Mo_146 (v := .int (nI fn)) rfl d_Mo_beginOne_30 ?_
  refine z_imul (x := 200) (y := nI fn) (v := nI (200 * fn)) hx hb d_Mo_beginOne_33 (pk_mul 200 fn) ?_
  refine lv_aload_n hx hb d_Mo_beginOne_34 rfl (lv_at hl 0 rfl) ?_
  refine r_get C K S 0 rfl rfl clOk_Mo 23 (by decide) wf_Mo_162 (v := .int (nI pa)) rfl d_Mo_beginOne_35 ?_
  refine z_iadd (x := nI (200 * fn)) (y := nI pa) (v := nI (200 * fn + pa)) hx hb d_Mo_beginOne_38 (nI_add (200 * fn) pa) ?_
  refine lv_istore_n (lv' := [(1, .int (nI (200 * fn + pa))), (0, .ref h0)]) hx hb d_Mo_beginOne_39 rfl hl (by decide) rfl (fun ls hl => ?_)
  refine lv_aload_n hx hb d_Mo_beginOne_40 rfl (lv_at hl 1 rfl) ?_
  refine r_get C K S 0 rfl rfl clOk_Mo 2 (by decide) wf_Mo_13 (v := .ref (ma 1)) rfl d_Mo_beginOne_41 ?_
  refine lv_iload_n hx hb d_Mo_beginOne_44 rfl (lv_at hl 0 rfl) ?_
  refine lv_iconst (v := 1) hx hb d_Mo_beginOne_45 (by decide) ?_
  refine z_iadd (x := nI (200 * fn + pa)) (y := 1) (v := nI (200 * fn + pa + 1)) hx hb d_Mo_beginOne_46 (nI_add (200 * fn + pa) 1) ?_
  refine lv_sipush (v := 800) hx hb d_Mo_beginOne_47 (by decide) ?_
  refine z_icmp_ge (a := (200 * fn + pa + 1)) (b := 800) (tgt := 59) hx hb d_Mo_beginOne_50 (by decide) (by omega) (by omega) (fun hc2 => False.elim (by omega)) (fun hc2 => ?_)
  refine lv_iload_n hx hb d_Mo_beginOne_53 rfl (lv_at hl 0 rfl) ?_
  refine lv_iconst (v := 1) hx hb d_Mo_beginOne_54 (by decide) ?_
  refine z_iadd (x := nI (200 * fn + pa)) (y := 1) (v := nI (200 * fn + pa + 1)) hx hb d_Mo_beginOne_55 (nI_add (200 * fn + pa) 1) ?_
  refine lv_goto (tgt := 60) hx hb d_Mo_beginOne_56 (by decide) ?_
  refine r_iald C K S 1 rfl (i := nI (200 * fn + pa + 1)) (show vp_in (nI (200 * fn + pa + 1)) _ from vp_in_nI (n := (200 * fn + pa + 1)) (by omega) (by decide)) (v := wdF wd fn (pa + 1)) (by rw [nI_clamp (by omega)]; exact (show wd (200 * fn + pa + 1) = wd (200 * fn + (pa + 1)) from congrArg wd (by omega))) d_Mo_beginOne_60 ?_
  rw [hv]
  refine lv_istore_n (lv' := [(2, .int (nI v9)), (1, .int (nI (200 * fn + pa))), (0, .ref h0)]) hx hb d_Mo_beginOne_61 rfl hl (by decide) rfl (fun ls hl => ?_)
  refine lv_aload_n hx hb d_Mo_beginOne_62 rfl (lv_at hl 2 rfl) ?_
  refine r_get C K S 0 rfl rfl clOk_Mo 2 (by decide) wf_Mo_13 (v := .ref (ma 1)) rfl d_Mo_beginOne_63 ?_
  refine lv_iload_n hx hb d_Mo_beginOne_66 rfl (lv_at hl 1 rfl) ?_
  refine r_iald C K S 1 rfl (i := nI (200 * fn + pa)) (show vp_in (nI (200 * fn + pa)) _ from vp_in_nI (n := (200 * fn + pa)) (by omega) (by decide)) (v := wdF wd fn pa) (by rw [nI_clamp (by omega)]; exact (show wd (200 * fn + pa) = wd (200 * fn + pa) from congrArg wd (by omega))) d_Mo_beginOne_67 ?_
  refine lv_tableIn (x := wdF wd fn pa) (off := 85) (tgt := 153) hx hb d_Mo_beginOne_68 (by rw [hk]; decide) (by rw [hk]; decide) (by rw [hk]; rfl) (by decide) ?_
  refine lv_aload_n hx hb d_Mo_beginOne_153 rfl (lv_at hl 2 rfl) ?_
  refine r_get C K S 0 rfl rfl clOk_Mo 19 (by decide) wf_Mo_53 (v := .ref (ma 12)) rfl d_Mo_beginOne_154 ?_
  refine lv_aload_n hx hb d_Mo_beginOne_157 rfl (lv_at hl 2 rfl) ?_
  refine r_get C K S 0 rfl rfl clOk_Mo 20 (by decide) wf_Mo_149 (v := .int (nI bs)) rfl d_Mo_beginOne_158 ?_
  refine lv_iload_n hx hb d_Mo_beginOne_161 rfl (lv_at hl 0 rfl) ?_
  refine z_iadd (x := nI bs) (y := nI v9) (v := nI (bs + v9)) hx hb d_Mo_beginOne_162 (nI_add bs v9) ?_
  refine r_iald C K S 3 rfl (i := nI (bs + v9)) (show vp_in (nI (bs + v9)) _ from vp_in_nI (n := (bs + v9)) (by omega) (by decide)) (v := vr (bs + v9)) (by rw [nI_clamp (by omega)]) d_Mo_beginOne_163 ?_
  rw [hvn]
  refine lv_istore_n (lv' := [(3, .int (nI n9)), (2, .int (nI v9)), (1, .int (nI (200 * fn + pa))), (0, .ref h0)]) hx hb d_Mo_beginOne_164 rfl hl (by decide) rfl (fun ls hl => ?_)
  refine lv_aload_n hx hb d_Mo_beginOne_165 rfl (lv_at hl 3 rfl) ?_
  refine lv_iload_n hx hb d_Mo_beginOne_166 rfl (lv_at hl 0 rfl) ?_
  refine z_if_ne (a := n9) (tgt := 179) hx hb d_Mo_beginOne_167 (by decide) (by omega) (fun hc3 => ?_) (fun hc3 => False.elim (by omega))
  refine lv_aload_n hx hb d_Mo_beginOne_179 rfl (lv_at hl 3 rfl) ?_
  refine r_get C K S 0 rfl rfl clOk_Mo 5 (by decide) wf_Mo_23 (v := .ref (ma 3)) rfl d_Mo_beginOne_180 ?_
  refine lv_iload_n hx hb d_Mo_beginOne_183 rfl (lv_at hl 2 rfl) ?_
  refine lv_iconst (v := 2) hx hb d_Mo_beginOne_184 (by decide) ?_
  refine z_iadd (x := nI (200 * fn + pa)) (y := 2) (v := nI (200 * fn + pa + 2)) hx hb d_Mo_beginOne_185 (nI_add (200 * fn + pa) 2) ?_
  refine r_iald C K S 2 rfl (i := nI (200 * fn + pa + 2)) (show vp_in (nI (200 * fn + pa + 2)) _ from vp_in_nI (n := (200 * fn + pa + 2)) (by omega) (by decide)) (v := nI (En (200 * fn + pa + 2))) (by rw [nI_clamp (by omega)]) d_Mo_beginOne_186 ?_
  rw [hm]
  refine r_put C K S 0 rfl rfl clOk_Mo 23 (by decide) wf_Mo_162 rfl (ty := .int) (v := .int (nI m9)) (by decide +kernel) rfl rfl (Nat.le_of_ble_eq_true rfl) (fs' := moL ma (va_up (va_up (va_up (va_up (va_up iv 8 (nI fn)) 6 (nI bs)) 7 (nI kn)) 4 (nI (stp + 1))) 9 (nI m9)) co) (ws' := [(h0, .inr (8, moL ma (va_up (va_up (va_up (va_up (va_up iv 8 (nI fn)) 6 (nI bs)) 7 (nI kn)) 4 (nI (stp + 1))) 9 (nI m9)) co)), ((ma 1), .inl (k 0, 800, .inl wd)), ((ma 3), .inl (k 0, 800, .inl (fun i => nI (En i)))), ((ma 12), .inl (k 0, 1400, .inl vr))]) rfl rfl d_Mo_beginOne_187 (fun H locs S => ?_)
  refine lv_iload_n hx hb d_Mo_beginOne_190 rfl (lv_at hl 0 rfl) ?_
  refine z_if_le (a := n9) (tgt := 349) hx hb d_Mo_beginOne_191 (by decide) (by omega) (fun hc4 => False.elim (by omega)) (fun hc4 => ?_)
  refine lv_aload_n hx hb d_Mo_beginOne_194 rfl (lv_at hl 3 rfl) ?_
  refine r_get C K S 0 rfl rfl clOk_Mo 19 (by decide) wf_Mo_53 (v := .ref (ma 12)) rfl d_Mo_beginOne_195 ?_
  refine lv_aload_n hx hb d_Mo_beginOne_198 rfl (lv_at hl 3 rfl) ?_
  refine r_get C K S 0 rfl rfl clOk_Mo 20 (by decide) wf_Mo_149 (v := .int (nI bs)) rfl d_Mo_beginOne_199 ?_
  refine lv_aload_n hx hb d_Mo_beginOne_202 rfl (lv_at hl 3 rfl) ?_
  refine r_get C K S 0 rfl rfl clOk_Mo 21 (by decide) wf_Mo_152 (v := .int (nI kn)) rfl d_Mo_beginOne_203 ?_
  refine z_iadd (x := nI bs) (y := nI kn) (v := nI (bs + kn)) hx hb d_Mo_beginOne_206 (nI_add bs kn) ?_
  refine lv_iload_n hx hb d_Mo_beginOne_207 rfl (lv_at hl 0 rfl) ?_
  refine lv_iconst (v := 1) hx hb d_Mo_beginOne_208 (by decide) ?_
  refine z_isub (x := nI n9) (y := 1) (v := nI (n9 - 1)) hx hb d_Mo_beginOne_209 (pk_sub (a := n9) (b := 1) (by omega)) ?_
  refine r_iast C K S 3 rfl (i := nI (bs + kn)) (x := nI (n9 - 1)) (show vp_in (nI (bs + kn)) _ from vp_in_nI (n := (bs + kn)) (by omega) (by decide)) (f' := va_up vr (bs + kn) (nI (n9 - 1))) (ws' := [(h0, .inr (8, moL ma (va_up (va_up (va_up (va_up (va_up iv 8 (nI fn)) 6 (nI bs)) 7 (nI kn)) 4 (nI (stp + 1))) 9 (nI m9)) co)), ((ma 1), .inl (k 0, 800, .inl wd)), ((ma 3), .inl (k 0, 800, .inl (fun i => nI (En i)))), ((ma 12), .inl (k 0, 1400, .inl (va_up vr (bs + kn) (nI (n9 - 1)))))]) (show upd _ (nI (bs + kn) : Int32).toNatClampNeg (nI (n9 - 1)) = _ from upd_W vr (j := (bs + kn)) (by omega) (nI (n9 - 1))) rfl d_Mo_beginOne_210 (fun H locs S => ?_)
  refine lv_aload_n hx hb d_Mo_beginOne_211 rfl (lv_at hl 3 rfl) ?_
  refine lv_dup hx hb d_Mo_beginOne_212 rfl ?_
  refine r_get C K S 0 rfl rfl clOk_Mo 21 (by decide) wf_Mo_152 (v := .int (nI kn)) rfl d_Mo_beginOne_213 ?_
  refine lv_iconst (v := 1) hx hb d_Mo_beginOne_216 (by decide) ?_
  refine z_iadd (x := nI kn) (y := 1) (v := nI (kn + 1)) hx hb d_Mo_beginOne_217 (nI_add kn 1) ?_
  refine r_put C K S 0 rfl rfl clOk_Mo 21 (by decide) wf_Mo_152 rfl (ty := .int) (v := .int (nI (kn + 1))) (by decide +kernel) rfl rfl (Nat.le_of_ble_eq_true rfl) (fs' := moL ma (va_up (va_up (va_up (va_up (va_up iv 8 (nI fn)) 6 (nI bs)) 4 (nI (stp + 1))) 9 (nI m9)) 7 (nI (kn + 1))) co) (ws' := [(h0, .inr (8, moL ma (va_up (va_up (va_up (va_up (va_up iv 8 (nI fn)) 6 (nI bs)) 4 (nI (stp + 1))) 9 (nI m9)) 7 (nI (kn + 1))) co)), ((ma 1), .inl (k 0, 800, .inl wd)), ((ma 3), .inl (k 0, 800, .inl (fun i => nI (En i)))), ((ma 12), .inl (k 0, 1400, .inl (va_up vr (bs + kn) (nI (n9 - 1)))))]) rfl rfl d_Mo_beginOne_218 (fun H locs S => ?_)
  refine lv_goto (tgt := 349) hx hb d_Mo_beginOne_221 (by decide) ?_
  exact r_vret C K () trivial (S.sub [0, 1, 2, 3] (by decide) rfl) d_Mo_beginOne_349 (Nat.le_of_ble_eq_true rfl) (Nat.le_of_ble_eq_true rfl)
