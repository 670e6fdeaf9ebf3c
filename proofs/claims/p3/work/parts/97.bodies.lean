theorem d_Bo_kind_0 : decode c_Bo_kind 0 = .ok (.aload_n 0, 1) := by decide +kernel
theorem d_Bo_kind_1 : decode c_Bo_kind 1 = .ok (.getfield 9, 3) := by decide +kernel
theorem d_Bo_kind_4 : decode c_Bo_kind 4 = .ok (.aload_n 0, 1) := by decide +kernel
theorem d_Bo_kind_5 : decode c_Bo_kind 5 = .ok (.getfield 15, 3) := by decide +kernel
theorem d_Bo_kind_8 : decode c_Bo_kind 8 = .ok (.iload_n 1, 1) := by decide +kernel
theorem d_Bo_kind_9 : decode c_Bo_kind 9 = .ok (.iaload, 1) := by decide +kernel
theorem d_Bo_kind_10 : decode c_Bo_kind 10 = .ok (.iaload, 1) := by decide +kernel
theorem d_Bo_kind_11 : decode c_Bo_kind 11 = .ok (.ireturn, 1) := by decide +kernel
set_option maxRecDepth 100000 in
set_option maxHeartbeats 16000000 in
/-- Body.kind -/
theorem g_Bo_kind (l : Launch) (G : va_G) (k : Nat → ClassId) (h0 : Nat) (s0 : Nat) (x9 : Nat) (bw : Nat) (bst : Nat) (bfi : Nat) (bse : Nat) (bkn : Nat) (bnm : Nat) (tk9 : Nat) (sz9 : Nat) (nd9 : Nat) (wd : Nat → Int32) (sta : Nat → Nat) (hx9 : x9 < 40) (hs : sta x9 < 200) : CI l y_Bo_kind c_Bo_kind 2 .int { frames := 0, cells := 0, slots := 0, locals := 0 } [.ref h0, .int (nI x9)] G k s0 [(h0, .inr (4, [.ref bw, .ref bst, .ref bfi, .ref bse, .ref bkn, .ref bnm, .int (nI tk9), .int (nI sz9), .int (nI nd9)])), (bw, .inl (k 0, 200, .inl wd)), (bst, .inl (k 0, 40, .inl (fun i => nI (sta i))))] (fun (r : Int32) (u : Unit) => r = wd (sta x9) ∧ True) (fun u => [(h0, .inr (4, [.ref bw, .ref bst, .ref bfi, .ref bse, .ref bkn, .ref bnm, .int (nI tk9), .int (nI sz9), .int (nI nd9)])), (bw, .inl (k 0, 200, .inl wd)), (bst, .inl (k 0, 40, .inl (fun i => nI (sta i))))]) 0 0 := by
  refine met_start (by decide) (Nat.le_of_ble_eq_true rfl) ?_
  intro p e s m below meth c C K hA hsz S ls hl
  generalize va_A [(h0, .inr (4, [.ref bw, .ref bst, .ref bfi, .ref bse, .ref bkn, .ref bnm, .int (nI tk9), .int (nI sz9), .int (nI nd9)])), (bw, .inl (k 0, 200, .inl wd)), (bst, .inl (k 0, 40, .inl (fun i => nI (sta i))))] s0 = A at hA S ⊢
  have hx := C.1
  have hb := C.2.1
  have hl : lv_has ls 2 [(0, .ref h0), (1, .int (nI x9))] := hl
  refine lv_aload_n hx hb d_Bo_kind_0 rfl (lv_at hl 0 rfl) ?_
  refine r_get C K S 0 rfl rfl clOk_Bo 0 (by decide) wf_Bo_9 (v := .ref bw) rfl d_Bo_kind_1 ?_
  refine lv_aload_n hx hb d_Bo_kind_4 rfl (lv_at hl 0 rfl) ?_
  refine r_get C K S 0 rfl rfl clOk_Bo 1 (by decide) wf_Bo_15 (v := .ref bst) rfl d_Bo_kind_5 ?_
  refine lv_iload_n hx hb d_Bo_kind_8 rfl (lv_at hl 1 rfl) ?_
  refine r_iald C K S 2 rfl (i := nI x9) (show vp_in (nI x9) _ from vp_in_nI (n := x9) (by omega) (by decide)) (v := nI (sta x9)) (by rw [nI_clamp (by omega)]) d_Bo_kind_9 ?_
  refine r_iald C K S 1 rfl (i := nI (sta x9)) (show vp_in (nI (sta x9)) _ from vp_in_nI (n := (sta x9)) (by omega) (by decide)) (v := wd (sta x9)) (by rw [nI_clamp (by omega)]) d_Bo_kind_10 ?_
  exact r_iret C K rfl () ⟨rfl, trivial⟩ (S.sub [0, 1, 2] (by decide) rfl) d_Bo_kind_11 (Nat.le_of_ble_eq_true rfl) (Nat.le_of_ble_eq_true rfl)
theorem d_Bo_operand_0 : decode c_Bo_operand 0 = .ok (.aload_n 0, 1) := by decide +kernel
theorem d_Bo_operand_1 : decode c_Bo_operand 1 = .ok (.getfield 9, 3) := by decide +kernel
theorem d_Bo_operand_4 : decode c_Bo_operand 4 = .ok (.aload_n 0, 1) := by decide +kernel
theorem d_Bo_operand_5 : decode c_Bo_operand 5 = .ok (.getfield 15, 3) := by decide +kernel
theorem d_Bo_operand_8 : decode c_Bo_operand 8 = .ok (.iload_n 1, 1) := by decide +kernel
theorem d_Bo_operand_9 : decode c_Bo_operand 9 = .ok (.iaload, 1) := by decide +kernel
theorem d_Bo_operand_10 : decode c_Bo_operand 10 = .ok (.iconst 1, 1) := by decide +kernel
theorem d_Bo_operand_11 : decode c_Bo_operand 11 = .ok (.iadd, 1) := by decide +kernel
theorem d_Bo_operand_12 : decode c_Bo_operand 12 = .ok (.iaload, 1) := by decide +kernel
theorem d_Bo_operand_13 : decode c_Bo_operand 13 = .ok (.ireturn, 1) := by decide +kernel
set_option maxRecDepth 100000 in
set_option maxHeartbeats 16000000 in
/-- Body.operand -/
theorem g_Bo_operand (l : Launch) (G : va_G) (k : Nat → ClassId) (h0 : Nat) (s0 : Nat) (x9 : Nat) (bw : Nat) (bst : Nat) (bfi : Nat) (bse : Nat) (bkn : Nat) (bnm : Nat) (tk9 : Nat) (sz9 : Nat) (nd9 : Nat) (wd : Nat → Int32) (sta : Nat → Nat) (hx9 : x9 < 40) (hs : sta x9 + 1 < 200) : CI l y_Bo_operand c_Bo_operand 2 .int { frames := 0, cells := 0, slots := 0, locals := 0 } [.ref h0, .int (nI x9)] G k s0 [(h0, .inr (4, [.ref bw, .ref bst, .ref bfi, .ref bse, .ref bkn, .ref bnm, .int (nI tk9), .int (nI sz9), .int (nI nd9)])), (bw, .inl (k 0, 200, .inl wd)), (bst, .inl (k 0, 40, .inl (fun i => nI (sta i))))] (fun (r : Int32) (u : Unit) => r = wd (sta x9 + 1) ∧ True) (fun u => [(h0, .inr (4, [.ref bw, .ref bst, .ref bfi, .ref bse, .ref bkn, .ref bnm, .int (nI tk9), .int (nI sz9), .int (nI nd9)])), (bw, .inl (k 0, 200, .inl wd)), (bst, .inl (k 0, 40, .inl (fun i => nI (sta i))))]) 0 0 := by
  refine met_start (by decide) (Nat.le_of_ble_eq_true rfl) ?_
  intro p e s m below meth c C K hA hsz S ls hl
  generalize va_A [(h0, .inr (4, [.ref bw, .ref bst, .ref bfi, .ref bse, .ref bkn, .ref bnm, .int (nI tk9), .int (nI sz9), .int (nI nd9)])), (bw, .inl (k 0, 200, .inl wd)), (bst, .inl (k 0, 40, .inl (fun i => nI (sta i))))] s0 = A at hA S ⊢
  have hx := C.1
  have hb := C.2.1
  have hl : lv_has ls 2 [(0, .ref h0), (1, .int (nI x9))] := hl
  refine lv_aload_n hx hb d_Bo_operand_0 rfl (lv_at hl 0 rfl) ?_
  refine r_get C K S 0 rfl rfl clOk_Bo 0 (by decide) wf_Bo_9 (v := .ref bw) rfl d_Bo_operand_1 ?_
  refine lv_aload_n hx hb d_Bo_operand_4 rfl (lv_at hl 0 rfl) ?_
  refine r_get C K S 0 rfl rfl clOk_Bo 1 (by decide) wf_Bo_15 (v := .ref bst) rfl d_Bo_operand_5 ?_
  refine lv_iload_n hx hb d_Bo_operand_8 rfl (lv_at hl 1 rfl) ?_
  refine r_iald C K S 2 rfl (i := nI x9) (show vp_in (nI x9) _ from vp_in_nI (n := x9) (by omega) (by decide)) (v := nI (sta x9)) (by rw [nI_clamp (by omega)]) d_Bo_operand_9 ?_
  refine lv_iconst (v := 1) hx hb d_Bo_operand_10 (by decide) ?_
  refine z_iadd (x := nI (sta x9)) (y := 1) (v := nI (sta x9 + 1)) hx hb d_Bo_operand_11 (nI_add (sta x9) 1) ?_
  refine r_iald C K S 1 rfl (i := nI (sta x9 + 1)) (show vp_in (nI (sta x9 + 1)) _ from vp_in_nI (n := (sta x9 + 1)) (by omega) (by decide)) (v := wd (sta x9 + 1)) (by rw [nI_clamp (by omega)]) d_Bo_operand_12 ?_
  exact r_iret C K rfl () ⟨rfl, trivial⟩ (S.sub [0, 1, 2] (by decide) rfl) d_Bo_operand_13 (Nat.le_of_ble_eq_true rfl) (Nat.le_of_ble_eq_true rfl)
theorem d_Bo_handed_0 : decode c_Bo_handed 0 = .ok (.aload_n 0, 1) := by decide +kernel
theorem d_Bo_handed_1 : decode c_Bo_handed 1 = .ok (.getfield 9, 3) := by decide +kernel
theorem d_Bo_handed_4 : decode c_Bo_handed 4 = .ok (.aload_n 0, 1) := by decide +kernel
theorem d_Bo_handed_5 : decode c_Bo_handed 5 = .ok (.getfield 15, 3) := by decide +kernel
theorem d_Bo_handed_8 : decode c_Bo_handed 8 = .ok (.iload_n 1, 1) := by decide +kernel
theorem d_Bo_handed_9 : decode c_Bo_handed 9 = .ok (.iaload, 1) := by decide +kernel
theorem d_Bo_handed_10 : decode c_Bo_handed 10 = .ok (.iconst 2, 1) := by decide +kernel
theorem d_Bo_handed_11 : decode c_Bo_handed 11 = .ok (.iadd, 1) := by decide +kernel
theorem d_Bo_handed_12 : decode c_Bo_handed 12 = .ok (.iload_n 2, 1) := by decide +kernel
theorem d_Bo_handed_13 : decode c_Bo_handed 13 = .ok (.iadd, 1) := by decide +kernel
theorem d_Bo_handed_14 : decode c_Bo_handed 14 = .ok (.iaload, 1) := by decide +kernel
theorem d_Bo_handed_15 : decode c_Bo_handed 15 = .ok (.ireturn, 1) := by decide +kernel
set_option maxRecDepth 100000 in
set_option maxHeartbeats 16000000 in
/-- Body.handed -/
theorem g_Bo_handed (l : Launch) (G : va_G) (k : Nat → ClassId) (h0 : Nat) (s0 : Nat) (x9 : Nat) (i9 : Nat) (bw : Nat) (bst : Nat) (bfi : Nat) (bse : Nat) (bkn : Nat) (bnm : Nat) (tk9 : Nat) (sz9 : Nat) (nd9 : Nat) (wd : Nat → Int32) (sta : Nat → Nat) (hx9 : x9 < 40) (hs : sta x9 + 2 + i9 < 200) : CI l y_Bo_handed c_Bo_handed 3 .int { frames := 0, cells := 0, slots := 0, locals := 0 } [.ref h0, .int (nI x9), .int (nI i9)] G k s0 [(h0, .inr (4, [.ref bw, .ref bst, .ref bfi, .ref bse, .ref bkn, .ref bnm, .int (nI tk9), .int (nI sz9), .int (nI nd9)])), (bw, .inl (k 0, 200, .inl wd)), (bst, .inl (k 0, 40, .inl (fun i => nI (sta i))))] (fun (r : Int32) (u : Unit) => r = wd (sta x9 + 2 + i9) ∧ True) (fun u => [(h0, .inr (4, [.ref bw, .ref bst, .ref bfi, .ref bse, .ref bkn, .ref bnm, .int (nI tk9), .int (nI sz9), .int (nI nd9)])), (bw, .inl (k 0, 200, .inl wd)), (bst, .inl (k 0, 40, .inl (fun i => nI (sta i))))]) 0 0 := by
  refine met_start (by decide) (Nat.le_of_ble_eq_true rfl) ?_
  intro p e s m below meth c C K hA hsz S ls hl
  generalize va_A [(h0, .inr (4, [.ref bw, .ref bst, .ref bfi, .ref bse, .ref bkn, .ref bnm, .int (nI tk9), .int (nI sz9), .int (nI nd9)])), (bw, .inl (k 0, 200, .inl wd)), (bst, .inl (k 0, 40, .inl (fun i => nI (sta i))))] s0 = A at hA S ⊢
  have hx := C.1
  have hb := C.2.1
  have hl : lv_has ls 3 [(0, .ref h0), (1, .int (nI x9)), (2, .int (nI i9))] := hl
  refine lv_aload_n hx hb d_Bo_handed_0 rfl (lv_at hl 0 rfl) ?_
  refine r_get C K S 0 rfl rfl clOk_Bo 0 (by decide) wf_Bo_9 (v := .ref bw) rfl d_Bo_handed_1 ?_
  refine lv_aload_n hx hb d_Bo_handed_4 rfl (lv_at hl 0 rfl) ?_
  refine r_get C K S 0 rfl rfl clOk_Bo 1 (by decide) wf_Bo_15 (v := .ref bst) rfl d_Bo_handed_5 ?_
  refine lv_iload_n hx hb d_Bo_handed_8 rfl (lv_at hl 1 rfl) ?_
  refine r_iald C K S 2 rfl (i := nI x9) (show vp_in (nI x9) _ from vp_in_nI (n := x9) (by omega) (by decide)) (v := nI (sta x9)) (by rw [nI_clamp (by omega)]) d_Bo_handed_9 ?_
  refine lv_iconst (v := 2) hx hb d_Bo_handed_10 (by decide) ?_
  refine z_iadd (x := nI (sta x9)) (y := 2) (v := nI (sta x9 + 2)) hx hb d_Bo_handed_11 (nI_add (sta x9) 2) ?_
  refine lv_iload_n hx hb d_Bo_handed_12 rfl (lv_at hl 2 rfl) ?_
  refine z_iadd (x := nI (sta x9 + 2)) (y := nI i9) (v := nI (sta x9 + 2 + i9)) hx hb d_Bo_handed_13 (nI_add (sta x9 + 2) i9) ?_
  refine r_iald C K S 1 rfl (i := nI (sta x9 + 2 + i9)) (show vp_in (nI (sta x9 + 2 + i9)) _ from vp_in_nI (n := (sta x9 + 2 + i9)) (by omega) (by decide)) (v := wd (sta x9 + 2 + i9)) (by rw [nI_clamp (by omega)]) d_Bo_handed_14 ?_
  exact r_iret C K rfl () ⟨rfl, trivial⟩ (S.sub [0, 1, 2] (by decide) rfl) d_Bo_handed_15 (Nat.le_of_ble_eq_true rfl) (Nat.le_of_ble_eq_true rfl)
theorem d_Bo_begin_0 : decode c_Bo_begin 0 = .ok (.aload_n 0, 1) := by decide +kernel
theorem d_Bo_begin_1 : decode c_Bo_begin 1 = .ok (.getfield 30, 3) := by decide +kernel
theorem d_Bo_begin_4 : decode c_Bo_begin 4 = .ok (.istore_n 3, 1) := by decide +kernel
theorem d_Bo_begin_5 : decode c_Bo_begin 5 = .ok (.aload_n 0, 1) := by decide +kernel
theorem d_Bo_begin_6 : decode c_Bo_begin 6 = .ok (.dup, 1) := by decide +kernel
theorem d_Bo_begin_7 : decode c_Bo_begin 7 = .ok (.getfield 30, 3) := by decide +kernel
theorem d_Bo_begin_10 : decode c_Bo_begin 10 = .ok (.iconst 1, 1) := by decide +kernel
theorem d_Bo_begin_11 : decode c_Bo_begin 11 = .ok (.iadd, 1) := by decide +kernel
theorem d_Bo_begin_12 : decode c_Bo_begin 12 = .ok (.putfield 30, 3) := by decide +kernel
theorem d_Bo_begin_15 : decode c_Bo_begin 15 = .ok (.aload_n 0, 1) := by decide +kernel
theorem d_Bo_begin_16 : decode c_Bo_begin 16 = .ok (.getfield 15, 3) := by decide +kernel
theorem d_Bo_begin_19 : decode c_Bo_begin 19 = .ok (.iload_n 3, 1) := by decide +kernel
theorem d_Bo_begin_20 : decode c_Bo_begin 20 = .ok (.iload_n 1, 1) := by decide +kernel
theorem d_Bo_begin_21 : decode c_Bo_begin 21 = .ok (.iastore, 1) := by decide +kernel
theorem d_Bo_begin_22 : decode c_Bo_begin 22 = .ok (.aload_n 0, 1) := by decide +kernel
theorem d_Bo_begin_23 : decode c_Bo_begin 23 = .ok (.getfield 18, 3) := by decide +kernel
theorem d_Bo_begin_26 : decode c_Bo_begin 26 = .ok (.iload_n 3, 1) := by decide +kernel
theorem d_Bo_begin_27 : decode c_Bo_begin 27 = .ok (.iconst 0, 1) := by decide +kernel
theorem d_Bo_begin_28 : decode c_Bo_begin 28 = .ok (.iastore, 1) := by decide +kernel
theorem d_Bo_begin_29 : decode c_Bo_begin 29 = .ok (.aload_n 0, 1) := by decide +kernel
theorem d_Bo_begin_30 : decode c_Bo_begin 30 = .ok (.getfield 21, 3) := by decide +kernel
theorem d_Bo_begin_33 : decode c_Bo_begin 33 = .ok (.iload_n 3, 1) := by decide +kernel
theorem d_Bo_begin_34 : decode c_Bo_begin 34 = .ok (.iconst 0, 1) := by decide +kernel
theorem d_Bo_begin_35 : decode c_Bo_begin 35 = .ok (.iastore, 1) := by decide +kernel
theorem d_Bo_begin_36 : decode c_Bo_begin 36 = .ok (.aload_n 0, 1) := by decide +kernel
theorem d_Bo_begin_37 : decode c_Bo_begin 37 = .ok (.getfield 24, 3) := by decide +kernel
theorem d_Bo_begin_40 : decode c_Bo_begin 40 = .ok (.iload_n 3, 1) := by decide +kernel
theorem d_Bo_begin_41 : decode c_Bo_begin 41 = .ok (.iload_n 2, 1) := by decide +kernel
theorem d_Bo_begin_42 : decode c_Bo_begin 42 = .ok (.iastore, 1) := by decide +kernel
theorem d_Bo_begin_43 : decode c_Bo_begin 43 = .ok (.aload_n 0, 1) := by decide +kernel
theorem d_Bo_begin_44 : decode c_Bo_begin 44 = .ok (.getfield 27, 3) := by decide +kernel
theorem d_Bo_begin_47 : decode c_Bo_begin 47 = .ok (.iload_n 3, 1) := by decide +kernel
theorem d_Bo_begin_48 : decode c_Bo_begin 48 = .ok (.iconst 0, 1) := by decide +kernel
theorem d_Bo_begin_49 : decode c_Bo_begin 49 = .ok (.iastore, 1) := by decide +kernel
theorem d_Bo_begin_50 : decode c_Bo_begin 50 = .ok (.iload_n 3, 1) := by decide +kernel
theorem d_Bo_begin_51 : decode c_Bo_begin 51 = .ok (.ireturn, 1) := by decide +kernel
set_option maxRecDepth 100000 in
set_option maxHeartbeats 16000000 in
/-- Body.begin -/
theorem g_Bo_begin (l : Launch) (G : va_G) (k : Nat → ClassId) (h0 : Nat) (s0 : Nat) (p9 : Nat) (kn : Nat) (bw : Nat) (bst : Nat) (bfi : Nat) (bse : Nat) (bkn : Nat) (bnm : Nat) (tk9 : Nat) (sz9 : Nat) (nd9 : Nat) (sta : Nat → Nat) (fir : Nat → Nat) (sec : Nat → Nat) (kno : Nat → Nat) (nam : Nat → Nat) (hn : nd9 < 40) : CI l y_Bo_begin c_Bo_begin 4 .int { frames := 0, cells := 0, slots := 0, locals := 0 } [.ref h0, .int (nI p9), .int (nI kn)] G k s0 [(h0, .inr (4, [.ref bw, .ref bst, .ref bfi, .ref bse, .ref bkn, .ref bnm, .int (nI tk9), .int (nI sz9), .int (nI nd9)])), (bst, .inl (k 0, 40, .inl (fun i => nI (sta i)))), (bfi, .inl (k 0, 40, .inl (fun i => nI (fir i)))), (bse, .inl (k 0, 40, .inl (fun i => nI (sec i)))), (bkn, .inl (k 0, 40, .inl (fun i => nI (kno i)))), (bnm, .inl (k 0, 40, .inl (fun i => nI (nam i))))] (fun (r : Int32) (u : Unit) => r = nI nd9 ∧ True) (fun u => [(h0, .inr (4, [.ref bw, .ref bst, .ref bfi, .ref bse, .ref bkn, .ref bnm, .int (nI tk9), .int (nI sz9), .int (nI (nd9 + 1))])), (bst, .inl (k 0, 40, .inl (fun i => nI ((va_up sta nd9 p9) i)))), (bfi, .inl (k 0, 40, .inl (fun i => nI ((va_up fir nd9 0) i)))), (bse, .inl (k 0, 40, .inl (fun i => nI ((va_up sec nd9 0) i)))), (bkn, .inl (k 0, 40, .inl (fun i => nI ((va_up kno nd9 kn) i)))), (bnm, .inl (k 0, 40, .inl (fun i => nI ((va_up nam nd9 0) i))))]) 0 0 := by
  refine met_start (by decide) (Nat.le_of_ble_eq_true rfl) ?_
  intro p e s m below meth c C K hA hsz S ls hl
  generalize va_A [(h0, .inr (4, [.ref bw, .ref bst, .ref bfi, .ref bse, .ref bkn, .ref bnm, .int (nI tk9), .int (nI sz9), .int (nI nd9)])), (bst, .inl (k 0, 40, .inl (fun i => nI (sta i)))), (bfi, .inl (k 0, 40, .inl (fun i => nI (fir i)))), (bse, .inl (k 0, 40, .inl (fun i => nI (sec i)))), (bkn, .inl (k 0, 40, .inl (fun i => nI (kno i)))), (bnm, .inl (k 0, 40, .inl (fun i => nI (nam i))))] s0 = A at hA S ⊢
  have hx := C.1
  have hb := C.2.1
  have hl : lv_has ls 4 [(0, .ref h0), (1, .int (nI p9)), (2, .int (nI kn))] := hl
  refine lv_aload_n hx hb d_Bo_begin_0 rfl (lv_at hl 0 rfl) ?_
  refine r_get C K S 0 rfl rfl clOk_Bo 8 (by decide) wf_Bo_30 (v := .int (nI nd9)) rfl d_Bo_begin_1 ?_
  refine lv_istore_n (lv' := [(3, .int (nI nd9)), (0, .ref h0), (1, .int (nI p9)), (2, .int (nI kn))]) hx hb d_Bo_begin_4 rfl hl (by decide) rfl (fun ls hl => ?_)
  refine lv_aload_n hx hb d_Bo_begin_5 rfl (lv_at hl 1 rfl) ?_
  refine lv_dup hx hb d_Bo_begin_6 rfl ?_
  refine r_get C K S 0 rfl rfl clOk_Bo 8 (by decide) wf_Bo_30 (v := .int (nI nd9)) rfl d_Bo_begin_7 ?_
  refine lv_iconst (v := 1) hx hb d_Bo_begin_10 (by decide) ?_
  refine z_iadd (x := nI nd9) (y := 1) (v := nI (nd9 + 1)) hx hb d_Bo_begin_11 (nI_add nd9 1) ?_
  refine r_put C K S 0 rfl rfl clOk_Bo 8 (by decide) wf_Bo_30 rfl (ty := .int) (v := .int (nI (nd9 + 1))) (by decide +kernel) rfl rfl (Nat.le_of_ble_eq_true rfl) (fs' := [.ref bw, .ref bst, .ref bfi, .ref bse, .ref bkn, .ref bnm, .int (nI tk9), .int (nI sz9), .int (nI (nd9 + 1))]) (ws' := [(h0, .inr (4, [.ref bw, .ref bst, .ref bfi, .ref bse, .ref bkn, .ref bnm, .int (nI tk9), .int (nI sz9), .int (nI (nd9 + 1))])), (bst, .inl (k 0, 40, .inl (fun i => nI (sta i)))), (bfi, .inl (k 0, 40, .inl (fun i => nI (fir i)))), (bse, .inl (k 0, 40, .inl (fun i => nI (sec i)))), (bkn, .inl (k 0, 40, .inl (fun i => nI (kno i)))), (bnm, .inl (k 0, 40, .inl (fun i => nI (nam i))))]) rfl rfl d_Bo_begin_12 (fun H locs S => ?_)
  refine lv_aload_n hx hb d_Bo_begin_15 rfl (lv_at hl 1 rfl) ?_
  refine r_get C K S 0 rfl rfl clOk_Bo 1 (by decide) wf_Bo_15 (v := .ref bst) rfl d_Bo_begin_16 ?_
  refine lv_iload_n hx hb d_Bo_begin_19 rfl (lv_at hl 0 rfl) ?_
  refine lv_iload_n hx hb d_Bo_begin_20 rfl (lv_at hl 2 rfl) ?_
  refine r_iast C K S 1 rfl (i := nI nd9) (x := nI p9) (show vp_in (nI nd9) _ from vp_in_nI (n := nd9) (by omega) (by decide)) (f' := fun i => nI (va_up sta nd9 p9 i)) (ws' := [(h0, .inr (4, [.ref bw, .ref bst, .ref bfi, .ref bse, .ref bkn, .ref bnm, .int (nI tk9), .int (nI sz9), .int (nI (nd9 + 1))])), (bst, .inl (k 0, 40, .inl (fun i => nI (va_up sta nd9 p9 i)))), (bfi, .inl (k 0, 40, .inl (fun i => nI (fir i)))), (bse, .inl (k 0, 40, .inl (fun i => nI (sec i)))), (bkn, .inl (k 0, 40, .inl (fun i => nI (kno i)))), (bnm, .inl (k 0, 40, .inl (fun i => nI (nam i))))]) (show upd _ (nI nd9 : Int32).toNatClampNeg (nI p9) = _ from upd_nI sta (j := nd9) (by omega) p9) rfl d_Bo_begin_21 (fun H locs S => ?_)
  refine lv_aload_n hx hb d_Bo_begin_22 rfl (lv_at hl 1 rfl) ?_
  refine r_get C K S 0 rfl rfl clOk_Bo 2 (by decide) wf_Bo_18 (v := .ref bfi) rfl d_Bo_begin_23 ?_
  refine lv_iload_n hx hb d_Bo_begin_26 rfl (lv_at hl 0 rfl) ?_
  refine lv_iconst (v := 0) hx hb d_Bo_begin_27 (by decide) ?_
  refine r_iast C K S 2 rfl (i := nI nd9) (x := 0) (show vp_in (nI nd9) _ from vp_in_nI (n := nd9) (by omega) (by decide)) (f' := fun i => nI (va_up fir nd9 0 i)) (ws' := [(h0, .inr (4, [.ref bw, .ref bst, .ref bfi, .ref bse, .ref bkn, .ref bnm, .int (nI tk9), .int (nI sz9), .int (nI (nd9 + 1))])), (bst, .inl (k 0, 40, .inl (fun i => nI (va_up sta nd9 p9 i)))), (bfi, .inl (k 0, 40, .inl (fun i => nI (va_up fir nd9 0 i)))), (bse, .inl (k 0, 40, .inl (fun i => nI (sec i)))), (bkn, .inl (k 0, 40, .inl (fun i => nI (kno i)))), (bnm, .inl (k 0, 40, .inl (fun i => nI (nam i))))]) (show upd _ (nI nd9 : Int32).toNatClampNeg 0 = _ from upd_nI fir (j := nd9) (by omega) 0) rfl d_Bo_begin_28 (fun H locs S => ?_)
  refine lv_aload_n hx hb d_Bo_begin_29 rfl (lv_at hl 1 rfl) ?_
  refine r_get C K S 0 rfl rfl clOk_Bo 3 (by decide) wf_Bo_21 (v := .ref bse) rfl d_Bo_begin_30 ?_
  refine lv_iload_n hx hb d_Bo_begin_33 rfl (lv_at hl 0 rfl) ?_
  refine lv_iconst (v := 0) hx hb d_Bo_begin_34 (by decide) ?_
  refine r_iast C K S 3 rfl (i := nI nd9) (x := 0) (show vp_in (nI nd9) _ from vp_in_nI (n := nd9) (by omega) (by decide)) (f' := fun i => nI (va_up sec nd9 0 i)) (ws' := [(h0, .inr (4, [.ref bw, .ref bst, .ref bfi, .ref bse, .ref bkn, .ref bnm, .int (nI tk9), .int (nI sz9), .int (nI (nd9 + 1))])), (bst, .inl (k 0, 40, .inl (fun i => nI (va_up sta nd9 p9 i)))), (bfi, .inl (k 0, 40, .inl (fun i => nI (va_up fir nd9 0 i)))), (bse, .inl (k 0, 40, .inl (fun i => nI (va_up sec nd9 0 i)))), (bkn, .inl (k 0, 40, .inl (fun i => nI (kno i)))), (bnm, .inl (k 0, 40, .inl (fun i => nI (nam i))))]) (show upd _ (nI nd9 : Int32).toNatClampNeg 0 = _ from upd_nI sec (j := nd9) (by omega) 0) rfl d_Bo_begin_35 (fun H locs S => ?_)
  refine lv_aload_n hx hb d_Bo_begin_36 rfl (lv_at hl 1 rfl) ?_
  refine r_get C K S 0 rfl rfl clOk_Bo 4 (by decide) wf_Bo_24 (v := .ref bkn) rfl d_Bo_begin_37 ?_
  refine lv_iload_n hx hb d_Bo_begin_40 rfl (lv_at hl 0 rfl) ?_
  refine lv_iload_n hx hb d_Bo_begin_41 rfl (lv_at hl 3 rfl) ?_
  refine r_iast C K S 4 rfl (i := nI nd9) (x := nI kn) (show vp_in (nI nd9) _ from vp_in_nI (n := nd9) (by omega) (by decide)) (f' := fun i => nI (va_up kno nd9 kn i)) (ws' := [(h0, .inr (4, [.ref bw, .ref bst, .ref bfi, .ref bse, .ref bkn, .ref bnm, .int (nI tk9), .int (nI sz9), .int (nI (nd9 + 1))])), (bst, .inl (k 0, 40, .inl (fun i => nI (va_up sta nd9 p9 i)))), (bfi, .inl (k 0, 40, .inl (fun i => nI (va_up fir nd9 0 i)))), (bse, .inl (k 0, 40, .inl (fun i => nI (va_up sec nd9 0 i)))), (bkn, .inl (k 0, 40, .inl (fun i => nI (va_up kno nd9 kn i)))), (bnm, .inl (k 0, 40, .inl (fun i => nI (nam i))))]) (show upd _ (nI nd9 : Int32).toNatClampNeg (nI kn) = _ from upd_nI kno (j := nd9) (by omega) kn) rfl d_Bo_begin_42 (fun H locs S => ?_)
  refine lv_aload_n hx hb d_Bo_begin_43 rfl (lv_at hl 1 rfl) ?_
  refine r_get C K S 0 rfl rfl clOk_Bo 5 (by decide) wf_Bo_27 (v := .ref bnm) rfl d_Bo_begin_44 ?_
  refine lv_iload_n hx hb d_Bo_begin_47 rfl (lv_at hl 0 rfl) ?_
  refine lv_iconst (v := 0) hx hb d_Bo_begin_48 (by decide) ?_
  refine r_iast C K S 5 rfl (i := nI nd9) (x := 0) (show vp_in (nI nd9) _ from vp_in_nI (n := nd9) (by omega) (by decide)) (f' := fun i => nI (va_up nam nd9 0 i)) (ws' := [(h0, .inr (4, [.ref bw, .ref bst, .ref bfi, .ref bse, .ref bkn, .ref bnm, .int (nI tk9), .int (nI sz9), .int (nI (nd9 + 1))])), (bst, .inl (k 0, 40, .inl (fun i => nI (va_up sta nd9 p9 i)))), (bfi, .inl (k 0, 40, .inl (fun i => nI (va_up fir nd9 0 i)))), (bse, .inl (k 0, 40, .inl (fun i => nI (va_up sec nd9 0 i)))), (bkn, .inl (k 0, 40, .inl (fun i => nI (va_up kno nd9 kn i)))), (bnm, .inl (k 0, 40, .inl (fun i => nI (va_up nam nd9 0 i))))]) (show upd _ (nI nd9 : Int32).toNatClampNeg 0 = _ from upd_nI nam (j := nd9) (by omega) 0) rfl d_Bo_begin_49 (fun H locs S => ?_)
  refine lv_iload_n hx hb d_Bo_begin_50 rfl (lv_at hl 0 rfl) ?_
  exact r_iret C K rfl () ⟨rfl, trivial⟩ (S.sub [0, 1, 2, 3, 4, 5] (by decide) rfl) d_Bo_begin_51 (Nat.le_of_ble_eq_true rfl) (Nat.le_of_ble_eq_true rfl)
theorem d_Re_number_0 : decode c_Re_number 0 = .ok (.aload_n 0, 1) := by decide +kernel
theorem d_Re_number_1 : decode c_Re_number 1 = .ok (.getfield 9, 3) := by decide +kernel
theorem d_Re_number_4 : decode c_Re_number 4 = .ok (.bipush (-2), 2) := by decide +kernel
theorem d_Re_number_6 : decode c_Re_number 6 = .ok (.if_icmp .eq 5, 3) := by decide +kernel
theorem d_Re_number_9 : decode c_Re_number 9 = .ok (.iconst 0, 1) := by decide +kernel
theorem d_Re_number_10 : decode c_Re_number 10 = .ok (.ireturn, 1) := by decide +kernel
theorem d_Re_number_11 : decode c_Re_number 11 = .ok (.aload_n 0, 1) := by decide +kernel
theorem d_Re_number_12 : decode c_Re_number 12 = .ok (.getfield 26, 3) := by decide +kernel
theorem d_Re_number_15 : decode c_Re_number 15 = .ok (.aload_n 0, 1) := by decide +kernel
theorem d_Re_number_16 : decode c_Re_number 16 = .ok (.getfield 19, 3) := by decide +kernel
theorem d_Re_number_19 : decode c_Re_number 19 = .ok (.getfield 41, 3) := by decide +kernel
theorem d_Re_number_22 : decode c_Re_number 22 = .ok (.if_icmp .ge 35, 3) := by decide +kernel
theorem d_Re_number_25 : decode c_Re_number 25 = .ok (.aload_n 0, 1) := by decide +kernel
theorem d_Re_number_26 : decode c_Re_number 26 = .ok (.getfield 19, 3) := by decide +kernel
theorem d_Re_number_29 : decode c_Re_number 29 = .ok (.getfield 74, 3) := by decide +kernel
theorem d_Re_number_32 : decode c_Re_number 32 = .ok (.aload_n 0, 1) := by decide +kernel
theorem d_Re_number_33 : decode c_Re_number 33 = .ok (.getfield 26, 3) := by decide +kernel
theorem d_Re_number_36 : decode c_Re_number 36 = .ok (.iaload, 1) := by decide +kernel
theorem d_Re_number_37 : decode c_Re_number 37 = .ok (.iload_n 1, 1) := by decide +kernel
theorem d_Re_number_38 : decode c_Re_number 38 = .ok (.if_icmp .lt 19, 3) := by decide +kernel
theorem d_Re_number_41 : decode c_Re_number 41 = .ok (.aload_n 0, 1) := by decide +kernel
theorem d_Re_number_42 : decode c_Re_number 42 = .ok (.getfield 19, 3) := by decide +kernel
theorem d_Re_number_45 : decode c_Re_number 45 = .ok (.getfield 74, 3) := by decide +kernel
theorem d_Re_number_48 : decode c_Re_number 48 = .ok (.aload_n 0, 1) := by decide +kernel
theorem d_Re_number_49 : decode c_Re_number 49 = .ok (.getfield 26, 3) := by decide +kernel
theorem d_Re_number_52 : decode c_Re_number 52 = .ok (.iaload, 1) := by decide +kernel
theorem d_Re_number_53 : decode c_Re_number 53 = .ok (.iload_n 2, 1) := by decide +kernel
theorem d_Re_number_54 : decode c_Re_number 54 = .ok (.if_icmp .le 13, 3) := by decide +kernel
theorem d_Re_number_57 : decode c_Re_number 57 = .ok (.aload_n 0, 1) := by decide +kernel
theorem d_Re_number_58 : decode c_Re_number 58 = .ok (.aload_n 0, 1) := by decide +kernel
theorem d_Re_number_59 : decode c_Re_number 59 = .ok (.getfield 26, 3) := by decide +kernel
theorem d_Re_number_62 : decode c_Re_number 62 = .ok (.putfield 9, 3) := by decide +kernel
theorem d_Re_number_65 : decode c_Re_number 65 = .ok (.iconst 0, 1) := by decide +kernel
theorem d_Re_number_66 : decode c_Re_number 66 = .ok (.ireturn, 1) := by decide +kernel
theorem d_Re_number_67 : decode c_Re_number 67 = .ok (.aload_n 0, 1) := by decide +kernel
theorem d_Re_number_68 : decode c_Re_number 68 = .ok (.dup, 1) := by decide +kernel
theorem d_Re_number_69 : decode c_Re_number 69 = .ok (.getfield 26, 3) := by decide +kernel
theorem d_Re_number_72 : decode c_Re_number 72 = .ok (.iconst 1, 1) := by decide +kernel
theorem d_Re_number_73 : decode c_Re_number 73 = .ok (.iadd, 1) := by decide +kernel
theorem d_Re_number_74 : decode c_Re_number 74 = .ok (.putfield 26, 3) := by decide +kernel
theorem d_Re_number_77 : decode c_Re_number 77 = .ok (.aload_n 0, 1) := by decide +kernel
theorem d_Re_number_78 : decode c_Re_number 78 = .ok (.getfield 19, 3) := by decide +kernel
theorem d_Re_number_81 : decode c_Re_number 81 = .ok (.getfield 74, 3) := by decide +kernel
theorem d_Re_number_84 : decode c_Re_number 84 = .ok (.aload_n 0, 1) := by decide +kernel
theorem d_Re_number_85 : decode c_Re_number 85 = .ok (.getfield 26, 3) := by decide +kernel
theorem d_Re_number_88 : decode c_Re_number 88 = .ok (.iconst 1, 1) := by decide +kernel
theorem d_Re_number_89 : decode c_Re_number 89 = .ok (.isub, 1) := by decide +kernel
theorem d_Re_number_90 : decode c_Re_number 90 = .ok (.iaload, 1) := by decide +kernel
theorem d_Re_number_91 : decode c_Re_number 91 = .ok (.ireturn, 1) := by decide +kernel
set_option maxRecDepth 100000 in
set_option maxHeartbeats 16000000 in
/-- number, a place is wrong -/
theorem g_Re_number_w (l : Launch) (G : va_G) (k : Nat → ClassId) (h0 : Nat) (s0 : Nat) (lo9 : Int32) (hi9 : Int32) (wr9 : Int32) (ra : Nat) (bc : Nat) (nf : Nat) (nx : Nat) (bw : Nat) (bst : Nat) (bfi : Nat) (bse : Nat) (bkn : Nat) (bnm : Nat) (tk9 : Nat) (sz9 : Nat) (nd9 : Nat) (wd : Nat → Int32) (hwr : wr9 ≠ -2) : CI l y_Re_number c_Re_number 3 .int { frames := 0, cells := 0, slots := 0, locals := 0 } [.ref h0, .int lo9, .int hi9] G k s0 [(h0, .inr (5, [.ref ra, .ref bc, .int (nI nf), .int (nI nx), .int wr9])), (bc, .inr (4, [.ref bw, .ref bst, .ref bfi, .ref bse, .ref bkn, .ref bnm, .int (nI tk9), .int (nI sz9), .int (nI nd9)])), (bw, .inl (k 0, 200, .inl wd))] (fun (r : Int32) (u : Unit) => r = 0 ∧ True) (fun u => [(h0, .inr (5, [.ref ra, .ref bc, .int (nI nf), .int (nI nx), .int wr9])), (bc, .inr (4, [.ref bw, .ref bst, .ref bfi, .ref bse, .ref bkn, .ref bnm, .int (nI tk9), .int (nI sz9), .int (nI nd9)])), (bw, .inl (k 0, 200, .inl wd))]) 0 0 := by
  refine met_start (by decide) (Nat.le_of_ble_eq_true rfl) ?_
  intro p e s m below meth c C K hA hsz S ls hl
  generalize va_A [(h0, .inr (5, [.ref ra, .ref bc, .int (nI nf), .int (nI nx), .int wr9])), (bc, .inr (4, [.ref bw, .ref bst, .ref bfi, .ref bse, .ref bkn, .ref bnm, .int (nI tk9), .int (nI sz9), .int (nI nd9)])), (bw, .inl (k 0, 200, .inl wd))] s0 = A at hA S ⊢
  have hx := C.1
  have hb := C.2.1
  have hl : lv_has ls 3 [(0, .ref h0), (1, .int lo9), (2, .int hi9)] := hl
  refine lv_aload_n hx hb d_Re_number_0 rfl (lv_at hl 0 rfl) ?_
  refine r_get C K S 0 rfl rfl clOk_Re 4 (by decide) wf_Re_9 (v := .int wr9) rfl d_Re_number_1 ?_
  refine lv_bipush (v := (-2)) hx hb d_Re_number_4 (by decide) ?_
  refine lv_icmp_eq (tgt := 11) hx hb d_Re_number_6 (by decide) (fun hq => absurd hq hwr) (fun _ => ?_)
  refine lv_iconst (v := 0) hx hb d_Re_number_9 (by decide) ?_
  exact r_iret C K rfl () ⟨rfl, trivial⟩ (S.sub [0, 1, 2] (by decide) rfl) d_Re_number_10 (Nat.le_of_ble_eq_true rfl) (Nat.le_of_ble_eq_true rfl)
set_option maxRecDepth 100000 in
set_option maxHeartbeats 16000000 in
/-- number, what stands here is wrong -/
theorem g_Re_number_b (l : Launch) (G : va_G) (k : Nat → ClassId) (h0 : Nat) (s0 : Nat) (lo9 : Int32) (hi9 : Int32) (ra : Nat) (bc : Nat) (nf : Nat) (nx : Nat) (bw : Nat) (bst : Nat) (bfi : Nat) (bse : Nat) (bkn : Nat) (bnm : Nat) (tk9 : Nat) (sz9 : Nat) (nd9 : Nat) (wd : Nat → Int32) (hnx : nx ≤ sz9) (hsz : sz9 ≤ 200) (hbad : (nx = sz9 ∨ wd nx < lo9 ∨ hi9 < wd nx)) : CI l y_Re_number c_Re_number 3 .int { frames := 0, cells := 0, slots := 0, locals := 0 } [.ref h0, .int lo9, .int hi9] G k s0 [(h0, .inr (5, [.ref ra, .ref bc, .int (nI nf), .int (nI nx), .int (-2)])), (bc, .inr (4, [.ref bw, .ref bst, .ref bfi, .ref bse, .ref bkn, .ref bnm, .int (nI tk9), .int (nI sz9), .int (nI nd9)])), (bw, .inl (k 0, 200, .inl wd))] (fun (r : Int32) (u : Unit) => r = 0 ∧ True) (fun u => [(h0, .inr (5, [.ref ra, .ref bc, .int (nI nf), .int (nI nx), .int (nI nx)])), (bc, .inr (4, [.ref bw, .ref bst, .ref bfi, .ref bse, .ref bkn, .ref bnm, .int (nI tk9), .int (nI sz9), .int (nI nd9)])), (bw, .inl (k 0, 200, .inl wd))]) 0 0 := by
  refine met_start (by decide) (Nat.le_of_ble_eq_true rfl) ?_
  intro p e s m below meth c C K hA hsz S ls hl
  generalize va_A [(h0, .inr (5, [.ref ra, .ref bc, .int (nI nf), .int (nI nx), .int (-2)])), (bc, .inr (4, [.ref bw, .ref bst, .ref bfi, .ref bse, .ref bkn, .ref bnm, .int (nI tk9), .int (nI sz9), .int (nI nd9)])), (bw, .inl (k 0, 200, .inl wd))] s0 = A at hA S ⊢
  have hx := C.1
  have hb := C.2.1
  have hl : lv_has ls 3 [(0, .ref h0), (1, .int lo9), (2, .int hi9)] := hl
  refine lv_aload_n hx hb d_Re_number_0 rfl (lv_at hl 0 rfl) ?_
  refine r_get C K S 0 rfl rfl clOk_Re 4 (by decide) wf_Re_9 (v := .int (-2)) rfl d_Re_number_1 ?_
  refine lv_bipush (v := (-2)) hx hb d_Re_number_4 (by decide) ?_
  refine lv_icmp_eq (tgt := 11) hx hb d_Re_number_6 (by decide) (fun _ => ?_) (fun hq => absurd (by decide) hq)
  refine lv_aload_n hx hb d_Re_number_11 rfl (lv_at hl 0 rfl) ?_
  refine r_get C K S 0 rfl rfl clOk_Re 3 (by decide) wf_Re_26 (v := .int (nI nx)) rfl d_Re_number_12 ?_
  refine lv_aload_n hx hb d_Re_number_15 rfl (lv_at hl 0 rfl) ?_
  refine r_get C K S 0 rfl rfl clOk_Re 1 (by decide) wf_Re_19 (v := .ref bc) rfl d_Re_number_16 ?_
  refine r_getN C K S 1 rfl rfl clOk_Bo 7 (by decide) xf_Re_41 (v := .int (nI sz9)) rfl d_Re_number_19 ?_
  refine z_icmp_ge (a := nx) (b := sz9) (tgt := 57) hx hb d_Re_number_22 (by decide) (by omega) (by omega) (fun hc1 => ?_) (fun hc1 => ?_)
  · refine lv_aload_n hx hb d_Re_number_57 rfl (lv_at hl 0 rfl) ?_
    refine lv_aload_n hx hb d_Re_number_58 rfl (lv_at hl 0 rfl) ?_
    refine r_get C K S 0 rfl rfl clOk_Re 3 (by decide) wf_Re_26 (v := .int (nI nx)) rfl d_Re_number_59 ?_
    refine r_put C K S 0 rfl rfl clOk_Re 4 (by decide) wf_Re_9 rfl (ty := .int) (v := .int (nI nx)) (by decide +kernel) rfl rfl (Nat.le_of_ble_eq_true rfl) (fs' := [.ref ra, .ref bc, .int (nI nf), .int (nI nx), .int (nI nx)]) (ws' := [(h0, .inr (5, [.ref ra, .ref bc, .int (nI nf), .int (nI nx), .int (nI nx)])), (bc, .inr (4, [.ref bw, .ref bst, .ref bfi, .ref bse, .ref bkn, .ref bnm, .int (nI tk9), .int (nI sz9), .int (nI nd9)])), (bw, .inl (k 0, 200, .inl wd))]) rfl rfl d_Re_number_62 (fun H locs S => ?_)
    refine lv_iconst (v := 0) hx hb d_Re_number_65 (by decide) ?_
    exact r_iret C K rfl () ⟨rfl, trivial⟩ (S.sub [0, 1, 2] (by decide) rfl) d_Re_number_66 (Nat.le_of_ble_eq_true rfl) (Nat.le_of_ble_eq_true rfl)
  · refine lv_aload_n hx hb d_Re_number_25 rfl (lv_at hl 0 rfl) ?_
    refine r_get C K S 0 rfl rfl clOk_Re 1 (by decide) wf_Re_19 (v := .ref bc) rfl d_Re_number_26 ?_
    refine r_getN C K S 1 rfl rfl clOk_Bo 0 (by decide) xf_Re_74 (v := .ref bw) rfl d_Re_number_29 ?_
    refine lv_aload_n hx hb d_Re_number_32 rfl (lv_at hl 0 rfl) ?_
    refine r_get C K S 0 rfl rfl clOk_Re 3 (by decide) wf_Re_26 (v := .int (nI nx)) rfl d_Re_number_33 ?_
    refine r_iald C K S 2 rfl (i := nI nx) (show vp_in (nI nx) _ from vp_in_nI (n := nx) (by omega) (by decide)) (v := wd nx) (by rw [nI_clamp (by omega)]) d_Re_number_36 ?_
    refine lv_iload_n hx hb d_Re_number_37 rfl (lv_at hl 1 rfl) ?_
    refine lv_icmp_lt (tgt := 57) hx hb d_Re_number_38 (by decide) (fun hc2 => ?_) (fun hc2 => ?_)
    · refine lv_aload_n hx hb d_Re_number_57 rfl (lv_at hl 0 rfl) ?_
      refine lv_aload_n hx hb d_Re_number_58 rfl (lv_at hl 0 rfl) ?_
      refine r_get C K S 0 rfl rfl clOk_Re 3 (by decide) wf_Re_26 (v := .int (nI nx)) rfl d_Re_number_59 ?_
      refine r_put C K S 0 rfl rfl clOk_Re 4 (by decide) wf_Re_9 rfl (ty := .int) (v := .int (nI nx)) (by decide +kernel) rfl rfl (Nat.le_of_ble_eq_true rfl) (fs' := [.ref ra, .ref bc, .int (nI nf), .int (nI nx), .int (nI nx)]) (ws' := [(h0, .inr (5, [.ref ra, .ref bc, .int (nI nf), .int (nI nx), .int (nI nx)])), (bc, .inr (4, [.ref bw, .ref bst, .ref bfi, .ref bse, .ref bkn, .ref bnm, .int (nI tk9), .int (nI sz9), .int (nI nd9)])), (bw, .inl (k 0, 200, .inl wd))]) rfl rfl d_Re_number_62 (fun H locs S => ?_)
      refine lv_iconst (v := 0) hx hb d_Re_number_65 (by decide) ?_
      exact r_iret C K rfl () ⟨rfl, trivial⟩ (S.sub [0, 1, 2] (by decide) rfl) d_Re_number_66 (Nat.le_of_ble_eq_true rfl) (Nat.le_of_ble_eq_true rfl)
    · refine lv_aload_n hx hb d_Re_number_41 rfl (lv_at hl 0 rfl) ?_
      refine r_get C K S 0 rfl rfl clOk_Re 1 (by decide) wf_Re_19 (v := .ref bc) rfl d_Re_number_42 ?_
      refine r_getN C K S 1 rfl rfl clOk_Bo 0 (by decide) xf_Re_74 (v := .ref bw) rfl d_Re_number_45 ?_
      refine lv_aload_n hx hb d_Re_number_48 rfl (lv_at hl 0 rfl) ?_
      refine r_get C K S 0 rfl rfl clOk_Re 3 (by decide) wf_Re_26 (v := .int (nI nx)) rfl d_Re_number_49 ?_
      refine r_iald C K S 2 rfl (i := nI nx) (show vp_in (nI nx) _ from vp_in_nI (n := nx) (by omega) (by decide)) (v := wd nx) (by rw [nI_clamp (by omega)]) d_Re_number_52 ?_
      refine lv_iload_n hx hb d_Re_number_53 rfl (lv_at hl 2 rfl) ?_
      refine lv_icmp_le (tgt := 67) hx hb d_Re_number_54 (by decide) (fun hc3 => ?_) (fun hc3 => ?_)
      · refine lv_aload_n hx hb d_Re_number_67 rfl (lv_at hl 0 rfl) ?_
        refine lv_dup hx hb d_Re_number_68 rfl ?_
        refine r_get C K S 0 rfl rfl clOk_Re 3 (by decide) wf_Re_26 (v := .int (nI nx)) rfl d_Re_number_69 ?_
        refine lv_iconst (v := 1) hx hb d_Re_number_72 (by decide) ?_
        refine z_iadd (x := nI nx) (y := 1) (v := nI (nx + 1)) hx hb d_Re_number_73 (nI_add nx 1) ?_
        refine r_put C K S 0 rfl rfl clOk_Re 3 (by decide) wf_Re_26 rfl (ty := .int) (v := .int (nI (nx + 1))) (by decide +kernel) rfl rfl (Nat.le_of_ble_eq_true rfl) (fs' := [.ref ra, .ref bc, .int (nI nf), .int (nI (nx + 1)), .int (-2)]) (ws' := [(h0, .inr (5, [.ref ra, .ref bc, .int (nI nf), .int (nI (nx + 1)), .int (-2)])), (bc, .inr (4, [.ref bw, .ref bst, .ref bfi, .ref bse, .ref bkn, .ref bnm, .int (nI tk9), .int (nI sz9), .int (nI nd9)])), (bw, .inl (k 0, 200, .inl wd))]) rfl rfl d_Re_number_74 (fun H locs S => ?_)
        refine lv_aload_n hx hb d_Re_number_77 rfl (lv_at hl 0 rfl) ?_
        refine r_get C K S 0 rfl rfl clOk_Re 1 (by decide) wf_Re_19 (v := .ref bc) rfl d_Re_number_78 ?_
        refine r_getN C K S 1 rfl rfl clOk_Bo 0 (by decide) xf_Re_74 (v := .ref bw) rfl d_Re_number_81 ?_
        refine lv_aload_n hx hb d_Re_number_84 rfl (lv_at hl 0 rfl) ?_
        refine r_get C K S 0 rfl rfl clOk_Re 3 (by decide) wf_Re_26 (v := .int (nI (nx + 1))) rfl d_Re_number_85 ?_
        refine lv_iconst (v := 1) hx hb d_Re_number_88 (by decide) ?_
        refine z_isub (x := nI (nx + 1)) (y := 1) (v := nI (nx + 1 - 1)) hx hb d_Re_number_89 (pk_sub (a := (nx + 1)) (b := 1) (by omega)) ?_
        refine r_iald C K S 2 rfl (i := nI (nx + 1 - 1)) (show vp_in (nI (nx + 1 - 1)) _ from vp_in_nI (n := (nx + 1 - 1)) (by omega) (by decide)) (v := wd (nx + 1 - 1)) (by rw [nI_clamp (by omega)]) d_Re_number_90 ?_
        exact absurd hbad (fun q => q.elim (fun w => by omega) (fun w => w.elim (fun y => hc2 y) (fun y => absurd y (Int32.not_lt.mpr hc3))))
      · refine lv_aload_n hx hb d_Re_number_57 rfl (lv_at hl 0 rfl) ?_
        refine lv_aload_n hx hb d_Re_number_58 rfl (lv_at hl 0 rfl) ?_
        refine r_get C K S 0 rfl rfl clOk_Re 3 (by decide) wf_Re_26 (v := .int (nI nx)) rfl d_Re_number_59 ?_
        refine r_put C K S 0 rfl rfl clOk_Re 4 (by decide) wf_Re_9 rfl (ty := .int) (v := .int (nI nx)) (by decide +kernel) rfl rfl (Nat.le_of_ble_eq_true rfl) (fs' := [.ref ra, .ref bc, .int (nI nf), .int (nI nx), .int (nI nx)]) (ws' := [(h0, .inr (5, [.ref ra, .ref bc, .int (nI nf), .int (nI nx), .int (nI nx)])), (bc, .inr (4, [.ref bw, .ref bst, .ref bfi, .ref bse, .ref bkn, .ref bnm, .int (nI tk9), .int (nI sz9), .int (nI nd9)])), (bw, .inl (k 0, 200, .inl wd))]) rfl rfl d_Re_number_62 (fun H locs S => ?_)
        refine lv_iconst (v := 0) hx hb d_Re_number_65 (by decide) ?_
        exact r_iret C K rfl () ⟨rfl, trivial⟩ (S.sub [0, 1, 2] (by decide) rfl) d_Re_number_66 (Nat.le_of_ble_eq_true rfl) (Nat.le_of_ble_eq_true rfl)
set_option maxRecDepth 100000 in
set_option maxHeartbeats 16000000 in
/-- number, what stands here is right -/
theorem g_Re_number_g (l : Launch) (G : va_G) (k : Nat → ClassId) (h0 : Nat) (s0 : Nat) (lo9 : Int32) (hi9 : Int32) (ra : Nat) (bc : Nat) (nf : Nat) (nx : Nat) (bw : Nat) (bst : Nat) (bfi : Nat) (bse : Nat) (bkn : Nat) (bnm : Nat) (tk9 : Nat) (sz9 : Nat) (nd9 : Nat) (wd : Nat → Int32) (hnx : nx < sz9) (hsz : sz9 ≤ 200) (h1 : ¬ wd nx < lo9) (h2 : wd nx ≤ hi9) : CI l y_Re_number c_Re_number 3 .int { frames := 0, cells := 0, slots := 0, locals := 0 } [.ref h0, .int lo9, .int hi9] G k s0 [(h0, .inr (5, [.ref ra, .ref bc, .int (nI nf), .int (nI nx), .int (-2)])), (bc, .inr (4, [.ref bw, .ref bst, .ref bfi, .ref bse, .ref bkn, .ref bnm, .int (nI tk9), .int (nI sz9), .int (nI nd9)])), (bw, .inl (k 0, 200, .inl wd))] (fun (r : Int32) (u : Unit) => r = wd nx ∧ True) (fun u => [(h0, .inr (5, [.ref ra, .ref bc, .int (nI nf), .int (nI (nx + 1)), .int (-2)])), (bc, .inr (4, [.ref bw, .ref bst, .ref bfi, .ref bse, .ref bkn, .ref bnm, .int (nI tk9), .int (nI sz9), .int (nI nd9)])), (bw, .inl (k 0, 200, .inl wd))]) 0 0 := by
  refine met_start (by decide) (Nat.le_of_ble_eq_true rfl) ?_
  intro p e s m below meth c C K hA hsz S ls hl
  generalize va_A [(h0, .inr (5, [.ref ra, .ref bc, .int (nI nf), .int (nI nx), .int (-2)])), (bc, .inr (4, [.ref bw, .ref bst, .ref bfi, .ref bse, .ref bkn, .ref bnm, .int (nI tk9), .int (nI sz9), .int (nI nd9)])), (bw, .inl (k 0, 200, .inl wd))] s0 = A at hA S ⊢
  have hx := C.1
  have hb := C.2.1
  have hl : lv_has ls 3 [(0, .ref h0), (1, .int lo9), (2, .int hi9)] := hl
  refine lv_aload_n hx hb d_Re_number_0 rfl (lv_at hl 0 rfl) ?_
  refine r_get C K S 0 rfl rfl clOk_Re 4 (by decide) wf_Re_9 (v := .int (-2)) rfl d_Re_number_1 ?_
  refine lv_bipush (v := (-2)) hx hb d_Re_number_4 (by decide) ?_
  refine lv_icmp_eq (tgt := 11) hx hb d_Re_number_6 (by decide) (fun _ => ?_) (fun hq => absurd (by decide) hq)
  refine lv_aload_n hx hb d_Re_number_11 rfl (lv_at hl 0 rfl) ?_
  refine r_get C K S 0 rfl rfl clOk_Re 3 (by decide) wf_Re_26 (v := .int (nI nx)) rfl d_Re_number_12 ?_
  refine lv_aload_n hx hb d_Re_number_15 rfl (lv_at hl 0 rfl) ?_
  refine r_get C K S 0 rfl rfl clOk_Re 1 (by decide) wf_Re_19 (v := .ref bc) rfl d_Re_number_16 ?_
  refine r_getN C K S 1 rfl rfl clOk_Bo 7 (by decide) xf_Re_41 (v := .int (nI sz9)) rfl d_Re_number_19 ?_
  refine z_icmp_ge (a := nx) (b := sz9) (tgt := 57) hx hb d_Re_number_22 (by decide) (by omega) (by omega) (fun hc1 => False.elim (by omega)) (fun hc1 => ?_)
  refine lv_aload_n hx hb d_Re_number_25 rfl (lv_at hl 0 rfl) ?_
  refine r_get C K S 0 rfl rfl clOk_Re 1 (by decide) wf_Re_19 (v := .ref bc) rfl d_Re_number_26 ?_
  refine r_getN C K S 1 rfl rfl clOk_Bo 0 (by decide) xf_Re_74 (v := .ref bw) rfl d_Re_number_29 ?_
  refine lv_aload_n hx hb d_Re_number_32 rfl (lv_at hl 0 rfl) ?_
  refine r_get C K S 0 rfl rfl clOk_Re 3 (by decide) wf_Re_26 (v := .int (nI nx)) rfl d_Re_number_33 ?_
  refine r_iald C K S 2 rfl (i := nI nx) (show vp_in (nI nx) _ from vp_in_nI (n := nx) (by omega) (by decide)) (v := wd nx) (by rw [nI_clamp (by omega)]) d_Re_number_36 ?_
  refine lv_iload_n hx hb d_Re_number_37 rfl (lv_at hl 1 rfl) ?_
  refine lv_icmp_lt (tgt := 57) hx hb d_Re_number_38 (by decide) (fun hq => absurd hq h1) (fun _ => ?_)
  refine lv_aload_n hx hb d_Re_number_41 rfl (lv_at hl 0 rfl) ?_
  refine r_get C K S 0 rfl rfl clOk_Re 1 (by decide) wf_Re_19 (v := .ref bc) rfl d_Re_number_42 ?_
  refine r_getN C K S 1 rfl rfl clOk_Bo 0 (by decide) xf_Re_74 (v := .ref bw) rfl d_Re_number_45 ?_
  refine lv_aload_n hx hb d_Re_number_48 rfl (lv_at hl 0 rfl) ?_
  refine r_get C K S 0 rfl rfl clOk_Re 3 (by decide) wf_Re_26 (v := .int (nI nx)) rfl d_Re_number_49 ?_
  refine r_iald C K S 2 rfl (i := nI nx) (show vp_in (nI nx) _ from vp_in_nI (n := nx) (by omega) (by decide)) (v := wd nx) (by rw [nI_clamp (by omega)]) d_Re_number_52 ?_
  refine lv_iload_n hx hb d_Re_number_53 rfl (lv_at hl 2 rfl) ?_
  refine lv_icmp_le (tgt := 67) hx hb d_Re_number_54 (by decide) (fun _ => ?_) (fun hq => absurd h2 hq)
  refine lv_aload_n hx hb d_Re_number_67 rfl (lv_at hl 0 rfl) ?_
  refine lv_dup hx hb d_Re_number_68 rfl ?_
  refine r_get C K S 0 rfl rfl clOk_Re 3 (by decide) wf_Re_26 (v := .int (nI nx)) rfl d_Re_number_69 ?_
  refine lv_iconst (v := 1) hx hb d_Re_number_72 (by decide) ?_
  refine z_iadd (x := nI nx) (y := 1) (v := nI (nx + 1)) hx hb d_Re_number_73 (nI_add nx 1) ?_
  refine r_put C K S 0 rfl rfl clOk_Re 3 (by decide) wf_Re_26 rfl (ty := .int) (v := .int (nI (nx + 1))) (by decide +kernel) rfl rfl (Nat.le_of_ble_eq_true rfl) (fs' := [.ref ra, .ref bc, .int (nI nf), .int (nI (nx + 1)), .int (-2)]) (ws' := [(h0, .inr (5, [.ref ra, .ref bc, .int (nI nf), .int (nI (nx + 1)), .int (-2)])), (bc, .inr (4, [.ref bw, .ref bst, .ref bfi, .ref bse, .ref bkn, .ref bnm, .int (nI tk9), .int (nI sz9), .int (nI nd9)])), (bw, .inl (k 0, 200, .inl wd))]) rfl rfl d_Re_number_74 (fun H locs S => ?_)
  refine lv_aload_n hx hb d_Re_number_77 rfl (lv_at hl 0 rfl) ?_
  refine r_get C K S 0 rfl rfl clOk_Re 1 (by decide) wf_Re_19 (v := .ref bc) rfl d_Re_number_78 ?_
  refine r_getN C K S 1 rfl rfl clOk_Bo 0 (by decide) xf_Re_74 (v := .ref bw) rfl d_Re_number_81 ?_
  refine lv_aload_n hx hb d_Re_number_84 rfl (lv_at hl 0 rfl) ?_
  refine r_get C K S 0 rfl rfl clOk_Re 3 (by decide) wf_Re_26 (v := .int (nI (nx + 1))) rfl d_Re_number_85 ?_
  refine lv_iconst (v := 1) hx hb d_Re_number_88 (by decide) ?_
  refine z_isub (x := nI (nx + 1)) (y := 1) (v := nI (nx + 1 - 1)) hx hb d_Re_number_89 (pk_sub (a := (nx + 1)) (b := 1) (by omega)) ?_
  refine r_iald C K S 2 rfl (i := nI (nx + 1 - 1)) (show vp_in (nI (nx + 1 - 1)) _ from vp_in_nI (n := (nx + 1 - 1)) (by omega) (by decide)) (v := wd (nx + 1 - 1)) (by rw [nI_clamp (by omega)]) d_Re_number_90 ?_
  rw [show nx + 1 - 1 = nx from rfl]
  exact r_iret C K rfl () ⟨rfl, trivial⟩ (S.sub [0, 1, 2] (by decide) rfl) d_Re_number_91 (Nat.le_of_ble_eq_true rfl) (Nat.le_of_ble_eq_true rfl)
