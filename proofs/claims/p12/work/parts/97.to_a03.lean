section
theorem d_Bo_kind_0 : decode c_Bo_kind 0 = .ok (.aload_n 0, 1) := by decide +kernel
theorem d_Bo_kind_1 : decode c_Bo_kind 1 = .ok (.getfield 9, 3) := by decide +kernel
theorem d_Bo_kind_4 : decode c_Bo_kind 4 = .ok (.aload_n 0, 1) := by decide +kernel
theorem d_Bo_kind_5 : decode c_Bo_kind 5 = .ok (.getfield 15, 3) := by decide +kernel
theorem d_Bo_kind_8 : decode c_Bo_kind 8 = .ok (.iload_n 1, 1) := by decide +kernel
theorem d_Bo_kind_9 : decode c_Bo_kind 9 = .ok (.iaload, 1) := by decide +kernel
theorem d_Bo_kind_10 : decode c_Bo_kind 10 = .ok (.iaload, 1) := by decide +kernel
theorem d_Bo_kind_11 : decode c_Bo_kind 11 = .ok (.ireturn, 1) := by decide +kernel
set_option maxRecDepth 100000 in
set_option maxHeartbeats 16000000 in
/-- Body.kind -/
theorem g_Bo_kind (l : Launch) (G : va_G) (k : Nat → ClassId) (h0 : Nat) (s0 : Nat) (x9 : Nat) (bw : Nat) (bst : Nat) (bfi : Nat) (bse : Nat) (bkn : Nat) (bnm : Nat) (tk9 : Nat) (sz9 : Nat) (nd9 : Nat) (wd : Nat → Int32) (sta : Nat → Nat) (hx9 : x9 < 40) (hs : sta x9 < 200) : CI l y_Bo_kind c_Bo_kind 2 .int { frames := 0, cells := 0, slots := 0, locals := 0 } [.ref h0, .int (nI x9)] G k s0 [(h0, .inr (4, [.ref bw, .ref bst, .ref bfi, .ref bse, .ref bkn, .ref bnm, .int (nI tk9), .int (nI sz9), .int (nI nd9)])), (bw, .inl (k 0, 200, .inl wd)), (bst, .inl (k 0, 40, .inl (fun i => nI (sta i))))] (fun (r : Int32) (u : Unit) => r = wd (sta x9) ∧ True) (fun u => [(h0, .inr (4, [.ref bw, .ref bst, .ref bfi, .ref bse, .ref bkn, .ref bnm, .int (nI tk9), .int (nI sz9), .int (nI nd9)])), (bw, .inl (k 0, 200, .inl wd)), (bst, .inl (k 0, 40, .inl (fun i => nI (sta i))))]) 0 0 := by
  refine met_start (by decide) (Nat.le_of_ble_eq_true rfl) ?_
  intro p e s m below meth c C K hA hsz S ls hl
  generalize va_A [(h0, .inr (4, [.ref bw, .ref bst, .ref bfi, .ref bse, .ref bkn, .ref bnm, .int (nI tk9), .int (nI sz9), .int (nI nd9)])), (bw, .inl (k 0, 200, .inl wd)), (bst, .inl (k 0, 40, .inl (fun i => nI (sta i))))] s0 = A at hA S ⊢
  have hx := C.1
  have hb := C.2.1
  have hl : lv_has ls 2 [(0, .ref h0), (1, .int (nI x9))] := hl
  refine lv_aload_n hx hb d_Bo_kind_0 rfl (lv_at hl 0 rfl) ?_
  refine r_get C K S 0 rfl rfl clOk_Bo 0 (by decide) wf_Bo_9 (v := .ref bw) rfl d_Bo_kind_1 ?_
  refine lv_aload_n hx hb d_Bo_kind_4 rfl (lv_at hl 0 rfl) ?_
  refine r_get C K S 0 rfl rfl clOk_Bo 1 (by decide) wf_Bo_15 (v := .ref bst) rfl d_Bo_kind_5 ?_
  refine lv_iload_n hx hb d_Bo_kind_8 rfl (lv_at hl 1 rfl) ?_
  refine r_iald C K S 2 rfl (i := nI x9) (show vp_in (nI x9) _ from vp_in_nI (n := x9) (by omega) (by decide)) (v := nI (sta x9)) (by rw [nI_clamp (by omega)]) d_Bo_kind_9 ?_
  refine r_iald C K S 1 rfl (i := nI (sta x9)) (show vp_in (nI (sta x9)) _ from vp_in_nI (n := (sta x9)) (by omega) (by decide)) (v := wd (sta x9)) (by rw [nI_clamp (by omega)]) d_Bo_kind_10 ?_
  exact r_iret C K rfl () ⟨rfl, trivial⟩ (S.sub [0, 1, 2] (by decide) rfl) d_Bo_kind_11 (Nat.le_of_ble_eq_true rfl) (Nat.le_of_ble_eq_true rfl)
theorem d_Bo_operand_0 : decode c_Bo_operand 0 = .ok (.aload_n 0, 1) := by decide +kernel
theorem d_Bo_operand_1 : decode c_Bo_operand 1 = .ok (.getfield 9, 3) := by decide +kernel
theorem d_Bo_operand_4 : decode c_Bo_operand 4 = .ok (.aload_n 0, 1) := by decide +kernel
theorem d_Bo_operand_5 : decode c_Bo_operand 5 = .ok (.getfield 15, 3) := by decide +kernel
theorem d_Bo_operand_8 : decode c_Bo_operand 8 = .ok (.iload_n 1, 1) := by decide +kernel
theorem d_Bo_operand_9 : decode c_Bo_operand 9 = .ok (.iaload, 1) := by decide +kernel
theorem d_Bo_operand_10 : decode c_Bo_operand 10 = .ok (.iconst 1, 1) := by decide +kernel
theorem d_Bo_operand_11 : decode c_Bo_operand 11 = .ok (.iadd, 1) := by decide +kernel
theorem d_Bo_operand_12 : decode c_Bo_operand 12 = .ok (.iaload, 1) := by decide +kernel
theorem d_Bo_operand_13 : decode c_Bo_operand 13 = .ok (.ireturn, 1) := by decide +kernel
set_option maxRecDepth 100000 in
set_option maxHeartbeats 16000000 in
/-- Body.operand -/
theorem g_Bo_operand (l : Launch) (G : va_G) (k : Nat → ClassId) (h0 : Nat) (s0 : Nat) (x9 : Nat) (bw : Nat) (bst : Nat) (bfi : Nat) (bse : Nat) (bkn : Nat) (bnm : Nat) (tk9 : Nat) (sz9 : Nat) (nd9 : Nat) (wd : Nat → Int32) (sta : Nat → Nat) (hx9 : x9 < 40) (hs : sta x9 + 1 < 200) : CI l y_Bo_operand c_Bo_operand 2 .int { frames := 0, cells := 0, slots := 0, locals := 0 } [.ref h0, .int (nI x9)] G k s0 [(h0, .inr (4, [.ref bw, .ref bst, .ref bfi, .ref bse, .ref bkn, .ref bnm, .int (nI tk9), .int (nI sz9), .int (nI nd9)])), (bw, .inl (k 0, 200, .inl wd)), (bst, .inl (k 0, 40, .inl (fun i => nI (sta i))))] (fun (r : Int32) (u : Unit) => r = wd (sta x9 + 1) ∧ True) (fun u => [(h0, .inr (4, [.ref bw, .ref bst, .ref bfi, .ref bse, .ref bkn, .ref bnm, .int (nI tk9), .int (nI sz9), .int (nI nd9)])), (bw, .inl (k 0, 200, .inl wd)), (bst, .inl (k 0, 40, .inl (fun i => nI (sta i))))]) 0 0 := by
  refine met_start (by decide) (Nat.le_of_ble_eq_true rfl) ?_
  intro p e s m below meth c C K hA hsz S ls hl
  generalize va_A [(h0, .inr (4, [.ref bw, .ref bst, .ref bfi, .ref bse, .ref bkn, .ref bnm, .int (nI tk9), .int (nI sz9), .int (nI nd9)])), (bw, .inl (k 0, 200, .inl wd)), (bst, .inl (k 0, 40, .inl (fun i => nI (sta i))))] s0 = A at hA S ⊢
  have hx := C.1
  have hb := C.2.1
  have hl : lv_has ls 2 [(0, .ref h0), (1, .int (nI x9))] := hl
  refine lv_aload_n hx hb d_Bo_operand_0 rfl (lv_at hl 0 rfl) ?_
  refine r_get C K S 0 rfl rfl clOk_Bo 0 (by decide) wf_Bo_9 (v := .ref bw) rfl d_Bo_operand_1 ?_
  refine lv_aload_n hx hb d_Bo_operand_4 rfl (lv_at hl 0 rfl) ?_
  refine r_get C K S 0 rfl rfl clOk_Bo 1 (by decide) wf_Bo_15 (v := .ref bst) rfl d_Bo_operand_5 ?_
  refine lv_iload_n hx hb d_Bo_operand_8 rfl (lv_at hl 1 rfl) ?_
  refine r_iald C K S 2 rfl (i := nI x9) (show vp_in (nI x9) _ from vp_in_nI (n := x9) (by omega) (by decide)) (v := nI (sta x9)) (by rw [nI_clamp (by omega)]) d_Bo_operand_9 ?_
  refine lv_iconst (v := 1) hx hb d_Bo_operand_10 (by decide) ?_
  refine z_iadd (x := nI (sta x9)) (y := 1) (v := nI (sta x9 + 1)) hx hb d_Bo_operand_11 (nI_add (sta x9) 1) ?_
  refine r_iald C K S 1 rfl (i := nI (sta x9 + 1)) (show vp_in (nI (sta x9 + 1)) _ from vp_in_nI (n := (sta x9 + 1)) (by omega) (by decide)) (v := wd (sta x9 + 1)) (by rw [nI_clamp (by omega)]) d_Bo_operand_12 ?_
  exact r_iret C K rfl () ⟨rfl, trivial⟩ (S.sub [0, 1, 2] (by decide) rfl) d_Bo_operand_13 (Nat.le_of_ble_eq_true rfl) (Nat.le_of_ble_eq_true rfl)
theorem d_Bo_handed_0 : decode c_Bo_handed 0 = .ok (.aload_n 0, 1) := by decide +kernel
theorem d_Bo_handed_1 : decode c_Bo_handed 1 = .ok (.getfield 9, 3) := by decide +kernel
theorem d_Bo_handed_4 : decode c_Bo_handed 4 = .ok (.aload_n 0, 1) := by decide +kernel
theorem d_Bo_handed_5 : decode c_Bo_handed 5 = .ok (.getfield 15, 3) := by decide +kernel
theorem d_Bo_handed_8 : decode c_Bo_handed 8 = .ok (.iload_n 1, 1) := by decide +kernel
theorem d_Bo_handed_9 : decode c_Bo_handed 9 = .ok (.iaload, 1) := by decide +kernel
theorem d_Bo_handed_10 : decode c_Bo_handed 10 = .ok (.iconst 2, 1) := by decide +kernel
theorem d_Bo_handed_11 : decode c_Bo_handed 11 = .ok (.iadd, 1) := by decide +kernel
theorem d_Bo_handed_12 : decode c_Bo_handed 12 = .ok (.iload_n 2, 1) := by decide +kernel
theorem d_Bo_handed_13 : decode c_Bo_handed 13 = .ok (.iadd, 1) := by decide +kernel
theorem d_Bo_handed_14 : decode c_Bo_handed 14 = .ok (.iaload, 1) := by decide +kernel
theorem d_Bo_handed_15 : decode c_Bo_handed 15 = .ok (.ireturn, 1) := by decide +kernel
set_option maxRecDepth 100000 in
set_option maxHeartbeats 16000000 in
/-- Body.handed -/
theorem g_Bo_handed (l : Launch) (G : va_G) (k : Nat → ClassId) (h0 : Nat) (s0 : Nat) (x9 : Nat) (i9 : Nat) (bw : Nat) (bst : Nat) (bfi : Nat) (bse : Nat) (bkn : Nat) (bnm : Nat) (tk9 : Nat) (sz9 : Nat) (nd9 : Nat) (wd : Nat → Int32) (sta : Nat → Nat) (hx9 : x9 < 40) (hs : sta x9 + 2 + i9 < 200) : CI l y_Bo_handed c_Bo_handed 3 .int { frames := 0, cells := 0, slots := 0, locals := 0 } [.ref h0, .int (nI x9), .int (nI i9)] G k s0 [(h0, .inr (4, [.ref bw, .ref bst, .ref bfi, .ref bse, .ref bkn, .ref bnm, .int (nI tk9), .int (nI sz9), .int (nI nd9)])), (bw, .inl (k 0, 200, .inl wd)), (bst, .inl (k 0, 40, .inl (fun i => nI (sta i))))] (fun (r : Int32) (u : Unit) => r = wd (sta x9 + 2 + i9) ∧ True) (fun u => [(h0, .inr (4, [.ref bw, .ref bst, .ref bfi, .ref bse, .ref bkn, .ref bnm, .int (nI tk9), .int (nI sz9), .int (nI nd9)])), (bw, .inl (k 0, 200, .inl wd)), (bst, .inl (k 0, 40, .inl (fun i => nI (sta i))))]) 0 0 := by
  refine met_start (by decide) (Nat.le_of_ble_eq_true rfl) ?_
  intro p e s m below meth c C K hA hsz S ls hl
  generalize va_A [(h0, .inr (4, [.ref bw, .ref bst, .ref bfi, .ref bse, .ref bkn, .ref bnm, .int (nI tk9), .int (nI sz9), .int (nI nd9)])), (bw, .inl (k 0, 200, .inl wd)), (bst, .inl (k 0, 40, .inl (fun i => nI (sta i))))] s0 = A at hA S ⊢
  have hx := C.1
  have hb := C.2.1
  have hl : lv_has ls 3 [(0, .ref h0), (1, .int (nI x9)), (2, .int (nI i9))] := hl
  refine lv_aload_n hx hb d_Bo_handed_0 rfl (lv_at hl 0 rfl) ?_
  refine r_get C K S 0 rfl rfl clOk_Bo 0 (by decide) wf_Bo_9 (v := .ref bw) rfl d_Bo_handed_1 ?_
  refine lv_aload_n hx hb d_Bo_handed_4 rfl (lv_at hl 0 rfl) ?_
  refine r_get C K S 0 rfl rfl clOk_Bo 1 (by decide) wf_Bo_15 (v := .ref bst) rfl d_Bo_handed_5 ?_
  refine lv_iload_n hx hb d_Bo_handed_8 rfl (lv_at hl 1 rfl) ?_
  refine r_iald C K S 2 rfl (i := nI x9) (show vp_in (nI x9) _ from vp_in_nI (n := x9) (by omega) (by decide)) (v := nI (sta x9)) (by rw [nI_clamp (by omega)]) d_Bo_handed_9 ?_
  refine lv_iconst (v := 2) hx hb d_Bo_handed_10 (by decide) ?_
  refine z_iadd (x := nI (sta x9)) (y := 2) (v := nI (sta x9 + 2)) hx hb d_Bo_handed_11 (nI_add (sta x9) 2) ?_
  refine lv_iload_n hx hb d_Bo_handed_12 rfl (lv_at hl 2 rfl) ?_
  refine z_iadd (x := nI (sta x9 + 2)) (y := nI i9) (v := nI (sta x9 + 2 + i9)) hx hb d_Bo_handed_13 (nI_add (sta x9 + 2) i9) ?_
  refine r_iald C K S 1 rfl (i := nI (sta x9 + 2 + i9)) (show vp_in (nI (sta x9 + 2 + i9)) _ from vp_in_nI (n := (sta x9 + 2 + i9)) (by omega) (by decide)) (v := wd (sta x9 + 2 + i9)) (by rw [nI_clamp (by omega)]) d_Bo_handed_14 ?_
  exact r_iret C K rfl () ⟨rfl, trivial⟩ (S.sub [0, 1, 2] (by decide) rfl) d_Bo_handed_15 (Nat.le_of_ble_eq_true rfl) (Nat.le_of_ble_eq_true rfl)
theorem d_Bo_begin_0 : decode c_Bo_begin 0 = .ok (.aload_n 0, 1) := by decide +kernel
theorem d_Bo_begin_1 : decode c_Bo_begin 1 = .ok (.getfield 30, 3) := by decide +kernel
theorem d_Bo_begin_4 : decode c_Bo_begin 4 = .ok (.istore_n 3, 1) := by decide +kernel
theorem d_Bo_begin_5 : decode c_Bo_begin 5 = .ok (.aload_n 0, 1) := by decide +kernel
theorem d_Bo_begin_6 : decode c_Bo_begin 6 = .ok (.dup, 1) := by decide +kernel
theorem d_Bo_begin_7 : decode c_Bo_begin 7 = .ok (.getfield 30, 3) := by decide +kernel
theorem d_Bo_begin_10 : decode c_Bo_begin 10 = .ok (.iconst 1, 1) := by decide +kernel
theorem d_Bo_begin_11 : decode c_Bo_begin 11 = .ok (.iadd, 1) := by decide +kernel
theorem d_Bo_begin_12 : decode c_Bo_begin 12 = .ok (.putfield 30, 3) := by decide +kernel
theorem d_Bo_begin_15 : decode c_Bo_begin 15 = .ok (.aload_n 0, 1) := by decide +kernel
theorem d_Bo_begin_16 : decode c_Bo_begin 16 = .ok (.getfield 15, 3) := by decide +kernel
theorem d_Bo_begin_19 : decode c_Bo_begin 19 = .ok (.iload_n 3, 1) := by decide +kernel
theorem d_Bo_begin_20 : decode c_Bo_begin 20 = .ok (.iload_n 1, 1) := by decide +kernel
theorem d_Bo_begin_21 : decode c_Bo_begin 21 = .ok (.iastore, 1) := by decide +kernel
theorem d_Bo_begin_22 : decode c_Bo_begin 22 = .ok (.aload_n 0, 1) := by decide +kernel
theorem d_Bo_begin_23 : decode c_Bo_begin 23 = .ok (.getfield 18, 3) := by decide +kernel
theorem d_Bo_begin_26 : decode c_Bo_begin 26 = .ok (.iload_n 3, 1) := by decide +kernel
theorem d_Bo_begin_27 : decode c_Bo_begin 27 = .ok (.iconst 0, 1) := by decide +kernel
theorem d_Bo_begin_28 : decode c_Bo_begin 28 = .ok (.iastore, 1) := by decide +kernel
theorem d_Bo_begin_29 : decode c_Bo_begin 29 = .ok (.aload_n 0, 1) := by decide +kernel
theorem d_Bo_begin_30 : decode c_Bo_begin 30 = .ok (.getfield 21, 3) := by decide +kernel
theorem d_Bo_begin_33 : decode c_Bo_begin 33 = .ok (.iload_n 3, 1) := by decide +kernel
theorem d_Bo_begin_34 : decode c_Bo_begin 34 = .ok (.iconst 0, 1) := by decide +kernel
theorem d_Bo_begin_35 : decode c_Bo_begin 35 = .ok (.iastore, 1) := by decide +kernel
theorem d_Bo_begin_36 : decode c_Bo_begin 36 = .ok (.aload_n 0, 1) := by decide +kernel
theorem d_Bo_begin_37 : decode c_Bo_begin 37 = .ok (.getfield 24, 3) := by decide +kernel
theorem d_Bo_begin_40 : decode c_Bo_begin 40 = .ok (.iload_n 3, 1) := by decide +kernel
theorem d_Bo_begin_41 : decode c_Bo_begin 41 = .ok (.iload_n 2, 1) := by decide +kernel
theorem d_Bo_begin_42 : decode c_Bo_begin 42 = .ok (.iastore, 1) := by decide +kernel
theorem d_Bo_begin_43 : decode c_Bo_begin 43 = .ok (.aload_n 0, 1) := by decide +kernel
theorem d_Bo_begin_44 : decode c_Bo_begin 44 = .ok (.getfield 27, 3) := by decide +kernel
theorem d_Bo_begin_47 : decode c_Bo_begin 47 = .ok (.iload_n 3, 1) := by decide +kernel
theorem d_Bo_begin_48 : decode c_Bo_begin 48 = .ok (.iconst 0, 1) := by decide +kernel
theorem d_Bo_begin_49 : decode c_Bo_begin 49 = .ok (.iastore, 1) := by decide +kernel
theorem d_Bo_begin_50 : decode c_Bo_begin 50 = .ok (.iload_n 3, 1) := by decide +kernel
theorem d_Bo_begin_51 : decode c_Bo_begin 51 = .ok (.ireturn, 1) := by decide +kernel
set_option maxRecDepth 100000 in
set_option maxHeartbeats 16000000 in
/-- Body.begin -/
theorem g_Bo_begin (l : Launch) (G : va_G) (k : Nat → ClassId) (h0 : Nat) (s0 : Nat) (p9 : Nat) (kn : Nat) (bw : Nat) (bst : Nat) (bfi : Nat) (bse : Nat) (bkn : Nat) (bnm : Nat) (tk9 : Nat) (sz9 : Nat) (nd9 : Nat) (sta : Nat → Nat) (fir : Nat → Nat) (sec : Nat → Nat) (kno : Nat → Nat) (nam : Nat → Nat) (hn : nd9 < 40) : CI l y_Bo_begin c_Bo_begin 4 .int { frames := 0, cells := 0, slots := 0, locals := 0 } [.ref h0, .int (nI p9), .int (nI kn)] G k s0 [(h0, .inr (4, [.ref bw, .ref bst, .ref bfi, .ref bse, .ref bkn, .ref bnm, .int (nI tk9), .int (nI sz9), .int (nI nd9)])), (bst, .inl (k 0, 40, .inl (fun i => nI (sta i)))), (bfi, .inl (k 0, 40, .inl (fun i => nI (fir i)))), (bse, .inl (k 0, 40, .inl (fun i => nI (sec i)))), (bkn, .inl (k 0, 40, .inl (fun i => nI (kno i)))), (bnm, .inl (k 0, 40, .inl (fun i => nI (nam i))))] (fun (r : Int32) (u : Unit) => r = nI nd9 ∧ True) (fun u => [(h0, .inr (4, [.ref bw, .ref bst, .ref bfi, .ref bse, .ref bkn, .ref bnm, .int (nI tk9), .int (nI sz9), .int (nI (nd9 + 1))])), (bst, .inl (k 0, 40, .inl (fun i => nI ((va_up sta nd9 p9) i)))), (bfi, .inl (k 0, 40, .inl (fun i => nI ((va_up fir nd9 0) i)))), (bse, .inl (k 0, 40, .inl (fun i => nI ((va_up sec nd9 0) i)))), (bkn, .inl (k 0, 40, .inl (fun i => nI ((va_up kno nd9 kn) i)))), (bnm, .inl (k 0, 40, .inl (fun i => nI ((va_up nam nd9 0) i))))]) 0 0 := by
  refine met_start (by decide) (Nat.le_of_ble_eq_true rfl) ?_
  intro p e s m below meth c C K hA hsz S ls hl
  generalize va_A [(h0, .inr (4, [.ref bw, .ref bst, .ref bfi, .ref bse, .ref bkn, .ref bnm, .int (nI tk9), .int (nI sz9), .int (nI nd9)])), (bst, .inl (k 0, 40, .inl (fun i => nI (sta i)))), (bfi, .inl (k 0, 40, .inl (fun i => nI (fir i)))), (bse, .inl (k 0, 40, .inl (fun i => nI (sec i)))), (bkn, .inl (k 0, 40, .inl (fun i => nI (kno i)))), (bnm, .inl (k 0, 40, .inl (fun i => nI (nam i))))] s0 = A at hA S ⊢
  have hx := C.1
  have hb := C.2.1
  have hl : lv_has ls 4 [(0, .ref h0), (1, .int (nI p9)), (2, .int (nI kn))] := hl
  refine lv_aload_n hx hb d_Bo_begin_0 rfl (lv_at hl 0 rfl) ?_
  refine r_get C K S 0 rfl rfl clOk_Bo 8 (by decide) wf_Bo_30 (v := .int (nI nd9)) rfl d_Bo_begin_1 ?_
  refine lv_istore_n (lv' := [(3, .int (nI nd9)), (0, .ref h0), (1, .int (nI p9)), (2, .int (nI kn))]) hx hb d_Bo_begin_4 rfl hl (by decide) rfl (fun ls hl => ?_)
  refine lv_aload_n hx hb d_Bo_begin_5 rfl (lv_at hl 1 rfl) ?_
  refine lv_dup hx hb d_Bo_begin_6 rfl ?_
  refine r_get C K S 0 rfl rfl clOk_Bo 8 (by decide) wf_Bo_30 (v := .int (nI nd9)) rfl d_Bo_begin_7 ?_
  refine lv_iconst (v := 1) hx hb d_Bo_begin_10 (by decide) ?_
  refine z_iadd (x := nI nd9) (y := 1) (v := nI (nd9 + 1)) hx hb d_Bo_begin_11 (nI_add nd9 1) ?_
  refine r_put C K S 0 rfl rfl clOk_Bo 8 (by decide) wf_Bo_30 rfl (ty := .int) (v := .int (nI (nd9 + 1))) (by decide +kernel) rfl rfl (Nat.le_of_ble_eq_true rfl) (fs' := [.ref bw, .ref bst, .ref bfi, .ref bse, .ref bkn, .ref bnm, .int (nI tk9), .int (nI sz9), .int (nI (nd9 + 1))]) (ws' := [(h0, .inr (4, [.ref bw, .ref bst, .ref bfi, .ref bse, .ref bkn, .ref bnm, .int (nI tk9), .int (nI sz9), .int (nI (nd9 + 1))])), (bst, .inl (k 0, 40, .inl (fun i => nI (sta i)))), (bfi, .inl (k 0, 40, .inl (fun i => nI (fir i)))), (bse, .inl (k 0, 40, .inl (fun i => nI (sec i)))), (bkn, .inl (k 0, 40, .inl (fun i => nI (kno i)))), (bnm, .inl (k 0, 40, .inl (fun i => nI (nam i))))]) rfl rfl d_Bo_begin_12 (fun H locs S => ?_)
  refine lv_aload_n hx hb d_Bo_begin_15 rfl (lv_at hl 1 rfl) ?_
  refine r_get C K S 0 rfl rfl clOk_Bo 1 (by decide) wf_Bo_15 (v := .ref bst) rfl d_Bo_begin_16 ?_
  refine lv_iload_n hx hb d_Bo_begin_19 rfl (lv_at hl 0 rfl) ?_
  refine lv_iload_n hx hb d_Bo_begin_20 rfl (lv_at hl 2 rfl) ?_
  refine r_iast C K S 1 rfl (i := nI nd9) (x := nI p9) (show vp_in (nI nd9) _ from vp_in_nI (n := nd9) (by omega) (by decide)) (f' := fun i => nI (va_up sta nd9 p9 i)) (ws' := [(h0, .inr (4, [.ref bw, .ref bst, .ref bfi, .ref bse, .ref bkn, .ref bnm, .int (nI tk9), .int (nI sz9), .int (nI (nd9 + 1))])), (bst, .inl (k 0, 40, .inl (fun i => nI (va_up sta nd9 p9 i)))), (bfi, .inl (k 0, 40, .inl (fun i => nI (fir i)))), (bse, .inl (k 0, 40, .inl (fun i => nI (sec i)))), (bkn, .inl (k 0, 40, .inl (fun i => nI (kno i)))), (bnm, .inl (k 0, 40, .inl (fun i => nI (nam i))))]) (show upd _ (nI nd9 : Int32).toNatClampNeg (nI p9) = _ from upd_nI sta (j := nd9) (by omega) p9) rfl d_Bo_begin_21 (fun H locs S => ?_)
  refine lv_aload_n hx hb d_Bo_begin_22 rfl (lv_at hl 1 rfl) ?_
  refine r_get C K S 0 rfl rfl clOk_Bo 2 (by decide) wf_Bo_18 (v := .ref bfi) rfl d_Bo_begin_23 ?_
  refine lv_iload_n hx hb d_Bo_begin_26 rfl (lv_at hl 0 rfl) ?_
  refine lv_iconst (v := 0) hx hb d_Bo_begin_27 (by decide) ?_
  refine r_iast C K S 2 rfl (i := nI nd9) (x := 0) (show vp_in (nI nd9) _ from vp_in_nI (n := nd9) (by omega) (by decide)) (f' := fun i => nI (va_up fir nd9 0 i)) (ws' := [(h0, .inr (4, [.ref bw, .ref bst, .ref bfi, .ref bse, .ref bkn, .ref bnm, .int (nI tk9), .int (nI sz9), .int (nI (nd9 + 1))])), (bst, .inl (k 0, 40, .inl (fun i => nI (va_up sta nd9 p9 i)))), (bfi, .inl (k 0, 40, .inl (fun i => nI (va_up fir nd9 0 i)))), (bse, .inl (k 0, 40, .inl (fun i => nI (sec i)))), (bkn, .inl (k 0, 40, .inl (fun i => nI (kno i)))), (bnm, .inl (k 0, 40, .inl (fun i => nI (nam i))))]) (show upd _ (nI nd9 : Int32).toNatClampNeg 0 = _ from upd_nI fir (j := nd9) (by omega) 0) rfl d_Bo_begin_28 (fun H locs S => ?_)
  refine lv_aload_n hx hb d_Bo_begin_29 rfl (lv_at hl 1 rfl) ?_
  refine r_get C K S 0 rfl rfl clOk_Bo 3 (by decide) wf_Bo_21 (v := .ref bse) rfl d_Bo_begin_30 ?_
  refine lv_iload_n hx hb d_Bo_begin_33 rfl (lv_at hl 0 rfl) ?_
  refine lv_iconst (v := 0) hx hb d_Bo_begin_34 (by decide) ?_
  refine r_iast C K S 3 rfl (i := nI nd9) (x := 0) (show vp_in (nI nd9) _ from vp_in_nI (n := nd9) (by omega) (by decide)) (f' := fun i => nI (va_up sec nd9 0 i)) (ws' := [(h0, .inr (4, [.ref bw, .ref bst, .ref bfi, .ref bse, .ref bkn, .ref bnm, .int (nI tk9), .int (nI sz9), .int (nI (nd9 + 1))])), (bst, .inl (k 0, 40, .inl (fun i => nI (va_up sta nd9 p9 i)))), (bfi, .inl (k 0, 40, .inl (fun i => nI (va_up fir nd9 0 i)))), (bse, .inl (k 0, 40, .inl (fun i => nI (va_up sec nd9 0 i)))), (bkn, .inl (k 0, 40, .inl (fun i => nI (kno i)))), (bnm, .inl (k 0, 40, .inl (fun i => nI (nam i))))]) (show upd _ (nI nd9 : Int32).toNatClampNeg 0 = _ from upd_nI sec (j := nd9) (by omega) 0) rfl d_Bo_begin_35 (fun H locs S => ?_)
  refine lv_aload_n hx hb d_Bo_begin_36 rfl (lv_at hl 1 rfl) ?_
  refine r_get C K S 0 rfl rfl clOk_Bo 4 (by decide) wf_Bo_24 (v := .ref bkn) rfl d_Bo_begin_37 ?_
  refine lv_iload_n hx hb d_Bo_begin_40 rfl (lv_at hl 0 rfl) ?_
  refine lv_iload_n hx hb d_Bo_begin_41 rfl (lv_at hl 3 rfl) ?_
  refine r_iast C K S 4 rfl (i := nI nd9) (x := nI kn) (show vp_in (nI nd9) _ from vp_in_nI (n := nd9) (by omega) (by decide)) (f' := fun i => nI (va_up kno nd9 kn i)) (ws' := [(h0, .inr (4, [.ref bw, .ref bst, .ref bfi, .ref bse, .ref bkn, .ref bnm, .int (nI tk9), .int (nI sz9), .int (nI (nd9 + 1))])), (bst, .inl (k 0, 40, .inl (fun i => nI (va_up sta nd9 p9 i)))), (bfi, .inl (k 0, 40, .inl (fun i => nI (va_up fir nd9 0 i)))), (bse, .inl (k 0, 40, .inl (fun i => nI (va_up sec nd9 0 i)))), (bkn, .inl (k 0, 40, .inl (fun i => nI (va_up kno nd9 kn i)))), (bnm, .inl (k 0, 40, .inl (fun i => nI (nam i))))]) (show upd _ (nI nd9 : Int32).toNatClampNeg (nI kn) = _ from upd_nI kno (j := nd9) (by omega) kn) rfl d_Bo_begin_42 (fun H locs S => ?_)
  refine lv_aload_n hx hb d_Bo_begin_43 rfl (lv_at hl 1 rfl) ?_
  refine r_get C K S 0 rfl rfl clOk_Bo 5 (by decide) wf_Bo_27 (v := .ref bnm) rfl d_Bo_begin_44 ?_
  refine lv_iload_n hx hb d_Bo_begin_47 rfl (lv_at hl 0 rfl) ?_
  refine lv_iconst (v := 0) hx hb d_Bo_begin_48 (by decide) ?_
  refine r_iast C K S 5 rfl (i := nI nd9) (x := 0) (show vp_in (nI nd9) _ from vp_in_nI (n := nd9) (by omega) (by decide)) (f' := fun i => nI (va_up nam nd9 0 i)) (ws' := [(h0, .inr (4, [.ref bw, .ref bst, .ref bfi, .ref bse, .ref bkn, .ref bnm, .int (nI tk9), .int (nI sz9), .int (nI (nd9 + 1))])), (bst, .inl (k 0, 40, .inl (fun i => nI (va_up sta nd9 p9 i)))), (bfi, .inl (k 0, 40, .inl (fun i => nI (va_up fir nd9 0 i)))), (bse, .inl (k 0, 40, .inl (fun i => nI (va_up sec nd9 0 i)))), (bkn, .inl (k 0, 40, .inl (fun i => nI (va_up kno nd9 kn i)))), (bnm, .inl (k 0, 40, .inl (fun i => nI (va_up nam nd9 0 i))))]) (show upd _ (nI nd9 : Int32).toNatClampNeg 0 = _ from upd_nI nam (j := nd9) (by omega) 0) rfl d_Bo_begin_49 (fun H locs S => ?_)
  refine lv_iload_n hx hb d_Bo_begin_50 rfl (lv_at hl 0 rfl) ?_
  exact r_iret C K rfl () ⟨rfl, trivial⟩ (S.sub [0, 1, 2, 3, 4, 5] (by decide) rfl) d_Bo_begin_51 (Nat.le_of_ble_eq_true rfl) (Nat.le_of_ble_eq_true rfl)
theorem d_Re_number_0 : decode c_Re_number 0 = .ok (.aload_n 0, 1) := by decide +kernel
theorem d_Re_number_1 : decode c_Re_number 1 = .ok (.getfield 9, 3) := by decide +kernel
theorem d_Re_number_4 : decode c_Re_number 4 = .ok (.bipush (-2), 2) := by decide +kernel
theorem d_Re_number_6 : decode c_Re_number 6 = .ok (.if_icmp .eq 5, 3) := by decide +kernel
theorem d_Re_number_9 : decode c_Re_number 9 = .ok (.iconst 0, 1) := by decide +kernel
theorem d_Re_number_10 : decode c_Re_number 10 = .ok (.ireturn, 1) := by decide +kernel
theorem d_Re_number_11 : decode c_Re_number 11 = .ok (.aload_n 0, 1) := by decide +kernel
theorem d_Re_number_12 : decode c_Re_number 12 = .ok (.getfield 26, 3) := by decide +kernel
theorem d_Re_number_15 : decode c_Re_number 15 = .ok (.aload_n 0, 1) := by decide +kernel
theorem d_Re_number_16 : decode c_Re_number 16 = .ok (.getfield 19, 3) := by decide +kernel
theorem d_Re_number_19 : decode c_Re_number 19 = .ok (.getfield 41, 3) := by decide +kernel
theorem d_Re_number_22 : decode c_Re_number 22 = .ok (.if_icmp .ge 35, 3) := by decide +kernel
theorem d_Re_number_25 : decode c_Re_number 25 = .ok (.aload_n 0, 1) := by decide +kernel
theorem d_Re_number_26 : decode c_Re_number 26 = .ok (.getfield 19, 3) := by decide +kernel
theorem d_Re_number_29 : decode c_Re_number 29 = .ok (.getfield 74, 3) := by decide +kernel
theorem d_Re_number_32 : decode c_Re_number 32 = .ok (.aload_n 0, 1) := by decide +kernel
theorem d_Re_number_33 : decode c_Re_number 33 = .ok (.getfield 26, 3) := by decide +kernel
theorem d_Re_number_36 : decode c_Re_number 36 = .ok (.iaload, 1) := by decide +kernel
theorem d_Re_number_37 : decode c_Re_number 37 = .ok (.iload_n 1, 1) := by decide +kernel
theorem d_Re_number_38 : decode c_Re_number 38 = .ok (.if_icmp .lt 19, 3) := by decide +kernel
theorem d_Re_number_41 : decode c_Re_number 41 = .ok (.aload_n 0, 1) := by decide +kernel
theorem d_Re_number_42 : decode c_Re_number 42 = .ok (.getfield 19, 3) := by decide +kernel
theorem d_Re_number_45 : decode c_Re_number 45 = .ok (.getfield 74, 3) := by decide +kernel
theorem d_Re_number_48 : decode c_Re_number 48 = .ok (.aload_n 0, 1) := by decide +kernel
theorem d_Re_number_49 : decode c_Re_number 49 = .ok (.getfield 26, 3) := by decide +kernel
theorem d_Re_number_52 : decode c_Re_number 52 = .ok (.iaload, 1) := by decide +kernel
theorem d_Re_number_53 : decode c_Re_number 53 = .ok (.iload_n 2, 1) := by decide +kernel
theorem d_Re_number_54 : decode c_Re_number 54 = .ok (.if_icmp .le 13, 3) := by decide +kernel
theorem d_Re_number_57 : decode c_Re_number 57 = .ok (.aload_n 0, 1) := by decide +kernel
theorem d_Re_number_58 : decode c_Re_number 58 = .ok (.aload_n 0, 1) := by decide +kernel
theorem d_Re_number_59 : decode c_Re_number 59 = .ok (.getfield 26, 3) := by decide +kernel
theorem d_Re_number_62 : decode c_Re_number 62 = .ok (.putfield 9, 3) := by decide +kernel
theorem d_Re_number_65 : decode c_Re_number 65 = .ok (.iconst 0, 1) := by decide +kernel
theorem d_Re_number_66 : decode c_Re_number 66 = .ok (.ireturn, 1) := by decide +kernel
theorem d_Re_number_67 : decode c_Re_number 67 = .ok (.aload_n 0, 1) := by decide +kernel
theorem d_Re_number_68 : decode c_Re_number 68 = .ok (.dup, 1) := by decide +kernel
theorem d_Re_number_69 : decode c_Re_number 69 = .ok (.getfield 26, 3) := by decide +kernel
theorem d_Re_number_72 : decode c_Re_number 72 = .ok (.iconst 1, 1) := by decide +kernel
theorem d_Re_number_73 : decode c_Re_number 73 = .ok (.iadd, 1) := by decide +kernel
theorem d_Re_number_74 : decode c_Re_number 74 = .ok (.putfield 26, 3) := by decide +kernel
theorem d_Re_number_77 : decode c_Re_number 77 = .ok (.aload_n 0, 1) := by decide +kernel
theorem d_Re_number_78 : decode c_Re_number 78 = .ok (.getfield 19, 3) := by decide +kernel
theorem d_Re_number_81 : decode c_Re_number 81 = .ok (.getfield 74, 3) := by decide +kernel
theorem d_Re_number_84 : decode c_Re_number 84 = .ok (.aload_n 0, 1) := by decide +kernel
theorem d_Re_number_85 : decode c_Re_number 85 = .ok (.getfield 26, 3) := by decide +kernel
theorem d_Re_number_88 : decode c_Re_number 88 = .ok (.iconst 1, 1) := by decide +kernel
theorem d_Re_number_89 : decode c_Re_number 89 = .ok (.isub, 1) := by decide +kernel
theorem d_Re_number_90 : decode c_Re_number 90 = .ok (.iaload, 1) := by decide +kernel
theorem d_Re_number_91 : decode c_Re_number 91 = .ok (.ireturn, 1) := by decide +kernel
set_option maxRecDepth 100000 in
set_option maxHeartbeats 16000000 in
/-- number, a place is wrong -/
theorem g_Re_number_w (l : Launch) (G : va_G) (k : Nat → ClassId) (h0 : Nat) (s0 : Nat) (lo9 : Int32) (hi9 : Int32) (wr9 : Int32) (ra : Nat) (bc : Nat) (nf : Nat) (nx : Nat) (bw : Nat) (bst : Nat) (bfi : Nat) (bse : Nat) (bkn : Nat) (bnm : Nat) (tk9 : Nat) (sz9 : Nat) (nd9 : Nat) (wd : Nat → Int32) (hwr : wr9 ≠ -2) : CI l y_Re_number c_Re_number 3 .int { frames := 0, cells := 0, slots := 0, locals := 0 } [.ref h0, .int lo9, .int hi9] G k s0 [(h0, .inr (5, [.ref ra, .ref bc, .int (nI nf), .int (nI nx), .int wr9])), (bc, .inr (4, [.ref bw, .ref bst, .ref bfi, .ref bse, .ref bkn, .ref bnm, .int (nI tk9), .int (nI sz9), .int (nI nd9)])), (bw, .inl (k 0, 200, .inl wd))] (fun (r : Int32) (u : Unit) => r = 0 ∧ True) (fun u => [(h0, .inr (5, [.ref ra, .ref bc, .int (nI nf), .int (nI nx), .int wr9])), (bc, .inr (4, [.ref bw, .ref bst, .ref bfi, .ref bse, .ref bkn, .ref bnm, .int (nI tk9), .int (nI sz9), .int (nI nd9)])), (bw, .inl (k 0, 200, .inl wd))]) 0 0 := by
  refine met_start (by decide) (Nat.le_of_ble_eq_true rfl) ?_
  intro p e s m below meth c C K hA hsz S ls hl
  generalize va_A [(h0, .inr (5, [.ref ra, .ref bc, .int (nI nf), .int (nI nx), .int wr9])), (bc, .inr (4, [.ref bw, .ref bst, .ref bfi, .ref bse, .ref bkn, .ref bnm, .int (nI tk9), .int (nI sz9), .int (nI nd9)])), (bw, .inl (k 0, 200, .inl wd))] s0 = A at hA S ⊢
  have hx := C.1
  have hb := C.2.1
  have hl : lv_has ls 3 [(0, .ref h0), (1, .int lo9), (2, .int hi9)] := hl
  refine lv_aload_n hx hb d_Re_number_0 rfl (lv_at hl 0 rfl) ?_
  refine r_get C K S 0 rfl rfl clOk_Re 4 (by decide) wf_Re_9 (v := .int wr9) rfl d_Re_number_1 ?_
  refine lv_bipush (v := (-2)) hx hb d_Re_number_4 (by decide) ?_
  refine lv_icmp_eq (tgt := 11) hx hb d_Re_number_6 (by decide) (fun hq => absurd hq hwr) (fun _ => ?_)
  refine lv_iconst (v := 0) hx hb d_Re_number_9 (by decide) ?_
  exact r_iret C K rfl () ⟨rfl, trivial⟩ (S.sub [0, 1, 2] (by decide) rfl) d_Re_number_10 (Nat.le_of_ble_eq_true rfl) (Nat.le_of_ble_eq_true rfl)
set_option maxRecDepth 100000 in
set_option maxHeartbeats 16000000 in
/-- number, what stands here is wrong -/
theorem g_Re_number_b (l : Launch) (G : va_G) (k : Nat → ClassId) (h0 : Nat) (s0 : Nat) (lo9 : Int32) (hi9 : Int32) (ra : Nat) (bc : Nat) (nf : Nat) (nx : Nat) (bw : Nat) (bst : Nat) (bfi : Nat) (bse : Nat) (bkn : Nat) (bnm : Nat) (tk9 : Nat) (sz9 : Nat) (nd9 : Nat) (wd : Nat → Int32) (hnx : nx ≤ sz9) (hsz : sz9 ≤ 200) (hbad : (nx = sz9 ∨ wd nx < lo9 ∨ hi9 < wd nx)) : CI l y_Re_number c_Re_number 3 .int { frames := 0, cells := 0, slots := 0, locals := 0 } [.ref h0, .int lo9, .int hi9] G k s0 [(h0, .inr (5, [.ref ra, .ref bc, .int (nI nf), .int (nI nx), .int (-2)])), (bc, .inr (4, [.ref bw, .ref bst, .ref bfi, .ref bse, .ref bkn, .ref bnm, .int (nI tk9), .int (nI sz9), .int (nI nd9)])), (bw, .inl (k 0, 200, .inl wd))] (fun (r : Int32) (u : Unit) => r = 0 ∧ True) (fun u => [(h0, .inr (5, [.ref ra, .ref bc, .int (nI nf), .int (nI nx), .int (nI nx)])), (bc, .inr (4, [.ref bw, .ref bst, .ref bfi, .ref bse, .ref bkn, .ref bnm, .int (nI tk9), .int (nI sz9), .int (nI nd9)])), (bw, .inl (k 0, 200, .inl wd))]) 0 0 := by
  refine met_start (by decide) (Nat.le_of_ble_eq_true rfl) ?_
  intro p e s m below meth c C K hA hsz S ls hl
  generalize va_A [(h0, .inr (5, [.ref ra, .ref bc, .int (nI nf), .int (nI nx), .int (-2)])), (bc, .inr (4, [.ref bw, .ref bst, .ref bfi, .ref bse, .ref bkn, .ref bnm, .int (nI tk9), .int (nI sz9), .int (nI nd9)])), (bw, .inl (k 0, 200, .inl wd))] s0 = A at hA S ⊢
  have hx := C.1
  have hb := C.2.1
  have hl : lv_has ls 3 [(0, .ref h0), (1, .int lo9), (2, .int hi9)] := hl
  refine lv_aload_n hx hb d_Re_number_0 rfl (lv_at hl 0 rfl) ?_
  refine r_get C K S 0 rfl rfl clOk_Re 4 (by decide) wf_Re_9 (v := .int (-2)) rfl d_Re_number_1 ?_
  refine lv_bipush (v := (-2)) hx hb d_Re_number_4 (by decide) ?_
  refine lv_icmp_eq (tgt := 11) hx hb d_Re_number_6 (by decide) (fun _ => ?_) (fun hq => absurd (by decide) hq)
  refine lv_aload_n hx hb d_Re_number_11 rfl (lv_at hl 0 rfl) ?_
  refine r_get C K S 0 rfl rfl clOk_Re 3 (by decide) wf_Re_26 (v := .int (nI nx)) rfl d_Re_number_12 ?_
  refine lv_aload_n hx hb d_Re_number_15 rfl (lv_at hl 0 rfl) ?_
  refine r_get C K S 0 rfl rfl clOk_Re 1 (by decide) wf_Re_19 (v := .ref bc) rfl d_Re_number_16 ?_
  refine r_getN C K S 1 rfl rfl clOk_Bo 7 (by decide) xf_Re_41 (v := .int (nI sz9)) rfl d_Re_number_19 ?_
  refine z_icmp_ge (a := nx) (b := sz9) (tgt := 57) hx hb d_Re_number_22 (by decide) (by omega) (by omega) (fun hc1 => ?_) (fun hc1 => ?_)
  · refine lv_aload_n hx hb d_Re_number_57 rfl (lv_at hl 0 rfl) ?_
    refine lv_aload_n hx hb d_Re_number_58 rfl (lv_at hl 0 rfl) ?_
    refine r_get C K S 0 rfl rfl clOk_Re 3 (by decide) wf_Re_26 (v := .int (nI nx)) rfl d_Re_number_59 ?_
    refine r_put C K S 0 rfl rfl clOk_Re 4 (by decide) wf_Re_9 rfl (ty := .int) (v := .int (nI nx)) (by decide +kernel) rfl rfl (Nat.le_of_ble_eq_true rfl) (fs' := [.ref ra, .ref bc, .int (nI nf), .int (nI nx), .int (nI nx)]) (ws' := [(h0, .inr (5, [.ref ra, .ref bc, .int (nI nf), .int (nI nx), .int (nI nx)])), (bc, .inr (4, [.ref bw, .ref bst, .ref bfi, .ref bse, .ref bkn, .ref bnm, .int (nI tk9), .int (nI sz9), .int (nI nd9)])), (bw, .inl (k 0, 200, .inl wd))]) rfl rfl d_Re_number_62 (fun H locs S => ?_)
    refine lv_iconst (v := 0) hx hb d_Re_number_65 (by decide) ?_
    exact r_iret C K rfl () ⟨rfl, trivial⟩ (S.sub [0, 1, 2] (by decide) rfl) d_Re_number_66 (Nat.le_of_ble_eq_true rfl) (Nat.le_of_ble_eq_true rfl)
  · refine lv_aload_n hx hb d_Re_number_25 rfl (lv_at hl 0 rfl) ?_
    refine r_get C K S 0 rfl rfl clOk_Re 1 (by decide) wf_Re_19 (v := .ref bc) rfl d_Re_number_26 ?_
    refine r_getN C K S 1 rfl rfl clOk_Bo 0 (by decide) xf_Re_74 (v := .ref bw) rfl d_Re_number_29 ?_
    refine lv_aload_n hx hb d_Re_number_32 rfl (lv_at hl 0 rfl) ?_
    refine r_get C K S 0 rfl rfl clOk_Re 3 (by decide) wf_Re_26 (v := .int (nI nx)) rfl d_Re_number_33 ?_
    refine r_iald C K S 2 rfl (i := nI nx) (show vp_in (nI nx) _ from vp_in_nI (n := nx) (by omega) (by decide)) (v := wd nx) (by rw [nI_clamp (by omega)]) d_Re_number_36 ?_
    refine lv_iload_n hx hb d_Re_number_37 rfl (lv_at hl 1 rfl) ?_
    refine lv_icmp_lt (tgt := 57) hx hb d_Re_number_38 (by decide) (fun hc2 => ?_) (fun hc2 => ?_)
    · refine lv_aload_n hx hb d_Re_number_57 rfl (lv_at hl 0 rfl) ?_
      refine lv_aload_n hx hb d_Re_number_58 rfl (lv_at hl 0 rfl) ?_
      refine r_get C K S 0 rfl rfl clOk_Re 3 (by decide) wf_Re_26 (v := .int (nI nx)) rfl d_Re_number_59 ?_
      refine r_put C K S 0 rfl rfl clOk_Re 4 (by decide) wf_Re_9 rfl (ty := .int) (v := .int (nI nx)) (by decide +kernel) rfl rfl (Nat.le_of_ble_eq_true rfl) (fs' := [.ref ra, .ref bc, .int (nI nf), .int (nI nx), .int (nI nx)]) (ws' := [(h0, .inr (5, [.ref ra, .ref bc, .int (nI nf), .int (nI nx), .int (nI nx)])), (bc, .inr (4, [.ref bw, .ref bst, .ref bfi, .ref bse, .ref bkn, .ref bnm, .int (nI tk9), .int (nI sz9), .int (nI nd9)])), (bw, .inl (k 0, 200, .inl wd))]) rfl rfl d_Re_number_62 (fun H locs S => ?_)
      refine lv_iconst (v := 0) hx hb d_Re_number_65 (by decide) ?_
      exact r_iret C K rfl () ⟨rfl, trivial⟩ (S.sub [0, 1, 2] (by decide) rfl) d_Re_number_66 (Nat.le_of_ble_eq_true rfl) (Nat.le_of_ble_eq_true rfl)
    · refine lv_aload_n hx hb d_Re_number_41 rfl (lv_at hl 0 rfl) ?_
      refine r_get C K S 0 rfl rfl clOk_Re 1 (by decide) wf_Re_19 (v := .ref bc) rfl d_Re_number_42 ?_
      refine r_getN C K S 1 rfl rfl clOk_Bo 0 (by decide) xf_Re_74 (v := .ref bw) rfl d_Re_number_45 ?_
      refine lv_aload_n hx hb d_Re_number_48 rfl (lv_at hl 0 rfl) ?_
      refine r_get C K S 0 rfl rfl clOk_Re 3 (by decide) wf_Re_26 (v := .int (nI nx)) rfl d_Re_number_49 ?_
      refine r_iald C K S 2 rfl (i := nI nx) (show vp_in (nI nx) _ from vp_in_nI (n := nx) (by omega) (by decide)) (v := wd nx) (by rw [nI_clamp (by omega)]) d_Re_number_52 ?_
      refine lv_iload_n hx hb d_Re_number_53 rfl (lv_at hl 2 rfl) ?_
      refine lv_icmp_le (tgt := 67) hx hb d_Re_number_54 (by decide) (fun hc3 => ?_) (fun hc3 => ?_)
      · refine lv_aload_n hx hb d_Re_number_67 rfl (lv_at hl 0 rfl) ?_
        refine lv_dup hx hb d_Re_number_68 rfl ?_
        refine r_get C K S 0 rfl rfl clOk_Re 3 (by decide) wf_Re_26 (v := .int (nI nx)) rfl d_Re_number_69 ?_
        refine lv_iconst (v := 1) hx hb d_Re_number_72 (by decide) ?_
        refine z_iadd (x := nI nx) (y := 1) (v := nI (nx + 1)) hx hb d_Re_number_73 (nI_add nx 1) ?_
        refine r_put C K S 0 rfl rfl clOk_Re 3 (by decide) wf_Re_26 rfl (ty := .int) (v := .int (nI (nx + 1))) (by decide +kernel) rfl rfl (Nat.le_of_ble_eq_true rfl) (fs' := [.ref ra, .ref bc, .int (nI nf), .int (nI (nx + 1)), .int (-2)]) (ws' := [(h0, .inr (5, [.ref ra, .ref bc, .int (nI nf), .int (nI (nx + 1)), .int (-2)])), (bc, .inr (4, [.ref bw, .ref bst, .ref bfi, .ref bse, .ref bkn, .ref bnm, .int (nI tk9), .int (nI sz9), .int (nI nd9)])), (bw, .inl (k 0, 200, .inl wd))]) rfl rfl d_Re_number_74 (fun H locs S => ?_)
        refine lv_aload_n hx hb d_Re_number_77 rfl (lv_at hl 0 rfl) ?_
        refine r_get C K S 0 rfl rfl clOk_Re 1 (by decide) wf_Re_19 (v := .ref bc) rfl d_Re_number_78 ?_
        refine r_getN C K S 1 rfl rfl clOk_Bo 0 (by decide) xf_Re_74 (v := .ref bw) rfl d_Re_number_81 ?_
        refine lv_aload_n hx hb d_Re_number_84 rfl (lv_at hl 0 rfl) ?_
        refine r_get C K S 0 rfl rfl clOk_Re 3 (by decide) wf_Re_26 (v := .int (nI (nx + 1))) rfl d_Re_number_85 ?_
        refine lv_iconst (v := 1) hx hb d_Re_number_88 (by decide) ?_
        refine z_isub (x := nI (nx + 1)) (y := 1) (v := nI (nx + 1 - 1)) hx hb d_Re_number_89 (pk_sub (a := (nx + 1)) (b := 1) (by omega)) ?_
        refine r_iald C K S 2 rfl (i := nI (nx + 1 - 1)) (show vp_in (nI (nx + 1 - 1)) _ from vp_in_nI (n := (nx + 1 - 1)) (by omega) (by decide)) (v := wd (nx + 1 - 1)) (by rw [nI_clamp (by omega)]) d_Re_number_90 ?_
        exact absurd hbad (fun q => q.elim (fun w => by omega) (fun w => w.elim (fun y => hc2 y) (fun y => absurd y (Int32.not_lt.mpr hc3))))
      · refine lv_aload_n hx hb d_Re_number_57 rfl (lv_at hl 0 rfl) ?_
        refine lv_aload_n hx hb d_Re_number_58 rfl (lv_at hl 0 rfl) ?_
        refine r_get C K S 0 rfl rfl clOk_Re 3 (by decide) wf_Re_26 (v := .int (nI nx)) rfl d_Re_number_59 ?_
        refine r_put C K S 0 rfl rfl clOk_Re 4 (by decide) wf_Re_9 rfl (ty := .int) (v := .int (nI nx)) (by decide +kernel) rfl rfl (Nat.le_of_ble_eq_true rfl) (fs' := [.ref ra, .ref bc, .int (nI nf), .int (nI nx), .int (nI nx)]) (ws' := [(h0, .inr (5, [.ref ra, .ref bc, .int (nI nf), .int (nI nx), .int (nI nx)])), (bc, .inr (4, [.ref bw, .ref bst, .ref bfi, .ref bse, .ref bkn, .ref bnm, .int (nI tk9), .int (nI sz9), .int (nI nd9)])), (bw, .inl (k 0, 200, .inl wd))]) rfl rfl d_Re_number_62 (fun H locs S => ?_)
        refine lv_iconst (v := 0) hx hb d_Re_number_65 (by decide) ?_
        exact r_iret C K rfl () ⟨rfl, trivial⟩ (S.sub [0, 1, 2] (by decide) rfl) d_Re_number_66 (Nat.le_of_ble_eq_true rfl) (Nat.le_of_ble_eq_true rfl)
set_option maxRecDepth 100000 in
set_option maxHeartbeats 16000000 in
/-- number, what stands here is right -/
theorem g_Re_number_g (l : Launch) (G : va_G) (k : Nat → ClassId) (h0 : Nat) (s0 : Nat) (lo9 : Int32) (hi9 : Int32) (ra : Nat) (bc : Nat) (nf : Nat) (nx : Nat) (bw : Nat) (bst : Nat) (bfi : Nat) (bse : Nat) (bkn : Nat) (bnm : Nat) (tk9 : Nat) (sz9 : Nat) (nd9 : Nat) (wd : Nat → Int32) (hnx : nx < sz9) (hsz : sz9 ≤ 200) (h1 : ¬ wd nx < lo9) (h2 : wd nx ≤ hi9) : CI l y_Re_number c_Re_number 3 .int { frames := 0, cells := 0, slots := 0, locals := 0 } [.ref h0, .int lo9, .int hi9] G k s0 [(h0, .inr (5, [.ref ra, .ref bc, .int (nI nf), .int (nI nx), .int (-2)])), (bc, .inr (4, [.ref bw, .ref bst, .ref bfi, .ref bse, .ref bkn, .ref bnm, .int (nI tk9), .int (nI sz9), .int (nI nd9)])), (bw, .inl (k 0, 200, .inl wd))] (fun (r : Int32) (u : Unit) => r = wd nx ∧ True) (fun u => [(h0, .inr (5, [.ref ra, .ref bc, .int (nI nf), .int (nI (nx + 1)), .int (-2)])), (bc, .inr (4, [.ref bw, .ref bst, .ref bfi, .ref bse, .ref bkn, .ref bnm, .int (nI tk9), .int (nI sz9), .int (nI nd9)])), (bw, .inl (k 0, 200, .inl wd))]) 0 0 := by
  refine met_start (by decide) (Nat.le_of_ble_eq_true rfl) ?_
  intro p e s m below meth c C K hA hsz S ls hl
  generalize va_A [(h0, .inr (5, [.ref ra, .ref bc, .int (nI nf), .int (nI nx), .int (-2)])), (bc, .inr (4, [.ref bw, .ref bst, .ref bfi, .ref bse, .ref bkn, .ref bnm, .int (nI tk9), .int (nI sz9), .int (nI nd9)])), (bw, .inl (k 0, 200, .inl wd))] s0 = A at hA S ⊢
  have hx := C.1
  have hb := C.2.1
  have hl : lv_has ls 3 [(0, .ref h0), (1, .int lo9), (2, .int hi9)] := hl
  refine lv_aload_n hx hb d_Re_number_0 rfl (lv_at hl 0 rfl) ?_
  refine r_get C K S 0 rfl rfl clOk_Re 4 (by decide) wf_Re_9 (v := .int (-2)) rfl d_Re_number_1 ?_
  refine lv_bipush (v := (-2)) hx hb d_Re_number_4 (by decide) ?_
  refine lv_icmp_eq (tgt := 11) hx hb d_Re_number_6 (by decide) (fun _ => ?_) (fun hq => absurd (by decide) hq)
  refine lv_aload_n hx hb d_Re_number_11 rfl (lv_at hl 0 rfl) ?_
  refine r_get C K S 0 rfl rfl clOk_Re 3 (by decide) wf_Re_26 (v := .int (nI nx)) rfl d_Re_number_12 ?_
  refine lv_aload_n hx hb d_Re_number_15 rfl (lv_at hl 0 rfl) ?_
  refine r_get C K S 0 rfl rfl clOk_Re 1 (by decide) wf_Re_19 (v := .ref bc) rfl d_Re_number_16 ?_
  refine r_getN C K S 1 rfl rfl clOk_Bo 7 (by decide) xf_Re_41 (v := .int (nI sz9)) rfl d_Re_number_19 ?_
  refine z_icmp_ge (a := nx) (b := sz9) (tgt := 57) hx hb d_Re_number_22 (by decide) (by omega) (by omega) (fun hc1 => False.elim (by omega)) (fun hc1 => ?_)
  refine lv_aload_n hx hb d_Re_number_25 rfl (lv_at hl 0 rfl) ?_
  refine r_get C K S 0 rfl rfl clOk_Re 1 (by decide) wf_Re_19 (v := .ref bc) rfl d_Re_number_26 ?_
  refine r_getN C K S 1 rfl rfl clOk_Bo 0 (by decide) xf_Re_74 (v := .ref bw) rfl d_Re_number_29 ?_
  refine lv_aload_n hx hb d_Re_number_32 rfl (lv_at hl 0 rfl) ?_
  refine r_get C K S 0 rfl rfl clOk_Re 3 (by decide) wf_Re_26 (v := .int (nI nx)) rfl d_Re_number_33 ?_
  refine r_iald C K S 2 rfl (i := nI nx) (show vp_in (nI nx) _ from vp_in_nI (n := nx) (by omega) (by decide)) (v := wd nx) (by rw [nI_clamp (by omega)]) d_Re_number_36 ?_
  refine lv_iload_n hx hb d_Re_number_37 rfl (lv_at hl 1 rfl) ?_
  refine lv_icmp_lt (tgt := 57) hx hb d_Re_number_38 (by decide) (fun hq => absurd hq h1) (fun _ => ?_)
  refine lv_aload_n hx hb d_Re_number_41 rfl (lv_at hl 0 rfl) ?_
  refine r_get C K S 0 rfl rfl clOk_Re 1 (by decide) wf_Re_19 (v := .ref bc) rfl d_Re_number_42 ?_
  refine r_getN C K S 1 rfl rfl clOk_Bo 0 (by decide) xf_Re_74 (v := .ref bw) rfl d_Re_number_45 ?_
  refine lv_aload_n hx hb d_Re_number_48 rfl (lv_at hl 0 rfl) ?_
  refine r_get C K S 0 rfl rfl clOk_Re 3 (by decide) wf_Re_26 (v := .int (nI nx)) rfl d_Re_number_49 ?_
  refine r_iald C K S 2 rfl (i := nI nx) (show vp_in (nI nx) _ from vp_in_nI (n := nx) (by omega) (by decide)) (v := wd nx) (by rw [nI_clamp (by omega)]) d_Re_number_52 ?_
  refine lv_iload_n hx hb d_Re_number_53 rfl (lv_at hl 2 rfl) ?_
  refine lv_icmp_le (tgt := 67) hx hb d_Re_number_54 (by decide) (fun _ => ?_) (fun hq => absurd h2 hq)
  refine lv_aload_n hx hb d_Re_number_67 rfl (lv_at hl 0 rfl) ?_
  refine lv_dup hx hb d_Re_number_68 rfl ?_
  refine r_get C K S 0 rfl rfl clOk_Re 3 (by decide) wf_Re_26 (v := .int (nI nx)) rfl d_Re_number_69 ?_
  refine lv_iconst (v := 1) hx hb d_Re_number_72 (by decide) ?_
  refine z_iadd (x := nI nx) (y := 1) (v := nI (nx + 1)) hx hb d_Re_number_73 (nI_add nx 1) ?_
  refine r_put C K S 0 rfl rfl clOk_Re 3 (by decide) wf_Re_26 rfl (ty := .int) (v := .int (nI (nx + 1))) (by decide +kernel) rfl rfl (Nat.le_of_ble_eq_true rfl) (fs' := [.ref ra, .ref bc, .int (nI nf), .int (nI (nx + 1)), .int (-2)]) (ws' := [(h0, .inr (5, [.ref ra, .ref bc, .int (nI nf), .int (nI (nx + 1)), .int (-2)])), (bc, .inr (4, [.ref bw, .ref bst, .ref bfi, .ref bse, .ref bkn, .ref bnm, .int (nI tk9), .int (nI sz9), .int (nI nd9)])), (bw, .inl (k 0, 200, .inl wd))]) rfl rfl d_Re_number_74 (fun H locs S => ?_)
  refine lv_aload_n hx hb d_Re_number_77 rfl (lv_at hl 0 rfl) ?_
  refine r_get C K S 0 rfl rfl clOk_Re 1 (by decide) wf_Re_19 (v := .ref bc) rfl d_Re_number_78 ?_
  refine r_getN C K S 1 rfl rfl clOk_Bo 0 (by decide) xf_Re_74 (v := .ref bw) rfl d_Re_number_81 ?_
  refine lv_aload_n hx hb d_Re_number_84 rfl (lv_at hl 0 rfl) ?_
  refine r_get C K S 0 rfl rfl clOk_Re 3 (by decide) wf_Re_26 (v := .int (nI (nx + 1))) rfl d_Re_number_85 ?_
  refine lv_iconst (v := 1) hx hb d_Re_number_88 (by decide) ?_
  refine z_isub (x := nI (nx + 1)) (y := 1) (v := nI (nx + 1 - 1)) hx hb d_Re_number_89 (pk_sub (a := (nx + 1)) (b := 1) (by omega)) ?_
  refine r_iald C K S 2 rfl (i := nI (nx + 1 - 1)) (show vp_in (nI (nx + 1 - 1)) _ from vp_in_nI (n := (nx + 1 - 1)) (by omega) (by decide)) (v := wd (nx + 1 - 1)) (by rw [nI_clamp (by omega)]) d_Re_number_90 ?_
  rw [show nx + 1 - 1 = nx from rfl]
  exact r_iret C K rfl () ⟨rfl, trivial⟩ (S.sub [0, 1, 2] (by decide) rfl) d_Re_number_91 (Nat.le_of_ble_eq_true rfl) (Nat.le_of_ble_eq_true rfl)
end
section
theorem le_m1 {x : Int32} {kn : Nat} (h : kn < 2147483648) : x ≤ nI kn - 1 ↔ x < nI kn := by
  have e1 : (nI kn).toInt = kn := Int32.toInt_ofNat_of_lt (by omega)
  have e2 : (nI kn - 1).toInt = (kn : Int) - 1 := by
    rw [Int32.toInt_sub, e1, show (1 : Int32).toInt = 1 by decide]
    exact Int.bmod_eq_of_le (by omega) (by omega)
  rw [Int32.le_iff_toInt_le, Int32.lt_iff_toInt_lt, e1, e2]
  omega
theorem nn_nlt {n : Nat} (h : n < 2147483648) : ¬ nI n < 0 := by
  rw [Int32.lt_iff_toInt_lt, show (nI n).toInt = n from Int32.toInt_ofNat_of_lt (by omega), show (0 : Int32).toInt = 0 by decide]
  omega
theorem nI_lt_iff {a b : Nat} (ha : a < 2147483648) (hb : b < 2147483648) : nI a < nI b ↔ a < b := by
  rw [Int32.lt_iff_toInt_lt, show (nI a).toInt = a from Int32.toInt_ofNat_of_lt (by omega), show (nI b).toInt = b from Int32.toInt_ofNat_of_lt (by omega)]
  omega
theorem d_Re_variable_0 : decode c_Re_variable 0 = .ok (.aload_n 0, 1) := by decide +kernel
theorem d_Re_variable_1 : decode c_Re_variable 1 = .ok (.iconst 0, 1) := by decide +kernel
theorem d_Re_variable_2 : decode c_Re_variable 2 = .ok (.aload_n 0, 1) := by decide +kernel
theorem d_Re_variable_3 : decode c_Re_variable 3 = .ok (.getfield 19, 3) := by decide +kernel
theorem d_Re_variable_6 : decode c_Re_variable 6 = .ok (.getfield 61, 3) := by decide +kernel
theorem d_Re_variable_9 : decode c_Re_variable 9 = .ok (.iload_n 1, 1) := by decide +kernel
theorem d_Re_variable_10 : decode c_Re_variable 10 = .ok (.iaload, 1) := by decide +kernel
theorem d_Re_variable_11 : decode c_Re_variable 11 = .ok (.iconst 1, 1) := by decide +kernel
theorem d_Re_variable_12 : decode c_Re_variable 12 = .ok (.isub, 1) := by decide +kernel
theorem d_Re_variable_13 : decode c_Re_variable 13 = .ok (.invokevirtual 44, 3) := by decide +kernel
theorem d_Re_variable_16 : decode c_Re_variable 16 = .ok (.istore_n 2, 1) := by decide +kernel
theorem d_Re_variable_17 : decode c_Re_variable 17 = .ok (.aload_n 0, 1) := by decide +kernel
theorem d_Re_variable_18 : decode c_Re_variable 18 = .ok (.getfield 19, 3) := by decide +kernel
theorem d_Re_variable_21 : decode c_Re_variable 21 = .ok (.getfield 68, 3) := by decide +kernel
theorem d_Re_variable_24 : decode c_Re_variable 24 = .ok (.iload_n 1, 1) := by decide +kernel
theorem d_Re_variable_25 : decode c_Re_variable 25 = .ok (.dup2, 1) := by decide +kernel
theorem d_Re_variable_26 : decode c_Re_variable 26 = .ok (.iaload, 1) := by decide +kernel
theorem d_Re_variable_27 : decode c_Re_variable 27 = .ok (.iconst 1, 1) := by decide +kernel
theorem d_Re_variable_28 : decode c_Re_variable 28 = .ok (.iload_n 2, 1) := by decide +kernel
theorem d_Re_variable_29 : decode c_Re_variable 29 = .ok (.ishl, 1) := by decide +kernel
theorem d_Re_variable_30 : decode c_Re_variable 30 = .ok (.ior, 1) := by decide +kernel
theorem d_Re_variable_31 : decode c_Re_variable 31 = .ok (.iastore, 1) := by decide +kernel
theorem d_Re_variable_32 : decode c_Re_variable 32 = .ok (.return_, 1) := by decide +kernel
set_option maxRecDepth 100000 in
set_option maxHeartbeats 16000000 in
/-- variable, a place is wrong -/
theorem g_Re_variable_w (l : Launch) (G : va_G) (k : Nat → ClassId) (h0 : Nat) (s0 : Nat) (wr9 : Int32) (x9 : Nat) (ra : Nat) (bc : Nat) (nf : Nat) (nx : Nat) (bw : Nat) (bst : Nat) (bfi : Nat) (bse : Nat) (bkn : Nat) (bnm : Nat) (tk9 : Nat) (sz9 : Nat) (nd9 : Nat) (wd : Nat → Int32) (kno : Nat → Nat) (nam : Nat → Nat) (hx9 : x9 < 40) (hwr : wr9 ≠ -2) : CV l y_Re_variable c_Re_variable 3 { frames := 1, cells := 0, slots := 0, locals := 22 } [.ref h0, .int (nI x9)] G k s0 [(h0, .inr (5, [.ref ra, .ref bc, .int (nI nf), .int (nI nx), .int wr9])), (bc, .inr (4, [.ref bw, .ref bst, .ref bfi, .ref bse, .ref bkn, .ref bnm, .int (nI tk9), .int (nI sz9), .int (nI nd9)])), (bw, .inl (k 0, 200, .inl wd)), (bkn, .inl (k 0, 40, .inl (fun i => nI (kno i)))), (bnm, .inl (k 0, 40, .inl (fun i => nI (nam i))))] (fun (u : Unit) => True) (fun u => [(h0, .inr (5, [.ref ra, .ref bc, .int (nI nf), .int (nI nx), .int wr9])), (bc, .inr (4, [.ref bw, .ref bst, .ref bfi, .ref bse, .ref bkn, .ref bnm, .int (nI tk9), .int (nI sz9), .int (nI nd9)])), (bw, .inl (k 0, 200, .inl wd)), (bkn, .inl (k 0, 40, .inl (fun i => nI (kno i)))), (bnm, .inl (k 0, 40, .inl (fun i => nI ((va_up nam x9 (nam x9 ||| 1)) i))))]) 0 0 := by
  refine met_start (by decide) (Nat.le_of_ble_eq_true rfl) ?_
  intro p e s m below meth c C K hA hsz S ls hl
  generalize va_A [(h0, .inr (5, [.ref ra, .ref bc, .int (nI nf), .int (nI nx), .int wr9])), (bc, .inr (4, [.ref bw, .ref bst, .ref bfi, .ref bse, .ref bkn, .ref bnm, .int (nI tk9), .int (nI sz9), .int (nI nd9)])), (bw, .inl (k 0, 200, .inl wd)), (bkn, .inl (k 0, 40, .inl (fun i => nI (kno i)))), (bnm, .inl (k 0, 40, .inl (fun i => nI (nam i))))] s0 = A at hA S ⊢
  have hx := C.1
  have hb := C.2.1
  have hl : lv_has ls 3 [(0, .ref h0), (1, .int (nI x9))] := hl
  refine lv_aload_n hx hb d_Re_variable_0 rfl (lv_at hl 0 rfl) ?_
  refine lv_iconst (v := 0) hx hb d_Re_variable_1 (by decide) ?_
  refine lv_aload_n hx hb d_Re_variable_2 rfl (lv_at hl 0 rfl) ?_
  refine r_get C K S 0 rfl rfl clOk_Re 1 (by decide) wf_Re_19 (v := .ref bc) rfl d_Re_variable_3 ?_
  refine r_getN C K S 1 rfl rfl clOk_Bo 4 (by decide) xf_Re_61 (v := .ref bkn) rfl d_Re_variable_6 ?_
  refine lv_iload_n hx hb d_Re_variable_9 rfl (lv_at hl 1 rfl) ?_
  refine r_iald C K S 3 rfl (i := nI x9) (show vp_in (nI x9) _ from vp_in_nI (n := x9) (by omega) (by decide)) (v := nI (kno x9)) (by rw [nI_clamp (by omega)]) d_Re_variable_10 ?_
  refine lv_iconst (v := 1) hx hb d_Re_variable_11 (by decide) ?_
  refine lv_isub hx hb d_Re_variable_12 ?_
  refine r_backi (wi := [(h0, .inr (5, [.ref ra, .ref bc, .int (nI nf), .int (nI nx), .int wr9])), (bc, .inr (4, [.ref bw, .ref bst, .ref bfi, .ref bse, .ref bkn, .ref bnm, .int (nI tk9), .int (nI sz9), .int (nI nd9)])), (bw, .inl (k 0, 200, .inl wd))]) (wr := [(bkn, .inl (k 0, 40, .inl (fun i => nI (kno i)))), (bnm, .inl (k 0, 40, .inl (fun i => nI (nam i))))]) S hA [0, 1, 2] [3, 4] rfl rfl (by decide) (by decide) (va_runV (As := [.int 0, .int ((nI (kno x9)) - 1)]) (rest := []) ⟨hx, hb, C.2.2.1, C.2.2.2.1, C.2.2.2.2.1⟩ (g_Re_number_w l G k h0 _ 0 ((nI (kno x9)) - 1) wr9 ra bc nf nx bw bst bfi bse bkn bnm tk9 sz9 nd9 wd hwr) (k_virt (n := 2) C wc_Re_number rfl rfl wz_Re wm_Re_44 wn_Re_number ws_Re_number (by decide +kernel) ⟨(Nat.le_of_ble_eq_true rfl), (Nat.le_of_ble_eq_true rfl)⟩) (pr_nowV K S [0, 1, 2] (by decide) rfl 0 rfl rfl) rfl rfl hl.1 rfl (lv_room (Nat.le_of_ble_eq_true rfl)) d_Re_variable_13 ⟨(Nat.le_of_ble_eq_true rfl), (Nat.le_of_ble_eq_true rfl)⟩) (fun r3 u1 H locs hw2 S => ?_)
  have S : Sw G A s.heap _ _ [(bkn, .inl (k 0, 40, .inl (fun i => nI (kno i)))), (bnm, .inl (k 0, 40, .inl (fun i => nI (nam i)))), (h0, .inr (5, [.ref ra, .ref bc, .int (nI nf), .int (nI nx), .int wr9])), (bc, .inr (4, [.ref bw, .ref bst, .ref bfi, .ref bse, .ref bkn, .ref bnm, .int (nI tk9), .int (nI sz9), .int (nI nd9)])), (bw, .inl (k 0, 200, .inl wd))] := S
  obtain ⟨hw20, hp4⟩ := hw2
  obtain rfl : r3 = 0 := hw20
  refine lv_istore_n (lv' := [(2, .int 0), (0, .ref h0), (1, .int (nI x9))]) hx hb d_Re_variable_16 rfl hl (by decide) rfl (fun ls hl => ?_)
  refine lv_aload_n hx hb d_Re_variable_17 rfl (lv_at hl 1 rfl) ?_
  refine r_get C K S 2 rfl rfl clOk_Re 1 (by decide) wf_Re_19 (v := .ref bc) rfl d_Re_variable_18 ?_
  refine r_getN C K S 3 rfl rfl clOk_Bo 5 (by decide) xf_Re_68 (v := .ref bnm) rfl d_Re_variable_21 ?_
  refine lv_iload_n hx hb d_Re_variable_24 rfl (lv_at hl 2 rfl) ?_
  refine lv_dup2_11 hx hb d_Re_variable_25 rfl rfl ?_
  refine r_iald C K S 1 rfl (i := nI x9) (show vp_in (nI x9) _ from vp_in_nI (n := x9) (by omega) (by decide)) (v := nI (nam x9)) (by rw [nI_clamp (by omega)]) d_Re_variable_26 ?_
  refine lv_iconst (v := 1) hx hb d_Re_variable_27 (by decide) ?_
  refine lv_iload_n hx hb d_Re_variable_28 rfl (lv_at hl 0 rfl) ?_
  refine z_ishl (v := 1) hx hb d_Re_variable_29 (by decide) ?_
  refine z_ior (v := nI (nam x9 ||| 1)) hx hb d_Re_variable_30 (nx_or _ 1) ?_
  refine r_iast C K S 1 rfl (i := nI x9) (x := nI (nam x9 ||| 1)) (show vp_in (nI x9) _ from vp_in_nI (n := x9) (by omega) (by decide)) (f' := fun i => nI (va_up nam x9 (nam x9 ||| 1) i)) (ws' := [(bkn, .inl (k 0, 40, .inl (fun i => nI (kno i)))), (bnm, .inl (k 0, 40, .inl (fun i => nI (va_up nam x9 (nam x9 ||| 1) i)))), (h0, .inr (5, [.ref ra, .ref bc, .int (nI nf), .int (nI nx), .int wr9])), (bc, .inr (4, [.ref bw, .ref bst, .ref bfi, .ref bse, .ref bkn, .ref bnm, .int (nI tk9), .int (nI sz9), .int (nI nd9)])), (bw, .inl (k 0, 200, .inl wd))]) (show upd _ (nI x9 : Int32).toNatClampNeg (nI (nam x9 ||| 1)) = _ from upd_nI nam (j := x9) (by omega) (nam x9 ||| 1)) rfl d_Re_variable_31 (fun H locs S => ?_)
  exact r_vret C K () trivial (S.sub [2, 3, 4, 0, 1] (by decide) rfl) d_Re_variable_32 (Nat.le_of_ble_eq_true rfl) (Nat.le_of_ble_eq_true rfl)
set_option maxRecDepth 100000 in
set_option maxHeartbeats 16000000 in
/-- variable, what stands here is wrong -/
theorem g_Re_variable_b (l : Launch) (G : va_G) (k : Nat → ClassId) (h0 : Nat) (s0 : Nat) (x9 : Nat) (ra : Nat) (bc : Nat) (nf : Nat) (nx : Nat) (bw : Nat) (bst : Nat) (bfi : Nat) (bse : Nat) (bkn : Nat) (bnm : Nat) (tk9 : Nat) (sz9 : Nat) (nd9 : Nat) (wd : Nat → Int32) (kno : Nat → Nat) (nam : Nat → Nat) (hx9 : x9 < 40) (hnx : nx ≤ sz9) (hsz : sz9 ≤ 200) (hkn : kno x9 ≤ 1000) (hbad : nx = sz9 ∨ wd nx < 0 ∨ ¬ wd nx < nI (kno x9)) : CV l y_Re_variable c_Re_variable 3 { frames := 1, cells := 0, slots := 0, locals := 22 } [.ref h0, .int (nI x9)] G k s0 [(h0, .inr (5, [.ref ra, .ref bc, .int (nI nf), .int (nI nx), .int (-2)])), (bc, .inr (4, [.ref bw, .ref bst, .ref bfi, .ref bse, .ref bkn, .ref bnm, .int (nI tk9), .int (nI sz9), .int (nI nd9)])), (bw, .inl (k 0, 200, .inl wd)), (bkn, .inl (k 0, 40, .inl (fun i => nI (kno i)))), (bnm, .inl (k 0, 40, .inl (fun i => nI (nam i))))] (fun (u : Unit) => True) (fun u => [(h0, .inr (5, [.ref ra, .ref bc, .int (nI nf), .int (nI nx), .int (nI nx)])), (bc, .inr (4, [.ref bw, .ref bst, .ref bfi, .ref bse, .ref bkn, .ref bnm, .int (nI tk9), .int (nI sz9), .int (nI nd9)])), (bw, .inl (k 0, 200, .inl wd)), (bkn, .inl (k 0, 40, .inl (fun i => nI (kno i)))), (bnm, .inl (k 0, 40, .inl (fun i => nI ((va_up nam x9 (nam x9 ||| 1)) i))))]) 0 0 := by
  refine met_start (by decide) (Nat.le_of_ble_eq_true rfl) ?_
  intro p e s m below meth c C K hA hsz S ls hl
  generalize va_A [(h0, .inr (5, [.ref ra, .ref bc, .int (nI nf), .int (nI nx), .int (-2)])), (bc, .inr (4, [.ref bw, .ref bst, .ref bfi, .ref bse, .ref bkn, .ref bnm, .int (nI tk9), .int (nI sz9), .int (nI nd9)])), (bw, .inl (k 0, 200, .inl wd)), (bkn, .inl (k 0, 40, .inl (fun i => nI (kno i)))), (bnm, .inl (k 0, 40, .inl (fun i => nI (nam i))))] s0 = A at hA S ⊢
  have hx := C.1
  have hb := C.2.1
  have hl : lv_has ls 3 [(0, .ref h0), (1, .int (nI x9))] := hl
  refine lv_aload_n hx hb d_Re_variable_0 rfl (lv_at hl 0 rfl) ?_
  refine lv_iconst (v := 0) hx hb d_Re_variable_1 (by decide) ?_
  refine lv_aload_n hx hb d_Re_variable_2 rfl (lv_at hl 0 rfl) ?_
  refine r_get C K S 0 rfl rfl clOk_Re 1 (by decide) wf_Re_19 (v := .ref bc) rfl d_Re_variable_3 ?_
  refine r_getN C K S 1 rfl rfl clOk_Bo 4 (by decide) xf_Re_61 (v := .ref bkn) rfl d_Re_variable_6 ?_
  refine lv_iload_n hx hb d_Re_variable_9 rfl (lv_at hl 1 rfl) ?_
  refine r_iald C K S 3 rfl (i := nI x9) (show vp_in (nI x9) _ from vp_in_nI (n := x9) (by omega) (by decide)) (v := nI (kno x9)) (by rw [nI_clamp (by omega)]) d_Re_variable_10 ?_
  refine lv_iconst (v := 1) hx hb d_Re_variable_11 (by decide) ?_
  refine lv_isub hx hb d_Re_variable_12 ?_
  refine r_backi (wi := [(h0, .inr (5, [.ref ra, .ref bc, .int (nI nf), .int (nI nx), .int (-2)])), (bc, .inr (4, [.ref bw, .ref bst, .ref bfi, .ref bse, .ref bkn, .ref bnm, .int (nI tk9), .int (nI sz9), .int (nI nd9)])), (bw, .inl (k 0, 200, .inl wd))]) (wr := [(bkn, .inl (k 0, 40, .inl (fun i => nI (kno i)))), (bnm, .inl (k 0, 40, .inl (fun i => nI (nam i))))]) S hA [0, 1, 2] [3, 4] rfl rfl (by decide) (by decide) (va_runV (As := [.int 0, .int ((nI (kno x9)) - 1)]) (rest := []) ⟨hx, hb, C.2.2.1, C.2.2.2.1, C.2.2.2.2.1⟩ (g_Re_number_b l G k h0 _ 0 ((nI (kno x9)) - 1) ra bc nf nx bw bst bfi bse bkn bnm tk9 sz9 nd9 wd hnx (by omega) (hbad.elim Or.inl (fun q => Or.inr (q.elim Or.inl (fun w => Or.inr (Int32.not_le.mp (fun y => w ((le_m1 (by omega)).mp y)))))))) (k_virt (n := 2) C wc_Re_number rfl rfl wz_Re wm_Re_44 wn_Re_number ws_Re_number (by decide +kernel) ⟨(Nat.le_of_ble_eq_true rfl), (Nat.le_of_ble_eq_true rfl)⟩) (pr_nowV K S [0, 1, 2] (by decide) rfl 0 rfl rfl) rfl rfl hl.1 rfl (lv_room (Nat.le_of_ble_eq_true rfl)) d_Re_variable_13 ⟨(Nat.le_of_ble_eq_true rfl), (Nat.le_of_ble_eq_true rfl)⟩) (fun r3 u1 H locs hw2 S => ?_)
  have S : Sw G A s.heap _ _ [(bkn, .inl (k 0, 40, .inl (fun i => nI (kno i)))), (bnm, .inl (k 0, 40, .inl (fun i => nI (nam i)))), (h0, .inr (5, [.ref ra, .ref bc, .int (nI nf), .int (nI nx), .int (nI nx)])), (bc, .inr (4, [.ref bw, .ref bst, .ref bfi, .ref bse, .ref bkn, .ref bnm, .int (nI tk9), .int (nI sz9), .int (nI nd9)])), (bw, .inl (k 0, 200, .inl wd))] := S
  obtain ⟨hw20, hp4⟩ := hw2
  obtain rfl : r3 = 0 := hw20
  refine lv_istore_n (lv' := [(2, .int 0), (0, .ref h0), (1, .int (nI x9))]) hx hb d_Re_variable_16 rfl hl (by decide) rfl (fun ls hl => ?_)
  refine lv_aload_n hx hb d_Re_variable_17 rfl (lv_at hl 1 rfl) ?_
  refine r_get C K S 2 rfl rfl clOk_Re 1 (by decide) wf_Re_19 (v := .ref bc) rfl d_Re_variable_18 ?_
  refine r_getN C K S 3 rfl rfl clOk_Bo 5 (by decide) xf_Re_68 (v := .ref bnm) rfl d_Re_variable_21 ?_
  refine lv_iload_n hx hb d_Re_variable_24 rfl (lv_at hl 2 rfl) ?_
  refine lv_dup2_11 hx hb d_Re_variable_25 rfl rfl ?_
  refine r_iald C K S 1 rfl (i := nI x9) (show vp_in (nI x9) _ from vp_in_nI (n := x9) (by omega) (by decide)) (v := nI (nam x9)) (by rw [nI_clamp (by omega)]) d_Re_variable_26 ?_
  refine lv_iconst (v := 1) hx hb d_Re_variable_27 (by decide) ?_
  refine lv_iload_n hx hb d_Re_variable_28 rfl (lv_at hl 0 rfl) ?_
  refine z_ishl (v := 1) hx hb d_Re_variable_29 (by decide) ?_
  refine z_ior (v := nI (nam x9 ||| 1)) hx hb d_Re_variable_30 (nx_or _ 1) ?_
  refine r_iast C K S 1 rfl (i := nI x9) (x := nI (nam x9 ||| 1)) (show vp_in (nI x9) _ from vp_in_nI (n := x9) (by omega) (by decide)) (f' := fun i => nI (va_up nam x9 (nam x9 ||| 1) i)) (ws' := [(bkn, .inl (k 0, 40, .inl (fun i => nI (kno i)))), (bnm, .inl (k 0, 40, .inl (fun i => nI (va_up nam x9 (nam x9 ||| 1) i)))), (h0, .inr (5, [.ref ra, .ref bc, .int (nI nf), .int (nI nx), .int (nI nx)])), (bc, .inr (4, [.ref bw, .ref bst, .ref bfi, .ref bse, .ref bkn, .ref bnm, .int (nI tk9), .int (nI sz9), .int (nI nd9)])), (bw, .inl (k 0, 200, .inl wd))]) (show upd _ (nI x9 : Int32).toNatClampNeg (nI (nam x9 ||| 1)) = _ from upd_nI nam (j := x9) (by omega) (nam x9 ||| 1)) rfl d_Re_variable_31 (fun H locs S => ?_)
  exact r_vret C K () trivial (S.sub [2, 3, 4, 0, 1] (by decide) rfl) d_Re_variable_32 (Nat.le_of_ble_eq_true rfl) (Nat.le_of_ble_eq_true rfl)
set_option maxRecDepth 100000 in
set_option maxHeartbeats 16000000 in
/-- variable, a known one -/
theorem g_Re_variable_g (l : Launch) (G : va_G) (k : Nat → ClassId) (h0 : Nat) (s0 : Nat) (v9 : Nat) (x9 : Nat) (ra : Nat) (bc : Nat) (nf : Nat) (nx : Nat) (bw : Nat) (bst : Nat) (bfi : Nat) (bse : Nat) (bkn : Nat) (bnm : Nat) (tk9 : Nat) (sz9 : Nat) (nd9 : Nat) (wd : Nat → Int32) (kno : Nat → Nat) (nam : Nat → Nat) (hx9 : x9 < 40) (hnx : nx < sz9) (hsz : sz9 ≤ 200) (hkn : kno x9 ≤ 19) (hv : wd nx = nI v9) (hv2 : v9 < kno x9) : CV l y_Re_variable c_Re_variable 3 { frames := 1, cells := 0, slots := 0, locals := 22 } [.ref h0, .int (nI x9)] G k s0 [(h0, .inr (5, [.ref ra, .ref bc, .int (nI nf), .int (nI nx), .int (-2)])), (bc, .inr (4, [.ref bw, .ref bst, .ref bfi, .ref bse, .ref bkn, .ref bnm, .int (nI tk9), .int (nI sz9), .int (nI nd9)])), (bw, .inl (k 0, 200, .inl wd)), (bkn, .inl (k 0, 40, .inl (fun i => nI (kno i)))), (bnm, .inl (k 0, 40, .inl (fun i => nI (nam i))))] (fun (u : Unit) => True) (fun u => [(h0, .inr (5, [.ref ra, .ref bc, .int (nI nf), .int (nI (nx + 1)), .int (-2)])), (bc, .inr (4, [.ref bw, .ref bst, .ref bfi, .ref bse, .ref bkn, .ref bnm, .int (nI tk9), .int (nI sz9), .int (nI nd9)])), (bw, .inl (k 0, 200, .inl wd)), (bkn, .inl (k 0, 40, .inl (fun i => nI (kno i)))), (bnm, .inl (k 0, 40, .inl (fun i => nI ((va_up nam x9 (nam x9 ||| (1 * 2 ^ v9))) i))))]) 0 0 := by
  refine met_start (by decide) (Nat.le_of_ble_eq_true rfl) ?_
  intro p e s m below meth c C K hA hsz S ls hl
  generalize va_A [(h0, .inr (5, [.ref ra, .ref bc, .int (nI nf), .int (nI nx), .int (-2)])), (bc, .inr (4, [.ref bw, .ref bst, .ref bfi, .ref bse, .ref bkn, .ref bnm, .int (nI tk9), .int (nI sz9), .int (nI nd9)])), (bw, .inl (k 0, 200, .inl wd)), (bkn, .inl (k 0, 40, .inl (fun i => nI (kno i)))), (bnm, .inl (k 0, 40, .inl (fun i => nI (nam i))))] s0 = A at hA S ⊢
  have hx := C.1
  have hb := C.2.1
  have hl : lv_has ls 3 [(0, .ref h0), (1, .int (nI x9))] := hl
  refine lv_aload_n hx hb d_Re_variable_0 rfl (lv_at hl 0 rfl) ?_
  refine lv_iconst (v := 0) hx hb d_Re_variable_1 (by decide) ?_
  refine lv_aload_n hx hb d_Re_variable_2 rfl (lv_at hl 0 rfl) ?_
  refine r_get C K S 0 rfl rfl clOk_Re 1 (by decide) wf_Re_19 (v := .ref bc) rfl d_Re_variable_3 ?_
  refine r_getN C K S 1 rfl rfl clOk_Bo 4 (by decide) xf_Re_61 (v := .ref bkn) rfl d_Re_variable_6 ?_
  refine lv_iload_n hx hb d_Re_variable_9 rfl (lv_at hl 1 rfl) ?_
  refine r_iald C K S 3 rfl (i := nI x9) (show vp_in (nI x9) _ from vp_in_nI (n := x9) (by omega) (by decide)) (v := nI (kno x9)) (by rw [nI_clamp (by omega)]) d_Re_variable_10 ?_
  refine lv_iconst (v := 1) hx hb d_Re_variable_11 (by decide) ?_
  refine lv_isub hx hb d_Re_variable_12 ?_
  refine r_backi (wi := [(h0, .inr (5, [.ref ra, .ref bc, .int (nI nf), .int (nI nx), .int (-2)])), (bc, .inr (4, [.ref bw, .ref bst, .ref bfi, .ref bse, .ref bkn, .ref bnm, .int (nI tk9), .int (nI sz9), .int (nI nd9)])), (bw, .inl (k 0, 200, .inl wd))]) (wr := [(bkn, .inl (k 0, 40, .inl (fun i => nI (kno i)))), (bnm, .inl (k 0, 40, .inl (fun i => nI (nam i))))]) S hA [0, 1, 2] [3, 4] rfl rfl (by decide) (by decide) (va_runV (As := [.int 0, .int ((nI (kno x9)) - 1)]) (rest := []) ⟨hx, hb, C.2.2.1, C.2.2.2.1, C.2.2.2.2.1⟩ (g_Re_number_g l G k h0 _ 0 ((nI (kno x9)) - 1) ra bc nf nx bw bst bfi bse bkn bnm tk9 sz9 nd9 wd hnx (by omega) (by rw [hv]; exact nn_nlt (by omega)) ((le_m1 (by omega)).mpr (by rw [hv]; exact (nI_lt_iff (by omega) (by omega)).mpr hv2))) (k_virt (n := 2) C wc_Re_number rfl rfl wz_Re wm_Re_44 wn_Re_number ws_Re_number (by decide +kernel) ⟨(Nat.le_of_ble_eq_true rfl), (Nat.le_of_ble_eq_true rfl)⟩) (pr_nowV K S [0, 1, 2] (by decide) rfl 0 rfl rfl) rfl rfl hl.1 rfl (lv_room (Nat.le_of_ble_eq_true rfl)) d_Re_variable_13 ⟨(Nat.le_of_ble_eq_true rfl), (Nat.le_of_ble_eq_true rfl)⟩) (fun r3 u1 H locs hw2 S => ?_)
  have S : Sw G A s.heap _ _ [(bkn, .inl (k 0, 40, .inl (fun i => nI (kno i)))), (bnm, .inl (k 0, 40, .inl (fun i => nI (nam i)))), (h0, .inr (5, [.ref ra, .ref bc, .int (nI nf), .int (nI (nx + 1)), .int (-2)])), (bc, .inr (4, [.ref bw, .ref bst, .ref bfi, .ref bse, .ref bkn, .ref bnm, .int (nI tk9), .int (nI sz9), .int (nI nd9)])), (bw, .inl (k 0, 200, .inl wd))] := S
  obtain ⟨hw20, hp4⟩ := hw2
  obtain rfl : r3 = wd nx := hw20
  rw [hv]
  refine lv_istore_n (lv' := [(2, .int (nI v9)), (0, .ref h0), (1, .int (nI x9))]) hx hb d_Re_variable_16 rfl hl (by decide) rfl (fun ls hl => ?_)
  refine lv_aload_n hx hb d_Re_variable_17 rfl (lv_at hl 1 rfl) ?_
  refine r_get C K S 2 rfl rfl clOk_Re 1 (by decide) wf_Re_19 (v := .ref bc) rfl d_Re_variable_18 ?_
  refine r_getN C K S 3 rfl rfl clOk_Bo 5 (by decide) xf_Re_68 (v := .ref bnm) rfl d_Re_variable_21 ?_
  refine lv_iload_n hx hb d_Re_variable_24 rfl (lv_at hl 2 rfl) ?_
  refine lv_dup2_11 hx hb d_Re_variable_25 rfl rfl ?_
  refine r_iald C K S 1 rfl (i := nI x9) (show vp_in (nI x9) _ from vp_in_nI (n := x9) (by omega) (by decide)) (v := nI (nam x9)) (by rw [nI_clamp (by omega)]) d_Re_variable_26 ?_
  refine lv_iconst (v := 1) hx hb d_Re_variable_27 (by decide) ?_
  refine lv_iload_n hx hb d_Re_variable_28 rfl (lv_at hl 0 rfl) ?_
  refine z_ishl (v := nI (1 * 2 ^ v9)) hx hb d_Re_variable_29 (show (1 : Int32) <<< (nI v9 &&& 31) = nI (1 * 2 ^ v9) from pk_shlN (n := 1) _ v9 (s_l9 v9 (by omega)) (by have : 2 ^ v9 ≤ 2 ^ 20 := Nat.pow_le_pow_right (by decide) (by omega); omega)) ?_
  refine z_ior (v := nI (nam x9 ||| (1 * 2 ^ v9))) hx hb d_Re_variable_30 (nx_or _ _) ?_
  refine r_iast C K S 1 rfl (i := nI x9) (x := nI (nam x9 ||| (1 * 2 ^ v9))) (show vp_in (nI x9) _ from vp_in_nI (n := x9) (by omega) (by decide)) (f' := fun i => nI (va_up nam x9 (nam x9 ||| (1 * 2 ^ v9)) i)) (ws' := [(bkn, .inl (k 0, 40, .inl (fun i => nI (kno i)))), (bnm, .inl (k 0, 40, .inl (fun i => nI (va_up nam x9 (nam x9 ||| (1 * 2 ^ v9)) i)))), (h0, .inr (5, [.ref ra, .ref bc, .int (nI nf), .int (nI (nx + 1)), .int (-2)])), (bc, .inr (4, [.ref bw, .ref bst, .ref bfi, .ref bse, .ref bkn, .ref bnm, .int (nI tk9), .int (nI sz9), .int (nI nd9)])), (bw, .inl (k 0, 200, .inl wd))]) (show upd _ (nI x9 : Int32).toNatClampNeg (nI (nam x9 ||| (1 * 2 ^ v9))) = _ from upd_nI nam (j := x9) (by omega) (nam x9 ||| (1 * 2 ^ v9))) rfl d_Re_variable_31 (fun H locs S => ?_)
  exact r_vret C K () trivial (S.sub [2, 3, 4, 0, 1] (by decide) rfl) d_Re_variable_32 (Nat.le_of_ble_eq_true rfl) (Nat.le_of_ble_eq_true rfl)
end
section
theorem d_PB_place_0 : decode c_PB_place 0 = .ok (.aload_n 0, 1) := by decide +kernel
theorem d_PB_place_1 : decode c_PB_place 1 = .ok (.getfield 29, 3) := by decide +kernel
theorem d_PB_place_4 : decode c_PB_place 4 = .ok (.ireturn, 1) := by decide +kernel
set_option maxRecDepth 100000 in
set_option maxHeartbeats 16000000 in
/-- PB_place -/
theorem g_PB_place (l : Launch) (G : va_G) (k : Nat → ClassId) (h0 : Nat) (s0 : Nat) (ca : Nat) (cr : Nat) (cu : Nat) (cne : Nat) (cs : Nat) (cb : Nat) (nf : Nat) (it : Nat) (wp : Int32) : CI l y_PB_place c_PB_place 1 .int { frames := 0, cells := 0, slots := 0, locals := 0 } [.ref h0] G k s0 [(h0, .inr (0, [.ref ca, .ref cr, .ref cu, .ref cne, .ref cs, .ref cb, .int (nI nf), .int wp, .int (nI it)]))] (fun (r : Int32) (u : Unit) => r = wp ∧ True) (fun u => [(h0, .inr (0, [.ref ca, .ref cr, .ref cu, .ref cne, .ref cs, .ref cb, .int (nI nf), .int wp, .int (nI it)]))]) 0 0 := by
  refine met_start (by decide) (Nat.le_of_ble_eq_true rfl) ?_
  intro p e s m below meth c C K hA hsz S ls hl
  generalize va_A [(h0, .inr (0, [.ref ca, .ref cr, .ref cu, .ref cne, .ref cs, .ref cb, .int (nI nf), .int wp, .int (nI it)]))] s0 = A at hA S ⊢
  have hx := C.1
  have hb := C.2.1
  have hl : lv_has ls 1 [(0, .ref h0)] := hl
  refine lv_aload_n hx hb d_PB_place_0 rfl (lv_at hl 0 rfl) ?_
  refine r_get C K S 0 rfl rfl clOk_PB 7 (by decide) wf_PB_29 (v := .int wp) rfl d_PB_place_1 ?_
  exact r_iret C K rfl () ⟨rfl, trivial⟩ (S.sub [0] (by decide) rfl) d_PB_place_4 (Nat.le_of_ble_eq_true rfl) (Nat.le_of_ble_eq_true rfl)
theorem d_PB_cost_0 : decode c_PB_cost 0 = .ok (.aload_n 0, 1) := by decide +kernel
theorem d_PB_cost_1 : decode c_PB_cost 1 = .ok (.getfield 46, 3) := by decide +kernel
theorem d_PB_cost_4 : decode c_PB_cost 4 = .ok (.getfield 93, 3) := by decide +kernel
theorem d_PB_cost_7 : decode c_PB_cost 7 = .ok (.lreturn, 1) := by decide +kernel
set_option maxRecDepth 100000 in
set_option maxHeartbeats 16000000 in
/-- PB_cost -/
theorem g_PB_cost (l : Launch) (G : va_G) (k : Nat → ClassId) (h0 : Nat) (s0 : Nat) (ca : Nat) (cr : Nat) (cu : Nat) (cne : Nat) (cs : Nat) (cb : Nat) (nf : Nat) (it : Nat) (wp : Int32) (ru0 : Nat) (ru1 : Nat) (ru2 : Nat) (ru3 : Nat) (ru4 : Nat) (rc5 : Int32) (rc6 : Int32) (rc7 : Int32) (rc8 : Int32) (rc9 : Int32) (rpd : Int64) (rgv : Int32) : CL l y_PB_cost c_PB_cost 1 { frames := 0, cells := 0, slots := 0, locals := 0 } [.ref h0] G k s0 [(h0, .inr (0, [.ref ca, .ref cr, .ref cu, .ref cne, .ref cs, .ref cb, .int (nI nf), .int wp, .int (nI it)])), (cu, .inr (6, [.ref ru0, .ref ru1, .ref ru2, .ref ru3, .ref ru4, .int rc5, .int rc6, .int rc7, .int rc8, .int rc9, .long rpd, .int rgv]))] (fun (r : Int64) (u : Unit) => r = rpd ∧ True) (fun u => [(h0, .inr (0, [.ref ca, .ref cr, .ref cu, .ref cne, .ref cs, .ref cb, .int (nI nf), .int wp, .int (nI it)])), (cu, .inr (6, [.ref ru0, .ref ru1, .ref ru2, .ref ru3, .ref ru4, .int rc5, .int rc6, .int rc7, .int rc8, .int rc9, .long rpd, .int rgv]))]) 0 0 := by
  refine met_start (by decide) (Nat.le_of_ble_eq_true rfl) ?_
  intro p e s m below meth c C K hA hsz S ls hl
  generalize va_A [(h0, .inr (0, [.ref ca, .ref cr, .ref cu, .ref cne, .ref cs, .ref cb, .int (nI nf), .int wp, .int (nI it)])), (cu, .inr (6, [.ref ru0, .ref ru1, .ref ru2, .ref ru3, .ref ru4, .int rc5, .int rc6, .int rc7, .int rc8, .int rc9, .long rpd, .int rgv]))] s0 = A at hA S ⊢
  have hx := C.1
  have hb := C.2.1
  have hl : lv_has ls 1 [(0, .ref h0)] := hl
  refine lv_aload_n hx hb d_PB_cost_0 rfl (lv_at hl 0 rfl) ?_
  refine r_get C K S 0 rfl rfl clOk_PB 2 (by decide) wf_PB_46 (v := .ref cu) rfl d_PB_cost_1 ?_
  refine r_getN C K S 1 rfl rfl clOk_Ru 10 (by decide) xf_PB_93 (v := .long rpd) rfl d_PB_cost_4 ?_
  exact r_lret C K () ⟨rfl, trivial⟩ (S.sub [0, 1] (by decide) rfl) d_PB_cost_7 (Nat.le_of_ble_eq_true rfl) (Nat.le_of_ble_eq_true rfl)
theorem d_PB_given_0 : decode c_PB_given 0 = .ok (.aload_n 0, 1) := by decide +kernel
theorem d_PB_given_1 : decode c_PB_given 1 = .ok (.getfield 46, 3) := by decide +kernel
theorem d_PB_given_4 : decode c_PB_given 4 = .ok (.getfield 97, 3) := by decide +kernel
theorem d_PB_given_7 : decode c_PB_given 7 = .ok (.ireturn, 1) := by decide +kernel
set_option maxRecDepth 100000 in
set_option maxHeartbeats 16000000 in
/-- PB_given -/
theorem g_PB_given (l : Launch) (G : va_G) (k : Nat → ClassId) (h0 : Nat) (s0 : Nat) (ca : Nat) (cr : Nat) (cu : Nat) (cne : Nat) (cs : Nat) (cb : Nat) (nf : Nat) (it : Nat) (wp : Int32) (ru0 : Nat) (ru1 : Nat) (ru2 : Nat) (ru3 : Nat) (ru4 : Nat) (rc5 : Int32) (rc6 : Int32) (rc7 : Int32) (rc8 : Int32) (rc9 : Int32) (rpd : Int64) (rgv : Int32) : CI l y_PB_given c_PB_given 1 .int { frames := 0, cells := 0, slots := 0, locals := 0 } [.ref h0] G k s0 [(h0, .inr (0, [.ref ca, .ref cr, .ref cu, .ref cne, .ref cs, .ref cb, .int (nI nf), .int wp, .int (nI it)])), (cu, .inr (6, [.ref ru0, .ref ru1, .ref ru2, .ref ru3, .ref ru4, .int rc5, .int rc6, .int rc7, .int rc8, .int rc9, .long rpd, .int rgv]))] (fun (r : Int32) (u : Unit) => r = rgv ∧ True) (fun u => [(h0, .inr (0, [.ref ca, .ref cr, .ref cu, .ref cne, .ref cs, .ref cb, .int (nI nf), .int wp, .int (nI it)])), (cu, .inr (6, [.ref ru0, .ref ru1, .ref ru2, .ref ru3, .ref ru4, .int rc5, .int rc6, .int rc7, .int rc8, .int rc9, .long rpd, .int rgv]))]) 0 0 := by
  refine met_start (by decide) (Nat.le_of_ble_eq_true rfl) ?_
  intro p e s m below meth c C K hA hsz S ls hl
  generalize va_A [(h0, .inr (0, [.ref ca, .ref cr, .ref cu, .ref cne, .ref cs, .ref cb, .int (nI nf), .int wp, .int (nI it)])), (cu, .inr (6, [.ref ru0, .ref ru1, .ref ru2, .ref ru3, .ref ru4, .int rc5, .int rc6, .int rc7, .int rc8, .int rc9, .long rpd, .int rgv]))] s0 = A at hA S ⊢
  have hx := C.1
  have hb := C.2.1
  have hl : lv_has ls 1 [(0, .ref h0)] := hl
  refine lv_aload_n hx hb d_PB_given_0 rfl (lv_at hl 0 rfl) ?_
  refine r_get C K S 0 rfl rfl clOk_PB 2 (by decide) wf_PB_46 (v := .ref cu) rfl d_PB_given_1 ?_
  refine r_getN C K S 1 rfl rfl clOk_Ru 11 (by decide) xf_PB_97 (v := .int rgv) rfl d_PB_given_4 ?_
  exact r_iret C K rfl () ⟨rfl, trivial⟩ (S.sub [0, 1] (by decide) rfl) d_PB_given_7 (Nat.le_of_ble_eq_true rfl) (Nat.le_of_ble_eq_true rfl)
theorem d_PB_steps_0 : decode c_PB_steps 0 = .ok (.aload_n 0, 1) := by decide +kernel
theorem d_PB_steps_1 : decode c_PB_steps 1 = .ok (.getfield 46, 3) := by decide +kernel
theorem d_PB_steps_4 : decode c_PB_steps 4 = .ok (.getfield 100, 3) := by decide +kernel
theorem d_PB_steps_7 : decode c_PB_steps 7 = .ok (.ireturn, 1) := by decide +kernel
set_option maxRecDepth 100000 in
set_option maxHeartbeats 16000000 in
/-- PB_steps -/
theorem g_PB_steps (l : Launch) (G : va_G) (k : Nat → ClassId) (h0 : Nat) (s0 : Nat) (ca : Nat) (cr : Nat) (cu : Nat) (cne : Nat) (cs : Nat) (cb : Nat) (nf : Nat) (it : Nat) (wp : Int32) (ru0 : Nat) (ru1 : Nat) (ru2 : Nat) (ru3 : Nat) (ru4 : Nat) (rc5 : Int32) (rc6 : Int32) (rc7 : Int32) (rc8 : Int32) (rc9 : Int32) (rpd : Int64) (rgv : Int32) : CI l y_PB_steps c_PB_steps 1 .int { frames := 0, cells := 0, slots := 0, locals := 0 } [.ref h0] G k s0 [(h0, .inr (0, [.ref ca, .ref cr, .ref cu, .ref cne, .ref cs, .ref cb, .int (nI nf), .int wp, .int (nI it)])), (cu, .inr (6, [.ref ru0, .ref ru1, .ref ru2, .ref ru3, .ref ru4, .int rc5, .int rc6, .int rc7, .int rc8, .int rc9, .long rpd, .int rgv]))] (fun (r : Int32) (u : Unit) => r = rc9 ∧ True) (fun u => [(h0, .inr (0, [.ref ca, .ref cr, .ref cu, .ref cne, .ref cs, .ref cb, .int (nI nf), .int wp, .int (nI it)])), (cu, .inr (6, [.ref ru0, .ref ru1, .ref ru2, .ref ru3, .ref ru4, .int rc5, .int rc6, .int rc7, .int rc8, .int rc9, .long rpd, .int rgv]))]) 0 0 := by
  refine met_start (by decide) (Nat.le_of_ble_eq_true rfl) ?_
  intro p e s m below meth c C K hA hsz S ls hl
  generalize va_A [(h0, .inr (0, [.ref ca, .ref cr, .ref cu, .ref cne, .ref cs, .ref cb, .int (nI nf), .int wp, .int (nI it)])), (cu, .inr (6, [.ref ru0, .ref ru1, .ref ru2, .ref ru3, .ref ru4, .int rc5, .int rc6, .int rc7, .int rc8, .int rc9, .long rpd, .int rgv]))] s0 = A at hA S ⊢
  have hx := C.1
  have hb := C.2.1
  have hl : lv_has ls 1 [(0, .ref h0)] := hl
  refine lv_aload_n hx hb d_PB_steps_0 rfl (lv_at hl 0 rfl) ?_
  refine r_get C K S 0 rfl rfl clOk_PB 2 (by decide) wf_PB_46 (v := .ref cu) rfl d_PB_steps_1 ?_
  refine r_getN C K S 1 rfl rfl clOk_Ru 9 (by decide) xf_PB_100 (v := .int rc9) rfl d_PB_steps_4 ?_
  exact r_iret C K rfl () ⟨rfl, trivial⟩ (S.sub [0, 1] (by decide) rfl) d_PB_steps_7 (Nat.le_of_ble_eq_true rfl) (Nat.le_of_ble_eq_true rfl)
theorem isF_1 {n f : Int32} (h : ¬ f < 0) (h2 : ¬ n ≤ f) : 1 = isF n f := by
  unfold isF
  rw [if_neg h, if_neg h2]
theorem isF_0a {n f : Int32} (h : f < 0) : 0 = isF n f := by
  unfold isF
  rw [if_pos h]
theorem isF_0b {n f : Int32} (h : n ≤ f) : 0 = isF n f := by
  unfold isF
  by_cases q : f < 0
  · rw [if_pos q]
  · rw [if_neg q, if_pos h]
theorem d_PB_isFunction_0 : decode c_PB_isFunction 0 = .ok (.iload_n 1, 1) := by decide +kernel
theorem d_PB_isFunction_1 : decode c_PB_isFunction 1 = .ok (.ifCond .lt 15, 3) := by decide +kernel
theorem d_PB_isFunction_4 : decode c_PB_isFunction 4 = .ok (.iload_n 1, 1) := by decide +kernel
theorem d_PB_isFunction_5 : decode c_PB_isFunction 5 = .ok (.aload_n 0, 1) := by decide +kernel
theorem d_PB_isFunction_6 : decode c_PB_isFunction 6 = .ok (.getfield 57, 3) := by decide +kernel
theorem d_PB_isFunction_9 : decode c_PB_isFunction 9 = .ok (.if_icmp .ge 7, 3) := by decide +kernel
theorem d_PB_isFunction_12 : decode c_PB_isFunction 12 = .ok (.iconst 1, 1) := by decide +kernel
theorem d_PB_isFunction_13 : decode c_PB_isFunction 13 = .ok (.goto 4, 3) := by decide +kernel
theorem d_PB_isFunction_16 : decode c_PB_isFunction 16 = .ok (.iconst 0, 1) := by decide +kernel
theorem d_PB_isFunction_17 : decode c_PB_isFunction 17 = .ok (.ireturn, 1) := by decide +kernel
set_option maxRecDepth 100000 in
set_option maxHeartbeats 16000000 in
/-- isFunction -/
theorem g_PB_isFunction (l : Launch) (G : va_G) (k : Nat → ClassId) (h0 : Nat) (s0 : Nat) (f : Int32) (ca : Nat) (cr : Nat) (cu : Nat) (cne : Nat) (cs : Nat) (cb : Nat) (nf : Nat) (it : Nat) (wp : Int32) : CI l y_PB_isFunction c_PB_isFunction 2 .boolean { frames := 0, cells := 0, slots := 0, locals := 0 } [.ref h0, .int f] G k s0 [(h0, .inr (0, [.ref ca, .ref cr, .ref cu, .ref cne, .ref cs, .ref cb, .int (nI nf), .int wp, .int (nI it)]))] (fun (r : Int32) (u : Unit) => r = isF (nI nf) f ∧ True) (fun u => [(h0, .inr (0, [.ref ca, .ref cr, .ref cu, .ref cne, .ref cs, .ref cb, .int (nI nf), .int wp, .int (nI it)]))]) 0 0 := by
  refine met_start (by decide) (Nat.le_of_ble_eq_true rfl) ?_
  intro p e s m below meth c C K hA hsz S ls hl
  generalize va_A [(h0, .inr (0, [.ref ca, .ref cr, .ref cu, .ref cne, .ref cs, .ref cb, .int (nI nf), .int wp, .int (nI it)]))] s0 = A at hA S ⊢
  have hx := C.1
  have hb := C.2.1
  have hl : lv_has ls 2 [(0, .ref h0), (1, .int f)] := hl
  refine lv_iload_n hx hb d_PB_isFunction_0 rfl (lv_at hl 1 rfl) ?_
  refine lv_if_lt (tgt := 16) hx hb d_PB_isFunction_1 (by decide) (fun hc1 => ?_) (fun hc1 => ?_)
  · refine lv_iconst (v := 0) hx hb d_PB_isFunction_16 (by decide) ?_
    exact r_iret C K rfl () ⟨(isF_0a hc1), trivial⟩ (S.sub [0] (by decide) rfl) d_PB_isFunction_17 (Nat.le_of_ble_eq_true rfl) (Nat.le_of_ble_eq_true rfl)
  · refine lv_iload_n hx hb d_PB_isFunction_4 rfl (lv_at hl 1 rfl) ?_
    refine lv_aload_n hx hb d_PB_isFunction_5 rfl (lv_at hl 0 rfl) ?_
    refine r_get C K S 0 rfl rfl clOk_PB 6 (by decide) wf_PB_57 (v := .int (nI nf)) rfl d_PB_isFunction_6 ?_
    refine lv_icmp_ge (tgt := 16) hx hb d_PB_isFunction_9 (by decide) (fun hc2 => ?_) (fun hc2 => ?_)
    · refine lv_iconst (v := 0) hx hb d_PB_isFunction_16 (by decide) ?_
      exact r_iret C K rfl () ⟨(isF_0b hc2), trivial⟩ (S.sub [0] (by decide) rfl) d_PB_isFunction_17 (Nat.le_of_ble_eq_true rfl) (Nat.le_of_ble_eq_true rfl)
    · refine lv_iconst (v := 1) hx hb d_PB_isFunction_12 (by decide) ?_
      refine lv_goto (tgt := 17) hx hb d_PB_isFunction_13 (by decide) ?_
      exact r_iret C K rfl () ⟨(isF_1 hc1 hc2), trivial⟩ (S.sub [0] (by decide) rfl) d_PB_isFunction_17 (Nat.le_of_ble_eq_true rfl) (Nat.le_of_ble_eq_true rfl)
def lnI (n : Int32) : Nat := if n < 0 ∨ 3000 < n then 0 else 1
theorem lnI_0 {n : Int32} (h : n < 0 ∨ 3000 < n) : 0 = nI (lnI n) := by
  unfold lnI
  rw [if_pos h]
  rfl
theorem lnI_1 {n : Int32} (h : ¬ n < 0) (h2 : ¬ 3000 < n) : 1 = nI (lnI n) := by
  unfold lnI
  rw [if_neg (fun q => q.elim h h2)]
  rfl
theorem d_PB_isLength_0 : decode c_PB_isLength 0 = .ok (.iload_n 0, 1) := by decide +kernel
theorem d_PB_isLength_1 : decode c_PB_isLength 1 = .ok (.ifCond .lt 14, 3) := by decide +kernel
theorem d_PB_isLength_4 : decode c_PB_isLength 4 = .ok (.iload_n 0, 1) := by decide +kernel
theorem d_PB_isLength_5 : decode c_PB_isLength 5 = .ok (.sipush 3000, 3) := by decide +kernel
theorem d_PB_isLength_8 : decode c_PB_isLength 8 = .ok (.if_icmp .gt 7, 3) := by decide +kernel
theorem d_PB_isLength_11 : decode c_PB_isLength 11 = .ok (.iconst 1, 1) := by decide +kernel
theorem d_PB_isLength_12 : decode c_PB_isLength 12 = .ok (.goto 4, 3) := by decide +kernel
theorem d_PB_isLength_15 : decode c_PB_isLength 15 = .ok (.iconst 0, 1) := by decide +kernel
theorem d_PB_isLength_16 : decode c_PB_isLength 16 = .ok (.ireturn, 1) := by decide +kernel
set_option maxRecDepth 100000 in
set_option maxHeartbeats 16000000 in
/-- isLength -/
theorem g_PB_isLength (l : Launch) (G : va_G) (k : Nat → ClassId) (s0 : Nat) (n9 : Int32) : CI l y_PB_isLength c_PB_isLength 1 .boolean { frames := 0, cells := 0, slots := 0, locals := 0 } [.int n9] G k s0 [] (fun (r : Int32) (u : Unit) => r = nI (lnI n9) ∧ True) (fun u => []) 0 0 := by
  refine met_start (by decide) (Nat.le_of_ble_eq_true rfl) ?_
  intro p e s m below meth c C K hA hsz S ls hl
  generalize va_A [] s0 = A at hA S ⊢
  have hx := C.1
  have hb := C.2.1
  have hl : lv_has ls 1 [(0, .int n9)] := hl
  refine lv_iload_n hx hb d_PB_isLength_0 rfl (lv_at hl 0 rfl) ?_
  refine lv_if_lt (tgt := 15) hx hb d_PB_isLength_1 (by decide) (fun hc1 => ?_) (fun hc1 => ?_)
  · refine lv_iconst (v := 0) hx hb d_PB_isLength_15 (by decide) ?_
    exact r_iret C K rfl () ⟨lnI_0 (Or.inl hc1), trivial⟩ (S.sub [] (by decide) rfl) d_PB_isLength_16 (Nat.le_of_ble_eq_true rfl) (Nat.le_of_ble_eq_true rfl)
  · refine lv_iload_n hx hb d_PB_isLength_4 rfl (lv_at hl 0 rfl) ?_
    refine lv_sipush (v := 3000) hx hb d_PB_isLength_5 (by decide) ?_
    refine lv_icmp_gt (tgt := 15) hx hb d_PB_isLength_8 (by decide) (fun hc2 => ?_) (fun hc2 => ?_)
    · refine lv_iconst (v := 0) hx hb d_PB_isLength_15 (by decide) ?_
      exact r_iret C K rfl () ⟨lnI_0 (Or.inr hc2), trivial⟩ (S.sub [] (by decide) rfl) d_PB_isLength_16 (Nat.le_of_ble_eq_true rfl) (Nat.le_of_ble_eq_true rfl)
    · refine lv_iconst (v := 1) hx hb d_PB_isLength_11 (by decide) ?_
      refine lv_goto (tgt := 16) hx hb d_PB_isLength_12 (by decide) ?_
      exact r_iret C K rfl () ⟨lnI_1 hc1 hc2, trivial⟩ (S.sub [] (by decide) rfl) d_PB_isLength_16 (Nat.le_of_ble_eq_true rfl) (Nat.le_of_ble_eq_true rfl)
end
section
theorem nI_ne2 {n : Nat} (h : n < 2147483648) : ¬ nI n = -2 := by
  intro q
  have h1 : (nI n).toInt = n := Int32.toInt_ofNat_of_lt (by omega)
  rw [q, show (-2 : Int32).toInt = -2 by decide] at h1
  omega
theorem d_Re_call_0 : decode c_Re_call 0 = .ok (.aload_n 0, 1) := by decide +kernel
theorem d_Re_call_1 : decode c_Re_call 1 = .ok (.iconst 0, 1) := by decide +kernel
theorem d_Re_call_2 : decode c_Re_call 2 = .ok (.aload_n 0, 1) := by decide +kernel
theorem d_Re_call_3 : decode c_Re_call 3 = .ok (.getfield 23, 3) := by decide +kernel
theorem d_Re_call_6 : decode c_Re_call 6 = .ok (.iconst 1, 1) := by decide +kernel
theorem d_Re_call_7 : decode c_Re_call 7 = .ok (.isub, 1) := by decide +kernel
theorem d_Re_call_8 : decode c_Re_call 8 = .ok (.invokevirtual 44, 3) := by decide +kernel
theorem d_Re_call_11 : decode c_Re_call 11 = .ok (.istore_n 2, 1) := by decide +kernel
theorem d_Re_call_12 : decode c_Re_call 12 = .ok (.aload_n 0, 1) := by decide +kernel
theorem d_Re_call_13 : decode c_Re_call 13 = .ok (.getfield 9, 3) := by decide +kernel
theorem d_Re_call_16 : decode c_Re_call 16 = .ok (.bipush (-2), 2) := by decide +kernel
theorem d_Re_call_18 : decode c_Re_call 18 = .ok (.if_icmp .eq 4, 3) := by decide +kernel
theorem d_Re_call_21 : decode c_Re_call 21 = .ok (.return_, 1) := by decide +kernel
theorem d_Re_call_22 : decode c_Re_call 22 = .ok (.iconst 0, 1) := by decide +kernel
theorem d_Re_call_23 : decode c_Re_call 23 = .ok (.istore_n 3, 1) := by decide +kernel
theorem d_Re_call_24 : decode c_Re_call 24 = .ok (.iload_n 3, 1) := by decide +kernel
theorem d_Re_call_25 : decode c_Re_call 25 = .ok (.aload_n 0, 1) := by decide +kernel
theorem d_Re_call_26 : decode c_Re_call 26 = .ok (.getfield 15, 3) := by decide +kernel
theorem d_Re_call_29 : decode c_Re_call 29 = .ok (.iload_n 2, 1) := by decide +kernel
theorem d_Re_call_30 : decode c_Re_call 30 = .ok (.aaload, 1) := by decide +kernel
theorem d_Re_call_31 : decode c_Re_call 31 = .ok (.getfield 34, 3) := by decide +kernel
theorem d_Re_call_34 : decode c_Re_call 34 = .ok (.if_icmp .ge 14, 3) := by decide +kernel
theorem d_Re_call_37 : decode c_Re_call 37 = .ok (.aload_n 0, 1) := by decide +kernel
theorem d_Re_call_38 : decode c_Re_call 38 = .ok (.iload_n 1, 1) := by decide +kernel
theorem d_Re_call_39 : decode c_Re_call 39 = .ok (.invokevirtual 50, 3) := by decide +kernel
theorem d_Re_call_42 : decode c_Re_call 42 = .ok (.iinc 3 1, 3) := by decide +kernel
theorem d_Re_call_45 : decode c_Re_call 45 = .ok (.goto (-21), 3) := by decide +kernel
theorem d_Re_call_48 : decode c_Re_call 48 = .ok (.return_, 1) := by decide +kernel
set_option maxRecDepth 100000 in
set_option maxHeartbeats 16000000 in
/-- call, the function is wrong -/
theorem g_Re_call_b (l : Launch) (G : va_G) (k : Nat → ClassId) (h0 : Nat) (s0 : Nat) (x9 : Nat) (ra : Nat) (bc : Nat) (nf : Nat) (nx : Nat) (bw : Nat) (bst : Nat) (bfi : Nat) (bse : Nat) (bkn : Nat) (bnm : Nat) (tk9 : Nat) (sz9 : Nat) (nd9 : Nat) (wd : Nat → Int32) (hnx : nx ≤ sz9) (hs2 : sz9 ≤ 200) (hnf : nf ≤ 4) (hbad : nx = sz9 ∨ wd nx < 0 ∨ ¬ wd nx < nI nf) : CV l y_Re_call c_Re_call 4 { frames := 1, cells := 0, slots := 0, locals := 22 } [.ref h0, .int (nI x9)] G k s0 [(h0, .inr (5, [.ref ra, .ref bc, .int (nI nf), .int (nI nx), .int (-2)])), (bc, .inr (4, [.ref bw, .ref bst, .ref bfi, .ref bse, .ref bkn, .ref bnm, .int (nI tk9), .int (nI sz9), .int (nI nd9)])), (bw, .inl (k 0, 200, .inl wd))] (fun (u : Unit) => True) (fun u => [(h0, .inr (5, [.ref ra, .ref bc, .int (nI nf), .int (nI nx), .int (nI nx)])), (bc, .inr (4, [.ref bw, .ref bst, .ref bfi, .ref bse, .ref bkn, .ref bnm, .int (nI tk9), .int (nI sz9), .int (nI nd9)])), (bw, .inl (k 0, 200, .inl wd))]) 0 0 := by
  refine met_start (by decide) (Nat.le_of_ble_eq_true rfl) ?_
  intro p e s m below meth c C K hA hsz S ls hl
  generalize va_A [(h0, .inr (5, [.ref ra, .ref bc, .int (nI nf), .int (nI nx), .int (-2)])), (bc, .inr (4, [.ref bw, .ref bst, .ref bfi, .ref bse, .ref bkn, .ref bnm, .int (nI tk9), .int (nI sz9), .int (nI nd9)])), (bw, .inl (k 0, 200, .inl wd))] s0 = A at hA S ⊢
  have hx := C.1
  have hb := C.2.1
  have hl : lv_has ls 4 [(0, .ref h0), (1, .int (nI x9))] := hl
  refine lv_aload_n hx hb d_Re_call_0 rfl (lv_at hl 0 rfl) ?_
  refine lv_iconst (v := 0) hx hb d_Re_call_1 (by decide) ?_
  refine lv_aload_n hx hb d_Re_call_2 rfl (lv_at hl 0 rfl) ?_
  refine r_get C K S 0 rfl rfl clOk_Re 2 (by decide) wf_Re_23 (v := .int (nI nf)) rfl d_Re_call_3 ?_
  refine lv_iconst (v := 1) hx hb d_Re_call_6 (by decide) ?_
  refine lv_isub hx hb d_Re_call_7 ?_
  refine r_backi (wi := [(h0, .inr (5, [.ref ra, .ref bc, .int (nI nf), .int (nI nx), .int (-2)])), (bc, .inr (4, [.ref bw, .ref bst, .ref bfi, .ref bse, .ref bkn, .ref bnm, .int (nI tk9), .int (nI sz9), .int (nI nd9)])), (bw, .inl (k 0, 200, .inl wd))]) (wr := []) S hA [0, 1, 2] [] rfl rfl (by decide) (by decide) (va_runV (As := [.int 0, .int ((nI nf) - 1)]) (rest := []) ⟨hx, hb, C.2.2.1, C.2.2.2.1, C.2.2.2.2.1⟩ (g_Re_number_b l G k h0 _ 0 ((nI nf) - 1) ra bc nf nx bw bst bfi bse bkn bnm tk9 sz9 nd9 wd hnx hs2 (hbad.elim Or.inl (fun q => Or.inr (q.elim Or.inl (fun w => Or.inr (Int32.not_le.mp (fun y => w ((le_m1 (by omega)).mp y)))))))) (k_virt (n := 2) C wc_Re_number rfl rfl wz_Re wm_Re_44 wn_Re_number ws_Re_number (by decide +kernel) ⟨(Nat.le_of_ble_eq_true rfl), (Nat.le_of_ble_eq_true rfl)⟩) (pr_nowV K S [0, 1, 2] (by decide) rfl 0 rfl rfl) rfl rfl hl.1 rfl (lv_room (Nat.le_of_ble_eq_true rfl)) d_Re_call_8 ⟨(Nat.le_of_ble_eq_true rfl), (Nat.le_of_ble_eq_true rfl)⟩) (fun r3 u1 H locs hw2 S => ?_)
  have S : Sw G A s.heap _ _ [(h0, .inr (5, [.ref ra, .ref bc, .int (nI nf), .int (nI nx), .int (nI nx)])), (bc, .inr (4, [.ref bw, .ref bst, .ref bfi, .ref bse, .ref bkn, .ref bnm, .int (nI tk9), .int (nI sz9), .int (nI nd9)])), (bw, .inl (k 0, 200, .inl wd))] := S
  obtain ⟨hw20, hp4⟩ := hw2
  obtain rfl : r3 = 0 := hw20
  refine lv_istore_n (lv' := [(2, .int 0), (0, .ref h0), (1, .int (nI x9))]) hx hb d_Re_call_11 rfl hl (by decide) rfl (fun ls hl => ?_)
  refine lv_aload_n hx hb d_Re_call_12 rfl (lv_at hl 1 rfl) ?_
  refine r_get C K S 0 rfl rfl clOk_Re 4 (by decide) wf_Re_9 (v := .int (nI nx)) rfl d_Re_call_13 ?_
  refine lv_bipush (v := (-2)) hx hb d_Re_call_16 (by decide) ?_
  refine lv_icmp_eq (tgt := 22) hx hb d_Re_call_18 (by decide) (fun hq => absurd hq (nI_ne2 (by omega))) (fun _ => ?_)
  exact r_vret C K () trivial (S.sub [0, 1, 2] (by decide) rfl) d_Re_call_21 (Nat.le_of_ble_eq_true rfl) (Nat.le_of_ble_eq_true rfl)
end
section
def wrI : Option Nat → Int32
  | none => -2
  | some b => nI b
def nbV (W : Nat → Int32) (p : Nat) : Nat → Nat
  | 0 => 0
  | k + 1 => nbV W p k ||| (1 * 2 ^ (W (p + 2 + k)).toNatClampNeg)
/-- the named bits of a node behind k lists of a call -/
def namO (W : Nat → Int32) (p x9 k : Nat) (nam nam8 : Nat → Nat) (b : Option Nat) : Prop := (∀ y, y ≠ x9 → nam8 y = nam y) ∧ (b = none → nam8 x9 = nam x9 ||| nbV W p k)
theorem whV_b2 {W : Nat → Int32} {cnt kn p b k : Nat} (hp : p + 2 ≤ cnt ∧ cnt ≤ 200) (h : some b = whV W cnt kn p k) : b ≤ 200 := by
  rcases whV_le hp.1 h.symm with q | q
  · have := q.1; omega
  · omega
theorem cl_bad {W : Nat → Int32} {cnt kn p k nx : Nat} (h : whV W cnt kn p k = none) (hn : nx = p + 2 + k) (hb : nx = cnt ∨ W nx < 0 ∨ ¬ W nx < nI kn) : some nx = whV W cnt kn p (k + 1) := by
  subst hn
  by_cases q : p + 2 + k = cnt
  · rw [whV_end h (Nat.lt_succ_self _) q, q]
  · rw [whV_bad h (Nat.lt_succ_self _) q (hb.resolve_left q)]
set_option maxRecDepth 100000 in
set_option maxHeartbeats 16000000 in
/-- Re_call_same -/
theorem g_Re_call_same (l : Launch) (G : va_G) (k : Nat → ClassId) (h0 : Nat) (s0 : Nat) (x9 : Nat) (p9 : Nat) (g9 : Nat) (ra : Nat) (bc : Nat) (nf : Nat) (nx : Nat) (bw : Nat) (bst : Nat) (bfi : Nat) (bse : Nat) (bkn : Nat) (bnm : Nat) (tk9 : Nat) (sz9 : Nat) (nd9 : Nat) (wd : Nat → Int32) (kno : Nat → Nat) (nam : Nat → Nat) (bf : Nat → Option Nat) (hx9 : x9 < 40) (hpn : nx = p9 + 1) (hnx : nx < sz9) (hs2 : sz9 ≤ 200) (hnf : nf ≤ 4) (hg : wd nx = nI g9) (hg2 : g9 < nf) (hbf : bf g9 = some bc) (htk : tk9 ≤ 3) (hkn : kno x9 ≤ 19) : CV l y_Re_call c_Re_call 4 { frames := 2, cells := 0, slots := 0, locals := 44 } [.ref h0, .int (nI x9)] G k s0 [(h0, .inr (5, [.ref ra, .ref bc, .int (nI nf), .int (nI nx), .int (-2)])), (bc, .inr (4, [.ref bw, .ref bst, .ref bfi, .ref bse, .ref bkn, .ref bnm, .int (nI tk9), .int (nI sz9), .int (nI nd9)])), (bw, .inl (k 0, 200, .inl wd)), (bkn, .inl (k 0, 40, .inl (fun i => nI (kno i)))), (bnm, .inl (k 0, 40, .inl (fun i => nI (nam i)))), (ra, .inl (k 3, 4, .inr (.inr (.inr (.inr bf)))))] (fun (u : (Nat → Nat) × Nat × Option Nat) => u.2.2 = whV wd sz9 (kno x9) p9 tk9 ∧ (u.2.2 = none → u.2.1 = p9 + 2 + tk9) ∧ namO wd p9 x9 tk9 nam u.1 u.2.2) (fun u => [(h0, .inr (5, [.ref ra, .ref bc, .int (nI nf), .int (nI u.2.1), .int (wrI u.2.2)])), (bc, .inr (4, [.ref bw, .ref bst, .ref bfi, .ref bse, .ref bkn, .ref bnm, .int (nI tk9), .int (nI sz9), .int (nI nd9)])), (bw, .inl (k 0, 200, .inl wd)), (bkn, .inl (k 0, 40, .inl (fun i => nI (kno i)))), (bnm, .inl (k 0, 40, .inl (fun i => nI (u.1 i)))), (ra, .inl (k 3, 4, .inr (.inr (.inr (.inr bf)))))]) 0 0 := by
  refine met_start (by decide) (Nat.le_of_ble_eq_true rfl) ?_
  intro p e s m below meth c C K hA hsz S ls hl
  generalize va_A [(h0, .inr (5, [.ref ra, .ref bc, .int (nI nf), .int (nI nx), .int (-2)])), (bc, .inr (4, [.ref bw, .ref bst, .ref bfi, .ref bse, .ref bkn, .ref bnm, .int (nI tk9), .int (nI sz9), .int (nI nd9)])), (bw, .inl (k 0, 200, .inl wd)), (bkn, .inl (k 0, 40, .inl (fun i => nI (kno i)))), (bnm, .inl (k 0, 40, .inl (fun i => nI (nam i)))), (ra, .inl (k 3, 4, .inr (.inr (.inr (.inr bf)))))] s0 = A at hA S ⊢
  have hx := C.1
  have hb := C.2.1
  have hl : lv_has ls 4 [(0, .ref h0), (1, .int (nI x9))] := hl
  refine lv_aload_n hx hb d_Re_call_0 rfl (lv_at hl 0 rfl) ?_
  refine lv_iconst (v := 0) hx hb d_Re_call_1 (by decide) ?_
  refine lv_aload_n hx hb d_Re_call_2 rfl (lv_at hl 0 rfl) ?_
  refine r_get C K S 0 rfl rfl clOk_Re 2 (by decide) wf_Re_23 (v := .int (nI nf)) rfl d_Re_call_3 ?_
  refine lv_iconst (v := 1) hx hb d_Re_call_6 (by decide) ?_
  refine lv_isub hx hb d_Re_call_7 ?_
  refine r_backi (wi := [(h0, .inr (5, [.ref ra, .ref bc, .int (nI nf), .int (nI nx), .int (-2)])), (bc, .inr (4, [.ref bw, .ref bst, .ref bfi, .ref bse, .ref bkn, .ref bnm, .int (nI tk9), .int (nI sz9), .int (nI nd9)])), (bw, .inl (k 0, 200, .inl wd))]) (wr := [(bkn, .inl (k 0, 40, .inl (fun i => nI (kno i)))), (bnm, .inl (k 0, 40, .inl (fun i => nI (nam i)))), (ra, .inl (k 3, 4, .inr (.inr (.inr (.inr bf)))))]) S hA [0, 1, 2] [3, 4, 5] rfl rfl (by decide) (by decide) (va_runV (As := [.int 0, .int ((nI nf) - 1)]) (rest := []) ⟨hx, hb, C.2.2.1, C.2.2.2.1, C.2.2.2.2.1⟩ (g_Re_number_g l G k h0 _ 0 ((nI nf) - 1) ra bc nf nx bw bst bfi bse bkn bnm tk9 sz9 nd9 wd hnx hs2 (by rw [hg]; exact nn_nlt (by omega)) ((le_m1 (by omega)).mpr (by rw [hg]; exact (nI_lt_iff (by omega) (by omega)).mpr hg2))) (k_virt (n := 2) C wc_Re_number rfl rfl wz_Re wm_Re_44 wn_Re_number ws_Re_number (by decide +kernel) ⟨(Nat.le_of_ble_eq_true rfl), (Nat.le_of_ble_eq_true rfl)⟩) (pr_nowV K S [0, 1, 2] (by decide) rfl 0 rfl rfl) rfl rfl hl.1 rfl (lv_room (Nat.le_of_ble_eq_true rfl)) d_Re_call_8 ⟨(Nat.le_of_ble_eq_true rfl), (Nat.le_of_ble_eq_true rfl)⟩) (fun r3 u1 H locs hw2 S => ?_)
  have S : Sw G A s.heap _ _ [(bkn, .inl (k 0, 40, .inl (fun i => nI (kno i)))), (bnm, .inl (k 0, 40, .inl (fun i => nI (nam i)))), (ra, .inl (k 3, 4, .inr (.inr (.inr (.inr bf))))), (h0, .inr (5, [.ref ra, .ref bc, .int (nI nf), .int (nI (nx + 1)), .int (-2)])), (bc, .inr (4, [.ref bw, .ref bst, .ref bfi, .ref bse, .ref bkn, .ref bnm, .int (nI tk9), .int (nI sz9), .int (nI nd9)])), (bw, .inl (k 0, 200, .inl wd))] := S
  obtain ⟨hw20, hp4⟩ := hw2
  obtain rfl : r3 = wd nx := hw20
  rw [hg]
  refine lv_istore_n (lv' := [(2, .int (nI g9)), (0, .ref h0), (1, .int (nI x9))]) hx hb d_Re_call_11 rfl hl (by decide) rfl (fun ls hl => ?_)
  refine lv_aload_n hx hb d_Re_call_12 rfl (lv_at hl 1 rfl) ?_
  refine r_get C K S 3 rfl rfl clOk_Re 4 (by decide) wf_Re_9 (v := .int (-2)) rfl d_Re_call_13 ?_
  refine lv_bipush (v := (-2)) hx hb d_Re_call_16 (by decide) ?_
  refine lv_icmp_eq (tgt := 22) hx hb d_Re_call_18 (by decide) (fun _ => ?_) (fun hq => absurd (by decide) hq)
  refine lv_iconst (v := 0) hx hb d_Re_call_22 (by decide) ?_
  refine lv_istore_n (lv' := [(3, .int 0), (2, .int (nI g9)), (0, .ref h0), (1, .int (nI x9))]) hx hb d_Re_call_23 rfl hl (by decide) rfl (fun ls hl => ?_)
  have lp : ∀ d9, ∀ (i9 : Nat), ∀ (nx8 : Nat), ∀ (b8 : Option Nat), ∀ (nam8 : Nat → Nat), (tk9 - i9) < d9 → (i9 ≤ tk9) → (b8 = whV wd sz9 (kno x9) p9 i9) → (b8 = none → nx8 = p9 + 2 + i9 ∧ nx8 ≤ sz9) → (namO wd p9 x9 i9 nam nam8 b8) → ∀ (H : Heap) (locs : List Loc), Sw G A s.heap H locs [(h0, .inr (5, [.ref ra, .ref bc, .int (nI nf), .int (nI nx8), .int (wrI b8)])), (bc, .inr (4, [.ref bw, .ref bst, .ref bfi, .ref bse, .ref bkn, .ref bnm, .int (nI tk9), .int (nI sz9), .int (nI nd9)])), (bw, .inl (k 0, 200, .inl wd)), (bkn, .inl (k 0, 40, .inl (fun i => nI (kno i)))), (bnm, .inl (k 0, 40, .inl (fun i => nI (nam8 i)))), (ra, .inl (k 3, 4, .inr (.inr (.inr (.inr bf)))))] → ∀ ls : Array Slot, lv_has ls 4 [(3, .int (nI i9)), (2, .int (nI g9)), (0, .ref h0), (1, .int (nI x9))] → W p l e { frames := 2, cells := 0, slots := 0, locals := 44 } s m [Value.ref h0, Value.int (nI x9)].toArray below meth c H locs 0 0 (MQ below (va_Qv (fun (u : (Nat → Nat) × Nat × Option Nat) => u.2.2 = whV wd sz9 (kno x9) p9 tk9 ∧ (u.2.2 = none → u.2.1 = p9 + 2 + tk9) ∧ namO wd p9 x9 tk9 nam u.1 u.2.2) (Po G k A (fun u => [(h0, .inr (5, [.ref ra, .ref bc, .int (nI nf), .int (nI u.2.1), .int (wrI u.2.2)])), (bc, .inr (4, [.ref bw, .ref bst, .ref bfi, .ref bse, .ref bkn, .ref bnm, .int (nI tk9), .int (nI sz9), .int (nI nd9)])), (bw, .inl (k 0, 200, .inl wd)), (bkn, .inl (k 0, 40, .inl (fun i => nI (kno i)))), (bnm, .inl (k 0, 40, .inl (fun i => nI (u.1 i)))), (ra, .inl (k 3, 4, .inr (.inr (.inr (.inr bf)))))])) A) [Value.ref h0, Value.int (nI x9)].toArray s 0 0 A) (F0 m 24 ls []) := by
    intro d9
    induction d9 with
    | zero => intro i9 nx8 b8 nam8 hm; exact absurd hm (Nat.not_lt_zero _)
    | succ d9 ih_lp =>
      intro i9 nx8 b8 nam8 hm hi hw hn8 hnm H locs S ls hl
      refine lv_iload_n hx hb d_Re_call_24 rfl (lv_at hl 0 rfl) ?_
      refine lv_aload_n hx hb d_Re_call_25 rfl (lv_at hl 2 rfl) ?_
      refine r_get C K S 0 rfl rfl clOk_Re 0 (by decide) wf_Re_15 (v := .ref ra) rfl d_Re_call_26 ?_
      refine lv_iload_n hx hb d_Re_call_29 rfl (lv_at hl 1 rfl) ?_
      refine r_aald C K S 5 3 rfl rfl (i := nI g9) (show vp_in (nI g9) _ from vp_in_nI (n := g9) (by omega) (by decide)) (b := bc) (by rw [nI_clamp (by omega)]; exact hbf) d_Re_call_30 ?_
      refine r_getN C K S 1 rfl rfl clOk_Bo 6 (by decide) xf_Re_34 (v := .int (nI tk9)) rfl d_Re_call_31 ?_
      refine z_icmp_ge (a := i9) (b := tk9) (tgt := 48) hx hb d_Re_call_34 (by decide) (by omega) (by omega) (fun hc5 => ?_) (fun hc5 => ?_)
      · exact r_vret C K (nam8, nx8, b8) (by have hie : i9 = tk9 := (by omega); rw [hie] at hw hn8 hnm; exact ⟨hw, fun q => (hn8 q).1, hnm⟩) (S.sub [0, 1, 2, 3, 4, 5] (by decide) rfl) d_Re_call_48 (Nat.le_of_ble_eq_true rfl) (Nat.le_of_ble_eq_true rfl)
      · cases b8 with
        | some b9 =>
          have S : Sw G A s.heap H locs [(h0, .inr (5, [.ref ra, .ref bc, .int (nI nf), .int (nI nx8), .int (nI b9)])), (bc, .inr (4, [.ref bw, .ref bst, .ref bfi, .ref bse, .ref bkn, .ref bnm, .int (nI tk9), .int (nI sz9), .int (nI nd9)])), (bw, .inl (k 0, 200, .inl wd)), (bkn, .inl (k 0, 40, .inl (fun i => nI (kno i)))), (bnm, .inl (k 0, 40, .inl (fun i => nI (nam8 i)))), (ra, .inl (k 3, 4, .inr (.inr (.inr (.inr bf)))))] := S
          have hb2 : b9 ≤ 200 := whV_b2 (by omega) hw
          refine lv_aload_n hx hb d_Re_call_37 rfl (lv_at hl 2 rfl) ?_
          refine lv_iload_n hx hb d_Re_call_38 rfl (lv_at hl 3 rfl) ?_
          refine r_backv (wi := [(h0, .inr (5, [.ref ra, .ref bc, .int (nI nf), .int (nI nx8), .int (nI b9)])), (bc, .inr (4, [.ref bw, .ref bst, .ref bfi, .ref bse, .ref bkn, .ref bnm, .int (nI tk9), .int (nI sz9), .int (nI nd9)])), (bw, .inl (k 0, 200, .inl wd)), (bkn, .inl (k 0, 40, .inl (fun i => nI (kno i)))), (bnm, .inl (k 0, 40, .inl (fun i => nI (nam8 i))))]) (wr := [(ra, .inl (k 3, 4, .inr (.inr (.inr (.inr bf)))))]) S hA [0, 1, 2, 3, 4] [5] rfl rfl (by decide) (by decide) (va_runV (As := [.int (nI x9)]) (rest := []) ⟨hx, hb, C.2.2.1, C.2.2.2.1, C.2.2.2.2.1⟩ (g_Re_variable_w l G k h0 _ (nI b9) x9 ra bc nf nx8 bw bst bfi bse bkn bnm tk9 sz9 nd9 wd kno nam8 hx9 (nI_ne2 (by omega))) (k_virt (n := 1) C wc_Re_variable rfl rfl wz_Re wm_Re_50 wn_Re_variable ws_Re_variable (by decide +kernel) ⟨(Nat.le_of_ble_eq_true rfl), (Nat.le_of_ble_eq_true rfl)⟩) (pr_nowV K S [0, 1, 2, 3, 4] (by decide) rfl 0 rfl rfl) rfl rfl hl.1 rfl (lv_room (Nat.le_of_ble_eq_true rfl)) d_Re_call_39 ⟨(Nat.le_of_ble_eq_true rfl), (Nat.le_of_ble_eq_true rfl)⟩) (fun u6 H locs hw7 S => ?_)
          have S : Sw G A s.heap _ _ [(ra, .inl (k 3, 4, .inr (.inr (.inr (.inr bf))))), (h0, .inr (5, [.ref ra, .ref bc, .int (nI nf), .int (nI nx8), .int (nI b9)])), (bc, .inr (4, [.ref bw, .ref bst, .ref bfi, .ref bse, .ref bkn, .ref bnm, .int (nI tk9), .int (nI sz9), .int (nI nd9)])), (bw, .inl (k 0, 200, .inl wd)), (bkn, .inl (k 0, 40, .inl (fun i => nI (kno i)))), (bnm, .inl (k 0, 40, .inl (fun i => nI ((va_up nam8 x9 (nam8 x9 ||| 1)) i))))] := S
          refine lv_iinc (v := nI (i9 + 1)) (lv' := [(3, .int (nI (i9 + 1))), (2, .int (nI g9)), (0, .ref h0), (1, .int (nI x9))]) hx hb d_Re_call_42 hl (k := 0) rfl (show nI i9 + Int32.ofInt 1 = nI (i9 + 1) from (nI_add i9 1).trans (congrArg nI (by omega))) (by decide) rfl (fun ls hl => ?_)
          refine lv_goto (tgt := 24) hx hb d_Re_call_45 (by decide) ?_
          exact ih_lp (i9 + 1) nx8 (some b9) (va_up nam8 x9 (nam8 x9 ||| 1)) (by omega) (by omega) (whV_some hw.symm 1).symm (fun q => absurd q (by simp)) ⟨fun y hy => by rw [va_up_ne _ _ hy]; exact hnm.1 y hy, fun q => absurd q (by simp)⟩ _ _ (S.sub [1, 2, 3, 4, 5, 0] (by decide) rfl) ls (lv_sub hl [0, 1, 2, 3] rfl)
        | none =>
          obtain ⟨hn1, hn2⟩ := hn8 rfl
          by_cases hbd : nx8 = sz9 ∨ wd nx8 < 0 ∨ ¬ wd nx8 < nI (kno x9)
          · have S : Sw G A s.heap H locs [(h0, .inr (5, [.ref ra, .ref bc, .int (nI nf), .int (nI nx8), .int (-2)])), (bc, .inr (4, [.ref bw, .ref bst, .ref bfi, .ref bse, .ref bkn, .ref bnm, .int (nI tk9), .int (nI sz9), .int (nI nd9)])), (bw, .inl (k 0, 200, .inl wd)), (bkn, .inl (k 0, 40, .inl (fun i => nI (kno i)))), (bnm, .inl (k 0, 40, .inl (fun i => nI (nam8 i)))), (ra, .inl (k 3, 4, .inr (.inr (.inr (.inr bf)))))] := S
            refine lv_aload_n hx hb d_Re_call_37 rfl (lv_at hl 2 rfl) ?_
            refine lv_iload_n hx hb d_Re_call_38 rfl (lv_at hl 3 rfl) ?_
            refine r_backv (wi := [(h0, .inr (5, [.ref ra, .ref bc, .int (nI nf), .int (nI nx8), .int (-2)])), (bc, .inr (4, [.ref bw, .ref bst, .ref bfi, .ref bse, .ref bkn, .ref bnm, .int (nI tk9), .int (nI sz9), .int (nI nd9)])), (bw, .inl (k 0, 200, .inl wd)), (bkn, .inl (k 0, 40, .inl (fun i => nI (kno i)))), (bnm, .inl (k 0, 40, .inl (fun i => nI (nam8 i))))]) (wr := [(ra, .inl (k 3, 4, .inr (.inr (.inr (.inr bf)))))]) S hA [0, 1, 2, 3, 4] [5] rfl rfl (by decide) (by decide) (va_runV (As := [.int (nI x9)]) (rest := []) ⟨hx, hb, C.2.2.1, C.2.2.2.1, C.2.2.2.2.1⟩ (g_Re_variable_b l G k h0 _ x9 ra bc nf nx8 bw bst bfi bse bkn bnm tk9 sz9 nd9 wd kno nam8 hx9 hn2 (by omega) (by omega) hbd) (k_virt (n := 1) C wc_Re_variable rfl rfl wz_Re wm_Re_50 wn_Re_variable ws_Re_variable (by decide +kernel) ⟨(Nat.le_of_ble_eq_true rfl), (Nat.le_of_ble_eq_true rfl)⟩) (pr_nowV K S [0, 1, 2, 3, 4] (by decide) rfl 0 rfl rfl) rfl rfl hl.1 rfl (lv_room (Nat.le_of_ble_eq_true rfl)) d_Re_call_39 ⟨(Nat.le_of_ble_eq_true rfl), (Nat.le_of_ble_eq_true rfl)⟩) (fun u8 H locs hw9 S => ?_)
            have S : Sw G A s.heap _ _ [(ra, .inl (k 3, 4, .inr (.inr (.inr (.inr bf))))), (h0, .inr (5, [.ref ra, .ref bc, .int (nI nf), .int (nI nx8), .int (nI nx8)])), (bc, .inr (4, [.ref bw, .ref bst, .ref bfi, .ref bse, .ref bkn, .ref bnm, .int (nI tk9), .int (nI sz9), .int (nI nd9)])), (bw, .inl (k 0, 200, .inl wd)), (bkn, .inl (k 0, 40, .inl (fun i => nI (kno i)))), (bnm, .inl (k 0, 40, .inl (fun i => nI ((va_up nam8 x9 (nam8 x9 ||| 1)) i))))] := S
            refine lv_iinc (v := nI (i9 + 1)) (lv' := [(3, .int (nI (i9 + 1))), (2, .int (nI g9)), (0, .ref h0), (1, .int (nI x9))]) hx hb d_Re_call_42 hl (k := 0) rfl (show nI i9 + Int32.ofInt 1 = nI (i9 + 1) from (nI_add i9 1).trans (congrArg nI (by omega))) (by decide) rfl (fun ls hl => ?_)
            refine lv_goto (tgt := 24) hx hb d_Re_call_45 (by decide) ?_
            exact ih_lp (i9 + 1) nx8 (some nx8) (va_up nam8 x9 (nam8 x9 ||| 1)) (by omega) (by omega) (cl_bad hw.symm hn1 hbd) (fun q => absurd q (by simp)) ⟨fun y hy => by rw [va_up_ne _ _ hy]; exact hnm.1 y hy, fun q => absurd q (by simp)⟩ _ _ (S.sub [1, 2, 3, 4, 5, 0] (by decide) rfl) ls (lv_sub hl [0, 1, 2, 3] rfl)
          · have S : Sw G A s.heap H locs [(h0, .inr (5, [.ref ra, .ref bc, .int (nI nf), .int (nI nx8), .int (-2)])), (bc, .inr (4, [.ref bw, .ref bst, .ref bfi, .ref bse, .ref bkn, .ref bnm, .int (nI tk9), .int (nI sz9), .int (nI nd9)])), (bw, .inl (k 0, 200, .inl wd)), (bkn, .inl (k 0, 40, .inl (fun i => nI (kno i)))), (bnm, .inl (k 0, 40, .inl (fun i => nI (nam8 i)))), (ra, .inl (k 3, 4, .inr (.inr (.inr (.inr bf)))))] := S
            have hlt8 : nx8 < sz9 := by rcases Nat.lt_or_eq_of_le hn2 with q | q; exact q; exact absurd (Or.inl q) hbd
            have hz0 : ¬ wd nx8 < 0 := fun q => hbd (Or.inr (Or.inl q))
            have hz1 : wd nx8 < nI (kno x9) := Classical.byContradiction (fun q => hbd (Or.inr (Or.inr q)))
            refine lv_aload_n hx hb d_Re_call_37 rfl (lv_at hl 2 rfl) ?_
            refine lv_iload_n hx hb d_Re_call_38 rfl (lv_at hl 3 rfl) ?_
            refine r_backv (wi := [(h0, .inr (5, [.ref ra, .ref bc, .int (nI nf), .int (nI nx8), .int (-2)])), (bc, .inr (4, [.ref bw, .ref bst, .ref bfi, .ref bse, .ref bkn, .ref bnm, .int (nI tk9), .int (nI sz9), .int (nI nd9)])), (bw, .inl (k 0, 200, .inl wd)), (bkn, .inl (k 0, 40, .inl (fun i => nI (kno i)))), (bnm, .inl (k 0, 40, .inl (fun i => nI (nam8 i))))]) (wr := [(ra, .inl (k 3, 4, .inr (.inr (.inr (.inr bf)))))]) S hA [0, 1, 2, 3, 4] [5] rfl rfl (by decide) (by decide) (va_runV (As := [.int (nI x9)]) (rest := []) ⟨hx, hb, C.2.2.1, C.2.2.2.1, C.2.2.2.2.1⟩ (g_Re_variable_g l G k h0 _ ((wd nx8).toNatClampNeg) x9 ra bc nf nx8 bw bst bfi bse bkn bnm tk9 sz9 nd9 wd kno nam8 hx9 hlt8 (by omega) (by omega) (nn_of hz0).symm (nn_lt hz0 (by omega) hz1)) (k_virt (n := 1) C wc_Re_variable rfl rfl wz_Re wm_Re_50 wn_Re_variable ws_Re_variable (by decide +kernel) ⟨(Nat.le_of_ble_eq_true rfl), (Nat.le_of_ble_eq_true rfl)⟩) (pr_nowV K S [0, 1, 2, 3, 4] (by decide) rfl 0 rfl rfl) rfl rfl hl.1 rfl (lv_room (Nat.le_of_ble_eq_true rfl)) d_Re_call_39 ⟨(Nat.le_of_ble_eq_true rfl), (Nat.le_of_ble_eq_true rfl)⟩) (fun u10 H locs hw11 S => ?_)
            have S : Sw G A s.heap _ _ [(ra, .inl (k 3, 4, .inr (.inr (.inr (.inr bf))))), (h0, .inr (5, [.ref ra, .ref bc, .int (nI nf), .int (nI (nx8 + 1)), .int (-2)])), (bc, .inr (4, [.ref bw, .ref bst, .ref bfi, .ref bse, .ref bkn, .ref bnm, .int (nI tk9), .int (nI sz9), .int (nI nd9)])), (bw, .inl (k 0, 200, .inl wd)), (bkn, .inl (k 0, 40, .inl (fun i => nI (kno i)))), (bnm, .inl (k 0, 40, .inl (fun i => nI ((va_up nam8 x9 (nam8 x9 ||| (1 * 2 ^ ((wd nx8).toNatClampNeg)))) i))))] := S
            refine lv_iinc (v := nI (i9 + 1)) (lv' := [(3, .int (nI (i9 + 1))), (2, .int (nI g9)), (0, .ref h0), (1, .int (nI x9))]) hx hb d_Re_call_42 hl (k := 0) rfl (show nI i9 + Int32.ofInt 1 = nI (i9 + 1) from (nI_add i9 1).trans (congrArg nI (by omega))) (by decide) rfl (fun ls hl => ?_)
            refine lv_goto (tgt := 24) hx hb d_Re_call_45 (by decide) ?_
            exact ih_lp (i9 + 1) (nx8 + 1) none (va_up nam8 x9 (nam8 x9 ||| (1 * 2 ^ (wd nx8).toNatClampNeg))) (by omega) (by omega) (whV_ok hw.symm (by omega) (by rw [← hn1]; exact hz0) (by rw [← hn1]; exact hz1)).symm (fun _ => ⟨by omega, hlt8⟩) ⟨fun y hy => by rw [va_up_ne _ _ hy]; exact hnm.1 y hy, fun _ => by rw [va_up_self, hnm.2 rfl, nbV, hn1, Nat.or_assoc]⟩ _ _ (S.sub [1, 2, 3, 4, 5, 0] (by decide) rfl) ls (lv_sub hl [0, 1, 2, 3] rfl)
  exact lp _ 0 (nx + 1) none nam (Nat.lt_succ_self _) (by omega) rfl (fun _ => ⟨by omega, by omega⟩) ⟨fun _ _ => rfl, fun _ => (Nat.or_zero _).symm⟩ _ _ (S.sub [3, 4, 5, 0, 1, 2] (by decide) rfl) ls (lv_sub hl [0, 1, 2, 3] rfl)
set_option maxRecDepth 100000 in
set_option maxHeartbeats 16000000 in
/-- Re_call_other -/
theorem g_Re_call_other (l : Launch) (G : va_G) (k : Nat → ClassId) (h0 : Nat) (s0 : Nat) (x9 : Nat) (p9 : Nat) (g9 : Nat) (ra : Nat) (bc : Nat) (nf : Nat) (nx : Nat) (bw : Nat) (bst : Nat) (bfi : Nat) (bse : Nat) (bkn : Nat) (bnm : Nat) (tk9 : Nat) (sz9 : Nat) (nd9 : Nat) (bo : Nat) (tkg : Nat) (os : Int32) (on : Int32) (o0 : Nat) (o1 : Nat) (o2 : Nat) (o3 : Nat) (o4 : Nat) (o5 : Nat) (wd : Nat → Int32) (kno : Nat → Nat) (nam : Nat → Nat) (bf : Nat → Option Nat) (hx9 : x9 < 40) (hpn : nx = p9 + 1) (hnx : nx < sz9) (hs2 : sz9 ≤ 200) (hnf : nf ≤ 4) (hg : wd nx = nI g9) (hg2 : g9 < nf) (hbf : bf g9 = some bo) (htk : tkg ≤ 3) (hkn : kno x9 ≤ 19) : CV l y_Re_call c_Re_call 4 { frames := 2, cells := 0, slots := 0, locals := 44 } [.ref h0, .int (nI x9)] G k s0 [(h0, .inr (5, [.ref ra, .ref bc, .int (nI nf), .int (nI nx), .int (-2)])), (bc, .inr (4, [.ref bw, .ref bst, .ref bfi, .ref bse, .ref bkn, .ref bnm, .int (nI tk9), .int (nI sz9), .int (nI nd9)])), (bw, .inl (k 0, 200, .inl wd)), (bkn, .inl (k 0, 40, .inl (fun i => nI (kno i)))), (bnm, .inl (k 0, 40, .inl (fun i => nI (nam i)))), (ra, .inl (k 3, 4, .inr (.inr (.inr (.inr bf))))), (bo, .inr (4, [.ref o0, .ref o1, .ref o2, .ref o3, .ref o4, .ref o5, .int (nI tkg), .int os, .int on]))] (fun (u : (Nat → Nat) × Nat × Option Nat) => u.2.2 = whV wd sz9 (kno x9) p9 tkg ∧ (u.2.2 = none → u.2.1 = p9 + 2 + tkg) ∧ namO wd p9 x9 tkg nam u.1 u.2.2) (fun u => [(h0, .inr (5, [.ref ra, .ref bc, .int (nI nf), .int (nI u.2.1), .int (wrI u.2.2)])), (bc, .inr (4, [.ref bw, .ref bst, .ref bfi, .ref bse, .ref bkn, .ref bnm, .int (nI tk9), .int (nI sz9), .int (nI nd9)])), (bw, .inl (k 0, 200, .inl wd)), (bkn, .inl (k 0, 40, .inl (fun i => nI (kno i)))), (bnm, .inl (k 0, 40, .inl (fun i => nI (u.1 i)))), (ra, .inl (k 3, 4, .inr (.inr (.inr (.inr bf))))), (bo, .inr (4, [.ref o0, .ref o1, .ref o2, .ref o3, .ref o4, .ref o5, .int (nI tkg), .int os, .int on]))]) 0 0 := by
  refine met_start (by decide) (Nat.le_of_ble_eq_true rfl) ?_
  intro p e s m below meth c C K hA hsz S ls hl
  generalize va_A [(h0, .inr (5, [.ref ra, .ref bc, .int (nI nf), .int (nI nx), .int (-2)])), (bc, .inr (4, [.ref bw, .ref bst, .ref bfi, .ref bse, .ref bkn, .ref bnm, .int (nI tk9), .int (nI sz9), .int (nI nd9)])), (bw, .inl (k 0, 200, .inl wd)), (bkn, .inl (k 0, 40, .inl (fun i => nI (kno i)))), (bnm, .inl (k 0, 40, .inl (fun i => nI (nam i)))), (ra, .inl (k 3, 4, .inr (.inr (.inr (.inr bf))))), (bo, .inr (4, [.ref o0, .ref o1, .ref o2, .ref o3, .ref o4, .ref o5, .int (nI tkg), .int os, .int on]))] s0 = A at hA S ⊢
  have hx := C.1
  have hb := C.2.1
  have hl : lv_has ls 4 [(0, .ref h0), (1, .int (nI x9))] := hl
  refine lv_aload_n hx hb d_Re_call_0 rfl (lv_at hl 0 rfl) ?_
  refine lv_iconst (v := 0) hx hb d_Re_call_1 (by decide) ?_
  refine lv_aload_n hx hb d_Re_call_2 rfl (lv_at hl 0 rfl) ?_
  refine r_get C K S 0 rfl rfl clOk_Re 2 (by decide) wf_Re_23 (v := .int (nI nf)) rfl d_Re_call_3 ?_
  refine lv_iconst (v := 1) hx hb d_Re_call_6 (by decide) ?_
  refine lv_isub hx hb d_Re_call_7 ?_
  refine r_backi (wi := [(h0, .inr (5, [.ref ra, .ref bc, .int (nI nf), .int (nI nx), .int (-2)])), (bc, .inr (4, [.ref bw, .ref bst, .ref bfi, .ref bse, .ref bkn, .ref bnm, .int (nI tk9), .int (nI sz9), .int (nI nd9)])), (bw, .inl (k 0, 200, .inl wd))]) (wr := [(bkn, .inl (k 0, 40, .inl (fun i => nI (kno i)))), (bnm, .inl (k 0, 40, .inl (fun i => nI (nam i)))), (ra, .inl (k 3, 4, .inr (.inr (.inr (.inr bf))))), (bo, .inr (4, [.ref o0, .ref o1, .ref o2, .ref o3, .ref o4, .ref o5, .int (nI tkg), .int os, .int on]))]) S hA [0, 1, 2] [3, 4, 5, 6] rfl rfl (by decide) (by decide) (va_runV (As := [.int 0, .int ((nI nf) - 1)]) (rest := []) ⟨hx, hb, C.2.2.1, C.2.2.2.1, C.2.2.2.2.1⟩ (g_Re_number_g l G k h0 _ 0 ((nI nf) - 1) ra bc nf nx bw bst bfi bse bkn bnm tk9 sz9 nd9 wd hnx hs2 (by rw [hg]; exact nn_nlt (by omega)) ((le_m1 (by omega)).mpr (by rw [hg]; exact (nI_lt_iff (by omega) (by omega)).mpr hg2))) (k_virt (n := 2) C wc_Re_number rfl rfl wz_Re wm_Re_44 wn_Re_number ws_Re_number (by decide +kernel) ⟨(Nat.le_of_ble_eq_true rfl), (Nat.le_of_ble_eq_true rfl)⟩) (pr_nowV K S [0, 1, 2] (by decide) rfl 0 rfl rfl) rfl rfl hl.1 rfl (lv_room (Nat.le_of_ble_eq_true rfl)) d_Re_call_8 ⟨(Nat.le_of_ble_eq_true rfl), (Nat.le_of_ble_eq_true rfl)⟩) (fun r3 u1 H locs hw2 S => ?_)
  have S : Sw G A s.heap _ _ [(bkn, .inl (k 0, 40, .inl (fun i => nI (kno i)))), (bnm, .inl (k 0, 40, .inl (fun i => nI (nam i)))), (ra, .inl (k 3, 4, .inr (.inr (.inr (.inr bf))))), (bo, .inr (4, [.ref o0, .ref o1, .ref o2, .ref o3, .ref o4, .ref o5, .int (nI tkg), .int os, .int on])), (h0, .inr (5, [.ref ra, .ref bc, .int (nI nf), .int (nI (nx + 1)), .int (-2)])), (bc, .inr (4, [.ref bw, .ref bst, .ref bfi, .ref bse, .ref bkn, .ref bnm, .int (nI tk9), .int (nI sz9), .int (nI nd9)])), (bw, .inl (k 0, 200, .inl wd))] := S
  obtain ⟨hw20, hp4⟩ := hw2
  obtain rfl : r3 = wd nx := hw20
  rw [hg]
  refine lv_istore_n (lv' := [(2, .int (nI g9)), (0, .ref h0), (1, .int (nI x9))]) hx hb d_Re_call_11 rfl hl (by decide) rfl (fun ls hl => ?_)
  refine lv_aload_n hx hb d_Re_call_12 rfl (lv_at hl 1 rfl) ?_
  refine r_get C K S 4 rfl rfl clOk_Re 4 (by decide) wf_Re_9 (v := .int (-2)) rfl d_Re_call_13 ?_
  refine lv_bipush (v := (-2)) hx hb d_Re_call_16 (by decide) ?_
  refine lv_icmp_eq (tgt := 22) hx hb d_Re_call_18 (by decide) (fun _ => ?_) (fun hq => absurd (by decide) hq)
  refine lv_iconst (v := 0) hx hb d_Re_call_22 (by decide) ?_
  refine lv_istore_n (lv' := [(3, .int 0), (2, .int (nI g9)), (0, .ref h0), (1, .int (nI x9))]) hx hb d_Re_call_23 rfl hl (by decide) rfl (fun ls hl => ?_)
  have lp : ∀ d9, ∀ (i9 : Nat), ∀ (nx8 : Nat), ∀ (b8 : Option Nat), ∀ (nam8 : Nat → Nat), (tkg - i9) < d9 → (i9 ≤ tkg) → (b8 = whV wd sz9 (kno x9) p9 i9) → (b8 = none → nx8 = p9 + 2 + i9 ∧ nx8 ≤ sz9) → (namO wd p9 x9 i9 nam nam8 b8) → ∀ (H : Heap) (locs : List Loc), Sw G A s.heap H locs [(h0, .inr (5, [.ref ra, .ref bc, .int (nI nf), .int (nI nx8), .int (wrI b8)])), (bc, .inr (4, [.ref bw, .ref bst, .ref bfi, .ref bse, .ref bkn, .ref bnm, .int (nI tk9), .int (nI sz9), .int (nI nd9)])), (bw, .inl (k 0, 200, .inl wd)), (bkn, .inl (k 0, 40, .inl (fun i => nI (kno i)))), (bnm, .inl (k 0, 40, .inl (fun i => nI (nam8 i)))), (ra, .inl (k 3, 4, .inr (.inr (.inr (.inr bf))))), (bo, .inr (4, [.ref o0, .ref o1, .ref o2, .ref o3, .ref o4, .ref o5, .int (nI tkg), .int os, .int on]))] → ∀ ls : Array Slot, lv_has ls 4 [(3, .int (nI i9)), (2, .int (nI g9)), (0, .ref h0), (1, .int (nI x9))] → W p l e { frames := 2, cells := 0, slots := 0, locals := 44 } s m [Value.ref h0, Value.int (nI x9)].toArray below meth c H locs 0 0 (MQ below (va_Qv (fun (u : (Nat → Nat) × Nat × Option Nat) => u.2.2 = whV wd sz9 (kno x9) p9 tkg ∧ (u.2.2 = none → u.2.1 = p9 + 2 + tkg) ∧ namO wd p9 x9 tkg nam u.1 u.2.2) (Po G k A (fun u => [(h0, .inr (5, [.ref ra, .ref bc, .int (nI nf), .int (nI u.2.1), .int (wrI u.2.2)])), (bc, .inr (4, [.ref bw, .ref bst, .ref bfi, .ref bse, .ref bkn, .ref bnm, .int (nI tk9), .int (nI sz9), .int (nI nd9)])), (bw, .inl (k 0, 200, .inl wd)), (bkn, .inl (k 0, 40, .inl (fun i => nI (kno i)))), (bnm, .inl (k 0, 40, .inl (fun i => nI (u.1 i)))), (ra, .inl (k 3, 4, .inr (.inr (.inr (.inr bf))))), (bo, .inr (4, [.ref o0, .ref o1, .ref o2, .ref o3, .ref o4, .ref o5, .int (nI tkg), .int os, .int on]))])) A) [Value.ref h0, Value.int (nI x9)].toArray s 0 0 A) (F0 m 24 ls []) := by
    intro d9
    induction d9 with
    | zero => intro i9 nx8 b8 nam8 hm; exact absurd hm (Nat.not_lt_zero _)
    | succ d9 ih_lp =>
      intro i9 nx8 b8 nam8 hm hi hw hn8 hnm H locs S ls hl
      refine lv_iload_n hx hb d_Re_call_24 rfl (lv_at hl 0 rfl) ?_
      refine lv_aload_n hx hb d_Re_call_25 rfl (lv_at hl 2 rfl) ?_
      refine r_get C K S 0 rfl rfl clOk_Re 0 (by decide) wf_Re_15 (v := .ref ra) rfl d_Re_call_26 ?_
      refine lv_iload_n hx hb d_Re_call_29 rfl (lv_at hl 1 rfl) ?_
      refine r_aald C K S 5 3 rfl rfl (i := nI g9) (show vp_in (nI g9) _ from vp_in_nI (n := g9) (by omega) (by decide)) (b := bo) (by rw [nI_clamp (by omega)]; exact hbf) d_Re_call_30 ?_
      refine r_getN C K S 6 rfl rfl clOk_Bo 6 (by decide) xf_Re_34 (v := .int (nI tkg)) rfl d_Re_call_31 ?_
      refine z_icmp_ge (a := i9) (b := tkg) (tgt := 48) hx hb d_Re_call_34 (by decide) (by omega) (by omega) (fun hc5 => ?_) (fun hc5 => ?_)
      · exact r_vret C K (nam8, nx8, b8) (by have hie : i9 = tkg := (by omega); rw [hie] at hw hn8 hnm; exact ⟨hw, fun q => (hn8 q).1, hnm⟩) (S.sub [0, 1, 2, 3, 4, 5, 6] (by decide) rfl) d_Re_call_48 (Nat.le_of_ble_eq_true rfl) (Nat.le_of_ble_eq_true rfl)
      · cases b8 with
        | some b9 =>
          have S : Sw G A s.heap H locs [(h0, .inr (5, [.ref ra, .ref bc, .int (nI nf), .int (nI nx8), .int (nI b9)])), (bc, .inr (4, [.ref bw, .ref bst, .ref bfi, .ref bse, .ref bkn, .ref bnm, .int (nI tk9), .int (nI sz9), .int (nI nd9)])), (bw, .inl (k 0, 200, .inl wd)), (bkn, .inl (k 0, 40, .inl (fun i => nI (kno i)))), (bnm, .inl (k 0, 40, .inl (fun i => nI (nam8 i)))), (ra, .inl (k 3, 4, .inr (.inr (.inr (.inr bf))))), (bo, .inr (4, [.ref o0, .ref o1, .ref o2, .ref o3, .ref o4, .ref o5, .int (nI tkg), .int os, .int on]))] := S
          have hb2 : b9 ≤ 200 := whV_b2 (by omega) hw
          refine lv_aload_n hx hb d_Re_call_37 rfl (lv_at hl 2 rfl) ?_
          refine lv_iload_n hx hb d_Re_call_38 rfl (lv_at hl 3 rfl) ?_
          refine r_backv (wi := [(h0, .inr (5, [.ref ra, .ref bc, .int (nI nf), .int (nI nx8), .int (nI b9)])), (bc, .inr (4, [.ref bw, .ref bst, .ref bfi, .ref bse, .ref bkn, .ref bnm, .int (nI tk9), .int (nI sz9), .int (nI nd9)])), (bw, .inl (k 0, 200, .inl wd)), (bkn, .inl (k 0, 40, .inl (fun i => nI (kno i)))), (bnm, .inl (k 0, 40, .inl (fun i => nI (nam8 i))))]) (wr := [(ra, .inl (k 3, 4, .inr (.inr (.inr (.inr bf))))), (bo, .inr (4, [.ref o0, .ref o1, .ref o2, .ref o3, .ref o4, .ref o5, .int (nI tkg), .int os, .int on]))]) S hA [0, 1, 2, 3, 4] [5, 6] rfl rfl (by decide) (by decide) (va_runV (As := [.int (nI x9)]) (rest := []) ⟨hx, hb, C.2.2.1, C.2.2.2.1, C.2.2.2.2.1⟩ (g_Re_variable_w l G k h0 _ (nI b9) x9 ra bc nf nx8 bw bst bfi bse bkn bnm tk9 sz9 nd9 wd kno nam8 hx9 (nI_ne2 (by omega))) (k_virt (n := 1) C wc_Re_variable rfl rfl wz_Re wm_Re_50 wn_Re_variable ws_Re_variable (by decide +kernel) ⟨(Nat.le_of_ble_eq_true rfl), (Nat.le_of_ble_eq_true rfl)⟩) (pr_nowV K S [0, 1, 2, 3, 4] (by decide) rfl 0 rfl rfl) rfl rfl hl.1 rfl (lv_room (Nat.le_of_ble_eq_true rfl)) d_Re_call_39 ⟨(Nat.le_of_ble_eq_true rfl), (Nat.le_of_ble_eq_true rfl)⟩) (fun u6 H locs hw7 S => ?_)
          have S : Sw G A s.heap _ _ [(ra, .inl (k 3, 4, .inr (.inr (.inr (.inr bf))))), (bo, .inr (4, [.ref o0, .ref o1, .ref o2, .ref o3, .ref o4, .ref o5, .int (nI tkg), .int os, .int on])), (h0, .inr (5, [.ref ra, .ref bc, .int (nI nf), .int (nI nx8), .int (nI b9)])), (bc, .inr (4, [.ref bw, .ref bst, .ref bfi, .ref bse, .ref bkn, .ref bnm, .int (nI tk9), .int (nI sz9), .int (nI nd9)])), (bw, .inl (k 0, 200, .inl wd)), (bkn, .inl (k 0, 40, .inl (fun i => nI (kno i)))), (bnm, .inl (k 0, 40, .inl (fun i => nI ((va_up nam8 x9 (nam8 x9 ||| 1)) i))))] := S
          refine lv_iinc (v := nI (i9 + 1)) (lv' := [(3, .int (nI (i9 + 1))), (2, .int (nI g9)), (0, .ref h0), (1, .int (nI x9))]) hx hb d_Re_call_42 hl (k := 0) rfl (show nI i9 + Int32.ofInt 1 = nI (i9 + 1) from (nI_add i9 1).trans (congrArg nI (by omega))) (by decide) rfl (fun ls hl => ?_)
          refine lv_goto (tgt := 24) hx hb d_Re_call_45 (by decide) ?_
          exact ih_lp (i9 + 1) nx8 (some b9) (va_up nam8 x9 (nam8 x9 ||| 1)) (by omega) (by omega) (whV_some hw.symm 1).symm (fun q => absurd q (by simp)) ⟨fun y hy => by rw [va_up_ne _ _ hy]; exact hnm.1 y hy, fun q => absurd q (by simp)⟩ _ _ (S.sub [2, 3, 4, 5, 6, 0, 1] (by decide) rfl) ls (lv_sub hl [0, 1, 2, 3] rfl)
        | none =>
          obtain ⟨hn1, hn2⟩ := hn8 rfl
          by_cases hbd : nx8 = sz9 ∨ wd nx8 < 0 ∨ ¬ wd nx8 < nI (kno x9)
          · have S : Sw G A s.heap H locs [(h0, .inr (5, [.ref ra, .ref bc, .int (nI nf), .int (nI nx8), .int (-2)])), (bc, .inr (4, [.ref bw, .ref bst, .ref bfi, .ref bse, .ref bkn, .ref bnm, .int (nI tk9), .int (nI sz9), .int (nI nd9)])), (bw, .inl (k 0, 200, .inl wd)), (bkn, .inl (k 0, 40, .inl (fun i => nI (kno i)))), (bnm, .inl (k 0, 40, .inl (fun i => nI (nam8 i)))), (ra, .inl (k 3, 4, .inr (.inr (.inr (.inr bf))))), (bo, .inr (4, [.ref o0, .ref o1, .ref o2, .ref o3, .ref o4, .ref o5, .int (nI tkg), .int os, .int on]))] := S
            refine lv_aload_n hx hb d_Re_call_37 rfl (lv_at hl 2 rfl) ?_
            refine lv_iload_n hx hb d_Re_call_38 rfl (lv_at hl 3 rfl) ?_
            refine r_backv (wi := [(h0, .inr (5, [.ref ra, .ref bc, .int (nI nf), .int (nI nx8), .int (-2)])), (bc, .inr (4, [.ref bw, .ref bst, .ref bfi, .ref bse, .ref bkn, .ref bnm, .int (nI tk9), .int (nI sz9), .int (nI nd9)])), (bw, .inl (k 0, 200, .inl wd)), (bkn, .inl (k 0, 40, .inl (fun i => nI (kno i)))), (bnm, .inl (k 0, 40, .inl (fun i => nI (nam8 i))))]) (wr := [(ra, .inl (k 3, 4, .inr (.inr (.inr (.inr bf))))), (bo, .inr (4, [.ref o0, .ref o1, .ref o2, .ref o3, .ref o4, .ref o5, .int (nI tkg), .int os, .int on]))]) S hA [0, 1, 2, 3, 4] [5, 6] rfl rfl (by decide) (by decide) (va_runV (As := [.int (nI x9)]) (rest := []) ⟨hx, hb, C.2.2.1, C.2.2.2.1, C.2.2.2.2.1⟩ (g_Re_variable_b l G k h0 _ x9 ra bc nf nx8 bw bst bfi bse bkn bnm tk9 sz9 nd9 wd kno nam8 hx9 hn2 (by omega) (by omega) hbd) (k_virt (n := 1) C wc_Re_variable rfl rfl wz_Re wm_Re_50 wn_Re_variable ws_Re_variable (by decide +kernel) ⟨(Nat.le_of_ble_eq_true rfl), (Nat.le_of_ble_eq_true rfl)⟩) (pr_nowV K S [0, 1, 2, 3, 4] (by decide) rfl 0 rfl rfl) rfl rfl hl.1 rfl (lv_room (Nat.le_of_ble_eq_true rfl)) d_Re_call_39 ⟨(Nat.le_of_ble_eq_true rfl), (Nat.le_of_ble_eq_true rfl)⟩) (fun u8 H locs hw9 S => ?_)
            have S : Sw G A s.heap _ _ [(ra, .inl (k 3, 4, .inr (.inr (.inr (.inr bf))))), (bo, .inr (4, [.ref o0, .ref o1, .ref o2, .ref o3, .ref o4, .ref o5, .int (nI tkg), .int os, .int on])), (h0, .inr (5, [.ref ra, .ref bc, .int (nI nf), .int (nI nx8), .int (nI nx8)])), (bc, .inr (4, [.ref bw, .ref bst, .ref bfi, .ref bse, .ref bkn, .ref bnm, .int (nI tk9), .int (nI sz9), .int (nI nd9)])), (bw, .inl (k 0, 200, .inl wd)), (bkn, .inl (k 0, 40, .inl (fun i => nI (kno i)))), (bnm, .inl (k 0, 40, .inl (fun i => nI ((va_up nam8 x9 (nam8 x9 ||| 1)) i))))] := S
            refine lv_iinc (v := nI (i9 + 1)) (lv' := [(3, .int (nI (i9 + 1))), (2, .int (nI g9)), (0, .ref h0), (1, .int (nI x9))]) hx hb d_Re_call_42 hl (k := 0) rfl (show nI i9 + Int32.ofInt 1 = nI (i9 + 1) from (nI_add i9 1).trans (congrArg nI (by omega))) (by decide) rfl (fun ls hl => ?_)
            refine lv_goto (tgt := 24) hx hb d_Re_call_45 (by decide) ?_
            exact ih_lp (i9 + 1) nx8 (some nx8) (va_up nam8 x9 (nam8 x9 ||| 1)) (by omega) (by omega) (cl_bad hw.symm hn1 hbd) (fun q => absurd q (by simp)) ⟨fun y hy => by rw [va_up_ne _ _ hy]; exact hnm.1 y hy, fun q => absurd q (by simp)⟩ _ _ (S.sub [2, 3, 4, 5, 6, 0, 1] (by decide) rfl) ls (lv_sub hl [0, 1, 2, 3] rfl)
          · have S : Sw G A s.heap H locs [(h0, .inr (5, [.ref ra, .ref bc, .int (nI nf), .int (nI nx8), .int (-2)])), (bc, .inr (4, [.ref bw, .ref bst, .ref bfi, .ref bse, .ref bkn, .ref bnm, .int (nI tk9), .int (nI sz9), .int (nI nd9)])), (bw, .inl (k 0, 200, .inl wd)), (bkn, .inl (k 0, 40, .inl (fun i => nI (kno i)))), (bnm, .inl (k 0, 40, .inl (fun i => nI (nam8 i)))), (ra, .inl (k 3, 4, .inr (.inr (.inr (.inr bf))))), (bo, .inr (4, [.ref o0, .ref o1, .ref o2, .ref o3, .ref o4, .ref o5, .int (nI tkg), .int os, .int on]))] := S
            have hlt8 : nx8 < sz9 := by rcases Nat.lt_or_eq_of_le hn2 with q | q; exact q; exact absurd (Or.inl q) hbd
            have hz0 : ¬ wd nx8 < 0 := fun q => hbd (Or.inr (Or.inl q))
            have hz1 : wd nx8 < nI (kno x9) := Classical.byContradiction (fun q => hbd (Or.inr (Or.inr q)))
            refine lv_aload_n hx hb d_Re_call_37 rfl (lv_at hl 2 rfl) ?_
            refine lv_iload_n hx hb d_Re_call_38 rfl (lv_at hl 3 rfl) ?_
            refine r_backv (wi := [(h0, .inr (5, [.ref ra, .ref bc, .int (nI nf), .int (nI nx8), .int (-2)])), (bc, .inr (4, [.ref bw, .ref bst, .ref bfi, .ref bse, .ref bkn, .ref bnm, .int (nI tk9), .int (nI sz9), .int (nI nd9)])), (bw, .inl (k 0, 200, .inl wd)), (bkn, .inl (k 0, 40, .inl (fun i => nI (kno i)))), (bnm, .inl (k 0, 40, .inl (fun i => nI (nam8 i))))]) (wr := [(ra, .inl (k 3, 4, .inr (.inr (.inr (.inr bf))))), (bo, .inr (4, [.ref o0, .ref o1, .ref o2, .ref o3, .ref o4, .ref o5, .int (nI tkg), .int os, .int on]))]) S hA [0, 1, 2, 3, 4] [5, 6] rfl rfl (by decide) (by decide) (va_runV (As := [.int (nI x9)]) (rest := []) ⟨hx, hb, C.2.2.1, C.2.2.2.1, C.2.2.2.2.1⟩ (g_Re_variable_g l G k h0 _ ((wd nx8).toNatClampNeg) x9 ra bc nf nx8 bw bst bfi bse bkn bnm tk9 sz9 nd9 wd kno nam8 hx9 hlt8 (by omega) (by omega) (nn_of hz0).symm (nn_lt hz0 (by omega) hz1)) (k_virt (n := 1) C wc_Re_variable rfl rfl wz_Re wm_Re_50 wn_Re_variable ws_Re_variable (by decide +kernel) ⟨(Nat.le_of_ble_eq_true rfl), (Nat.le_of_ble_eq_true rfl)⟩) (pr_nowV K S [0, 1, 2, 3, 4] (by decide) rfl 0 rfl rfl) rfl rfl hl.1 rfl (lv_room (Nat.le_of_ble_eq_true rfl)) d_Re_call_39 ⟨(Nat.le_of_ble_eq_true rfl), (Nat.le_of_ble_eq_true rfl)⟩) (fun u10 H locs hw11 S => ?_)
            have S : Sw G A s.heap _ _ [(ra, .inl (k 3, 4, .inr (.inr (.inr (.inr bf))))), (bo, .inr (4, [.ref o0, .ref o1, .ref o2, .ref o3, .ref o4, .ref o5, .int (nI tkg), .int os, .int on])), (h0, .inr (5, [.ref ra, .ref bc, .int (nI nf), .int (nI (nx8 + 1)), .int (-2)])), (bc, .inr (4, [.ref bw, .ref bst, .ref bfi, .ref bse, .ref bkn, .ref bnm, .int (nI tk9), .int (nI sz9), .int (nI nd9)])), (bw, .inl (k 0, 200, .inl wd)), (bkn, .inl (k 0, 40, .inl (fun i => nI (kno i)))), (bnm, .inl (k 0, 40, .inl (fun i => nI ((va_up nam8 x9 (nam8 x9 ||| (1 * 2 ^ ((wd nx8).toNatClampNeg)))) i))))] := S
            refine lv_iinc (v := nI (i9 + 1)) (lv' := [(3, .int (nI (i9 + 1))), (2, .int (nI g9)), (0, .ref h0), (1, .int (nI x9))]) hx hb d_Re_call_42 hl (k := 0) rfl (show nI i9 + Int32.ofInt 1 = nI (i9 + 1) from (nI_add i9 1).trans (congrArg nI (by omega))) (by decide) rfl (fun ls hl => ?_)
            refine lv_goto (tgt := 24) hx hb d_Re_call_45 (by decide) ?_
            exact ih_lp (i9 + 1) (nx8 + 1) none (va_up nam8 x9 (nam8 x9 ||| (1 * 2 ^ (wd nx8).toNatClampNeg))) (by omega) (by omega) (whV_ok hw.symm (by omega) (by rw [← hn1]; exact hz0) (by rw [← hn1]; exact hz1)).symm (fun _ => ⟨by omega, hlt8⟩) ⟨fun y hy => by rw [va_up_ne _ _ hy]; exact hnm.1 y hy, fun _ => by rw [va_up_self, hnm.2 rfl, nbV, hn1, Nat.or_assoc]⟩ _ _ (S.sub [2, 3, 4, 5, 6, 0, 1] (by decide) rfl) ls (lv_sub hl [0, 1, 2, 3] rfl)
  exact lp _ 0 (nx + 1) none nam (Nat.lt_succ_self _) (by omega) rfl (fun _ => ⟨by omega, by omega⟩) ⟨fun _ _ => rfl, fun _ => (Nat.or_zero _).symm⟩ _ _ (S.sub [4, 5, 6, 0, 1, 2, 3] (by decide) rfl) ls (lv_sub hl [0, 1, 2, 3] rfl)
end
section
/-! the nodes that the class's Reader finds -/
abbrev XS := (Nat → Nat) × (Nat → Nat) × (Nat → Nat) × (Nat → Nat) × (Nat → Nat) × Nat × Option Nat × Nat × Nat
section TREE
variable {W : Nat → Int32} {tk : Nat → Nat} {nf cnt : Nat}
/-- the variables that a node's own words name, as bits -/
def owB (W : Nat → Int32) (tk : Nat → Nat) (p : Nat) : Nat := if W p = 1 ∨ W p = 3 then 1 * 2 ^ (W (p + 1)).toNatClampNeg else if W p = 5 then nbV W p (tk (W (p + 1)).toNatClampNeg) else 0
/-- node x is the expression of the words p to q; its nodes are x to y -/
def ntT (W : Nat → Int32) (tk sta fir sec kno nam : Nat → Nat) : Nat → Nat → Nat → Nat → Nat → Nat → Prop
  | 0, _, _, _, _, _ => False
  | fu + 1, kn, p, q, x, y => sta x = p ∧ kno x = kn ∧ (((W p = 0 ∨ W p = 1 ∨ W p = 5) ∧ q = p + hdN W tk p ∧ y = x + 1 ∧ nam x = owB W tk p)
    ∨ ((W p = 2 ∨ W p = 4) ∧ fir x = x + 1 ∧ ntT W tk sta fir sec kno nam fu kn (p + hdN W tk p) q (x + 1) y ∧ nam x = owB W tk p ||| nam (x + 1))
    ∨ ((W p = 3 ∨ W p = 6) ∧ fir x = x + 1 ∧ ∃ m z, sec x = z ∧ ntT W tk sta fir sec kno nam fu kn (p + hdN W tk p) m (x + 1) z ∧ ntT W tk sta fir sec kno nam fu (kn + 1) m q z y ∧ nam x = owB W tk p ||| nam (x + 1) ||| nam z))
theorem nt_lt {sta fir sec kno nam : Nat → Nat} : ∀ {fu kn p q x y : Nat}, ntT W tk sta fir sec kno nam fu kn p q x y → x < y ∧ p < q
  | 0, _, _, _, _, _, h => h.elim
  | fu + 1, kn, p, q, x, y, h => by
    have hh := hdN_pos (W := W) (tk := tk) p
    obtain ⟨-, -, h | h | h⟩ := h
    · omega
    · have := nt_lt h.2.2.1
      omega
    · obtain ⟨-, -, m, z, -, h1, h2, -⟩ := h
      have := nt_lt h1
      have := nt_lt h2
      omega
/-- the same five rows from x to y -/
def rwE (sta fir sec kno nam sta' fir' sec' kno' nam' : Nat → Nat) (x y : Nat) : Prop := ∀ i, x ≤ i → i < y → sta' i = sta i ∧ fir' i = fir i ∧ sec' i = sec i ∧ kno' i = kno i ∧ nam' i = nam i
theorem nt_keep {sta fir sec kno nam sta' fir' sec' kno' nam' : Nat → Nat} : ∀ {fu kn p q x y : Nat}, rwE sta fir sec kno nam sta' fir' sec' kno' nam' x y → ntT W tk sta fir sec kno nam fu kn p q x y → ntT W tk sta' fir' sec' kno' nam' fu kn p q x y
  | 0, _, _, _, _, _, _, h => h.elim
  | fu + 1, kn, p, q, x, y, hr, h => by
    have hl := (nt_lt h).1
    obtain ⟨e1, e2, e3, e4, e5⟩ := hr x (Nat.le_refl _) hl
    obtain ⟨a, b, h | h | h⟩ := h
    · exact ⟨e1.trans a, e4.trans b, Or.inl ⟨h.1, h.2.1, h.2.2.1, e5.trans h.2.2.2⟩⟩
    · have h1 := nt_lt h.2.2.1
      refine ⟨e1.trans a, e4.trans b, Or.inr (Or.inl ⟨h.1, e2.trans h.2.1, nt_keep (fun i u v => hr i (by omega) v) h.2.2.1, ?_⟩)⟩
      rw [e5, (hr (x + 1) (by omega) (by omega)).2.2.2.2]; exact h.2.2.2
    · obtain ⟨c, d, m, z, f, h1, h2, g⟩ := h
      have l1 := nt_lt h1
      have l2 := nt_lt h2
      refine ⟨e1.trans a, e4.trans b, Or.inr (Or.inr ⟨c, e2.trans d, m, z, e3.trans f, nt_keep (fun i u v => hr i (by omega) (by omega)) h1, nt_keep (fun i u v => hr i (by omega) v) h2, ?_⟩)⟩
      rw [e5, (hr (x + 1) (by omega) (by omega)).2.2.2.2, (hr z (by omega) (by omega)).2.2.2.2]; exact g
/-- what the reading of an expression leaves: u is the five rows, next, wrong, nodes, and the node's number -/
def exO (W : Nat → Int32) (tk : Nat → Nat) (pr : PR) (fu kn p x : Nat) (sta fir sec kno nam : Nat → Nat) (u : XS) : Prop := u.2.2.2.2.2.2.2.2 < 40 ∧ match pr with
  | .inl b => u.2.2.2.2.2.2.1 = some b
  | .inr (a2, n2, _) => u.2.2.2.2.2.2.1 = none ∧ u.2.2.2.2.2.1 = a2 ∧ u.2.2.2.2.2.2.2.1 = n2 ∧ u.2.2.2.2.2.2.2.2 = x ∧ rwE sta fir sec kno nam u.1 u.2.1 u.2.2.1 u.2.2.2.1 u.2.2.2.2.1 0 x ∧ ntT W tk u.1 u.2.1 u.2.2.1 u.2.2.2.1 u.2.2.2.2.1 fu kn p a2 x n2
/-- what the reading of the parts of node x leaves -/
def pa0 (x : Nat) (sta fir sec kno nam : Nat → Nat) (u : XS) : Prop := rwE sta fir sec kno nam u.1 u.2.1 u.2.2.1 u.2.2.2.1 u.2.2.2.2.1 0 x ∧ u.1 x = sta x ∧ u.2.2.2.1 x = kno x ∧ u.2.1 x = x + 1
def pa1 (W : Nat → Int32) (tk : Nat → Nat) (nf cnt : Nat) (E : Nat → Nat) (fu p x : Nat) (sta fir sec kno nam : Nat → Nat) (u : XS) : Prop := match prs W tk nf cnt fu (kno x) p (x + 1) E with
  | .inl b => u.2.2.2.2.2.2.1 = some b
  | .inr (a2, n2, _) => u.2.2.2.2.2.2.1 = none ∧ u.2.2.2.2.2.1 = a2 ∧ u.2.2.2.2.2.2.2.1 = n2 ∧ pa0 x sta fir sec kno nam u ∧ u.2.2.2.2.1 x = nam x ||| u.2.2.2.2.1 (x + 1) ∧ ntT W tk u.1 u.2.1 u.2.2.1 u.2.2.2.1 u.2.2.2.2.1 fu (kno x) p a2 (x + 1) n2
def pa2 (W : Nat → Int32) (tk : Nat → Nat) (nf cnt : Nat) (E : Nat → Nat) (fu p x : Nat) (sta fir sec kno nam : Nat → Nat) (u : XS) : Prop := match prs W tk nf cnt fu (kno x) p (x + 1) E with
  | .inl b => u.2.2.2.2.2.2.1 = some b
  | .inr (a2, n2, E2) => match prs W tk nf cnt fu (kno x + 1) a2 n2 E2 with
    | .inl b => u.2.2.2.2.2.2.1 = some b
    | .inr (a3, n3, _) => u.2.2.2.2.2.2.1 = none ∧ u.2.2.2.2.2.1 = a3 ∧ u.2.2.2.2.2.2.2.1 = n3 ∧ pa0 x sta fir sec kno nam u ∧ u.2.2.1 x = n2 ∧ u.2.2.2.2.1 x = nam x ||| u.2.2.2.2.1 (x + 1) ||| u.2.2.2.2.1 n2 ∧ ntT W tk u.1 u.2.1 u.2.2.1 u.2.2.2.1 u.2.2.2.2.1 fu (kno x) p a2 (x + 1) n2 ∧ ntT W tk u.1 u.2.1 u.2.2.1 u.2.2.2.1 u.2.2.2.2.1 fu (kno x + 1) a2 a3 n2 n3
/-- behind the first part: its number is kept, its names are added -/
def up1 (x : Nat) (v : XS) : XS := (v.1, va_up v.2.1 x v.2.2.2.2.2.2.2.2, v.2.2.1, v.2.2.2.1, va_up v.2.2.2.2.1 x (v.2.2.2.2.1 x ||| v.2.2.2.2.1 v.2.2.2.2.2.2.2.2), v.2.2.2.2.2.1, v.2.2.2.2.2.2.1, v.2.2.2.2.2.2.2.1, 0)
def up2 (x : Nat) (v : XS) : XS := (v.1, v.2.1, va_up v.2.2.1 x v.2.2.2.2.2.2.2.2, v.2.2.2.1, va_up v.2.2.2.2.1 x (v.2.2.2.2.1 x ||| v.2.2.2.2.1 v.2.2.2.2.2.2.2.2), v.2.2.2.2.2.1, v.2.2.2.2.2.2.1, v.2.2.2.2.2.2.2.1, 0)
theorem pa1_of {E : Nat → Nat} {fu p x : Nat} {sta fir sec kno nam : Nat → Nat} {v : XS} (h : exO W tk (prs W tk nf cnt fu (kno x) p (x + 1) E) fu (kno x) p (x + 1) sta fir sec kno nam v) : pa1 W tk nf cnt E fu p x sta fir sec kno nam (up1 x v) := by
  obtain ⟨-, h⟩ := h
  unfold pa1
  cases hp : prs W tk nf cnt fu (kno x) p (x + 1) E with
  | inl b => rw [hp] at h; exact h
  | inr w =>
    obtain ⟨a2, n2, E2⟩ := w
    rw [hp] at h
    obtain ⟨h1, h2, h3, h4, h5, h6⟩ := h
    have hx := h5 x (Nat.zero_le _) (Nat.lt_succ_self _)
    refine ⟨h1, h2, h3, ⟨fun i a b => ?_, hx.1, hx.2.2.2.1, ?_⟩, ?_, nt_keep (fun i a b => ?_) h6⟩
    · have := h5 i a (by omega)
      exact ⟨this.1, (va_up_ne _ _ (by omega)).trans this.2.1, this.2.2.1, this.2.2.2.1, (va_up_ne _ _ (by omega)).trans this.2.2.2.2⟩
    · exact (va_up_self _ _ _).trans h4
    · show va_up _ x _ x = nam x ||| va_up _ x _ (x + 1)
      rw [va_up_self, va_up_ne _ _ (by omega), h4, hx.2.2.2.2]
    · exact ⟨rfl, va_up_ne _ _ (by omega), rfl, rfl, va_up_ne _ _ (by omega)⟩
theorem pa2_of {E : Nat → Nat} {fu p x b : Nat} {sta fir sec kno nam : Nat → Nat} {u : XS} (h : prs W tk nf cnt fu (kno x) p (x + 1) E = .inl b) (hu : u.2.2.2.2.2.2.1 = some b) : pa2 W tk nf cnt E fu p x sta fir sec kno nam u := by
  unfold pa2; rw [h]; exact hu
theorem pa2_two {E E2 : Nat → Nat} {fu p x a2 n2 : Nat} {sta fir sec kno nam : Nat → Nat} {v w : XS} (hp : prs W tk nf cnt fu (kno x) p (x + 1) E = .inr (a2, n2, E2)) (h : exO W tk (.inr (a2, n2, E2)) fu (kno x) p (x + 1) sta fir sec kno nam v)
    (h2 : exO W tk (prs W tk nf cnt fu (kno x + 1) a2 n2 E2) fu (kno x + 1) a2 n2 (up1 x v).1 (up1 x v).2.1 (up1 x v).2.2.1 (up1 x v).2.2.2.1 (up1 x v).2.2.2.2.1 w) : pa2 W tk nf cnt E fu p x sta fir sec kno nam (up2 x w) := by
  have h1 := pa1_of (nf := nf) (cnt := cnt) (E := E) (by rw [hp]; exact h)
  unfold pa1 at h1
  rw [hp] at h1
  unfold pa2
  rw [hp]
  obtain ⟨-, h2⟩ := h2
  show (match prs W tk nf cnt fu (kno x + 1) a2 n2 E2 with | .inl b => _ | .inr (a3, n3, _) => _)
  cases hq : prs W tk nf cnt fu (kno x + 1) a2 n2 E2 with
  | inl b => rw [hq] at h2; exact h2
  | inr y =>
    obtain ⟨a3, n3, E3⟩ := y
    rw [hq] at h2
    obtain ⟨g1, g2, g3, ⟨g4, g5, g6, g7⟩, g8, g9⟩ := h1
    obtain ⟨k1, k2, k3, k4, k5, k6⟩ := h2
    have hl := (nt_lt g9).1
    have hx := k5 x (Nat.zero_le _) (by omega)
    have hx1 := k5 (x + 1) (Nat.zero_le _) (by omega)
    refine ⟨k1, k2, k3, ⟨fun i a b => ?_, hx.1.trans g5, hx.2.2.2.1.trans g6, hx.2.1.trans g7⟩, ?_, ?_, nt_keep (fun i a b => ?_) g9, nt_keep (fun i a b => ?_) k6⟩
    · have e1 := g4 i a b
      have e2 := k5 i a (by omega)
      exact ⟨e2.1.trans e1.1, e2.2.1.trans e1.2.1, (va_up_ne _ _ (by omega)).trans (e2.2.2.1.trans e1.2.2.1), e2.2.2.2.1.trans e1.2.2.2.1, (va_up_ne _ _ (by omega)).trans (e2.2.2.2.2.trans e1.2.2.2.2)⟩
    · exact (va_up_self _ _ _).trans k4
    · show va_up _ x _ x = nam x ||| va_up _ x _ (x + 1) ||| va_up _ x _ n2
      rw [va_up_self, va_up_ne _ _ (show x + 1 ≠ x by omega), va_up_ne _ _ (show n2 ≠ x by omega), k4, hx.2.2.2.2, hx1.2.2.2.2, g8]
    · have e2 := k5 i (Nat.zero_le _) (by omega)
      exact ⟨e2.1, e2.2.1, (va_up_ne _ _ (by omega)).trans e2.2.2.1, e2.2.2.2.1, (va_up_ne _ _ (by omega)).trans e2.2.2.2.2⟩
    · exact ⟨rfl, rfl, va_up_ne _ _ (by omega), rfl, va_up_ne _ _ (by omega)⟩
/-! an expression by its kind -/
theorem ex_wrong {E : Nat → Nat} {fu kn p x b : Nat} {sta fir sec kno nam : Nat → Nat} {u : XS} (h : prs W tk nf cnt fu kn p x E = .inl b) (hu : u.2.2.2.2.2.2.1 = some b) (hx : u.2.2.2.2.2.2.2.2 < 40) : exO W tk (prs W tk nf cnt fu kn p x E) fu kn p x sta fir sec kno nam u := by
  rw [h]; exact ⟨hx, hu⟩
theorem prs_b0 {E : Nat → Nat} {fu kn p x : Nat} (h : fu = 0 ∨ x = 40 ∨ p = cnt) : prs W tk nf cnt fu kn p x E = .inl p := by
  cases fu with
  | zero => rfl
  | succ fu => rw [prs, if_pos (by omega)]
theorem prs_b1 {E : Nat → Nat} {fu kn p x b : Nat} (h1 : p ≠ cnt) (h2 : x ≠ 40) (h : wh W tk nf cnt p kn = some b) : prs W tk nf cnt (fu + 1) kn p x E = .inl b := by
  rw [prs, if_neg (by omega), h]
theorem prs_go {E : Nat → Nat} {fu kn p x : Nat} (h1 : p ≠ cnt) (h2 : x ≠ 40) (h : wh W tk nf cnt p kn = none) : prs W tk nf cnt (fu + 1) kn p x E = if W p = 0 ∨ W p = 1 ∨ W p = 5 then .inr (p + hdN W tk p, x + 1, va_up E p (p + hdN W tk p))
      else match prs W tk nf cnt fu kn (p + hdN W tk p) (x + 1) E with
      | .inl b => .inl b
      | .inr (a2, n2, E2) =>
        if W p = 2 ∨ W p = 4 then .inr (a2, n2, va_up E2 p a2)
        else match prs W tk nf cnt fu (kn + 1) a2 n2 E2 with
        | .inl b => .inl b
        | .inr (a3, n3, E3) => .inr (a3, n3, va_up E3 p a3) := by
  rw [prs, if_neg (by omega), h]
  rfl
/-- the rows once a node x has begun at p -/
theorem bg_keep {sta fir sec kno nam nam8 : Nat → Nat} {x a b c d : Nat} (hn : ∀ y, y ≠ x → nam8 y = nam y) : rwE sta fir sec kno nam (va_up sta x a) (va_up fir x b) (va_up sec x c) (va_up kno x d) nam8 0 x := fun i _ h => ⟨va_up_ne _ _ (by omega), va_up_ne _ _ (by omega), va_up_ne _ _ (by omega), va_up_ne _ _ (by omega), hn i (by omega)⟩
theorem ex_leaf {E : Nat → Nat} {fu kn p x : Nat} {sta fir sec kno nam nam8 : Nat → Nat} (h1 : p ≠ cnt) (h2 : x < 40) (hw : wh W tk nf cnt p kn = none) (hk : W p = 0 ∨ W p = 1 ∨ W p = 5) (hn : ∀ y, y ≠ x → nam8 y = nam y) (hx : nam8 x = owB W tk p) {nx : Nat} (hnx : nx = p + hdN W tk p) :
    exO W tk (prs W tk nf cnt (fu + 1) kn p x E) (fu + 1) kn p x sta fir sec kno nam (va_up sta x p, va_up fir x 0, va_up sec x 0, va_up kno x kn, nam8, nx, none, x + 1, x) := by
  rw [prs_go h1 (by omega) hw, if_pos hk]
  exact ⟨h2, rfl, hnx, rfl, rfl, bg_keep hn, va_up_self _ _ _, va_up_self _ _ _, Or.inl ⟨hk, rfl, rfl, hx⟩⟩
theorem ex_one {E : Nat → Nat} {fu kn p x nx : Nat} {sta fir sec kno nam nam8 : Nat → Nat} {u : XS} (h1 : p ≠ cnt) (h2 : x < 40) (hw : wh W tk nf cnt p kn = none) (hk : W p = 2 ∨ W p = 4) (hn : ∀ y, y ≠ x → nam8 y = nam y) (hx : nam8 x = owB W tk p) (hnx : nx = p + hdN W tk p)
    (hp : pa1 W tk nf cnt E fu nx x (va_up sta x p) (va_up fir x 0) (va_up sec x 0) (va_up kno x kn) nam8 u) :
    exO W tk (prs W tk nf cnt (fu + 1) kn p x E) (fu + 1) kn p x sta fir sec kno nam (u.1, u.2.1, u.2.2.1, u.2.2.2.1, u.2.2.2.2.1, u.2.2.2.2.2.1, u.2.2.2.2.2.2.1, u.2.2.2.2.2.2.2.1, x) := by
  rw [prs_go h1 (by omega) hw, if_neg (by rcases hk with q | q <;> rw [q] <;> decide)]
  unfold pa1 at hp
  rw [va_up_self, hnx] at hp
  cases h : prs W tk nf cnt fu kn (p + hdN W tk p) (x + 1) E with
  | inl b => rw [h] at hp; exact ⟨h2, hp⟩
  | inr y =>
    obtain ⟨a2, n2, E2⟩ := y
    rw [h] at hp
    show exO W tk (if W p = 2 ∨ W p = 4 then .inr (a2, n2, va_up E2 p a2) else _) _ _ _ _ _ _ _ _ _ _
    rw [if_pos hk]
    obtain ⟨g1, g2, g3, ⟨g4, g5, g6, g7⟩, g8, g9⟩ := hp
    refine ⟨h2, g1, g2, g3, rfl, fun i a b => ?_, g5.trans (va_up_self _ _ _), g6.trans (va_up_self _ _ _), Or.inr (Or.inl ⟨hk, g7, g9, ?_⟩)⟩
    · have e1 := g4 i a b
      have e2 := bg_keep (a := p) (b := 0) (c := 0) (d := kn) (sta := sta) (fir := fir) (sec := sec) (kno := kno) hn i a b
      exact ⟨e1.1.trans e2.1, e1.2.1.trans e2.2.1, e1.2.2.1.trans e2.2.2.1, e1.2.2.2.1.trans e2.2.2.2.1, e1.2.2.2.2.trans e2.2.2.2.2⟩
    · rw [g8, hx]
theorem ex_two {E : Nat → Nat} {fu kn p x nx : Nat} {sta fir sec kno nam nam8 : Nat → Nat} {u : XS} (h1 : p ≠ cnt) (h2 : x < 40) (hw : wh W tk nf cnt p kn = none) (hk : W p = 3 ∨ W p = 6) (hn : ∀ y, y ≠ x → nam8 y = nam y) (hx : nam8 x = owB W tk p) (hnx : nx = p + hdN W tk p)
    (hp : pa2 W tk nf cnt E fu nx x (va_up sta x p) (va_up fir x 0) (va_up sec x 0) (va_up kno x kn) nam8 u) :
    exO W tk (prs W tk nf cnt (fu + 1) kn p x E) (fu + 1) kn p x sta fir sec kno nam (u.1, u.2.1, u.2.2.1, u.2.2.2.1, u.2.2.2.2.1, u.2.2.2.2.2.1, u.2.2.2.2.2.2.1, u.2.2.2.2.2.2.2.1, x) := by
  rw [prs_go h1 (by omega) hw, if_neg (by rcases hk with q | q <;> rw [q] <;> decide)]
  unfold pa2 at hp
  rw [va_up_self, hnx] at hp
  cases h : prs W tk nf cnt fu kn (p + hdN W tk p) (x + 1) E with
  | inl b => rw [h] at hp; exact ⟨h2, hp⟩
  | inr y =>
    obtain ⟨a2, n2, E2⟩ := y
    rw [h] at hp
    show exO W tk (if W p = 2 ∨ W p = 4 then _ else match prs W tk nf cnt fu (kn + 1) a2 n2 E2 with | .inl b => .inl b | .inr (a3, n3, E3) => .inr (a3, n3, va_up E3 p a3)) _ _ _ _ _ _ _ _ _ _
    rw [if_neg (by rcases hk with q | q <;> rw [q] <;> decide)]
    have hp : (match prs W tk nf cnt fu (kn + 1) a2 n2 E2 with | .inl b => _ | .inr (a3, n3, _) => _) := hp
    cases h3 : prs W tk nf cnt fu (kn + 1) a2 n2 E2 with
    | inl b => rw [h3] at hp; exact ⟨h2, hp⟩
    | inr z =>
      obtain ⟨a3, n3, E3⟩ := z
      rw [h3] at hp
      obtain ⟨g1, g2, g3, ⟨g4, g5, g6, g7⟩, f1, f2, f3, f4⟩ := hp
      refine ⟨h2, g1, g2, g3, rfl, fun i a b => ?_, g5.trans (va_up_self _ _ _), g6.trans (va_up_self _ _ _), Or.inr (Or.inr ⟨hk, g7, a2, n2, f1, f3, f4, ?_⟩)⟩
      · have e1 := g4 i a b
        have e2 := bg_keep (a := p) (b := 0) (c := 0) (d := kn) (sta := sta) (fir := fir) (sec := sec) (kno := kno) hn i a b
        exact ⟨e1.1.trans e2.1, e1.2.1.trans e2.2.1, e1.2.2.1.trans e2.2.2.1, e1.2.2.2.1.trans e2.2.2.2.1, e1.2.2.2.2.trans e2.2.2.2.2⟩
      · rw [f2, hx]
/-! a node's own words by its kind -/
theorem hd_1 {p : Nat} (h : W p = 0 ∨ W p = 2 ∨ W p = 6) : hdN W tk p = 1 := by unfold hdN; rw [if_pos h]
theorem hd_2 {p : Nat} (h : W p = 1 ∨ W p = 3 ∨ W p = 4) : hdN W tk p = 2 := by
  unfold hdN
  rw [if_neg (by rcases h with q | q | q <;> rw [q] <;> decide), if_neg (by rcases h with q | q | q <;> rw [q] <;> decide)]
theorem hd_5 {p : Nat} (h : W p = 5) : hdN W tk p = 2 + tk (W (p + 1)).toNatClampNeg := by unfold hdN; rw [if_neg (by rw [h]; decide), if_pos h]
theorem ow_0 {p : Nat} (h : W p = 0 ∨ W p = 2 ∨ W p = 4 ∨ W p = 6) : owB W tk p = 0 := by
  unfold owB
  rw [if_neg (by rcases h with q | q | q | q <;> rw [q] <;> decide), if_neg (by rcases h with q | q | q | q <;> rw [q] <;> decide)]
theorem ow_v {p v : Nat} (h : W p = 1 ∨ W p = 3) (hv : W (p + 1) = nI v) (hl : v < 2147483648) : owB W tk p = 1 * 2 ^ v := by
  unfold owB
  rw [if_pos h, hv, show (nI v).toNatClampNeg = v from nI_clamp hl]
theorem ow_5 {p : Nat} (h : W p = 5) : owB W tk p = nbV W p (tk (W (p + 1)).toNatClampNeg) := by unfold owB; rw [if_neg (by rw [h]; decide), if_pos h]
theorem wh_bd {p kn : Nat} (h : W p < 0 ∨ 6 < W p) : wh W tk nf cnt p kn = some p := by unfold wh; rw [if_pos h]
theorem wh_0 {p kn : Nat} (h : W p = 0 ∨ W p = 2 ∨ W p = 6) : wh W tk nf cnt p kn = none := by
  unfold wh; rw [if_neg (by rcases h with q | q | q <;> rw [q] <;> decide), if_pos h]
theorem wh_4b {p kn : Nat} (h : W p = 4) (hb : p + 1 = cnt ∨ W (p + 1) < 0 ∨ 1000 < W (p + 1)) : wh W tk nf cnt p kn = some (p + 1) := by
  unfold wh; rw [if_neg (by rw [h]; decide), if_neg (by rw [h]; decide)]
  by_cases q : p + 1 = cnt
  · rw [if_pos q, q]
  · rw [if_neg q, if_pos h, if_pos (hb.resolve_left q)]
theorem wh_4g {p kn : Nat} (h : W p = 4) (hb : ¬ (p + 1 = cnt ∨ W (p + 1) < 0 ∨ 1000 < W (p + 1))) : wh W tk nf cnt p kn = none := by
  unfold wh; rw [if_neg (by rw [h]; decide), if_neg (by rw [h]; decide), if_neg (fun q => hb (Or.inl q)), if_pos h, if_neg (fun q => hb (Or.inr q))]
theorem wh_vb {p kn : Nat} (h : W p = 1 ∨ W p = 3) (hb : p + 1 = cnt ∨ W (p + 1) < 0 ∨ ¬ W (p + 1) < nI kn) : wh W tk nf cnt p kn = some (p + 1) := by
  unfold wh; rw [if_neg (by rcases h with q | q <;> rw [q] <;> decide), if_neg (by rcases h with q | q <;> rw [q] <;> decide)]
  by_cases q : p + 1 = cnt
  · rw [if_pos q, q]
  · rw [if_neg q, if_neg (by rcases h with q | q <;> rw [q] <;> decide), if_pos (by rcases h with q | q <;> rw [q] <;> decide), if_pos (hb.resolve_left q)]
theorem wh_vg {p kn : Nat} (h : W p = 1 ∨ W p = 3) (hb : ¬ (p + 1 = cnt ∨ W (p + 1) < 0 ∨ ¬ W (p + 1) < nI kn)) : wh W tk nf cnt p kn = none := by
  unfold wh; rw [if_neg (by rcases h with q | q <;> rw [q] <;> decide), if_neg (by rcases h with q | q <;> rw [q] <;> decide), if_neg (fun q => hb (Or.inl q)), if_neg (by rcases h with q | q <;> rw [q] <;> decide), if_pos (by rcases h with q | q <;> rw [q] <;> decide), if_neg (fun q => hb (Or.inr q))]
theorem wh_5b {p kn : Nat} (h : W p = 5) (hb : p + 1 = cnt ∨ W (p + 1) < 0 ∨ ¬ W (p + 1) < nI nf) : wh W tk nf cnt p kn = some (p + 1) := by
  unfold wh; rw [if_neg (by rw [h]; decide), if_neg (by rw [h]; decide)]
  by_cases q : p + 1 = cnt
  · rw [if_pos q, q]
  · rw [if_neg q, if_neg (by rw [h]; decide), if_neg (fun w => w h), if_pos]
    rintro ⟨x, y⟩
    rcases hb.resolve_left q with w | w
    · exact absurd w (Int32.not_lt.mpr x)
    · exact w y
theorem wh_5g {p kn : Nat} (h : W p = 5) (hb : ¬ (p + 1 = cnt ∨ W (p + 1) < 0 ∨ ¬ W (p + 1) < nI nf)) : wh W tk nf cnt p kn = whV W cnt kn p (tk (W (p + 1)).toNatClampNeg) := by
  unfold wh; rw [if_neg (by rw [h]; decide), if_neg (by rw [h]; decide), if_neg (fun q => hb (Or.inl q)), if_neg (by rw [h]; decide), if_neg (fun w => w h), if_neg]
  exact fun w => w ⟨Int32.not_lt.mp (fun q => hb (Or.inr (Or.inl q))), Classical.byContradiction (fun q => hb (Or.inr (Or.inr q)))⟩
/-- a node's tables and the ends of its words agree -/
theorem nt_end {E sta fir sec kno nam : Nat → Nat} (hnf : nf ≤ 4) : ∀ {fu kn p q q' x y : Nat}, wf W tk nf E fu kn p q → ntT W tk sta fir sec kno nam fu kn p q' x y → q' = q
  | 0, _, _, _, _, _, _, h, _ => h.elim
  | fu + 1, kn, p, q, q', x, y, h, t => by
    obtain ⟨-, h⟩ := h
    obtain ⟨-, -, t⟩ := t
    rcases h with h | h | h | h | h | h | h
    · rcases t with t | t | t
      · rw [t.2.1, h.2, hd_1 (Or.inl h.1)]
      · rw [h.1] at t; exact absurd t.1 (by decide)
      · rw [h.1] at t; exact absurd t.1 (by decide)
    · rcases t with t | t | t
      · rw [t.2.1, h.2.2, hd_2 (Or.inl h.1)]
      · rw [h.1] at t; exact absurd t.1 (by decide)
      · rw [h.1] at t; exact absurd t.1 (by decide)
    · rcases t with t | t | t
      · rw [h.1] at t; exact absurd t.1 (by decide)
      · have t1 := t.2.2.1
        rw [hd_1 (Or.inr (Or.inl h.1))] at t1
        exact nt_end hnf h.2 t1
      · rw [h.1] at t; exact absurd t.1 (by decide)
    · obtain ⟨a, -, m, h1, h2⟩ := h
      rcases t with t | t | t
      · rw [a] at t; exact absurd t.1 (by decide)
      · rw [a] at t; exact absurd t.1 (by decide)
      · obtain ⟨-, -, m', z, -, t1, t2, -⟩ := t
        rw [hd_2 (Or.inr (Or.inl a))] at t1
        have e := nt_end hnf h1 t1
        subst e
        exact nt_end hnf h2 t2
    · rcases t with t | t | t
      · rw [h.1] at t; exact absurd t.1 (by decide)
      · have t1 := t.2.2.1
        rw [hd_2 (Or.inr (Or.inr h.1))] at t1
        exact nt_end hnf h.2.2 t1
      · rw [h.1] at t; exact absurd t.1 (by decide)
    · obtain ⟨a, g, b1, b2, b3, -⟩ := h
      rcases t with t | t | t
      · rw [t.2.1, b3, hd_5 a, b1, show (nI g).toNatClampNeg = g from nI_clamp (by omega)]
        omega
      · rw [a] at t; exact absurd t.1 (by decide)
      · rw [a] at t; exact absurd t.1 (by decide)
    · obtain ⟨a, m, h1, h2⟩ := h
      rcases t with t | t | t
      · rw [a] at t; exact absurd t.1 (by decide)
      · rw [a] at t; exact absurd t.1 (by decide)
      · obtain ⟨-, -, m', z, -, t1, t2, -⟩ := t
        rw [hd_1 (Or.inr (Or.inr a))] at t1
        have e := nt_end hnf h1 t1
        subst e
        exact nt_end hnf h2 t2
/-- the part of a node with one -/
theorem nt_one {sta fir sec kno nam : Nat → Nat} {fu kn p q x y : Nat} (hk : W p = 2 ∨ W p = 4) (t : ntT W tk sta fir sec kno nam (fu + 1) kn p q x y) : fir x = x + 1 ∧ ntT W tk sta fir sec kno nam fu kn (p + hdN W tk p) q (x + 1) y := by
  obtain ⟨-, -, t⟩ := t
  rcases t with t | t | t
  · rcases hk with q | q <;> rw [q] at t <;> exact absurd t.1 (by decide)
  · exact ⟨t.2.1, t.2.2.1⟩
  · rcases hk with q | q <;> rw [q] at t <;> exact absurd t.1 (by decide)
/-- the parts of a node with two -/
theorem nt_two {E sta fir sec kno nam : Nat → Nat} {fu kn p q x y : Nat} (hnf : nf ≤ 4) (hk : W p = 3 ∨ W p = 6) (h : wf W tk nf E fu kn (p + hdN W tk p) (E (p + hdN W tk p))) (t : ntT W tk sta fir sec kno nam (fu + 1) kn p q x y) : fir x = x + 1 ∧ ntT W tk sta fir sec kno nam fu kn (p + hdN W tk p) (E (p + hdN W tk p)) (x + 1) (sec x) ∧ ntT W tk sta fir sec kno nam fu (kn + 1) (E (p + hdN W tk p)) q (sec x) y := by
  obtain ⟨-, -, t⟩ := t
  rcases t with t | t | t
  · rcases hk with q | q <;> rw [q] at t <;> exact absurd t.1 (by decide)
  · rcases hk with q | q <;> rw [q] at t <;> exact absurd t.1 (by decide)
  · obtain ⟨-, f, m, z, hz, t1, t2, -⟩ := t
    have e := nt_end hnf h t1
    subst e
    subst hz
    exact ⟨f, t1, t2⟩
end TREE
end
section
/-! worlds in another order; cells out of a pool and back -/
section POOL
variable {G : va_G} {A : Nat → Prop} {H0 H : Heap} {locs : List Loc}
theorem vaD_iff {ws : va_W} : va_D A ws ↔ (ws.map (·.1)).Nodup ∧ ∀ q ∈ ws, A q.1 := by
  constructor
  · rintro ⟨h1, h2⟩
    refine ⟨List.pairwise_iff_getElem.mpr (fun i j hi hj hij e => ?_), fun q hq => ?_⟩
    · rw [List.getElem_map, List.getElem_map] at e
      rw [List.length_map] at hi hj
      have := h1 i j _ _ (List.getElem?_eq_getElem hi) (List.getElem?_eq_getElem hj) e
      omega
    · obtain ⟨k, hk⟩ := List.getElem?_of_mem hq
      exact h2 k q hk
  · rintro ⟨h1, h2⟩
    refine ⟨fun i j p q hi hj e => ?_, fun k q hk => h2 q (List.mem_of_getElem? hk)⟩
    obtain ⟨hi1, hi2⟩ := List.getElem?_eq_some_iff.mp hi
    obtain ⟨hj1, hj2⟩ := List.getElem?_eq_some_iff.mp hj
    have hp := List.pairwise_iff_getElem.mp h1
    rcases Nat.lt_trichotomy i j with w | w | w
    · exact absurd (by rw [List.getElem_map, List.getElem_map, hi2, hj2]; exact e) (hp i j (by rw [List.length_map]; exact hi1) (by rw [List.length_map]; exact hj1) w)
    · exact w
    · exact absurd (by rw [List.getElem_map, List.getElem_map, hi2, hj2]; exact e.symm) (hp j i (by rw [List.length_map]; exact hj1) (by rw [List.length_map]; exact hi1) w)
theorem Sw.perm {ws ws' : va_W} (S : Sw G A H0 H locs ws) (h : ws.Perm ws') : Sw G A H0 H locs ws' := by
  refine ⟨fun k q hk => ?_, ?_, S.2.2⟩
  · have hq : q ∈ ws := h.mem_iff.mpr (List.mem_of_getElem? hk)
    obtain ⟨i, hi⟩ := List.getElem?_of_mem hq
    exact S.1 i q hi
  · have h1 := vaD_iff.mp S.2.1
    exact vaD_iff.mpr ⟨(h.map _).nodup_iff.mp h1.1, fun q hq => h1.2 q (h.mem_iff.mpr hq)⟩
theorem Sw.pl_nd {X : va_W} {L : List Nat} {f : Nat → va_E} (S : Sw G A H0 H locs (X ++ va_pl L f)) : L.Nodup := by
  have h := (vaD_iff.mp S.2.1).1
  rw [List.map_append, List.nodup_append] at h
  have h2 := h.2.1
  unfold va_pl at h2
  rw [List.map_map] at h2
  have e : L.map ((fun q : Nat × va_E => q.1) ∘ fun a => (a, f a)) = L := by
    rw [show ((fun q : Nat × va_E => q.1) ∘ fun a => (a, f a)) = id from rfl, List.map_id]
  rw [e] at h2
  exact h2
/-- a cell out of the pool -/
theorem Sw.out {X : va_W} {L : List Nat} {f : Nat → va_E} {a : Nat} (S : Sw G A H0 H locs (X ++ va_pl L f)) (h : a ∈ L) : Sw G A H0 H locs ((X ++ [(a, f a)]) ++ va_pl (L.erase a) f) := by
  refine S.perm ?_
  rw [List.append_assoc]
  refine List.Perm.append_left X ?_
  exact ((List.perm_cons_erase h).map (fun a => (a, f a)))
/-- and back -/
theorem Sw.into {X : va_W} {L : List Nat} {f : Nat → va_E} {a : Nat} {e : va_E} (S : Sw G A H0 H locs ((X ++ [(a, e)]) ++ va_pl (L.erase a) f)) (h : a ∈ L) (hn : L.Nodup) : Sw G A H0 H locs (X ++ va_pl L (va_up f a e)) := by
  refine S.perm ?_
  rw [List.append_assoc]
  refine List.Perm.append_left X ?_
  have h1 : (va_pl L (va_up f a e)).Perm (va_pl (a :: L.erase a) (va_up f a e)) := (List.perm_cons_erase h).map _
  refine List.Perm.trans ?_ h1.symm
  unfold va_pl
  rw [List.map_cons, va_up_self]
  have e2 : (L.erase a).map (fun b => (b, va_up f a e b)) = (L.erase a).map (fun b => (b, f b)) := by
    refine List.map_congr_left (fun b hb => ?_)
    have hne : b ≠ a := fun q => by
      subst q
      exact absurd hb (List.Nodup.not_mem_erase hn)
    rw [va_up_ne _ _ hne]
  rw [e2]
  exact List.Perm.refl _
/-- new cells go into the pool -/
theorem Sw.push {X : va_W} {L : List Nat} {f : Nat → va_E} {a : Nat} {e : va_E} (S : Sw G A H0 H locs ((X ++ [(a, e)]) ++ va_pl L f)) : a ∉ L ∧ Sw G A H0 H locs (X ++ va_pl (a :: L) (va_up f a e)) := by
  have hn := (vaD_iff.mp S.2.1).1
  have ha : a ∉ L := by
    intro q
    rw [List.map_append, List.nodup_append] at hn
    refine hn.2.2 a (by rw [List.map_append]; exact List.mem_append_right _ (by simp)) a ?_ rfl
    unfold va_pl
    rw [List.map_map]
    exact List.mem_map.mpr ⟨a, q, rfl⟩
  refine ⟨ha, S.perm ?_⟩
  rw [List.append_assoc]
  refine List.Perm.append_left X ?_
  unfold va_pl
  rw [List.map_cons, va_up_self]
  have e2 : L.map (fun b => (b, va_up f a e b)) = L.map (fun b => (b, f b)) := List.map_congr_left (fun b hb => by
    have hne : b ≠ a := fun q => ha (by rw [← q]; exact hb)
    rw [va_up_ne _ _ hne])
  rw [e2]
  exact List.Perm.refl _
theorem Sw.pl_congr {X : va_W} {L : List Nat} {f g : Nat → va_E} (S : Sw G A H0 H locs (X ++ va_pl L f)) (h : ∀ a ∈ L, f a = g a) : Sw G A H0 H locs (X ++ va_pl L g) := by
  have e : va_pl L f = va_pl L g := List.map_congr_left (fun b hb => by rw [h b hb])
  rw [← e]; exact S
end POOL
theorem ap_in {X pl wi : va_W} {is : List Nat} (h : is.map (fun i => X[i]?) = wi.map some) : is.map (fun i => (X ++ pl)[i]?) = wi.map some := by
  rw [← h]
  apply List.map_congr_left
  intro i hi
  have h1 : X[i]? ∈ is.map (fun i => X[i]?) := List.mem_map.mpr ⟨i, hi, rfl⟩
  rw [h] at h1
  obtain ⟨q, -, hq⟩ := List.mem_map.mp h1
  exact List.getElem?_append_left (List.getElem?_eq_some_iff.mp hq.symm).1
theorem arrV_eq {cA : ClassId} {n : Nat} {f f' : Nat → Value} (h : ∀ i, i < n → f i = f' i) : arrV cA n f = arrV cA n f' := by
  unfold arrV
  have e : (fun j : Fin n => f j.val) = fun j : Fin n => f' j.val := funext (fun j => h j.val j.isLt)
  rw [e]
/-- an array's content matters below its length alone -/
theorem Sw.arr {G : va_G} {A : Nat → Prop} {H0 H : Heap} {locs : List Loc} {ws ws' : va_W} (S : Sw G A H0 H locs ws) (j : Nat) {a : Nat} {cA : ClassId} {n : Nat} {f f' : Nat → Int32} (hj : ws[j]? = some (a, .inl (cA, n, .inl f))) (h : ∀ i, i < n → f i = f' i) (hw : ws.set j (a, .inl (cA, n, .inl f')) = ws') : Sw G A H0 H locs ws' := by
  subst hw
  have hjl : j < ws.length := (List.getElem?_eq_some_iff.mp hj).1
  refine ⟨fun k q hk => ?_, ?_, S.2.2⟩
  · by_cases w : j = k
    · subst w
      rw [List.getElem?_set_self hjl] at hk
      obtain rfl := Option.some.inj hk
      have h1 : H[a]? = some (vp_cell cA (n, .inl f)) := S.1 j _ hj
      show H[a]? = some (vp_cell cA (n, .inl f'))
      rw [h1, vp_cell_i, vp_cell_i, arrV_eq (f' := fun i => Value.int (f' i)) (fun i hi => by rw [h i hi])]
    · rw [List.getElem?_set_ne w] at hk
      exact S.1 k q hk
  · have h1 := vaD_iff.mp S.2.1
    have e : (ws.set j (a, (.inl (cA, n, .inl f') : va_E))).map (·.1) = ws.map (·.1) := by
      rw [List.map_set]
      apply List.ext_getElem?
      intro i
      by_cases w : j = i
      · subst w
        rw [List.getElem?_set_self (by rw [List.length_map]; exact hjl), List.getElem?_map, hj]; rfl
      · rw [List.getElem?_set_ne w]
    refine vaD_iff.mpr ⟨by rw [e]; exact h1.1, fun q hq => ?_⟩
    have h2 : q.1 ∈ (ws.set j (a, (.inl (cA, n, .inl f') : va_E))).map (·.1) := List.mem_map.mpr ⟨q, hq, rfl⟩
    rw [e] at h2
    obtain ⟨q2, hq2, hq3⟩ := List.mem_map.mp h2
    rw [← hq3]; exact h1.2 q2 hq2
end
section
/-- where the bodies are, and how many lists they take -/
def bfO (bf : Nat → Option Nat) (tk : Nat → Nat) (nf bc o1 o2 o3 tk9 t1 t2 t3 : Nat) : Prop := ∀ g, g < nf → (bf g = some bc ∧ tk9 = tk g) ∨ (bf g = some o1 ∧ t1 = tk g) ∨ (bf g = some o2 ∧ t2 = tk g) ∨ (bf g = some o3 ∧ t3 = tk g)
theorem d_Re_expression_0 : decode c_Re_expression 0 = .ok (.aload_n 0, 1) := by decide +kernel
theorem d_Re_expression_1 : decode c_Re_expression 1 = .ok (.getfield 9, 3) := by decide +kernel
theorem d_Re_expression_4 : decode c_Re_expression 4 = .ok (.bipush (-2), 2) := by decide +kernel
theorem d_Re_expression_6 : decode c_Re_expression 6 = .ok (.if_icmp .ne 29, 3) := by decide +kernel
theorem d_Re_expression_9 : decode c_Re_expression 9 = .ok (.iload_n 2, 1) := by decide +kernel
theorem d_Re_expression_10 : decode c_Re_expression 10 = .ok (.bipush 16, 2) := by decide +kernel
theorem d_Re_expression_12 : decode c_Re_expression 12 = .ok (.if_icmp .gt 15, 3) := by decide +kernel
theorem d_Re_expression_15 : decode c_Re_expression 15 = .ok (.aload_n 0, 1) := by decide +kernel
theorem d_Re_expression_16 : decode c_Re_expression 16 = .ok (.getfield 19, 3) := by decide +kernel
theorem d_Re_expression_19 : decode c_Re_expression 19 = .ok (.getfield 29, 3) := by decide +kernel
theorem d_Re_expression_22 : decode c_Re_expression 22 = .ok (.bipush 40, 2) := by decide +kernel
theorem d_Re_expression_24 : decode c_Re_expression 24 = .ok (.if_icmp .ne 11, 3) := by decide +kernel
theorem d_Re_expression_27 : decode c_Re_expression 27 = .ok (.aload_n 0, 1) := by decide +kernel
theorem d_Re_expression_28 : decode c_Re_expression 28 = .ok (.aload_n 0, 1) := by decide +kernel
theorem d_Re_expression_29 : decode c_Re_expression 29 = .ok (.getfield 26, 3) := by decide +kernel
theorem d_Re_expression_32 : decode c_Re_expression 32 = .ok (.putfield 9, 3) := by decide +kernel
theorem d_Re_expression_35 : decode c_Re_expression 35 = .ok (.aload_n 0, 1) := by decide +kernel
theorem d_Re_expression_36 : decode c_Re_expression 36 = .ok (.iconst 0, 1) := by decide +kernel
theorem d_Re_expression_37 : decode c_Re_expression 37 = .ok (.bipush 6, 2) := by decide +kernel
theorem d_Re_expression_39 : decode c_Re_expression 39 = .ok (.invokevirtual 44, 3) := by decide +kernel
theorem d_Re_expression_42 : decode c_Re_expression 42 = .ok (.istore_n 3, 1) := by decide +kernel
theorem d_Re_expression_43 : decode c_Re_expression 43 = .ok (.aload_n 0, 1) := by decide +kernel
theorem d_Re_expression_44 : decode c_Re_expression 44 = .ok (.getfield 9, 3) := by decide +kernel
theorem d_Re_expression_47 : decode c_Re_expression 47 = .ok (.bipush (-2), 2) := by decide +kernel
theorem d_Re_expression_49 : decode c_Re_expression 49 = .ok (.if_icmp .eq 5, 3) := by decide +kernel
theorem d_Re_expression_52 : decode c_Re_expression 52 = .ok (.iconst 0, 1) := by decide +kernel
theorem d_Re_expression_53 : decode c_Re_expression 53 = .ok (.ireturn, 1) := by decide +kernel
theorem d_Re_expression_54 : decode c_Re_expression 54 = .ok (.aload_n 0, 1) := by decide +kernel
theorem d_Re_expression_55 : decode c_Re_expression 55 = .ok (.getfield 19, 3) := by decide +kernel
theorem d_Re_expression_58 : decode c_Re_expression 58 = .ok (.aload_n 0, 1) := by decide +kernel
theorem d_Re_expression_59 : decode c_Re_expression 59 = .ok (.getfield 26, 3) := by decide +kernel
theorem d_Re_expression_62 : decode c_Re_expression 62 = .ok (.iconst 1, 1) := by decide +kernel
theorem d_Re_expression_63 : decode c_Re_expression 63 = .ok (.isub, 1) := by decide +kernel
theorem d_Re_expression_64 : decode c_Re_expression 64 = .ok (.iload_n 1, 1) := by decide +kernel
theorem d_Re_expression_65 : decode c_Re_expression 65 = .ok (.invokevirtual 47, 3) := by decide +kernel
theorem d_Re_expression_68 : decode c_Re_expression 68 = .ok (.istore 4, 2) := by decide +kernel
theorem d_Re_expression_70 : decode c_Re_expression 70 = .ok (.iload_n 3, 1) := by decide +kernel
theorem d_Re_expression_71 : decode c_Re_expression 71 = .ok (.tableswitch 95 0 5 #[37, 40, 95, 78, 49, 69], 37) := by decide +kernel
theorem d_Re_expression_108 : decode c_Re_expression 108 = .ok (.goto 76, 3) := by decide +kernel
theorem d_Re_expression_111 : decode c_Re_expression 111 = .ok (.aload_n 0, 1) := by decide +kernel
theorem d_Re_expression_112 : decode c_Re_expression 112 = .ok (.iload 4, 2) := by decide +kernel
theorem d_Re_expression_114 : decode c_Re_expression 114 = .ok (.invokevirtual 50, 3) := by decide +kernel
theorem d_Re_expression_117 : decode c_Re_expression 117 = .ok (.goto 67, 3) := by decide +kernel
theorem d_Re_expression_120 : decode c_Re_expression 120 = .ok (.aload_n 0, 1) := by decide +kernel
theorem d_Re_expression_121 : decode c_Re_expression 121 = .ok (.iconst 0, 1) := by decide +kernel
theorem d_Re_expression_122 : decode c_Re_expression 122 = .ok (.sipush 1000, 3) := by decide +kernel
theorem d_Re_expression_125 : decode c_Re_expression 125 = .ok (.invokevirtual 44, 3) := by decide +kernel
theorem d_Re_expression_128 : decode c_Re_expression 128 = .ok (.pop, 1) := by decide +kernel
theorem d_Re_expression_129 : decode c_Re_expression 129 = .ok (.aload_n 0, 1) := by decide +kernel
theorem d_Re_expression_130 : decode c_Re_expression 130 = .ok (.iload 4, 2) := by decide +kernel
theorem d_Re_expression_132 : decode c_Re_expression 132 = .ok (.iload_n 2, 1) := by decide +kernel
theorem d_Re_expression_133 : decode c_Re_expression 133 = .ok (.iconst 0, 1) := by decide +kernel
theorem d_Re_expression_134 : decode c_Re_expression 134 = .ok (.invokevirtual 54, 3) := by decide +kernel
theorem d_Re_expression_137 : decode c_Re_expression 137 = .ok (.goto 47, 3) := by decide +kernel
theorem d_Re_expression_140 : decode c_Re_expression 140 = .ok (.aload_n 0, 1) := by decide +kernel
theorem d_Re_expression_141 : decode c_Re_expression 141 = .ok (.iload 4, 2) := by decide +kernel
theorem d_Re_expression_143 : decode c_Re_expression 143 = .ok (.invokevirtual 58, 3) := by decide +kernel
theorem d_Re_expression_146 : decode c_Re_expression 146 = .ok (.goto 38, 3) := by decide +kernel
theorem d_Re_expression_149 : decode c_Re_expression 149 = .ok (.aload_n 0, 1) := by decide +kernel
theorem d_Re_expression_150 : decode c_Re_expression 150 = .ok (.iload 4, 2) := by decide +kernel
theorem d_Re_expression_152 : decode c_Re_expression 152 = .ok (.invokevirtual 50, 3) := by decide +kernel
theorem d_Re_expression_155 : decode c_Re_expression 155 = .ok (.aload_n 0, 1) := by decide +kernel
theorem d_Re_expression_156 : decode c_Re_expression 156 = .ok (.iload 4, 2) := by decide +kernel
theorem d_Re_expression_158 : decode c_Re_expression 158 = .ok (.iload_n 2, 1) := by decide +kernel
theorem d_Re_expression_159 : decode c_Re_expression 159 = .ok (.iconst 1, 1) := by decide +kernel
theorem d_Re_expression_160 : decode c_Re_expression 160 = .ok (.invokevirtual 54, 3) := by decide +kernel
theorem d_Re_expression_163 : decode c_Re_expression 163 = .ok (.goto 21, 3) := by decide +kernel
theorem d_Re_expression_166 : decode c_Re_expression 166 = .ok (.aload_n 0, 1) := by decide +kernel
theorem d_Re_expression_167 : decode c_Re_expression 167 = .ok (.iload 4, 2) := by decide +kernel
theorem d_Re_expression_169 : decode c_Re_expression 169 = .ok (.iload_n 2, 1) := by decide +kernel
theorem d_Re_expression_170 : decode c_Re_expression 170 = .ok (.iload_n 3, 1) := by decide +kernel
theorem d_Re_expression_171 : decode c_Re_expression 171 = .ok (.bipush 6, 2) := by decide +kernel
theorem d_Re_expression_173 : decode c_Re_expression 173 = .ok (.if_icmp .ne 7, 3) := by decide +kernel
theorem d_Re_expression_176 : decode c_Re_expression 176 = .ok (.iconst 1, 1) := by decide +kernel
theorem d_Re_expression_177 : decode c_Re_expression 177 = .ok (.goto 4, 3) := by decide +kernel
theorem d_Re_expression_180 : decode c_Re_expression 180 = .ok (.iconst 0, 1) := by decide +kernel
theorem d_Re_expression_181 : decode c_Re_expression 181 = .ok (.invokevirtual 54, 3) := by decide +kernel
theorem d_Re_expression_184 : decode c_Re_expression 184 = .ok (.iload 4, 2) := by decide +kernel
theorem d_Re_expression_186 : decode c_Re_expression 186 = .ok (.ireturn, 1) := by decide +kernel
set_option maxRecDepth 100000 in
set_option maxHeartbeats 16000000 in
/-- expression, a place is wrong -/
theorem g_Re_expression_w (l : Launch) (G : va_G) (k : Nat → ClassId) (h0 : Nat) (s0 : Nat) (kn : Int32) (dp : Int32) (wr9 : Int32) (ra : Nat) (bc : Nat) (nf : Nat) (nx : Nat) (bw : Nat) (bst : Nat) (bfi : Nat) (bse : Nat) (bkn : Nat) (bnm : Nat) (tk9 : Nat) (sz9 : Nat) (nd9 : Nat) (wd : Nat → Int32) (hwr : wr9 ≠ -2) : CI l y_Re_expression c_Re_expression 5 .int { frames := 1, cells := 0, slots := 0, locals := 22 } [.ref h0, .int kn, .int dp] G k s0 [(h0, .inr (5, [.ref ra, .ref bc, .int (nI nf), .int (nI nx), .int wr9])), (bc, .inr (4, [.ref bw, .ref bst, .ref bfi, .ref bse, .ref bkn, .ref bnm, .int (nI tk9), .int (nI sz9), .int (nI nd9)])), (bw, .inl (k 0, 200, .inl wd))] (fun (r : Int32) (u : Unit) => r = 0 ∧ True) (fun u => [(h0, .inr (5, [.ref ra, .ref bc, .int (nI nf), .int (nI nx), .int wr9])), (bc, .inr (4, [.ref bw, .ref bst, .ref bfi, .ref bse, .ref bkn, .ref bnm, .int (nI tk9), .int (nI sz9), .int (nI nd9)])), (bw, .inl (k 0, 200, .inl wd))]) 0 0 := by
  refine met_start (by decide) (Nat.le_of_ble_eq_true rfl) ?_
  intro p e s m below meth c C K hA hsz S ls hl
  generalize va_A [(h0, .inr (5, [.ref ra, .ref bc, .int (nI nf), .int (nI nx), .int wr9])), (bc, .inr (4, [.ref bw, .ref bst, .ref bfi, .ref bse, .ref bkn, .ref bnm, .int (nI tk9), .int (nI sz9), .int (nI nd9)])), (bw, .inl (k 0, 200, .inl wd))] s0 = A at hA S ⊢
  have hx := C.1
  have hb := C.2.1
  have hl : lv_has ls 5 [(0, .ref h0), (1, .int kn), (2, .int dp)] := hl
  refine lv_aload_n hx hb d_Re_expression_0 rfl (lv_at hl 0 rfl) ?_
  refine r_get C K S 0 rfl rfl clOk_Re 4 (by decide) wf_Re_9 (v := .int wr9) rfl d_Re_expression_1 ?_
  refine lv_bipush (v := (-2)) hx hb d_Re_expression_4 (by decide) ?_
  refine lv_icmp_ne (tgt := 35) hx hb d_Re_expression_6 (by decide) (fun _ => ?_) (fun hq => absurd hq hwr)
  refine lv_aload_n hx hb d_Re_expression_35 rfl (lv_at hl 0 rfl) ?_
  refine lv_iconst (v := 0) hx hb d_Re_expression_36 (by decide) ?_
  refine lv_bipush (v := 6) hx hb d_Re_expression_37 (by decide) ?_
  refine r_backi (wi := [(h0, .inr (5, [.ref ra, .ref bc, .int (nI nf), .int (nI nx), .int wr9])), (bc, .inr (4, [.ref bw, .ref bst, .ref bfi, .ref bse, .ref bkn, .ref bnm, .int (nI tk9), .int (nI sz9), .int (nI nd9)])), (bw, .inl (k 0, 200, .inl wd))]) (wr := []) S hA [0, 1, 2] [] rfl rfl (by decide) (by decide) (va_runV (As := [.int 0, .int 6]) (rest := []) ⟨hx, hb, C.2.2.1, C.2.2.2.1, C.2.2.2.2.1⟩ (g_Re_number_w l G k h0 _ 0 6 wr9 ra bc nf nx bw bst bfi bse bkn bnm tk9 sz9 nd9 wd hwr) (k_virt (n := 2) C wc_Re_number rfl rfl wz_Re wm_Re_44 wn_Re_number ws_Re_number (by decide +kernel) ⟨(Nat.le_of_ble_eq_true rfl), (Nat.le_of_ble_eq_true rfl)⟩) (pr_nowV K S [0, 1, 2] (by decide) rfl 0 rfl rfl) rfl rfl hl.1 rfl (lv_room (Nat.le_of_ble_eq_true rfl)) d_Re_expression_39 ⟨(Nat.le_of_ble_eq_true rfl), (Nat.le_of_ble_eq_true rfl)⟩) (fun r3 u1 H locs hw2 S => ?_)
  have S : Sw G A s.heap _ _ [(h0, .inr (5, [.ref ra, .ref bc, .int (nI nf), .int (nI nx), .int wr9])), (bc, .inr (4, [.ref bw, .ref bst, .ref bfi, .ref bse, .ref bkn, .ref bnm, .int (nI tk9), .int (nI sz9), .int (nI nd9)])), (bw, .inl (k 0, 200, .inl wd))] := S
  obtain ⟨hw20, hp4⟩ := hw2
  obtain rfl : r3 = 0 := hw20
  refine lv_istore_n (lv' := [(3, .int 0), (0, .ref h0), (1, .int kn), (2, .int dp)]) hx hb d_Re_expression_42 rfl hl (by decide) rfl (fun ls hl => ?_)
  refine lv_aload_n hx hb d_Re_expression_43 rfl (lv_at hl 1 rfl) ?_
  refine r_get C K S 0 rfl rfl clOk_Re 4 (by decide) wf_Re_9 (v := .int wr9) rfl d_Re_expression_44 ?_
  refine lv_bipush (v := (-2)) hx hb d_Re_expression_47 (by decide) ?_
  refine lv_icmp_eq (tgt := 54) hx hb d_Re_expression_49 (by decide) (fun hq => absurd hq hwr) (fun _ => ?_)
  refine lv_iconst (v := 0) hx hb d_Re_expression_52 (by decide) ?_
  exact r_iret C K rfl () ⟨rfl, trivial⟩ (S.sub [0, 1, 2] (by decide) rfl) d_Re_expression_53 (Nat.le_of_ble_eq_true rfl) (Nat.le_of_ble_eq_true rfl)
theorem d_Re_parts_0 : decode c_Re_parts 0 = .ok (.aload_n 0, 1) := by decide +kernel
theorem d_Re_parts_1 : decode c_Re_parts 1 = .ok (.aload_n 0, 1) := by decide +kernel
theorem d_Re_parts_2 : decode c_Re_parts 2 = .ok (.getfield 19, 3) := by decide +kernel
theorem d_Re_parts_5 : decode c_Re_parts 5 = .ok (.getfield 61, 3) := by decide +kernel
theorem d_Re_parts_8 : decode c_Re_parts 8 = .ok (.iload_n 1, 1) := by decide +kernel
theorem d_Re_parts_9 : decode c_Re_parts 9 = .ok (.iaload, 1) := by decide +kernel
theorem d_Re_parts_10 : decode c_Re_parts 10 = .ok (.iload_n 2, 1) := by decide +kernel
theorem d_Re_parts_11 : decode c_Re_parts 11 = .ok (.iconst 1, 1) := by decide +kernel
theorem d_Re_parts_12 : decode c_Re_parts 12 = .ok (.iadd, 1) := by decide +kernel
theorem d_Re_parts_13 : decode c_Re_parts 13 = .ok (.invokevirtual 37, 3) := by decide +kernel
theorem d_Re_parts_16 : decode c_Re_parts 16 = .ok (.istore 4, 2) := by decide +kernel
theorem d_Re_parts_18 : decode c_Re_parts 18 = .ok (.aload_n 0, 1) := by decide +kernel
theorem d_Re_parts_19 : decode c_Re_parts 19 = .ok (.getfield 19, 3) := by decide +kernel
theorem d_Re_parts_22 : decode c_Re_parts 22 = .ok (.getfield 65, 3) := by decide +kernel
theorem d_Re_parts_25 : decode c_Re_parts 25 = .ok (.iload_n 1, 1) := by decide +kernel
theorem d_Re_parts_26 : decode c_Re_parts 26 = .ok (.iload 4, 2) := by decide +kernel
theorem d_Re_parts_28 : decode c_Re_parts 28 = .ok (.iastore, 1) := by decide +kernel
theorem d_Re_parts_29 : decode c_Re_parts 29 = .ok (.aload_n 0, 1) := by decide +kernel
theorem d_Re_parts_30 : decode c_Re_parts 30 = .ok (.getfield 19, 3) := by decide +kernel
theorem d_Re_parts_33 : decode c_Re_parts 33 = .ok (.getfield 68, 3) := by decide +kernel
theorem d_Re_parts_36 : decode c_Re_parts 36 = .ok (.iload_n 1, 1) := by decide +kernel
theorem d_Re_parts_37 : decode c_Re_parts 37 = .ok (.dup2, 1) := by decide +kernel
theorem d_Re_parts_38 : decode c_Re_parts 38 = .ok (.iaload, 1) := by decide +kernel
theorem d_Re_parts_39 : decode c_Re_parts 39 = .ok (.aload_n 0, 1) := by decide +kernel
theorem d_Re_parts_40 : decode c_Re_parts 40 = .ok (.getfield 19, 3) := by decide +kernel
theorem d_Re_parts_43 : decode c_Re_parts 43 = .ok (.getfield 68, 3) := by decide +kernel
theorem d_Re_parts_46 : decode c_Re_parts 46 = .ok (.iload 4, 2) := by decide +kernel
theorem d_Re_parts_48 : decode c_Re_parts 48 = .ok (.iaload, 1) := by decide +kernel
theorem d_Re_parts_49 : decode c_Re_parts 49 = .ok (.ior, 1) := by decide +kernel
theorem d_Re_parts_50 : decode c_Re_parts 50 = .ok (.iastore, 1) := by decide +kernel
theorem d_Re_parts_51 : decode c_Re_parts 51 = .ok (.iload_n 3, 1) := by decide +kernel
theorem d_Re_parts_52 : decode c_Re_parts 52 = .ok (.ifCond .eq 56, 3) := by decide +kernel
theorem d_Re_parts_55 : decode c_Re_parts 55 = .ok (.aload_n 0, 1) := by decide +kernel
theorem d_Re_parts_56 : decode c_Re_parts 56 = .ok (.aload_n 0, 1) := by decide +kernel
theorem d_Re_parts_57 : decode c_Re_parts 57 = .ok (.getfield 19, 3) := by decide +kernel
theorem d_Re_parts_60 : decode c_Re_parts 60 = .ok (.getfield 61, 3) := by decide +kernel
theorem d_Re_parts_63 : decode c_Re_parts 63 = .ok (.iload_n 1, 1) := by decide +kernel
theorem d_Re_parts_64 : decode c_Re_parts 64 = .ok (.iaload, 1) := by decide +kernel
theorem d_Re_parts_65 : decode c_Re_parts 65 = .ok (.iconst 1, 1) := by decide +kernel
theorem d_Re_parts_66 : decode c_Re_parts 66 = .ok (.iadd, 1) := by decide +kernel
theorem d_Re_parts_67 : decode c_Re_parts 67 = .ok (.iload_n 2, 1) := by decide +kernel
theorem d_Re_parts_68 : decode c_Re_parts 68 = .ok (.iconst 1, 1) := by decide +kernel
theorem d_Re_parts_69 : decode c_Re_parts 69 = .ok (.iadd, 1) := by decide +kernel
theorem d_Re_parts_70 : decode c_Re_parts 70 = .ok (.invokevirtual 37, 3) := by decide +kernel
theorem d_Re_parts_73 : decode c_Re_parts 73 = .ok (.istore 5, 2) := by decide +kernel
theorem d_Re_parts_75 : decode c_Re_parts 75 = .ok (.aload_n 0, 1) := by decide +kernel
theorem d_Re_parts_76 : decode c_Re_parts 76 = .ok (.getfield 19, 3) := by decide +kernel
theorem d_Re_parts_79 : decode c_Re_parts 79 = .ok (.getfield 71, 3) := by decide +kernel
theorem d_Re_parts_82 : decode c_Re_parts 82 = .ok (.iload_n 1, 1) := by decide +kernel
theorem d_Re_parts_83 : decode c_Re_parts 83 = .ok (.iload 5, 2) := by decide +kernel
theorem d_Re_parts_85 : decode c_Re_parts 85 = .ok (.iastore, 1) := by decide +kernel
theorem d_Re_parts_86 : decode c_Re_parts 86 = .ok (.aload_n 0, 1) := by decide +kernel
theorem d_Re_parts_87 : decode c_Re_parts 87 = .ok (.getfield 19, 3) := by decide +kernel
theorem d_Re_parts_90 : decode c_Re_parts 90 = .ok (.getfield 68, 3) := by decide +kernel
theorem d_Re_parts_93 : decode c_Re_parts 93 = .ok (.iload_n 1, 1) := by decide +kernel
theorem d_Re_parts_94 : decode c_Re_parts 94 = .ok (.dup2, 1) := by decide +kernel
theorem d_Re_parts_95 : decode c_Re_parts 95 = .ok (.iaload, 1) := by decide +kernel
theorem d_Re_parts_96 : decode c_Re_parts 96 = .ok (.aload_n 0, 1) := by decide +kernel
theorem d_Re_parts_97 : decode c_Re_parts 97 = .ok (.getfield 19, 3) := by decide +kernel
theorem d_Re_parts_100 : decode c_Re_parts 100 = .ok (.getfield 68, 3) := by decide +kernel
theorem d_Re_parts_103 : decode c_Re_parts 103 = .ok (.iload 5, 2) := by decide +kernel
theorem d_Re_parts_105 : decode c_Re_parts 105 = .ok (.iaload, 1) := by decide +kernel
theorem d_Re_parts_106 : decode c_Re_parts 106 = .ok (.ior, 1) := by decide +kernel
theorem d_Re_parts_107 : decode c_Re_parts 107 = .ok (.iastore, 1) := by decide +kernel
theorem d_Re_parts_108 : decode c_Re_parts 108 = .ok (.return_, 1) := by decide +kernel
set_option maxRecDepth 100000 in
set_option maxHeartbeats 16000000 in
/-- parts, a place is wrong -/
theorem g_Re_parts_w1 (l : Launch) (G : va_G) (k : Nat → ClassId) (h0 : Nat) (s0 : Nat) (x9 : Nat) (dp : Nat) (wr9 : Int32) (ra : Nat) (bc : Nat) (nf : Nat) (nx : Nat) (bw : Nat) (bst : Nat) (bfi : Nat) (bse : Nat) (bkn : Nat) (bnm : Nat) (tk9 : Nat) (sz9 : Nat) (nd9 : Nat) (wd : Nat → Int32) (fir : Nat → Nat) (sec : Nat → Nat) (kno : Nat → Nat) (nam : Nat → Nat) (hx9 : x9 < 40) (hwr : wr9 ≠ -2) : CV l y_Re_parts c_Re_parts 6 { frames := 2, cells := 0, slots := 0, locals := 46 } [.ref h0, .int (nI x9), .int (nI dp), .int 0] G k s0 [(h0, .inr (5, [.ref ra, .ref bc, .int (nI nf), .int (nI nx), .int wr9])), (bc, .inr (4, [.ref bw, .ref bst, .ref bfi, .ref bse, .ref bkn, .ref bnm, .int (nI tk9), .int (nI sz9), .int (nI nd9)])), (bw, .inl (k 0, 200, .inl wd)), (bfi, .inl (k 0, 40, .inl (fun i => nI (fir i)))), (bse, .inl (k 0, 40, .inl (fun i => nI (sec i)))), (bkn, .inl (k 0, 40, .inl (fun i => nI (kno i)))), (bnm, .inl (k 0, 40, .inl (fun i => nI (nam i))))] (fun (u : (Nat → Nat) × (Nat → Nat) × (Nat → Nat)) => True) (fun u => [(h0, .inr (5, [.ref ra, .ref bc, .int (nI nf), .int (nI nx), .int wr9])), (bc, .inr (4, [.ref bw, .ref bst, .ref bfi, .ref bse, .ref bkn, .ref bnm, .int (nI tk9), .int (nI sz9), .int (nI nd9)])), (bw, .inl (k 0, 200, .inl wd)), (bfi, .inl (k 0, 40, .inl (fun i => nI (u.1 i)))), (bse, .inl (k 0, 40, .inl (fun i => nI (u.2.1 i)))), (bkn, .inl (k 0, 40, .inl (fun i => nI (kno i)))), (bnm, .inl (k 0, 40, .inl (fun i => nI (u.2.2 i))))]) 0 0 := by
  refine met_start (by decide) (Nat.le_of_ble_eq_true rfl) ?_
  intro p e s m below meth c C K hA hsz S ls hl
  generalize va_A [(h0, .inr (5, [.ref ra, .ref bc, .int (nI nf), .int (nI nx), .int wr9])), (bc, .inr (4, [.ref bw, .ref bst, .ref bfi, .ref bse, .ref bkn, .ref bnm, .int (nI tk9), .int (nI sz9), .int (nI nd9)])), (bw, .inl (k 0, 200, .inl wd)), (bfi, .inl (k 0, 40, .inl (fun i => nI (fir i)))), (bse, .inl (k 0, 40, .inl (fun i => nI (sec i)))), (bkn, .inl (k 0, 40, .inl (fun i => nI (kno i)))), (bnm, .inl (k 0, 40, .inl (fun i => nI (nam i))))] s0 = A at hA S ⊢
  have hx := C.1
  have hb := C.2.1
  have hl : lv_has ls 6 [(0, .ref h0), (1, .int (nI x9)), (2, .int (nI dp)), (3, .int 0)] := hl
  refine lv_aload_n hx hb d_Re_parts_0 rfl (lv_at hl 0 rfl) ?_
  refine lv_aload_n hx hb d_Re_parts_1 rfl (lv_at hl 0 rfl) ?_
  refine r_get C K S 0 rfl rfl clOk_Re 1 (by decide) wf_Re_19 (v := .ref bc) rfl d_Re_parts_2 ?_
  refine r_getN C K S 1 rfl rfl clOk_Bo 4 (by decide) xf_Re_61 (v := .ref bkn) rfl d_Re_parts_5 ?_
  refine lv_iload_n hx hb d_Re_parts_8 rfl (lv_at hl 1 rfl) ?_
  refine r_iald C K S 5 rfl (i := nI x9) (show vp_in (nI x9) _ from vp_in_nI (n := x9) (by omega) (by decide)) (v := nI (kno x9)) (by rw [nI_clamp (by omega)]) d_Re_parts_9 ?_
  refine lv_iload_n hx hb d_Re_parts_10 rfl (lv_at hl 2 rfl) ?_
  refine lv_iconst (v := 1) hx hb d_Re_parts_11 (by decide) ?_
  refine z_iadd (x := nI dp) (y := 1) (v := nI (dp + 1)) hx hb d_Re_parts_12 (nI_add dp 1) ?_
  refine r_backi (wi := [(h0, .inr (5, [.ref ra, .ref bc, .int (nI nf), .int (nI nx), .int wr9])), (bc, .inr (4, [.ref bw, .ref bst, .ref bfi, .ref bse, .ref bkn, .ref bnm, .int (nI tk9), .int (nI sz9), .int (nI nd9)])), (bw, .inl (k 0, 200, .inl wd))]) (wr := [(bfi, .inl (k 0, 40, .inl (fun i => nI (fir i)))), (bse, .inl (k 0, 40, .inl (fun i => nI (sec i)))), (bkn, .inl (k 0, 40, .inl (fun i => nI (kno i)))), (bnm, .inl (k 0, 40, .inl (fun i => nI (nam i))))]) S hA [0, 1, 2] [3, 4, 5, 6] rfl rfl (by decide) (by decide) (va_runV (As := [.int (nI (kno x9)), .int (nI (dp + 1))]) (rest := []) ⟨hx, hb, C.2.2.1, C.2.2.2.1, C.2.2.2.2.1⟩ (g_Re_expression_w l G k h0 _ (nI (kno x9)) (nI (dp + 1)) wr9 ra bc nf nx bw bst bfi bse bkn bnm tk9 sz9 nd9 wd hwr) (k_virt (n := 2) C wc_Re_expression rfl rfl wz_Re wm_Re_37 wn_Re_expression ws_Re_expression (by decide +kernel) ⟨(Nat.le_of_ble_eq_true rfl), (Nat.le_of_ble_eq_true rfl)⟩) (pr_nowV K S [0, 1, 2] (by decide) rfl 0 rfl rfl) rfl rfl hl.1 rfl (lv_room (Nat.le_of_ble_eq_true rfl)) d_Re_parts_13 ⟨(Nat.le_of_ble_eq_true rfl), (Nat.le_of_ble_eq_true rfl)⟩) (fun r3 u1 H locs hw2 S => ?_)
  have S : Sw G A s.heap _ _ [(bfi, .inl (k 0, 40, .inl (fun i => nI (fir i)))), (bse, .inl (k 0, 40, .inl (fun i => nI (sec i)))), (bkn, .inl (k 0, 40, .inl (fun i => nI (kno i)))), (bnm, .inl (k 0, 40, .inl (fun i => nI (nam i)))), (h0, .inr (5, [.ref ra, .ref bc, .int (nI nf), .int (nI nx), .int wr9])), (bc, .inr (4, [.ref bw, .ref bst, .ref bfi, .ref bse, .ref bkn, .ref bnm, .int (nI tk9), .int (nI sz9), .int (nI nd9)])), (bw, .inl (k 0, 200, .inl wd))] := S
  obtain ⟨hw20, hp4⟩ := hw2
  obtain rfl : r3 = 0 := hw20
  refine lv_istore (lv' := [(4, .int 0), (0, .ref h0), (1, .int (nI x9)), (2, .int (nI dp)), (3, .int 0)]) hx hb d_Re_parts_16 hl (by decide) rfl (fun ls hl => ?_)
  refine lv_aload_n hx hb d_Re_parts_18 rfl (lv_at hl 1 rfl) ?_
  refine r_get C K S 4 rfl rfl clOk_Re 1 (by decide) wf_Re_19 (v := .ref bc) rfl d_Re_parts_19 ?_
  refine r_getN C K S 5 rfl rfl clOk_Bo 2 (by decide) xf_Re_65 (v := .ref bfi) rfl d_Re_parts_22 ?_
  refine lv_iload_n hx hb d_Re_parts_25 rfl (lv_at hl 2 rfl) ?_
  refine lv_iload hx hb d_Re_parts_26 (lv_at hl 0 rfl) ?_
  refine r_iast C K S 0 rfl (i := nI x9) (x := 0) (show vp_in (nI x9) _ from vp_in_nI (n := x9) (by omega) (by decide)) (f' := fun i => nI (va_up fir x9 0 i)) (ws' := [(bfi, .inl (k 0, 40, .inl (fun i => nI (va_up fir x9 0 i)))), (bse, .inl (k 0, 40, .inl (fun i => nI (sec i)))), (bkn, .inl (k 0, 40, .inl (fun i => nI (kno i)))), (bnm, .inl (k 0, 40, .inl (fun i => nI (nam i)))), (h0, .inr (5, [.ref ra, .ref bc, .int (nI nf), .int (nI nx), .int wr9])), (bc, .inr (4, [.ref bw, .ref bst, .ref bfi, .ref bse, .ref bkn, .ref bnm, .int (nI tk9), .int (nI sz9), .int (nI nd9)])), (bw, .inl (k 0, 200, .inl wd))]) (show upd _ (nI x9 : Int32).toNatClampNeg 0 = _ from upd_nI fir (j := x9) (by omega) 0) rfl d_Re_parts_28 (fun H locs S => ?_)
  refine lv_aload_n hx hb d_Re_parts_29 rfl (lv_at hl 1 rfl) ?_
  refine r_get C K S 4 rfl rfl clOk_Re 1 (by decide) wf_Re_19 (v := .ref bc) rfl d_Re_parts_30 ?_
  refine r_getN C K S 5 rfl rfl clOk_Bo 5 (by decide) xf_Re_68 (v := .ref bnm) rfl d_Re_parts_33 ?_
  refine lv_iload_n hx hb d_Re_parts_36 rfl (lv_at hl 2 rfl) ?_
  refine lv_dup2_11 hx hb d_Re_parts_37 rfl rfl ?_
  refine r_iald C K S 3 rfl (i := nI x9) (show vp_in (nI x9) _ from vp_in_nI (n := x9) (by omega) (by decide)) (v := nI (nam x9)) (by rw [nI_clamp (by omega)]) d_Re_parts_38 ?_
  refine lv_aload_n hx hb d_Re_parts_39 rfl (lv_at hl 1 rfl) ?_
  refine r_get C K S 4 rfl rfl clOk_Re 1 (by decide) wf_Re_19 (v := .ref bc) rfl d_Re_parts_40 ?_
  refine r_getN C K S 5 rfl rfl clOk_Bo 5 (by decide) xf_Re_68 (v := .ref bnm) rfl d_Re_parts_43 ?_
  refine lv_iload hx hb d_Re_parts_46 (lv_at hl 0 rfl) ?_
  refine r_iald C K S 3 rfl (i := 0) (by unfold vp_in; decide) (v := nI (nam 0)) (by rw [show (0 : Int32).toNatClampNeg = 0 from by decide]) d_Re_parts_48 ?_
  refine z_ior (v := nI (nam x9 ||| nam 0)) hx hb d_Re_parts_49 (nx_or _ _) ?_
  refine r_iast C K S 3 rfl (i := nI x9) (x := nI (nam x9 ||| nam 0)) (show vp_in (nI x9) _ from vp_in_nI (n := x9) (by omega) (by decide)) (f' := fun i => nI (va_up nam x9 (nam x9 ||| nam 0) i)) (ws' := [(bfi, .inl (k 0, 40, .inl (fun i => nI (va_up fir x9 0 i)))), (bse, .inl (k 0, 40, .inl (fun i => nI (sec i)))), (bkn, .inl (k 0, 40, .inl (fun i => nI (kno i)))), (bnm, .inl (k 0, 40, .inl (fun i => nI (va_up nam x9 (nam x9 ||| nam 0) i)))), (h0, .inr (5, [.ref ra, .ref bc, .int (nI nf), .int (nI nx), .int wr9])), (bc, .inr (4, [.ref bw, .ref bst, .ref bfi, .ref bse, .ref bkn, .ref bnm, .int (nI tk9), .int (nI sz9), .int (nI nd9)])), (bw, .inl (k 0, 200, .inl wd))]) (show upd _ (nI x9 : Int32).toNatClampNeg (nI (nam x9 ||| nam 0)) = _ from upd_nI nam (j := x9) (by omega) (nam x9 ||| nam 0)) rfl d_Re_parts_50 (fun H locs S => ?_)
  refine lv_iload_n hx hb d_Re_parts_51 rfl (lv_at hl 4 rfl) ?_
  refine lv_if_eq (tgt := 108) hx hb d_Re_parts_52 (by decide) (fun _ => ?_) (fun hq => absurd (by decide) hq)
  exact r_vret C K (va_up fir x9 0, sec, (va_up nam x9 (nam x9 ||| nam 0))) trivial (S.sub [4, 5, 6, 0, 1, 2, 3] (by decide) rfl) d_Re_parts_108 (Nat.le_of_ble_eq_true rfl) (Nat.le_of_ble_eq_true rfl)
set_option maxRecDepth 100000 in
set_option maxHeartbeats 16000000 in
/-- parts, a place is wrong -/
theorem g_Re_parts_w2 (l : Launch) (G : va_G) (k : Nat → ClassId) (h0 : Nat) (s0 : Nat) (x9 : Nat) (dp : Nat) (wr9 : Int32) (ra : Nat) (bc : Nat) (nf : Nat) (nx : Nat) (bw : Nat) (bst : Nat) (bfi : Nat) (bse : Nat) (bkn : Nat) (bnm : Nat) (tk9 : Nat) (sz9 : Nat) (nd9 : Nat) (wd : Nat → Int32) (fir : Nat → Nat) (sec : Nat → Nat) (kno : Nat → Nat) (nam : Nat → Nat) (hx9 : x9 < 40) (hwr : wr9 ≠ -2) : CV l y_Re_parts c_Re_parts 6 { frames := 2, cells := 0, slots := 0, locals := 46 } [.ref h0, .int (nI x9), .int (nI dp), .int 1] G k s0 [(h0, .inr (5, [.ref ra, .ref bc, .int (nI nf), .int (nI nx), .int wr9])), (bc, .inr (4, [.ref bw, .ref bst, .ref bfi, .ref bse, .ref bkn, .ref bnm, .int (nI tk9), .int (nI sz9), .int (nI nd9)])), (bw, .inl (k 0, 200, .inl wd)), (bfi, .inl (k 0, 40, .inl (fun i => nI (fir i)))), (bse, .inl (k 0, 40, .inl (fun i => nI (sec i)))), (bkn, .inl (k 0, 40, .inl (fun i => nI (kno i)))), (bnm, .inl (k 0, 40, .inl (fun i => nI (nam i))))] (fun (u : (Nat → Nat) × (Nat → Nat) × (Nat → Nat)) => True) (fun u => [(h0, .inr (5, [.ref ra, .ref bc, .int (nI nf), .int (nI nx), .int wr9])), (bc, .inr (4, [.ref bw, .ref bst, .ref bfi, .ref bse, .ref bkn, .ref bnm, .int (nI tk9), .int (nI sz9), .int (nI nd9)])), (bw, .inl (k 0, 200, .inl wd)), (bfi, .inl (k 0, 40, .inl (fun i => nI (u.1 i)))), (bse, .inl (k 0, 40, .inl (fun i => nI (u.2.1 i)))), (bkn, .inl (k 0, 40, .inl (fun i => nI (kno i)))), (bnm, .inl (k 0, 40, .inl (fun i => nI (u.2.2 i))))]) 0 0 := by
  refine met_start (by decide) (Nat.le_of_ble_eq_true rfl) ?_
  intro p e s m below meth c C K hA hsz S ls hl
  generalize va_A [(h0, .inr (5, [.ref ra, .ref bc, .int (nI nf), .int (nI nx), .int wr9])), (bc, .inr (4, [.ref bw, .ref bst, .ref bfi, .ref bse, .ref bkn, .ref bnm, .int (nI tk9), .int (nI sz9), .int (nI nd9)])), (bw, .inl (k 0, 200, .inl wd)), (bfi, .inl (k 0, 40, .inl (fun i => nI (fir i)))), (bse, .inl (k 0, 40, .inl (fun i => nI (sec i)))), (bkn, .inl (k 0, 40, .inl (fun i => nI (kno i)))), (bnm, .inl (k 0, 40, .inl (fun i => nI (nam i))))] s0 = A at hA S ⊢
  have hx := C.1
  have hb := C.2.1
  have hl : lv_has ls 6 [(0, .ref h0), (1, .int (nI x9)), (2, .int (nI dp)), (3, .int 1)] := hl
  refine lv_aload_n hx hb d_Re_parts_0 rfl (lv_at hl 0 rfl) ?_
  refine lv_aload_n hx hb d_Re_parts_1 rfl (lv_at hl 0 rfl) ?_
  refine r_get C K S 0 rfl rfl clOk_Re 1 (by decide) wf_Re_19 (v := .ref bc) rfl d_Re_parts_2 ?_
  refine r_getN C K S 1 rfl rfl clOk_Bo 4 (by decide) xf_Re_61 (v := .ref bkn) rfl d_Re_parts_5 ?_
  refine lv_iload_n hx hb d_Re_parts_8 rfl (lv_at hl 1 rfl) ?_
  refine r_iald C K S 5 rfl (i := nI x9) (show vp_in (nI x9) _ from vp_in_nI (n := x9) (by omega) (by decide)) (v := nI (kno x9)) (by rw [nI_clamp (by omega)]) d_Re_parts_9 ?_
  refine lv_iload_n hx hb d_Re_parts_10 rfl (lv_at hl 2 rfl) ?_
  refine lv_iconst (v := 1) hx hb d_Re_parts_11 (by decide) ?_
  refine z_iadd (x := nI dp) (y := 1) (v := nI (dp + 1)) hx hb d_Re_parts_12 (nI_add dp 1) ?_
  refine r_backi (wi := [(h0, .inr (5, [.ref ra, .ref bc, .int (nI nf), .int (nI nx), .int wr9])), (bc, .inr (4, [.ref bw, .ref bst, .ref bfi, .ref bse, .ref bkn, .ref bnm, .int (nI tk9), .int (nI sz9), .int (nI nd9)])), (bw, .inl (k 0, 200, .inl wd))]) (wr := [(bfi, .inl (k 0, 40, .inl (fun i => nI (fir i)))), (bse, .inl (k 0, 40, .inl (fun i => nI (sec i)))), (bkn, .inl (k 0, 40, .inl (fun i => nI (kno i)))), (bnm, .inl (k 0, 40, .inl (fun i => nI (nam i))))]) S hA [0, 1, 2] [3, 4, 5, 6] rfl rfl (by decide) (by decide) (va_runV (As := [.int (nI (kno x9)), .int (nI (dp + 1))]) (rest := []) ⟨hx, hb, C.2.2.1, C.2.2.2.1, C.2.2.2.2.1⟩ (g_Re_expression_w l G k h0 _ (nI (kno x9)) (nI (dp + 1)) wr9 ra bc nf nx bw bst bfi bse bkn bnm tk9 sz9 nd9 wd hwr) (k_virt (n := 2) C wc_Re_expression rfl rfl wz_Re wm_Re_37 wn_Re_expression ws_Re_expression (by decide +kernel) ⟨(Nat.le_of_ble_eq_true rfl), (Nat.le_of_ble_eq_true rfl)⟩) (pr_nowV K S [0, 1, 2] (by decide) rfl 0 rfl rfl) rfl rfl hl.1 rfl (lv_room (Nat.le_of_ble_eq_true rfl)) d_Re_parts_13 ⟨(Nat.le_of_ble_eq_true rfl), (Nat.le_of_ble_eq_true rfl)⟩) (fun r3 u1 H locs hw2 S => ?_)
  have S : Sw G A s.heap _ _ [(bfi, .inl (k 0, 40, .inl (fun i => nI (fir i)))), (bse, .inl (k 0, 40, .inl (fun i => nI (sec i)))), (bkn, .inl (k 0, 40, .inl (fun i => nI (kno i)))), (bnm, .inl (k 0, 40, .inl (fun i => nI (nam i)))), (h0, .inr (5, [.ref ra, .ref bc, .int (nI nf), .int (nI nx), .int wr9])), (bc, .inr (4, [.ref bw, .ref bst, .ref bfi, .ref bse, .ref bkn, .ref bnm, .int (nI tk9), .int (nI sz9), .int (nI nd9)])), (bw, .inl (k 0, 200, .inl wd))] := S
  obtain ⟨hw20, hp4⟩ := hw2
  obtain rfl : r3 = 0 := hw20
  refine lv_istore (lv' := [(4, .int 0), (0, .ref h0), (1, .int (nI x9)), (2, .int (nI dp)), (3, .int 1)]) hx hb d_Re_parts_16 hl (by decide) rfl (fun ls hl => ?_)
  refine lv_aload_n hx hb d_Re_parts_18 rfl (lv_at hl 1 rfl) ?_
  refine r_get C K S 4 rfl rfl clOk_Re 1 (by decide) wf_Re_19 (v := .ref bc) rfl d_Re_parts_19 ?_
  refine r_getN C K S 5 rfl rfl clOk_Bo 2 (by decide) xf_Re_65 (v := .ref bfi) rfl d_Re_parts_22 ?_
  refine lv_iload_n hx hb d_Re_parts_25 rfl (lv_at hl 2 rfl) ?_
  refine lv_iload hx hb d_Re_parts_26 (lv_at hl 0 rfl) ?_
  refine r_iast C K S 0 rfl (i := nI x9) (x := 0) (show vp_in (nI x9) _ from vp_in_nI (n := x9) (by omega) (by decide)) (f' := fun i => nI (va_up fir x9 0 i)) (ws' := [(bfi, .inl (k 0, 40, .inl (fun i => nI (va_up fir x9 0 i)))), (bse, .inl (k 0, 40, .inl (fun i => nI (sec i)))), (bkn, .inl (k 0, 40, .inl (fun i => nI (kno i)))), (bnm, .inl (k 0, 40, .inl (fun i => nI (nam i)))), (h0, .inr (5, [.ref ra, .ref bc, .int (nI nf), .int (nI nx), .int wr9])), (bc, .inr (4, [.ref bw, .ref bst, .ref bfi, .ref bse, .ref bkn, .ref bnm, .int (nI tk9), .int (nI sz9), .int (nI nd9)])), (bw, .inl (k 0, 200, .inl wd))]) (show upd _ (nI x9 : Int32).toNatClampNeg 0 = _ from upd_nI fir (j := x9) (by omega) 0) rfl d_Re_parts_28 (fun H locs S => ?_)
  refine lv_aload_n hx hb d_Re_parts_29 rfl (lv_at hl 1 rfl) ?_
  refine r_get C K S 4 rfl rfl clOk_Re 1 (by decide) wf_Re_19 (v := .ref bc) rfl d_Re_parts_30 ?_
  refine r_getN C K S 5 rfl rfl clOk_Bo 5 (by decide) xf_Re_68 (v := .ref bnm) rfl d_Re_parts_33 ?_
  refine lv_iload_n hx hb d_Re_parts_36 rfl (lv_at hl 2 rfl) ?_
  refine lv_dup2_11 hx hb d_Re_parts_37 rfl rfl ?_
  refine r_iald C K S 3 rfl (i := nI x9) (show vp_in (nI x9) _ from vp_in_nI (n := x9) (by omega) (by decide)) (v := nI (nam x9)) (by rw [nI_clamp (by omega)]) d_Re_parts_38 ?_
  refine lv_aload_n hx hb d_Re_parts_39 rfl (lv_at hl 1 rfl) ?_
  refine r_get C K S 4 rfl rfl clOk_Re 1 (by decide) wf_Re_19 (v := .ref bc) rfl d_Re_parts_40 ?_
  refine r_getN C K S 5 rfl rfl clOk_Bo 5 (by decide) xf_Re_68 (v := .ref bnm) rfl d_Re_parts_43 ?_
  refine lv_iload hx hb d_Re_parts_46 (lv_at hl 0 rfl) ?_
  refine r_iald C K S 3 rfl (i := 0) (by unfold vp_in; decide) (v := nI (nam 0)) (by rw [show (0 : Int32).toNatClampNeg = 0 from by decide]) d_Re_parts_48 ?_
  refine z_ior (v := nI (nam x9 ||| nam 0)) hx hb d_Re_parts_49 (nx_or _ _) ?_
  refine r_iast C K S 3 rfl (i := nI x9) (x := nI (nam x9 ||| nam 0)) (show vp_in (nI x9) _ from vp_in_nI (n := x9) (by omega) (by decide)) (f' := fun i => nI (va_up nam x9 (nam x9 ||| nam 0) i)) (ws' := [(bfi, .inl (k 0, 40, .inl (fun i => nI (va_up fir x9 0 i)))), (bse, .inl (k 0, 40, .inl (fun i => nI (sec i)))), (bkn, .inl (k 0, 40, .inl (fun i => nI (kno i)))), (bnm, .inl (k 0, 40, .inl (fun i => nI (va_up nam x9 (nam x9 ||| nam 0) i)))), (h0, .inr (5, [.ref ra, .ref bc, .int (nI nf), .int (nI nx), .int wr9])), (bc, .inr (4, [.ref bw, .ref bst, .ref bfi, .ref bse, .ref bkn, .ref bnm, .int (nI tk9), .int (nI sz9), .int (nI nd9)])), (bw, .inl (k 0, 200, .inl wd))]) (show upd _ (nI x9 : Int32).toNatClampNeg (nI (nam x9 ||| nam 0)) = _ from upd_nI nam (j := x9) (by omega) (nam x9 ||| nam 0)) rfl d_Re_parts_50 (fun H locs S => ?_)
  refine lv_iload_n hx hb d_Re_parts_51 rfl (lv_at hl 4 rfl) ?_
  refine lv_if_eq (tgt := 108) hx hb d_Re_parts_52 (by decide) (fun hq => absurd hq (by decide)) (fun _ => ?_)
  refine lv_aload_n hx hb d_Re_parts_55 rfl (lv_at hl 1 rfl) ?_
  refine lv_aload_n hx hb d_Re_parts_56 rfl (lv_at hl 1 rfl) ?_
  refine r_get C K S 4 rfl rfl clOk_Re 1 (by decide) wf_Re_19 (v := .ref bc) rfl d_Re_parts_57 ?_
  refine r_getN C K S 5 rfl rfl clOk_Bo 4 (by decide) xf_Re_61 (v := .ref bkn) rfl d_Re_parts_60 ?_
  refine lv_iload_n hx hb d_Re_parts_63 rfl (lv_at hl 2 rfl) ?_
  refine r_iald C K S 2 rfl (i := nI x9) (show vp_in (nI x9) _ from vp_in_nI (n := x9) (by omega) (by decide)) (v := nI (kno x9)) (by rw [nI_clamp (by omega)]) d_Re_parts_64 ?_
  refine lv_iconst (v := 1) hx hb d_Re_parts_65 (by decide) ?_
  refine z_iadd (x := nI (kno x9)) (y := 1) (v := nI (kno x9 + 1)) hx hb d_Re_parts_66 (nI_add (kno x9) 1) ?_
  refine lv_iload_n hx hb d_Re_parts_67 rfl (lv_at hl 3 rfl) ?_
  refine lv_iconst (v := 1) hx hb d_Re_parts_68 (by decide) ?_
  refine z_iadd (x := nI dp) (y := 1) (v := nI (dp + 1)) hx hb d_Re_parts_69 (nI_add dp 1) ?_
  refine r_backi (wi := [(h0, .inr (5, [.ref ra, .ref bc, .int (nI nf), .int (nI nx), .int wr9])), (bc, .inr (4, [.ref bw, .ref bst, .ref bfi, .ref bse, .ref bkn, .ref bnm, .int (nI tk9), .int (nI sz9), .int (nI nd9)])), (bw, .inl (k 0, 200, .inl wd))]) (wr := [(bfi, .inl (k 0, 40, .inl (fun i => nI (va_up fir x9 0 i)))), (bse, .inl (k 0, 40, .inl (fun i => nI (sec i)))), (bkn, .inl (k 0, 40, .inl (fun i => nI (kno i)))), (bnm, .inl (k 0, 40, .inl (fun i => nI (va_up nam x9 (nam x9 ||| nam 0) i))))]) S hA [4, 5, 6] [0, 1, 2, 3] rfl rfl (by decide) (by decide) (va_runV (As := [.int (nI (kno x9 + 1)), .int (nI (dp + 1))]) (rest := []) ⟨hx, hb, C.2.2.1, C.2.2.2.1, C.2.2.2.2.1⟩ (g_Re_expression_w l G k h0 _ (nI (kno x9 + 1)) (nI (dp + 1)) wr9 ra bc nf nx bw bst bfi bse bkn bnm tk9 sz9 nd9 wd hwr) (k_virt (n := 2) C wc_Re_expression rfl rfl wz_Re wm_Re_37 wn_Re_expression ws_Re_expression (by decide +kernel) ⟨(Nat.le_of_ble_eq_true rfl), (Nat.le_of_ble_eq_true rfl)⟩) (pr_nowV K S [4, 5, 6] (by decide) rfl 4 rfl rfl) rfl rfl hl.1 rfl (lv_room (Nat.le_of_ble_eq_true rfl)) d_Re_parts_70 ⟨(Nat.le_of_ble_eq_true rfl), (Nat.le_of_ble_eq_true rfl)⟩) (fun r7 u5 H locs hw6 S => ?_)
  have S : Sw G A s.heap _ _ [(bfi, .inl (k 0, 40, .inl (fun i => nI (va_up fir x9 0 i)))), (bse, .inl (k 0, 40, .inl (fun i => nI (sec i)))), (bkn, .inl (k 0, 40, .inl (fun i => nI (kno i)))), (bnm, .inl (k 0, 40, .inl (fun i => nI (va_up nam x9 (nam x9 ||| nam 0) i)))), (h0, .inr (5, [.ref ra, .ref bc, .int (nI nf), .int (nI nx), .int wr9])), (bc, .inr (4, [.ref bw, .ref bst, .ref bfi, .ref bse, .ref bkn, .ref bnm, .int (nI tk9), .int (nI sz9), .int (nI nd9)])), (bw, .inl (k 0, 200, .inl wd))] := S
  obtain ⟨hw60, hp8⟩ := hw6
  obtain rfl : r7 = 0 := hw60
  refine lv_istore (lv' := [(5, .int 0), (4, .int 0), (0, .ref h0), (1, .int (nI x9)), (2, .int (nI dp)), (3, .int 1)]) hx hb d_Re_parts_73 hl (by decide) rfl (fun ls hl => ?_)
  refine lv_aload_n hx hb d_Re_parts_75 rfl (lv_at hl 2 rfl) ?_
  refine r_get C K S 4 rfl rfl clOk_Re 1 (by decide) wf_Re_19 (v := .ref bc) rfl d_Re_parts_76 ?_
  refine r_getN C K S 5 rfl rfl clOk_Bo 3 (by decide) xf_Re_71 (v := .ref bse) rfl d_Re_parts_79 ?_
  refine lv_iload_n hx hb d_Re_parts_82 rfl (lv_at hl 3 rfl) ?_
  refine lv_iload hx hb d_Re_parts_83 (lv_at hl 0 rfl) ?_
  refine r_iast C K S 1 rfl (i := nI x9) (x := 0) (show vp_in (nI x9) _ from vp_in_nI (n := x9) (by omega) (by decide)) (f' := fun i => nI (va_up sec x9 0 i)) (ws' := [(bfi, .inl (k 0, 40, .inl (fun i => nI (va_up fir x9 0 i)))), (bse, .inl (k 0, 40, .inl (fun i => nI (va_up sec x9 0 i)))), (bkn, .inl (k 0, 40, .inl (fun i => nI (kno i)))), (bnm, .inl (k 0, 40, .inl (fun i => nI (va_up nam x9 (nam x9 ||| nam 0) i)))), (h0, .inr (5, [.ref ra, .ref bc, .int (nI nf), .int (nI nx), .int wr9])), (bc, .inr (4, [.ref bw, .ref bst, .ref bfi, .ref bse, .ref bkn, .ref bnm, .int (nI tk9), .int (nI sz9), .int (nI nd9)])), (bw, .inl (k 0, 200, .inl wd))]) (show upd _ (nI x9 : Int32).toNatClampNeg 0 = _ from upd_nI sec (j := x9) (by omega) 0) rfl d_Re_parts_85 (fun H locs S => ?_)
  refine lv_aload_n hx hb d_Re_parts_86 rfl (lv_at hl 2 rfl) ?_
  refine r_get C K S 4 rfl rfl clOk_Re 1 (by decide) wf_Re_19 (v := .ref bc) rfl d_Re_parts_87 ?_
  refine r_getN C K S 5 rfl rfl clOk_Bo 5 (by decide) xf_Re_68 (v := .ref bnm) rfl d_Re_parts_90 ?_
  refine lv_iload_n hx hb d_Re_parts_93 rfl (lv_at hl 3 rfl) ?_
  refine lv_dup2_11 hx hb d_Re_parts_94 rfl rfl ?_
  refine r_iald C K S 3 rfl (i := nI x9) (show vp_in (nI x9) _ from vp_in_nI (n := x9) (by omega) (by decide)) (v := nI (va_up nam x9 (nam x9 ||| nam 0) x9)) (by rw [nI_clamp (by omega)]) d_Re_parts_95 ?_
  refine lv_aload_n hx hb d_Re_parts_96 rfl (lv_at hl 2 rfl) ?_
  refine r_get C K S 4 rfl rfl clOk_Re 1 (by decide) wf_Re_19 (v := .ref bc) rfl d_Re_parts_97 ?_
  refine r_getN C K S 5 rfl rfl clOk_Bo 5 (by decide) xf_Re_68 (v := .ref bnm) rfl d_Re_parts_100 ?_
  refine lv_iload hx hb d_Re_parts_103 (lv_at hl 0 rfl) ?_
  refine r_iald C K S 3 rfl (i := 0) (by unfold vp_in; decide) (v := nI (va_up nam x9 (nam x9 ||| nam 0) 0)) (by rw [show (0 : Int32).toNatClampNeg = 0 from by decide]) d_Re_parts_105 ?_
  refine z_ior (v := nI ((va_up nam x9 (nam x9 ||| nam 0)) x9 ||| (va_up nam x9 (nam x9 ||| nam 0)) 0)) hx hb d_Re_parts_106 (nx_or _ _) ?_
  refine r_iast C K S 3 rfl (i := nI x9) (x := nI ((va_up nam x9 (nam x9 ||| nam 0)) x9 ||| (va_up nam x9 (nam x9 ||| nam 0)) 0)) (show vp_in (nI x9) _ from vp_in_nI (n := x9) (by omega) (by decide)) (f' := fun i => nI (va_up (va_up nam x9 (nam x9 ||| nam 0)) x9 ((va_up nam x9 (nam x9 ||| nam 0)) x9 ||| (va_up nam x9 (nam x9 ||| nam 0)) 0) i)) (ws' := [(bfi, .inl (k 0, 40, .inl (fun i => nI (va_up fir x9 0 i)))), (bse, .inl (k 0, 40, .inl (fun i => nI (va_up sec x9 0 i)))), (bkn, .inl (k 0, 40, .inl (fun i => nI (kno i)))), (bnm, .inl (k 0, 40, .inl (fun i => nI (va_up (va_up nam x9 (nam x9 ||| nam 0)) x9 ((va_up nam x9 (nam x9 ||| nam 0)) x9 ||| (va_up nam x9 (nam x9 ||| nam 0)) 0) i)))), (h0, .inr (5, [.ref ra, .ref bc, .int (nI nf), .int (nI nx), .int wr9])), (bc, .inr (4, [.ref bw, .ref bst, .ref bfi, .ref bse, .ref bkn, .ref bnm, .int (nI tk9), .int (nI sz9), .int (nI nd9)])), (bw, .inl (k 0, 200, .inl wd))]) (show upd _ (nI x9 : Int32).toNatClampNeg (nI ((va_up nam x9 (nam x9 ||| nam 0)) x9 ||| (va_up nam x9 (nam x9 ||| nam 0)) 0)) = _ from upd_nI (va_up nam x9 (nam x9 ||| nam 0)) (j := x9) (by omega) ((va_up nam x9 (nam x9 ||| nam 0)) x9 ||| (va_up nam x9 (nam x9 ||| nam 0)) 0)) rfl d_Re_parts_107 (fun H locs S => ?_)
  exact r_vret C K (va_up fir x9 0, va_up sec x9 0, (va_up (va_up nam x9 (nam x9 ||| nam 0)) x9 ((va_up nam x9 (nam x9 ||| nam 0)) x9 ||| (va_up nam x9 (nam x9 ||| nam 0)) 0))) trivial (S.sub [4, 5, 6, 0, 1, 2, 3] (by decide) rfl) d_Re_parts_108 (Nat.le_of_ble_eq_true rfl) (Nat.le_of_ble_eq_true rfl)
/-- expression with so much fuel -/
def ExC (fu : Nat) : Prop := ∀ (l : Launch) (G : va_G) (k : Nat → ClassId) (h0 : Nat) (s0 : Nat) (kn : Nat) (dp : Nat) (ra : Nat) (bc : Nat) (nf : Nat) (nx : Nat) (bw : Nat) (bst : Nat) (bfi : Nat) (bse : Nat) (bkn : Nat) (bnm : Nat) (tk9 : Nat) (sz9 : Nat) (nd9 : Nat) (o1 : Nat) (o2 : Nat) (o3 : Nat) (o1_0 : Nat) (o1_1 : Nat) (o1_2 : Nat) (o1_3 : Nat) (o1_4 : Nat) (o1_5 : Nat) (o2_0 : Nat) (o2_1 : Nat) (o2_2 : Nat) (o2_3 : Nat) (o2_4 : Nat) (o2_5 : Nat) (o3_0 : Nat) (o3_1 : Nat) (o3_2 : Nat) (o3_3 : Nat) (o3_4 : Nat) (o3_5 : Nat) (t1 : Nat) (t2 : Nat) (t3 : Nat) (os1 : Int32) (os2 : Int32) (os3 : Int32) (on1 : Int32) (on2 : Int32) (on3 : Int32) (wd : Nat → Int32) (sta : Nat → Nat) (fir : Nat → Nat) (sec : Nat → Nat) (kno : Nat → Nat) (nam : Nat → Nat) (bf : Nat → Option Nat) (tk : Nat → Nat) (En : Nat → Nat) (hdp : dp + fu = 17) (hnx : nx ≤ sz9) (hs2 : sz9 ≤ 200) (hnf : nf ≤ 4) (hnd : nd9 ≤ 40) (hkn : kn + fu ≤ 19) (hbf : bfO bf tk nf bc o1 o2 o3 tk9 t1 t2 t3) (htk : ∀ g, g < nf → tk g ≤ 3), CI l y_Re_expression c_Re_expression 5 .int { frames := 2 * fu + 3, cells := 0, slots := 0, locals := 49 * fu + 67 } [.ref h0, .int (nI kn), .int (nI dp)] G k s0 [(h0, .inr (5, [.ref ra, .ref bc, .int (nI nf), .int (nI nx), .int (-2)])), (bc, .inr (4, [.ref bw, .ref bst, .ref bfi, .ref bse, .ref bkn, .ref bnm, .int (nI tk9), .int (nI sz9), .int (nI nd9)])), (bw, .inl (k 0, 200, .inl wd)), (bst, .inl (k 0, 40, .inl (fun i => nI (sta i)))), (bfi, .inl (k 0, 40, .inl (fun i => nI (fir i)))), (bse, .inl (k 0, 40, .inl (fun i => nI (sec i)))), (bkn, .inl (k 0, 40, .inl (fun i => nI (kno i)))), (bnm, .inl (k 0, 40, .inl (fun i => nI (nam i)))), (ra, .inl (k 3, 4, .inr (.inr (.inr (.inr bf))))), (o1, .inr (4, [.ref o1_0, .ref o1_1, .ref o1_2, .ref o1_3, .ref o1_4, .ref o1_5, .int (nI t1), .int os1, .int on1])), (o2, .inr (4, [.ref o2_0, .ref o2_1, .ref o2_2, .ref o2_3, .ref o2_4, .ref o2_5, .int (nI t2), .int os2, .int on2])), (o3, .inr (4, [.ref o3_0, .ref o3_1, .ref o3_2, .ref o3_3, .ref o3_4, .ref o3_5, .int (nI t3), .int os3, .int on3]))] (fun (r : Int32) (u : XS) => r = nI u.2.2.2.2.2.2.2.2 ∧ exO wd tk (prs wd tk nf sz9 fu kn nx nd9 En) fu kn nx nd9 sta fir sec kno nam u) (fun u => [(h0, .inr (5, [.ref ra, .ref bc, .int (nI nf), .int (nI u.2.2.2.2.2.1), .int (wrI u.2.2.2.2.2.2.1)])), (bc, .inr (4, [.ref bw, .ref bst, .ref bfi, .ref bse, .ref bkn, .ref bnm, .int (nI tk9), .int (nI sz9), .int (nI u.2.2.2.2.2.2.2.1)])), (bw, .inl (k 0, 200, .inl wd)), (bst, .inl (k 0, 40, .inl (fun i => nI (u.1 i)))), (bfi, .inl (k 0, 40, .inl (fun i => nI (u.2.1 i)))), (bse, .inl (k 0, 40, .inl (fun i => nI (u.2.2.1 i)))), (bkn, .inl (k 0, 40, .inl (fun i => nI (u.2.2.2.1 i)))), (bnm, .inl (k 0, 40, .inl (fun i => nI (u.2.2.2.2.1 i)))), (ra, .inl (k 3, 4, .inr (.inr (.inr (.inr bf))))), (o1, .inr (4, [.ref o1_0, .ref o1_1, .ref o1_2, .ref o1_3, .ref o1_4, .ref o1_5, .int (nI t1), .int os1, .int on1])), (o2, .inr (4, [.ref o2_0, .ref o2_1, .ref o2_2, .ref o2_3, .ref o2_4, .ref o2_5, .int (nI t2), .int os2, .int on2])), (o3, .inr (4, [.ref o3_0, .ref o3_1, .ref o3_2, .ref o3_3, .ref o3_4, .ref o3_5, .int (nI t3), .int os3, .int on3]))]) 0 0
def PaC1 (fu : Nat) : Prop := ∀ (l : Launch) (G : va_G) (k : Nat → ClassId) (h0 : Nat) (s0 : Nat) (x9 : Nat) (dp : Nat) (ra : Nat) (bc : Nat) (nf : Nat) (nx : Nat) (bw : Nat) (bst : Nat) (bfi : Nat) (bse : Nat) (bkn : Nat) (bnm : Nat) (tk9 : Nat) (sz9 : Nat) (o1 : Nat) (o2 : Nat) (o3 : Nat) (o1_0 : Nat) (o1_1 : Nat) (o1_2 : Nat) (o1_3 : Nat) (o1_4 : Nat) (o1_5 : Nat) (o2_0 : Nat) (o2_1 : Nat) (o2_2 : Nat) (o2_3 : Nat) (o2_4 : Nat) (o2_5 : Nat) (o3_0 : Nat) (o3_1 : Nat) (o3_2 : Nat) (o3_3 : Nat) (o3_4 : Nat) (o3_5 : Nat) (t1 : Nat) (t2 : Nat) (t3 : Nat) (os1 : Int32) (os2 : Int32) (os3 : Int32) (on1 : Int32) (on2 : Int32) (on3 : Int32) (wd : Nat → Int32) (sta : Nat → Nat) (fir : Nat → Nat) (sec : Nat → Nat) (kno : Nat → Nat) (nam : Nat → Nat) (bf : Nat → Option Nat) (tk : Nat → Nat) (En : Nat → Nat) (hx9 : x9 < 40) (hdp : dp + 1 + fu = 17) (hnx : nx ≤ sz9) (hs2 : sz9 ≤ 200) (hnf : nf ≤ 4) (hbf : bfO bf tk nf bc o1 o2 o3 tk9 t1 t2 t3) (htk : ∀ g, g < nf → tk g ≤ 3) (hkn : kno x9 + fu ≤ 19), CV l y_Re_parts c_Re_parts 6 { frames := 2 * fu + 4, cells := 0, slots := 0, locals := 49 * fu + 91 } [.ref h0, .int (nI x9), .int (nI dp), .int 0] G k s0 [(h0, .inr (5, [.ref ra, .ref bc, .int (nI nf), .int (nI nx), .int (-2)])), (bc, .inr (4, [.ref bw, .ref bst, .ref bfi, .ref bse, .ref bkn, .ref bnm, .int (nI tk9), .int (nI sz9), .int (nI (x9 + 1))])), (bw, .inl (k 0, 200, .inl wd)), (bst, .inl (k 0, 40, .inl (fun i => nI (sta i)))), (bfi, .inl (k 0, 40, .inl (fun i => nI (fir i)))), (bse, .inl (k 0, 40, .inl (fun i => nI (sec i)))), (bkn, .inl (k 0, 40, .inl (fun i => nI (kno i)))), (bnm, .inl (k 0, 40, .inl (fun i => nI (nam i)))), (ra, .inl (k 3, 4, .inr (.inr (.inr (.inr bf))))), (o1, .inr (4, [.ref o1_0, .ref o1_1, .ref o1_2, .ref o1_3, .ref o1_4, .ref o1_5, .int (nI t1), .int os1, .int on1])), (o2, .inr (4, [.ref o2_0, .ref o2_1, .ref o2_2, .ref o2_3, .ref o2_4, .ref o2_5, .int (nI t2), .int os2, .int on2])), (o3, .inr (4, [.ref o3_0, .ref o3_1, .ref o3_2, .ref o3_3, .ref o3_4, .ref o3_5, .int (nI t3), .int os3, .int on3]))] (fun (u : XS) => pa1 wd tk nf sz9 En fu nx x9 sta fir sec kno nam u) (fun u => [(h0, .inr (5, [.ref ra, .ref bc, .int (nI nf), .int (nI u.2.2.2.2.2.1), .int (wrI u.2.2.2.2.2.2.1)])), (bc, .inr (4, [.ref bw, .ref bst, .ref bfi, .ref bse, .ref bkn, .ref bnm, .int (nI tk9), .int (nI sz9), .int (nI u.2.2.2.2.2.2.2.1)])), (bw, .inl (k 0, 200, .inl wd)), (bst, .inl (k 0, 40, .inl (fun i => nI (u.1 i)))), (bfi, .inl (k 0, 40, .inl (fun i => nI (u.2.1 i)))), (bse, .inl (k 0, 40, .inl (fun i => nI (u.2.2.1 i)))), (bkn, .inl (k 0, 40, .inl (fun i => nI (u.2.2.2.1 i)))), (bnm, .inl (k 0, 40, .inl (fun i => nI (u.2.2.2.2.1 i)))), (ra, .inl (k 3, 4, .inr (.inr (.inr (.inr bf))))), (o1, .inr (4, [.ref o1_0, .ref o1_1, .ref o1_2, .ref o1_3, .ref o1_4, .ref o1_5, .int (nI t1), .int os1, .int on1])), (o2, .inr (4, [.ref o2_0, .ref o2_1, .ref o2_2, .ref o2_3, .ref o2_4, .ref o2_5, .int (nI t2), .int os2, .int on2])), (o3, .inr (4, [.ref o3_0, .ref o3_1, .ref o3_2, .ref o3_3, .ref o3_4, .ref o3_5, .int (nI t3), .int os3, .int on3]))]) 0 0
set_option maxRecDepth 100000 in
set_option maxHeartbeats 16000000 in
/-- parts -/
theorem g_Re_parts_1 {fu : Nat} (hE : ExC fu) (l : Launch) (G : va_G) (k : Nat → ClassId) (h0 : Nat) (s0 : Nat) (x9 : Nat) (dp : Nat) (ra : Nat) (bc : Nat) (nf : Nat) (nx : Nat) (bw : Nat) (bst : Nat) (bfi : Nat) (bse : Nat) (bkn : Nat) (bnm : Nat) (tk9 : Nat) (sz9 : Nat) (o1 : Nat) (o2 : Nat) (o3 : Nat) (o1_0 : Nat) (o1_1 : Nat) (o1_2 : Nat) (o1_3 : Nat) (o1_4 : Nat) (o1_5 : Nat) (o2_0 : Nat) (o2_1 : Nat) (o2_2 : Nat) (o2_3 : Nat) (o2_4 : Nat) (o2_5 : Nat) (o3_0 : Nat) (o3_1 : Nat) (o3_2 : Nat) (o3_3 : Nat) (o3_4 : Nat) (o3_5 : Nat) (t1 : Nat) (t2 : Nat) (t3 : Nat) (os1 : Int32) (os2 : Int32) (os3 : Int32) (on1 : Int32) (on2 : Int32) (on3 : Int32) (wd : Nat → Int32) (sta : Nat → Nat) (fir : Nat → Nat) (sec : Nat → Nat) (kno : Nat → Nat) (nam : Nat → Nat) (bf : Nat → Option Nat) (tk : Nat → Nat) (En : Nat → Nat) (hx9 : x9 < 40) (hdp : dp + 1 + fu = 17) (hnx : nx ≤ sz9) (hs2 : sz9 ≤ 200) (hnf : nf ≤ 4) (hbf : bfO bf tk nf bc o1 o2 o3 tk9 t1 t2 t3) (htk : ∀ g, g < nf → tk g ≤ 3) (hkn : kno x9 + fu ≤ 19) : CV l y_Re_parts c_Re_parts 6 { frames := 2 * fu + 4, cells := 0, slots := 0, locals := 49 * fu + 91 } [.ref h0, .int (nI x9), .int (nI dp), .int 0] G k s0 [(h0, .inr (5, [.ref ra, .ref bc, .int (nI nf), .int (nI nx), .int (-2)])), (bc, .inr (4, [.ref bw, .ref bst, .ref bfi, .ref bse, .ref bkn, .ref bnm, .int (nI tk9), .int (nI sz9), .int (nI (x9 + 1))])), (bw, .inl (k 0, 200, .inl wd)), (bst, .inl (k 0, 40, .inl (fun i => nI (sta i)))), (bfi, .inl (k 0, 40, .inl (fun i => nI (fir i)))), (bse, .inl (k 0, 40, .inl (fun i => nI (sec i)))), (bkn, .inl (k 0, 40, .inl (fun i => nI (kno i)))), (bnm, .inl (k 0, 40, .inl (fun i => nI (nam i)))), (ra, .inl (k 3, 4, .inr (.inr (.inr (.inr bf))))), (o1, .inr (4, [.ref o1_0, .ref o1_1, .ref o1_2, .ref o1_3, .ref o1_4, .ref o1_5, .int (nI t1), .int os1, .int on1])), (o2, .inr (4, [.ref o2_0, .ref o2_1, .ref o2_2, .ref o2_3, .ref o2_4, .ref o2_5, .int (nI t2), .int os2, .int on2])), (o3, .inr (4, [.ref o3_0, .ref o3_1, .ref o3_2, .ref o3_3, .ref o3_4, .ref o3_5, .int (nI t3), .int os3, .int on3]))] (fun (u : XS) => pa1 wd tk nf sz9 En fu nx x9 sta fir sec kno nam u) (fun u => [(h0, .inr (5, [.ref ra, .ref bc, .int (nI nf), .int (nI u.2.2.2.2.2.1), .int (wrI u.2.2.2.2.2.2.1)])), (bc, .inr (4, [.ref bw, .ref bst, .ref bfi, .ref bse, .ref bkn, .ref bnm, .int (nI tk9), .int (nI sz9), .int (nI u.2.2.2.2.2.2.2.1)])), (bw, .inl (k 0, 200, .inl wd)), (bst, .inl (k 0, 40, .inl (fun i => nI (u.1 i)))), (bfi, .inl (k 0, 40, .inl (fun i => nI (u.2.1 i)))), (bse, .inl (k 0, 40, .inl (fun i => nI (u.2.2.1 i)))), (bkn, .inl (k 0, 40, .inl (fun i => nI (u.2.2.2.1 i)))), (bnm, .inl (k 0, 40, .inl (fun i => nI (u.2.2.2.2.1 i)))), (ra, .inl (k 3, 4, .inr (.inr (.inr (.inr bf))))), (o1, .inr (4, [.ref o1_0, .ref o1_1, .ref o1_2, .ref o1_3, .ref o1_4, .ref o1_5, .int (nI t1), .int os1, .int on1])), (o2, .inr (4, [.ref o2_0, .ref o2_1, .ref o2_2, .ref o2_3, .ref o2_4, .ref o2_5, .int (nI t2), .int os2, .int on2])), (o3, .inr (4, [.ref o3_0, .ref o3_1, .ref o3_2, .ref o3_3, .ref o3_4, .ref o3_5, .int (nI t3), .int os3, .int on3]))]) 0 0 := by
  refine met_start (by decide) (Nat.le_of_ble_eq_true rfl) ?_
  intro p e s m below meth c C K hA hsz S ls hl
  generalize va_A [(h0, .inr (5, [.ref ra, .ref bc, .int (nI nf), .int (nI nx), .int (-2)])), (bc, .inr (4, [.ref bw, .ref bst, .ref bfi, .ref bse, .ref bkn, .ref bnm, .int (nI tk9), .int (nI sz9), .int (nI (x9 + 1))])), (bw, .inl (k 0, 200, .inl wd)), (bst, .inl (k 0, 40, .inl (fun i => nI (sta i)))), (bfi, .inl (k 0, 40, .inl (fun i => nI (fir i)))), (bse, .inl (k 0, 40, .inl (fun i => nI (sec i)))), (bkn, .inl (k 0, 40, .inl (fun i => nI (kno i)))), (bnm, .inl (k 0, 40, .inl (fun i => nI (nam i)))), (ra, .inl (k 3, 4, .inr (.inr (.inr (.inr bf))))), (o1, .inr (4, [.ref o1_0, .ref o1_1, .ref o1_2, .ref o1_3, .ref o1_4, .ref o1_5, .int (nI t1), .int os1, .int on1])), (o2, .inr (4, [.ref o2_0, .ref o2_1, .ref o2_2, .ref o2_3, .ref o2_4, .ref o2_5, .int (nI t2), .int os2, .int on2])), (o3, .inr (4, [.ref o3_0, .ref o3_1, .ref o3_2, .ref o3_3, .ref o3_4, .ref o3_5, .int (nI t3), .int os3, .int on3]))] s0 = A at hA S ⊢
  have hx := C.1
  have hb := C.2.1
  have hl : lv_has ls 6 [(0, .ref h0), (1, .int (nI x9)), (2, .int (nI dp)), (3, .int 0)] := hl
  refine lv_aload_n hx hb d_Re_parts_0 rfl (lv_at hl 0 rfl) ?_
  refine lv_aload_n hx hb d_Re_parts_1 rfl (lv_at hl 0 rfl) ?_
  refine r_get C K S 0 rfl rfl clOk_Re 1 (by decide) wf_Re_19 (v := .ref bc) rfl d_Re_parts_2 ?_
  refine r_getN C K S 1 rfl rfl clOk_Bo 4 (by decide) xf_Re_61 (v := .ref bkn) rfl d_Re_parts_5 ?_
  refine lv_iload_n hx hb d_Re_parts_8 rfl (lv_at hl 1 rfl) ?_
  refine r_iald C K S 6 rfl (i := nI x9) (show vp_in (nI x9) _ from vp_in_nI (n := x9) (by omega) (by decide)) (v := nI (kno x9)) (by rw [nI_clamp (by omega)]) d_Re_parts_9 ?_
  refine lv_iload_n hx hb d_Re_parts_10 rfl (lv_at hl 2 rfl) ?_
  refine lv_iconst (v := 1) hx hb d_Re_parts_11 (by decide) ?_
  refine z_iadd (x := nI dp) (y := 1) (v := nI (dp + 1)) hx hb d_Re_parts_12 (nI_add dp 1) ?_
  refine r_backi (wi := [(h0, .inr (5, [.ref ra, .ref bc, .int (nI nf), .int (nI nx), .int (-2)])), (bc, .inr (4, [.ref bw, .ref bst, .ref bfi, .ref bse, .ref bkn, .ref bnm, .int (nI tk9), .int (nI sz9), .int (nI (x9 + 1))])), (bw, .inl (k 0, 200, .inl wd)), (bst, .inl (k 0, 40, .inl (fun i => nI (sta i)))), (bfi, .inl (k 0, 40, .inl (fun i => nI (fir i)))), (bse, .inl (k 0, 40, .inl (fun i => nI (sec i)))), (bkn, .inl (k 0, 40, .inl (fun i => nI (kno i)))), (bnm, .inl (k 0, 40, .inl (fun i => nI (nam i)))), (ra, .inl (k 3, 4, .inr (.inr (.inr (.inr bf))))), (o1, .inr (4, [.ref o1_0, .ref o1_1, .ref o1_2, .ref o1_3, .ref o1_4, .ref o1_5, .int (nI t1), .int os1, .int on1])), (o2, .inr (4, [.ref o2_0, .ref o2_1, .ref o2_2, .ref o2_3, .ref o2_4, .ref o2_5, .int (nI t2), .int os2, .int on2])), (o3, .inr (4, [.ref o3_0, .ref o3_1, .ref o3_2, .ref o3_3, .ref o3_4, .ref o3_5, .int (nI t3), .int os3, .int on3]))]) (wr := []) S hA [0, 1, 2, 3, 4, 5, 6, 7, 8, 9, 10, 11] [] rfl rfl (by decide) (by decide) (va_runV (As := [.int (nI (kno x9)), .int (nI (dp + 1))]) (rest := []) ⟨hx, hb, C.2.2.1, C.2.2.2.1, C.2.2.2.2.1⟩ (hE l G k h0 _ (kno x9) (dp + 1) ra bc nf nx bw bst bfi bse bkn bnm tk9 sz9 (x9 + 1) o1 o2 o3 o1_0 o1_1 o1_2 o1_3 o1_4 o1_5 o2_0 o2_1 o2_2 o2_3 o2_4 o2_5 o3_0 o3_1 o3_2 o3_3 o3_4 o3_5 t1 t2 t3 os1 os2 os3 on1 on2 on3 wd sta fir sec kno nam bf tk En (by omega) hnx hs2 hnf (by omega) (by omega) hbf htk) (k_virt (n := 2) C wc_Re_expression rfl rfl wz_Re wm_Re_37 wn_Re_expression ws_Re_expression (by decide +kernel) ⟨(by dsimp only; omega), (by dsimp only; omega)⟩) (pr_nowV K S [0, 1, 2, 3, 4, 5, 6, 7, 8, 9, 10, 11] (by decide) rfl 0 rfl rfl) rfl rfl hl.1 rfl (lv_room (Nat.le_of_ble_eq_true rfl)) d_Re_parts_13 ⟨(Nat.le_of_ble_eq_true rfl), (Nat.le_of_ble_eq_true rfl)⟩) (fun r3 u1 H locs hw2 S => ?_)
  have S : Sw G A s.heap _ _ [(h0, .inr (5, [.ref ra, .ref bc, .int (nI nf), .int (nI u1.2.2.2.2.2.1), .int (wrI u1.2.2.2.2.2.2.1)])), (bc, .inr (4, [.ref bw, .ref bst, .ref bfi, .ref bse, .ref bkn, .ref bnm, .int (nI tk9), .int (nI sz9), .int (nI u1.2.2.2.2.2.2.2.1)])), (bw, .inl (k 0, 200, .inl wd)), (bst, .inl (k 0, 40, .inl (fun i => nI (u1.1 i)))), (bfi, .inl (k 0, 40, .inl (fun i => nI (u1.2.1 i)))), (bse, .inl (k 0, 40, .inl (fun i => nI (u1.2.2.1 i)))), (bkn, .inl (k 0, 40, .inl (fun i => nI (u1.2.2.2.1 i)))), (bnm, .inl (k 0, 40, .inl (fun i => nI (u1.2.2.2.2.1 i)))), (ra, .inl (k 3, 4, .inr (.inr (.inr (.inr bf))))), (o1, .inr (4, [.ref o1_0, .ref o1_1, .ref o1_2, .ref o1_3, .ref o1_4, .ref o1_5, .int (nI t1), .int os1, .int on1])), (o2, .inr (4, [.ref o2_0, .ref o2_1, .ref o2_2, .ref o2_3, .ref o2_4, .ref o2_5, .int (nI t2), .int os2, .int on2])), (o3, .inr (4, [.ref o3_0, .ref o3_1, .ref o3_2, .ref o3_3, .ref o3_4, .ref o3_5, .int (nI t3), .int os3, .int on3]))] := S
  obtain ⟨hw20, hp1⟩ := hw2
  obtain rfl : r3 = nI u1.2.2.2.2.2.2.2.2 := hw20
  obtain ⟨sta1, fir1, sec1, kno1, nam1, nx1, b1, nd1, x1⟩ := u1
  have S : Sw G A s.heap H locs [(h0, .inr (5, [.ref ra, .ref bc, .int (nI nf), .int (nI nx1), .int (wrI b1)])), (bc, .inr (4, [.ref bw, .ref bst, .ref bfi, .ref bse, .ref bkn, .ref bnm, .int (nI tk9), .int (nI sz9), .int (nI nd1)])), (bw, .inl (k 0, 200, .inl wd)), (bst, .inl (k 0, 40, .inl (fun i => nI (sta1 i)))), (bfi, .inl (k 0, 40, .inl (fun i => nI (fir1 i)))), (bse, .inl (k 0, 40, .inl (fun i => nI (sec1 i)))), (bkn, .inl (k 0, 40, .inl (fun i => nI (kno1 i)))), (bnm, .inl (k 0, 40, .inl (fun i => nI (nam1 i)))), (ra, .inl (k 3, 4, .inr (.inr (.inr (.inr bf))))), (o1, .inr (4, [.ref o1_0, .ref o1_1, .ref o1_2, .ref o1_3, .ref o1_4, .ref o1_5, .int (nI t1), .int os1, .int on1])), (o2, .inr (4, [.ref o2_0, .ref o2_1, .ref o2_2, .ref o2_3, .ref o2_4, .ref o2_5, .int (nI t2), .int os2, .int on2])), (o3, .inr (4, [.ref o3_0, .ref o3_1, .ref o3_2, .ref o3_3, .ref o3_4, .ref o3_5, .int (nI t3), .int os3, .int on3]))] := S
  have hx1 : x1 < 40 := hp1.1
  refine lv_istore (lv' := [(4, .int (nI x1)), (0, .ref h0), (1, .int (nI x9)), (2, .int (nI dp)), (3, .int 0)]) hx hb d_Re_parts_16 hl (by decide) rfl (fun ls hl => ?_)
  refine lv_aload_n hx hb d_Re_parts_18 rfl (lv_at hl 1 rfl) ?_
  refine r_get C K S 0 rfl rfl clOk_Re 1 (by decide) wf_Re_19 (v := .ref bc) rfl d_Re_parts_19 ?_
  refine r_getN C K S 1 rfl rfl clOk_Bo 2 (by decide) xf_Re_65 (v := .ref bfi) rfl d_Re_parts_22 ?_
  refine lv_iload_n hx hb d_Re_parts_25 rfl (lv_at hl 2 rfl) ?_
  refine lv_iload hx hb d_Re_parts_26 (lv_at hl 0 rfl) ?_
  refine r_iast C K S 4 rfl (i := nI x9) (x := nI x1) (show vp_in (nI x9) _ from vp_in_nI (n := x9) (by omega) (by decide)) (f' := fun i => nI (va_up fir1 x9 x1 i)) (ws' := [(h0, .inr (5, [.ref ra, .ref bc, .int (nI nf), .int (nI nx1), .int (wrI b1)])), (bc, .inr (4, [.ref bw, .ref bst, .ref bfi, .ref bse, .ref bkn, .ref bnm, .int (nI tk9), .int (nI sz9), .int (nI nd1)])), (bw, .inl (k 0, 200, .inl wd)), (bst, .inl (k 0, 40, .inl (fun i => nI (sta1 i)))), (bfi, .inl (k 0, 40, .inl (fun i => nI (va_up fir1 x9 x1 i)))), (bse, .inl (k 0, 40, .inl (fun i => nI (sec1 i)))), (bkn, .inl (k 0, 40, .inl (fun i => nI (kno1 i)))), (bnm, .inl (k 0, 40, .inl (fun i => nI (nam1 i)))), (ra, .inl (k 3, 4, .inr (.inr (.inr (.inr bf))))), (o1, .inr (4, [.ref o1_0, .ref o1_1, .ref o1_2, .ref o1_3, .ref o1_4, .ref o1_5, .int (nI t1), .int os1, .int on1])), (o2, .inr (4, [.ref o2_0, .ref o2_1, .ref o2_2, .ref o2_3, .ref o2_4, .ref o2_5, .int (nI t2), .int os2, .int on2])), (o3, .inr (4, [.ref o3_0, .ref o3_1, .ref o3_2, .ref o3_3, .ref o3_4, .ref o3_5, .int (nI t3), .int os3, .int on3]))]) (show upd _ (nI x9 : Int32).toNatClampNeg (nI x1) = _ from upd_nI fir1 (j := x9) (by omega) x1) rfl d_Re_parts_28 (fun H locs S => ?_)
  refine lv_aload_n hx hb d_Re_parts_29 rfl (lv_at hl 1 rfl) ?_
  refine r_get C K S 0 rfl rfl clOk_Re 1 (by decide) wf_Re_19 (v := .ref bc) rfl d_Re_parts_30 ?_
  refine r_getN C K S 1 rfl rfl clOk_Bo 5 (by decide) xf_Re_68 (v := .ref bnm) rfl d_Re_parts_33 ?_
  refine lv_iload_n hx hb d_Re_parts_36 rfl (lv_at hl 2 rfl) ?_
  refine lv_dup2_11 hx hb d_Re_parts_37 rfl rfl ?_
  refine r_iald C K S 7 rfl (i := nI x9) (show vp_in (nI x9) _ from vp_in_nI (n := x9) (by omega) (by decide)) (v := nI (nam1 x9)) (by rw [nI_clamp (by omega)]) d_Re_parts_38 ?_
  refine lv_aload_n hx hb d_Re_parts_39 rfl (lv_at hl 1 rfl) ?_
  refine r_get C K S 0 rfl rfl clOk_Re 1 (by decide) wf_Re_19 (v := .ref bc) rfl d_Re_parts_40 ?_
  refine r_getN C K S 1 rfl rfl clOk_Bo 5 (by decide) xf_Re_68 (v := .ref bnm) rfl d_Re_parts_43 ?_
  refine lv_iload hx hb d_Re_parts_46 (lv_at hl 0 rfl) ?_
  refine r_iald C K S 7 rfl (i := nI x1) (show vp_in (nI x1) _ from vp_in_nI (n := x1) (by omega) (by decide)) (v := nI (nam1 x1)) (by rw [nI_clamp (by omega)]) d_Re_parts_48 ?_
  refine z_ior (v := nI (nam1 x9 ||| nam1 x1)) hx hb d_Re_parts_49 (nx_or _ _) ?_
  refine r_iast C K S 7 rfl (i := nI x9) (x := nI (nam1 x9 ||| nam1 x1)) (show vp_in (nI x9) _ from vp_in_nI (n := x9) (by omega) (by decide)) (f' := fun i => nI (va_up nam1 x9 (nam1 x9 ||| nam1 x1) i)) (ws' := [(h0, .inr (5, [.ref ra, .ref bc, .int (nI nf), .int (nI nx1), .int (wrI b1)])), (bc, .inr (4, [.ref bw, .ref bst, .ref bfi, .ref bse, .ref bkn, .ref bnm, .int (nI tk9), .int (nI sz9), .int (nI nd1)])), (bw, .inl (k 0, 200, .inl wd)), (bst, .inl (k 0, 40, .inl (fun i => nI (sta1 i)))), (bfi, .inl (k 0, 40, .inl (fun i => nI (va_up fir1 x9 x1 i)))), (bse, .inl (k 0, 40, .inl (fun i => nI (sec1 i)))), (bkn, .inl (k 0, 40, .inl (fun i => nI (kno1 i)))), (bnm, .inl (k 0, 40, .inl (fun i => nI (va_up nam1 x9 (nam1 x9 ||| nam1 x1) i)))), (ra, .inl (k 3, 4, .inr (.inr (.inr (.inr bf))))), (o1, .inr (4, [.ref o1_0, .ref o1_1, .ref o1_2, .ref o1_3, .ref o1_4, .ref o1_5, .int (nI t1), .int os1, .int on1])), (o2, .inr (4, [.ref o2_0, .ref o2_1, .ref o2_2, .ref o2_3, .ref o2_4, .ref o2_5, .int (nI t2), .int os2, .int on2])), (o3, .inr (4, [.ref o3_0, .ref o3_1, .ref o3_2, .ref o3_3, .ref o3_4, .ref o3_5, .int (nI t3), .int os3, .int on3]))]) (show upd _ (nI x9 : Int32).toNatClampNeg (nI (nam1 x9 ||| nam1 x1)) = _ from upd_nI nam1 (j := x9) (by omega) (nam1 x9 ||| nam1 x1)) rfl d_Re_parts_50 (fun H locs S => ?_)
  refine lv_iload_n hx hb d_Re_parts_51 rfl (lv_at hl 4 rfl) ?_
  refine lv_if_eq (tgt := 108) hx hb d_Re_parts_52 (by decide) (fun _ => ?_) (fun hq => absurd (by decide) hq)
  exact r_vret C K (sta1, va_up fir1 x9 x1, sec1, kno1, va_up nam1 x9 (nam1 x9 ||| nam1 x1), nx1, b1, nd1, 0) (pa1_of hp1) (S.sub [0, 1, 2, 3, 4, 5, 6, 7, 8, 9, 10, 11] (by decide) rfl) d_Re_parts_108 (Nat.le_of_ble_eq_true rfl) (Nat.le_of_ble_eq_true rfl)
def PaC2 (fu : Nat) : Prop := ∀ (l : Launch) (G : va_G) (k : Nat → ClassId) (h0 : Nat) (s0 : Nat) (x9 : Nat) (dp : Nat) (ra : Nat) (bc : Nat) (nf : Nat) (nx : Nat) (bw : Nat) (bst : Nat) (bfi : Nat) (bse : Nat) (bkn : Nat) (bnm : Nat) (tk9 : Nat) (sz9 : Nat) (o1 : Nat) (o2 : Nat) (o3 : Nat) (o1_0 : Nat) (o1_1 : Nat) (o1_2 : Nat) (o1_3 : Nat) (o1_4 : Nat) (o1_5 : Nat) (o2_0 : Nat) (o2_1 : Nat) (o2_2 : Nat) (o2_3 : Nat) (o2_4 : Nat) (o2_5 : Nat) (o3_0 : Nat) (o3_1 : Nat) (o3_2 : Nat) (o3_3 : Nat) (o3_4 : Nat) (o3_5 : Nat) (t1 : Nat) (t2 : Nat) (t3 : Nat) (os1 : Int32) (os2 : Int32) (os3 : Int32) (on1 : Int32) (on2 : Int32) (on3 : Int32) (wd : Nat → Int32) (sta : Nat → Nat) (fir : Nat → Nat) (sec : Nat → Nat) (kno : Nat → Nat) (nam : Nat → Nat) (bf : Nat → Option Nat) (tk : Nat → Nat) (En : Nat → Nat) (hx9 : x9 < 40) (hdp : dp + 1 + fu = 17) (hnx : nx ≤ sz9) (hs2 : sz9 ≤ 200) (hnf : nf ≤ 4) (hbf : bfO bf tk nf bc o1 o2 o3 tk9 t1 t2 t3) (htk : ∀ g, g < nf → tk g ≤ 3) (hkn : kno x9 + 1 + fu ≤ 19), CV l y_Re_parts c_Re_parts 6 { frames := 2 * fu + 4, cells := 0, slots := 0, locals := 49 * fu + 91 } [.ref h0, .int (nI x9), .int (nI dp), .int 1] G k s0 [(h0, .inr (5, [.ref ra, .ref bc, .int (nI nf), .int (nI nx), .int (-2)])), (bc, .inr (4, [.ref bw, .ref bst, .ref bfi, .ref bse, .ref bkn, .ref bnm, .int (nI tk9), .int (nI sz9), .int (nI (x9 + 1))])), (bw, .inl (k 0, 200, .inl wd)), (bst, .inl (k 0, 40, .inl (fun i => nI (sta i)))), (bfi, .inl (k 0, 40, .inl (fun i => nI (fir i)))), (bse, .inl (k 0, 40, .inl (fun i => nI (sec i)))), (bkn, .inl (k 0, 40, .inl (fun i => nI (kno i)))), (bnm, .inl (k 0, 40, .inl (fun i => nI (nam i)))), (ra, .inl (k 3, 4, .inr (.inr (.inr (.inr bf))))), (o1, .inr (4, [.ref o1_0, .ref o1_1, .ref o1_2, .ref o1_3, .ref o1_4, .ref o1_5, .int (nI t1), .int os1, .int on1])), (o2, .inr (4, [.ref o2_0, .ref o2_1, .ref o2_2, .ref o2_3, .ref o2_4, .ref o2_5, .int (nI t2), .int os2, .int on2])), (o3, .inr (4, [.ref o3_0, .ref o3_1, .ref o3_2, .ref o3_3, .ref o3_4, .ref o3_5, .int (nI t3), .int os3, .int on3]))] (fun (u : XS) => pa2 wd tk nf sz9 En fu nx x9 sta fir sec kno nam u) (fun u => [(h0, .inr (5, [.ref ra, .ref bc, .int (nI nf), .int (nI u.2.2.2.2.2.1), .int (wrI u.2.2.2.2.2.2.1)])), (bc, .inr (4, [.ref bw, .ref bst, .ref bfi, .ref bse, .ref bkn, .ref bnm, .int (nI tk9), .int (nI sz9), .int (nI u.2.2.2.2.2.2.2.1)])), (bw, .inl (k 0, 200, .inl wd)), (bst, .inl (k 0, 40, .inl (fun i => nI (u.1 i)))), (bfi, .inl (k 0, 40, .inl (fun i => nI (u.2.1 i)))), (bse, .inl (k 0, 40, .inl (fun i => nI (u.2.2.1 i)))), (bkn, .inl (k 0, 40, .inl (fun i => nI (u.2.2.2.1 i)))), (bnm, .inl (k 0, 40, .inl (fun i => nI (u.2.2.2.2.1 i)))), (ra, .inl (k 3, 4, .inr (.inr (.inr (.inr bf))))), (o1, .inr (4, [.ref o1_0, .ref o1_1, .ref o1_2, .ref o1_3, .ref o1_4, .ref o1_5, .int (nI t1), .int os1, .int on1])), (o2, .inr (4, [.ref o2_0, .ref o2_1, .ref o2_2, .ref o2_3, .ref o2_4, .ref o2_5, .int (nI t2), .int os2, .int on2])), (o3, .inr (4, [.ref o3_0, .ref o3_1, .ref o3_2, .ref o3_3, .ref o3_4, .ref o3_5, .int (nI t3), .int os3, .int on3]))]) 0 0
set_option maxRecDepth 100000 in
set_option maxHeartbeats 16000000 in
/-- parts -/
theorem g_Re_parts_2 {fu : Nat} (hE : ExC fu) (l : Launch) (G : va_G) (k : Nat → ClassId) (h0 : Nat) (s0 : Nat) (x9 : Nat) (dp : Nat) (ra : Nat) (bc : Nat) (nf : Nat) (nx : Nat) (bw : Nat) (bst : Nat) (bfi : Nat) (bse : Nat) (bkn : Nat) (bnm : Nat) (tk9 : Nat) (sz9 : Nat) (o1 : Nat) (o2 : Nat) (o3 : Nat) (o1_0 : Nat) (o1_1 : Nat) (o1_2 : Nat) (o1_3 : Nat) (o1_4 : Nat) (o1_5 : Nat) (o2_0 : Nat) (o2_1 : Nat) (o2_2 : Nat) (o2_3 : Nat) (o2_4 : Nat) (o2_5 : Nat) (o3_0 : Nat) (o3_1 : Nat) (o3_2 : Nat) (o3_3 : Nat) (o3_4 : Nat) (o3_5 : Nat) (t1 : Nat) (t2 : Nat) (t3 : Nat) (os1 : Int32) (os2 : Int32) (os3 : Int32) (on1 : Int32) (on2 : Int32) (on3 : Int32) (wd : Nat → Int32) (sta : Nat → Nat) (fir : Nat → Nat) (sec : Nat → Nat) (kno : Nat → Nat) (nam : Nat → Nat) (bf : Nat → Option Nat) (tk : Nat → Nat) (En : Nat → Nat) (hx9 : x9 < 40) (hdp : dp + 1 + fu = 17) (hnx : nx ≤ sz9) (hs2 : sz9 ≤ 200) (hnf : nf ≤ 4) (hbf : bfO bf tk nf bc o1 o2 o3 tk9 t1 t2 t3) (htk : ∀ g, g < nf → tk g ≤ 3) (hkn : kno x9 + 1 + fu ≤ 19) : CV l y_Re_parts c_Re_parts 6 { frames := 2 * fu + 4, cells := 0, slots := 0, locals := 49 * fu + 91 } [.ref h0, .int (nI x9), .int (nI dp), .int 1] G k s0 [(h0, .inr (5, [.ref ra, .ref bc, .int (nI nf), .int (nI nx), .int (-2)])), (bc, .inr (4, [.ref bw, .ref bst, .ref bfi, .ref bse, .ref bkn, .ref bnm, .int (nI tk9), .int (nI sz9), .int (nI (x9 + 1))])), (bw, .inl (k 0, 200, .inl wd)), (bst, .inl (k 0, 40, .inl (fun i => nI (sta i)))), (bfi, .inl (k 0, 40, .inl (fun i => nI (fir i)))), (bse, .inl (k 0, 40, .inl (fun i => nI (sec i)))), (bkn, .inl (k 0, 40, .inl (fun i => nI (kno i)))), (bnm, .inl (k 0, 40, .inl (fun i => nI (nam i)))), (ra, .inl (k 3, 4, .inr (.inr (.inr (.inr bf))))), (o1, .inr (4, [.ref o1_0, .ref o1_1, .ref o1_2, .ref o1_3, .ref o1_4, .ref o1_5, .int (nI t1), .int os1, .int on1])), (o2, .inr (4, [.ref o2_0, .ref o2_1, .ref o2_2, .ref o2_3, .ref o2_4, .ref o2_5, .int (nI t2), .int os2, .int on2])), (o3, .inr (4, [.ref o3_0, .ref o3_1, .ref o3_2, .ref o3_3, .ref o3_4, .ref o3_5, .int (nI t3), .int os3, .int on3]))] (fun (u : XS) => pa2 wd tk nf sz9 En fu nx x9 sta fir sec kno nam u) (fun u => [(h0, .inr (5, [.ref ra, .ref bc, .int (nI nf), .int (nI u.2.2.2.2.2.1), .int (wrI u.2.2.2.2.2.2.1)])), (bc, .inr (4, [.ref bw, .ref bst, .ref bfi, .ref bse, .ref bkn, .ref bnm, .int (nI tk9), .int (nI sz9), .int (nI u.2.2.2.2.2.2.2.1)])), (bw, .inl (k 0, 200, .inl wd)), (bst, .inl (k 0, 40, .inl (fun i => nI (u.1 i)))), (bfi, .inl (k 0, 40, .inl (fun i => nI (u.2.1 i)))), (bse, .inl (k 0, 40, .inl (fun i => nI (u.2.2.1 i)))), (bkn, .inl (k 0, 40, .inl (fun i => nI (u.2.2.2.1 i)))), (bnm, .inl (k 0, 40, .inl (fun i => nI (u.2.2.2.2.1 i)))), (ra, .inl (k 3, 4, .inr (.inr (.inr (.inr bf))))), (o1, .inr (4, [.ref o1_0, .ref o1_1, .ref o1_2, .ref o1_3, .ref o1_4, .ref o1_5, .int (nI t1), .int os1, .int on1])), (o2, .inr (4, [.ref o2_0, .ref o2_1, .ref o2_2, .ref o2_3, .ref o2_4, .ref o2_5, .int (nI t2), .int os2, .int on2])), (o3, .inr (4, [.ref o3_0, .ref o3_1, .ref o3_2, .ref o3_3, .ref o3_4, .ref o3_5, .int (nI t3), .int os3, .int on3]))]) 0 0 := by
  refine met_start (by decide) (Nat.le_of_ble_eq_true rfl) ?_
  intro p e s m below meth c C K hA hsz S ls hl
  generalize va_A [(h0, .inr (5, [.ref ra, .ref bc, .int (nI nf), .int (nI nx), .int (-2)])), (bc, .inr (4, [.ref bw, .ref bst, .ref bfi, .ref bse, .ref bkn, .ref bnm, .int (nI tk9), .int (nI sz9), .int (nI (x9 + 1))])), (bw, .inl (k 0, 200, .inl wd)), (bst, .inl (k 0, 40, .inl (fun i => nI (sta i)))), (bfi, .inl (k 0, 40, .inl (fun i => nI (fir i)))), (bse, .inl (k 0, 40, .inl (fun i => nI (sec i)))), (bkn, .inl (k 0, 40, .inl (fun i => nI (kno i)))), (bnm, .inl (k 0, 40, .inl (fun i => nI (nam i)))), (ra, .inl (k 3, 4, .inr (.inr (.inr (.inr bf))))), (o1, .inr (4, [.ref o1_0, .ref o1_1, .ref o1_2, .ref o1_3, .ref o1_4, .ref o1_5, .int (nI t1), .int os1, .int on1])), (o2, .inr (4, [.ref o2_0, .ref o2_1, .ref o2_2, .ref o2_3, .ref o2_4, .ref o2_5, .int (nI t2), .int os2, .int on2])), (o3, .inr (4, [.ref o3_0, .ref o3_1, .ref o3_2, .ref o3_3, .ref o3_4, .ref o3_5, .int (nI t3), .int os3, .int on3]))] s0 = A at hA S ⊢
  have hx := C.1
  have hb := C.2.1
  have hl : lv_has ls 6 [(0, .ref h0), (1, .int (nI x9)), (2, .int (nI dp)), (3, .int 1)] := hl
  refine lv_aload_n hx hb d_Re_parts_0 rfl (lv_at hl 0 rfl) ?_
  refine lv_aload_n hx hb d_Re_parts_1 rfl (lv_at hl 0 rfl) ?_
  refine r_get C K S 0 rfl rfl clOk_Re 1 (by decide) wf_Re_19 (v := .ref bc) rfl d_Re_parts_2 ?_
  refine r_getN C K S 1 rfl rfl clOk_Bo 4 (by decide) xf_Re_61 (v := .ref bkn) rfl d_Re_parts_5 ?_
  refine lv_iload_n hx hb d_Re_parts_8 rfl (lv_at hl 1 rfl) ?_
  refine r_iald C K S 6 rfl (i := nI x9) (show vp_in (nI x9) _ from vp_in_nI (n := x9) (by omega) (by decide)) (v := nI (kno x9)) (by rw [nI_clamp (by omega)]) d_Re_parts_9 ?_
  refine lv_iload_n hx hb d_Re_parts_10 rfl (lv_at hl 2 rfl) ?_
  refine lv_iconst (v := 1) hx hb d_Re_parts_11 (by decide) ?_
  refine z_iadd (x := nI dp) (y := 1) (v := nI (dp + 1)) hx hb d_Re_parts_12 (nI_add dp 1) ?_
  refine r_backi (wi := [(h0, .inr (5, [.ref ra, .ref bc, .int (nI nf), .int (nI nx), .int (-2)])), (bc, .inr (4, [.ref bw, .ref bst, .ref bfi, .ref bse, .ref bkn, .ref bnm, .int (nI tk9), .int (nI sz9), .int (nI (x9 + 1))])), (bw, .inl (k 0, 200, .inl wd)), (bst, .inl (k 0, 40, .inl (fun i => nI (sta i)))), (bfi, .inl (k 0, 40, .inl (fun i => nI (fir i)))), (bse, .inl (k 0, 40, .inl (fun i => nI (sec i)))), (bkn, .inl (k 0, 40, .inl (fun i => nI (kno i)))), (bnm, .inl (k 0, 40, .inl (fun i => nI (nam i)))), (ra, .inl (k 3, 4, .inr (.inr (.inr (.inr bf))))), (o1, .inr (4, [.ref o1_0, .ref o1_1, .ref o1_2, .ref o1_3, .ref o1_4, .ref o1_5, .int (nI t1), .int os1, .int on1])), (o2, .inr (4, [.ref o2_0, .ref o2_1, .ref o2_2, .ref o2_3, .ref o2_4, .ref o2_5, .int (nI t2), .int os2, .int on2])), (o3, .inr (4, [.ref o3_0, .ref o3_1, .ref o3_2, .ref o3_3, .ref o3_4, .ref o3_5, .int (nI t3), .int os3, .int on3]))]) (wr := []) S hA [0, 1, 2, 3, 4, 5, 6, 7, 8, 9, 10, 11] [] rfl rfl (by decide) (by decide) (va_runV (As := [.int (nI (kno x9)), .int (nI (dp + 1))]) (rest := []) ⟨hx, hb, C.2.2.1, C.2.2.2.1, C.2.2.2.2.1⟩ (hE l G k h0 _ (kno x9) (dp + 1) ra bc nf nx bw bst bfi bse bkn bnm tk9 sz9 (x9 + 1) o1 o2 o3 o1_0 o1_1 o1_2 o1_3 o1_4 o1_5 o2_0 o2_1 o2_2 o2_3 o2_4 o2_5 o3_0 o3_1 o3_2 o3_3 o3_4 o3_5 t1 t2 t3 os1 os2 os3 on1 on2 on3 wd sta fir sec kno nam bf tk En (by omega) hnx hs2 hnf (by omega) (by omega) hbf htk) (k_virt (n := 2) C wc_Re_expression rfl rfl wz_Re wm_Re_37 wn_Re_expression ws_Re_expression (by decide +kernel) ⟨(by dsimp only; omega), (by dsimp only; omega)⟩) (pr_nowV K S [0, 1, 2, 3, 4, 5, 6, 7, 8, 9, 10, 11] (by decide) rfl 0 rfl rfl) rfl rfl hl.1 rfl (lv_room (Nat.le_of_ble_eq_true rfl)) d_Re_parts_13 ⟨(Nat.le_of_ble_eq_true rfl), (Nat.le_of_ble_eq_true rfl)⟩) (fun r3 u1 H locs hw2 S => ?_)
  have S : Sw G A s.heap _ _ [(h0, .inr (5, [.ref ra, .ref bc, .int (nI nf), .int (nI u1.2.2.2.2.2.1), .int (wrI u1.2.2.2.2.2.2.1)])), (bc, .inr (4, [.ref bw, .ref bst, .ref bfi, .ref bse, .ref bkn, .ref bnm, .int (nI tk9), .int (nI sz9), .int (nI u1.2.2.2.2.2.2.2.1)])), (bw, .inl (k 0, 200, .inl wd)), (bst, .inl (k 0, 40, .inl (fun i => nI (u1.1 i)))), (bfi, .inl (k 0, 40, .inl (fun i => nI (u1.2.1 i)))), (bse, .inl (k 0, 40, .inl (fun i => nI (u1.2.2.1 i)))), (bkn, .inl (k 0, 40, .inl (fun i => nI (u1.2.2.2.1 i)))), (bnm, .inl (k 0, 40, .inl (fun i => nI (u1.2.2.2.2.1 i)))), (ra, .inl (k 3, 4, .inr (.inr (.inr (.inr bf))))), (o1, .inr (4, [.ref o1_0, .ref o1_1, .ref o1_2, .ref o1_3, .ref o1_4, .ref o1_5, .int (nI t1), .int os1, .int on1])), (o2, .inr (4, [.ref o2_0, .ref o2_1, .ref o2_2, .ref o2_3, .ref o2_4, .ref o2_5, .int (nI t2), .int os2, .int on2])), (o3, .inr (4, [.ref o3_0, .ref o3_1, .ref o3_2, .ref o3_3, .ref o3_4, .ref o3_5, .int (nI t3), .int os3, .int on3]))] := S
  obtain ⟨hw20, hp1⟩ := hw2
  obtain rfl : r3 = nI u1.2.2.2.2.2.2.2.2 := hw20
  obtain ⟨sta1, fir1, sec1, kno1, nam1, nx1, b1, nd1, x1⟩ := u1
  have S : Sw G A s.heap H locs [(h0, .inr (5, [.ref ra, .ref bc, .int (nI nf), .int (nI nx1), .int (wrI b1)])), (bc, .inr (4, [.ref bw, .ref bst, .ref bfi, .ref bse, .ref bkn, .ref bnm, .int (nI tk9), .int (nI sz9), .int (nI nd1)])), (bw, .inl (k 0, 200, .inl wd)), (bst, .inl (k 0, 40, .inl (fun i => nI (sta1 i)))), (bfi, .inl (k 0, 40, .inl (fun i => nI (fir1 i)))), (bse, .inl (k 0, 40, .inl (fun i => nI (sec1 i)))), (bkn, .inl (k 0, 40, .inl (fun i => nI (kno1 i)))), (bnm, .inl (k 0, 40, .inl (fun i => nI (nam1 i)))), (ra, .inl (k 3, 4, .inr (.inr (.inr (.inr bf))))), (o1, .inr (4, [.ref o1_0, .ref o1_1, .ref o1_2, .ref o1_3, .ref o1_4, .ref o1_5, .int (nI t1), .int os1, .int on1])), (o2, .inr (4, [.ref o2_0, .ref o2_1, .ref o2_2, .ref o2_3, .ref o2_4, .ref o2_5, .int (nI t2), .int os2, .int on2])), (o3, .inr (4, [.ref o3_0, .ref o3_1, .ref o3_2, .ref o3_3, .ref o3_4, .ref o3_5, .int (nI t3), .int os3, .int on3]))] := S
  have hx1 : x1 < 40 := hp1.1
  refine lv_istore (lv' := [(4, .int (nI x1)), (0, .ref h0), (1, .int (nI x9)), (2, .int (nI dp)), (3, .int 1)]) hx hb d_Re_parts_16 hl (by decide) rfl (fun ls hl => ?_)
  refine lv_aload_n hx hb d_Re_parts_18 rfl (lv_at hl 1 rfl) ?_
  refine r_get C K S 0 rfl rfl clOk_Re 1 (by decide) wf_Re_19 (v := .ref bc) rfl d_Re_parts_19 ?_
  refine r_getN C K S 1 rfl rfl clOk_Bo 2 (by decide) xf_Re_65 (v := .ref bfi) rfl d_Re_parts_22 ?_
  refine lv_iload_n hx hb d_Re_parts_25 rfl (lv_at hl 2 rfl) ?_
  refine lv_iload hx hb d_Re_parts_26 (lv_at hl 0 rfl) ?_
  refine r_iast C K S 4 rfl (i := nI x9) (x := nI x1) (show vp_in (nI x9) _ from vp_in_nI (n := x9) (by omega) (by decide)) (f' := fun i => nI (va_up fir1 x9 x1 i)) (ws' := [(h0, .inr (5, [.ref ra, .ref bc, .int (nI nf), .int (nI nx1), .int (wrI b1)])), (bc, .inr (4, [.ref bw, .ref bst, .ref bfi, .ref bse, .ref bkn, .ref bnm, .int (nI tk9), .int (nI sz9), .int (nI nd1)])), (bw, .inl (k 0, 200, .inl wd)), (bst, .inl (k 0, 40, .inl (fun i => nI (sta1 i)))), (bfi, .inl (k 0, 40, .inl (fun i => nI (va_up fir1 x9 x1 i)))), (bse, .inl (k 0, 40, .inl (fun i => nI (sec1 i)))), (bkn, .inl (k 0, 40, .inl (fun i => nI (kno1 i)))), (bnm, .inl (k 0, 40, .inl (fun i => nI (nam1 i)))), (ra, .inl (k 3, 4, .inr (.inr (.inr (.inr bf))))), (o1, .inr (4, [.ref o1_0, .ref o1_1, .ref o1_2, .ref o1_3, .ref o1_4, .ref o1_5, .int (nI t1), .int os1, .int on1])), (o2, .inr (4, [.ref o2_0, .ref o2_1, .ref o2_2, .ref o2_3, .ref o2_4, .ref o2_5, .int (nI t2), .int os2, .int on2])), (o3, .inr (4, [.ref o3_0, .ref o3_1, .ref o3_2, .ref o3_3, .ref o3_4, .ref o3_5, .int (nI t3), .int os3, .int on3]))]) (show upd _ (nI x9 : Int32).toNatClampNeg (nI x1) = _ from upd_nI fir1 (j := x9) (by omega) x1) rfl d_Re_parts_28 (fun H locs S => ?_)
  refine lv_aload_n hx hb d_Re_parts_29 rfl (lv_at hl 1 rfl) ?_
  refine r_get C K S 0 rfl rfl clOk_Re 1 (by decide) wf_Re_19 (v := .ref bc) rfl d_Re_parts_30 ?_
  refine r_getN C K S 1 rfl rfl clOk_Bo 5 (by decide) xf_Re_68 (v := .ref bnm) rfl d_Re_parts_33 ?_
  refine lv_iload_n hx hb d_Re_parts_36 rfl (lv_at hl 2 rfl) ?_
  refine lv_dup2_11 hx hb d_Re_parts_37 rfl rfl ?_
  refine r_iald C K S 7 rfl (i := nI x9) (show vp_in (nI x9) _ from vp_in_nI (n := x9) (by omega) (by decide)) (v := nI (nam1 x9)) (by rw [nI_clamp (by omega)]) d_Re_parts_38 ?_
  refine lv_aload_n hx hb d_Re_parts_39 rfl (lv_at hl 1 rfl) ?_
  refine r_get C K S 0 rfl rfl clOk_Re 1 (by decide) wf_Re_19 (v := .ref bc) rfl d_Re_parts_40 ?_
  refine r_getN C K S 1 rfl rfl clOk_Bo 5 (by decide) xf_Re_68 (v := .ref bnm) rfl d_Re_parts_43 ?_
  refine lv_iload hx hb d_Re_parts_46 (lv_at hl 0 rfl) ?_
  refine r_iald C K S 7 rfl (i := nI x1) (show vp_in (nI x1) _ from vp_in_nI (n := x1) (by omega) (by decide)) (v := nI (nam1 x1)) (by rw [nI_clamp (by omega)]) d_Re_parts_48 ?_
  refine z_ior (v := nI (nam1 x9 ||| nam1 x1)) hx hb d_Re_parts_49 (nx_or _ _) ?_
  refine r_iast C K S 7 rfl (i := nI x9) (x := nI (nam1 x9 ||| nam1 x1)) (show vp_in (nI x9) _ from vp_in_nI (n := x9) (by omega) (by decide)) (f' := fun i => nI (va_up nam1 x9 (nam1 x9 ||| nam1 x1) i)) (ws' := [(h0, .inr (5, [.ref ra, .ref bc, .int (nI nf), .int (nI nx1), .int (wrI b1)])), (bc, .inr (4, [.ref bw, .ref bst, .ref bfi, .ref bse, .ref bkn, .ref bnm, .int (nI tk9), .int (nI sz9), .int (nI nd1)])), (bw, .inl (k 0, 200, .inl wd)), (bst, .inl (k 0, 40, .inl (fun i => nI (sta1 i)))), (bfi, .inl (k 0, 40, .inl (fun i => nI (va_up fir1 x9 x1 i)))), (bse, .inl (k 0, 40, .inl (fun i => nI (sec1 i)))), (bkn, .inl (k 0, 40, .inl (fun i => nI (kno1 i)))), (bnm, .inl (k 0, 40, .inl (fun i => nI (va_up nam1 x9 (nam1 x9 ||| nam1 x1) i)))), (ra, .inl (k 3, 4, .inr (.inr (.inr (.inr bf))))), (o1, .inr (4, [.ref o1_0, .ref o1_1, .ref o1_2, .ref o1_3, .ref o1_4, .ref o1_5, .int (nI t1), .int os1, .int on1])), (o2, .inr (4, [.ref o2_0, .ref o2_1, .ref o2_2, .ref o2_3, .ref o2_4, .ref o2_5, .int (nI t2), .int os2, .int on2])), (o3, .inr (4, [.ref o3_0, .ref o3_1, .ref o3_2, .ref o3_3, .ref o3_4, .ref o3_5, .int (nI t3), .int os3, .int on3]))]) (show upd _ (nI x9 : Int32).toNatClampNeg (nI (nam1 x9 ||| nam1 x1)) = _ from upd_nI nam1 (j := x9) (by omega) (nam1 x9 ||| nam1 x1)) rfl d_Re_parts_50 (fun H locs S => ?_)
  refine lv_iload_n hx hb d_Re_parts_51 rfl (lv_at hl 4 rfl) ?_
  refine lv_if_eq (tgt := 108) hx hb d_Re_parts_52 (by decide) (fun hq => absurd hq (by decide)) (fun _ => ?_)
  cases hpr : prs wd tk nf sz9 fu (kno x9) nx (x9 + 1) En with
  | inl b9 =>
    rw [hpr] at hp1
    have hb1 : b1 = some b9 := hp1.2
    subst hb1
    have hb9 : b9 ≤ sz9 := by have := prs_le (W := wd) (tk := tk) (nf := nf) (cnt := sz9) fu (kno x9) nx (x9 + 1) En hnx; rw [hpr] at this; exact this
    have S : Sw G A s.heap H locs [(h0, .inr (5, [.ref ra, .ref bc, .int (nI nf), .int (nI nx1), .int (nI b9)])), (bc, .inr (4, [.ref bw, .ref bst, .ref bfi, .ref bse, .ref bkn, .ref bnm, .int (nI tk9), .int (nI sz9), .int (nI nd1)])), (bw, .inl (k 0, 200, .inl wd)), (bst, .inl (k 0, 40, .inl (fun i => nI (sta1 i)))), (bfi, .inl (k 0, 40, .inl (fun i => nI ((va_up fir1 x9 x1) i)))), (bse, .inl (k 0, 40, .inl (fun i => nI (sec1 i)))), (bkn, .inl (k 0, 40, .inl (fun i => nI (kno1 i)))), (bnm, .inl (k 0, 40, .inl (fun i => nI ((va_up nam1 x9 (nam1 x9 ||| nam1 x1)) i)))), (ra, .inl (k 3, 4, .inr (.inr (.inr (.inr bf))))), (o1, .inr (4, [.ref o1_0, .ref o1_1, .ref o1_2, .ref o1_3, .ref o1_4, .ref o1_5, .int (nI t1), .int os1, .int on1])), (o2, .inr (4, [.ref o2_0, .ref o2_1, .ref o2_2, .ref o2_3, .ref o2_4, .ref o2_5, .int (nI t2), .int os2, .int on2])), (o3, .inr (4, [.ref o3_0, .ref o3_1, .ref o3_2, .ref o3_3, .ref o3_4, .ref o3_5, .int (nI t3), .int os3, .int on3]))] := S
    refine lv_aload_n hx hb d_Re_parts_55 rfl (lv_at hl 1 rfl) ?_
    refine lv_aload_n hx hb d_Re_parts_56 rfl (lv_at hl 1 rfl) ?_
    refine r_get C K S 0 rfl rfl clOk_Re 1 (by decide) wf_Re_19 (v := .ref bc) rfl d_Re_parts_57 ?_
    refine r_getN C K S 1 rfl rfl clOk_Bo 4 (by decide) xf_Re_61 (v := .ref bkn) rfl d_Re_parts_60 ?_
    refine lv_iload_n hx hb d_Re_parts_63 rfl (lv_at hl 2 rfl) ?_
    refine r_iald C K S 6 rfl (i := nI x9) (show vp_in (nI x9) _ from vp_in_nI (n := x9) (by omega) (by decide)) (v := nI (kno1 x9)) (by rw [nI_clamp (by omega)]) d_Re_parts_64 ?_
    refine lv_iconst (v := 1) hx hb d_Re_parts_65 (by decide) ?_
    refine z_iadd (x := nI (kno1 x9)) (y := 1) (v := nI (kno1 x9 + 1)) hx hb d_Re_parts_66 (nI_add (kno1 x9) 1) ?_
    refine lv_iload_n hx hb d_Re_parts_67 rfl (lv_at hl 3 rfl) ?_
    refine lv_iconst (v := 1) hx hb d_Re_parts_68 (by decide) ?_
    refine z_iadd (x := nI dp) (y := 1) (v := nI (dp + 1)) hx hb d_Re_parts_69 (nI_add dp 1) ?_
    refine r_backi (wi := [(h0, .inr (5, [.ref ra, .ref bc, .int (nI nf), .int (nI nx1), .int (nI b9)])), (bc, .inr (4, [.ref bw, .ref bst, .ref bfi, .ref bse, .ref bkn, .ref bnm, .int (nI tk9), .int (nI sz9), .int (nI nd1)])), (bw, .inl (k 0, 200, .inl wd))]) (wr := [(bst, .inl (k 0, 40, .inl (fun i => nI (sta1 i)))), (bfi, .inl (k 0, 40, .inl (fun i => nI ((va_up fir1 x9 x1) i)))), (bse, .inl (k 0, 40, .inl (fun i => nI (sec1 i)))), (bkn, .inl (k 0, 40, .inl (fun i => nI (kno1 i)))), (bnm, .inl (k 0, 40, .inl (fun i => nI ((va_up nam1 x9 (nam1 x9 ||| nam1 x1)) i)))), (ra, .inl (k 3, 4, .inr (.inr (.inr (.inr bf))))), (o1, .inr (4, [.ref o1_0, .ref o1_1, .ref o1_2, .ref o1_3, .ref o1_4, .ref o1_5, .int (nI t1), .int os1, .int on1])), (o2, .inr (4, [.ref o2_0, .ref o2_1, .ref o2_2, .ref o2_3, .ref o2_4, .ref o2_5, .int (nI t2), .int os2, .int on2])), (o3, .inr (4, [.ref o3_0, .ref o3_1, .ref o3_2, .ref o3_3, .ref o3_4, .ref o3_5, .int (nI t3), .int os3, .int on3]))]) S hA [0, 1, 2] [3, 4, 5, 6, 7, 8, 9, 10, 11] rfl rfl (by decide) (by decide) (va_runV (As := [.int (nI (kno1 x9 + 1)), .int (nI (dp + 1))]) (rest := []) ⟨hx, hb, C.2.2.1, C.2.2.2.1, C.2.2.2.2.1⟩ (g_Re_expression_w l G k h0 _ (nI (kno1 x9 + 1)) (nI (dp + 1)) (nI b9) ra bc nf nx1 bw bst bfi bse bkn bnm tk9 sz9 nd1 wd (nI_ne2 (by omega))) (k_virt (n := 2) C wc_Re_expression rfl rfl wz_Re wm_Re_37 wn_Re_expression ws_Re_expression (by decide +kernel) ⟨(by dsimp only; omega), (by dsimp only; omega)⟩) (pr_nowV K S [0, 1, 2] (by decide) rfl 0 rfl rfl) rfl rfl hl.1 rfl (lv_room (Nat.le_of_ble_eq_true rfl)) d_Re_parts_70 ⟨(Nat.le_of_ble_eq_true rfl), (Nat.le_of_ble_eq_true rfl)⟩) (fun r6 u4 H locs hw5 S => ?_)
    have S : Sw G A s.heap _ _ [(bst, .inl (k 0, 40, .inl (fun i => nI (sta1 i)))), (bfi, .inl (k 0, 40, .inl (fun i => nI ((va_up fir1 x9 x1) i)))), (bse, .inl (k 0, 40, .inl (fun i => nI (sec1 i)))), (bkn, .inl (k 0, 40, .inl (fun i => nI (kno1 i)))), (bnm, .inl (k 0, 40, .inl (fun i => nI ((va_up nam1 x9 (nam1 x9 ||| nam1 x1)) i)))), (ra, .inl (k 3, 4, .inr (.inr (.inr (.inr bf))))), (o1, .inr (4, [.ref o1_0, .ref o1_1, .ref o1_2, .ref o1_3, .ref o1_4, .ref o1_5, .int (nI t1), .int os1, .int on1])), (o2, .inr (4, [.ref o2_0, .ref o2_1, .ref o2_2, .ref o2_3, .ref o2_4, .ref o2_5, .int (nI t2), .int os2, .int on2])), (o3, .inr (4, [.ref o3_0, .ref o3_1, .ref o3_2, .ref o3_3, .ref o3_4, .ref o3_5, .int (nI t3), .int os3, .int on3])), (h0, .inr (5, [.ref ra, .ref bc, .int (nI nf), .int (nI nx1), .int (nI b9)])), (bc, .inr (4, [.ref bw, .ref bst, .ref bfi, .ref bse, .ref bkn, .ref bnm, .int (nI tk9), .int (nI sz9), .int (nI nd1)])), (bw, .inl (k 0, 200, .inl wd))] := S
    obtain ⟨hw50, hp7⟩ := hw5
    obtain rfl : r6 = 0 := hw50
    refine lv_istore (lv' := [(5, .int 0), (4, .int (nI x1)), (0, .ref h0), (1, .int (nI x9)), (2, .int (nI dp)), (3, .int 1)]) hx hb d_Re_parts_73 hl (by decide) rfl (fun ls hl => ?_)
    refine lv_aload_n hx hb d_Re_parts_75 rfl (lv_at hl 2 rfl) ?_
    refine r_get C K S 9 rfl rfl clOk_Re 1 (by decide) wf_Re_19 (v := .ref bc) rfl d_Re_parts_76 ?_
    refine r_getN C K S 10 rfl rfl clOk_Bo 3 (by decide) xf_Re_71 (v := .ref bse) rfl d_Re_parts_79 ?_
    refine lv_iload_n hx hb d_Re_parts_82 rfl (lv_at hl 3 rfl) ?_
    refine lv_iload hx hb d_Re_parts_83 (lv_at hl 0 rfl) ?_
    refine r_iast C K S 2 rfl (i := nI x9) (x := 0) (show vp_in (nI x9) _ from vp_in_nI (n := x9) (by omega) (by decide)) (f' := fun i => nI (va_up sec1 x9 0 i)) (ws' := [(bst, .inl (k 0, 40, .inl (fun i => nI (sta1 i)))), (bfi, .inl (k 0, 40, .inl (fun i => nI ((va_up fir1 x9 x1) i)))), (bse, .inl (k 0, 40, .inl (fun i => nI (va_up sec1 x9 0 i)))), (bkn, .inl (k 0, 40, .inl (fun i => nI (kno1 i)))), (bnm, .inl (k 0, 40, .inl (fun i => nI ((va_up nam1 x9 (nam1 x9 ||| nam1 x1)) i)))), (ra, .inl (k 3, 4, .inr (.inr (.inr (.inr bf))))), (o1, .inr (4, [.ref o1_0, .ref o1_1, .ref o1_2, .ref o1_3, .ref o1_4, .ref o1_5, .int (nI t1), .int os1, .int on1])), (o2, .inr (4, [.ref o2_0, .ref o2_1, .ref o2_2, .ref o2_3, .ref o2_4, .ref o2_5, .int (nI t2), .int os2, .int on2])), (o3, .inr (4, [.ref o3_0, .ref o3_1, .ref o3_2, .ref o3_3, .ref o3_4, .ref o3_5, .int (nI t3), .int os3, .int on3])), (h0, .inr (5, [.ref ra, .ref bc, .int (nI nf), .int (nI nx1), .int (nI b9)])), (bc, .inr (4, [.ref bw, .ref bst, .ref bfi, .ref bse, .ref bkn, .ref bnm, .int (nI tk9), .int (nI sz9), .int (nI nd1)])), (bw, .inl (k 0, 200, .inl wd))]) (show upd _ (nI x9 : Int32).toNatClampNeg 0 = _ from upd_nI sec1 (j := x9) (by omega) 0) rfl d_Re_parts_85 (fun H locs S => ?_)
    refine lv_aload_n hx hb d_Re_parts_86 rfl (lv_at hl 2 rfl) ?_
    refine r_get C K S 9 rfl rfl clOk_Re 1 (by decide) wf_Re_19 (v := .ref bc) rfl d_Re_parts_87 ?_
    refine r_getN C K S 10 rfl rfl clOk_Bo 5 (by decide) xf_Re_68 (v := .ref bnm) rfl d_Re_parts_90 ?_
    refine lv_iload_n hx hb d_Re_parts_93 rfl (lv_at hl 3 rfl) ?_
    refine lv_dup2_11 hx hb d_Re_parts_94 rfl rfl ?_
    refine r_iald C K S 4 rfl (i := nI x9) (show vp_in (nI x9) _ from vp_in_nI (n := x9) (by omega) (by decide)) (v := nI ((va_up nam1 x9 (nam1 x9 ||| nam1 x1)) x9)) (by rw [nI_clamp (by omega)]) d_Re_parts_95 ?_
    refine lv_aload_n hx hb d_Re_parts_96 rfl (lv_at hl 2 rfl) ?_
    refine r_get C K S 9 rfl rfl clOk_Re 1 (by decide) wf_Re_19 (v := .ref bc) rfl d_Re_parts_97 ?_
    refine r_getN C K S 10 rfl rfl clOk_Bo 5 (by decide) xf_Re_68 (v := .ref bnm) rfl d_Re_parts_100 ?_
    refine lv_iload hx hb d_Re_parts_103 (lv_at hl 0 rfl) ?_
    refine r_iald C K S 4 rfl (i := 0) (by unfold vp_in; decide) (v := nI ((va_up nam1 x9 (nam1 x9 ||| nam1 x1)) 0)) (by rw [show (0 : Int32).toNatClampNeg = 0 from by decide]) d_Re_parts_105 ?_
    refine z_ior (v := nI ((va_up nam1 x9 (nam1 x9 ||| nam1 x1)) x9 ||| (va_up nam1 x9 (nam1 x9 ||| nam1 x1)) 0)) hx hb d_Re_parts_106 (nx_or _ _) ?_
    refine r_iast C K S 4 rfl (i := nI x9) (x := nI ((va_up nam1 x9 (nam1 x9 ||| nam1 x1)) x9 ||| (va_up nam1 x9 (nam1 x9 ||| nam1 x1)) 0)) (show vp_in (nI x9) _ from vp_in_nI (n := x9) (by omega) (by decide)) (f' := fun i => nI (va_up (va_up nam1 x9 (nam1 x9 ||| nam1 x1)) x9 ((va_up nam1 x9 (nam1 x9 ||| nam1 x1)) x9 ||| (va_up nam1 x9 (nam1 x9 ||| nam1 x1)) 0) i)) (ws' := [(bst, .inl (k 0, 40, .inl (fun i => nI (sta1 i)))), (bfi, .inl (k 0, 40, .inl (fun i => nI ((va_up fir1 x9 x1) i)))), (bse, .inl (k 0, 40, .inl (fun i => nI (va_up sec1 x9 0 i)))), (bkn, .inl (k 0, 40, .inl (fun i => nI (kno1 i)))), (bnm, .inl (k 0, 40, .inl (fun i => nI (va_up (va_up nam1 x9 (nam1 x9 ||| nam1 x1)) x9 ((va_up nam1 x9 (nam1 x9 ||| nam1 x1)) x9 ||| (va_up nam1 x9 (nam1 x9 ||| nam1 x1)) 0) i)))), (ra, .inl (k 3, 4, .inr (.inr (.inr (.inr bf))))), (o1, .inr (4, [.ref o1_0, .ref o1_1, .ref o1_2, .ref o1_3, .ref o1_4, .ref o1_5, .int (nI t1), .int os1, .int on1])), (o2, .inr (4, [.ref o2_0, .ref o2_1, .ref o2_2, .ref o2_3, .ref o2_4, .ref o2_5, .int (nI t2), .int os2, .int on2])), (o3, .inr (4, [.ref o3_0, .ref o3_1, .ref o3_2, .ref o3_3, .ref o3_4, .ref o3_5, .int (nI t3), .int os3, .int on3])), (h0, .inr (5, [.ref ra, .ref bc, .int (nI nf), .int (nI nx1), .int (nI b9)])), (bc, .inr (4, [.ref bw, .ref bst, .ref bfi, .ref bse, .ref bkn, .ref bnm, .int (nI tk9), .int (nI sz9), .int (nI nd1)])), (bw, .inl (k 0, 200, .inl wd))]) (show upd _ (nI x9 : Int32).toNatClampNeg (nI ((va_up nam1 x9 (nam1 x9 ||| nam1 x1)) x9 ||| (va_up nam1 x9 (nam1 x9 ||| nam1 x1)) 0)) = _ from upd_nI (va_up nam1 x9 (nam1 x9 ||| nam1 x1)) (j := x9) (by omega) ((va_up nam1 x9 (nam1 x9 ||| nam1 x1)) x9 ||| (va_up nam1 x9 (nam1 x9 ||| nam1 x1)) 0)) rfl d_Re_parts_107 (fun H locs S => ?_)
    exact r_vret C K (sta1, va_up fir1 x9 x1, va_up sec1 x9 0, kno1, va_up (va_up nam1 x9 (nam1 x9 ||| nam1 x1)) x9 ((va_up nam1 x9 (nam1 x9 ||| nam1 x1)) x9 ||| (va_up nam1 x9 (nam1 x9 ||| nam1 x1)) 0), nx1, some b9, nd1, 0) (pa2_of hpr rfl) (S.sub [9, 10, 11, 0, 1, 2, 3, 4, 5, 6, 7, 8] (by decide) rfl) d_Re_parts_108 (Nat.le_of_ble_eq_true rfl) (Nat.le_of_ble_eq_true rfl)
  | inr y9 =>
    obtain ⟨a2, n2, E2⟩ := y9
    rw [hpr] at hp1
    have hw9 := prs_wf hnf fu (kno x9) nx (x9 + 1) En a2 n2 E2 hpr hnx (by omega) (by omega)
    have hp2 := hp1
    obtain ⟨-, hb1, hn1, hd1, he1, hr1, -⟩ := hp2
    have hb1 : b1 = none := hb1
    have hn1 : nx1 = a2 := hn1
    have hd1 : nd1 = n2 := hd1
    have he1 : x1 = x9 + 1 := he1
    subst hb1 hn1 hd1
    have hk1 : kno1 x9 = kno x9 := (hr1 x9 (Nat.zero_le _) (Nat.lt_succ_self _)).2.2.2.1
    obtain ⟨-, -, -, -, hq2, hq3⟩ := hw9
    have S : Sw G A s.heap H locs [(h0, .inr (5, [.ref ra, .ref bc, .int (nI nf), .int (nI nx1), .int (-2)])), (bc, .inr (4, [.ref bw, .ref bst, .ref bfi, .ref bse, .ref bkn, .ref bnm, .int (nI tk9), .int (nI sz9), .int (nI nd1)])), (bw, .inl (k 0, 200, .inl wd)), (bst, .inl (k 0, 40, .inl (fun i => nI (sta1 i)))), (bfi, .inl (k 0, 40, .inl (fun i => nI ((va_up fir1 x9 x1) i)))), (bse, .inl (k 0, 40, .inl (fun i => nI (sec1 i)))), (bkn, .inl (k 0, 40, .inl (fun i => nI (kno1 i)))), (bnm, .inl (k 0, 40, .inl (fun i => nI ((va_up nam1 x9 (nam1 x9 ||| nam1 x1)) i)))), (ra, .inl (k 3, 4, .inr (.inr (.inr (.inr bf))))), (o1, .inr (4, [.ref o1_0, .ref o1_1, .ref o1_2, .ref o1_3, .ref o1_4, .ref o1_5, .int (nI t1), .int os1, .int on1])), (o2, .inr (4, [.ref o2_0, .ref o2_1, .ref o2_2, .ref o2_3, .ref o2_4, .ref o2_5, .int (nI t2), .int os2, .int on2])), (o3, .inr (4, [.ref o3_0, .ref o3_1, .ref o3_2, .ref o3_3, .ref o3_4, .ref o3_5, .int (nI t3), .int os3, .int on3]))] := S
    refine lv_aload_n hx hb d_Re_parts_55 rfl (lv_at hl 1 rfl) ?_
    refine lv_aload_n hx hb d_Re_parts_56 rfl (lv_at hl 1 rfl) ?_
    refine r_get C K S 0 rfl rfl clOk_Re 1 (by decide) wf_Re_19 (v := .ref bc) rfl d_Re_parts_57 ?_
    refine r_getN C K S 1 rfl rfl clOk_Bo 4 (by decide) xf_Re_61 (v := .ref bkn) rfl d_Re_parts_60 ?_
    refine lv_iload_n hx hb d_Re_parts_63 rfl (lv_at hl 2 rfl) ?_
    refine r_iald C K S 6 rfl (i := nI x9) (show vp_in (nI x9) _ from vp_in_nI (n := x9) (by omega) (by decide)) (v := nI (kno1 x9)) (by rw [nI_clamp (by omega)]) d_Re_parts_64 ?_
    rw [hk1]
    refine lv_iconst (v := 1) hx hb d_Re_parts_65 (by decide) ?_
    refine z_iadd (x := nI (kno x9)) (y := 1) (v := nI (kno x9 + 1)) hx hb d_Re_parts_66 (nI_add (kno x9) 1) ?_
    refine lv_iload_n hx hb d_Re_parts_67 rfl (lv_at hl 3 rfl) ?_
    refine lv_iconst (v := 1) hx hb d_Re_parts_68 (by decide) ?_
    refine z_iadd (x := nI dp) (y := 1) (v := nI (dp + 1)) hx hb d_Re_parts_69 (nI_add dp 1) ?_
    refine r_backi (wi := [(h0, .inr (5, [.ref ra, .ref bc, .int (nI nf), .int (nI nx1), .int (-2)])), (bc, .inr (4, [.ref bw, .ref bst, .ref bfi, .ref bse, .ref bkn, .ref bnm, .int (nI tk9), .int (nI sz9), .int (nI nd1)])), (bw, .inl (k 0, 200, .inl wd)), (bst, .inl (k 0, 40, .inl (fun i => nI (sta1 i)))), (bfi, .inl (k 0, 40, .inl (fun i => nI ((va_up fir1 x9 x1) i)))), (bse, .inl (k 0, 40, .inl (fun i => nI (sec1 i)))), (bkn, .inl (k 0, 40, .inl (fun i => nI (kno1 i)))), (bnm, .inl (k 0, 40, .inl (fun i => nI ((va_up nam1 x9 (nam1 x9 ||| nam1 x1)) i)))), (ra, .inl (k 3, 4, .inr (.inr (.inr (.inr bf))))), (o1, .inr (4, [.ref o1_0, .ref o1_1, .ref o1_2, .ref o1_3, .ref o1_4, .ref o1_5, .int (nI t1), .int os1, .int on1])), (o2, .inr (4, [.ref o2_0, .ref o2_1, .ref o2_2, .ref o2_3, .ref o2_4, .ref o2_5, .int (nI t2), .int os2, .int on2])), (o3, .inr (4, [.ref o3_0, .ref o3_1, .ref o3_2, .ref o3_3, .ref o3_4, .ref o3_5, .int (nI t3), .int os3, .int on3]))]) (wr := []) S hA [0, 1, 2, 3, 4, 5, 6, 7, 8, 9, 10, 11] [] rfl rfl (by decide) (by decide) (va_runV (As := [.int (nI (kno x9 + 1)), .int (nI (dp + 1))]) (rest := []) ⟨hx, hb, C.2.2.1, C.2.2.2.1, C.2.2.2.2.1⟩ (hE l G k h0 _ (kno x9 + 1) (dp + 1) ra bc nf nx1 bw bst bfi bse bkn bnm tk9 sz9 nd1 o1 o2 o3 o1_0 o1_1 o1_2 o1_3 o1_4 o1_5 o2_0 o2_1 o2_2 o2_3 o2_4 o2_5 o3_0 o3_1 o3_2 o3_3 o3_4 o3_5 t1 t2 t3 os1 os2 os3 on1 on2 on3 wd sta1 (va_up fir1 x9 x1) sec1 kno1 (va_up nam1 x9 (nam1 x9 ||| nam1 x1)) bf tk E2 (by omega) hq2 hs2 hnf hq3 (by omega) hbf htk) (k_virt (n := 2) C wc_Re_expression rfl rfl wz_Re wm_Re_37 wn_Re_expression ws_Re_expression (by decide +kernel) ⟨(by dsimp only; omega), (by dsimp only; omega)⟩) (pr_nowV K S [0, 1, 2, 3, 4, 5, 6, 7, 8, 9, 10, 11] (by decide) rfl 0 rfl rfl) rfl rfl hl.1 rfl (lv_room (Nat.le_of_ble_eq_true rfl)) d_Re_parts_70 ⟨(Nat.le_of_ble_eq_true rfl), (Nat.le_of_ble_eq_true rfl)⟩) (fun r10 u8 H locs hw9 S => ?_)
    have S : Sw G A s.heap _ _ [(h0, .inr (5, [.ref ra, .ref bc, .int (nI nf), .int (nI u8.2.2.2.2.2.1), .int (wrI u8.2.2.2.2.2.2.1)])), (bc, .inr (4, [.ref bw, .ref bst, .ref bfi, .ref bse, .ref bkn, .ref bnm, .int (nI tk9), .int (nI sz9), .int (nI u8.2.2.2.2.2.2.2.1)])), (bw, .inl (k 0, 200, .inl wd)), (bst, .inl (k 0, 40, .inl (fun i => nI (u8.1 i)))), (bfi, .inl (k 0, 40, .inl (fun i => nI (u8.2.1 i)))), (bse, .inl (k 0, 40, .inl (fun i => nI (u8.2.2.1 i)))), (bkn, .inl (k 0, 40, .inl (fun i => nI (u8.2.2.2.1 i)))), (bnm, .inl (k 0, 40, .inl (fun i => nI (u8.2.2.2.2.1 i)))), (ra, .inl (k 3, 4, .inr (.inr (.inr (.inr bf))))), (o1, .inr (4, [.ref o1_0, .ref o1_1, .ref o1_2, .ref o1_3, .ref o1_4, .ref o1_5, .int (nI t1), .int os1, .int on1])), (o2, .inr (4, [.ref o2_0, .ref o2_1, .ref o2_2, .ref o2_3, .ref o2_4, .ref o2_5, .int (nI t2), .int os2, .int on2])), (o3, .inr (4, [.ref o3_0, .ref o3_1, .ref o3_2, .ref o3_3, .ref o3_4, .ref o3_5, .int (nI t3), .int os3, .int on3]))] := S
    obtain ⟨hw90, hp8⟩ := hw9
    obtain rfl : r10 = nI u8.2.2.2.2.2.2.2.2 := hw90
    obtain ⟨sta8, fir8, sec8, kno8, nam8, nx8, b8, nd8, x8⟩ := u8
    have S : Sw G A s.heap H locs [(h0, .inr (5, [.ref ra, .ref bc, .int (nI nf), .int (nI nx8), .int (wrI b8)])), (bc, .inr (4, [.ref bw, .ref bst, .ref bfi, .ref bse, .ref bkn, .ref bnm, .int (nI tk9), .int (nI sz9), .int (nI nd8)])), (bw, .inl (k 0, 200, .inl wd)), (bst, .inl (k 0, 40, .inl (fun i => nI (sta8 i)))), (bfi, .inl (k 0, 40, .inl (fun i => nI (fir8 i)))), (bse, .inl (k 0, 40, .inl (fun i => nI (sec8 i)))), (bkn, .inl (k 0, 40, .inl (fun i => nI (kno8 i)))), (bnm, .inl (k 0, 40, .inl (fun i => nI (nam8 i)))), (ra, .inl (k 3, 4, .inr (.inr (.inr (.inr bf))))), (o1, .inr (4, [.ref o1_0, .ref o1_1, .ref o1_2, .ref o1_3, .ref o1_4, .ref o1_5, .int (nI t1), .int os1, .int on1])), (o2, .inr (4, [.ref o2_0, .ref o2_1, .ref o2_2, .ref o2_3, .ref o2_4, .ref o2_5, .int (nI t2), .int os2, .int on2])), (o3, .inr (4, [.ref o3_0, .ref o3_1, .ref o3_2, .ref o3_3, .ref o3_4, .ref o3_5, .int (nI t3), .int os3, .int on3]))] := S
    have hx8 : x8 < 40 := hp8.1
    refine lv_istore (lv' := [(5, .int (nI x8)), (4, .int (nI x1)), (0, .ref h0), (1, .int (nI x9)), (2, .int (nI dp)), (3, .int 1)]) hx hb d_Re_parts_73 hl (by decide) rfl (fun ls hl => ?_)
    refine lv_aload_n hx hb d_Re_parts_75 rfl (lv_at hl 2 rfl) ?_
    refine r_get C K S 0 rfl rfl clOk_Re 1 (by decide) wf_Re_19 (v := .ref bc) rfl d_Re_parts_76 ?_
    refine r_getN C K S 1 rfl rfl clOk_Bo 3 (by decide) xf_Re_71 (v := .ref bse) rfl d_Re_parts_79 ?_
    refine lv_iload_n hx hb d_Re_parts_82 rfl (lv_at hl 3 rfl) ?_
    refine lv_iload hx hb d_Re_parts_83 (lv_at hl 0 rfl) ?_
    refine r_iast C K S 5 rfl (i := nI x9) (x := nI x8) (show vp_in (nI x9) _ from vp_in_nI (n := x9) (by omega) (by decide)) (f' := fun i => nI (va_up sec8 x9 x8 i)) (ws' := [(h0, .inr (5, [.ref ra, .ref bc, .int (nI nf), .int (nI nx8), .int (wrI b8)])), (bc, .inr (4, [.ref bw, .ref bst, .ref bfi, .ref bse, .ref bkn, .ref bnm, .int (nI tk9), .int (nI sz9), .int (nI nd8)])), (bw, .inl (k 0, 200, .inl wd)), (bst, .inl (k 0, 40, .inl (fun i => nI (sta8 i)))), (bfi, .inl (k 0, 40, .inl (fun i => nI (fir8 i)))), (bse, .inl (k 0, 40, .inl (fun i => nI (va_up sec8 x9 x8 i)))), (bkn, .inl (k 0, 40, .inl (fun i => nI (kno8 i)))), (bnm, .inl (k 0, 40, .inl (fun i => nI (nam8 i)))), (ra, .inl (k 3, 4, .inr (.inr (.inr (.inr bf))))), (o1, .inr (4, [.ref o1_0, .ref o1_1, .ref o1_2, .ref o1_3, .ref o1_4, .ref o1_5, .int (nI t1), .int os1, .int on1])), (o2, .inr (4, [.ref o2_0, .ref o2_1, .ref o2_2, .ref o2_3, .ref o2_4, .ref o2_5, .int (nI t2), .int os2, .int on2])), (o3, .inr (4, [.ref o3_0, .ref o3_1, .ref o3_2, .ref o3_3, .ref o3_4, .ref o3_5, .int (nI t3), .int os3, .int on3]))]) (show upd _ (nI x9 : Int32).toNatClampNeg (nI x8) = _ from upd_nI sec8 (j := x9) (by omega) x8) rfl d_Re_parts_85 (fun H locs S => ?_)
    refine lv_aload_n hx hb d_Re_parts_86 rfl (lv_at hl 2 rfl) ?_
    refine r_get C K S 0 rfl rfl clOk_Re 1 (by decide) wf_Re_19 (v := .ref bc) rfl d_Re_parts_87 ?_
    refine r_getN C K S 1 rfl rfl clOk_Bo 5 (by decide) xf_Re_68 (v := .ref bnm) rfl d_Re_parts_90 ?_
    refine lv_iload_n hx hb d_Re_parts_93 rfl (lv_at hl 3 rfl) ?_
    refine lv_dup2_11 hx hb d_Re_parts_94 rfl rfl ?_
    refine r_iald C K S 7 rfl (i := nI x9) (show vp_in (nI x9) _ from vp_in_nI (n := x9) (by omega) (by decide)) (v := nI (nam8 x9)) (by rw [nI_clamp (by omega)]) d_Re_parts_95 ?_
    refine lv_aload_n hx hb d_Re_parts_96 rfl (lv_at hl 2 rfl) ?_
    refine r_get C K S 0 rfl rfl clOk_Re 1 (by decide) wf_Re_19 (v := .ref bc) rfl d_Re_parts_97 ?_
    refine r_getN C K S 1 rfl rfl clOk_Bo 5 (by decide) xf_Re_68 (v := .ref bnm) rfl d_Re_parts_100 ?_
    refine lv_iload hx hb d_Re_parts_103 (lv_at hl 0 rfl) ?_
    refine r_iald C K S 7 rfl (i := nI x8) (show vp_in (nI x8) _ from vp_in_nI (n := x8) (by omega) (by decide)) (v := nI (nam8 x8)) (by rw [nI_clamp (by omega)]) d_Re_parts_105 ?_
    refine z_ior (v := nI (nam8 x9 ||| nam8 x8)) hx hb d_Re_parts_106 (nx_or _ _) ?_
    refine r_iast C K S 7 rfl (i := nI x9) (x := nI (nam8 x9 ||| nam8 x8)) (show vp_in (nI x9) _ from vp_in_nI (n := x9) (by omega) (by decide)) (f' := fun i => nI (va_up nam8 x9 (nam8 x9 ||| nam8 x8) i)) (ws' := [(h0, .inr (5, [.ref ra, .ref bc, .int (nI nf), .int (nI nx8), .int (wrI b8)])), (bc, .inr (4, [.ref bw, .ref bst, .ref bfi, .ref bse, .ref bkn, .ref bnm, .int (nI tk9), .int (nI sz9), .int (nI nd8)])), (bw, .inl (k 0, 200, .inl wd)), (bst, .inl (k 0, 40, .inl (fun i => nI (sta8 i)))), (bfi, .inl (k 0, 40, .inl (fun i => nI (fir8 i)))), (bse, .inl (k 0, 40, .inl (fun i => nI (va_up sec8 x9 x8 i)))), (bkn, .inl (k 0, 40, .inl (fun i => nI (kno8 i)))), (bnm, .inl (k 0, 40, .inl (fun i => nI (va_up nam8 x9 (nam8 x9 ||| nam8 x8) i)))), (ra, .inl (k 3, 4, .inr (.inr (.inr (.inr bf))))), (o1, .inr (4, [.ref o1_0, .ref o1_1, .ref o1_2, .ref o1_3, .ref o1_4, .ref o1_5, .int (nI t1), .int os1, .int on1])), (o2, .inr (4, [.ref o2_0, .ref o2_1, .ref o2_2, .ref o2_3, .ref o2_4, .ref o2_5, .int (nI t2), .int os2, .int on2])), (o3, .inr (4, [.ref o3_0, .ref o3_1, .ref o3_2, .ref o3_3, .ref o3_4, .ref o3_5, .int (nI t3), .int os3, .int on3]))]) (show upd _ (nI x9 : Int32).toNatClampNeg (nI (nam8 x9 ||| nam8 x8)) = _ from upd_nI nam8 (j := x9) (by omega) (nam8 x9 ||| nam8 x8)) rfl d_Re_parts_107 (fun H locs S => ?_)
    exact r_vret C K (sta8, fir8, va_up sec8 x9 x8, kno8, va_up nam8 x9 (nam8 x9 ||| nam8 x8), nx8, b8, nd8, 0) (pa2_two hpr hp1 hp8) (S.sub [0, 1, 2, 3, 4, 5, 6, 7, 8, 9, 10, 11] (by decide) rfl) d_Re_parts_108 (Nat.le_of_ble_eq_true rfl) (Nat.le_of_ble_eq_true rfl)
end
