theorem le_m1 {x : Int32} {kn : Nat} (h : kn < 2147483648) : x ≤ nI kn - 1 ↔ x < nI kn := by
  have e1 : (nI kn).toInt = kn := Int32.toInt_ofNat_of_lt (by omega)
  have e2 : (nI kn - 1).toInt = (kn : Int) - 1 := by
    rw [Int32.toInt_sub, e1, show (1 : Int32).toInt = 1 by decide]
    exact Int.bmod_eq_of_le (by omega) (by omega)
  rw [Int32.le_iff_toInt_le, Int32.lt_iff_toInt_lt, e1, e2]
  omega
theorem nn_nlt {n : Nat} (h : n < 2147483648) : ¬ nI n < 0 := by
  rw [Int32.lt_iff_toInt_lt, show (nI n).toInt = n from Int32.toInt_ofNat_of_lt (by omega), show (0 : Int32).toInt = 0 by decide]
  omega
theorem nI_lt_iff {a b : Nat} (ha : a < 2147483648) (hb : b < 2147483648) : nI a < nI b ↔ a < b := by
  rw [Int32.lt_iff_toInt_lt, show (nI a).toInt = a from Int32.toInt_ofNat_of_lt (by omega), show (nI b).toInt = b from Int32.toInt_ofNat_of_lt (by omega)]
  omega
theorem d_Re_variable_0 : decode c_Re_variable 0 = .ok (.aload_n 0, 1) := by decide +kernel
theorem d_Re_variable_1 : decode c_Re_variable 1 = .ok (.iconst 0, 1) := by decide +kernel
theorem d_Re_variable_2 : decode c_Re_variable 2 = .ok (.aload_n 0, 1) := by decide +kernel
theorem d_Re_variable_3 : decode c_Re_variable 3 = .ok (.getfield 19, 3) := by decide +kernel
theorem d_Re_variable_6 : decode c_Re_variable 6 = .ok (.getfield 61, 3) := by decide +kernel
theorem d_Re_variable_9 : decode c_Re_variable 9 = .ok (.iload_n 1, 1) := by decide +kernel
theorem d_Re_variable_10 : decode c_Re_variable 10 = .ok (.iaload, 1) := by decide +kernel
theorem d_Re_variable_11 : decode c_Re_variable 11 = .ok (.iconst 1, 1) := by decide +kernel
theorem d_Re_variable_12 : decode c_Re_variable 12 = .ok (.isub, 1) := by decide +kernel
theorem d_Re_variable_13 : decode c_Re_variable 13 = .ok (.invokevirtual 44, 3) := by decide +kernel
theorem d_Re_variable_16 : decode c_Re_variable 16 = .ok (.istore_n 2, 1) := by decide +kernel
theorem d_Re_variable_17 : decode c_Re_variable 17 = .ok (.aload_n 0, 1) := by decide +kernel
theorem d_Re_variable_18 : decode c_Re_variable 18 = .ok (.getfield 19, 3) := by decide +kernel
theorem d_Re_variable_21 : decode c_Re_variable 21 = .ok (.getfield 68, 3) := by decide +kernel
theorem d_Re_variable_24 : decode c_Re_variable 24 = .ok (.iload_n 1, 1) := by decide +kernel
theorem d_Re_variable_25 : decode c_Re_variable 25 = .ok (.dup2, 1) := by decide +kernel
theorem d_Re_variable_26 : decode c_Re_variable 26 = .ok (.iaload, 1) := by decide +kernel
theorem d_Re_variable_27 : decode c_Re_variable 27 = .ok (.iconst 1, 1) := by decide +kernel
theorem d_Re_variable_28 : decode c_Re_variable 28 = .ok (.iload_n 2, 1) := by decide +kernel
theorem d_Re_variable_29 : decode c_Re_variable 29 = .ok (.ishl, 1) := by decide +kernel
theorem d_Re_variable_30 : decode c_Re_variable 30 = .ok (.ior, 1) := by decide +kernel
theorem d_Re_variable_31 : decode c_Re_variable 31 = .ok (.iastore, 1) := by decide +kernel
theorem d_Re_variable_32 : decode c_Re_variable 32 = .ok (.return_, 1) := by decide +kernel
set_option maxRecDepth 100000 in
set_option maxHeartbeats 16000000 in
/-- variable, a place is wrong -/
theorem g_Re_variable_w (l : Launch) (G : va_G) (k : Nat → ClassId) (h0 : Nat) (s0 : Nat) (wr9 : Int32) (x9 : Nat) (ra : Nat) (bc : Nat) (nf : Nat) (nx : Nat) (bw : Nat) (bst : Nat) (bfi : Nat) (bse : Nat) (bkn : Nat) (bnm : Nat) (tk9 : Nat) (sz9 : Nat) (nd9 : Nat) (wd : Nat → Int32) (kno : Nat → Nat) (nam : Nat → Nat) (hx9 : x9 < 40) (hwr : wr9 ≠ -2) : CV l y_Re_variable c_Re_variable 3 { frames := 1, cells := 0, slots := 0, locals := 22 } [.ref h0, .int (nI x9)] G k s0 [(h0, .inr (5, [.ref ra, .ref bc, .int (nI nf), .int (nI nx), .int wr9])), (bc, .inr (4, [.ref bw, .ref bst, .ref bfi, .ref bse, .ref bkn, .ref bnm, .int (nI tk9), .int (nI sz9), .int (nI nd9)])), (bw, .inl (k 0, 200, .inl wd)), (bkn, .inl (k 0, 40, .inl (fun i => nI (kno i)))), (bnm, .inl (k 0, 40, .inl (fun i => nI (nam i))))] (fun (u : Unit) => True) (fun u => [(h0, .inr (5, [.ref ra, .ref bc, .int (nI nf), .int (nI nx), .int wr9])), (bc, .inr (4, [.ref bw, .ref bst, .ref bfi, .ref bse, .ref bkn, .ref bnm, .int (nI tk9), .int (nI sz9), .int (nI nd9)])), (bw, .inl (k 0, 200, .inl wd)), (bkn, .inl (k 0, 40, .inl (fun i => nI (kno i)))), (bnm, .inl (k 0, 40, .inl (fun i => nI ((va_up nam x9 (nam x9 ||| 1)) i))))]) 0 0 := by
  refine met_start (by decide) (Nat.le_of_ble_eq_true rfl) ?_
  intro p e s m below meth c C K hA hsz S ls hl
  generalize va_A [(h0, .inr (5, [.ref ra, .ref bc, .int (nI nf), .int (nI nx), .int wr9])), (bc, .inr (4, [.ref bw, .ref bst, .ref bfi, .ref bse, .ref bkn, .ref bnm, .int (nI tk9), .int (nI sz9), .int (nI nd9)])), (bw, .inl (k 0, 200, .inl wd)), (bkn, .inl (k 0, 40, .inl (fun i => nI (kno i)))), (bnm, .inl (k 0, 40, .inl (fun i => nI (nam i))))] s0 = A at hA S ⊢
  have hx := C.1
  have hb := C.2.1
  have hl : lv_has ls 3 [(0, .ref h0), (1, .int (nI x9))] := hl
  refine lv_aload_n hx hb d_Re_variable_0 rfl (lv_at hl 0 rfl) ?_
  refine lv_iconst (v := 0) hx hb d_Re_variable_1 (by decide) ?_
  refine lv_aload_n hx hb d_Re_variable_2 rfl (lv_at hl 0 rfl) ?_
  refine r_get C K S 0 rfl rfl clOk_Re 1 (by decide) wf_Re_19 (v := .ref bc) rfl d_Re_variable_3 ?_
  refine r_getN C K S 1 rfl rfl clOk_Bo 4 (by decide) xf_Re_61 (v := .ref bkn) rfl d_Re_variable_6 ?_
  refine lv_iload_n hx hb d_Re_variable_9 rfl (lv_at hl 1 rfl) ?_
  refine r_iald C K S 3 rfl (i := nI x9) (show vp_in (nI x9) _ from vp_in_nI (n := x9) (by omega) (by decide)) (v := nI (kno x9)) (by rw [nI_clamp (by omega)]) d_Re_variable_10 ?_
  refine lv_iconst (v := 1) hx hb d_Re_variable_11 (by decide) ?_
  refine lv_isub hx hb d_Re_variable_12 ?_
  refine r_backi (wi := [(h0, .inr (5, [.ref ra, .ref bc, .int (nI nf), .int (nI nx), .int wr9])), (bc, .inr (4, [.ref bw, .ref bst, .ref bfi, .ref bse, .ref bkn, .ref bnm, .int (nI tk9), .int (nI sz9), .int (nI nd9)])), (bw, .inl (k 0, 200, .inl wd))]) (wr := [(bkn, .inl (k 0, 40, .inl (fun i => nI (kno i)))), (bnm, .inl (k 0, 40, .inl (fun i => nI (nam i))))]) S hA [0, 1, 2] [3, 4] rfl rfl (by decide) (by decide) (va_runV (As := [.int 0, .int ((nI (kno x9)) - 1)]) (rest := []) ⟨hx, hb, C.2.2.1, C.2.2.2.1, C.2.2.2.2.1⟩ (g_Re_number_w l G k h0 _ 0 ((nI (kno x9)) - 1) wr9 ra bc nf nx bw bst bfi bse bkn bnm tk9 sz9 nd9 wd hwr) (k_virt (n := 2) C wc_Re_number rfl rfl wz_Re wm_Re_44 wn_Re_number ws_Re_number (by decide +kernel) ⟨(Nat.le_of_ble_eq_true rfl), (Nat.le_of_ble_eq_true rfl)⟩) (pr_nowV K S [0, 1, 2] (by decide) rfl 0 rfl rfl) rfl rfl hl.1 rfl (lv_room (Nat.le_of_ble_eq_true rfl)) d_Re_variable_13 ⟨(Nat.le_of_ble_eq_true rfl), (Nat.le_of_ble_eq_true rfl)⟩) (fun r3 u1 H locs hw2 S => ?_)
  have S : Sw G A s.heap _ _ [(bkn, .inl (k 0, 40, .inl (fun i => nI (kno i)))), (bnm, .inl (k 0, 40, .inl (fun i => nI (nam i)))), (h0, .inr (5, [.ref ra, .ref bc, .int (nI nf), .int (nI nx), .int wr9])), (bc, .inr (4, [.ref bw, .ref bst, .ref bfi, .ref bse, .ref bkn, .ref bnm, .int (nI tk9), .int (nI sz9), .int (nI nd9)])), (bw, .inl (k 0, 200, .inl wd))] := S
  obtain ⟨hw20, hp4⟩ := hw2
  obtain rfl : r3 = 0 := hw20
  refine lv_istore_n (lv' := [(2, .int 0), (0, .ref h0), (1, .int (nI x9))]) hx hb d_Re_variable_16 rfl hl (by decide) rfl (fun ls hl => ?_)
  refine lv_aload_n hx hb d_Re_variable_17 rfl (lv_at hl 1 rfl) ?_
  refine r_get C K S 2 rfl rfl clOk_Re 1 (by decide) wf_Re_19 (v := .ref bc) rfl d_Re_variable_18 ?_
  refine r_getN C K S 3 rfl rfl clOk_Bo 5 (by decide) xf_Re_68 (v := .ref bnm) rfl d_Re_variable_21 ?_
  refine lv_iload_n hx hb d_Re_variable_24 rfl (lv_at hl 2 rfl) ?_
  refine lv_dup2_11 hx hb d_Re_variable_25 rfl rfl ?_
  refine r_iald C K S 1 rfl (i := nI x9) (show vp_in (nI x9) _ from vp_in_nI (n := x9) (by omega) (by decide)) (v := nI (nam x9)) (by rw [nI_clamp (by omega)]) d_Re_variable_26 ?_
  refine lv_iconst (v := 1) hx hb d_Re_variable_27 (by decide) ?_
  refine lv_iload_n hx hb d_Re_variable_28 rfl (lv_at hl 0 rfl) ?_
  refine z_ishl (v := 1) hx hb d_Re_variable_29 (by decide) ?_
  refine z_ior (v := nI (nam x9 ||| 1)) hx hb d_Re_variable_30 (nx_or _ 1) ?_
  refine r_iast C K S 1 rfl (i := nI x9) (x := nI (nam x9 ||| 1)) (show vp_in (nI x9) _ from vp_in_nI (n := x9) (by omega) (by decide)) (f' := fun i => nI (va_up nam x9 (nam x9 ||| 1) i)) (ws' := [(bkn, .inl (k 0, 40, .inl (fun i => nI (kno i)))), (bnm, .inl (k 0, 40, .inl (fun i => nI (va_up nam x9 (nam x9 ||| 1) i)))), (h0, .inr (5, [.ref ra, .ref bc, .int (nI nf), .int (nI nx), .int wr9])), (bc, .inr (4, [.ref bw, .ref bst, .ref bfi, .ref bse, .ref bkn, .ref bnm, .int (nI tk9), .int (nI sz9), .int (nI nd9)])), (bw, .inl (k 0, 200, .inl wd))]) (show upd _ (nI x9 : Int32).toNatClampNeg (nI (nam x9 ||| 1)) = _ from upd_nI nam (j := x9) (by omega) (nam x9 ||| 1)) rfl d_Re_variable_31 (fun H locs S => ?_)
  exact r_vret C K () trivial (S.sub [2, 3, 4, 0, 1] (by decide) rfl) d_Re_variable_32 (Nat.le_of_ble_eq_true rfl) (Nat.le_of_ble_eq_true rfl)
set_option maxRecDepth 100000 in
set_option maxHeartbeats 16000000 in
/-- variable, what stands here is wrong -/
theorem g_Re_variable_b (l : Launch) (G : va_G) (k : Nat → ClassId) (h0 : Nat) (s0 : Nat) (x9 : Nat) (ra : Nat) (bc : Nat) (nf : Nat) (nx : Nat) (bw : Nat) (bst : Nat) (bfi : Nat) (bse : Nat) (bkn : Nat) (bnm : Nat) (tk9 : Nat) (sz9 : Nat) (nd9 : Nat) (wd : Nat → Int32) (kno : Nat → Nat) (nam : Nat → Nat) (hx9 : x9 < 40) (hnx : nx ≤ sz9) (hsz : sz9 ≤ 200) (hkn : kno x9 ≤ 1000) (hbad : nx = sz9 ∨ wd nx < 0 ∨ ¬ wd nx < nI (kno x9)) : CV l y_Re_variable c_Re_variable 3 { frames := 1, cells := 0, slots := 0, locals := 22 } [.ref h0, .int (nI x9)] G k s0 [(h0, .inr (5, [.ref ra, .ref bc, .int (nI nf), .int (nI nx), .int (-2)])), (bc, .inr (4, [.ref bw, .ref bst, .ref bfi, .ref bse, .ref bkn, .ref bnm, .int (nI tk9), .int (nI sz9), .int (nI nd9)])), (bw, .inl (k 0, 200, .inl wd)), (bkn, .inl (k 0, 40, .inl (fun i => nI (kno i)))), (bnm, .inl (k 0, 40, .inl (fun i => nI (nam i))))] (fun (u : Unit) => True) (fun u => [(h0, .inr (5, [.ref ra, .ref bc, .int (nI nf), .int (nI nx), .int (nI nx)])), (bc, .inr (4, [.ref bw, .ref bst, .ref bfi, .ref bse, .ref bkn, .ref bnm, .int (nI tk9), .int (nI sz9), .int (nI nd9)])), (bw, .inl (k 0, 200, .inl wd)), (bkn, .inl (k 0, 40, .inl (fun i => nI (kno i)))), (bnm, .inl (k 0, 40, .inl (fun i => nI ((va_up nam x9 (nam x9 ||| 1)) i))))]) 0 0 := by
  refine met_start (by decide) (Nat.le_of_ble_eq_true rfl) ?_
  intro p e s m below meth c C K hA hsz S ls hl
  generalize va_A [(h0, .inr (5, [.ref ra, .ref bc, .int (nI nf), .int (nI nx), .int (-2)])), (bc, .inr (4, [.ref bw, .ref bst, .ref bfi, .ref bse, .ref bkn, .ref bnm, .int (nI tk9), .int (nI sz9), .int (nI nd9)])), (bw, .inl (k 0, 200, .inl wd)), (bkn, .inl (k 0, 40, .inl (fun i => nI (kno i)))), (bnm, .inl (k 0, 40, .inl (fun i => nI (nam i))))] s0 = A at hA S ⊢
  have hx := C.1
  have hb := C.2.1
  have hl : lv_has ls 3 [(0, .ref h0), (1, .int (nI x9))] := hl
  refine lv_aload_n hx hb d_Re_variable_0 rfl (lv_at hl 0 rfl) ?_
  refine lv_iconst (v := 0) hx hb d_Re_variable_1 (by decide) ?_
  refine lv_aload_n hx hb d_Re_variable_2 rfl (lv_at hl 0 rfl) ?_
  refine r_get C K S 0 rfl rfl clOk_Re 1 (by decide) wf_Re_19 (v := .ref bc) rfl d_Re_variable_3 ?_
  refine r_getN C K S 1 rfl rfl clOk_Bo 4 (by decide) xf_Re_61 (v := .ref bkn) rfl d_Re_variable_6 ?_
  refine lv_iload_n hx hb d_Re_variable_9 rfl (lv_at hl 1 rfl) ?_
  refine r_iald C K S 3 rfl (i := nI x9) (show vp_in (nI x9) _ from vp_in_nI (n := x9) (by omega) (by decide)) (v := nI (kno x9)) (by rw [nI_clamp (by omega)]) d_Re_variable_10 ?_
  refine lv_iconst (v := 1) hx hb d_Re_variable_11 (by decide) ?_
  refine lv_isub hx hb d_Re_variable_12 ?_
  refine r_backi (wi := [(h0, .inr (5, [.ref ra, .ref bc, .int (nI nf), .int (nI nx), .int (-2)])), (bc, .inr (4, [.ref bw, .ref bst, .ref bfi, .ref bse, .ref bkn, .ref bnm, .int (nI tk9), .int (nI sz9), .int (nI nd9)])), (bw, .inl (k 0, 200, .inl wd))]) (wr := [(bkn, .inl (k 0, 40, .inl (fun i => nI (kno i)))), (bnm, .inl (k 0, 40, .inl (fun i => nI (nam i))))]) S hA [0, 1, 2] [3, 4] rfl rfl (by decide) (by decide) (va_runV (As := [.int 0, .int ((nI (kno x9)) - 1)]) (rest := []) ⟨hx, hb, C.2.2.1, C.2.2.2.1, C.2.2.2.2.1⟩ (g_Re_number_b l G k h0 _ 0 ((nI (kno x9)) - 1) ra bc nf nx bw bst bfi bse bkn bnm tk9 sz9 nd9 wd hnx (by omega) (hbad.elim Or.inl (fun q => Or.inr (q.elim Or.inl (fun w => Or.inr (Int32.not_le.mp (fun y => w ((le_m1 (by omega)).mp y)))))))) (k_virt (n := 2) C wc_Re_number rfl rfl wz_Re wm_Re_44 wn_Re_number ws_Re_number (by decide +kernel) ⟨(Nat.le_of_ble_eq_true rfl), (Nat.le_of_ble_eq_true rfl)⟩) (pr_nowV K S [0, 1, 2] (by decide) rfl 0 rfl rfl) rfl rfl hl.1 rfl (lv_room (Nat.le_of_ble_eq_true rfl)) d_Re_variable_13 ⟨(Nat.le_of_ble_eq_true rfl), (Nat.le_of_ble_eq_true rfl)⟩) (fun r3 u1 H locs hw2 S => ?_)
  have S : Sw G A s.heap _ _ [(bkn, .inl (k 0, 40, .inl (fun i => nI (kno i)))), (bnm, .inl (k 0, 40, .inl (fun i => nI (nam i)))), (h0, .inr (5, [.ref ra, .ref bc, .int (nI nf), .int (nI nx), .int (nI nx)])), (bc, .inr (4, [.ref bw, .ref bst, .ref bfi, .ref bse, .ref bkn, .ref bnm, .int (nI tk9), .int (nI sz9), .int (nI nd9)])), (bw, .inl (k 0, 200, .inl wd))] := S
  obtain ⟨hw20, hp4⟩ := hw2
  obtain rfl : r3 = 0 := hw20
  refine lv_istore_n (lv' := [(2, .int 0), (0, .ref h0), (1, .int (nI x9))]) hx hb d_Re_variable_16 rfl hl (by decide) rfl (fun ls hl => ?_)
  refine lv_aload_n hx hb d_Re_variable_17 rfl (lv_at hl 1 rfl) ?_
  refine r_get C K S 2 rfl rfl clOk_Re 1 (by decide) wf_Re_19 (v := .ref bc) rfl d_Re_variable_18 ?_
  refine r_getN C K S 3 rfl rfl clOk_Bo 5 (by decide) xf_Re_68 (v := .ref bnm) rfl d_Re_variable_21 ?_
  refine lv_iload_n hx hb d_Re_variable_24 rfl (lv_at hl 2 rfl) ?_
  refine lv_dup2_11 hx hb d_Re_variable_25 rfl rfl ?_
  refine r_iald C K S 1 rfl (i := nI x9) (show vp_in (nI x9) _ from vp_in_nI (n := x9) (by omega) (by decide)) (v := nI (nam x9)) (by rw [nI_clamp (by omega)]) d_Re_variable_26 ?_
  refine lv_iconst (v := 1) hx hb d_Re_variable_27 (by decide) ?_
  refine lv_iload_n hx hb d_Re_variable_28 rfl (lv_at hl 0 rfl) ?_
  refine z_ishl (v := 1) hx hb d_Re_variable_29 (by decide) ?_
  refine z_ior (v := nI (nam x9 ||| 1)) hx hb d_Re_variable_30 (nx_or _ 1) ?_
  refine r_iast C K S 1 rfl (i := nI x9) (x := nI (nam x9 ||| 1)) (show vp_in (nI x9) _ from vp_in_nI (n := x9) (by omega) (by decide)) (f' := fun i => nI (va_up nam x9 (nam x9 ||| 1) i)) (ws' := [(bkn, .inl (k 0, 40, .inl (fun i => nI (kno i)))), (bnm, .inl (k 0, 40, .inl (fun i => nI (va_up nam x9 (nam x9 ||| 1) i)))), (h0, .inr (5, [.ref ra, .ref bc, .int (nI nf), .int (nI nx), .int (nI nx)])), (bc, .inr (4, [.ref bw, .ref bst, .ref bfi, .ref bse, .ref bkn, .ref bnm, .int (nI tk9), .int (nI sz9), .int (nI nd9)])), (bw, .inl (k 0, 200, .inl wd))]) (show upd _ (nI x9 : Int32).toNatClampNeg (nI (nam x9 ||| 1)) = _ from upd_nI nam (j := x9) (by omega) (nam x9 ||| 1)) rfl d_Re_variable_31 (fun H locs S => ?_)
  exact r_vret C K () trivial (S.sub [2, 3, 4, 0, 1] (by decide) rfl) d_Re_variable_32 (Nat.le_of_ble_eq_true rfl) (Nat.le_of_ble_eq_true rfl)
set_option maxRecDepth 100000 in
set_option maxHeartbeats 16000000 in
/-- variable, a known one -/
theorem g_Re_variable_g (l : Launch) (G : va_G) (k : Nat → ClassId) (h0 : Nat) (s0 : Nat) (v9 : Nat) (x9 : Nat) (ra : Nat) (bc : Nat) (nf : Nat) (nx : Nat) (bw : Nat) (bst : Nat) (bfi : Nat) (bse : Nat) (bkn : Nat) (bnm : Nat) (tk9 : Nat) (sz9 : Nat) (nd9 : Nat) (wd : Nat → Int32) (kno : Nat → Nat) (nam : Nat → Nat) (hx9 : x9 < 40) (hnx : nx < sz9) (hsz : sz9 ≤ 200) (hkn : kno x9 ≤ 19) (hv : wd nx = nI v9) (hv2 : v9 < kno x9) : CV l y_Re_variable c_Re_variable 3 { frames := 1, cells := 0, slots := 0, locals := 22 } [.ref h0, .int (nI x9)] G k s0 [(h0, .inr (5, [.ref ra, .ref bc, .int (nI nf), .int (nI nx), .int (-2)])), (bc, .inr (4, [.ref bw, .ref bst, .ref bfi, .ref bse, .ref bkn, .ref bnm, .int (nI tk9), .int (nI sz9), .int (nI nd9)])), (bw, .inl (k 0, 200, .inl wd)), (bkn, .inl (k 0, 40, .inl (fun i => nI (kno i)))), (bnm, .inl (k 0, 40, .inl (fun i => nI (nam i))))] (fun (u : Unit) => True) (fun u => [(h0, .inr (5, [.ref ra, .ref bc, .int (nI nf), .int (nI (nx + 1)), .int (-2)])), (bc, .inr (4, [.ref bw, .ref bst, .ref bfi, .ref bse, .ref bkn, .ref bnm, .int (nI tk9), .int (nI sz9), .int (nI nd9)])), (bw, .inl (k 0, 200, .inl wd)), (bkn, .inl (k 0, 40, .inl (fun i => nI (kno i)))), (bnm, .inl (k 0, 40, .inl (fun i => nI ((va_up nam x9 (nam x9 ||| (1 * 2 ^ v9))) i))))]) 0 0 := by
  refine met_start (by decide) (Nat.le_of_ble_eq_true rfl) ?_
  intro p e s m below meth c C K hA hsz S ls hl
  generalize va_A [(h0, .inr (5, [.ref ra, .ref bc, .int (nI nf), .int (nI nx), .int (-2)])), (bc, .inr (4, [.ref bw, .ref bst, .ref bfi, .ref bse, .ref bkn, .ref bnm, .int (nI tk9), .int (nI sz9), .int (nI nd9)])), (bw, .inl (k 0, 200, .inl wd)), (bkn, .inl (k 0, 40, .inl (fun i => nI (kno i)))), (bnm, .inl (k 0, 40, .inl (fun i => nI (nam i))))] s0 = A at hA S ⊢
  have hx := C.1
  have hb := C.2.1
  have hl : lv_has ls 3 [(0, .ref h0), (1, .int (nI x9))] := hl
  refine lv_aload_n hx hb d_Re_variable_0 rfl (lv_at hl 0 rfl) ?_
  refine lv_iconst (v := 0) hx hb d_Re_variable_1 (by decide) ?_
  refine lv_aload_n hx hb d_Re_variable_2 rfl (lv_at hl 0 rfl) ?_
  refine r_get C K S 0 rfl rfl clOk_Re 1 (by decide) wf_Re_19 (v := .ref bc) rfl d_Re_variable_3 ?_
  refine r_getN C K S 1 rfl rfl clOk_Bo 4 (by decide) xf_Re_61 (v := .ref bkn) rfl d_Re_variable_6 ?_
  refine lv_iload_n hx hb d_Re_variable_9 rfl (lv_at hl 1 rfl) ?_
  refine r_iald C K S 3 rfl (i := nI x9) (show vp_in (nI x9) _ from vp_in_nI (n := x9) (by omega) (by decide)) (v := nI (kno x9)) (by rw [nI_clamp (by omega)]) d_Re_variable_10 ?_
  refine lv_iconst (v := 1) hx hb d_Re_variable_11 (by decide) ?_
  refine lv_isub hx hb d_Re_variable_12 ?_
  refine r_backi (wi := [(h0, .inr (5, [.ref ra, .ref bc, .int (nI nf), .int (nI nx), .int (-2)])), (bc, .inr (4, [.ref bw, .ref bst, .ref bfi, .ref bse, .ref bkn, .ref bnm, .int (nI tk9), .int (nI sz9), .int (nI nd9)])), (bw, .inl (k 0, 200, .inl wd))]) (wr := [(bkn, .inl (k 0, 40, .inl (fun i => nI (kno i)))), (bnm, .inl (k 0, 40, .inl (fun i => nI (nam i))))]) S hA [0, 1, 2] [3, 4] rfl rfl (by decide) (by decide) (va_runV (As := [.int 0, .int ((nI (kno x9)) - 1)]) (rest := []) ⟨hx, hb, C.2.2.1, C.2.2.2.1, C.2.2.2.2.1⟩ (g_Re_number_g l G k h0 _ 0 ((nI (kno x9)) - 1) ra bc nf nx bw bst bfi bse bkn bnm tk9 sz9 nd9 wd hnx (by omega) (by rw [hv]; exact nn_nlt (by omega)) ((le_m1 (by omega)).mpr (by rw [hv]; exact (nI_lt_iff (by omega) (by omega)).mpr hv2))) (k_virt (n := 2) C wc_Re_number rfl rfl wz_Re wm_Re_44 wn_Re_number ws_Re_number (by decide +kernel) ⟨(Nat.le_of_ble_eq_true rfl), (Nat.le_of_ble_eq_true rfl)⟩) (pr_nowV K S [0, 1, 2] (by decide) rfl 0 rfl rfl) rfl rfl hl.1 rfl (lv_room (Nat.le_of_ble_eq_true rfl)) d_Re_variable_13 ⟨(Nat.le_of_ble_eq_true rfl), (Nat.le_of_ble_eq_true rfl)⟩) (fun r3 u1 H locs hw2 S => ?_)
  have S : Sw G A s.heap _ _ [(bkn, .inl (k 0, 40, .inl (fun i => nI (kno i)))), (bnm, .inl (k 0, 40, .inl (fun i => nI (nam i)))), (h0, .inr (5, [.ref ra, .ref bc, .int (nI nf), .int (nI (nx + 1)), .int (-2)])), (bc, .inr (4, [.ref bw, .ref bst, .ref bfi, .ref bse, .ref bkn, .ref bnm, .int (nI tk9), .int (nI sz9), .int (nI nd9)])), (bw, .inl (k 0, 200, .inl wd))] := S
  obtain ⟨hw20, hp4⟩ := hw2
  obtain rfl : r3 = wd nx := hw20
  rw [hv]
  refine lv_istore_n (lv' := [(2, .int (nI v9)), (0, .ref h0), (1, .int (nI x9))]) hx hb d_Re_variable_16 rfl hl (by decide) rfl (fun ls hl => ?_)
  refine lv_aload_n hx hb d_Re_variable_17 rfl (lv_at hl 1 rfl) ?_
  refine r_get C K S 2 rfl rfl clOk_Re 1 (by decide) wf_Re_19 (v := .ref bc) rfl d_Re_variable_18 ?_
  refine r_getN C K S 3 rfl rfl clOk_Bo 5 (by decide) xf_Re_68 (v := .ref bnm) rfl d_Re_variable_21 ?_
  refine lv_iload_n hx hb d_Re_variable_24 rfl (lv_at hl 2 rfl) ?_
  refine lv_dup2_11 hx hb d_Re_variable_25 rfl rfl ?_
  refine r_iald C K S 1 rfl (i := nI x9) (show vp_in (nI x9) _ from vp_in_nI (n := x9) (by omega) (by decide)) (v := nI (nam x9)) (by rw [nI_clamp (by omega)]) d_Re_variable_26 ?_
  refine lv_iconst (v := 1) hx hb d_Re_variable_27 (by decide) ?_
  refine lv_iload_n hx hb d_Re_variable_28 rfl (lv_at hl 0 rfl) ?_
  refine z_ishl (v := nI (1 * 2 ^ v9)) hx hb d_Re_variable_29 (show (1 : Int32) <<< (nI v9 &&& 31) = nI (1 * 2 ^ v9) from pk_shlN (n := 1) _ v9 (s_l9 v9 (by omega)) (by have : 2 ^ v9 ≤ 2 ^ 20 := Nat.pow_le_pow_right (by decide) (by omega); omega)) ?_
  refine z_ior (v := nI (nam x9 ||| (1 * 2 ^ v9))) hx hb d_Re_variable_30 (nx_or _ _) ?_
  refine r_iast C K S 1 rfl (i := nI x9) (x := nI (nam x9 ||| (1 * 2 ^ v9))) (show vp_in (nI x9) _ from vp_in_nI (n := x9) (by omega) (by decide)) (f' := fun i => nI (va_up nam x9 (nam x9 ||| (1 * 2 ^ v9)) i)) (ws' := [(bkn, .inl (k 0, 40, .inl (fun i => nI (kno i)))), (bnm, .inl (k 0, 40, .inl (fun i => nI (va_up nam x9 (nam x9 ||| (1 * 2 ^ v9)) i)))), (h0, .inr (5, [.ref ra, .ref bc, .int (nI nf), .int (nI (nx + 1)), .int (-2)])), (bc, .inr (4, [.ref bw, .ref bst, .ref bfi, .ref bse, .ref bkn, .ref bnm, .int (nI tk9), .int (nI sz9), .int (nI nd9)])), (bw, .inl (k 0, 200, .inl wd))]) (show upd _ (nI x9 : Int32).toNatClampNeg (nI (nam x9 ||| (1 * 2 ^ v9))) = _ from upd_nI nam (j := x9) (by omega) (nam x9 ||| (1 * 2 ^ v9))) rfl d_Re_variable_31 (fun H locs S => ?_)
  exact r_vret C K () trivial (S.sub [2, 3, 4, 0, 1] (by decide) rfl) d_Re_variable_32 (Nat.le_of_ble_eq_true rfl) (Nat.le_of_ble_eq_true rfl)
