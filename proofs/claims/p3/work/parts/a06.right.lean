/-- 1 where nothing is wrong -/
def rgI : Option Nat → Int32
  | none => 1
  | some _ => 0
theorem d_Re_isRight_0 : decode c_Re_isRight 0 = .ok (.aload_n 0, 1) := by decide +kernel
theorem d_Re_isRight_1 : decode c_Re_isRight 1 = .ok (.aload_n 0, 1) := by decide +kernel
theorem d_Re_isRight_2 : decode c_Re_isRight 2 = .ok (.getfield 15, 3) := by decide +kernel
theorem d_Re_isRight_5 : decode c_Re_isRight 5 = .ok (.iload_n 1, 1) := by decide +kernel
theorem d_Re_isRight_6 : decode c_Re_isRight 6 = .ok (.aaload, 1) := by decide +kernel
theorem d_Re_isRight_7 : decode c_Re_isRight 7 = .ok (.putfield 19, 3) := by decide +kernel
theorem d_Re_isRight_10 : decode c_Re_isRight 10 = .ok (.aload_n 0, 1) := by decide +kernel
theorem d_Re_isRight_11 : decode c_Re_isRight 11 = .ok (.iload_n 2, 1) := by decide +kernel
theorem d_Re_isRight_12 : decode c_Re_isRight 12 = .ok (.putfield 23, 3) := by decide +kernel
theorem d_Re_isRight_15 : decode c_Re_isRight 15 = .ok (.aload_n 0, 1) := by decide +kernel
theorem d_Re_isRight_16 : decode c_Re_isRight 16 = .ok (.iconst 0, 1) := by decide +kernel
theorem d_Re_isRight_17 : decode c_Re_isRight 17 = .ok (.putfield 26, 3) := by decide +kernel
theorem d_Re_isRight_20 : decode c_Re_isRight 20 = .ok (.aload_n 0, 1) := by decide +kernel
theorem d_Re_isRight_21 : decode c_Re_isRight 21 = .ok (.bipush (-2), 2) := by decide +kernel
theorem d_Re_isRight_23 : decode c_Re_isRight 23 = .ok (.putfield 9, 3) := by decide +kernel
theorem d_Re_isRight_26 : decode c_Re_isRight 26 = .ok (.aload_n 0, 1) := by decide +kernel
theorem d_Re_isRight_27 : decode c_Re_isRight 27 = .ok (.getfield 19, 3) := by decide +kernel
theorem d_Re_isRight_30 : decode c_Re_isRight 30 = .ok (.iconst 0, 1) := by decide +kernel
theorem d_Re_isRight_31 : decode c_Re_isRight 31 = .ok (.putfield 29, 3) := by decide +kernel
theorem d_Re_isRight_34 : decode c_Re_isRight 34 = .ok (.aload_n 0, 1) := by decide +kernel
theorem d_Re_isRight_35 : decode c_Re_isRight 35 = .ok (.aload_n 0, 1) := by decide +kernel
theorem d_Re_isRight_36 : decode c_Re_isRight 36 = .ok (.getfield 19, 3) := by decide +kernel
theorem d_Re_isRight_39 : decode c_Re_isRight 39 = .ok (.getfield 34, 3) := by decide +kernel
theorem d_Re_isRight_42 : decode c_Re_isRight 42 = .ok (.iconst 1, 1) := by decide +kernel
theorem d_Re_isRight_43 : decode c_Re_isRight 43 = .ok (.invokevirtual 37, 3) := by decide +kernel
theorem d_Re_isRight_46 : decode c_Re_isRight 46 = .ok (.pop, 1) := by decide +kernel
theorem d_Re_isRight_47 : decode c_Re_isRight 47 = .ok (.aload_n 0, 1) := by decide +kernel
theorem d_Re_isRight_48 : decode c_Re_isRight 48 = .ok (.getfield 9, 3) := by decide +kernel
theorem d_Re_isRight_51 : decode c_Re_isRight 51 = .ok (.bipush (-2), 2) := by decide +kernel
theorem d_Re_isRight_53 : decode c_Re_isRight 53 = .ok (.if_icmp .ne 25, 3) := by decide +kernel
theorem d_Re_isRight_56 : decode c_Re_isRight 56 = .ok (.aload_n 0, 1) := by decide +kernel
theorem d_Re_isRight_57 : decode c_Re_isRight 57 = .ok (.getfield 26, 3) := by decide +kernel
theorem d_Re_isRight_60 : decode c_Re_isRight 60 = .ok (.aload_n 0, 1) := by decide +kernel
theorem d_Re_isRight_61 : decode c_Re_isRight 61 = .ok (.getfield 19, 3) := by decide +kernel
theorem d_Re_isRight_64 : decode c_Re_isRight 64 = .ok (.getfield 41, 3) := by decide +kernel
theorem d_Re_isRight_67 : decode c_Re_isRight 67 = .ok (.if_icmp .ge 11, 3) := by decide +kernel
theorem d_Re_isRight_70 : decode c_Re_isRight 70 = .ok (.aload_n 0, 1) := by decide +kernel
theorem d_Re_isRight_71 : decode c_Re_isRight 71 = .ok (.aload_n 0, 1) := by decide +kernel
theorem d_Re_isRight_72 : decode c_Re_isRight 72 = .ok (.getfield 26, 3) := by decide +kernel
theorem d_Re_isRight_75 : decode c_Re_isRight 75 = .ok (.putfield 9, 3) := by decide +kernel
theorem d_Re_isRight_78 : decode c_Re_isRight 78 = .ok (.aload_n 0, 1) := by decide +kernel
theorem d_Re_isRight_79 : decode c_Re_isRight 79 = .ok (.getfield 9, 3) := by decide +kernel
theorem d_Re_isRight_82 : decode c_Re_isRight 82 = .ok (.bipush (-2), 2) := by decide +kernel
theorem d_Re_isRight_84 : decode c_Re_isRight 84 = .ok (.if_icmp .ne 7, 3) := by decide +kernel
theorem d_Re_isRight_87 : decode c_Re_isRight 87 = .ok (.iconst 1, 1) := by decide +kernel
theorem d_Re_isRight_88 : decode c_Re_isRight 88 = .ok (.goto 4, 3) := by decide +kernel
theorem d_Re_isRight_91 : decode c_Re_isRight 91 = .ok (.iconst 0, 1) := by decide +kernel
theorem d_Re_isRight_92 : decode c_Re_isRight 92 = .ok (.ireturn, 1) := by decide +kernel
set_option maxRecDepth 100000 in
set_option maxHeartbeats 16000000 in
/-- isRight -/
theorem g_Re_isRight (l : Launch) (G : va_G) (k : Nat → ClassId) (h0 : Nat) (s0 : Nat) (f9 : Nat) (br : Nat) (fn0 : Int32) (nx0 : Int32) (wr0 : Int32) (ra : Nat) (bc : Nat) (nf : Nat) (bw : Nat) (bst : Nat) (bfi : Nat) (bse : Nat) (bkn : Nat) (bnm : Nat) (tk9 : Nat) (sz9 : Nat) (nd9 : Nat) (o1 : Nat) (o2 : Nat) (o3 : Nat) (o1_0 : Nat) (o1_1 : Nat) (o1_2 : Nat) (o1_3 : Nat) (o1_4 : Nat) (o1_5 : Nat) (o2_0 : Nat) (o2_1 : Nat) (o2_2 : Nat) (o2_3 : Nat) (o2_4 : Nat) (o2_5 : Nat) (o3_0 : Nat) (o3_1 : Nat) (o3_2 : Nat) (o3_3 : Nat) (o3_4 : Nat) (o3_5 : Nat) (t1 : Nat) (t2 : Nat) (t3 : Nat) (os1 : Int32) (os2 : Int32) (os3 : Int32) (on1 : Int32) (on2 : Int32) (on3 : Int32) (wd : Nat → Int32) (sta : Nat → Nat) (fir : Nat → Nat) (sec : Nat → Nat) (kno : Nat → Nat) (nam : Nat → Nat) (bf : Nat → Option Nat) (tk : Nat → Nat) (hf9 : f9 < 4) (hs2 : sz9 ≤ 200) (hnf : nf ≤ 4) (ht9 : tk9 ≤ 3) (hb9 : bf f9 = some bc) (hbf : bfO bf tk nf bc o1 o2 o3 tk9 t1 t2 t3) (htk : ∀ g, g < nf → tk g ≤ 3) : CI l y_Re_isRight c_Re_isRight 3 .boolean { frames := 36, cells := 0, slots := 0, locals := 875 } [.ref h0, .int (nI f9), .int (nI nf)] G k s0 [(h0, .inr (5, [.ref ra, .ref br, .int fn0, .int nx0, .int wr0])), (bc, .inr (4, [.ref bw, .ref bst, .ref bfi, .ref bse, .ref bkn, .ref bnm, .int (nI tk9), .int (nI sz9), .int (nI nd9)])), (bw, .inl (k 0, 200, .inl wd)), (bst, .inl (k 0, 40, .inl (fun i => nI (sta i)))), (bfi, .inl (k 0, 40, .inl (fun i => nI (fir i)))), (bse, .inl (k 0, 40, .inl (fun i => nI (sec i)))), (bkn, .inl (k 0, 40, .inl (fun i => nI (kno i)))), (bnm, .inl (k 0, 40, .inl (fun i => nI (nam i)))), (ra, .inl (k 3, 4, .inr (.inr (.inr (.inr bf))))), (o1, .inr (4, [.ref o1_0, .ref o1_1, .ref o1_2, .ref o1_3, .ref o1_4, .ref o1_5, .int (nI t1), .int os1, .int on1])), (o2, .inr (4, [.ref o2_0, .ref o2_1, .ref o2_2, .ref o2_3, .ref o2_4, .ref o2_5, .int (nI t2), .int os2, .int on2])), (o3, .inr (4, [.ref o3_0, .ref o3_1, .ref o3_2, .ref o3_3, .ref o3_4, .ref o3_5, .int (nI t3), .int os3, .int on3]))] (fun (r : Int32) (u : XS) => r = rgI u.2.2.2.2.2.2.1 ∧ u.2.2.2.2.2.2.1 = wrR sz9 (prs wd tk nf sz9 16 tk9 0 0 (fun _ => 0)) ∧ (u.2.2.2.2.2.2.1 = none → ∃ y, y ≤ 40 ∧ ntT wd tk u.1 u.2.1 u.2.2.1 u.2.2.2.1 u.2.2.2.2.1 16 tk9 0 sz9 0 y)) (fun u => [(h0, .inr (5, [.ref ra, .ref bc, .int (nI nf), .int (nI u.2.2.2.2.2.1), .int (wrI u.2.2.2.2.2.2.1)])), (bc, .inr (4, [.ref bw, .ref bst, .ref bfi, .ref bse, .ref bkn, .ref bnm, .int (nI tk9), .int (nI sz9), .int (nI u.2.2.2.2.2.2.2.1)])), (bw, .inl (k 0, 200, .inl wd)), (bst, .inl (k 0, 40, .inl (fun i => nI (u.1 i)))), (bfi, .inl (k 0, 40, .inl (fun i => nI (u.2.1 i)))), (bse, .inl (k 0, 40, .inl (fun i => nI (u.2.2.1 i)))), (bkn, .inl (k 0, 40, .inl (fun i => nI (u.2.2.2.1 i)))), (bnm, .inl (k 0, 40, .inl (fun i => nI (u.2.2.2.2.1 i)))), (ra, .inl (k 3, 4, .inr (.inr (.inr (.inr bf))))), (o1, .inr (4, [.ref o1_0, .ref o1_1, .ref o1_2, .ref o1_3, .ref o1_4, .ref o1_5, .int (nI t1), .int os1, .int on1])), (o2, .inr (4, [.ref o2_0, .ref o2_1, .ref o2_2, .ref o2_3, .ref o2_4, .ref o2_5, .int (nI t2), .int os2, .int on2])), (o3, .inr (4, [.ref o3_0, .ref o3_1, .ref o3_2, .ref o3_3, .ref o3_4, .ref o3_5, .int (nI t3), .int os3, .int on3]))]) 0 0 := by
  refine met_start (by decide) (Nat.le_of_ble_eq_true rfl) ?_
  intro p e s m below meth c C K hA hsz S ls hl
  generalize va_A [(h0, .inr (5, [.ref ra, .ref br, .int fn0, .int nx0, .int wr0])), (bc, .inr (4, [.ref bw, .ref bst, .ref bfi, .ref bse, .ref bkn, .ref bnm, .int (nI tk9), .int (nI sz9), .int (nI nd9)])), (bw, .inl (k 0, 200, .inl wd)), (bst, .inl (k 0, 40, .inl (fun i => nI (sta i)))), (bfi, .inl (k 0, 40, .inl (fun i => nI (fir i)))), (bse, .inl (k 0, 40, .inl (fun i => nI (sec i)))), (bkn, .inl (k 0, 40, .inl (fun i => nI (kno i)))), (bnm, .inl (k 0, 40, .inl (fun i => nI (nam i)))), (ra, .inl (k 3, 4, .inr (.inr (.inr (.inr bf))))), (o1, .inr (4, [.ref o1_0, .ref o1_1, .ref o1_2, .ref o1_3, .ref o1_4, .ref o1_5, .int (nI t1), .int os1, .int on1])), (o2, .inr (4, [.ref o2_0, .ref o2_1, .ref o2_2, .ref o2_3, .ref o2_4, .ref o2_5, .int (nI t2), .int os2, .int on2])), (o3, .inr (4, [.ref o3_0, .ref o3_1, .ref o3_2, .ref o3_3, .ref o3_4, .ref o3_5, .int (nI t3), .int os3, .int on3]))] s0 = A at hA S ⊢
  have hx := C.1
  have hb := C.2.1
  have hl : lv_has ls 3 [(0, .ref h0), (1, .int (nI f9)), (2, .int (nI nf))] := hl
  refine lv_aload_n hx hb d_Re_isRight_0 rfl (lv_at hl 0 rfl) ?_
  refine lv_aload_n hx hb d_Re_isRight_1 rfl (lv_at hl 0 rfl) ?_
  refine r_get C K S 0 rfl rfl clOk_Re 0 (by decide) wf_Re_15 (v := .ref ra) rfl d_Re_isRight_2 ?_
  refine lv_iload_n hx hb d_Re_isRight_5 rfl (lv_at hl 1 rfl) ?_
  refine r_aald C K S 8 3 rfl rfl (i := nI f9) (show vp_in (nI f9) _ from vp_in_nI (n := f9) (by omega) (by decide)) (b := bc) (by rw [nI_clamp (by omega)]; exact hb9) d_Re_isRight_6 ?_
  refine r_put C K S 0 rfl rfl clOk_Re 1 (by decide) wf_Re_19 rfl (ty := .object "PotentialBench$Body") (v := .ref bc) (by decide +kernel) rfl rfl (Nat.le_of_ble_eq_true rfl) (fs' := [.ref ra, .ref bc, .int fn0, .int nx0, .int wr0]) (ws' := [(h0, .inr (5, [.ref ra, .ref bc, .int fn0, .int nx0, .int wr0])), (bc, .inr (4, [.ref bw, .ref bst, .ref bfi, .ref bse, .ref bkn, .ref bnm, .int (nI tk9), .int (nI sz9), .int (nI nd9)])), (bw, .inl (k 0, 200, .inl wd)), (bst, .inl (k 0, 40, .inl (fun i => nI (sta i)))), (bfi, .inl (k 0, 40, .inl (fun i => nI (fir i)))), (bse, .inl (k 0, 40, .inl (fun i => nI (sec i)))), (bkn, .inl (k 0, 40, .inl (fun i => nI (kno i)))), (bnm, .inl (k 0, 40, .inl (fun i => nI (nam i)))), (ra, .inl (k 3, 4, .inr (.inr (.inr (.inr bf))))), (o1, .inr (4, [.ref o1_0, .ref o1_1, .ref o1_2, .ref o1_3, .ref o1_4, .ref o1_5, .int (nI t1), .int os1, .int on1])), (o2, .inr (4, [.ref o2_0, .ref o2_1, .ref o2_2, .ref o2_3, .ref o2_4, .ref o2_5, .int (nI t2), .int os2, .int on2])), (o3, .inr (4, [.ref o3_0, .ref o3_1, .ref o3_2, .ref o3_3, .ref o3_4, .ref o3_5, .int (nI t3), .int os3, .int on3]))]) rfl rfl d_Re_isRight_7 (fun H locs S => ?_)
  refine lv_aload_n hx hb d_Re_isRight_10 rfl (lv_at hl 0 rfl) ?_
  refine lv_iload_n hx hb d_Re_isRight_11 rfl (lv_at hl 2 rfl) ?_
  refine r_put C K S 0 rfl rfl clOk_Re 2 (by decide) wf_Re_23 rfl (ty := .int) (v := .int (nI nf)) (by decide +kernel) rfl rfl (Nat.le_of_ble_eq_true rfl) (fs' := [.ref ra, .ref bc, .int (nI nf), .int nx0, .int wr0]) (ws' := [(h0, .inr (5, [.ref ra, .ref bc, .int (nI nf), .int nx0, .int wr0])), (bc, .inr (4, [.ref bw, .ref bst, .ref bfi, .ref bse, .ref bkn, .ref bnm, .int (nI tk9), .int (nI sz9), .int (nI nd9)])), (bw, .inl (k 0, 200, .inl wd)), (bst, .inl (k 0, 40, .inl (fun i => nI (sta i)))), (bfi, .inl (k 0, 40, .inl (fun i => nI (fir i)))), (bse, .inl (k 0, 40, .inl (fun i => nI (sec i)))), (bkn, .inl (k 0, 40, .inl (fun i => nI (kno i)))), (bnm, .inl (k 0, 40, .inl (fun i => nI (nam i)))), (ra, .inl (k 3, 4, .inr (.inr (.inr (.inr bf))))), (o1, .inr (4, [.ref o1_0, .ref o1_1, .ref o1_2, .ref o1_3, .ref o1_4, .ref o1_5, .int (nI t1), .int os1, .int on1])), (o2, .inr (4, [.ref o2_0, .ref o2_1, .ref o2_2, .ref o2_3, .ref o2_4, .ref o2_5, .int (nI t2), .int os2, .int on2])), (o3, .inr (4, [.ref o3_0, .ref o3_1, .ref o3_2, .ref o3_3, .ref o3_4, .ref o3_5, .int (nI t3), .int os3, .int on3]))]) rfl rfl d_Re_isRight_12 (fun H locs S => ?_)
  refine lv_aload_n hx hb d_Re_isRight_15 rfl (lv_at hl 0 rfl) ?_
  refine lv_iconst (v := 0) hx hb d_Re_isRight_16 (by decide) ?_
  refine r_put C K S 0 rfl rfl clOk_Re 3 (by decide) wf_Re_26 rfl (ty := .int) (v := .int 0) (by decide +kernel) rfl rfl (Nat.le_of_ble_eq_true rfl) (fs' := [.ref ra, .ref bc, .int (nI nf), .int 0, .int wr0]) (ws' := [(h0, .inr (5, [.ref ra, .ref bc, .int (nI nf), .int 0, .int wr0])), (bc, .inr (4, [.ref bw, .ref bst, .ref bfi, .ref bse, .ref bkn, .ref bnm, .int (nI tk9), .int (nI sz9), .int (nI nd9)])), (bw, .inl (k 0, 200, .inl wd)), (bst, .inl (k 0, 40, .inl (fun i => nI (sta i)))), (bfi, .inl (k 0, 40, .inl (fun i => nI (fir i)))), (bse, .inl (k 0, 40, .inl (fun i => nI (sec i)))), (bkn, .inl (k 0, 40, .inl (fun i => nI (kno i)))), (bnm, .inl (k 0, 40, .inl (fun i => nI (nam i)))), (ra, .inl (k 3, 4, .inr (.inr (.inr (.inr bf))))), (o1, .inr (4, [.ref o1_0, .ref o1_1, .ref o1_2, .ref o1_3, .ref o1_4, .ref o1_5, .int (nI t1), .int os1, .int on1])), (o2, .inr (4, [.ref o2_0, .ref o2_1, .ref o2_2, .ref o2_3, .ref o2_4, .ref o2_5, .int (nI t2), .int os2, .int on2])), (o3, .inr (4, [.ref o3_0, .ref o3_1, .ref o3_2, .ref o3_3, .ref o3_4, .ref o3_5, .int (nI t3), .int os3, .int on3]))]) rfl rfl d_Re_isRight_17 (fun H locs S => ?_)
  refine lv_aload_n hx hb d_Re_isRight_20 rfl (lv_at hl 0 rfl) ?_
  refine lv_bipush (v := (-2)) hx hb d_Re_isRight_21 (by decide) ?_
  refine r_put C K S 0 rfl rfl clOk_Re 4 (by decide) wf_Re_9 rfl (ty := .int) (v := .int (-2)) (by decide +kernel) rfl rfl (Nat.le_of_ble_eq_true rfl) (fs' := [.ref ra, .ref bc, .int (nI nf), .int 0, .int (-2)]) (ws' := [(h0, .inr (5, [.ref ra, .ref bc, .int (nI nf), .int 0, .int (-2)])), (bc, .inr (4, [.ref bw, .ref bst, .ref bfi, .ref bse, .ref bkn, .ref bnm, .int (nI tk9), .int (nI sz9), .int (nI nd9)])), (bw, .inl (k 0, 200, .inl wd)), (bst, .inl (k 0, 40, .inl (fun i => nI (sta i)))), (bfi, .inl (k 0, 40, .inl (fun i => nI (fir i)))), (bse, .inl (k 0, 40, .inl (fun i => nI (sec i)))), (bkn, .inl (k 0, 40, .inl (fun i => nI (kno i)))), (bnm, .inl (k 0, 40, .inl (fun i => nI (nam i)))), (ra, .inl (k 3, 4, .inr (.inr (.inr (.inr bf))))), (o1, .inr (4, [.ref o1_0, .ref o1_1, .ref o1_2, .ref o1_3, .ref o1_4, .ref o1_5, .int (nI t1), .int os1, .int on1])), (o2, .inr (4, [.ref o2_0, .ref o2_1, .ref o2_2, .ref o2_3, .ref o2_4, .ref o2_5, .int (nI t2), .int os2, .int on2])), (o3, .inr (4, [.ref o3_0, .ref o3_1, .ref o3_2, .ref o3_3, .ref o3_4, .ref o3_5, .int (nI t3), .int os3, .int on3]))]) rfl rfl d_Re_isRight_23 (fun H locs S => ?_)
  refine lv_aload_n hx hb d_Re_isRight_26 rfl (lv_at hl 0 rfl) ?_
  refine r_get C K S 0 rfl rfl clOk_Re 1 (by decide) wf_Re_19 (v := .ref bc) rfl d_Re_isRight_27 ?_
  refine lv_iconst (v := 0) hx hb d_Re_isRight_30 (by decide) ?_
  refine r_putN C K S 1 rfl rfl clOk_Bo 8 (by decide) xf_Re_29 rfl (ty := .int) (v := .int 0) (by decide +kernel) rfl rfl (Nat.le_of_ble_eq_true rfl) (fs' := [.ref bw, .ref bst, .ref bfi, .ref bse, .ref bkn, .ref bnm, .int (nI tk9), .int (nI sz9), .int 0]) (ws' := [(h0, .inr (5, [.ref ra, .ref bc, .int (nI nf), .int 0, .int (-2)])), (bc, .inr (4, [.ref bw, .ref bst, .ref bfi, .ref bse, .ref bkn, .ref bnm, .int (nI tk9), .int (nI sz9), .int 0])), (bw, .inl (k 0, 200, .inl wd)), (bst, .inl (k 0, 40, .inl (fun i => nI (sta i)))), (bfi, .inl (k 0, 40, .inl (fun i => nI (fir i)))), (bse, .inl (k 0, 40, .inl (fun i => nI (sec i)))), (bkn, .inl (k 0, 40, .inl (fun i => nI (kno i)))), (bnm, .inl (k 0, 40, .inl (fun i => nI (nam i)))), (ra, .inl (k 3, 4, .inr (.inr (.inr (.inr bf))))), (o1, .inr (4, [.ref o1_0, .ref o1_1, .ref o1_2, .ref o1_3, .ref o1_4, .ref o1_5, .int (nI t1), .int os1, .int on1])), (o2, .inr (4, [.ref o2_0, .ref o2_1, .ref o2_2, .ref o2_3, .ref o2_4, .ref o2_5, .int (nI t2), .int os2, .int on2])), (o3, .inr (4, [.ref o3_0, .ref o3_1, .ref o3_2, .ref o3_3, .ref o3_4, .ref o3_5, .int (nI t3), .int os3, .int on3]))]) rfl rfl d_Re_isRight_31 (fun H locs S => ?_)
  refine lv_aload_n hx hb d_Re_isRight_34 rfl (lv_at hl 0 rfl) ?_
  refine lv_aload_n hx hb d_Re_isRight_35 rfl (lv_at hl 0 rfl) ?_
  refine r_get C K S 0 rfl rfl clOk_Re 1 (by decide) wf_Re_19 (v := .ref bc) rfl d_Re_isRight_36 ?_
  refine r_getN C K S 1 rfl rfl clOk_Bo 6 (by decide) xf_Re_34 (v := .int (nI tk9)) rfl d_Re_isRight_39 ?_
  refine lv_iconst (v := 1) hx hb d_Re_isRight_42 (by decide) ?_
  refine r_backi (wi := [(h0, .inr (5, [.ref ra, .ref bc, .int (nI nf), .int 0, .int (-2)])), (bc, .inr (4, [.ref bw, .ref bst, .ref bfi, .ref bse, .ref bkn, .ref bnm, .int (nI tk9), .int (nI sz9), .int 0])), (bw, .inl (k 0, 200, .inl wd)), (bst, .inl (k 0, 40, .inl (fun i => nI (sta i)))), (bfi, .inl (k 0, 40, .inl (fun i => nI (fir i)))), (bse, .inl (k 0, 40, .inl (fun i => nI (sec i)))), (bkn, .inl (k 0, 40, .inl (fun i => nI (kno i)))), (bnm, .inl (k 0, 40, .inl (fun i => nI (nam i)))), (ra, .inl (k 3, 4, .inr (.inr (.inr (.inr bf))))), (o1, .inr (4, [.ref o1_0, .ref o1_1, .ref o1_2, .ref o1_3, .ref o1_4, .ref o1_5, .int (nI t1), .int os1, .int on1])), (o2, .inr (4, [.ref o2_0, .ref o2_1, .ref o2_2, .ref o2_3, .ref o2_4, .ref o2_5, .int (nI t2), .int os2, .int on2])), (o3, .inr (4, [.ref o3_0, .ref o3_1, .ref o3_2, .ref o3_3, .ref o3_4, .ref o3_5, .int (nI t3), .int os3, .int on3]))]) (wr := []) S hA [0, 1, 2, 3, 4, 5, 6, 7, 8, 9, 10, 11] [] rfl rfl (by decide) (by decide) (va_runV (As := [.int (nI tk9), .int 1]) (rest := []) ⟨hx, hb, C.2.2.1, C.2.2.2.1, C.2.2.2.2.1⟩ (ex_all 16 l G k h0 _ tk9 1 ra bc nf 0 bw bst bfi bse bkn bnm tk9 sz9 0 o1 o2 o3 o1_0 o1_1 o1_2 o1_3 o1_4 o1_5 o2_0 o2_1 o2_2 o2_3 o2_4 o2_5 o3_0 o3_1 o3_2 o3_3 o3_4 o3_5 t1 t2 t3 os1 os2 os3 on1 on2 on3 wd sta fir sec kno nam bf tk (fun _ => 0) (by decide) (Nat.zero_le _) hs2 hnf (Nat.zero_le _) (by omega) hbf htk) (k_virt (n := 2) C wc_Re_expression rfl rfl wz_Re wm_Re_37 wn_Re_expression ws_Re_expression (by decide +kernel) ⟨(Nat.le_of_ble_eq_true rfl), (Nat.le_of_ble_eq_true rfl)⟩) (pr_nowV K S [0, 1, 2, 3, 4, 5, 6, 7, 8, 9, 10, 11] (by decide) rfl 0 rfl rfl) rfl rfl hl.1 rfl (lv_room (Nat.le_of_ble_eq_true rfl)) d_Re_isRight_43 ⟨(Nat.le_of_ble_eq_true rfl), (Nat.le_of_ble_eq_true rfl)⟩) (fun r3 u1 H locs hw2 S => ?_)
  have S : Sw G A s.heap _ _ [(h0, .inr (5, [.ref ra, .ref bc, .int (nI nf), .int (nI u1.2.2.2.2.2.1), .int (wrI u1.2.2.2.2.2.2.1)])), (bc, .inr (4, [.ref bw, .ref bst, .ref bfi, .ref bse, .ref bkn, .ref bnm, .int (nI tk9), .int (nI sz9), .int (nI u1.2.2.2.2.2.2.2.1)])), (bw, .inl (k 0, 200, .inl wd)), (bst, .inl (k 0, 40, .inl (fun i => nI (u1.1 i)))), (bfi, .inl (k 0, 40, .inl (fun i => nI (u1.2.1 i)))), (bse, .inl (k 0, 40, .inl (fun i => nI (u1.2.2.1 i)))), (bkn, .inl (k 0, 40, .inl (fun i => nI (u1.2.2.2.1 i)))), (bnm, .inl (k 0, 40, .inl (fun i => nI (u1.2.2.2.2.1 i)))), (ra, .inl (k 3, 4, .inr (.inr (.inr (.inr bf))))), (o1, .inr (4, [.ref o1_0, .ref o1_1, .ref o1_2, .ref o1_3, .ref o1_4, .ref o1_5, .int (nI t1), .int os1, .int on1])), (o2, .inr (4, [.ref o2_0, .ref o2_1, .ref o2_2, .ref o2_3, .ref o2_4, .ref o2_5, .int (nI t2), .int os2, .int on2])), (o3, .inr (4, [.ref o3_0, .ref o3_1, .ref o3_2, .ref o3_3, .ref o3_4, .ref o3_5, .int (nI t3), .int os3, .int on3]))] := S
  obtain ⟨hw20, hp1⟩ := hw2
  obtain rfl : r3 = nI u1.2.2.2.2.2.2.2.2 := hw20
  obtain ⟨sta1, fir1, sec1, kno1, nam1, nx1, b1, nd1, x1⟩ := u1
  have S : Sw G A s.heap H locs [(h0, .inr (5, [.ref ra, .ref bc, .int (nI nf), .int (nI nx1), .int (wrI b1)])), (bc, .inr (4, [.ref bw, .ref bst, .ref bfi, .ref bse, .ref bkn, .ref bnm, .int (nI tk9), .int (nI sz9), .int (nI nd1)])), (bw, .inl (k 0, 200, .inl wd)), (bst, .inl (k 0, 40, .inl (fun i => nI (sta1 i)))), (bfi, .inl (k 0, 40, .inl (fun i => nI (fir1 i)))), (bse, .inl (k 0, 40, .inl (fun i => nI (sec1 i)))), (bkn, .inl (k 0, 40, .inl (fun i => nI (kno1 i)))), (bnm, .inl (k 0, 40, .inl (fun i => nI (nam1 i)))), (ra, .inl (k 3, 4, .inr (.inr (.inr (.inr bf))))), (o1, .inr (4, [.ref o1_0, .ref o1_1, .ref o1_2, .ref o1_3, .ref o1_4, .ref o1_5, .int (nI t1), .int os1, .int on1])), (o2, .inr (4, [.ref o2_0, .ref o2_1, .ref o2_2, .ref o2_3, .ref o2_4, .ref o2_5, .int (nI t2), .int os2, .int on2])), (o3, .inr (4, [.ref o3_0, .ref o3_1, .ref o3_2, .ref o3_3, .ref o3_4, .ref o3_5, .int (nI t3), .int os3, .int on3]))] := S
  refine lv_pop hx hb d_Re_isRight_46 rfl ?_
  cases hpr : prs wd tk nf sz9 16 tk9 0 0 (fun _ => 0) with
  | inl b9 =>
    rw [hpr] at hp1
    have hb1 : b1 = some b9 := hp1.2
    subst hb1
    have hb2 : b9 ≤ sz9 := by have := prs_le (W := wd) (tk := tk) (nf := nf) (cnt := sz9) 16 tk9 0 0 (fun _ => 0) (Nat.zero_le _); rw [hpr] at this; exact this
    have S : Sw G A s.heap H locs [(h0, .inr (5, [.ref ra, .ref bc, .int (nI nf), .int (nI nx1), .int (nI b9)])), (bc, .inr (4, [.ref bw, .ref bst, .ref bfi, .ref bse, .ref bkn, .ref bnm, .int (nI tk9), .int (nI sz9), .int (nI nd1)])), (bw, .inl (k 0, 200, .inl wd)), (bst, .inl (k 0, 40, .inl (fun i => nI (sta1 i)))), (bfi, .inl (k 0, 40, .inl (fun i => nI (fir1 i)))), (bse, .inl (k 0, 40, .inl (fun i => nI (sec1 i)))), (bkn, .inl (k 0, 40, .inl (fun i => nI (kno1 i)))), (bnm, .inl (k 0, 40, .inl (fun i => nI (nam1 i)))), (ra, .inl (k 3, 4, .inr (.inr (.inr (.inr bf))))), (o1, .inr (4, [.ref o1_0, .ref o1_1, .ref o1_2, .ref o1_3, .ref o1_4, .ref o1_5, .int (nI t1), .int os1, .int on1])), (o2, .inr (4, [.ref o2_0, .ref o2_1, .ref o2_2, .ref o2_3, .ref o2_4, .ref o2_5, .int (nI t2), .int os2, .int on2])), (o3, .inr (4, [.ref o3_0, .ref o3_1, .ref o3_2, .ref o3_3, .ref o3_4, .ref o3_5, .int (nI t3), .int os3, .int on3]))] := S
    refine lv_aload_n hx hb d_Re_isRight_47 rfl (lv_at hl 0 rfl) ?_
    refine r_get C K S 0 rfl rfl clOk_Re 4 (by decide) wf_Re_9 (v := .int (nI b9)) rfl d_Re_isRight_48 ?_
    refine lv_bipush (v := (-2)) hx hb d_Re_isRight_51 (by decide) ?_
    refine lv_icmp_ne (tgt := 78) hx hb d_Re_isRight_53 (by decide) (fun _ => ?_) (fun hq => absurd hq (nI_ne2 (by omega)))
    refine lv_aload_n hx hb d_Re_isRight_78 rfl (lv_at hl 0 rfl) ?_
    refine r_get C K S 0 rfl rfl clOk_Re 4 (by decide) wf_Re_9 (v := .int (nI b9)) rfl d_Re_isRight_79 ?_
    refine lv_bipush (v := (-2)) hx hb d_Re_isRight_82 (by decide) ?_
    refine lv_icmp_ne (tgt := 91) hx hb d_Re_isRight_84 (by decide) (fun _ => ?_) (fun hq => absurd hq (nI_ne2 (by omega)))
    refine lv_iconst (v := 0) hx hb d_Re_isRight_91 (by decide) ?_
    exact r_iret C K rfl (sta1, fir1, sec1, kno1, nam1, nx1, some b9, nd1, 0) ⟨rfl, rfl, fun q => absurd q (by simp)⟩ (S.sub [0, 1, 2, 3, 4, 5, 6, 7, 8, 9, 10, 11] (by decide) rfl) d_Re_isRight_92 (Nat.le_of_ble_eq_true rfl) (Nat.le_of_ble_eq_true rfl)
  | inr y9 =>
    obtain ⟨a2, n2, E2⟩ := y9
    rw [hpr] at hp1
    have hw9 := prs_wf hnf 16 tk9 0 0 (fun _ => 0) a2 n2 E2 hpr (Nat.zero_le _) (Nat.zero_le _) (by omega)
    obtain ⟨-, hb1, hn1, hd1, he1, hr1, ht1⟩ := hp1
    have hb1 : b1 = none := hb1
    have hn1 : nx1 = a2 := hn1
    have hd1 : nd1 = n2 := hd1
    subst hb1 hn1 hd1
    obtain ⟨-, -, -, -, hq2, hq3⟩ := hw9
    have S : Sw G A s.heap H locs [(h0, .inr (5, [.ref ra, .ref bc, .int (nI nf), .int (nI nx1), .int (-2)])), (bc, .inr (4, [.ref bw, .ref bst, .ref bfi, .ref bse, .ref bkn, .ref bnm, .int (nI tk9), .int (nI sz9), .int (nI nd1)])), (bw, .inl (k 0, 200, .inl wd)), (bst, .inl (k 0, 40, .inl (fun i => nI (sta1 i)))), (bfi, .inl (k 0, 40, .inl (fun i => nI (fir1 i)))), (bse, .inl (k 0, 40, .inl (fun i => nI (sec1 i)))), (bkn, .inl (k 0, 40, .inl (fun i => nI (kno1 i)))), (bnm, .inl (k 0, 40, .inl (fun i => nI (nam1 i)))), (ra, .inl (k 3, 4, .inr (.inr (.inr (.inr bf))))), (o1, .inr (4, [.ref o1_0, .ref o1_1, .ref o1_2, .ref o1_3, .ref o1_4, .ref o1_5, .int (nI t1), .int os1, .int on1])), (o2, .inr (4, [.ref o2_0, .ref o2_1, .ref o2_2, .ref o2_3, .ref o2_4, .ref o2_5, .int (nI t2), .int os2, .int on2])), (o3, .inr (4, [.ref o3_0, .ref o3_1, .ref o3_2, .ref o3_3, .ref o3_4, .ref o3_5, .int (nI t3), .int os3, .int on3]))] := S
    refine lv_aload_n hx hb d_Re_isRight_47 rfl (lv_at hl 0 rfl) ?_
    refine r_get C K S 0 rfl rfl clOk_Re 4 (by decide) wf_Re_9 (v := .int (-2)) rfl d_Re_isRight_48 ?_
    refine lv_bipush (v := (-2)) hx hb d_Re_isRight_51 (by decide) ?_
    refine lv_icmp_ne (tgt := 78) hx hb d_Re_isRight_53 (by decide) (fun hq => absurd (by decide) hq) (fun _ => ?_)
    refine lv_aload_n hx hb d_Re_isRight_56 rfl (lv_at hl 0 rfl) ?_
    refine r_get C K S 0 rfl rfl clOk_Re 3 (by decide) wf_Re_26 (v := .int (nI nx1)) rfl d_Re_isRight_57 ?_
    refine lv_aload_n hx hb d_Re_isRight_60 rfl (lv_at hl 0 rfl) ?_
    refine r_get C K S 0 rfl rfl clOk_Re 1 (by decide) wf_Re_19 (v := .ref bc) rfl d_Re_isRight_61 ?_
    refine r_getN C K S 1 rfl rfl clOk_Bo 7 (by decide) xf_Re_41 (v := .int (nI sz9)) rfl d_Re_isRight_64 ?_
    refine z_icmp_ge (a := nx1) (b := sz9) (tgt := 78) hx hb d_Re_isRight_67 (by decide) (by omega) (by omega) (fun hc4 => ?_) (fun hc4 => ?_)
    · refine lv_aload_n hx hb d_Re_isRight_78 rfl (lv_at hl 0 rfl) ?_
      refine r_get C K S 0 rfl rfl clOk_Re 4 (by decide) wf_Re_9 (v := .int (-2)) rfl d_Re_isRight_79 ?_
      refine lv_bipush (v := (-2)) hx hb d_Re_isRight_82 (by decide) ?_
      refine lv_icmp_ne (tgt := 91) hx hb d_Re_isRight_84 (by decide) (fun hq => absurd (by decide) hq) (fun _ => ?_)
      refine lv_iconst (v := 1) hx hb d_Re_isRight_87 (by decide) ?_
      refine lv_goto (tgt := 92) hx hb d_Re_isRight_88 (by decide) ?_
      exact r_iret C K rfl (sta1, fir1, sec1, kno1, nam1, nx1, none, nd1, 0) ⟨rfl, (if_pos (by omega)).symm, fun _ => ⟨nd1, hq3, by have e9 : nx1 = sz9 := (by omega); rw [e9] at ht1; exact ht1⟩⟩ (S.sub [0, 1, 2, 3, 4, 5, 6, 7, 8, 9, 10, 11] (by decide) rfl) d_Re_isRight_92 (Nat.le_of_ble_eq_true rfl) (Nat.le_of_ble_eq_true rfl)
    · refine lv_aload_n hx hb d_Re_isRight_70 rfl (lv_at hl 0 rfl) ?_
      refine lv_aload_n hx hb d_Re_isRight_71 rfl (lv_at hl 0 rfl) ?_
      refine r_get C K S 0 rfl rfl clOk_Re 3 (by decide) wf_Re_26 (v := .int (nI nx1)) rfl d_Re_isRight_72 ?_
      refine r_put C K S 0 rfl rfl clOk_Re 4 (by decide) wf_Re_9 rfl (ty := .int) (v := .int (nI nx1)) (by decide +kernel) rfl rfl (Nat.le_of_ble_eq_true rfl) (fs' := [.ref ra, .ref bc, .int (nI nf), .int (nI nx1), .int (nI nx1)]) (ws' := [(h0, .inr (5, [.ref ra, .ref bc, .int (nI nf), .int (nI nx1), .int (nI nx1)])), (bc, .inr (4, [.ref bw, .ref bst, .ref bfi, .ref bse, .ref bkn, .ref bnm, .int (nI tk9), .int (nI sz9), .int (nI nd1)])), (bw, .inl (k 0, 200, .inl wd)), (bst, .inl (k 0, 40, .inl (fun i => nI (sta1 i)))), (bfi, .inl (k 0, 40, .inl (fun i => nI (fir1 i)))), (bse, .inl (k 0, 40, .inl (fun i => nI (sec1 i)))), (bkn, .inl (k 0, 40, .inl (fun i => nI (kno1 i)))), (bnm, .inl (k 0, 40, .inl (fun i => nI (nam1 i)))), (ra, .inl (k 3, 4, .inr (.inr (.inr (.inr bf))))), (o1, .inr (4, [.ref o1_0, .ref o1_1, .ref o1_2, .ref o1_3, .ref o1_4, .ref o1_5, .int (nI t1), .int os1, .int on1])), (o2, .inr (4, [.ref o2_0, .ref o2_1, .ref o2_2, .ref o2_3, .ref o2_4, .ref o2_5, .int (nI t2), .int os2, .int on2])), (o3, .inr (4, [.ref o3_0, .ref o3_1, .ref o3_2, .ref o3_3, .ref o3_4, .ref o3_5, .int (nI t3), .int os3, .int on3]))]) rfl rfl d_Re_isRight_75 (fun H locs S => ?_)
      refine lv_aload_n hx hb d_Re_isRight_78 rfl (lv_at hl 0 rfl) ?_
      refine r_get C K S 0 rfl rfl clOk_Re 4 (by decide) wf_Re_9 (v := .int (nI nx1)) rfl d_Re_isRight_79 ?_
      refine lv_bipush (v := (-2)) hx hb d_Re_isRight_82 (by decide) ?_
      refine lv_icmp_ne (tgt := 91) hx hb d_Re_isRight_84 (by decide) (fun _ => ?_) (fun hq => absurd hq (nI_ne2 (by omega)))
      refine lv_iconst (v := 0) hx hb d_Re_isRight_91 (by decide) ?_
      exact r_iret C K rfl (sta1, fir1, sec1, kno1, nam1, nx1, some nx1, nd1, 0) ⟨rfl, (if_neg (by omega)).symm, fun q => absurd q (by simp)⟩ (S.sub [0, 1, 2, 3, 4, 5, 6, 7, 8, 9, 10, 11] (by decide) rfl) d_Re_isRight_92 (Nat.le_of_ble_eq_true rfl) (Nat.le_of_ble_eq_true rfl)
