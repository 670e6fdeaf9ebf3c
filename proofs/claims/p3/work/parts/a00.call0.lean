theorem nI_ne2 {n : Nat} (h : n < 2147483648) : ¬ nI n = -2 := by
  intro q
  have h1 : (nI n).toInt = n := Int32.toInt_ofNat_of_lt (by omega)
  rw [q, show (-2 : Int32).toInt = -2 by decide] at h1
  omega
theorem d_Re_call_0 : decode c_Re_call 0 = .ok (.aload_n 0, 1) := by decide +kernel
theorem d_Re_call_1 : decode c_Re_call 1 = .ok (.iconst 0, 1) := by decide +kernel
theorem d_Re_call_2 : decode c_Re_call 2 = .ok (.aload_n 0, 1) := by decide +kernel
theorem d_Re_call_3 : decode c_Re_call 3 = .ok (.getfield 23, 3) := by decide +kernel
theorem d_Re_call_6 : decode c_Re_call 6 = .ok (.iconst 1, 1) := by decide +kernel
theorem d_Re_call_7 : decode c_Re_call 7 = .ok (.isub, 1) := by decide +kernel
theorem d_Re_call_8 : decode c_Re_call 8 = .ok (.invokevirtual 44, 3) := by decide +kernel
theorem d_Re_call_11 : decode c_Re_call 11 = .ok (.istore_n 2, 1) := by decide +kernel
theorem d_Re_call_12 : decode c_Re_call 12 = .ok (.aload_n 0, 1) := by decide +kernel
theorem d_Re_call_13 : decode c_Re_call 13 = .ok (.getfield 9, 3) := by decide +kernel
theorem d_Re_call_16 : decode c_Re_call 16 = .ok (.bipush (-2), 2) := by decide +kernel
theorem d_Re_call_18 : decode c_Re_call 18 = .ok (.if_icmp .eq 4, 3) := by decide +kernel
theorem d_Re_call_21 : decode c_Re_call 21 = .ok (.return_, 1) := by decide +kernel
theorem d_Re_call_22 : decode c_Re_call 22 = .ok (.iconst 0, 1) := by decide +kernel
theorem d_Re_call_23 : decode c_Re_call 23 = .ok (.istore_n 3, 1) := by decide +kernel
theorem d_Re_call_24 : decode c_Re_call 24 = .ok (.iload_n 3, 1) := by decide +kernel
theorem d_Re_call_25 : decode c_Re_call 25 = .ok (.aload_n 0, 1) := by decide +kernel
theorem d_Re_call_26 : decode c_Re_call 26 = .ok (.getfield 15, 3) := by decide +kernel
theorem d_Re_call_29 : decode c_Re_call 29 = .ok (.iload_n 2, 1) := by decide +kernel
theorem d_Re_call_30 : decode c_Re_call 30 = .ok (.aaload, 1) := by decide +kernel
theorem d_Re_call_31 : decode c_Re_call 31 = .ok (.getfield 34, 3) := by decide +kernel
theorem d_Re_call_34 : decode c_Re_call 34 = .ok (.if_icmp .ge 14, 3) := by decide +kernel
theorem d_Re_call_37 : decode c_Re_call 37 = .ok (.aload_n 0, 1) := by decide +kernel
theorem d_Re_call_38 : decode c_Re_call 38 = .ok (.iload_n 1, 1) := by decide +kernel
theorem d_Re_call_39 : decode c_Re_call 39 = .ok (.invokevirtual 50, 3) := by decide +kernel
theorem d_Re_call_42 : decode c_Re_call 42 = .ok (.iinc 3 1, 3) := by decide +kernel
theorem d_Re_call_45 : decode c_Re_call 45 = .ok (.goto (-21), 3) := by decide +kernel
theorem d_Re_call_48 : decode c_Re_call 48 = .ok (.return_, 1) := by decide +kernel
set_option maxRecDepth 100000 in
set_option maxHeartbeats 16000000 in
/-- call, the function is wrong -/
theorem g_Re_call_b (l : Launch) (G : va_G) (k : Nat → ClassId) (h0 : Nat) (s0 : Nat) (x9 : Nat) (ra : Nat) (bc : Nat) (nf : Nat) (nx : Nat) (bw : Nat) (bst : Nat) (bfi : Nat) (bse : Nat) (bkn : Nat) (bnm : Nat) (tk9 : Nat) (sz9 : Nat) (nd9 : Nat) (wd : Nat → Int32) (hnx : nx ≤ sz9) (hs2 : sz9 ≤ 200) (hnf : nf ≤ 4) (hbad : nx = sz9 ∨ wd nx < 0 ∨ ¬ wd nx < nI nf) : CV l y_Re_call c_Re_call 4 { frames := 1, cells := 0, slots := 0, locals := 22 } [.ref h0, .int (nI x9)] G k s0 [(h0, .inr (5, [.ref ra, .ref bc, .int (nI nf), .int (nI nx), .int (-2)])), (bc, .inr (4, [.ref bw, .ref bst, .ref bfi, .ref bse, .ref bkn, .ref bnm, .int (nI tk9), .int (nI sz9), .int (nI nd9)])), (bw, .inl (k 0, 200, .inl wd))] (fun (u : Unit) => True) (fun u => [(h0, .inr (5, [.ref ra, .ref bc, .int (nI nf), .int (nI nx), .int (nI nx)])), (bc, .inr (4, [.ref bw, .ref bst, .ref bfi, .ref bse, .ref bkn, .ref bnm, .int (nI tk9), .int (nI sz9), .int (nI nd9)])), (bw, .inl (k 0, 200, .inl wd))]) 0 0 := by
  refine met_start (by decide) (Nat.le_of_ble_eq_true rfl) ?_
  intro p e s m below meth c C K hA hsz S ls hl
  generalize va_A [(h0, .inr (5, [.ref ra, .ref bc, .int (nI nf), .int (nI nx), .int (-2)])), (bc, .inr (4, [.ref bw, .ref bst, .ref bfi, .ref bse, .ref bkn, .ref bnm, .int (nI tk9), .int (nI sz9), .int (nI nd9)])), (bw, .inl (k 0, 200, .inl wd))] s0 = A at hA S ⊢
  have hx := C.1
  have hb := C.2.1
  have hl : lv_has ls 4 [(0, .ref h0), (1, .int (nI x9))] := hl
  refine lv_aload_n hx hb d_Re_call_0 rfl (lv_at hl 0 rfl) ?_
  refine lv_iconst (v := 0) hx hb d_Re_call_1 (by decide) ?_
  refine lv_aload_n hx hb d_Re_call_2 rfl (lv_at hl 0 rfl) ?_
  refine r_get C K S 0 rfl rfl clOk_Re 2 (by decide) wf_Re_23 (v := .int (nI nf)) rfl d_Re_call_3 ?_
  refine lv_iconst (v := 1) hx hb d_Re_call_6 (by decide) ?_
  refine lv_isub hx hb d_Re_call_7 ?_
  refine r_backi (wi := [(h0, .inr (5, [.ref ra, .ref bc, .int (nI nf), .int (nI nx), .int (-2)])), (bc, .inr (4, [.ref bw, .ref bst, .ref bfi, .ref bse, .ref bkn, .ref bnm, .int (nI tk9), .int (nI sz9), .int (nI nd9)])), (bw, .inl (k 0, 200, .inl wd))]) (wr := []) S hA [0, 1, 2] [] rfl rfl (by decide) (by decide) (va_runV (As := [.int 0, .int ((nI nf) - 1)]) (rest := []) ⟨hx, hb, C.2.2.1, C.2.2.2.1, C.2.2.2.2.1⟩ (g_Re_number_b l G k h0 _ 0 ((nI nf) - 1) ra bc nf nx bw bst bfi bse bkn bnm tk9 sz9 nd9 wd hnx hs2 (hbad.elim Or.inl (fun q => Or.inr (q.elim Or.inl (fun w => Or.inr (Int32.not_le.mp (fun y => w ((le_m1 (by omega)).mp y)))))))) (k_virt (n := 2) C wc_Re_number rfl rfl wz_Re wm_Re_44 wn_Re_number ws_Re_number (by decide +kernel) ⟨(Nat.le_of_ble_eq_true rfl), (Nat.le_of_ble_eq_true rfl)⟩) (pr_nowV K S [0, 1, 2] (by decide) rfl 0 rfl rfl) rfl rfl hl.1 rfl (lv_room (Nat.le_of_ble_eq_true rfl)) d_Re_call_8 ⟨(Nat.le_of_ble_eq_true rfl), (Nat.le_of_ble_eq_true rfl)⟩) (fun r3 u1 H locs hw2 S => ?_)
  have S : Sw G A s.heap _ _ [(h0, .inr (5, [.ref ra, .ref bc, .int (nI nf), .int (nI nx), .int (nI nx)])), (bc, .inr (4, [.ref bw, .ref bst, .ref bfi, .ref bse, .ref bkn, .ref bnm, .int (nI tk9), .int (nI sz9), .int (nI nd9)])), (bw, .inl (k 0, 200, .inl wd))] := S
  obtain ⟨hw20, hp4⟩ := hw2
  obtain rfl : r3 = 0 := hw20
  refine lv_istore_n (lv' := [(2, .int 0), (0, .ref h0), (1, .int (nI x9))]) hx hb d_Re_call_11 rfl hl (by decide) rfl (fun ls hl => ?_)
  refine lv_aload_n hx hb d_Re_call_12 rfl (lv_at hl 1 rfl) ?_
  refine r_get C K S 0 rfl rfl clOk_Re 4 (by decide) wf_Re_9 (v := .int (nI nx)) rfl d_Re_call_13 ?_
  refine lv_bipush (v := (-2)) hx hb d_Re_call_16 (by decide) ?_
  refine lv_icmp_eq (tgt := 22) hx hb d_Re_call_18 (by decide) (fun hq => absurd hq (nI_ne2 (by omega))) (fun _ => ?_)
  exact r_vret C K () trivial (S.sub [0, 1, 2] (by decide) rfl) d_Re_call_21 (Nat.le_of_ble_eq_true rfl) (Nat.le_of_ble_eq_true rfl)
