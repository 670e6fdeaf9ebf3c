theorem d_Ne_paysOf_0 : decode c_Ne_paysOf 0 = .ok (.aload_n 0, 1) := by decide +kernel
theorem d_Ne_paysOf_1 : decode c_Ne_paysOf 1 = .ok (.getfield 9, 3) := by decide +kernel
theorem d_Ne_paysOf_4 : decode c_Ne_paysOf 4 = .ok (.iload_n 1, 1) := by decide +kernel
theorem d_Ne_paysOf_5 : decode c_Ne_paysOf 5 = .ok (.iaload, 1) := by decide +kernel
theorem d_Ne_paysOf_6 : decode c_Ne_paysOf 6 = .ok (.aload_n 0, 1) := by decide +kernel
theorem d_Ne_paysOf_7 : decode c_Ne_paysOf 7 = .ok (.getfield 35, 3) := by decide +kernel
theorem d_Ne_paysOf_10 : decode c_Ne_paysOf 10 = .ok (.iload_n 1, 1) := by decide +kernel
theorem d_Ne_paysOf_11 : decode c_Ne_paysOf 11 = .ok (.aaload, 1) := by decide +kernel
theorem d_Ne_paysOf_12 : decode c_Ne_paysOf 12 = .ok (.getfield 54, 3) := by decide +kernel
theorem d_Ne_paysOf_15 : decode c_Ne_paysOf 15 = .ok (.iadd, 1) := by decide +kernel
theorem d_Ne_paysOf_16 : decode c_Ne_paysOf 16 = .ok (.ireturn, 1) := by decide +kernel
set_option maxRecDepth 100000 in
set_option maxHeartbeats 16000000 in
/-- paysOf -/
theorem g_Ne_paysOf (l : Launch) (G : va_G) (k : Nat → ClassId) (h0 : Nat) (s0 : Nat) (g9 : Nat) (ca : Nat) (nfo : Nat) (ncd : Nat) (nsp : Nat) (nno : Nat) (nsm : Nat) (nbr : Nat) (nbs : Nat) (nbd : Nat) (un9 : Nat) (co9 : Nat) (fl9 : Nat) (fo : Nat → Nat) (ad : Nat → Nat → Nat) (tk : Nat → Nat) (ct : Nat → Nat) (no : Nat → Nat) (hg4 : g9 < 4) : CI l y_Ne_paysOf c_Ne_paysOf 2 .int { frames := 0, cells := 0, slots := 0, locals := 0 } [.ref h0, .int (nI g9)] G k s0 [(h0, .inr (7, [.ref ca, .ref nfo, .ref ncd, .ref nsp, .ref nno, .ref nsm, .ref nbr, .ref nbs, .ref nbd, .int (nI un9), .int (nI co9), .int (nI fl9)])), (nfo, .inl (k 0, 4, .inl (fun i => nI (fo i)))), (ca, .inl (k 3, 4, .inr (.inr (.inr (.inr (fun g => some (ad g 0))))))), ((ad g9 0), .inr (4, [.ref (ad g9 1), .ref (ad g9 2), .ref (ad g9 3), .ref (ad g9 4), .ref (ad g9 5), .ref (ad g9 6), .int (nI (tk g9)), .int (nI (ct g9)), .int (nI (no g9))]))] (fun (r : Int32) (u : Unit) => r = nI (fo g9 + tk g9) ∧ True) (fun u => [(h0, .inr (7, [.ref ca, .ref nfo, .ref ncd, .ref nsp, .ref nno, .ref nsm, .ref nbr, .ref nbs, .ref nbd, .int (nI un9), .int (nI co9), .int (nI fl9)])), (nfo, .inl (k 0, 4, .inl (fun i => nI (fo i)))), (ca, .inl (k 3, 4, .inr (.inr (.inr (.inr (fun g => some (ad g 0))))))), ((ad g9 0), .inr (4, [.ref (ad g9 1), .ref (ad g9 2), .ref (ad g9 3), .ref (ad g9 4), .ref (ad g9 5), .ref (ad g9 6), .int (nI (tk g9)), .int (nI (ct g9)), .int (nI (no g9))]))]) 0 0 := by
  refine met_start (by decide) (Nat.le_of_ble_eq_true rfl) ?_
  intro p e s m below meth c C K hA hsz S ls hl
  generalize va_A [(h0, .inr (7, [.ref ca, .ref nfo, .ref ncd, .ref nsp, .ref nno, .ref nsm, .ref nbr, .ref nbs, .ref nbd, .int (nI un9), .int (nI co9), .int (nI fl9)])), (nfo, .inl (k 0, 4, .inl (fun i => nI (fo i)))), (ca, .inl (k 3, 4, .inr (.inr (.inr (.inr (fun g => some (ad g 0))))))), ((ad g9 0), .inr (4, [.ref (ad g9 1), .ref (ad g9 2), .ref (ad g9 3), .ref (ad g9 4), .ref (ad g9 5), .ref (ad g9 6), .int (nI (tk g9)), .int (nI (ct g9)), .int (nI (no g9))]))] s0 = A at hA S ⊢
  have hx := C.1
  have hb := C.2.1
  have hl : lv_has ls 2 [(0, .ref h0), (1, .int (nI g9))] := hl
  refine lv_aload_n hx hb d_Ne_paysOf_0 rfl (lv_at hl 0 rfl) ?_
  refine r_get C K S 0 rfl rfl clOk_Ne 1 (by decide) wf_Ne_9 (v := .ref nfo) rfl d_Ne_paysOf_1 ?_
  refine lv_iload_n hx hb d_Ne_paysOf_4 rfl (lv_at hl 1 rfl) ?_
  refine r_iald C K S 1 rfl (i := nI g9) (show vp_in (nI g9) _ from vp_in_nI (n := g9) (by omega) (by decide)) (v := nI (fo g9)) (by rw [nI_clamp (by omega)]) d_Ne_paysOf_5 ?_
  refine lv_aload_n hx hb d_Ne_paysOf_6 rfl (lv_at hl 0 rfl) ?_
  refine r_get C K S 0 rfl rfl clOk_Ne 0 (by decide) wf_Ne_35 (v := .ref ca) rfl d_Ne_paysOf_7 ?_
  refine lv_iload_n hx hb d_Ne_paysOf_10 rfl (lv_at hl 1 rfl) ?_
  refine r_aald C K S 2 3 rfl rfl (i := nI g9) (show vp_in (nI g9) _ from vp_in_nI (n := g9) (by omega) (by decide)) (b := (ad g9 0)) (by rw [nI_clamp (by omega)]) d_Ne_paysOf_11 ?_
  refine r_getN C K S 3 rfl rfl clOk_Bo 6 (by decide) xf_Ne_54 (v := .int (nI (tk g9))) rfl d_Ne_paysOf_12 ?_
  refine z_iadd (x := nI (fo g9)) (y := nI (tk g9)) (v := nI (fo g9 + tk g9)) hx hb d_Ne_paysOf_15 (nI_add (fo g9) (tk g9)) ?_
  exact r_iret C K rfl () ⟨rfl, trivial⟩ (S.sub [0, 1, 2, 3] (by decide) rfl) d_Ne_paysOf_16 (Nat.le_of_ble_eq_true rfl) (Nat.le_of_ble_eq_true rfl)
theorem d_Ne_bringsOf_0 : decode c_Ne_bringsOf 0 = .ok (.aload_n 0, 1) := by decide +kernel
theorem d_Ne_bringsOf_1 : decode c_Ne_bringsOf 1 = .ok (.iload_n 1, 1) := by decide +kernel
theorem d_Ne_bringsOf_2 : decode c_Ne_bringsOf 2 = .ok (.invokevirtual 91, 3) := by decide +kernel
theorem d_Ne_bringsOf_5 : decode c_Ne_bringsOf 5 = .ok (.iconst 1, 1) := by decide +kernel
theorem d_Ne_bringsOf_6 : decode c_Ne_bringsOf 6 = .ok (.iadd, 1) := by decide +kernel
theorem d_Ne_bringsOf_7 : decode c_Ne_bringsOf 7 = .ok (.ireturn, 1) := by decide +kernel
set_option maxRecDepth 100000 in
set_option maxHeartbeats 16000000 in
/-- bringsOf -/
theorem g_Ne_bringsOf (l : Launch) (G : va_G) (k : Nat → ClassId) (h0 : Nat) (s0 : Nat) (g9 : Nat) (ca : Nat) (nfo : Nat) (ncd : Nat) (nsp : Nat) (nno : Nat) (nsm : Nat) (nbr : Nat) (nbs : Nat) (nbd : Nat) (un9 : Nat) (co9 : Nat) (fl9 : Nat) (fo : Nat → Nat) (ad : Nat → Nat → Nat) (tk : Nat → Nat) (ct : Nat → Nat) (no : Nat → Nat) (hg4 : g9 < 4) : CI l y_Ne_bringsOf c_Ne_bringsOf 2 .int { frames := 1, cells := 0, slots := 0, locals := 21 } [.ref h0, .int (nI g9)] G k s0 [(h0, .inr (7, [.ref ca, .ref nfo, .ref ncd, .ref nsp, .ref nno, .ref nsm, .ref nbr, .ref nbs, .ref nbd, .int (nI un9), .int (nI co9), .int (nI fl9)])), (nfo, .inl (k 0, 4, .inl (fun i => nI (fo i)))), (ca, .inl (k 3, 4, .inr (.inr (.inr (.inr (fun g => some (ad g 0))))))), ((ad g9 0), .inr (4, [.ref (ad g9 1), .ref (ad g9 2), .ref (ad g9 3), .ref (ad g9 4), .ref (ad g9 5), .ref (ad g9 6), .int (nI (tk g9)), .int (nI (ct g9)), .int (nI (no g9))]))] (fun (r : Int32) (u : Unit) => r = nI (fo g9 + tk g9 + 1) ∧ True) (fun u => [(h0, .inr (7, [.ref ca, .ref nfo, .ref ncd, .ref nsp, .ref nno, .ref nsm, .ref nbr, .ref nbs, .ref nbd, .int (nI un9), .int (nI co9), .int (nI fl9)])), (nfo, .inl (k 0, 4, .inl (fun i => nI (fo i)))), (ca, .inl (k 3, 4, .inr (.inr (.inr (.inr (fun g => some (ad g 0))))))), ((ad g9 0), .inr (4, [.ref (ad g9 1), .ref (ad g9 2), .ref (ad g9 3), .ref (ad g9 4), .ref (ad g9 5), .ref (ad g9 6), .int (nI (tk g9)), .int (nI (ct g9)), .int (nI (no g9))]))]) 0 0 := by
  refine met_start (by decide) (Nat.le_of_ble_eq_true rfl) ?_
  intro p e s m below meth c C K hA hsz S ls hl
  generalize va_A [(h0, .inr (7, [.ref ca, .ref nfo, .ref ncd, .ref nsp, .ref nno, .ref nsm, .ref nbr, .ref nbs, .ref nbd, .int (nI un9), .int (nI co9), .int (nI fl9)])), (nfo, .inl (k 0, 4, .inl (fun i => nI (fo i)))), (ca, .inl (k 3, 4, .inr (.inr (.inr (.inr (fun g => some (ad g 0))))))), ((ad g9 0), .inr (4, [.ref (ad g9 1), .ref (ad g9 2), .ref (ad g9 3), .ref (ad g9 4), .ref (ad g9 5), .ref (ad g9 6), .int (nI (tk g9)), .int (nI (ct g9)), .int (nI (no g9))]))] s0 = A at hA S ⊢
  have hx := C.1
  have hb := C.2.1
  have hl : lv_has ls 2 [(0, .ref h0), (1, .int (nI g9))] := hl
  refine lv_aload_n hx hb d_Ne_bringsOf_0 rfl (lv_at hl 0 rfl) ?_
  refine lv_iload_n hx hb d_Ne_bringsOf_1 rfl (lv_at hl 1 rfl) ?_
  refine r_backi (wi := [(h0, .inr (7, [.ref ca, .ref nfo, .ref ncd, .ref nsp, .ref nno, .ref nsm, .ref nbr, .ref nbs, .ref nbd, .int (nI un9), .int (nI co9), .int (nI fl9)])), (nfo, .inl (k 0, 4, .inl (fun i => nI (fo i)))), (ca, .inl (k 3, 4, .inr (.inr (.inr (.inr (fun g => some (ad g 0))))))), ((ad g9 0), .inr (4, [.ref (ad g9 1), .ref (ad g9 2), .ref (ad g9 3), .ref (ad g9 4), .ref (ad g9 5), .ref (ad g9 6), .int (nI (tk g9)), .int (nI (ct g9)), .int (nI (no g9))]))]) (wr := []) S hA [0, 1, 2, 3] [] rfl rfl (by decide) (by decide) (va_runV (As := [.int (nI g9)]) (rest := []) ⟨hx, hb, C.2.2.1, C.2.2.2.1, C.2.2.2.2.1⟩ (g_Ne_paysOf l G k h0 _ g9 ca nfo ncd nsp nno nsm nbr nbs nbd un9 co9 fl9 fo ad tk ct no (by first | assumption | omega)) (k_virt (n := 1) C wc_Ne_paysOf rfl rfl wz_Ne wm_Ne_91 wn_Ne_paysOf ws_Ne_paysOf (by decide +kernel) ⟨(Nat.le_of_ble_eq_true rfl), (Nat.le_of_ble_eq_true rfl)⟩) (pr_nowV K S [0, 1, 2, 3] (by decide) rfl 0 rfl rfl) rfl rfl hl.1 rfl (lv_room (Nat.le_of_ble_eq_true rfl)) d_Ne_bringsOf_2 ⟨(Nat.le_of_ble_eq_true rfl), (Nat.le_of_ble_eq_true rfl)⟩) (fun r3 u1 H locs hw2 S => ?_)
  have S : Sw G A s.heap _ _ [(h0, .inr (7, [.ref ca, .ref nfo, .ref ncd, .ref nsp, .ref nno, .ref nsm, .ref nbr, .ref nbs, .ref nbd, .int (nI un9), .int (nI co9), .int (nI fl9)])), (nfo, .inl (k 0, 4, .inl (fun i => nI (fo i)))), (ca, .inl (k 3, 4, .inr (.inr (.inr (.inr (fun g => some (ad g 0))))))), ((ad g9 0), .inr (4, [.ref (ad g9 1), .ref (ad g9 2), .ref (ad g9 3), .ref (ad g9 4), .ref (ad g9 5), .ref (ad g9 6), .int (nI (tk g9)), .int (nI (ct g9)), .int (nI (no g9))]))] := S
  obtain ⟨hw20, hp4⟩ := hw2
  obtain rfl : r3 = nI (fo g9 + tk g9) := hw20
  refine lv_iconst (v := 1) hx hb d_Ne_bringsOf_5 (by decide) ?_
  refine z_iadd (x := nI (fo g9 + tk g9)) (y := 1) (v := nI (fo g9 + tk g9 + 1)) hx hb d_Ne_bringsOf_6 (nI_add (fo g9 + tk g9) 1) ?_
  exact r_iret C K rfl () ⟨rfl, trivial⟩ (S.sub [0, 1, 2, 3] (by decide) rfl) d_Ne_bringsOf_7 (Nat.le_of_ble_eq_true rfl) (Nat.le_of_ble_eq_true rfl)
theorem d_Ne_leavesOf_0 : decode c_Ne_leavesOf 0 = .ok (.aload_n 0, 1) := by decide +kernel
theorem d_Ne_leavesOf_1 : decode c_Ne_leavesOf 1 = .ok (.iload_n 1, 1) := by decide +kernel
theorem d_Ne_leavesOf_2 : decode c_Ne_leavesOf 2 = .ok (.invokevirtual 91, 3) := by decide +kernel
theorem d_Ne_leavesOf_5 : decode c_Ne_leavesOf 5 = .ok (.iconst 2, 1) := by decide +kernel
theorem d_Ne_leavesOf_6 : decode c_Ne_leavesOf 6 = .ok (.iadd, 1) := by decide +kernel
theorem d_Ne_leavesOf_7 : decode c_Ne_leavesOf 7 = .ok (.ireturn, 1) := by decide +kernel
set_option maxRecDepth 100000 in
set_option maxHeartbeats 16000000 in
/-- leavesOf -/
theorem g_Ne_leavesOf (l : Launch) (G : va_G) (k : Nat → ClassId) (h0 : Nat) (s0 : Nat) (g9 : Nat) (ca : Nat) (nfo : Nat) (ncd : Nat) (nsp : Nat) (nno : Nat) (nsm : Nat) (nbr : Nat) (nbs : Nat) (nbd : Nat) (un9 : Nat) (co9 : Nat) (fl9 : Nat) (fo : Nat → Nat) (ad : Nat → Nat → Nat) (tk : Nat → Nat) (ct : Nat → Nat) (no : Nat → Nat) (hg4 : g9 < 4) : CI l y_Ne_leavesOf c_Ne_leavesOf 2 .int { frames := 1, cells := 0, slots := 0, locals := 21 } [.ref h0, .int (nI g9)] G k s0 [(h0, .inr (7, [.ref ca, .ref nfo, .ref ncd, .ref nsp, .ref nno, .ref nsm, .ref nbr, .ref nbs, .ref nbd, .int (nI un9), .int (nI co9), .int (nI fl9)])), (nfo, .inl (k 0, 4, .inl (fun i => nI (fo i)))), (ca, .inl (k 3, 4, .inr (.inr (.inr (.inr (fun g => some (ad g 0))))))), ((ad g9 0), .inr (4, [.ref (ad g9 1), .ref (ad g9 2), .ref (ad g9 3), .ref (ad g9 4), .ref (ad g9 5), .ref (ad g9 6), .int (nI (tk g9)), .int (nI (ct g9)), .int (nI (no g9))]))] (fun (r : Int32) (u : Unit) => r = nI (fo g9 + tk g9 + 2) ∧ True) (fun u => [(h0, .inr (7, [.ref ca, .ref nfo, .ref ncd, .ref nsp, .ref nno, .ref nsm, .ref nbr, .ref nbs, .ref nbd, .int (nI un9), .int (nI co9), .int (nI fl9)])), (nfo, .inl (k 0, 4, .inl (fun i => nI (fo i)))), (ca, .inl (k 3, 4, .inr (.inr (.inr (.inr (fun g => some (ad g 0))))))), ((ad g9 0), .inr (4, [.ref (ad g9 1), .ref (ad g9 2), .ref (ad g9 3), .ref (ad g9 4), .ref (ad g9 5), .ref (ad g9 6), .int (nI (tk g9)), .int (nI (ct g9)), .int (nI (no g9))]))]) 0 0 := by
  refine met_start (by decide) (Nat.le_of_ble_eq_true rfl) ?_
  intro p e s m below meth c C K hA hsz S ls hl
  generalize va_A [(h0, .inr (7, [.ref ca, .ref nfo, .ref ncd, .ref nsp, .ref nno, .ref nsm, .ref nbr, .ref nbs, .ref nbd, .int (nI un9), .int (nI co9), .int (nI fl9)])), (nfo, .inl (k 0, 4, .inl (fun i => nI (fo i)))), (ca, .inl (k 3, 4, .inr (.inr (.inr (.inr (fun g => some (ad g 0))))))), ((ad g9 0), .inr (4, [.ref (ad g9 1), .ref (ad g9 2), .ref (ad g9 3), .ref (ad g9 4), .ref (ad g9 5), .ref (ad g9 6), .int (nI (tk g9)), .int (nI (ct g9)), .int (nI (no g9))]))] s0 = A at hA S ⊢
  have hx := C.1
  have hb := C.2.1
  have hl : lv_has ls 2 [(0, .ref h0), (1, .int (nI g9))] := hl
  refine lv_aload_n hx hb d_Ne_leavesOf_0 rfl (lv_at hl 0 rfl) ?_
  refine lv_iload_n hx hb d_Ne_leavesOf_1 rfl (lv_at hl 1 rfl) ?_
  refine r_backi (wi := [(h0, .inr (7, [.ref ca, .ref nfo, .ref ncd, .ref nsp, .ref nno, .ref nsm, .ref nbr, .ref nbs, .ref nbd, .int (nI un9), .int (nI co9), .int (nI fl9)])), (nfo, .inl (k 0, 4, .inl (fun i => nI (fo i)))), (ca, .inl (k 3, 4, .inr (.inr (.inr (.inr (fun g => some (ad g 0))))))), ((ad g9 0), .inr (4, [.ref (ad g9 1), .ref (ad g9 2), .ref (ad g9 3), .ref (ad g9 4), .ref (ad g9 5), .ref (ad g9 6), .int (nI (tk g9)), .int (nI (ct g9)), .int (nI (no g9))]))]) (wr := []) S hA [0, 1, 2, 3] [] rfl rfl (by decide) (by decide) (va_runV (As := [.int (nI g9)]) (rest := []) ⟨hx, hb, C.2.2.1, C.2.2.2.1, C.2.2.2.2.1⟩ (g_Ne_paysOf l G k h0 _ g9 ca nfo ncd nsp nno nsm nbr nbs nbd un9 co9 fl9 fo ad tk ct no (by first | assumption | omega)) (k_virt (n := 1) C wc_Ne_paysOf rfl rfl wz_Ne wm_Ne_91 wn_Ne_paysOf ws_Ne_paysOf (by decide +kernel) ⟨(Nat.le_of_ble_eq_true rfl), (Nat.le_of_ble_eq_true rfl)⟩) (pr_nowV K S [0, 1, 2, 3] (by decide) rfl 0 rfl rfl) rfl rfl hl.1 rfl (lv_room (Nat.le_of_ble_eq_true rfl)) d_Ne_leavesOf_2 ⟨(Nat.le_of_ble_eq_true rfl), (Nat.le_of_ble_eq_true rfl)⟩) (fun r3 u1 H locs hw2 S => ?_)
  have S : Sw G A s.heap _ _ [(h0, .inr (7, [.ref ca, .ref nfo, .ref ncd, .ref nsp, .ref nno, .ref nsm, .ref nbr, .ref nbs, .ref nbd, .int (nI un9), .int (nI co9), .int (nI fl9)])), (nfo, .inl (k 0, 4, .inl (fun i => nI (fo i)))), (ca, .inl (k 3, 4, .inr (.inr (.inr (.inr (fun g => some (ad g 0))))))), ((ad g9 0), .inr (4, [.ref (ad g9 1), .ref (ad g9 2), .ref (ad g9 3), .ref (ad g9 4), .ref (ad g9 5), .ref (ad g9 6), .int (nI (tk g9)), .int (nI (ct g9)), .int (nI (no g9))]))] := S
  obtain ⟨hw20, hp4⟩ := hw2
  obtain rfl : r3 = nI (fo g9 + tk g9) := hw20
  refine lv_iconst (v := 2) hx hb d_Ne_leavesOf_5 (by decide) ?_
  refine z_iadd (x := nI (fo g9 + tk g9)) (y := 2) (v := nI (fo g9 + tk g9 + 2)) hx hb d_Ne_leavesOf_6 (nI_add (fo g9 + tk g9) 2) ?_
  exact r_iret C K rfl () ⟨rfl, trivial⟩ (S.sub [0, 1, 2, 3] (by decide) rfl) d_Ne_leavesOf_7 (Nat.le_of_ble_eq_true rfl) (Nat.le_of_ble_eq_true rfl)
theorem pcK_mono (o : Nat) : ∀ d v, pcK o v ≤ pcK o (v + d)
  | 0, v => Nat.le_refl _
  | d + 1, v => Nat.le_trans (pcK_mono o d v) (by rw [← Nat.add_assoc, pcK]; exact Nat.le_add_right _ _)
theorem i32_nn {n : Nat} (h : n < 2147483648) : (nI n).toInt = n := Int32.toInt_ofNat_of_lt (by omega)
theorem sr_nn {o v : Nat} (ho : o < 2147483648) (hv : v < 32) : nI o >>> (nI v &&& 31) = nI (o / 2 ^ v) := by
  apply Int32.toInt_inj.mp
  have hlt : o / 2 ^ v < 2147483648 := Nat.lt_of_le_of_lt (Nat.div_le_self _ _) ho
  rw [i32_nn hlt, ← Int32.toInt_toBitVec, Int32.toBitVec_shiftRight, BitVec.sshiftRight_eq', BitVec.toInt_sshiftRight, s_l9 v hv, Int32.toInt_toBitVec, i32_nn ho, Int.shiftRight_eq_div_pow]
  norm_cast
theorem bx_and (a b : Nat) : nI a &&& nI b = nI (a &&& b) := by
  apply Int32.toBitVec_inj.mp
  rw [Int32.toBitVec_and]
  apply BitVec.eq_of_toNat_eq
  show ((BitVec.ofNat 32 a) &&& (BitVec.ofNat 32 b)).toNat = (BitVec.ofNat 32 (a &&& b)).toNat
  rw [BitVec.toNat_and, BitVec.toNat_ofNat, BitVec.toNat_ofNat, BitVec.toNat_ofNat, Nat.and_mod_two_pow]
theorem bx_xor (a b : Nat) : nI a ^^^ nI b = nI (a ^^^ b) := by
  apply Int32.toBitVec_inj.mp
  rw [Int32.toBitVec_xor]
  apply BitVec.eq_of_toNat_eq
  show ((BitVec.ofNat 32 a) ^^^ (BitVec.ofNat 32 b)).toNat = (BitVec.ofNat 32 (a ^^^ b)).toNat
  rw [BitVec.toNat_xor, BitVec.toNat_ofNat, BitVec.toNat_ofNat, BitVec.toNat_ofNat, Nat.xor_mod_two_pow]
theorem s_u9 : ∀ n, n < 32 → (((nI n).toUInt32 &&& Int32.toUInt32 31).toBitVec % 32).toNat = n := by decide +kernel
theorem us_nn {a j : Nat} (ha : a < 4294967296) (hj : j < 32) : ((nI a).toUInt32 >>> ((nI j).toUInt32 &&& Int32.toUInt32 31)).toInt32 = nI (a / 2 ^ j) := by
  apply Int32.toBitVec_inj.mp
  show ((nI a).toUInt32 >>> ((nI j).toUInt32 &&& Int32.toUInt32 31)).toBitVec = _
  rw [UInt32.toBitVec_shiftRight]
  apply BitVec.eq_of_toNat_eq
  rw [BitVec.ushiftRight_eq', BitVec.toNat_ushiftRight, s_u9 j hj]
  show (BitVec.ofNat 32 a).toNat >>> j = (BitVec.ofNat 32 (a / 2 ^ j)).toNat
  have h2 : a / 2 ^ j ≤ a := Nat.div_le_self _ _
  rw [BitVec.toNat_ofNat, BitVec.toNat_ofNat, Nat.mod_eq_of_lt ha, Nat.mod_eq_of_lt (by omega), Nat.shiftRight_eq_div_pow]
theorem d_JI_bitCount_0 : decode c_JI_bitCount 0 = .ok (.iload_n 0, 1) := by decide +kernel
theorem d_JI_bitCount_1 : decode c_JI_bitCount 1 = .ok (.iload_n 0, 1) := by decide +kernel
theorem d_JI_bitCount_2 : decode c_JI_bitCount 2 = .ok (.iconst 1, 1) := by decide +kernel
theorem d_JI_bitCount_3 : decode c_JI_bitCount 3 = .ok (.iushr, 1) := by decide +kernel
theorem d_JI_bitCount_4 : decode c_JI_bitCount 4 = .ok (.ldc_w 265, 3) := by decide +kernel
theorem d_JI_bitCount_7 : decode c_JI_bitCount 7 = .ok (.iand, 1) := by decide +kernel
theorem d_JI_bitCount_8 : decode c_JI_bitCount 8 = .ok (.isub, 1) := by decide +kernel
theorem d_JI_bitCount_9 : decode c_JI_bitCount 9 = .ok (.istore_n 0, 1) := by decide +kernel
theorem d_JI_bitCount_10 : decode c_JI_bitCount 10 = .ok (.iload_n 0, 1) := by decide +kernel
theorem d_JI_bitCount_11 : decode c_JI_bitCount 11 = .ok (.ldc_w 266, 3) := by decide +kernel
theorem d_JI_bitCount_14 : decode c_JI_bitCount 14 = .ok (.iand, 1) := by decide +kernel
theorem d_JI_bitCount_15 : decode c_JI_bitCount 15 = .ok (.iload_n 0, 1) := by decide +kernel
theorem d_JI_bitCount_16 : decode c_JI_bitCount 16 = .ok (.iconst 2, 1) := by decide +kernel
theorem d_JI_bitCount_17 : decode c_JI_bitCount 17 = .ok (.iushr, 1) := by decide +kernel
theorem d_JI_bitCount_18 : decode c_JI_bitCount 18 = .ok (.ldc_w 266, 3) := by decide +kernel
theorem d_JI_bitCount_21 : decode c_JI_bitCount 21 = .ok (.iand, 1) := by decide +kernel
theorem d_JI_bitCount_22 : decode c_JI_bitCount 22 = .ok (.iadd, 1) := by decide +kernel
theorem d_JI_bitCount_23 : decode c_JI_bitCount 23 = .ok (.istore_n 0, 1) := by decide +kernel
theorem d_JI_bitCount_24 : decode c_JI_bitCount 24 = .ok (.iload_n 0, 1) := by decide +kernel
theorem d_JI_bitCount_25 : decode c_JI_bitCount 25 = .ok (.iload_n 0, 1) := by decide +kernel
theorem d_JI_bitCount_26 : decode c_JI_bitCount 26 = .ok (.iconst 4, 1) := by decide +kernel
theorem d_JI_bitCount_27 : decode c_JI_bitCount 27 = .ok (.iushr, 1) := by decide +kernel
theorem d_JI_bitCount_28 : decode c_JI_bitCount 28 = .ok (.iadd, 1) := by decide +kernel
theorem d_JI_bitCount_29 : decode c_JI_bitCount 29 = .ok (.ldc_w 267, 3) := by decide +kernel
theorem d_JI_bitCount_32 : decode c_JI_bitCount 32 = .ok (.iand, 1) := by decide +kernel
theorem d_JI_bitCount_33 : decode c_JI_bitCount 33 = .ok (.istore_n 0, 1) := by decide +kernel
theorem d_JI_bitCount_34 : decode c_JI_bitCount 34 = .ok (.iload_n 0, 1) := by decide +kernel
theorem d_JI_bitCount_35 : decode c_JI_bitCount 35 = .ok (.iload_n 0, 1) := by decide +kernel
theorem d_JI_bitCount_36 : decode c_JI_bitCount 36 = .ok (.bipush 8, 2) := by decide +kernel
theorem d_JI_bitCount_38 : decode c_JI_bitCount 38 = .ok (.iushr, 1) := by decide +kernel
theorem d_JI_bitCount_39 : decode c_JI_bitCount 39 = .ok (.iadd, 1) := by decide +kernel
theorem d_JI_bitCount_40 : decode c_JI_bitCount 40 = .ok (.istore_n 0, 1) := by decide +kernel
theorem d_JI_bitCount_41 : decode c_JI_bitCount 41 = .ok (.iload_n 0, 1) := by decide +kernel
theorem d_JI_bitCount_42 : decode c_JI_bitCount 42 = .ok (.iload_n 0, 1) := by decide +kernel
theorem d_JI_bitCount_43 : decode c_JI_bitCount 43 = .ok (.bipush 16, 2) := by decide +kernel
theorem d_JI_bitCount_45 : decode c_JI_bitCount 45 = .ok (.iushr, 1) := by decide +kernel
theorem d_JI_bitCount_46 : decode c_JI_bitCount 46 = .ok (.iadd, 1) := by decide +kernel
theorem d_JI_bitCount_47 : decode c_JI_bitCount 47 = .ok (.istore_n 0, 1) := by decide +kernel
theorem d_JI_bitCount_48 : decode c_JI_bitCount 48 = .ok (.iload_n 0, 1) := by decide +kernel
theorem d_JI_bitCount_49 : decode c_JI_bitCount 49 = .ok (.bipush 63, 2) := by decide +kernel
theorem d_JI_bitCount_51 : decode c_JI_bitCount 51 = .ok (.iand, 1) := by decide +kernel
theorem d_JI_bitCount_52 : decode c_JI_bitCount 52 = .ok (.ireturn, 1) := by decide +kernel
set_option maxRecDepth 100000 in
set_option maxHeartbeats 16000000 in
/-- Integer.bitCount -/
theorem g_JI_bitCount (l : Launch) (G : va_G) (k : Nat → ClassId) (s0 : Nat) (o9 : Nat) (ho : o9 < 262144) : CI l y_JI_bitCount c_JI_bitCount 1 .int { frames := 0, cells := 0, slots := 0, locals := 0 } [.int (nI o9)] G k s0 [] (fun (r : Int32) (u : Unit) => r = nI (pcK o9 18) ∧ True) (fun u => []) 0 0 := by
  refine met_start (by decide) (Nat.le_of_ble_eq_true rfl) ?_
  intro p e s m below meth c C K hA hsz S ls hl
  generalize va_A [] s0 = A at hA S ⊢
  have hx := C.1
  have hb := C.2.1
  have hl : lv_has ls 1 [(0, .int (nI o9))] := hl
  refine lv_iload_n hx hb d_JI_bitCount_0 rfl (lv_at hl 0 rfl) ?_
  refine lv_iload_n hx hb d_JI_bitCount_1 rfl (lv_at hl 0 rfl) ?_
  refine lv_iconst (v := 1) hx hb d_JI_bitCount_2 (by decide) ?_
  refine lv_iushr (v := nI (o9 / 2)) hx hb d_JI_bitCount_3 (us_nn (a := o9) (j := 1) (by omega) (by decide)) ?_
  refine lv_ldcw (v := 1431655765) hx hb C.2.2.2.1 (C.2.2.2.2.1 _ wk_JI_265) d_JI_bitCount_4 ?_
  refine z_iand (v := nI (o9 / 2 &&& 1431655765)) hx hb d_JI_bitCount_7 (bx_and (o9 / 2) 1431655765) ?_
  refine z_isub (x := nI o9) (y := nI (o9 / 2 &&& 1431655765)) (v := nI (o9 - (o9 / 2 &&& 1431655765))) hx hb d_JI_bitCount_8 (pk_sub (a := o9) (b := (o9 / 2 &&& 1431655765)) (Nat.le_trans Nat.and_le_left (Nat.div_le_self _ _))) ?_
  refine lv_istore_n (lv' := [(0, .int (nI (o9 - (o9 / 2 &&& 1431655765))))]) hx hb d_JI_bitCount_9 rfl hl (by decide) rfl (fun ls hl => ?_)
  obtain ⟨b7, hb7⟩ : ∃ x9, x9 = o9 - (o9 / 2 &&& 1431655765) := ⟨_, rfl⟩
  rw [← hb7] at hl
  have hl : lv_has ls 1 [(0, .int (nI b7))] := hl
  have kb : b7 ≤ o9 := by omega
  refine lv_iload_n hx hb d_JI_bitCount_10 rfl (lv_at hl 0 rfl) ?_
  refine lv_ldcw (v := 858993459) hx hb C.2.2.2.1 (C.2.2.2.2.1 _ wk_JI_266) d_JI_bitCount_11 ?_
  refine z_iand (v := nI (b7 &&& 858993459)) hx hb d_JI_bitCount_14 (bx_and b7 858993459) ?_
  refine lv_iload_n hx hb d_JI_bitCount_15 rfl (lv_at hl 0 rfl) ?_
  refine lv_iconst (v := 2) hx hb d_JI_bitCount_16 (by decide) ?_
  refine lv_iushr (v := nI (b7 / 4)) hx hb d_JI_bitCount_17 (us_nn (a := b7) (j := 2) (by omega) (by decide)) ?_
  refine lv_ldcw (v := 858993459) hx hb C.2.2.2.1 (C.2.2.2.2.1 _ wk_JI_266) d_JI_bitCount_18 ?_
  refine z_iand (v := nI (b7 / 4 &&& 858993459)) hx hb d_JI_bitCount_21 (bx_and (b7 / 4) 858993459) ?_
  refine z_iadd (x := nI (b7 &&& 858993459)) (y := nI (b7 / 4 &&& 858993459)) (v := nI ((b7 &&& 858993459) + (b7 / 4 &&& 858993459))) hx hb d_JI_bitCount_22 (nI_add (b7 &&& 858993459) (b7 / 4 &&& 858993459)) ?_
  refine lv_istore_n (lv' := [(0, .int (nI ((b7 &&& 858993459) + (b7 / 4 &&& 858993459))))]) hx hb d_JI_bitCount_23 rfl hl (by decide) rfl (fun ls hl => ?_)
  obtain ⟨c7, hc7⟩ : ∃ x9, x9 = (b7 &&& 858993459) + (b7 / 4 &&& 858993459) := ⟨_, rfl⟩
  rw [← hc7] at hl
  have hl : lv_has ls 1 [(0, .int (nI c7))] := hl
  have kc : c7 ≤ b7 + b7 / 4 := by rw [hc7]; exact Nat.add_le_add Nat.and_le_left Nat.and_le_left
  refine lv_iload_n hx hb d_JI_bitCount_24 rfl (lv_at hl 0 rfl) ?_
  refine lv_iload_n hx hb d_JI_bitCount_25 rfl (lv_at hl 0 rfl) ?_
  refine lv_iconst (v := 4) hx hb d_JI_bitCount_26 (by decide) ?_
  refine lv_iushr (v := nI (c7 / 16)) hx hb d_JI_bitCount_27 (us_nn (a := c7) (j := 4) (by omega) (by decide)) ?_
  refine z_iadd (x := nI c7) (y := nI (c7 / 16)) (v := nI (c7 + (c7 / 16))) hx hb d_JI_bitCount_28 (nI_add c7 (c7 / 16)) ?_
  refine lv_ldcw (v := 252645135) hx hb C.2.2.2.1 (C.2.2.2.2.1 _ wk_JI_267) d_JI_bitCount_29 ?_
  refine z_iand (v := nI (c7 + c7 / 16 &&& 252645135)) hx hb d_JI_bitCount_32 (bx_and (c7 + c7 / 16) 252645135) ?_
  refine lv_istore_n (lv' := [(0, .int (nI (c7 + c7 / 16 &&& 252645135)))]) hx hb d_JI_bitCount_33 rfl hl (by decide) rfl (fun ls hl => ?_)
  obtain ⟨d7, hd7⟩ : ∃ x9, x9 = (c7 + c7 / 16) &&& 252645135 := ⟨_, rfl⟩
  rw [← hd7] at hl
  have hl : lv_has ls 1 [(0, .int (nI d7))] := hl
  have kd : d7 ≤ c7 + c7 / 16 := by rw [hd7]; exact Nat.and_le_left
  refine lv_iload_n hx hb d_JI_bitCount_34 rfl (lv_at hl 0 rfl) ?_
  refine lv_iload_n hx hb d_JI_bitCount_35 rfl (lv_at hl 0 rfl) ?_
  refine lv_bipush (v := 8) hx hb d_JI_bitCount_36 (by decide) ?_
  refine lv_iushr (v := nI (d7 / 256)) hx hb d_JI_bitCount_38 (us_nn (a := d7) (j := 8) (by omega) (by decide)) ?_
  refine z_iadd (x := nI d7) (y := nI (d7 / 256)) (v := nI (d7 + (d7 / 256))) hx hb d_JI_bitCount_39 (nI_add d7 (d7 / 256)) ?_
  refine lv_istore_n (lv' := [(0, .int (nI (d7 + (d7 / 256))))]) hx hb d_JI_bitCount_40 rfl hl (by decide) rfl (fun ls hl => ?_)
  obtain ⟨e7, he7⟩ : ∃ x9, x9 = d7 + d7 / 256 := ⟨_, rfl⟩
  rw [← he7] at hl
  have hl : lv_has ls 1 [(0, .int (nI e7))] := hl
  refine lv_iload_n hx hb d_JI_bitCount_41 rfl (lv_at hl 0 rfl) ?_
  refine lv_iload_n hx hb d_JI_bitCount_42 rfl (lv_at hl 0 rfl) ?_
  refine lv_bipush (v := 16) hx hb d_JI_bitCount_43 (by decide) ?_
  refine lv_iushr (v := nI (e7 / 65536)) hx hb d_JI_bitCount_45 (us_nn (a := e7) (j := 16) (by omega) (by decide)) ?_
  refine z_iadd (x := nI e7) (y := nI (e7 / 65536)) (v := nI (e7 + (e7 / 65536))) hx hb d_JI_bitCount_46 (nI_add e7 (e7 / 65536)) ?_
  refine lv_istore_n (lv' := [(0, .int (nI (e7 + (e7 / 65536))))]) hx hb d_JI_bitCount_47 rfl hl (by decide) rfl (fun ls hl => ?_)
  obtain ⟨f7, hf7⟩ : ∃ x9, x9 = e7 + e7 / 65536 := ⟨_, rfl⟩
  rw [← hf7] at hl
  have hl : lv_has ls 1 [(0, .int (nI f7))] := hl
  refine lv_iload_n hx hb d_JI_bitCount_48 rfl (lv_at hl 0 rfl) ?_
  refine lv_bipush (v := 63) hx hb d_JI_bitCount_49 (by decide) ?_
  refine z_iand (v := nI (f7 &&& 63)) hx hb d_JI_bitCount_51 (bx_and f7 63) ?_
  exact r_iret C K rfl () ⟨(show nI (f7 &&& 63) = nI (pcK o9 18) by rw [← bc_eq ho, hf7, he7, hd7, hc7, hb7]; rfl), trivial⟩ (S.sub [] (by decide) rfl) d_JI_bitCount_52 (Nat.le_of_ble_eq_true rfl) (Nat.le_of_ble_eq_true rfl)
