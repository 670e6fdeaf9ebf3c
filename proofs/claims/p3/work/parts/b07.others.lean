theorem z_ixor {p : Program} {l : Launch} {e : Env} {R : Room} {s : State} {m : MethodId} {args : Array Value} {below : List Frame} {meth : Method} {c : Code} {H : Heap} {locs : List Loc} {cells slots : Nat} {Q : State → Prop} {cc : ByteArray} {pc : Nat} {ls : Array Slot} {rest : List Value} (hx : p.tables.exec = Jvm.exec) (hb : c.code = cc) {x y v : Int32} (hd : decode cc pc = .ok (.ixor, 1)) (hv : x ^^^ y = v) (kk : W p l e R s m args below meth c H locs cells slots Q (F0 m (pc + 1) ls (.int v :: rest))) : W p l e R s m args below meth c H locs cells slots Q (F0 m pc ls (.int y :: .int x :: rest)) := by subst hv; exact lv_ixor hx hb hd kk
/-- the variables besides the one that is looked at -/
def otN (a b kn v : Nat) : Nat := ((a ||| b) &&& (1 * 2 ^ kn - 1)) &&& ((1 * 2 ^ v) ^^^ 4294967295)
theorem otN_lt {a b kn v : Nat} (h : kn ≤ 18) : otN a b kn v < 262144 := by
  unfold otN
  have h1 : ((a ||| b) &&& (1 * 2 ^ kn - 1)) &&& ((1 * 2 ^ v) ^^^ 4294967295) ≤ (a ||| b) &&& (1 * 2 ^ kn - 1) := Nat.and_le_left
  have h2 : (a ||| b) &&& (1 * 2 ^ kn - 1) ≤ 1 * 2 ^ kn - 1 := Nat.and_le_right
  have h3 : 2 ^ kn ≤ 2 ^ 18 := Nat.pow_le_pow_right (by decide) h
  have h4 : 0 < 2 ^ kn := Nat.pow_pos (by decide)
  have h5 : (2 : Nat) ^ 18 = 262144 := by decide
  omega
/-- unknowns, conditions and whether it is full, behind a more unknowns and b more conditions -/
def stpO (a b un co fl un2 co2 fl2 : Nat) : Prop := un2 ≤ 40 ∧ co2 ≤ 90 ∧ fl2 ≤ 1 ∧ (fl2 = 0 → fl = 0 ∧ un2 = un + a ∧ co2 = co + b) ∧ (fl = 0 → un + a ≤ 40 → co + b ≤ 90 → fl2 = 0)
theorem stp_0 {un co fl : Nat} (h1 : un ≤ 40) (h2 : co ≤ 90) (h3 : fl ≤ 1) : stpO 0 0 un co fl un co fl := ⟨h1, h2, h3, fun h => ⟨h, rfl, rfl⟩, fun h _ _ => h⟩
theorem stp_tr {a b a2 b2 un co fl un2 co2 fl2 un3 co3 fl3 : Nat} (h : stpO a b un co fl un2 co2 fl2) (g : stpO a2 b2 un2 co2 fl2 un3 co3 fl3) : stpO (a + a2) (b + b2) un co fl un3 co3 fl3 := by
  obtain ⟨h1, h2, h3, h4, h5⟩ := h
  obtain ⟨g1, g2, g3, g4, g5⟩ := g
  refine ⟨g1, g2, g3, fun q => ?_, fun q1 q2 q3 => ?_⟩
  · have k1 := g4 q
    have k2 := h4 k1.1
    exact ⟨k2.1, by omega, by omega⟩
  · have k1 := h5 q1 (by omega) (by omega)
    have k2 := h4 k1
    exact g5 k1 (by omega) (by omega)
theorem stp_al {un co fl : Nat} (h1 : un ≤ 40) (h2 : co ≤ 90) (h3 : fl ≤ 1) : stpO 0 1 un co fl un (caN co) (flN co fl) := by
  unfold stpO caN flN
  by_cases q : co < 90
  · rw [if_pos q, if_pos q]; omega
  · rw [if_neg q, if_neg q]; omega
theorem stp_eq {a b a2 b2 un co fl un2 co2 fl2 : Nat} (h : stpO a b un co fl un2 co2 fl2) (e1 : a = a2) (e2 : b = b2) : stpO a2 b2 un co fl un2 co2 fl2 := by subst e1; subst e2; exact h
theorem d_Bo_others_0 : decode c_Bo_others 0 = .ok (.aload_n 0, 1) := by decide +kernel
theorem d_Bo_others_1 : decode c_Bo_others 1 = .ok (.getfield 27, 3) := by decide +kernel
theorem d_Bo_others_4 : decode c_Bo_others 4 = .ok (.aload_n 0, 1) := by decide +kernel
theorem d_Bo_others_5 : decode c_Bo_others 5 = .ok (.getfield 18, 3) := by decide +kernel
theorem d_Bo_others_8 : decode c_Bo_others 8 = .ok (.iload_n 1, 1) := by decide +kernel
theorem d_Bo_others_9 : decode c_Bo_others 9 = .ok (.iaload, 1) := by decide +kernel
theorem d_Bo_others_10 : decode c_Bo_others 10 = .ok (.iaload, 1) := by decide +kernel
theorem d_Bo_others_11 : decode c_Bo_others 11 = .ok (.aload_n 0, 1) := by decide +kernel
theorem d_Bo_others_12 : decode c_Bo_others 12 = .ok (.getfield 27, 3) := by decide +kernel
theorem d_Bo_others_15 : decode c_Bo_others 15 = .ok (.aload_n 0, 1) := by decide +kernel
theorem d_Bo_others_16 : decode c_Bo_others 16 = .ok (.getfield 21, 3) := by decide +kernel
theorem d_Bo_others_19 : decode c_Bo_others 19 = .ok (.iload_n 1, 1) := by decide +kernel
theorem d_Bo_others_20 : decode c_Bo_others 20 = .ok (.iaload, 1) := by decide +kernel
theorem d_Bo_others_21 : decode c_Bo_others 21 = .ok (.iaload, 1) := by decide +kernel
theorem d_Bo_others_22 : decode c_Bo_others 22 = .ok (.ior, 1) := by decide +kernel
theorem d_Bo_others_23 : decode c_Bo_others 23 = .ok (.istore_n 2, 1) := by decide +kernel
theorem d_Bo_others_24 : decode c_Bo_others 24 = .ok (.iload_n 2, 1) := by decide +kernel
theorem d_Bo_others_25 : decode c_Bo_others 25 = .ok (.iconst 1, 1) := by decide +kernel
theorem d_Bo_others_26 : decode c_Bo_others 26 = .ok (.aload_n 0, 1) := by decide +kernel
theorem d_Bo_others_27 : decode c_Bo_others 27 = .ok (.getfield 24, 3) := by decide +kernel
theorem d_Bo_others_30 : decode c_Bo_others 30 = .ok (.iload_n 1, 1) := by decide +kernel
theorem d_Bo_others_31 : decode c_Bo_others 31 = .ok (.iaload, 1) := by decide +kernel
theorem d_Bo_others_32 : decode c_Bo_others 32 = .ok (.ishl, 1) := by decide +kernel
theorem d_Bo_others_33 : decode c_Bo_others 33 = .ok (.iconst 1, 1) := by decide +kernel
theorem d_Bo_others_34 : decode c_Bo_others 34 = .ok (.isub, 1) := by decide +kernel
theorem d_Bo_others_35 : decode c_Bo_others 35 = .ok (.iand, 1) := by decide +kernel
theorem d_Bo_others_36 : decode c_Bo_others 36 = .ok (.iconst 1, 1) := by decide +kernel
theorem d_Bo_others_37 : decode c_Bo_others 37 = .ok (.aload_n 0, 1) := by decide +kernel
theorem d_Bo_others_38 : decode c_Bo_others 38 = .ok (.iload_n 1, 1) := by decide +kernel
theorem d_Bo_others_39 : decode c_Bo_others 39 = .ok (.invokevirtual 34, 3) := by decide +kernel
theorem d_Bo_others_42 : decode c_Bo_others 42 = .ok (.ishl, 1) := by decide +kernel
theorem d_Bo_others_43 : decode c_Bo_others 43 = .ok (.iconst (-1), 1) := by decide +kernel
theorem d_Bo_others_44 : decode c_Bo_others 44 = .ok (.ixor, 1) := by decide +kernel
theorem d_Bo_others_45 : decode c_Bo_others 45 = .ok (.iand, 1) := by decide +kernel
theorem d_Bo_others_46 : decode c_Bo_others 46 = .ok (.ireturn, 1) := by decide +kernel
set_option maxRecDepth 100000 in
set_option maxHeartbeats 16000000 in
/-- others -/
theorem g_Bo_others (l : Launch) (G : va_G) (k : Nat → ClassId) (h0 : Nat) (s0 : Nat) (x9 : Nat) (p9 : Nat) (kn : Nat) (v9 : Nat) (bw : Nat) (bst : Nat) (bfi : Nat) (bse : Nat) (bkn : Nat) (bnm : Nat) (tk9 : Nat) (sz9 : Nat) (nd9 : Nat) (wd : Nat → Int32) (sta : Nat → Nat) (fir : Nat → Nat) (sec : Nat → Nat) (kno : Nat → Nat) (nam : Nat → Nat) (hxx : x9 < 40) (hf4 : fir x9 < 40) (hs4 : sec x9 < 40) (hp0 : sta x9 = p9) (hpb : p9 + 1 < 200) (hv : wd (p9 + 1) = nI v9) (hv2 : v9 < 18) (hk3 : kno x9 = kn) (hkn : kn ≤ 18) : CI l y_Bo_others c_Bo_others 3 .int { frames := 1, cells := 0, slots := 0, locals := 21 } [.ref h0, .int (nI x9)] G k s0 [(h0, .inr (4, [.ref bw, .ref bst, .ref bfi, .ref bse, .ref bkn, .ref bnm, .int (nI tk9), .int (nI sz9), .int (nI nd9)])), (bw, .inl (k 0, 200, .inl wd)), (bst, .inl (k 0, 40, .inl (fun i => nI (sta i)))), (bfi, .inl (k 0, 40, .inl (fun i => nI (fir i)))), (bse, .inl (k 0, 40, .inl (fun i => nI (sec i)))), (bkn, .inl (k 0, 40, .inl (fun i => nI (kno i)))), (bnm, .inl (k 0, 40, .inl (fun i => nI (nam i))))] (fun (r : Int32) (u : Unit) => r = nI (otN (nam (fir x9)) (nam (sec x9)) kn v9) ∧ True) (fun u => [(h0, .inr (4, [.ref bw, .ref bst, .ref bfi, .ref bse, .ref bkn, .ref bnm, .int (nI tk9), .int (nI sz9), .int (nI nd9)])), (bw, .inl (k 0, 200, .inl wd)), (bst, .inl (k 0, 40, .inl (fun i => nI (sta i)))), (bfi, .inl (k 0, 40, .inl (fun i => nI (fir i)))), (bse, .inl (k 0, 40, .inl (fun i => nI (sec i)))), (bkn, .inl (k 0, 40, .inl (fun i => nI (kno i)))), (bnm, .inl (k 0, 40, .inl (fun i => nI (nam i))))]) 0 0 := by
  refine met_start (by decide) (Nat.le_of_ble_eq_true rfl) ?_
  intro p e s m below meth c C K hA hsz S ls hl
  generalize va_A [(h0, .inr (4, [.ref bw, .ref bst, .ref bfi, .ref bse, .ref bkn, .ref bnm, .int (nI tk9), .int (nI sz9), .int (nI nd9)])), (bw, .inl (k 0, 200, .inl wd)), (bst, .inl (k 0, 40, .inl (fun i => nI (sta i)))), (bfi, .inl (k 0, 40, .inl (fun i => nI (fir i)))), (bse, .inl (k 0, 40, .inl (fun i => nI (sec i)))), (bkn, .inl (k 0, 40, .inl (fun i => nI (kno i)))), (bnm, .inl (k 0, 40, .inl (fun i => nI (nam i))))] s0 = A at hA S ⊢
  have hx := C.1
  have hb := C.2.1
  have hl : lv_has ls 3 [(0, .ref h0), (1, .int (nI x9))] := hl
  refine lv_aload_n hx hb d_Bo_others_0 rfl (lv_at hl 0 rfl) ?_
  refine r_get C K S 0 rfl rfl clOk_Bo 5 (by decide) wf_Bo_27 (v := .ref bnm) rfl d_Bo_others_1 ?_
  refine lv_aload_n hx hb d_Bo_others_4 rfl (lv_at hl 0 rfl) ?_
  refine r_get C K S 0 rfl rfl clOk_Bo 2 (by decide) wf_Bo_18 (v := .ref bfi) rfl d_Bo_others_5 ?_
  refine lv_iload_n hx hb d_Bo_others_8 rfl (lv_at hl 1 rfl) ?_
  refine r_iald C K S 3 rfl (i := nI x9) (show vp_in (nI x9) _ from vp_in_nI (n := x9) (by omega) (by decide)) (v := nI (fir x9)) (by rw [nI_clamp (by omega)]) d_Bo_others_9 ?_
  refine r_iald C K S 6 rfl (i := nI (fir x9)) (show vp_in (nI (fir x9)) _ from vp_in_nI (n := (fir x9)) (by omega) (by decide)) (v := nI (nam (fir x9))) (by rw [nI_clamp (by omega)]) d_Bo_others_10 ?_
  refine lv_aload_n hx hb d_Bo_others_11 rfl (lv_at hl 0 rfl) ?_
  refine r_get C K S 0 rfl rfl clOk_Bo 5 (by decide) wf_Bo_27 (v := .ref bnm) rfl d_Bo_others_12 ?_
  refine lv_aload_n hx hb d_Bo_others_15 rfl (lv_at hl 0 rfl) ?_
  refine r_get C K S 0 rfl rfl clOk_Bo 3 (by decide) wf_Bo_21 (v := .ref bse) rfl d_Bo_others_16 ?_
  refine lv_iload_n hx hb d_Bo_others_19 rfl (lv_at hl 1 rfl) ?_
  refine r_iald C K S 4 rfl (i := nI x9) (show vp_in (nI x9) _ from vp_in_nI (n := x9) (by omega) (by decide)) (v := nI (sec x9)) (by rw [nI_clamp (by omega)]) d_Bo_others_20 ?_
  refine r_iald C K S 6 rfl (i := nI (sec x9)) (show vp_in (nI (sec x9)) _ from vp_in_nI (n := (sec x9)) (by omega) (by decide)) (v := nI (nam (sec x9))) (by rw [nI_clamp (by omega)]) d_Bo_others_21 ?_
  refine z_ior (v := nI ((nam (fir x9)) ||| (nam (sec x9)))) hx hb d_Bo_others_22 (nx_or _ _) ?_
  refine lv_istore_n (lv' := [(2, .int (nI ((nam (fir x9)) ||| (nam (sec x9))))), (0, .ref h0), (1, .int (nI x9))]) hx hb d_Bo_others_23 rfl hl (by decide) rfl (fun ls hl => ?_)
  refine lv_iload_n hx hb d_Bo_others_24 rfl (lv_at hl 0 rfl) ?_
  refine lv_iconst (v := 1) hx hb d_Bo_others_25 (by decide) ?_
  refine lv_aload_n hx hb d_Bo_others_26 rfl (lv_at hl 1 rfl) ?_
  refine r_get C K S 0 rfl rfl clOk_Bo 4 (by decide) wf_Bo_24 (v := .ref bkn) rfl d_Bo_others_27 ?_
  refine lv_iload_n hx hb d_Bo_others_30 rfl (lv_at hl 2 rfl) ?_
  refine r_iald C K S 5 rfl (i := nI x9) (show vp_in (nI x9) _ from vp_in_nI (n := x9) (by omega) (by decide)) (v := nI (kno x9)) (by rw [nI_clamp (by omega)]) d_Bo_others_31 ?_
  rw [hk3]
  refine z_ishl (v := nI (1 * 2 ^ kn)) hx hb d_Bo_others_32 (show (1 : Int32) <<< (nI kn &&& 31) = nI (1 * 2 ^ kn) from pk_shlN (n := 1) _ kn (s_l9 kn (by omega)) (by have : 2 ^ kn ≤ 2 ^ 20 := Nat.pow_le_pow_right (by decide) (by omega); omega)) ?_
  refine lv_iconst (v := 1) hx hb d_Bo_others_33 (by decide) ?_
  refine z_isub (x := nI (1 * 2 ^ kn)) (y := 1) (v := nI (1 * 2 ^ kn - 1)) hx hb d_Bo_others_34 (pk_sub (a := (1 * 2 ^ kn)) (b := 1) (by have : 0 < 2 ^ kn := Nat.pow_pos (by decide); omega)) ?_
  refine z_iand (v := nI (((nam (fir x9)) ||| (nam (sec x9))) &&& (1 * 2 ^ kn - 1))) hx hb d_Bo_others_35 (bx_and _ _) ?_
  refine lv_iconst (v := 1) hx hb d_Bo_others_36 (by decide) ?_
  refine lv_aload_n hx hb d_Bo_others_37 rfl (lv_at hl 1 rfl) ?_
  refine lv_iload_n hx hb d_Bo_others_38 rfl (lv_at hl 2 rfl) ?_
  refine r_backi (wi := [(h0, .inr (4, [.ref bw, .ref bst, .ref bfi, .ref bse, .ref bkn, .ref bnm, .int (nI tk9), .int (nI sz9), .int (nI nd9)])), (bw, .inl (k 0, 200, .inl wd)), (bst, .inl (k 0, 40, .inl (fun i => nI (sta i))))]) (wr := [(bfi, .inl (k 0, 40, .inl (fun i => nI (fir i)))), (bse, .inl (k 0, 40, .inl (fun i => nI (sec i)))), (bkn, .inl (k 0, 40, .inl (fun i => nI (kno i)))), (bnm, .inl (k 0, 40, .inl (fun i => nI (nam i))))]) S hA [0, 1, 2] [3, 4, 5, 6] rfl rfl (by decide) (by decide) (va_runV (As := [.int (nI x9)]) (rest := [.int 1, .int (nI (((nam (fir x9)) ||| (nam (sec x9))) &&& (1 * 2 ^ kn - 1)))]) ⟨hx, hb, C.2.2.1, C.2.2.2.1, C.2.2.2.2.1⟩ (g_Bo_operand l G k h0 _ x9 bw bst bfi bse bkn bnm tk9 sz9 nd9 wd sta hxx (by rw [hp0]; exact hpb)) (k_virt (n := 1) C wc_Bo_operand rfl rfl wz_Bo wm_Bo_34 wn_Bo_operand ws_Bo_operand (by decide +kernel) ⟨(Nat.le_of_ble_eq_true rfl), (Nat.le_of_ble_eq_true rfl)⟩) (pr_nowV K S [0, 1, 2] (by decide) rfl 0 rfl rfl) rfl rfl hl.1 rfl (lv_room (Nat.le_of_ble_eq_true rfl)) d_Bo_others_39 ⟨(Nat.le_of_ble_eq_true rfl), (Nat.le_of_ble_eq_true rfl)⟩) (fun r3 u1 H locs hw2 S => ?_)
  have S : Sw G A s.heap _ _ [(bfi, .inl (k 0, 40, .inl (fun i => nI (fir i)))), (bse, .inl (k 0, 40, .inl (fun i => nI (sec i)))), (bkn, .inl (k 0, 40, .inl (fun i => nI (kno i)))), (bnm, .inl (k 0, 40, .inl (fun i => nI (nam i)))), (h0, .inr (4, [.ref bw, .ref bst, .ref bfi, .ref bse, .ref bkn, .ref bnm, .int (nI tk9), .int (nI sz9), .int (nI nd9)])), (bw, .inl (k 0, 200, .inl wd)), (bst, .inl (k 0, 40, .inl (fun i => nI (sta i))))] := S
  obtain ⟨hw20, hp4⟩ := hw2
  obtain rfl : r3 = wd (sta x9 + 1) := hw20
  rw [hp0, hv]
  refine z_ishl (v := nI (1 * 2 ^ v9)) hx hb d_Bo_others_42 (show (1 : Int32) <<< (nI v9 &&& 31) = nI (1 * 2 ^ v9) from pk_shlN (n := 1) _ v9 (s_l9 v9 (by omega)) (by have : 2 ^ v9 ≤ 2 ^ 20 := Nat.pow_le_pow_right (by decide) (by omega); omega)) ?_
  refine lv_iconst (v := (-1)) hx hb d_Bo_others_43 (by decide) ?_
  refine z_ixor (v := nI ((1 * 2 ^ v9) ^^^ 4294967295)) hx hb d_Bo_others_44 (show nI (1 * 2 ^ v9) ^^^ (-1) = nI ((1 * 2 ^ v9) ^^^ 4294967295) by rw [show (-1 : Int32) = nI 4294967295 from by decide]; exact bx_xor _ _) ?_
  refine z_iand (v := nI ((((nam (fir x9)) ||| (nam (sec x9))) &&& (1 * 2 ^ kn - 1)) &&& ((1 * 2 ^ v9) ^^^ 4294967295))) hx hb d_Bo_others_45 (bx_and _ _) ?_
  exact r_iret C K rfl () ⟨rfl, trivial⟩ (S.sub [4, 5, 6, 0, 1, 2, 3] (by decide) rfl) d_Bo_others_46 (Nat.le_of_ble_eq_true rfl) (Nat.le_of_ble_eq_true rfl)
theorem d_Ne_coverOthers_0 : decode c_Ne_coverOthers 0 = .ok (.iload_n 2, 1) := by decide +kernel
theorem d_Ne_coverOthers_1 : decode c_Ne_coverOthers 1 = .ok (.istore 4, 2) := by decide +kernel
theorem d_Ne_coverOthers_3 : decode c_Ne_coverOthers 3 = .ok (.iconst 0, 1) := by decide +kernel
theorem d_Ne_coverOthers_4 : decode c_Ne_coverOthers 4 = .ok (.istore 5, 2) := by decide +kernel
theorem d_Ne_coverOthers_6 : decode c_Ne_coverOthers 6 = .ok (.iload 5, 2) := by decide +kernel
theorem d_Ne_coverOthers_8 : decode c_Ne_coverOthers 8 = .ok (.bipush 18, 2) := by decide +kernel
theorem d_Ne_coverOthers_10 : decode c_Ne_coverOthers 10 = .ok (.if_icmp .ge 36, 3) := by decide +kernel
theorem d_Ne_coverOthers_13 : decode c_Ne_coverOthers 13 = .ok (.iload_n 1, 1) := by decide +kernel
theorem d_Ne_coverOthers_14 : decode c_Ne_coverOthers 14 = .ok (.iload 5, 2) := by decide +kernel
theorem d_Ne_coverOthers_16 : decode c_Ne_coverOthers 16 = .ok (.ishr, 1) := by decide +kernel
theorem d_Ne_coverOthers_17 : decode c_Ne_coverOthers 17 = .ok (.iconst 1, 1) := by decide +kernel
theorem d_Ne_coverOthers_18 : decode c_Ne_coverOthers 18 = .ok (.iand, 1) := by decide +kernel
theorem d_Ne_coverOthers_19 : decode c_Ne_coverOthers 19 = .ok (.iconst 1, 1) := by decide +kernel
theorem d_Ne_coverOthers_20 : decode c_Ne_coverOthers 20 = .ok (.if_icmp .ne 20, 3) := by decide +kernel
theorem d_Ne_coverOthers_23 : decode c_Ne_coverOthers 23 = .ok (.aload_n 0, 1) := by decide +kernel
theorem d_Ne_coverOthers_24 : decode c_Ne_coverOthers 24 = .ok (.iload 4, 2) := by decide +kernel
theorem d_Ne_coverOthers_26 : decode c_Ne_coverOthers 26 = .ok (.aload_n 0, 1) := by decide +kernel
theorem d_Ne_coverOthers_27 : decode c_Ne_coverOthers 27 = .ok (.iload_n 3, 1) := by decide +kernel
theorem d_Ne_coverOthers_28 : decode c_Ne_coverOthers 28 = .ok (.iload 5, 2) := by decide +kernel
theorem d_Ne_coverOthers_30 : decode c_Ne_coverOthers 30 = .ok (.invokevirtual 83, 3) := by decide +kernel
theorem d_Ne_coverOthers_33 : decode c_Ne_coverOthers 33 = .ok (.invokevirtual 87, 3) := by decide +kernel
theorem d_Ne_coverOthers_36 : decode c_Ne_coverOthers 36 = .ok (.pop, 1) := by decide +kernel
theorem d_Ne_coverOthers_37 : decode c_Ne_coverOthers 37 = .ok (.iinc 4 1, 3) := by decide +kernel
theorem d_Ne_coverOthers_40 : decode c_Ne_coverOthers 40 = .ok (.iinc 5 1, 3) := by decide +kernel
theorem d_Ne_coverOthers_43 : decode c_Ne_coverOthers 43 = .ok (.goto (-37), 3) := by decide +kernel
theorem d_Ne_coverOthers_46 : decode c_Ne_coverOthers 46 = .ok (.return_, 1) := by decide +kernel
set_option maxRecDepth 100000 in
set_option maxHeartbeats 16000000 in
/-- coverOthers -/
theorem g_Ne_coverOthers (l : Launch) (G : va_G) (k : Nat → ClassId) (h0 : Nat) (s0 : Nat) (o9 : Nat) (m9 : Nat) (lv9 : Nat) (ca : Nat) (nfo : Nat) (ncd : Nat) (nsp : Nat) (nno : Nat) (nsm : Nat) (nbr : Nat) (nbs : Nat) (nbd : Nat) (un9 : Nat) (co9 : Nat) (fl9 : Nat) (sm : Nat → Nat) (cd : Nat → Nat) (br : Nat → Nat) (bs : Nat → Nat) (LP : List Nat) (F : Nat → Nat → Int32) (hLP : lpO LP sm cd br bs nsp nno) (ho : o9 < 262144) (hmo : m9 + pcK o9 18 ≤ 40) (hlv : lv9 ≤ 16) (hun : un9 ≤ 40) (hco : co9 ≤ 90) (hfl : fl9 ≤ 1) : CV l y_Ne_coverOthers c_Ne_coverOthers 6 { frames := 1, cells := 0, slots := 0, locals := 24 } [.ref h0, .int (nI o9), .int (nI m9), .int (nI lv9)] G k s0 ([(h0, .inr (7, [.ref ca, .ref nfo, .ref ncd, .ref nsp, .ref nno, .ref nsm, .ref nbr, .ref nbs, .ref nbd, .int (nI un9), .int (nI co9), .int (nI fl9)])), (ncd, .inl (k 5, 90, .inr (.inr (.inr (.inr (fun j => some (cd j))))))), (nsm, .inl (k 5, 306, .inr (.inr (.inr (.inr (fun j => some (sm j)))))))] ++ va_pl LP (rwp k 41 F)) (fun (u : (Nat → Nat → Int32) × Nat × Nat) => stpO 0 (pcK o9 18) un9 co9 fl9 un9 u.2.1 u.2.2) (fun u => ([(h0, .inr (7, [.ref ca, .ref nfo, .ref ncd, .ref nsp, .ref nno, .ref nsm, .ref nbr, .ref nbs, .ref nbd, .int (nI un9), .int (nI u.2.1), .int (nI u.2.2)])), (ncd, .inl (k 5, 90, .inr (.inr (.inr (.inr (fun j => some (cd j))))))), (nsm, .inl (k 5, 306, .inr (.inr (.inr (.inr (fun j => some (sm j)))))))] ++ va_pl LP (rwp k 41 u.1))) 0 0 := by
  refine met_start (by decide) (Nat.le_of_ble_eq_true rfl) ?_
  intro p e s m below meth c C K hA hsz S ls hl
  generalize va_A ([(h0, .inr (7, [.ref ca, .ref nfo, .ref ncd, .ref nsp, .ref nno, .ref nsm, .ref nbr, .ref nbs, .ref nbd, .int (nI un9), .int (nI co9), .int (nI fl9)])), (ncd, .inl (k 5, 90, .inr (.inr (.inr (.inr (fun j => some (cd j))))))), (nsm, .inl (k 5, 306, .inr (.inr (.inr (.inr (fun j => some (sm j)))))))] ++ va_pl LP (rwp k 41 F)) s0 = A at hA S ⊢
  have hx := C.1
  have hb := C.2.1
  have hl : lv_has ls 6 [(0, .ref h0), (1, .int (nI o9)), (2, .int (nI m9)), (3, .int (nI lv9))] := hl
  refine lv_iload_n hx hb d_Ne_coverOthers_0 rfl (lv_at hl 2 rfl) ?_
  refine lv_istore (lv' := [(4, .int (nI m9)), (0, .ref h0), (1, .int (nI o9)), (2, .int (nI m9)), (3, .int (nI lv9))]) hx hb d_Ne_coverOthers_1 hl (by decide) rfl (fun ls hl => ?_)
  refine lv_iconst (v := 0) hx hb d_Ne_coverOthers_3 (by decide) ?_
  refine lv_istore (lv' := [(5, .int 0), (4, .int (nI m9)), (0, .ref h0), (1, .int (nI o9)), (2, .int (nI m9)), (3, .int (nI lv9))]) hx hb d_Ne_coverOthers_4 hl (by decide) rfl (fun ls hl => ?_)
  have lp : ∀ d9, ∀ (i9 : Nat), ∀ (m8 : Nat), ∀ (F8 : Nat → Nat → Int32), ∀ (co8 : Nat), ∀ (fl8 : Nat), (18 - i9) < d9 → (i9 ≤ 18) → (m8 = m9 + pcK o9 i9) → (stpO 0 (pcK o9 i9) un9 co9 fl9 un9 co8 fl8) → ∀ (H : Heap) (locs : List Loc), Sw G A s.heap H locs ([(h0, .inr (7, [.ref ca, .ref nfo, .ref ncd, .ref nsp, .ref nno, .ref nsm, .ref nbr, .ref nbs, .ref nbd, .int (nI un9), .int (nI co8), .int (nI fl8)])), (ncd, .inl (k 5, 90, .inr (.inr (.inr (.inr (fun j => some (cd j))))))), (nsm, .inl (k 5, 306, .inr (.inr (.inr (.inr (fun j => some (sm j)))))))] ++ va_pl LP (rwp k 41 F8)) → ∀ ls : Array Slot, lv_has ls 6 [(5, .int (nI i9)), (4, .int (nI m8)), (0, .ref h0), (1, .int (nI o9)), (2, .int (nI m9)), (3, .int (nI lv9))] → W p l e { frames := 1, cells := 0, slots := 0, locals := 24 } s m [Value.ref h0, Value.int (nI o9), Value.int (nI m9), Value.int (nI lv9)].toArray below meth c H locs 0 0 (MQ below (va_Qv (fun (u : (Nat → Nat → Int32) × Nat × Nat) => stpO 0 (pcK o9 18) un9 co9 fl9 un9 u.2.1 u.2.2) (Po G k A (fun u => ([(h0, .inr (7, [.ref ca, .ref nfo, .ref ncd, .ref nsp, .ref nno, .ref nsm, .ref nbr, .ref nbs, .ref nbd, .int (nI un9), .int (nI u.2.1), .int (nI u.2.2)])), (ncd, .inl (k 5, 90, .inr (.inr (.inr (.inr (fun j => some (cd j))))))), (nsm, .inl (k 5, 306, .inr (.inr (.inr (.inr (fun j => some (sm j)))))))] ++ va_pl LP (rwp k 41 u.1)))) A) [Value.ref h0, Value.int (nI o9), Value.int (nI m9), Value.int (nI lv9)].toArray s 0 0 A) (F0 m 6 ls []) := by
    intro d9
    induction d9 with
    | zero => intro i9 m8 F8 co8 fl8 hm; exact absurd hm (Nat.not_lt_zero _)
    | succ d9 ih_lp =>
      intro i9 m8 F8 co8 fl8 hm hi hm8 hst H locs S ls hl
      refine lv_iload hx hb d_Ne_coverOthers_6 (lv_at hl 0 rfl) ?_
      refine lv_bipush (v := 18) hx hb d_Ne_coverOthers_8 (by decide) ?_
      refine z_icmp_ge (a := i9) (b := 18) (tgt := 46) hx hb d_Ne_coverOthers_10 (by decide) (by omega) (by omega) (fun hc1 => ?_) (fun hc1 => ?_)
      · exact r_vret C K (F8, co8, fl8) (by have e9 : i9 = 18 := (by omega); rw [e9] at hst; exact hst) (S.subP [0, 1, 2] (by decide) rfl) d_Ne_coverOthers_46 (Nat.le_of_ble_eq_true rfl) (Nat.le_of_ble_eq_true rfl)
      · refine lv_iload_n hx hb d_Ne_coverOthers_13 rfl (lv_at hl 3 rfl) ?_
        refine lv_iload hx hb d_Ne_coverOthers_14 (lv_at hl 0 rfl) ?_
        refine z_ishr (v := nI (o9 / 2 ^ i9)) hx hb d_Ne_coverOthers_16 (sr_nn (by omega) (by omega)) ?_
        refine lv_iconst (v := 1) hx hb d_Ne_coverOthers_17 (by decide) ?_
        refine z_iand (v := nI (o9 / 2 ^ i9 % 2)) hx hb d_Ne_coverOthers_18 (show nI (o9 / 2 ^ i9) &&& 1 = nI (o9 / 2 ^ i9 % 2) from (bx_and _ 1).trans (congrArg nI (Nat.and_one_is_mod _))) ?_
        refine lv_iconst (v := 1) hx hb d_Ne_coverOthers_19 (by decide) ?_
        refine z_icmp_ne (a := (o9 / 2 ^ i9 % 2)) (b := 1) (tgt := 40) hx hb d_Ne_coverOthers_20 (by decide) (by omega) (by omega) (fun hc2 => ?_) (fun hc2 => ?_)
        · refine lv_iinc (v := nI (i9 + 1)) (lv' := [(5, .int (nI (i9 + 1))), (4, .int (nI m8)), (0, .ref h0), (1, .int (nI o9)), (2, .int (nI m9)), (3, .int (nI lv9))]) hx hb d_Ne_coverOthers_40 hl (k := 0) rfl (show nI i9 + Int32.ofInt 1 = nI (i9 + 1) from (nI_add i9 1).trans (congrArg nI (by omega))) (by decide) rfl (fun ls hl => ?_)
          refine lv_goto (tgt := 6) hx hb d_Ne_coverOthers_43 (by decide) ?_
          exact ih_lp (i9 + 1) m8 F8 co8 fl8 (by omega) (by omega) (by rw [pcK]; omega) (stp_eq hst rfl (by rw [pcK]; omega)) _ _ (S.subP [0, 1, 2] (by decide) rfl) ls (lv_sub hl [0, 1, 2, 3, 4, 5] rfl)
        · have hmx : m8 + 1 ≤ 40 := by have := pcK_mono o9 (18 - (i9 + 1)) (i9 + 1); rw [show i9 + 1 + (18 - (i9 + 1)) = 18 by omega, pcK] at this; omega
          refine lv_aload_n hx hb d_Ne_coverOthers_23 rfl (lv_at hl 2 rfl) ?_
          refine lv_iload hx hb d_Ne_coverOthers_24 (lv_at hl 1 rfl) ?_
          refine lv_aload_n hx hb d_Ne_coverOthers_26 rfl (lv_at hl 2 rfl) ?_
          refine lv_iload_n hx hb d_Ne_coverOthers_27 rfl (lv_at hl 5 rfl) ?_
          refine lv_iload hx hb d_Ne_coverOthers_28 (lv_at hl 0 rfl) ?_
          refine r_backrQ (wi := [(h0, .inr (7, [.ref ca, .ref nfo, .ref ncd, .ref nsp, .ref nno, .ref nsm, .ref nbr, .ref nbs, .ref nbd, .int (nI un9), .int (nI co8), .int (nI fl8)])), (nsm, .inl (k 5, 306, .inr (.inr (.inr (.inr (fun j => some (sm j)))))))]) (wr := [(ncd, .inl (k 5, 90, .inr (.inr (.inr (.inr (fun j => some (cd j)))))))]) S hA [0, 2] [1] rfl rfl (by decide) (by decide) (va_runV (As := [.int (nI lv9), .int (nI i9)]) (rest := [.int (nI m8), .ref h0]) ⟨hx, hb, C.2.2.1, C.2.2.2.1, C.2.2.2.2.1⟩ (g_Ne_sum l G k h0 _ lv9 i9 ca nfo ncd nsp nno nsm nbr nbs nbd un9 co8 fl8 sm (by first | assumption | omega)) (k_virt (n := 2) C wc_Ne_sum rfl rfl wz_Ne wm_Ne_83 wn_Ne_sum ws_Ne_sum (by decide +kernel) ⟨(Nat.le_of_ble_eq_true rfl), (Nat.le_of_ble_eq_true rfl)⟩) (pr_nowV K S [0, 2] (by decide) (ap_in rfl) 0 rfl rfl) rfl rfl hl.1 rfl (lv_room (Nat.le_of_ble_eq_true rfl)) d_Ne_coverOthers_30 ⟨(Nat.le_of_ble_eq_true rfl), (Nat.le_of_ble_eq_true rfl)⟩) (fun u3 H locs hw4 S => ?_)
          have S : Sw G A s.heap _ _ ([(ncd, .inl (k 5, 90, .inr (.inr (.inr (.inr (fun j => some (cd j))))))), (h0, .inr (7, [.ref ca, .ref nfo, .ref ncd, .ref nsp, .ref nno, .ref nsm, .ref nbr, .ref nbs, .ref nbd, .int (nI un9), .int (nI co8), .int (nI fl8)])), (nsm, .inl (k 5, 306, .inr (.inr (.inr (.inr (fun j => some (sm j)))))))] ++ va_pl LP (rwp k 41 F8)) := S
          refine r_backrP (wi := [(h0, .inr (7, [.ref ca, .ref nfo, .ref ncd, .ref nsp, .ref nno, .ref nsm, .ref nbr, .ref nbs, .ref nbd, .int (nI un9), .int (nI co8), .int (nI fl8)])), (ncd, .inl (k 5, 90, .inr (.inr (.inr (.inr (fun j => some (cd j)))))))]) (wr := [(nsm, .inl (k 5, 306, .inr (.inr (.inr (.inr (fun j => some (sm j)))))))]) S hA [1, 0] [2] rfl rfl (by decide) (by decide) (va_runV (As := [.int (nI m8), .ref (sm (18 * lv9 + i9))]) (rest := []) ⟨hx, hb, C.2.2.1, C.2.2.2.1, C.2.2.2.2.1⟩ (g_Ne_atLeast l G k h0 _ m8 (sm (18 * lv9 + i9)) ca nfo ncd nsp nno nsm nbr nbs nbd un9 co8 fl8 cd LP F8 (by omega) hst.2.1 (hLP.1 _ (by omega)) hLP.2.1 hLP.2.2.2.2.1) (k_virt (n := 2) C wc_Ne_atLeast rfl rfl wz_Ne wm_Ne_87 wn_Ne_atLeast ws_Ne_atLeast (by decide +kernel) ⟨(Nat.le_of_ble_eq_true rfl), (Nat.le_of_ble_eq_true rfl)⟩) (pr_nowVP K S [1, 0] (by decide) rfl 1 rfl rfl) rfl rfl hl.1 rfl (lv_room (Nat.le_of_ble_eq_true rfl)) d_Ne_coverOthers_33 ⟨(Nat.le_of_ble_eq_true rfl), (Nat.le_of_ble_eq_true rfl)⟩) (fun u5 H locs hw6 S => ?_)
          have S : Sw G A s.heap _ _ ([(nsm, .inl (k 5, 306, .inr (.inr (.inr (.inr (fun j => some (sm j))))))), (h0, .inr (7, [.ref ca, .ref nfo, .ref ncd, .ref nsp, .ref nno, .ref nsm, .ref nbr, .ref nbs, .ref nbd, .int (nI un9), .int (nI (caN co8)), .int (nI (flN co8 fl8))])), (ncd, .inl (k 5, 90, .inr (.inr (.inr (.inr (fun j => some (cd j)))))))] ++ va_pl LP (rwp k 41 u5.1)) := S
          refine lv_pop hx hb d_Ne_coverOthers_36 rfl ?_
          refine lv_iinc (v := nI (m8 + 1)) (lv' := [(4, .int (nI (m8 + 1))), (5, .int (nI i9)), (0, .ref h0), (1, .int (nI o9)), (2, .int (nI m9)), (3, .int (nI lv9))]) hx hb d_Ne_coverOthers_37 hl (k := 1) rfl (show nI m8 + Int32.ofInt 1 = nI (m8 + 1) from (nI_add m8 1).trans (congrArg nI (by omega))) (by decide) rfl (fun ls hl => ?_)
          refine lv_iinc (v := nI (i9 + 1)) (lv' := [(5, .int (nI (i9 + 1))), (4, .int (nI (m8 + 1))), (0, .ref h0), (1, .int (nI o9)), (2, .int (nI m9)), (3, .int (nI lv9))]) hx hb d_Ne_coverOthers_40 hl (k := 1) rfl (show nI i9 + Int32.ofInt 1 = nI (i9 + 1) from (nI_add i9 1).trans (congrArg nI (by omega))) (by decide) rfl (fun ls hl => ?_)
          refine lv_goto (tgt := 6) hx hb d_Ne_coverOthers_43 (by decide) ?_
          exact ih_lp (i9 + 1) (m8 + 1) u5.1 (caN co8) (flN co8 fl8) (by omega) (by omega) (by rw [pcK]; omega) (stp_eq (stp_tr hst (stp_al hst.1 hst.2.1 hst.2.2.1)) rfl (by rw [pcK]; omega)) _ _ (S.subP [1, 2, 0] (by decide) rfl) ls (lv_sub hl [0, 1, 2, 3, 4, 5] rfl)
  exact lp _ 0 m9 F co9 fl9 (Nat.lt_succ_self _) (by omega) rfl (stp_0 hun hco hfl) _ _ (S.subP [0, 1, 2] (by decide) rfl) ls (lv_sub hl [0, 1, 2, 3, 4, 5] rfl)
theorem d_Ne_needOthers_0 : decode c_Ne_needOthers 0 = .ok (.iload_n 2, 1) := by decide +kernel
theorem d_Ne_needOthers_1 : decode c_Ne_needOthers 1 = .ok (.istore 4, 2) := by decide +kernel
theorem d_Ne_needOthers_3 : decode c_Ne_needOthers 3 = .ok (.iconst 0, 1) := by decide +kernel
theorem d_Ne_needOthers_4 : decode c_Ne_needOthers 4 = .ok (.istore 5, 2) := by decide +kernel
theorem d_Ne_needOthers_6 : decode c_Ne_needOthers 6 = .ok (.iload 5, 2) := by decide +kernel
theorem d_Ne_needOthers_8 : decode c_Ne_needOthers 8 = .ok (.bipush 18, 2) := by decide +kernel
theorem d_Ne_needOthers_10 : decode c_Ne_needOthers 10 = .ok (.if_icmp .ge 36, 3) := by decide +kernel
theorem d_Ne_needOthers_13 : decode c_Ne_needOthers 13 = .ok (.iload_n 1, 1) := by decide +kernel
theorem d_Ne_needOthers_14 : decode c_Ne_needOthers 14 = .ok (.iload 5, 2) := by decide +kernel
theorem d_Ne_needOthers_16 : decode c_Ne_needOthers 16 = .ok (.ishr, 1) := by decide +kernel
theorem d_Ne_needOthers_17 : decode c_Ne_needOthers 17 = .ok (.iconst 1, 1) := by decide +kernel
theorem d_Ne_needOthers_18 : decode c_Ne_needOthers 18 = .ok (.iand, 1) := by decide +kernel
theorem d_Ne_needOthers_19 : decode c_Ne_needOthers 19 = .ok (.iconst 1, 1) := by decide +kernel
theorem d_Ne_needOthers_20 : decode c_Ne_needOthers 20 = .ok (.if_icmp .ne 20, 3) := by decide +kernel
theorem d_Ne_needOthers_23 : decode c_Ne_needOthers 23 = .ok (.aload_n 0, 1) := by decide +kernel
theorem d_Ne_needOthers_24 : decode c_Ne_needOthers 24 = .ok (.iload_n 3, 1) := by decide +kernel
theorem d_Ne_needOthers_25 : decode c_Ne_needOthers 25 = .ok (.iload 5, 2) := by decide +kernel
theorem d_Ne_needOthers_27 : decode c_Ne_needOthers 27 = .ok (.invokevirtual 83, 3) := by decide +kernel
theorem d_Ne_needOthers_30 : decode c_Ne_needOthers 30 = .ok (.iload 4, 2) := by decide +kernel
theorem d_Ne_needOthers_32 : decode c_Ne_needOthers 32 = .ok (.dup2, 1) := by decide +kernel
theorem d_Ne_needOthers_33 : decode c_Ne_needOthers 33 = .ok (.iaload, 1) := by decide +kernel
theorem d_Ne_needOthers_34 : decode c_Ne_needOthers 34 = .ok (.iconst 1, 1) := by decide +kernel
theorem d_Ne_needOthers_35 : decode c_Ne_needOthers 35 = .ok (.iadd, 1) := by decide +kernel
theorem d_Ne_needOthers_36 : decode c_Ne_needOthers 36 = .ok (.iastore, 1) := by decide +kernel
theorem d_Ne_needOthers_37 : decode c_Ne_needOthers 37 = .ok (.iinc 4 1, 3) := by decide +kernel
theorem d_Ne_needOthers_40 : decode c_Ne_needOthers 40 = .ok (.iinc 5 1, 3) := by decide +kernel
theorem d_Ne_needOthers_43 : decode c_Ne_needOthers 43 = .ok (.goto (-37), 3) := by decide +kernel
theorem d_Ne_needOthers_46 : decode c_Ne_needOthers 46 = .ok (.return_, 1) := by decide +kernel
set_option maxRecDepth 100000 in
set_option maxHeartbeats 16000000 in
/-- needOthers -/
theorem g_Ne_needOthers (l : Launch) (G : va_G) (k : Nat → ClassId) (h0 : Nat) (s0 : Nat) (o9 : Nat) (m9 : Nat) (lv9 : Nat) (ca : Nat) (nfo : Nat) (ncd : Nat) (nsp : Nat) (nno : Nat) (nsm : Nat) (nbr : Nat) (nbs : Nat) (nbd : Nat) (un9 : Nat) (co9 : Nat) (fl9 : Nat) (sm : Nat → Nat) (cd : Nat → Nat) (br : Nat → Nat) (bs : Nat → Nat) (LP : List Nat) (F : Nat → Nat → Int32) (hLP : lpO LP sm cd br bs nsp nno) (ho : o9 < 262144) (hmo : m9 + pcK o9 18 ≤ 40) (hlv : lv9 ≤ 16) (hun : un9 ≤ 40) (hco : co9 ≤ 90) (hfl : fl9 ≤ 1) : CV l y_Ne_needOthers c_Ne_needOthers 6 { frames := 1, cells := 0, slots := 0, locals := 22 } [.ref h0, .int (nI o9), .int (nI m9), .int (nI lv9)] G k s0 ([(h0, .inr (7, [.ref ca, .ref nfo, .ref ncd, .ref nsp, .ref nno, .ref nsm, .ref nbr, .ref nbs, .ref nbd, .int (nI un9), .int (nI co9), .int (nI fl9)])), (nsm, .inl (k 5, 306, .inr (.inr (.inr (.inr (fun j => some (sm j)))))))] ++ va_pl LP (rwp k 41 F)) (fun (u : Nat → Nat → Int32) => True) (fun u => ([(h0, .inr (7, [.ref ca, .ref nfo, .ref ncd, .ref nsp, .ref nno, .ref nsm, .ref nbr, .ref nbs, .ref nbd, .int (nI un9), .int (nI co9), .int (nI fl9)])), (nsm, .inl (k 5, 306, .inr (.inr (.inr (.inr (fun j => some (sm j)))))))] ++ va_pl LP (rwp k 41 u))) 0 0 := by
  refine met_start (by decide) (Nat.le_of_ble_eq_true rfl) ?_
  intro p e s m below meth c C K hA hsz S ls hl
  generalize va_A ([(h0, .inr (7, [.ref ca, .ref nfo, .ref ncd, .ref nsp, .ref nno, .ref nsm, .ref nbr, .ref nbs, .ref nbd, .int (nI un9), .int (nI co9), .int (nI fl9)])), (nsm, .inl (k 5, 306, .inr (.inr (.inr (.inr (fun j => some (sm j)))))))] ++ va_pl LP (rwp k 41 F)) s0 = A at hA S ⊢
  have hx := C.1
  have hb := C.2.1
  have hl : lv_has ls 6 [(0, .ref h0), (1, .int (nI o9)), (2, .int (nI m9)), (3, .int (nI lv9))] := hl
  refine lv_iload_n hx hb d_Ne_needOthers_0 rfl (lv_at hl 2 rfl) ?_
  refine lv_istore (lv' := [(4, .int (nI m9)), (0, .ref h0), (1, .int (nI o9)), (2, .int (nI m9)), (3, .int (nI lv9))]) hx hb d_Ne_needOthers_1 hl (by decide) rfl (fun ls hl => ?_)
  refine lv_iconst (v := 0) hx hb d_Ne_needOthers_3 (by decide) ?_
  refine lv_istore (lv' := [(5, .int 0), (4, .int (nI m9)), (0, .ref h0), (1, .int (nI o9)), (2, .int (nI m9)), (3, .int (nI lv9))]) hx hb d_Ne_needOthers_4 hl (by decide) rfl (fun ls hl => ?_)
  have lp : ∀ d9, ∀ (i9 : Nat), ∀ (m8 : Nat), ∀ (F8 : Nat → Nat → Int32), (18 - i9) < d9 → (i9 ≤ 18) → (m8 = m9 + pcK o9 i9) → ∀ (H : Heap) (locs : List Loc), Sw G A s.heap H locs ([(h0, .inr (7, [.ref ca, .ref nfo, .ref ncd, .ref nsp, .ref nno, .ref nsm, .ref nbr, .ref nbs, .ref nbd, .int (nI un9), .int (nI co9), .int (nI fl9)])), (nsm, .inl (k 5, 306, .inr (.inr (.inr (.inr (fun j => some (sm j)))))))] ++ va_pl LP (rwp k 41 F8)) → ∀ ls : Array Slot, lv_has ls 6 [(5, .int (nI i9)), (4, .int (nI m8)), (0, .ref h0), (1, .int (nI o9)), (2, .int (nI m9)), (3, .int (nI lv9))] → W p l e { frames := 1, cells := 0, slots := 0, locals := 22 } s m [Value.ref h0, Value.int (nI o9), Value.int (nI m9), Value.int (nI lv9)].toArray below meth c H locs 0 0 (MQ below (va_Qv (fun (u : Nat → Nat → Int32) => True) (Po G k A (fun u => ([(h0, .inr (7, [.ref ca, .ref nfo, .ref ncd, .ref nsp, .ref nno, .ref nsm, .ref nbr, .ref nbs, .ref nbd, .int (nI un9), .int (nI co9), .int (nI fl9)])), (nsm, .inl (k 5, 306, .inr (.inr (.inr (.inr (fun j => some (sm j)))))))] ++ va_pl LP (rwp k 41 u)))) A) [Value.ref h0, Value.int (nI o9), Value.int (nI m9), Value.int (nI lv9)].toArray s 0 0 A) (F0 m 6 ls []) := by
    intro d9
    induction d9 with
    | zero => intro i9 m8 F8 hm; exact absurd hm (Nat.not_lt_zero _)
    | succ d9 ih_lp =>
      intro i9 m8 F8 hm hi hm8 H locs S ls hl
      refine lv_iload hx hb d_Ne_needOthers_6 (lv_at hl 0 rfl) ?_
      refine lv_bipush (v := 18) hx hb d_Ne_needOthers_8 (by decide) ?_
      refine z_icmp_ge (a := i9) (b := 18) (tgt := 46) hx hb d_Ne_needOthers_10 (by decide) (by omega) (by omega) (fun hc1 => ?_) (fun hc1 => ?_)
      · exact r_vret C K F8 trivial (S.subP [0, 1] (by decide) rfl) d_Ne_needOthers_46 (Nat.le_of_ble_eq_true rfl) (Nat.le_of_ble_eq_true rfl)
      · refine lv_iload_n hx hb d_Ne_needOthers_13 rfl (lv_at hl 3 rfl) ?_
        refine lv_iload hx hb d_Ne_needOthers_14 (lv_at hl 0 rfl) ?_
        refine z_ishr (v := nI (o9 / 2 ^ i9)) hx hb d_Ne_needOthers_16 (sr_nn (by omega) (by omega)) ?_
        refine lv_iconst (v := 1) hx hb d_Ne_needOthers_17 (by decide) ?_
        refine z_iand (v := nI (o9 / 2 ^ i9 % 2)) hx hb d_Ne_needOthers_18 (show nI (o9 / 2 ^ i9) &&& 1 = nI (o9 / 2 ^ i9 % 2) from (bx_and _ 1).trans (congrArg nI (Nat.and_one_is_mod _))) ?_
        refine lv_iconst (v := 1) hx hb d_Ne_needOthers_19 (by decide) ?_
        refine z_icmp_ne (a := (o9 / 2 ^ i9 % 2)) (b := 1) (tgt := 40) hx hb d_Ne_needOthers_20 (by decide) (by omega) (by omega) (fun hc2 => ?_) (fun hc2 => ?_)
        · refine lv_iinc (v := nI (i9 + 1)) (lv' := [(5, .int (nI (i9 + 1))), (4, .int (nI m8)), (0, .ref h0), (1, .int (nI o9)), (2, .int (nI m9)), (3, .int (nI lv9))]) hx hb d_Ne_needOthers_40 hl (k := 0) rfl (show nI i9 + Int32.ofInt 1 = nI (i9 + 1) from (nI_add i9 1).trans (congrArg nI (by omega))) (by decide) rfl (fun ls hl => ?_)
          refine lv_goto (tgt := 6) hx hb d_Ne_needOthers_43 (by decide) ?_
          exact ih_lp (i9 + 1) m8 F8 (by omega) (by omega) (by rw [pcK]; omega) _ _ (S.subP [0, 1] (by decide) rfl) ls (lv_sub hl [0, 1, 2, 3, 4, 5] rfl)
        · have hmx : m8 + 1 ≤ 40 := by have := pcK_mono o9 (18 - (i9 + 1)) (i9 + 1); rw [show i9 + 1 + (18 - (i9 + 1)) = 18 by omega, pcK] at this; omega
          refine lv_aload_n hx hb d_Ne_needOthers_23 rfl (lv_at hl 2 rfl) ?_
          refine lv_iload_n hx hb d_Ne_needOthers_24 rfl (lv_at hl 5 rfl) ?_
          refine lv_iload hx hb d_Ne_needOthers_25 (lv_at hl 0 rfl) ?_
          refine r_backrQ (wi := [(h0, .inr (7, [.ref ca, .ref nfo, .ref ncd, .ref nsp, .ref nno, .ref nsm, .ref nbr, .ref nbs, .ref nbd, .int (nI un9), .int (nI co9), .int (nI fl9)])), (nsm, .inl (k 5, 306, .inr (.inr (.inr (.inr (fun j => some (sm j)))))))]) (wr := []) S hA [0, 1] [] rfl rfl (by decide) (by decide) (va_runV (As := [.int (nI lv9), .int (nI i9)]) (rest := []) ⟨hx, hb, C.2.2.1, C.2.2.2.1, C.2.2.2.2.1⟩ (g_Ne_sum l G k h0 _ lv9 i9 ca nfo ncd nsp nno nsm nbr nbs nbd un9 co9 fl9 sm (by first | assumption | omega)) (k_virt (n := 2) C wc_Ne_sum rfl rfl wz_Ne wm_Ne_83 wn_Ne_sum ws_Ne_sum (by decide +kernel) ⟨(Nat.le_of_ble_eq_true rfl), (Nat.le_of_ble_eq_true rfl)⟩) (pr_nowV K S [0, 1] (by decide) (ap_in rfl) 0 rfl rfl) rfl rfl hl.1 rfl (lv_room (Nat.le_of_ble_eq_true rfl)) d_Ne_needOthers_27 ⟨(Nat.le_of_ble_eq_true rfl), (Nat.le_of_ble_eq_true rfl)⟩) (fun u3 H locs hw4 S => ?_)
          have S : Sw G A s.heap _ _ ([(h0, .inr (7, [.ref ca, .ref nfo, .ref ncd, .ref nsp, .ref nno, .ref nsm, .ref nbr, .ref nbs, .ref nbd, .int (nI un9), .int (nI co9), .int (nI fl9)])), (nsm, .inl (k 5, 306, .inr (.inr (.inr (.inr (fun j => some (sm j)))))))] ++ va_pl LP (rwp k 41 F8)) := S
          refine lv_iload hx hb d_Ne_needOthers_30 (lv_at hl 1 rfl) ?_
          refine lv_dup2_11 hx hb d_Ne_needOthers_32 rfl rfl ?_
          refine p_iald C K S (hLP.1 _ (by omega)) (i := nI m8) (show vp_in (nI m8) _ from vp_in_nI (n := m8) (by omega) (by omega)) d_Ne_needOthers_33 (fun iv5 => ?_)
          refine lv_iconst (v := 1) hx hb d_Ne_needOthers_34 (by decide) ?_
          refine lv_iadd hx hb d_Ne_needOthers_35 ?_
          refine p_iast C K S (hLP.1 _ (by omega)) (i := nI m8) (x := iv5 + 1) (show vp_in (nI m8) _ from vp_in_nI (n := m8) (by omega) (by omega)) d_Ne_needOthers_36 (fun F6 H locs S => ?_)
          refine lv_iinc (v := nI (m8 + 1)) (lv' := [(4, .int (nI (m8 + 1))), (5, .int (nI i9)), (0, .ref h0), (1, .int (nI o9)), (2, .int (nI m9)), (3, .int (nI lv9))]) hx hb d_Ne_needOthers_37 hl (k := 1) rfl (show nI m8 + Int32.ofInt 1 = nI (m8 + 1) from (nI_add m8 1).trans (congrArg nI (by omega))) (by decide) rfl (fun ls hl => ?_)
          refine lv_iinc (v := nI (i9 + 1)) (lv' := [(5, .int (nI (i9 + 1))), (4, .int (nI (m8 + 1))), (0, .ref h0), (1, .int (nI o9)), (2, .int (nI m9)), (3, .int (nI lv9))]) hx hb d_Ne_needOthers_40 hl (k := 1) rfl (show nI i9 + Int32.ofInt 1 = nI (i9 + 1) from (nI_add i9 1).trans (congrArg nI (by omega))) (by decide) rfl (fun ls hl => ?_)
          refine lv_goto (tgt := 6) hx hb d_Ne_needOthers_43 (by decide) ?_
          exact ih_lp (i9 + 1) (m8 + 1) F6 (by omega) (by omega) (by rw [pcK]; omega) _ _ (S.subP [0, 1] (by decide) rfl) ls (lv_sub hl [0, 1, 2, 3, 4, 5] rfl)
  exact lp _ 0 m9 F (Nat.lt_succ_self _) (by omega) rfl _ _ (S.subP [0, 1] (by decide) rfl) ls (lv_sub hl [0, 1, 2, 3, 4, 5] rfl)
