theorem d_Wh_set_0 : decode c_Wh_set 0 = .ok (.aload_n 0, 1) := by decide +kernel
theorem d_Wh_set_1 : decode c_Wh_set 1 = .ok (.lload_n 1, 1) := by decide +kernel
theorem d_Wh_set_2 : decode c_Wh_set 2 = .ok (.lconst 0, 1) := by decide +kernel
theorem d_Wh_set_3 : decode c_Wh_set 3 = .ok (.invokestatic 13, 3) := by decide +kernel
theorem d_Wh_set_6 : decode c_Wh_set 6 = .ok (.putfield 19, 3) := by decide +kernel
theorem d_Wh_set_9 : decode c_Wh_set 9 = .ok (.lload_n 1, 1) := by decide +kernel
theorem d_Wh_set_10 : decode c_Wh_set 10 = .ok (.lconst 0, 1) := by decide +kernel
theorem d_Wh_set_11 : decode c_Wh_set 11 = .ok (.lcmp, 1) := by decide +kernel
theorem d_Wh_set_12 : decode c_Wh_set 12 = .ok (.ifCond .ge 8, 3) := by decide +kernel
theorem d_Wh_set_15 : decode c_Wh_set 15 = .ok (.lload_n 1, 1) := by decide +kernel
theorem d_Wh_set_16 : decode c_Wh_set 16 = .ok (.lneg, 1) := by decide +kernel
theorem d_Wh_set_17 : decode c_Wh_set 17 = .ok (.goto 4, 3) := by decide +kernel
theorem d_Wh_set_20 : decode c_Wh_set 20 = .ok (.lload_n 1, 1) := by decide +kernel
theorem d_Wh_set_21 : decode c_Wh_set 21 = .ok (.lstore_n 3, 1) := by decide +kernel
theorem d_Wh_set_22 : decode c_Wh_set 22 = .ok (.iconst 0, 1) := by decide +kernel
theorem d_Wh_set_23 : decode c_Wh_set 23 = .ok (.istore 5, 2) := by decide +kernel
theorem d_Wh_set_25 : decode c_Wh_set 25 = .ok (.iload 5, 2) := by decide +kernel
theorem d_Wh_set_27 : decode c_Wh_set 27 = .ok (.iconst 3, 1) := by decide +kernel
theorem d_Wh_set_28 : decode c_Wh_set 28 = .ok (.if_icmp .ge 27, 3) := by decide +kernel
theorem d_Wh_set_31 : decode c_Wh_set 31 = .ok (.aload_n 0, 1) := by decide +kernel
theorem d_Wh_set_32 : decode c_Wh_set 32 = .ok (.getfield 9, 3) := by decide +kernel
theorem d_Wh_set_35 : decode c_Wh_set 35 = .ok (.iload 5, 2) := by decide +kernel
theorem d_Wh_set_37 : decode c_Wh_set 37 = .ok (.lload_n 3, 1) := by decide +kernel
theorem d_Wh_set_38 : decode c_Wh_set 38 = .ok (.ldc2_w 23, 3) := by decide +kernel
theorem d_Wh_set_41 : decode c_Wh_set 41 = .ok (.land, 1) := by decide +kernel
theorem d_Wh_set_42 : decode c_Wh_set 42 = .ok (.l2i, 1) := by decide +kernel
theorem d_Wh_set_43 : decode c_Wh_set 43 = .ok (.iastore, 1) := by decide +kernel
theorem d_Wh_set_44 : decode c_Wh_set 44 = .ok (.lload_n 3, 1) := by decide +kernel
theorem d_Wh_set_45 : decode c_Wh_set 45 = .ok (.bipush 31, 2) := by decide +kernel
theorem d_Wh_set_47 : decode c_Wh_set 47 = .ok (.lushr, 1) := by decide +kernel
theorem d_Wh_set_48 : decode c_Wh_set 48 = .ok (.lstore_n 3, 1) := by decide +kernel
theorem d_Wh_set_49 : decode c_Wh_set 49 = .ok (.iinc 5 1, 3) := by decide +kernel
theorem d_Wh_set_52 : decode c_Wh_set 52 = .ok (.goto (-27), 3) := by decide +kernel
theorem d_Wh_set_55 : decode c_Wh_set 55 = .ok (.aload_n 0, 1) := by decide +kernel
theorem d_Wh_set_56 : decode c_Wh_set 56 = .ok (.iconst 3, 1) := by decide +kernel
theorem d_Wh_set_57 : decode c_Wh_set 57 = .ok (.invokevirtual 25, 3) := by decide +kernel
theorem d_Wh_set_60 : decode c_Wh_set 60 = .ok (.return_, 1) := by decide +kernel
set_option maxRecDepth 100000 in
set_option maxHeartbeats 16000000 in
/-- set -/
theorem g_Wh_set (l : Launch) (G : va_G) (k : Nat → ClassId) (h0 : Nat) (s0 sl : Nat) (v9 : Int) (dd : Nat) (LL : Nat) (xs9 : Int32) (ys9 : Int32) (gg : Nat → Nat) (hr : raO LL gg) (hz1 : -9223372036854775808 ≤ v9) (hz2 : v9 < 9223372036854775808) : CG l y_Wh_set c_Wh_set 6 none { frames := 1, cells := 0, slots := 0, locals := 23 } [.ref h0, .long (lZ v9)] G k s0 sl [(h0, .inr (2, [.ref dd, .int xs9, .int ys9])), (dd, .inl (k 0, LL, .inl (fun i => nI (gg i))))] (fun (u : Nat × (Nat → Nat)) => none) (fun (u : Nat × (Nat → Nat)) => whO LL u.1 u.2 v9) (fun (u : Nat × (Nat → Nat)) => [(h0, .inr (2, [.ref dd, .int (nI u.1), .int (sgI v9)])), (dd, .inl (k 0, LL, .inl (fun i => nI (u.2 i))))]) (fun (u : Nat × (Nat → Nat)) => 0) (fun (u : Nat × (Nat → Nat)) => 0) 0 0 := by
  refine met_startG (by decide) (Nat.le_of_ble_eq_true rfl) ?_
  intro p e s m below meth c C K hA hsz S ls hl
  generalize va_A [(h0, .inr (2, [.ref dd, .int xs9, .int ys9])), (dd, .inl (k 0, LL, .inl (fun i => nI (gg i))))] s0 = A at hA S ⊢
  have hx := C.1
  have hb := C.2.1
  have hl : lv_has ls 6 [(0, .ref h0), (1, .long (lZ v9))] := hl
  have hr0 := hr
  obtain ⟨r1, r2, r3⟩ := hr0
  refine lv_aload_n hx hb d_Wh_set_0 rfl (lv_at hl 0 rfl) ?_
  refine lv_lload_n hx hb d_Wh_set_1 rfl (lv_at hl 1 rfl) ?_
  refine lv_lconst (v := 0) hx hb d_Wh_set_2 (by decide) ?_
  refine q_back0 (wi := []) (wr := [(h0, .inr (2, [.ref dd, .int xs9, .int ys9])), (dd, .inl (k 0, LL, .inl (fun i => nI (gg i))))]) S hA [] [0, 1] rfl rfl (by decide) (by decide) (va_runS (As := [.long (lZ v9), .long 0]) (rest := [.ref h0]) ⟨hx, hb, C.2.2.1, C.2.2.2.1, C.2.2.2.2.1⟩ (g_JL_compare l G k _ _ (lZ v9) 0) (k_stat (n := 2) C wc_JL_compare rfl rfl wz_JL wm_Wh_13 wt_JL_compare (by decide +kernel) ⟨(Nat.le_of_ble_eq_true rfl), (Nat.le_of_ble_eq_true rfl)⟩) (pr_nowG K S [] (by decide) rfl) rfl rfl hl.1 rfl (lv_room (Nat.le_of_ble_eq_true rfl)) d_Wh_set_3 ⟨(Nat.zero_le _), (Nat.zero_le _)⟩) (fun u1 H locs hw2 S => ?_)
  have S : Sw G A s.heap _ _ [(h0, .inr (2, [.ref dd, .int xs9, .int ys9])), (dd, .inl (k 0, LL, .inl (fun i => nI (gg i))))] := S
  have hw2 : True := hw2
  show W p l e _ s m _ below meth c H locs _ _ _ (F0 m 6 ls [.int (lcI (lZ v9) 0), .ref h0])
  rw [lc_sg hz1 hz2]
  refine r_put C K S 0 rfl rfl clOk_Wh 2 (by decide) wf_Wh_19 rfl (ty := .int) (v := .int (sgI v9)) (by decide +kernel) rfl rfl (Nat.le_of_ble_eq_true rfl) (fs' := [.ref dd, .int xs9, .int (sgI v9)]) (ws' := [(h0, .inr (2, [.ref dd, .int xs9, .int (sgI v9)])), (dd, .inl (k 0, LL, .inl (fun i => nI (gg i))))]) rfl rfl d_Wh_set_6 (fun H locs S => ?_)
  refine lv_lload_n hx hb d_Wh_set_9 rfl (lv_at hl 1 rfl) ?_
  refine lv_lconst (v := 0) hx hb d_Wh_set_10 (by decide) ?_
  refine W.lcmp hx hb d_Wh_set_11 ?_
  refine lv_if_ge (tgt := 20) hx hb d_Wh_set_12 (by decide) (fun hc3 => ?_) (fun hc3 => ?_)
  · refine lv_lload_n hx hb d_Wh_set_20 rfl (lv_at hl 1 rfl) ?_
    refine z_topl (y := lN v9.natAbs) (lZ_nn ((lz_ge0 hz1 hz2).mp hc3)) ?_
    refine lv_lstore_n (lv' := [(3, .long (lN v9.natAbs)), (0, .ref h0), (1, .long (lZ v9))]) hx hb d_Wh_set_21 rfl hl (by decide) rfl (fun ls hl => ?_)
    refine lv_iconst (v := 0) hx hb d_Wh_set_22 (by decide) ?_
    refine lv_istore (lv' := [(5, .int 0), (3, .long (lN v9.natAbs)), (0, .ref h0), (1, .long (lZ v9))]) hx hb d_Wh_set_23 hl (by decide) rfl (fun ls hl => ?_)
    refine lv_iload hx hb d_Wh_set_25 (lv_at hl 0 rfl) ?_
    refine lv_iconst (v := 3) hx hb d_Wh_set_27 (by decide) ?_
    refine lv_icmp_ge (tgt := 55) hx hb d_Wh_set_28 (by decide) (fun hq => absurd hq (by decide)) (fun _ => ?_)
    refine lv_aload_n hx hb d_Wh_set_31 rfl (lv_at hl 2 rfl) ?_
    refine r_get C K S 0 rfl rfl clOk_Wh 0 (by decide) wf_Wh_9 (v := .ref dd) rfl d_Wh_set_32 ?_
    refine lv_iload hx hb d_Wh_set_35 (lv_at hl 0 rfl) ?_
    refine lv_lload_n hx hb d_Wh_set_37 rfl (lv_at hl 1 rfl) ?_
    refine lv_ldc2 (v := 2147483647) hx hb C.2.2.2.1 (C.2.2.2.2.1 _ wk_Wh_23) d_Wh_set_38 ?_
    refine z_land (v := lN (v9.natAbs % 2147483648)) hx hb d_Wh_set_41 (lN_and31 (a := v9.natAbs) (by omega)) ?_
    refine lv_l2i (v := nI (v9.natAbs % 2147483648)) hx hb d_Wh_set_42 (lN_i (v9.natAbs % 2147483648)) ?_
    refine r_iast C K S 1 rfl (i := 0) (x := nI (v9.natAbs % 2147483648)) (show vp_in (0) _ from vp_in_nI (n := 0) (by omega) (by omega)) (f' := fun i => nI (va_up gg 0 (v9.natAbs % 2147483648) i)) (ws' := [(h0, .inr (2, [.ref dd, .int xs9, .int (sgI v9)])), (dd, .inl (k 0, LL, .inl (fun i => nI (va_up gg 0 (v9.natAbs % 2147483648) i))))]) (show upd _ (0 : Int32).toNatClampNeg (nI (v9.natAbs % 2147483648)) = _ from upd_nI gg (j := 0) (by omega) (v9.natAbs % 2147483648)) rfl d_Wh_set_43 (fun H locs S => ?_)
    refine lv_lload_n hx hb d_Wh_set_44 rfl (lv_at hl 1 rfl) ?_
    refine lv_bipush (v := 31) hx hb d_Wh_set_45 (by decide) ?_
    refine lv_lushr (v := lN (v9.natAbs / 2147483648)) hx hb d_Wh_set_47 (lN_ushr31 (a := v9.natAbs) (by omega)) ?_
    refine lv_lstore_n (lv' := [(3, .long (lN (v9.natAbs / 2147483648))), (5, .int 0), (0, .ref h0), (1, .long (lZ v9))]) hx hb d_Wh_set_48 rfl hl (by decide) rfl (fun ls hl => ?_)
    refine lv_iinc (v := 1) (lv' := [(5, .int 1), (3, .long (lN (v9.natAbs / 2147483648))), (0, .ref h0), (1, .long (lZ v9))]) hx hb d_Wh_set_49 hl (k := 1) rfl (by decide) (by decide) rfl (fun ls hl => ?_)
    refine lv_goto (tgt := 25) hx hb d_Wh_set_52 (by decide) ?_
    refine lv_iload hx hb d_Wh_set_25 (lv_at hl 0 rfl) ?_
    refine lv_iconst (v := 3) hx hb d_Wh_set_27 (by decide) ?_
    refine lv_icmp_ge (tgt := 55) hx hb d_Wh_set_28 (by decide) (fun hq => absurd hq (by decide)) (fun _ => ?_)
    refine lv_aload_n hx hb d_Wh_set_31 rfl (lv_at hl 2 rfl) ?_
    refine r_get C K S 0 rfl rfl clOk_Wh 0 (by decide) wf_Wh_9 (v := .ref dd) rfl d_Wh_set_32 ?_
    refine lv_iload hx hb d_Wh_set_35 (lv_at hl 0 rfl) ?_
    refine lv_lload_n hx hb d_Wh_set_37 rfl (lv_at hl 1 rfl) ?_
    refine lv_ldc2 (v := 2147483647) hx hb C.2.2.2.1 (C.2.2.2.2.1 _ wk_Wh_23) d_Wh_set_38 ?_
    refine z_land (v := lN ((v9.natAbs / 2147483648) % 2147483648)) hx hb d_Wh_set_41 (lN_and31 (a := (v9.natAbs / 2147483648)) (by omega)) ?_
    refine lv_l2i (v := nI ((v9.natAbs / 2147483648) % 2147483648)) hx hb d_Wh_set_42 (lN_i ((v9.natAbs / 2147483648) % 2147483648)) ?_
    refine r_iast C K S 1 rfl (i := 1) (x := nI ((v9.natAbs / 2147483648) % 2147483648)) (show vp_in (1) _ from vp_in_nI (n := 1) (by omega) (by omega)) (f' := fun i => nI (va_up (va_up gg 0 (v9.natAbs % 2147483648)) 1 ((v9.natAbs / 2147483648) % 2147483648) i)) (ws' := [(h0, .inr (2, [.ref dd, .int xs9, .int (sgI v9)])), (dd, .inl (k 0, LL, .inl (fun i => nI (va_up (va_up gg 0 (v9.natAbs % 2147483648)) 1 ((v9.natAbs / 2147483648) % 2147483648) i))))]) (show upd _ (1 : Int32).toNatClampNeg (nI ((v9.natAbs / 2147483648) % 2147483648)) = _ from upd_nI (va_up gg 0 (v9.natAbs % 2147483648)) (j := 1) (by omega) ((v9.natAbs / 2147483648) % 2147483648)) rfl d_Wh_set_43 (fun H locs S => ?_)
    refine lv_lload_n hx hb d_Wh_set_44 rfl (lv_at hl 1 rfl) ?_
    refine lv_bipush (v := 31) hx hb d_Wh_set_45 (by decide) ?_
    refine lv_lushr (v := lN ((v9.natAbs / 2147483648) / 2147483648)) hx hb d_Wh_set_47 (lN_ushr31 (a := (v9.natAbs / 2147483648)) (by omega)) ?_
    refine lv_lstore_n (lv' := [(3, .long (lN ((v9.natAbs / 2147483648) / 2147483648))), (5, .int 1), (0, .ref h0), (1, .long (lZ v9))]) hx hb d_Wh_set_48 rfl hl (by decide) rfl (fun ls hl => ?_)
    refine lv_iinc (v := 2) (lv' := [(5, .int 2), (3, .long (lN ((v9.natAbs / 2147483648) / 2147483648))), (0, .ref h0), (1, .long (lZ v9))]) hx hb d_Wh_set_49 hl (k := 1) rfl (by decide) (by decide) rfl (fun ls hl => ?_)
    refine lv_goto (tgt := 25) hx hb d_Wh_set_52 (by decide) ?_
    refine lv_iload hx hb d_Wh_set_25 (lv_at hl 0 rfl) ?_
    refine lv_iconst (v := 3) hx hb d_Wh_set_27 (by decide) ?_
    refine lv_icmp_ge (tgt := 55) hx hb d_Wh_set_28 (by decide) (fun hq => absurd hq (by decide)) (fun _ => ?_)
    refine lv_aload_n hx hb d_Wh_set_31 rfl (lv_at hl 2 rfl) ?_
    refine r_get C K S 0 rfl rfl clOk_Wh 0 (by decide) wf_Wh_9 (v := .ref dd) rfl d_Wh_set_32 ?_
    refine lv_iload hx hb d_Wh_set_35 (lv_at hl 0 rfl) ?_
    refine lv_lload_n hx hb d_Wh_set_37 rfl (lv_at hl 1 rfl) ?_
    refine lv_ldc2 (v := 2147483647) hx hb C.2.2.2.1 (C.2.2.2.2.1 _ wk_Wh_23) d_Wh_set_38 ?_
    refine z_land (v := lN (((v9.natAbs / 2147483648) / 2147483648) % 2147483648)) hx hb d_Wh_set_41 (lN_and31 (a := ((v9.natAbs / 2147483648) / 2147483648)) (by omega)) ?_
    refine lv_l2i (v := nI (((v9.natAbs / 2147483648) / 2147483648) % 2147483648)) hx hb d_Wh_set_42 (lN_i (((v9.natAbs / 2147483648) / 2147483648) % 2147483648)) ?_
    refine r_iast C K S 1 rfl (i := 2) (x := nI (((v9.natAbs / 2147483648) / 2147483648) % 2147483648)) (show vp_in (2) _ from vp_in_nI (n := 2) (by omega) (by omega)) (f' := fun i => nI (va_up (va_up (va_up gg 0 (v9.natAbs % 2147483648)) 1 ((v9.natAbs / 2147483648) % 2147483648)) 2 (((v9.natAbs / 2147483648) / 2147483648) % 2147483648) i)) (ws' := [(h0, .inr (2, [.ref dd, .int xs9, .int (sgI v9)])), (dd, .inl (k 0, LL, .inl (fun i => nI (va_up (va_up (va_up gg 0 (v9.natAbs % 2147483648)) 1 ((v9.natAbs / 2147483648) % 2147483648)) 2 (((v9.natAbs / 2147483648) / 2147483648) % 2147483648) i))))]) (show upd _ (2 : Int32).toNatClampNeg (nI (((v9.natAbs / 2147483648) / 2147483648) % 2147483648)) = _ from upd_nI (va_up (va_up gg 0 (v9.natAbs % 2147483648)) 1 ((v9.natAbs / 2147483648) % 2147483648)) (j := 2) (by omega) (((v9.natAbs / 2147483648) / 2147483648) % 2147483648)) rfl d_Wh_set_43 (fun H locs S => ?_)
    refine lv_lload_n hx hb d_Wh_set_44 rfl (lv_at hl 1 rfl) ?_
    refine lv_bipush (v := 31) hx hb d_Wh_set_45 (by decide) ?_
    refine lv_lushr (v := lN (((v9.natAbs / 2147483648) / 2147483648) / 2147483648)) hx hb d_Wh_set_47 (lN_ushr31 (a := ((v9.natAbs / 2147483648) / 2147483648)) (by omega)) ?_
    refine lv_lstore_n (lv' := [(3, .long (lN (((v9.natAbs / 2147483648) / 2147483648) / 2147483648))), (5, .int 2), (0, .ref h0), (1, .long (lZ v9))]) hx hb d_Wh_set_48 rfl hl (by decide) rfl (fun ls hl => ?_)
    refine lv_iinc (v := 3) (lv' := [(5, .int 3), (3, .long (lN (((v9.natAbs / 2147483648) / 2147483648) / 2147483648))), (0, .ref h0), (1, .long (lZ v9))]) hx hb d_Wh_set_49 hl (k := 1) rfl (by decide) (by decide) rfl (fun ls hl => ?_)
    refine lv_goto (tgt := 25) hx hb d_Wh_set_52 (by decide) ?_
    refine lv_iload hx hb d_Wh_set_25 (lv_at hl 0 rfl) ?_
    refine lv_iconst (v := 3) hx hb d_Wh_set_27 (by decide) ?_
    refine lv_icmp_ge (tgt := 55) hx hb d_Wh_set_28 (by decide) (fun _ => ?_) (fun hq => absurd (by decide) hq)
    refine lv_aload_n hx hb d_Wh_set_55 rfl (lv_at hl 2 rfl) ?_
    refine lv_iconst (v := 3) hx hb d_Wh_set_56 (by decide) ?_
    have hg9 : ∀ i, (va_up (va_up (va_up gg 0 (v9.natAbs % 2147483648)) 1 ((v9.natAbs / 2147483648) % 2147483648)) 2 (((v9.natAbs / 2147483648) / 2147483648) % 2147483648)) i < 2147483648 := up31 (up31 (up31 r3 (by omega)) (by omega)) (by omega)
    refine q_back0 (wi := [(h0, .inr (2, [.ref dd, .int xs9, .int (sgI v9)])), (dd, .inl (k 0, LL, .inl (fun i => nI (va_up (va_up (va_up gg 0 (v9.natAbs % 2147483648)) 1 ((v9.natAbs / 2147483648) % 2147483648)) 2 (((v9.natAbs / 2147483648) / 2147483648) % 2147483648) i))))]) (wr := []) S hA [0, 1] [] rfl rfl (by decide) (by decide) (va_runV (As := [.int 3]) (rest := []) ⟨hx, hb, C.2.2.1, C.2.2.2.1, C.2.2.2.2.1⟩ (g_Wh_trim l G k h0 _ _ 3 dd LL xs9 (sgI v9) (va_up (va_up (va_up gg 0 (v9.natAbs % 2147483648)) 1 ((v9.natAbs / 2147483648) % 2147483648)) 2 (((v9.natAbs / 2147483648) / 2147483648) % 2147483648)) ⟨r1, r2, hg9⟩ (by omega)) (k_virt (n := 1) C wc_Wh_trim rfl rfl wz_Wh wm_Wh_25 wn_Wh_trim ws_Wh_trim (by decide +kernel) ⟨(Nat.le_of_ble_eq_true rfl), (Nat.le_of_ble_eq_true rfl)⟩) (pr_nowVG K S [0, 1] (by decide) rfl 0 rfl rfl) rfl rfl hl.1 rfl (lv_room (Nat.le_of_ble_eq_true rfl)) d_Wh_set_57 ⟨(Nat.zero_le _), (Nat.zero_le _)⟩) (fun u4 H locs hw5 S => ?_)
    have S : Sw G A s.heap _ _ [(h0, .inr (2, [.ref dd, .int (nI u4), .int (if u4 = 0 then 0 else (sgI v9))])), (dd, .inl (k 0, LL, .inl (fun i => nI (va_up (va_up (va_up gg 0 (v9.natAbs % 2147483648)) 1 ((v9.natAbs / 2147483648) % 2147483648)) 2 (((v9.natAbs / 2147483648) / 2147483648) % 2147483648) i))))] := S
    have hw5 : u4 ≤ 3 ∧ (u4 = 0 ∨ (va_up (va_up (va_up gg 0 (v9.natAbs % 2147483648)) 1 ((v9.natAbs / 2147483648) % 2147483648)) 2 (((v9.natAbs / 2147483648) / 2147483648) % 2147483648)) (u4 - 1) ≠ 0) ∧ vl 2147483648 (va_up (va_up (va_up gg 0 (v9.natAbs % 2147483648)) 1 ((v9.natAbs / 2147483648) % 2147483648)) 2 (((v9.natAbs / 2147483648) / 2147483648) % 2147483648)) u4 = vl 2147483648 (va_up (va_up (va_up gg 0 (v9.natAbs % 2147483648)) 1 ((v9.natAbs / 2147483648) % 2147483648)) 2 (((v9.natAbs / 2147483648) / 2147483648) % 2147483648)) 3 := hw5
    show W p l e _ s m _ below meth c H locs _ _ _ (F0 m 60 ls [])
    obtain ⟨t1, t2, t3⟩ := hw5
    rw [set_val (by omega)] at t3
    have S : Sw G A s.heap H locs [(h0, .inr (2, [.ref dd, .int (nI u4), .int (sgI v9)])), (dd, .inl (k 0, LL, .inl (fun i => nI (va_up (va_up (va_up gg 0 (v9.natAbs % 2147483648)) 1 ((v9.natAbs / 2147483648) % 2147483648)) 2 (((v9.natAbs / 2147483648) / 2147483648) % 2147483648) i))))] := by rw [← sg_cut (n := u4) (z := v9) (by intro q9; have := t3; rw [q9] at this; have : (0 : Nat) = v9.natAbs := this; omega)]; exact S
    exact q_vret C K hsz (u4, va_up (va_up (va_up gg 0 (v9.natAbs % 2147483648)) 1 ((v9.natAbs / 2147483648) % 2147483648)) 2 (((v9.natAbs / 2147483648) / 2147483648) % 2147483648)) (show whO LL u4 (va_up (va_up (va_up gg 0 (v9.natAbs % 2147483648)) 1 ((v9.natAbs / 2147483648) % 2147483648)) 2 (((v9.natAbs / 2147483648) / 2147483648) % 2147483648)) v9 from ⟨by show u4 ≤ LL; omega, r1, r2, by assumption, t2, t3⟩) (S.sub [0, 1] (by decide) rfl) d_Wh_set_60 (Nat.zero_le _) (Nat.zero_le _) (Nat.zero_le _) (Nat.zero_le _)
  · refine lv_lload_n hx hb d_Wh_set_15 rfl (lv_at hl 1 rfl) ?_
    refine z_lneg (v := lN v9.natAbs) hx hb d_Wh_set_16 (lZ_neg_n (by have := mt (lz_ge0 hz1 hz2).mpr hc3; omega)) ?_
    refine lv_goto (tgt := 21) hx hb d_Wh_set_17 (by decide) ?_
    refine lv_lstore_n (lv' := [(3, .long (lN v9.natAbs)), (0, .ref h0), (1, .long (lZ v9))]) hx hb d_Wh_set_21 rfl hl (by decide) rfl (fun ls hl => ?_)
    refine lv_iconst (v := 0) hx hb d_Wh_set_22 (by decide) ?_
    refine lv_istore (lv' := [(5, .int 0), (3, .long (lN v9.natAbs)), (0, .ref h0), (1, .long (lZ v9))]) hx hb d_Wh_set_23 hl (by decide) rfl (fun ls hl => ?_)
    refine lv_iload hx hb d_Wh_set_25 (lv_at hl 0 rfl) ?_
    refine lv_iconst (v := 3) hx hb d_Wh_set_27 (by decide) ?_
    refine lv_icmp_ge (tgt := 55) hx hb d_Wh_set_28 (by decide) (fun hq => absurd hq (by decide)) (fun _ => ?_)
    refine lv_aload_n hx hb d_Wh_set_31 rfl (lv_at hl 2 rfl) ?_
    refine r_get C K S 0 rfl rfl clOk_Wh 0 (by decide) wf_Wh_9 (v := .ref dd) rfl d_Wh_set_32 ?_
    refine lv_iload hx hb d_Wh_set_35 (lv_at hl 0 rfl) ?_
    refine lv_lload_n hx hb d_Wh_set_37 rfl (lv_at hl 1 rfl) ?_
    refine lv_ldc2 (v := 2147483647) hx hb C.2.2.2.1 (C.2.2.2.2.1 _ wk_Wh_23) d_Wh_set_38 ?_
    refine z_land (v := lN (v9.natAbs % 2147483648)) hx hb d_Wh_set_41 (lN_and31 (a := v9.natAbs) (by omega)) ?_
    refine lv_l2i (v := nI (v9.natAbs % 2147483648)) hx hb d_Wh_set_42 (lN_i (v9.natAbs % 2147483648)) ?_
    refine r_iast C K S 1 rfl (i := 0) (x := nI (v9.natAbs % 2147483648)) (show vp_in (0) _ from vp_in_nI (n := 0) (by omega) (by omega)) (f' := fun i => nI (va_up gg 0 (v9.natAbs % 2147483648) i)) (ws' := [(h0, .inr (2, [.ref dd, .int xs9, .int (sgI v9)])), (dd, .inl (k 0, LL, .inl (fun i => nI (va_up gg 0 (v9.natAbs % 2147483648) i))))]) (show upd _ (0 : Int32).toNatClampNeg (nI (v9.natAbs % 2147483648)) = _ from upd_nI gg (j := 0) (by omega) (v9.natAbs % 2147483648)) rfl d_Wh_set_43 (fun H locs S => ?_)
    refine lv_lload_n hx hb d_Wh_set_44 rfl (lv_at hl 1 rfl) ?_
    refine lv_bipush (v := 31) hx hb d_Wh_set_45 (by decide) ?_
    refine lv_lushr (v := lN (v9.natAbs / 2147483648)) hx hb d_Wh_set_47 (lN_ushr31 (a := v9.natAbs) (by omega)) ?_
    refine lv_lstore_n (lv' := [(3, .long (lN (v9.natAbs / 2147483648))), (5, .int 0), (0, .ref h0), (1, .long (lZ v9))]) hx hb d_Wh_set_48 rfl hl (by decide) rfl (fun ls hl => ?_)
    refine lv_iinc (v := 1) (lv' := [(5, .int 1), (3, .long (lN (v9.natAbs / 2147483648))), (0, .ref h0), (1, .long (lZ v9))]) hx hb d_Wh_set_49 hl (k := 1) rfl (by decide) (by decide) rfl (fun ls hl => ?_)
    refine lv_goto (tgt := 25) hx hb d_Wh_set_52 (by decide) ?_
    refine lv_iload hx hb d_Wh_set_25 (lv_at hl 0 rfl) ?_
    refine lv_iconst (v := 3) hx hb d_Wh_set_27 (by decide) ?_
    refine lv_icmp_ge (tgt := 55) hx hb d_Wh_set_28 (by decide) (fun hq => absurd hq (by decide)) (fun _ => ?_)
    refine lv_aload_n hx hb d_Wh_set_31 rfl (lv_at hl 2 rfl) ?_
    refine r_get C K S 0 rfl rfl clOk_Wh 0 (by decide) wf_Wh_9 (v := .ref dd) rfl d_Wh_set_32 ?_
    refine lv_iload hx hb d_Wh_set_35 (lv_at hl 0 rfl) ?_
    refine lv_lload_n hx hb d_Wh_set_37 rfl (lv_at hl 1 rfl) ?_
    refine lv_ldc2 (v := 2147483647) hx hb C.2.2.2.1 (C.2.2.2.2.1 _ wk_Wh_23) d_Wh_set_38 ?_
    refine z_land (v := lN ((v9.natAbs / 2147483648) % 2147483648)) hx hb d_Wh_set_41 (lN_and31 (a := (v9.natAbs / 2147483648)) (by omega)) ?_
    refine lv_l2i (v := nI ((v9.natAbs / 2147483648) % 2147483648)) hx hb d_Wh_set_42 (lN_i ((v9.natAbs / 2147483648) % 2147483648)) ?_
    refine r_iast C K S 1 rfl (i := 1) (x := nI ((v9.natAbs / 2147483648) % 2147483648)) (show vp_in (1) _ from vp_in_nI (n := 1) (by omega) (by omega)) (f' := fun i => nI (va_up (va_up gg 0 (v9.natAbs % 2147483648)) 1 ((v9.natAbs / 2147483648) % 2147483648) i)) (ws' := [(h0, .inr (2, [.ref dd, .int xs9, .int (sgI v9)])), (dd, .inl (k 0, LL, .inl (fun i => nI (va_up (va_up gg 0 (v9.natAbs % 2147483648)) 1 ((v9.natAbs / 2147483648) % 2147483648) i))))]) (show upd _ (1 : Int32).toNatClampNeg (nI ((v9.natAbs / 2147483648) % 2147483648)) = _ from upd_nI (va_up gg 0 (v9.natAbs % 2147483648)) (j := 1) (by omega) ((v9.natAbs / 2147483648) % 2147483648)) rfl d_Wh_set_43 (fun H locs S => ?_)
    refine lv_lload_n hx hb d_Wh_set_44 rfl (lv_at hl 1 rfl) ?_
    refine lv_bipush (v := 31) hx hb d_Wh_set_45 (by decide) ?_
    refine lv_lushr (v := lN ((v9.natAbs / 2147483648) / 2147483648)) hx hb d_Wh_set_47 (lN_ushr31 (a := (v9.natAbs / 2147483648)) (by omega)) ?_
    refine lv_lstore_n (lv' := [(3, .long (lN ((v9.natAbs / 2147483648) / 2147483648))), (5, .int 1), (0, .ref h0), (1, .long (lZ v9))]) hx hb d_Wh_set_48 rfl hl (by decide) rfl (fun ls hl => ?_)
    refine lv_iinc (v := 2) (lv' := [(5, .int 2), (3, .long (lN ((v9.natAbs / 2147483648) / 2147483648))), (0, .ref h0), (1, .long (lZ v9))]) hx hb d_Wh_set_49 hl (k := 1) rfl (by decide) (by decide) rfl (fun ls hl => ?_)
    refine lv_goto (tgt := 25) hx hb d_Wh_set_52 (by decide) ?_
    refine lv_iload hx hb d_Wh_set_25 (lv_at hl 0 rfl) ?_
    refine lv_iconst (v := 3) hx hb d_Wh_set_27 (by decide) ?_
    refine lv_icmp_ge (tgt := 55) hx hb d_Wh_set_28 (by decide) (fun hq => absurd hq (by decide)) (fun _ => ?_)
    refine lv_aload_n hx hb d_Wh_set_31 rfl (lv_at hl 2 rfl) ?_
    refine r_get C K S 0 rfl rfl clOk_Wh 0 (by decide) wf_Wh_9 (v := .ref dd) rfl d_Wh_set_32 ?_
    refine lv_iload hx hb d_Wh_set_35 (lv_at hl 0 rfl) ?_
    refine lv_lload_n hx hb d_Wh_set_37 rfl (lv_at hl 1 rfl) ?_
    refine lv_ldc2 (v := 2147483647) hx hb C.2.2.2.1 (C.2.2.2.2.1 _ wk_Wh_23) d_Wh_set_38 ?_
    refine z_land (v := lN (((v9.natAbs / 2147483648) / 2147483648) % 2147483648)) hx hb d_Wh_set_41 (lN_and31 (a := ((v9.natAbs / 2147483648) / 2147483648)) (by omega)) ?_
    refine lv_l2i (v := nI (((v9.natAbs / 2147483648) / 2147483648) % 2147483648)) hx hb d_Wh_set_42 (lN_i (((v9.natAbs / 2147483648) / 2147483648) % 2147483648)) ?_
    refine r_iast C K S 1 rfl (i := 2) (x := nI (((v9.natAbs / 2147483648) / 2147483648) % 2147483648)) (show vp_in (2) _ from vp_in_nI (n := 2) (by omega) (by omega)) (f' := fun i => nI (va_up (va_up (va_up gg 0 (v9.natAbs % 2147483648)) 1 ((v9.natAbs / 2147483648) % 2147483648)) 2 (((v9.natAbs / 2147483648) / 2147483648) % 2147483648) i)) (ws' := [(h0, .inr (2, [.ref dd, .int xs9, .int (sgI v9)])), (dd, .inl (k 0, LL, .inl (fun i => nI (va_up (va_up (va_up gg 0 (v9.natAbs % 2147483648)) 1 ((v9.natAbs / 2147483648) % 2147483648)) 2 (((v9.natAbs / 2147483648) / 2147483648) % 2147483648) i))))]) (show upd _ (2 : Int32).toNatClampNeg (nI (((v9.natAbs / 2147483648) / 2147483648) % 2147483648)) = _ from upd_nI (va_up (va_up gg 0 (v9.natAbs % 2147483648)) 1 ((v9.natAbs / 2147483648) % 2147483648)) (j := 2) (by omega) (((v9.natAbs / 2147483648) / 2147483648) % 2147483648)) rfl d_Wh_set_43 (fun H locs S => ?_)
    refine lv_lload_n hx hb d_Wh_set_44 rfl (lv_at hl 1 rfl) ?_
    refine lv_bipush (v := 31) hx hb d_Wh_set_45 (by decide) ?_
    refine lv_lushr (v := lN (((v9.natAbs / 2147483648) / 2147483648) / 2147483648)) hx hb d_Wh_set_47 (lN_ushr31 (a := ((v9.natAbs / 2147483648) / 2147483648)) (by omega)) ?_
    refine lv_lstore_n (lv' := [(3, .long (lN (((v9.natAbs / 2147483648) / 2147483648) / 2147483648))), (5, .int 2), (0, .ref h0), (1, .long (lZ v9))]) hx hb d_Wh_set_48 rfl hl (by decide) rfl (fun ls hl => ?_)
    refine lv_iinc (v := 3) (lv' := [(5, .int 3), (3, .long (lN (((v9.natAbs / 2147483648) / 2147483648) / 2147483648))), (0, .ref h0), (1, .long (lZ v9))]) hx hb d_Wh_set_49 hl (k := 1) rfl (by decide) (by decide) rfl (fun ls hl => ?_)
    refine lv_goto (tgt := 25) hx hb d_Wh_set_52 (by decide) ?_
    refine lv_iload hx hb d_Wh_set_25 (lv_at hl 0 rfl) ?_
    refine lv_iconst (v := 3) hx hb d_Wh_set_27 (by decide) ?_
    refine lv_icmp_ge (tgt := 55) hx hb d_Wh_set_28 (by decide) (fun _ => ?_) (fun hq => absurd (by decide) hq)
    refine lv_aload_n hx hb d_Wh_set_55 rfl (lv_at hl 2 rfl) ?_
    refine lv_iconst (v := 3) hx hb d_Wh_set_56 (by decide) ?_
    have hg9 : ∀ i, (va_up (va_up (va_up gg 0 (v9.natAbs % 2147483648)) 1 ((v9.natAbs / 2147483648) % 2147483648)) 2 (((v9.natAbs / 2147483648) / 2147483648) % 2147483648)) i < 2147483648 := up31 (up31 (up31 r3 (by omega)) (by omega)) (by omega)
    refine q_back0 (wi := [(h0, .inr (2, [.ref dd, .int xs9, .int (sgI v9)])), (dd, .inl (k 0, LL, .inl (fun i => nI (va_up (va_up (va_up gg 0 (v9.natAbs % 2147483648)) 1 ((v9.natAbs / 2147483648) % 2147483648)) 2 (((v9.natAbs / 2147483648) / 2147483648) % 2147483648) i))))]) (wr := []) S hA [0, 1] [] rfl rfl (by decide) (by decide) (va_runV (As := [.int 3]) (rest := []) ⟨hx, hb, C.2.2.1, C.2.2.2.1, C.2.2.2.2.1⟩ (g_Wh_trim l G k h0 _ _ 3 dd LL xs9 (sgI v9) (va_up (va_up (va_up gg 0 (v9.natAbs % 2147483648)) 1 ((v9.natAbs / 2147483648) % 2147483648)) 2 (((v9.natAbs / 2147483648) / 2147483648) % 2147483648)) ⟨r1, r2, hg9⟩ (by omega)) (k_virt (n := 1) C wc_Wh_trim rfl rfl wz_Wh wm_Wh_25 wn_Wh_trim ws_Wh_trim (by decide +kernel) ⟨(Nat.le_of_ble_eq_true rfl), (Nat.le_of_ble_eq_true rfl)⟩) (pr_nowVG K S [0, 1] (by decide) rfl 0 rfl rfl) rfl rfl hl.1 rfl (lv_room (Nat.le_of_ble_eq_true rfl)) d_Wh_set_57 ⟨(Nat.zero_le _), (Nat.zero_le _)⟩) (fun u6 H locs hw7 S => ?_)
    have S : Sw G A s.heap _ _ [(h0, .inr (2, [.ref dd, .int (nI u6), .int (if u6 = 0 then 0 else (sgI v9))])), (dd, .inl (k 0, LL, .inl (fun i => nI (va_up (va_up (va_up gg 0 (v9.natAbs % 2147483648)) 1 ((v9.natAbs / 2147483648) % 2147483648)) 2 (((v9.natAbs / 2147483648) / 2147483648) % 2147483648) i))))] := S
    have hw7 : u6 ≤ 3 ∧ (u6 = 0 ∨ (va_up (va_up (va_up gg 0 (v9.natAbs % 2147483648)) 1 ((v9.natAbs / 2147483648) % 2147483648)) 2 (((v9.natAbs / 2147483648) / 2147483648) % 2147483648)) (u6 - 1) ≠ 0) ∧ vl 2147483648 (va_up (va_up (va_up gg 0 (v9.natAbs % 2147483648)) 1 ((v9.natAbs / 2147483648) % 2147483648)) 2 (((v9.natAbs / 2147483648) / 2147483648) % 2147483648)) u6 = vl 2147483648 (va_up (va_up (va_up gg 0 (v9.natAbs % 2147483648)) 1 ((v9.natAbs / 2147483648) % 2147483648)) 2 (((v9.natAbs / 2147483648) / 2147483648) % 2147483648)) 3 := hw7
    show W p l e _ s m _ below meth c H locs _ _ _ (F0 m 60 ls [])
    obtain ⟨t1, t2, t3⟩ := hw7
    rw [set_val (by omega)] at t3
    have S : Sw G A s.heap H locs [(h0, .inr (2, [.ref dd, .int (nI u6), .int (sgI v9)])), (dd, .inl (k 0, LL, .inl (fun i => nI (va_up (va_up (va_up gg 0 (v9.natAbs % 2147483648)) 1 ((v9.natAbs / 2147483648) % 2147483648)) 2 (((v9.natAbs / 2147483648) / 2147483648) % 2147483648) i))))] := by rw [← sg_cut (n := u6) (z := v9) (by intro q9; have := t3; rw [q9] at this; have : (0 : Nat) = v9.natAbs := this; omega)]; exact S
    exact q_vret C K hsz (u6, va_up (va_up (va_up gg 0 (v9.natAbs % 2147483648)) 1 ((v9.natAbs / 2147483648) % 2147483648)) 2 (((v9.natAbs / 2147483648) / 2147483648) % 2147483648)) (show whO LL u6 (va_up (va_up (va_up gg 0 (v9.natAbs % 2147483648)) 1 ((v9.natAbs / 2147483648) % 2147483648)) 2 (((v9.natAbs / 2147483648) / 2147483648) % 2147483648)) v9 from ⟨by show u6 ≤ LL; omega, r1, r2, by assumption, t2, t3⟩) (S.sub [0, 1] (by decide) rfl) d_Wh_set_60 (Nat.zero_le _) (Nat.zero_le _) (Nat.zero_le _) (Nat.zero_le _)
theorem cpy_ok {L L2 n : Nat} {g g2 : Nat → Nat} {z : Int} (h : whO L n g z) (hn : n ≤ L2) (h2 : raO L2 g2) : whO L2 n (fun i => if i < n then g i else g2 i) z := by
  obtain ⟨v1, v2, v3, v4, v5, v6⟩ := h
  refine ⟨hn, h2.1, h2.2.1, fun i => ?_, ?_, ?_⟩
  · show (if i < n then g i else g2 i) < 2147483648
    split
    · exact v4 i
    · exact h2.2.2 i
  · by_cases q : n = 0
    · exact Or.inl q
    · refine Or.inr ?_
      show (if n - 1 < n then g (n - 1) else g2 (n - 1)) ≠ 0
      rw [if_pos (by omega)]
      omega
  · rw [← v6]
    exact vl_congr n (fun i hi => if_pos hi)
theorem d_Wh_copy_0 : decode c_Wh_copy 0 = .ok (.aload_n 0, 1) := by decide +kernel
theorem d_Wh_copy_1 : decode c_Wh_copy 1 = .ok (.aload_n 1, 1) := by decide +kernel
theorem d_Wh_copy_2 : decode c_Wh_copy 2 = .ok (.getfield 29, 3) := by decide +kernel
theorem d_Wh_copy_5 : decode c_Wh_copy 5 = .ok (.invokevirtual 32, 3) := by decide +kernel
theorem d_Wh_copy_8 : decode c_Wh_copy 8 = .ok (.aload_n 1, 1) := by decide +kernel
theorem d_Wh_copy_9 : decode c_Wh_copy 9 = .ok (.getfield 9, 3) := by decide +kernel
theorem d_Wh_copy_12 : decode c_Wh_copy 12 = .ok (.iconst 0, 1) := by decide +kernel
theorem d_Wh_copy_13 : decode c_Wh_copy 13 = .ok (.aload_n 0, 1) := by decide +kernel
theorem d_Wh_copy_14 : decode c_Wh_copy 14 = .ok (.getfield 9, 3) := by decide +kernel
theorem d_Wh_copy_17 : decode c_Wh_copy 17 = .ok (.iconst 0, 1) := by decide +kernel
theorem d_Wh_copy_18 : decode c_Wh_copy 18 = .ok (.aload_n 1, 1) := by decide +kernel
theorem d_Wh_copy_19 : decode c_Wh_copy 19 = .ok (.getfield 29, 3) := by decide +kernel
theorem d_Wh_copy_22 : decode c_Wh_copy 22 = .ok (.invokestatic 35, 3) := by decide +kernel
theorem d_Wh_copy_25 : decode c_Wh_copy 25 = .ok (.aload_n 0, 1) := by decide +kernel
theorem d_Wh_copy_26 : decode c_Wh_copy 26 = .ok (.aload_n 1, 1) := by decide +kernel
theorem d_Wh_copy_27 : decode c_Wh_copy 27 = .ok (.getfield 29, 3) := by decide +kernel
theorem d_Wh_copy_30 : decode c_Wh_copy 30 = .ok (.putfield 29, 3) := by decide +kernel
theorem d_Wh_copy_33 : decode c_Wh_copy 33 = .ok (.aload_n 0, 1) := by decide +kernel
theorem d_Wh_copy_34 : decode c_Wh_copy 34 = .ok (.aload_n 1, 1) := by decide +kernel
theorem d_Wh_copy_35 : decode c_Wh_copy 35 = .ok (.getfield 19, 3) := by decide +kernel
theorem d_Wh_copy_38 : decode c_Wh_copy 38 = .ok (.putfield 19, 3) := by decide +kernel
theorem d_Wh_copy_41 : decode c_Wh_copy 41 = .ok (.return_, 1) := by decide +kernel
set_option maxRecDepth 100000 in
set_option maxHeartbeats 16000000 in
/-- copy -/
theorem g_Wh_copy (l : Launch) (G : va_G) (k : Nat → ClassId) (h0 : Nat) (s0 sl : Nat) (Mx : Nat) (dd : Nat) (LL : Nat) (xs9 : Int32) (ys9 : Int32) (gg : Nat → Nat) (ho : Nat) (do9 : Nat) (Lo : Nat) (no9 : Nat) (go : Nat → Nat) (zo : Int) (hr : raO LL gg) (hv : whO Lo no9 go zo) (hm1 : 2 * no9 ≤ Mx) (hm2 : LL ≤ Mx) (hm3 : Mx ≤ 400) : CG l y_Wh_copy c_Wh_copy 2 none { frames := 3, cells := Mx, slots := 2 * Mx, locals := 104 } [.ref h0, .ref ho] G k s0 sl [(h0, .inr (2, [.ref dd, .int xs9, .int ys9])), (dd, .inl (k 0, LL, .inl (fun i => nI (gg i)))), (ho, .inr (2, [.ref do9, .int (nI no9), .int (sgI zo)])), (do9, .inl (k 0, Lo, .inl (fun i => nI (go i))))] (fun (u : Nat × Nat × (Nat → Nat)) => none) (fun (u : Nat × Nat × (Nat → Nat)) => whO u.2.1 no9 u.2.2 zo ∧ LL ≤ u.2.1 ∧ u.2.1 ≤ Mx) (fun (u : Nat × Nat × (Nat → Nat)) => [(h0, .inr (2, [.ref u.1, .int (nI no9), .int (sgI zo)])), (u.1, .inl (k 0, u.2.1, .inl (fun i => nI (u.2.2 i)))), (ho, .inr (2, [.ref do9, .int (nI no9), .int (sgI zo)])), (do9, .inl (k 0, Lo, .inl (fun i => nI (go i))))]) (fun (u : Nat × Nat × (Nat → Nat)) => u.2.1 - LL) (fun (u : Nat × Nat × (Nat → Nat)) => 2 * (u.2.1 - LL)) Mx (2 * Mx) := by
  refine met_startG (by decide) (Nat.le_of_ble_eq_true rfl) ?_
  intro p e s m below meth c C K hA hsz S ls hl
  generalize va_A [(h0, .inr (2, [.ref dd, .int xs9, .int ys9])), (dd, .inl (k 0, LL, .inl (fun i => nI (gg i)))), (ho, .inr (2, [.ref do9, .int (nI no9), .int (sgI zo)])), (do9, .inl (k 0, Lo, .inl (fun i => nI (go i))))] s0 = A at hA S ⊢
  have hx := C.1
  have hb := C.2.1
  have hl : lv_has ls 2 [(0, .ref h0), (1, .ref ho)] := hl
  have hr0 := hr
  obtain ⟨r1, r2, r3⟩ := hr0
  have hv0 := hv
  obtain ⟨v1, v2, v3, v4, v5, v6⟩ := hv0
  refine lv_aload_n hx hb d_Wh_copy_0 rfl (lv_at hl 0 rfl) ?_
  refine lv_aload_n hx hb d_Wh_copy_1 rfl (lv_at hl 1 rfl) ?_
  refine r_get C K S 2 rfl rfl clOk_Wh 1 (by decide) wf_Wh_29 (v := .int (nI no9)) rfl d_Wh_copy_2 ?_
  refine q_back0 (wi := [(h0, .inr (2, [.ref dd, .int xs9, .int ys9])), (dd, .inl (k 0, LL, .inl (fun i => nI (gg i))))]) (wr := [(ho, .inr (2, [.ref do9, .int (nI no9), .int (sgI zo)])), (do9, .inl (k 0, Lo, .inl (fun i => nI (go i))))]) S hA [0, 1] [2, 3] rfl rfl (by decide) (by decide) (va_runV (As := [.int (nI no9)]) (rest := []) ⟨hx, hb, C.2.2.1, C.2.2.2.1, C.2.2.2.2.1⟩ (g_Wh_room l G k h0 _ _ no9 Mx dd LL xs9 ys9 gg (by first | exact hr | exact wh_ra hw) (by first | assumption | omega) (by first | assumption | omega) (by first | assumption | omega)) (k_virt (n := 1) C wc_Wh_room rfl rfl wz_Wh wm_Wh_32 wn_Wh_room ws_Wh_room (by decide +kernel) ⟨(Nat.le_of_ble_eq_true rfl), (Nat.le_of_ble_eq_true rfl)⟩) (pr_nowVG K S [0, 1] (by decide) rfl 0 rfl rfl) rfl rfl hl.1 rfl (lv_room (Nat.le_of_ble_eq_true rfl)) d_Wh_copy_5 ⟨(show 0 + Mx ≤ Mx from by omega), (show 0 + (2 * Mx) ≤ 2 * Mx from by omega)⟩) (fun w8 H locs hw1 S => ?_)
  have S : Sw G A s.heap _ _ [(ho, .inr (2, [.ref do9, .int (nI no9), .int (sgI zo)])), (do9, .inl (k 0, Lo, .inl (fun i => nI (go i)))), (h0, .inr (2, [.ref w8.1, .int xs9, .int ys9])), (w8.1, .inl (k 0, w8.2.1, .inl (fun i => nI (w8.2.2 i))))] := S
  have hw1 : raO w8.2.1 w8.2.2 ∧ LL ≤ w8.2.1 ∧ no9 ≤ w8.2.1 ∧ w8.2.1 ≤ Mx ∧ ∀ i, i < LL → w8.2.2 i = gg i := hw1
  show W p l e _ s m _ below meth c H locs _ _ _ (F0 m 8 ls [])
  obtain ⟨⟨s1, s2, s3⟩, s4, s5, s6, s7⟩ := hw1
  refine lv_aload_n hx hb d_Wh_copy_8 rfl (lv_at hl 1 rfl) ?_
  refine r_get C K S 0 rfl rfl clOk_Wh 0 (by decide) wf_Wh_9 (v := .ref do9) rfl d_Wh_copy_9 ?_
  refine lv_iconst (v := 0) hx hb d_Wh_copy_12 (by decide) ?_
  refine lv_aload_n hx hb d_Wh_copy_13 rfl (lv_at hl 0 rfl) ?_
  refine r_get C K S 2 rfl rfl clOk_Wh 0 (by decide) wf_Wh_9 (v := .ref w8.1) rfl d_Wh_copy_14 ?_
  refine lv_iconst (v := 0) hx hb d_Wh_copy_17 (by decide) ?_
  refine lv_aload_n hx hb d_Wh_copy_18 rfl (lv_at hl 1 rfl) ?_
  refine r_get C K S 0 rfl rfl clOk_Wh 1 (by decide) wf_Wh_29 (v := .int (nI no9)) rfl d_Wh_copy_19 ?_
  refine r_copyI C K S hl.1 wm_Wh_35 wa_native wa_static wz_JS 1 3 rfl rfl (w := nI no9) (nn_nlt (by omega)) (by rw [nI_clamp (by omega)]; omega) (by rw [nI_clamp (by omega)]; omega) (Nat.le_of_ble_eq_true rfl) (Nat.le_of_ble_eq_true rfl) d_Wh_copy_22 (g' := fun i => nI ((fun i => if i < no9 then go i else w8.2.2 i) i)) (ws' := [(ho, .inr (2, [.ref do9, .int (nI no9), .int (sgI zo)])), (do9, .inl (k 0, Lo, .inl (fun i => nI (go i)))), (h0, .inr (2, [.ref w8.1, .int xs9, .int ys9])), (w8.1, .inl (k 0, w8.2.1, .inl (fun i => nI ((fun i => if i < no9 then go i else w8.2.2 i) i))))]) (fun i hi => by rw [nI_clamp (by omega)]; by_cases q9 : i < no9 <;> simp [q9]) rfl (fun H locs S => ?_)
  refine lv_aload_n hx hb d_Wh_copy_25 rfl (lv_at hl 0 rfl) ?_
  refine lv_aload_n hx hb d_Wh_copy_26 rfl (lv_at hl 1 rfl) ?_
  refine r_get C K S 0 rfl rfl clOk_Wh 1 (by decide) wf_Wh_29 (v := .int (nI no9)) rfl d_Wh_copy_27 ?_
  refine r_put C K S 2 rfl rfl clOk_Wh 1 (by decide) wf_Wh_29 rfl (ty := .int) (v := .int (nI no9)) (by decide +kernel) rfl rfl (Nat.le_of_ble_eq_true rfl) (fs' := [.ref w8.1, .int (nI no9), .int ys9]) (ws' := [(ho, .inr (2, [.ref do9, .int (nI no9), .int (sgI zo)])), (do9, .inl (k 0, Lo, .inl (fun i => nI (go i)))), (h0, .inr (2, [.ref w8.1, .int (nI no9), .int ys9])), (w8.1, .inl (k 0, w8.2.1, .inl (fun i => nI ((fun i => if i < no9 then go i else w8.2.2 i) i))))]) rfl rfl d_Wh_copy_30 (fun H locs S => ?_)
  refine lv_aload_n hx hb d_Wh_copy_33 rfl (lv_at hl 0 rfl) ?_
  refine lv_aload_n hx hb d_Wh_copy_34 rfl (lv_at hl 1 rfl) ?_
  refine r_get C K S 0 rfl rfl clOk_Wh 2 (by decide) wf_Wh_19 (v := .int (sgI zo)) rfl d_Wh_copy_35 ?_
  refine r_put C K S 2 rfl rfl clOk_Wh 2 (by decide) wf_Wh_19 rfl (ty := .int) (v := .int (sgI zo)) (by decide +kernel) rfl rfl (Nat.le_of_ble_eq_true rfl) (fs' := [.ref w8.1, .int (nI no9), .int (sgI zo)]) (ws' := [(ho, .inr (2, [.ref do9, .int (nI no9), .int (sgI zo)])), (do9, .inl (k 0, Lo, .inl (fun i => nI (go i)))), (h0, .inr (2, [.ref w8.1, .int (nI no9), .int (sgI zo)])), (w8.1, .inl (k 0, w8.2.1, .inl (fun i => nI ((fun i => if i < no9 then go i else w8.2.2 i) i))))]) rfl rfl d_Wh_copy_38 (fun H locs S => ?_)
  exact q_vret C K hsz (w8.1, w8.2.1, (fun i => if i < no9 then go i else w8.2.2 i)) (show whO w8.2.1 no9 (fun i => if i < no9 then go i else w8.2.2 i) zo ∧ LL ≤ w8.2.1 ∧ w8.2.1 ≤ Mx from ⟨cpy_ok hv s5 ⟨s1, s2, s3⟩, s4, s6⟩) (S.sub [2, 3, 0, 1] (by decide) rfl) d_Wh_copy_41 (show 0 + (w8.2.1 - LL) ≤ w8.2.1 - LL from by omega) (show 0 + (2 * (w8.2.1 - LL)) ≤ 2 * (w8.2.1 - LL) from by omega) (show 0 + (w8.2.1 - LL) ≤ Mx from by omega) (show 0 + (2 * (w8.2.1 - LL)) ≤ 2 * Mx from by omega)
theorem d_Wh_compareAmount_0 : decode c_Wh_compareAmount 0 = .ok (.aload_n 0, 1) := by decide +kernel
theorem d_Wh_compareAmount_1 : decode c_Wh_compareAmount 1 = .ok (.getfield 29, 3) := by decide +kernel
theorem d_Wh_compareAmount_4 : decode c_Wh_compareAmount 4 = .ok (.aload_n 1, 1) := by decide +kernel
theorem d_Wh_compareAmount_5 : decode c_Wh_compareAmount 5 = .ok (.getfield 29, 3) := by decide +kernel
theorem d_Wh_compareAmount_8 : decode c_Wh_compareAmount 8 = .ok (.if_icmp .eq 15, 3) := by decide +kernel
theorem d_Wh_compareAmount_11 : decode c_Wh_compareAmount 11 = .ok (.aload_n 0, 1) := by decide +kernel
theorem d_Wh_compareAmount_12 : decode c_Wh_compareAmount 12 = .ok (.getfield 29, 3) := by decide +kernel
theorem d_Wh_compareAmount_15 : decode c_Wh_compareAmount 15 = .ok (.aload_n 1, 1) := by decide +kernel
theorem d_Wh_compareAmount_16 : decode c_Wh_compareAmount 16 = .ok (.getfield 29, 3) := by decide +kernel
theorem d_Wh_compareAmount_19 : decode c_Wh_compareAmount 19 = .ok (.invokestatic 41, 3) := by decide +kernel
theorem d_Wh_compareAmount_22 : decode c_Wh_compareAmount 22 = .ok (.ireturn, 1) := by decide +kernel
theorem d_Wh_compareAmount_23 : decode c_Wh_compareAmount 23 = .ok (.aload_n 0, 1) := by decide +kernel
theorem d_Wh_compareAmount_24 : decode c_Wh_compareAmount 24 = .ok (.getfield 29, 3) := by decide +kernel
theorem d_Wh_compareAmount_27 : decode c_Wh_compareAmount 27 = .ok (.iconst 1, 1) := by decide +kernel
theorem d_Wh_compareAmount_28 : decode c_Wh_compareAmount 28 = .ok (.isub, 1) := by decide +kernel
theorem d_Wh_compareAmount_29 : decode c_Wh_compareAmount 29 = .ok (.istore_n 2, 1) := by decide +kernel
theorem d_Wh_compareAmount_30 : decode c_Wh_compareAmount 30 = .ok (.iload_n 2, 1) := by decide +kernel
theorem d_Wh_compareAmount_31 : decode c_Wh_compareAmount 31 = .ok (.ifCond .lt 40, 3) := by decide +kernel
theorem d_Wh_compareAmount_34 : decode c_Wh_compareAmount 34 = .ok (.aload_n 0, 1) := by decide +kernel
theorem d_Wh_compareAmount_35 : decode c_Wh_compareAmount 35 = .ok (.getfield 9, 3) := by decide +kernel
theorem d_Wh_compareAmount_38 : decode c_Wh_compareAmount 38 = .ok (.iload_n 2, 1) := by decide +kernel
theorem d_Wh_compareAmount_39 : decode c_Wh_compareAmount 39 = .ok (.iaload, 1) := by decide +kernel
theorem d_Wh_compareAmount_40 : decode c_Wh_compareAmount 40 = .ok (.aload_n 1, 1) := by decide +kernel
theorem d_Wh_compareAmount_41 : decode c_Wh_compareAmount 41 = .ok (.getfield 9, 3) := by decide +kernel
theorem d_Wh_compareAmount_44 : decode c_Wh_compareAmount 44 = .ok (.iload_n 2, 1) := by decide +kernel
theorem d_Wh_compareAmount_45 : decode c_Wh_compareAmount 45 = .ok (.iaload, 1) := by decide +kernel
theorem d_Wh_compareAmount_46 : decode c_Wh_compareAmount 46 = .ok (.if_icmp .eq 19, 3) := by decide +kernel
theorem d_Wh_compareAmount_49 : decode c_Wh_compareAmount 49 = .ok (.aload_n 0, 1) := by decide +kernel
theorem d_Wh_compareAmount_50 : decode c_Wh_compareAmount 50 = .ok (.getfield 9, 3) := by decide +kernel
theorem d_Wh_compareAmount_53 : decode c_Wh_compareAmount 53 = .ok (.iload_n 2, 1) := by decide +kernel
theorem d_Wh_compareAmount_54 : decode c_Wh_compareAmount 54 = .ok (.iaload, 1) := by decide +kernel
theorem d_Wh_compareAmount_55 : decode c_Wh_compareAmount 55 = .ok (.aload_n 1, 1) := by decide +kernel
theorem d_Wh_compareAmount_56 : decode c_Wh_compareAmount 56 = .ok (.getfield 9, 3) := by decide +kernel
theorem d_Wh_compareAmount_59 : decode c_Wh_compareAmount 59 = .ok (.iload_n 2, 1) := by decide +kernel
theorem d_Wh_compareAmount_60 : decode c_Wh_compareAmount 60 = .ok (.iaload, 1) := by decide +kernel
theorem d_Wh_compareAmount_61 : decode c_Wh_compareAmount 61 = .ok (.invokestatic 41, 3) := by decide +kernel
theorem d_Wh_compareAmount_64 : decode c_Wh_compareAmount 64 = .ok (.ireturn, 1) := by decide +kernel
theorem d_Wh_compareAmount_65 : decode c_Wh_compareAmount 65 = .ok (.iinc 2 (-1), 3) := by decide +kernel
theorem d_Wh_compareAmount_68 : decode c_Wh_compareAmount 68 = .ok (.goto (-38), 3) := by decide +kernel
theorem d_Wh_compareAmount_71 : decode c_Wh_compareAmount 71 = .ok (.iconst 0, 1) := by decide +kernel
theorem d_Wh_compareAmount_72 : decode c_Wh_compareAmount 72 = .ok (.ireturn, 1) := by decide +kernel
set_option maxRecDepth 100000 in
set_option maxHeartbeats 16000000 in
/-- compareAmount -/
theorem g_Wh_compareAmount (l : Launch) (G : va_G) (k : Nat → ClassId) (h0 : Nat) (s0 sl : Nat) (dd : Nat) (LL : Nat) (nn9 : Nat) (gg : Nat → Nat) (zz : Int) (ho : Nat) (do9 : Nat) (Lo : Nat) (no9 : Nat) (go : Nat → Nat) (zo : Int) (hw : whO LL nn9 gg zz) (hv : whO Lo no9 go zo) : CG l y_Wh_compareAmount c_Wh_compareAmount 3 (some .int) { frames := 1, cells := 0, slots := 0, locals := 21 } [.ref h0, .ref ho] G k s0 sl [(h0, .inr (2, [.ref dd, .int (nI nn9), .int (sgI zz)])), (dd, .inl (k 0, LL, .inl (fun i => nI (gg i)))), (ho, .inr (2, [.ref do9, .int (nI no9), .int (sgI zo)])), (do9, .inl (k 0, Lo, .inl (fun i => nI (go i))))] (fun (u : Unit) => some (.int (cpN zz.natAbs zo.natAbs))) (fun (u : Unit) => True) (fun (u : Unit) => [(h0, .inr (2, [.ref dd, .int (nI nn9), .int (sgI zz)])), (dd, .inl (k 0, LL, .inl (fun i => nI (gg i)))), (ho, .inr (2, [.ref do9, .int (nI no9), .int (sgI zo)])), (do9, .inl (k 0, Lo, .inl (fun i => nI (go i))))]) (fun (u : Unit) => 0) (fun (u : Unit) => 0) 0 0 := by
  refine met_startG (by decide) (Nat.le_of_ble_eq_true rfl) ?_
  intro p e s m below meth c C K hA hsz S ls hl
  generalize va_A [(h0, .inr (2, [.ref dd, .int (nI nn9), .int (sgI zz)])), (dd, .inl (k 0, LL, .inl (fun i => nI (gg i)))), (ho, .inr (2, [.ref do9, .int (nI no9), .int (sgI zo)])), (do9, .inl (k 0, Lo, .inl (fun i => nI (go i))))] s0 = A at hA S ⊢
  have hx := C.1
  have hb := C.2.1
  have hl : lv_has ls 3 [(0, .ref h0), (1, .ref ho)] := hl
  have hw0 := hw
  obtain ⟨w1, w2, w3, w4, w5, w6⟩ := hw0
  have hv0 := hv
  obtain ⟨v1, v2, v3, v4, v5, v6⟩ := hv0
  refine lv_aload_n hx hb d_Wh_compareAmount_0 rfl (lv_at hl 0 rfl) ?_
  refine r_get C K S 0 rfl rfl clOk_Wh 1 (by decide) wf_Wh_29 (v := .int (nI nn9)) rfl d_Wh_compareAmount_1 ?_
  refine lv_aload_n hx hb d_Wh_compareAmount_4 rfl (lv_at hl 1 rfl) ?_
  refine r_get C K S 2 rfl rfl clOk_Wh 1 (by decide) wf_Wh_29 (v := .int (nI no9)) rfl d_Wh_compareAmount_5 ?_
  refine z_icmp_eq (a := nn9) (b := no9) (tgt := 23) hx hb d_Wh_compareAmount_8 (by decide) (by omega) (by omega) (fun hc1 => ?_) (fun hc1 => ?_)
  · refine lv_aload_n hx hb d_Wh_compareAmount_23 rfl (lv_at hl 0 rfl) ?_
    refine r_get C K S 0 rfl rfl clOk_Wh 1 (by decide) wf_Wh_29 (v := .int (nI nn9)) rfl d_Wh_compareAmount_24 ?_
    refine lv_iconst (v := 1) hx hb d_Wh_compareAmount_27 (by decide) ?_
    refine z_isub (v := pm nn9) hx hb d_Wh_compareAmount_28 (pm_of nn9) ?_
    refine lv_istore_n (lv' := [(2, .int (pm nn9)), (0, .ref h0), (1, .ref ho)]) hx hb d_Wh_compareAmount_29 rfl hl (by decide) rfl (fun ls hl => ?_)
    have hq9 : nn9 = no9 := by omega
    have hv2 : whO Lo nn9 go zo := by rw [hq9]; exact hv
    have lp : ∀ (t9 : Nat), (t9 ≤ nn9) → (∀ i, t9 ≤ i → i < nn9 → gg i = go i) → ∀ (H : Heap) (locs : List Loc), Sw G A s.heap H locs [(h0, .inr (2, [.ref dd, .int (nI nn9), .int (sgI zz)])), (dd, .inl (k 0, LL, .inl (fun i => nI (gg i)))), (ho, .inr (2, [.ref do9, .int (nI no9), .int (sgI zo)])), (do9, .inl (k 0, Lo, .inl (fun i => nI (go i))))] → ∀ ls : Array Slot, lv_has ls 3 [(2, .int (pm t9)), (0, .ref h0), (1, .ref ho)] → W p l e { frames := 1, cells := 0, slots := 0, locals := 21 } s m [Value.ref h0, Value.ref ho].toArray below meth c H locs 0 0 (MQ below (va_Qg (fun (u : Unit) => some (.int (cpN zz.natAbs zo.natAbs))) (fun (u : Unit) => True) (Pog G k A (fun (u : Unit) => [(h0, .inr (2, [.ref dd, .int (nI nn9), .int (sgI zz)])), (dd, .inl (k 0, LL, .inl (fun i => nI (gg i)))), (ho, .inr (2, [.ref do9, .int (nI no9), .int (sgI zo)])), (do9, .inl (k 0, Lo, .inl (fun i => nI (go i))))]) s0 sl (fun (u : Unit) => 0) (fun (u : Unit) => 0)) A) [Value.ref h0, Value.ref ho].toArray s 0 0 A) (F0 m 30 ls []) := by
      intro t9
      induction t9 with
      | zero =>
        intro ht he H locs S ls hl
        have hl : lv_has ls 3 [(2, .int (-1)), (0, .ref h0), (1, .ref ho)] := hl
        refine lv_iload_n hx hb d_Wh_compareAmount_30 rfl (lv_at hl 0 rfl) ?_
        refine lv_if_lt (tgt := 71) hx hb d_Wh_compareAmount_31 (by decide) (fun _ => ?_) (fun hq => absurd (by decide) hq)
        refine lv_iconst (v := 0) hx hb d_Wh_compareAmount_71 (by decide) ?_
        exact q_iret C K hsz rfl () (by rw [← ca_all hw hv2 (fun i q => he i (by omega) q)]) trivial (S.sub [0, 1, 2, 3] (by decide) rfl) d_Wh_compareAmount_72 (Nat.zero_le _) (Nat.zero_le _) (Nat.zero_le _) (Nat.zero_le _)
      | succ y9 ih_lp =>
        intro ht he H locs S ls hl
        have hl : lv_has ls 3 [(2, .int (nI y9)), (0, .ref h0), (1, .ref ho)] := hl
        have b1 := w4 y9
        have b2 := v4 y9
        refine lv_iload_n hx hb d_Wh_compareAmount_30 rfl (lv_at hl 0 rfl) ?_
        refine z_if_lt (a := y9) (tgt := 71) hx hb d_Wh_compareAmount_31 (by decide) (by omega) ?_
        refine lv_aload_n hx hb d_Wh_compareAmount_34 rfl (lv_at hl 1 rfl) ?_
        refine r_get C K S 0 rfl rfl clOk_Wh 0 (by decide) wf_Wh_9 (v := .ref dd) rfl d_Wh_compareAmount_35 ?_
        refine lv_iload_n hx hb d_Wh_compareAmount_38 rfl (lv_at hl 0 rfl) ?_
        refine r_iald C K S 1 rfl (i := nI y9) (show vp_in (nI y9) _ from vp_in_nI (n := y9) (by omega) (by omega)) (v := nI (gg y9)) (by rw [nI_clamp (by omega)]) d_Wh_compareAmount_39 ?_
        refine lv_aload_n hx hb d_Wh_compareAmount_40 rfl (lv_at hl 2 rfl) ?_
        refine r_get C K S 2 rfl rfl clOk_Wh 0 (by decide) wf_Wh_9 (v := .ref do9) rfl d_Wh_compareAmount_41 ?_
        refine lv_iload_n hx hb d_Wh_compareAmount_44 rfl (lv_at hl 0 rfl) ?_
        refine r_iald C K S 3 rfl (i := nI y9) (show vp_in (nI y9) _ from vp_in_nI (n := y9) (by omega) (by omega)) (v := nI (go y9)) (by rw [nI_clamp (by omega)]) d_Wh_compareAmount_45 ?_
        refine z_icmp_eq (a := (gg y9)) (b := (go y9)) (tgt := 65) hx hb d_Wh_compareAmount_46 (by decide) (by omega) (by omega) (fun hc2 => ?_) (fun hc2 => ?_)
        · refine lv_iinc (v := pm y9) (lv' := [(2, .int (pm y9)), (0, .ref h0), (1, .ref ho)]) hx hb d_Wh_compareAmount_65 hl (k := 0) rfl (pm_dn y9) (by decide) rfl (fun ls hl => ?_)
          refine lv_goto (tgt := 30) hx hb d_Wh_compareAmount_68 (by decide) ?_
          exact ih_lp (by omega) (fun i q1 q2 => (Decidable.em (i = y9)).elim (fun q3 => by rw [q3]; omega) (fun q3 => he i (by omega) q2)) _ _ (S.sub [0, 1, 2, 3] (by decide) rfl) ls (lv_sub hl [0, 1, 2] rfl)
        · refine lv_aload_n hx hb d_Wh_compareAmount_49 rfl (lv_at hl 1 rfl) ?_
          refine r_get C K S 0 rfl rfl clOk_Wh 0 (by decide) wf_Wh_9 (v := .ref dd) rfl d_Wh_compareAmount_50 ?_
          refine lv_iload_n hx hb d_Wh_compareAmount_53 rfl (lv_at hl 0 rfl) ?_
          refine r_iald C K S 1 rfl (i := nI y9) (show vp_in (nI y9) _ from vp_in_nI (n := y9) (by omega) (by omega)) (v := nI (gg y9)) (by rw [nI_clamp (by omega)]) d_Wh_compareAmount_54 ?_
          refine lv_aload_n hx hb d_Wh_compareAmount_55 rfl (lv_at hl 2 rfl) ?_
          refine r_get C K S 2 rfl rfl clOk_Wh 0 (by decide) wf_Wh_9 (v := .ref do9) rfl d_Wh_compareAmount_56 ?_
          refine lv_iload_n hx hb d_Wh_compareAmount_59 rfl (lv_at hl 0 rfl) ?_
          refine r_iald C K S 3 rfl (i := nI y9) (show vp_in (nI y9) _ from vp_in_nI (n := y9) (by omega) (by omega)) (v := nI (go y9)) (by rw [nI_clamp (by omega)]) d_Wh_compareAmount_60 ?_
          refine q_back0 (wi := []) (wr := [(h0, .inr (2, [.ref dd, .int (nI nn9), .int (sgI zz)])), (dd, .inl (k 0, LL, .inl (fun i => nI (gg i)))), (ho, .inr (2, [.ref do9, .int (nI no9), .int (sgI zo)])), (do9, .inl (k 0, Lo, .inl (fun i => nI (go i))))]) S hA [] [0, 1, 2, 3] rfl rfl (by decide) (by decide) (va_runS (As := [.int (nI (gg y9)), .int (nI (go y9))]) (rest := []) ⟨hx, hb, C.2.2.1, C.2.2.2.1, C.2.2.2.2.1⟩ (g_JI_compare l G k _ _ (nI (gg y9)) (nI (go y9))) (k_stat (n := 2) C wc_JI_compare rfl rfl wz_JI wm_Wh_41 wt_JI_compare (by decide +kernel) ⟨(Nat.le_of_ble_eq_true rfl), (Nat.le_of_ble_eq_true rfl)⟩) (pr_nowG K S [] (by decide) rfl) rfl rfl hl.1 rfl (lv_room (Nat.le_of_ble_eq_true rfl)) d_Wh_compareAmount_61 ⟨(Nat.zero_le _), (Nat.zero_le _)⟩) (fun u3 H locs hw4 S => ?_)
          have S : Sw G A s.heap _ _ [(h0, .inr (2, [.ref dd, .int (nI nn9), .int (sgI zz)])), (dd, .inl (k 0, LL, .inl (fun i => nI (gg i)))), (ho, .inr (2, [.ref do9, .int (nI no9), .int (sgI zo)])), (do9, .inl (k 0, Lo, .inl (fun i => nI (go i))))] := S
          have hw4 : True := hw4
          show W p l e _ s m _ below meth c H locs _ _ _ (F0 m 64 ls [.int (icI (nI (gg y9)) (nI (go y9)))])
          exact q_iret C K hsz rfl () (by rw [ca_dig hw hv2 (j := y9) (by omega) (fun i q1 q2 => he i (by omega) q2) (by omega)]) trivial (S.sub [0, 1, 2, 3] (by decide) rfl) d_Wh_compareAmount_64 (Nat.zero_le _) (Nat.zero_le _) (Nat.zero_le _) (Nat.zero_le _)
    exact lp nn9 (by omega) (fun _ q1 q2 => absurd q1 (by omega)) _ _ (S.sub [0, 1, 2, 3] (by decide) rfl) ls (lv_sub hl [0, 1, 2] rfl)
  · refine lv_aload_n hx hb d_Wh_compareAmount_11 rfl (lv_at hl 0 rfl) ?_
    refine r_get C K S 0 rfl rfl clOk_Wh 1 (by decide) wf_Wh_29 (v := .int (nI nn9)) rfl d_Wh_compareAmount_12 ?_
    refine lv_aload_n hx hb d_Wh_compareAmount_15 rfl (lv_at hl 1 rfl) ?_
    refine r_get C K S 2 rfl rfl clOk_Wh 1 (by decide) wf_Wh_29 (v := .int (nI no9)) rfl d_Wh_compareAmount_16 ?_
    refine q_back0 (wi := []) (wr := [(h0, .inr (2, [.ref dd, .int (nI nn9), .int (sgI zz)])), (dd, .inl (k 0, LL, .inl (fun i => nI (gg i)))), (ho, .inr (2, [.ref do9, .int (nI no9), .int (sgI zo)])), (do9, .inl (k 0, Lo, .inl (fun i => nI (go i))))]) S hA [] [0, 1, 2, 3] rfl rfl (by decide) (by decide) (va_runS (As := [.int (nI nn9), .int (nI no9)]) (rest := []) ⟨hx, hb, C.2.2.1, C.2.2.2.1, C.2.2.2.2.1⟩ (g_JI_compare l G k _ _ (nI nn9) (nI no9)) (k_stat (n := 2) C wc_JI_compare rfl rfl wz_JI wm_Wh_41 wt_JI_compare (by decide +kernel) ⟨(Nat.le_of_ble_eq_true rfl), (Nat.le_of_ble_eq_true rfl)⟩) (pr_nowG K S [] (by decide) rfl) rfl rfl hl.1 rfl (lv_room (Nat.le_of_ble_eq_true rfl)) d_Wh_compareAmount_19 ⟨(Nat.zero_le _), (Nat.zero_le _)⟩) (fun u5 H locs hw6 S => ?_)
    have S : Sw G A s.heap _ _ [(h0, .inr (2, [.ref dd, .int (nI nn9), .int (sgI zz)])), (dd, .inl (k 0, LL, .inl (fun i => nI (gg i)))), (ho, .inr (2, [.ref do9, .int (nI no9), .int (sgI zo)])), (do9, .inl (k 0, Lo, .inl (fun i => nI (go i))))] := S
    have hw6 : True := hw6
    show W p l e _ s m _ below meth c H locs _ _ _ (F0 m 22 ls [.int (icI (nI nn9) (nI no9))])
    exact q_iret C K hsz rfl () (by rw [ca_size hw hv (by omega)]) trivial (S.sub [0, 1, 2, 3] (by decide) rfl) d_Wh_compareAmount_22 (Nat.zero_le _) (Nat.zero_le _) (Nat.zero_le _) (Nat.zero_le _)
theorem d_Wh_compare_0 : decode c_Wh_compare 0 = .ok (.aload_n 0, 1) := by decide +kernel
theorem d_Wh_compare_1 : decode c_Wh_compare 1 = .ok (.getfield 19, 3) := by decide +kernel
theorem d_Wh_compare_4 : decode c_Wh_compare 4 = .ok (.aload_n 1, 1) := by decide +kernel
theorem d_Wh_compare_5 : decode c_Wh_compare 5 = .ok (.getfield 19, 3) := by decide +kernel
theorem d_Wh_compare_8 : decode c_Wh_compare 8 = .ok (.if_icmp .eq 15, 3) := by decide +kernel
theorem d_Wh_compare_11 : decode c_Wh_compare 11 = .ok (.aload_n 0, 1) := by decide +kernel
theorem d_Wh_compare_12 : decode c_Wh_compare 12 = .ok (.getfield 19, 3) := by decide +kernel
theorem d_Wh_compare_15 : decode c_Wh_compare 15 = .ok (.aload_n 1, 1) := by decide +kernel
theorem d_Wh_compare_16 : decode c_Wh_compare 16 = .ok (.getfield 19, 3) := by decide +kernel
theorem d_Wh_compare_19 : decode c_Wh_compare 19 = .ok (.invokestatic 41, 3) := by decide +kernel
theorem d_Wh_compare_22 : decode c_Wh_compare 22 = .ok (.ireturn, 1) := by decide +kernel
theorem d_Wh_compare_23 : decode c_Wh_compare 23 = .ok (.aload_n 0, 1) := by decide +kernel
theorem d_Wh_compare_24 : decode c_Wh_compare 24 = .ok (.getfield 19, 3) := by decide +kernel
theorem d_Wh_compare_27 : decode c_Wh_compare 27 = .ok (.aload_n 0, 1) := by decide +kernel
theorem d_Wh_compare_28 : decode c_Wh_compare 28 = .ok (.aload_n 1, 1) := by decide +kernel
theorem d_Wh_compare_29 : decode c_Wh_compare 29 = .ok (.invokevirtual 46, 3) := by decide +kernel
theorem d_Wh_compare_32 : decode c_Wh_compare 32 = .ok (.imul, 1) := by decide +kernel
theorem d_Wh_compare_33 : decode c_Wh_compare 33 = .ok (.ireturn, 1) := by decide +kernel
set_option maxRecDepth 100000 in
set_option maxHeartbeats 16000000 in
/-- compare -/
theorem g_Wh_compare (l : Launch) (G : va_G) (k : Nat → ClassId) (h0 : Nat) (s0 sl : Nat) (dd : Nat) (LL : Nat) (nn9 : Nat) (gg : Nat → Nat) (zz : Int) (ho : Nat) (do9 : Nat) (Lo : Nat) (no9 : Nat) (go : Nat → Nat) (zo : Int) (hw : whO LL nn9 gg zz) (hv : whO Lo no9 go zo) : CG l y_Wh_compare c_Wh_compare 2 (some .int) { frames := 2, cells := 0, slots := 0, locals := 43 } [.ref h0, .ref ho] G k s0 sl [(h0, .inr (2, [.ref dd, .int (nI nn9), .int (sgI zz)])), (dd, .inl (k 0, LL, .inl (fun i => nI (gg i)))), (ho, .inr (2, [.ref do9, .int (nI no9), .int (sgI zo)])), (do9, .inl (k 0, Lo, .inl (fun i => nI (go i))))] (fun (u : Unit) => some (.int (czI zz zo))) (fun (u : Unit) => True) (fun (u : Unit) => [(h0, .inr (2, [.ref dd, .int (nI nn9), .int (sgI zz)])), (dd, .inl (k 0, LL, .inl (fun i => nI (gg i)))), (ho, .inr (2, [.ref do9, .int (nI no9), .int (sgI zo)])), (do9, .inl (k 0, Lo, .inl (fun i => nI (go i))))]) (fun (u : Unit) => 0) (fun (u : Unit) => 0) 0 0 := by
  refine met_startG (by decide) (Nat.le_of_ble_eq_true rfl) ?_
  intro p e s m below meth c C K hA hsz S ls hl
  generalize va_A [(h0, .inr (2, [.ref dd, .int (nI nn9), .int (sgI zz)])), (dd, .inl (k 0, LL, .inl (fun i => nI (gg i)))), (ho, .inr (2, [.ref do9, .int (nI no9), .int (sgI zo)])), (do9, .inl (k 0, Lo, .inl (fun i => nI (go i))))] s0 = A at hA S ⊢
  have hx := C.1
  have hb := C.2.1
  have hl : lv_has ls 2 [(0, .ref h0), (1, .ref ho)] := hl
  refine lv_aload_n hx hb d_Wh_compare_0 rfl (lv_at hl 0 rfl) ?_
  refine r_get C K S 0 rfl rfl clOk_Wh 2 (by decide) wf_Wh_19 (v := .int (sgI zz)) rfl d_Wh_compare_1 ?_
  refine lv_aload_n hx hb d_Wh_compare_4 rfl (lv_at hl 1 rfl) ?_
  refine r_get C K S 2 rfl rfl clOk_Wh 2 (by decide) wf_Wh_19 (v := .int (sgI zo)) rfl d_Wh_compare_5 ?_
  refine lv_icmp_eq (tgt := 23) hx hb d_Wh_compare_8 (by decide) (fun hc1 => ?_) (fun hc1 => ?_)
  · refine lv_aload_n hx hb d_Wh_compare_23 rfl (lv_at hl 0 rfl) ?_
    refine r_get C K S 0 rfl rfl clOk_Wh 2 (by decide) wf_Wh_19 (v := .int (sgI zz)) rfl d_Wh_compare_24 ?_
    refine lv_aload_n hx hb d_Wh_compare_27 rfl (lv_at hl 0 rfl) ?_
    refine lv_aload_n hx hb d_Wh_compare_28 rfl (lv_at hl 1 rfl) ?_
    refine q_back0 (wi := [(h0, .inr (2, [.ref dd, .int (nI nn9), .int (sgI zz)])), (dd, .inl (k 0, LL, .inl (fun i => nI (gg i)))), (ho, .inr (2, [.ref do9, .int (nI no9), .int (sgI zo)])), (do9, .inl (k 0, Lo, .inl (fun i => nI (go i))))]) (wr := []) S hA [0, 1, 2, 3] [] rfl rfl (by decide) (by decide) (va_runV (As := [.ref ho]) (rest := [.int (sgI zz)]) ⟨hx, hb, C.2.2.1, C.2.2.2.1, C.2.2.2.2.1⟩ (g_Wh_compareAmount l G k h0 _ _ dd LL nn9 gg zz ho do9 Lo no9 go zo (by first | assumption | omega) (by first | assumption | omega)) (k_virt (n := 1) C wc_Wh_compareAmount rfl rfl wz_Wh wm_Wh_46 wn_Wh_compareAmount ws_Wh_compareAmount (by decide +kernel) ⟨(Nat.le_of_ble_eq_true rfl), (Nat.le_of_ble_eq_true rfl)⟩) (pr_nowVG K S [0, 1, 2, 3] (by decide) rfl 0 rfl rfl) rfl rfl hl.1 rfl (lv_room (Nat.le_of_ble_eq_true rfl)) d_Wh_compare_29 ⟨(Nat.zero_le _), (Nat.zero_le _)⟩) (fun u2 H locs hw3 S => ?_)
    have S : Sw G A s.heap _ _ [(h0, .inr (2, [.ref dd, .int (nI nn9), .int (sgI zz)])), (dd, .inl (k 0, LL, .inl (fun i => nI (gg i)))), (ho, .inr (2, [.ref do9, .int (nI no9), .int (sgI zo)])), (do9, .inl (k 0, Lo, .inl (fun i => nI (go i))))] := S
    have hw3 : True := hw3
    show W p l e _ s m _ below meth c H locs _ _ _ (F0 m 32 ls [.int (cpN zz.natAbs zo.natAbs), .int (sgI zz)])
    refine z_imul (v := czI zz zo) hx hb d_Wh_compare_32 (cz_am hc1) ?_
    exact q_iret C K hsz rfl () rfl trivial (S.sub [0, 1, 2, 3] (by decide) rfl) d_Wh_compare_33 (Nat.zero_le _) (Nat.zero_le _) (Nat.zero_le _) (Nat.zero_le _)
  · refine lv_aload_n hx hb d_Wh_compare_11 rfl (lv_at hl 0 rfl) ?_
    refine r_get C K S 0 rfl rfl clOk_Wh 2 (by decide) wf_Wh_19 (v := .int (sgI zz)) rfl d_Wh_compare_12 ?_
    refine lv_aload_n hx hb d_Wh_compare_15 rfl (lv_at hl 1 rfl) ?_
    refine r_get C K S 2 rfl rfl clOk_Wh 2 (by decide) wf_Wh_19 (v := .int (sgI zo)) rfl d_Wh_compare_16 ?_
    refine q_back0 (wi := []) (wr := [(h0, .inr (2, [.ref dd, .int (nI nn9), .int (sgI zz)])), (dd, .inl (k 0, LL, .inl (fun i => nI (gg i)))), (ho, .inr (2, [.ref do9, .int (nI no9), .int (sgI zo)])), (do9, .inl (k 0, Lo, .inl (fun i => nI (go i))))]) S hA [] [0, 1, 2, 3] rfl rfl (by decide) (by decide) (va_runS (As := [.int (sgI zz), .int (sgI zo)]) (rest := []) ⟨hx, hb, C.2.2.1, C.2.2.2.1, C.2.2.2.2.1⟩ (g_JI_compare l G k _ _ (sgI zz) (sgI zo)) (k_stat (n := 2) C wc_JI_compare rfl rfl wz_JI wm_Wh_41 wt_JI_compare (by decide +kernel) ⟨(Nat.le_of_ble_eq_true rfl), (Nat.le_of_ble_eq_true rfl)⟩) (pr_nowG K S [] (by decide) rfl) rfl rfl hl.1 rfl (lv_room (Nat.le_of_ble_eq_true rfl)) d_Wh_compare_19 ⟨(Nat.zero_le _), (Nat.zero_le _)⟩) (fun u4 H locs hw5 S => ?_)
    have S : Sw G A s.heap _ _ [(h0, .inr (2, [.ref dd, .int (nI nn9), .int (sgI zz)])), (dd, .inl (k 0, LL, .inl (fun i => nI (gg i)))), (ho, .inr (2, [.ref do9, .int (nI no9), .int (sgI zo)])), (do9, .inl (k 0, Lo, .inl (fun i => nI (go i))))] := S
    have hw5 : True := hw5
    show W p l e _ s m _ below meth c H locs _ _ _ (F0 m 22 ls [.int (icI (sgI zz) (sgI zo))])
    exact q_iret C K hsz rfl () (by rw [cz_sg hc1]) trivial (S.sub [0, 1, 2, 3] (by decide) rfl) d_Wh_compare_22 (Nat.zero_le _) (Nat.zero_le _) (Nat.zero_le _) (Nat.zero_le _)
