section
theorem d_Wh_set_0 : decode c_Wh_set 0 = .ok (.aload_n 0, 1) := by decide +kernel
theorem d_Wh_set_1 : decode c_Wh_set 1 = .ok (.lload_n 1, 1) := by decide +kernel
theorem d_Wh_set_2 : decode c_Wh_set 2 = .ok (.lconst 0, 1) := by decide +kernel
theorem d_Wh_set_3 : decode c_Wh_set 3 = .ok (.invokestatic 13, 3) := by decide +kernel
theorem d_Wh_set_6 : decode c_Wh_set 6 = .ok (.putfield 19, 3) := by decide +kernel
theorem d_Wh_set_9 : decode c_Wh_set 9 = .ok (.lload_n 1, 1) := by decide +kernel
theorem d_Wh_set_10 : decode c_Wh_set 10 = .ok (.lconst 0, 1) := by decide +kernel
theorem d_Wh_set_11 : decode c_Wh_set 11 = .ok (.lcmp, 1) := by decide +kernel
theorem d_Wh_set_12 : decode c_Wh_set 12 = .ok (.ifCond .ge 8, 3) := by decide +kernel
theorem d_Wh_set_15 : decode c_Wh_set 15 = .ok (.lload_n 1, 1) := by decide +kernel
theorem d_Wh_set_16 : decode c_Wh_set 16 = .ok (.lneg, 1) := by decide +kernel
theorem d_Wh_set_17 : decode c_Wh_set 17 = .ok (.goto 4, 3) := by decide +kernel
theorem d_Wh_set_20 : decode c_Wh_set 20 = .ok (.lload_n 1, 1) := by decide +kernel
theorem d_Wh_set_21 : decode c_Wh_set 21 = .ok (.lstore_n 3, 1) := by decide +kernel
theorem d_Wh_set_22 : decode c_Wh_set 22 = .ok (.iconst 0, 1) := by decide +kernel
theorem d_Wh_set_23 : decode c_Wh_set 23 = .ok (.istore 5, 2) := by decide +kernel
theorem d_Wh_set_25 : decode c_Wh_set 25 = .ok (.iload 5, 2) := by decide +kernel
theorem d_Wh_set_27 : decode c_Wh_set 27 = .ok (.iconst 3, 1) := by decide +kernel
theorem d_Wh_set_28 : decode c_Wh_set 28 = .ok (.if_icmp .ge 27, 3) := by decide +kernel
theorem d_Wh_set_31 : decode c_Wh_set 31 = .ok (.aload_n 0, 1) := by decide +kernel
theorem d_Wh_set_32 : decode c_Wh_set 32 = .ok (.getfield 9, 3) := by decide +kernel
theorem d_Wh_set_35 : decode c_Wh_set 35 = .ok (.iload 5, 2) := by decide +kernel
theorem d_Wh_set_37 : decode c_Wh_set 37 = .ok (.lload_n 3, 1) := by decide +kernel
theorem d_Wh_set_38 : decode c_Wh_set 38 = .ok (.ldc2_w 23, 3) := by decide +kernel
theorem d_Wh_set_41 : decode c_Wh_set 41 = .ok (.land, 1) := by decide +kernel
theorem d_Wh_set_42 : decode c_Wh_set 42 = .ok (.l2i, 1) := by decide +kernel
theorem d_Wh_set_43 : decode c_Wh_set 43 = .ok (.iastore, 1) := by decide +kernel
theorem d_Wh_set_44 : decode c_Wh_set 44 = .ok (.lload_n 3, 1) := by decide +kernel
theorem d_Wh_set_45 : decode c_Wh_set 45 = .ok (.bipush 31, 2) := by decide +kernel
theorem d_Wh_set_47 : decode c_Wh_set 47 = .ok (.lushr, 1) := by decide +kernel
theorem d_Wh_set_48 : decode c_Wh_set 48 = .ok (.lstore_n 3, 1) := by decide +kernel
theorem d_Wh_set_49 : decode c_Wh_set 49 = .ok (.iinc 5 1, 3) := by decide +kernel
theorem d_Wh_set_52 : decode c_Wh_set 52 = .ok (.goto (-27), 3) := by decide +kernel
theorem d_Wh_set_55 : decode c_Wh_set 55 = .ok (.aload_n 0, 1) := by decide +kernel
theorem d_Wh_set_56 : decode c_Wh_set 56 = .ok (.iconst 3, 1) := by decide +kernel
theorem d_Wh_set_57 : decode c_Wh_set 57 = .ok (.invokevirtual 25, 3) := by decide +kernel
theorem d_Wh_set_60 : decode c_Wh_set 60 = .ok (.return_, 1) := by decide +kernel
set_option maxRecDepth 100000 in
set_option maxHeartbeats 16000000 in
/-- set -/
theorem g_Wh_set (l : Launch) (G : va_G) (k : Nat → ClassId) (h0 : Nat) (s0 sl : Nat) (v9 : Int) (dd : Nat) (LL : Nat) (xs9 : Int32) (ys9 : Int32) (gg : Nat → Nat) (hr : raO LL gg) (hz1 : -9223372036854775808 ≤ v9) (hz2 : v9 < 9223372036854775808) : CG l y_Wh_set c_Wh_set 6 none { frames := 1, cells := 0, slots := 0, locals := 23 } [.ref h0, .long (lZ v9)] G k s0 sl [(h0, .inr (2, [.ref dd, .int xs9, .int ys9])), (dd, .inl (k 0, LL, .inl (fun i => nI (gg i))))] (fun (u : Nat × (Nat → Nat)) => none) (fun (u : Nat × (Nat → Nat)) => whO LL u.1 u.2 v9) (fun (u : Nat × (Nat → Nat)) => [(h0, .inr (2, [.ref dd, .int (nI u.1), .int (sgI v9)])), (dd, .inl (k 0, LL, .inl (fun i => nI (u.2 i))))]) (fun (u : Nat × (Nat → Nat)) => 0) (fun (u : Nat × (Nat → Nat)) => 0) 0 0 := by
  refine met_startG (by decide) (Nat.le_of_ble_eq_true rfl) ?_
  intro p e s m below meth c C K hA hsz S ls hl
  generalize va_A [(h0, .inr (2, [.ref dd, .int xs9, .int ys9])), (dd, .inl (k 0, LL, .inl (fun i => nI (gg i))))] s0 = A at hA S ⊢
  have hx := C.1
  have hb := C.2.1
  have hl : lv_has ls 6 [(0, .ref h0), (1, .long (lZ v9))] := hl
  have hr0 := hr
  obtain ⟨r1, r2, r3⟩ := hr0
  refine lv_aload_n hx hb d_Wh_set_0 rfl (lv_at hl 0 rfl) ?_
  refine lv_lload_n hx hb d_Wh_set_1 rfl (lv_at hl 1 rfl) ?_
  refine lv_lconst (v := 0) hx hb d_Wh_set_2 (by decide) ?_
  refine q_back0 (wi := []) (wr := [(h0, .inr (2, [.ref dd, .int xs9, .int ys9])), (dd, .inl (k 0, LL, .inl (fun i => nI (gg i))))]) S hA [] [0, 1] rfl rfl (by decide) (by decide) (va_runS (As := [.long (lZ v9), .long 0]) (rest := [.ref h0]) ⟨hx, hb, C.2.2.1, C.2.2.2.1, C.2.2.2.2.1⟩ (g_JL_compare l G k _ _ (lZ v9) 0) (k_stat (n := 2) C wc_JL_compare rfl rfl wz_JL wm_Wh_13 wt_JL_compare (by decide +kernel) ⟨(Nat.le_of_ble_eq_true rfl), (Nat.le_of_ble_eq_true rfl)⟩) (pr_nowG K S [] (by decide) rfl) rfl rfl hl.1 rfl (lv_room (Nat.le_of_ble_eq_true rfl)) d_Wh_set_3 ⟨(Nat.zero_le _), (Nat.zero_le _)⟩) (fun u1 H locs hw2 S => ?_)
  have S : Sw G A s.heap _ _ [(h0, .inr (2, [.ref dd, .int xs9, .int ys9])), (dd, .inl (k 0, LL, .inl (fun i => nI (gg i))))] := S
  have hw2 : True := hw2
  show W p l e _ s m _ below meth c H locs _ _ _ (F0 m 6 ls [.int (lcI (lZ v9) 0), .ref h0])
  rw [lc_sg hz1 hz2]
  refine r_put C K S 0 rfl rfl clOk_Wh 2 (by decide) wf_Wh_19 rfl (ty := .int) (v := .int (sgI v9)) (by decide +kernel) rfl rfl (Nat.le_of_ble_eq_true rfl) (fs' := [.ref dd, .int xs9, .int (sgI v9)]) (ws' := [(h0, .inr (2, [.ref dd, .int xs9, .int (sgI v9)])), (dd, .inl (k 0, LL, .inl (fun i => nI (gg i))))]) rfl rfl d_Wh_set_6 (fun H locs S => ?_)
  refine lv_lload_n hx hb d_Wh_set_9 rfl (lv_at hl 1 rfl) ?_
  refine lv_lconst (v := 0) hx hb d_Wh_set_10 (by decide) ?_
  refine W.lcmp hx hb d_Wh_set_11 ?_
  refine lv_if_ge (tgt := 20) hx hb d_Wh_set_12 (by decide) (fun hc3 => ?_) (fun hc3 => ?_)
  · refine lv_lload_n hx hb d_Wh_set_20 rfl (lv_at hl 1 rfl) ?_
    refine z_topl (y := lN v9.natAbs) (lZ_nn ((lz_ge0 hz1 hz2).mp hc3)) ?_
    refine lv_lstore_n (lv' := [(3, .long (lN v9.natAbs)), (0, .ref h0), (1, .long (lZ v9))]) hx hb d_Wh_set_21 rfl hl (by decide) rfl (fun ls hl => ?_)
    refine lv_iconst (v := 0) hx hb d_Wh_set_22 (by decide) ?_
    refine lv_istore (lv' := [(5, .int 0), (3, .long (lN v9.natAbs)), (0, .ref h0), (1, .long (lZ v9))]) hx hb d_Wh_set_23 hl (by decide) rfl (fun ls hl => ?_)
    refine lv_iload hx hb d_Wh_set_25 (lv_at hl 0 rfl) ?_
    refine lv_iconst (v := 3) hx hb d_Wh_set_27 (by decide) ?_
    refine lv_icmp_ge (tgt := 55) hx hb d_Wh_set_28 (by decide) (fun hq => absurd hq (by decide)) (fun _ => ?_)
    refine lv_aload_n hx hb d_Wh_set_31 rfl (lv_at hl 2 rfl) ?_
    refine r_get C K S 0 rfl rfl clOk_Wh 0 (by decide) wf_Wh_9 (v := .ref dd) rfl d_Wh_set_32 ?_
    refine lv_iload hx hb d_Wh_set_35 (lv_at hl 0 rfl) ?_
    refine lv_lload_n hx hb d_Wh_set_37 rfl (lv_at hl 1 rfl) ?_
    refine lv_ldc2 (v := 2147483647) hx hb C.2.2.2.1 (C.2.2.2.2.1 _ wk_Wh_23) d_Wh_set_38 ?_
    refine z_land (v := lN (v9.natAbs % 2147483648)) hx hb d_Wh_set_41 (lN_and31 (a := v9.natAbs) (by omega)) ?_
    refine lv_l2i (v := nI (v9.natAbs % 2147483648)) hx hb d_Wh_set_42 (lN_i (v9.natAbs % 2147483648)) ?_
    refine r_iast C K S 1 rfl (i := 0) (x := nI (v9.natAbs % 2147483648)) (show vp_in (0) _ from vp_in_nI (n := 0) (by omega) (by omega)) (f' := fun i => nI (va_up gg 0 (v9.natAbs % 2147483648) i)) (ws' := [(h0, .inr (2, [.ref dd, .int xs9, .int (sgI v9)])), (dd, .inl (k 0, LL, .inl (fun i => nI (va_up gg 0 (v9.natAbs % 2147483648) i))))]) (show upd _ (0 : Int32).toNatClampNeg (nI (v9.natAbs % 2147483648)) = _ from upd_nI gg (j := 0) (by omega) (v9.natAbs % 2147483648)) rfl d_Wh_set_43 (fun H locs S => ?_)
    refine lv_lload_n hx hb d_Wh_set_44 rfl (lv_at hl 1 rfl) ?_
    refine lv_bipush (v := 31) hx hb d_Wh_set_45 (by decide) ?_
    refine lv_lushr (v := lN (v9.natAbs / 2147483648)) hx hb d_Wh_set_47 (lN_ushr31 (a := v9.natAbs) (by omega)) ?_
    refine lv_lstore_n (lv' := [(3, .long (lN (v9.natAbs / 2147483648))), (5, .int 0), (0, .ref h0), (1, .long (lZ v9))]) hx hb d_Wh_set_48 rfl hl (by decide) rfl (fun ls hl => ?_)
    refine lv_iinc (v := 1) (lv' := [(5, .int 1), (3, .long (lN (v9.natAbs / 2147483648))), (0, .ref h0), (1, .long (lZ v9))]) hx hb d_Wh_set_49 hl (k := 1) rfl (by decide) (by decide) rfl (fun ls hl => ?_)
    refine lv_goto (tgt := 25) hx hb d_Wh_set_52 (by decide) ?_
    refine lv_iload hx hb d_Wh_set_25 (lv_at hl 0 rfl) ?_
    refine lv_iconst (v := 3) hx hb d_Wh_set_27 (by decide) ?_
    refine lv_icmp_ge (tgt := 55) hx hb d_Wh_set_28 (by decide) (fun hq => absurd hq (by decide)) (fun _ => ?_)
    refine lv_aload_n hx hb d_Wh_set_31 rfl (lv_at hl 2 rfl) ?_
    refine r_get C K S 0 rfl rfl clOk_Wh 0 (by decide) wf_Wh_9 (v := .ref dd) rfl d_Wh_set_32 ?_
    refine lv_iload hx hb d_Wh_set_35 (lv_at hl 0 rfl) ?_
    refine lv_lload_n hx hb d_Wh_set_37 rfl (lv_at hl 1 rfl) ?_
    refine lv_ldc2 (v := 2147483647) hx hb C.2.2.2.1 (C.2.2.2.2.1 _ wk_Wh_23) d_Wh_set_38 ?_
    refine z_land (v := lN ((v9.natAbs / 2147483648) % 2147483648)) hx hb d_Wh_set_41 (lN_and31 (a := (v9.natAbs / 2147483648)) (by omega)) ?_
    refine lv_l2i (v := nI ((v9.natAbs / 2147483648) % 2147483648)) hx hb d_Wh_set_42 (lN_i ((v9.natAbs / 2147483648) % 2147483648)) ?_
    refine r_iast C K S 1 rfl (i := 1) (x := nI ((v9.natAbs / 2147483648) % 2147483648)) (show vp_in (1) _ from vp_in_nI (n := 1) (by omega) (by omega)) (f' := fun i => nI (va_up (va_up gg 0 (v9.natAbs % 2147483648)) 1 ((v9.natAbs / 2147483648) % 2147483648) i)) (ws' := [(h0, .inr (2, [.ref dd, .int xs9, .int (sgI v9)])), (dd, .inl (k 0, LL, .inl (fun i => nI (va_up (va_up gg 0 (v9.natAbs % 2147483648)) 1 ((v9.natAbs / 2147483648) % 2147483648) i))))]) (show upd _ (1 : Int32).toNatClampNeg (nI ((v9.natAbs / 2147483648) % 2147483648)) = _ from upd_nI (va_up gg 0 (v9.natAbs % 2147483648)) (j := 1) (by omega) ((v9.natAbs / 2147483648) % 2147483648)) rfl d_Wh_set_43 (fun H locs S => ?_)
    refine lv_lload_n hx hb d_Wh_set_44 rfl (lv_at hl 1 rfl) ?_
    refine lv_bipush (v := 31) hx hb d_Wh_set_45 (by decide) ?_
    refine lv_lushr (v := lN ((v9.natAbs / 2147483648) / 2147483648)) hx hb d_Wh_set_47 (lN_ushr31 (a := (v9.natAbs / 2147483648)) (by omega)) ?_
    refine lv_lstore_n (lv' := [(3, .long (lN ((v9.natAbs / 2147483648) / 2147483648))), (5, .int 1), (0, .ref h0), (1, .long (lZ v9))]) hx hb d_Wh_set_48 rfl hl (by decide) rfl (fun ls hl => ?_)
    refine lv_iinc (v := 2) (lv' := [(5, .int 2), (3, .long (lN ((v9.natAbs / 2147483648) / 2147483648))), (0, .ref h0), (1, .long (lZ v9))]) hx hb d_Wh_set_49 hl (k := 1) rfl (by decide) (by decide) rfl (fun ls hl => ?_)
    refine lv_goto (tgt := 25) hx hb d_Wh_set_52 (by decide) ?_
    refine lv_iload hx hb d_Wh_set_25 (lv_at hl 0 rfl) ?_
    refine lv_iconst (v := 3) hx hb d_Wh_set_27 (by decide) ?_
    refine lv_icmp_ge (tgt := 55) hx hb d_Wh_set_28 (by decide) (fun hq => absurd hq (by decide)) (fun _ => ?_)
    refine lv_aload_n hx hb d_Wh_set_31 rfl (lv_at hl 2 rfl) ?_
    refine r_get C K S 0 rfl rfl clOk_Wh 0 (by decide) wf_Wh_9 (v := .ref dd) rfl d_Wh_set_32 ?_
    refine lv_iload hx hb d_Wh_set_35 (lv_at hl 0 rfl) ?_
    refine lv_lload_n hx hb d_Wh_set_37 rfl (lv_at hl 1 rfl) ?_
    refine lv_ldc2 (v := 2147483647) hx hb C.2.2.2.1 (C.2.2.2.2.1 _ wk_Wh_23) d_Wh_set_38 ?_
    refine z_land (v := lN (((v9.natAbs / 2147483648) / 2147483648) % 2147483648)) hx hb d_Wh_set_41 (lN_and31 (a := ((v9.natAbs / 2147483648) / 2147483648)) (by omega)) ?_
    refine lv_l2i (v := nI (((v9.natAbs / 2147483648) / 2147483648) % 2147483648)) hx hb d_Wh_set_42 (lN_i (((v9.natAbs / 2147483648) / 2147483648) % 2147483648)) ?_
    refine r_iast C K S 1 rfl (i := 2) (x := nI (((v9.natAbs / 2147483648) / 2147483648) % 2147483648)) (show vp_in (2) _ from vp_in_nI (n := 2) (by omega) (by omega)) (f' := fun i => nI (va_up (va_up (va_up gg 0 (v9.natAbs % 2147483648)) 1 ((v9.natAbs / 2147483648) % 2147483648)) 2 (((v9.natAbs / 2147483648) / 2147483648) % 2147483648) i)) (ws' := [(h0, .inr (2, [.ref dd, .int xs9, .int (sgI v9)])), (dd, .inl (k 0, LL, .inl (fun i => nI (va_up (va_up (va_up gg 0 (v9.natAbs % 2147483648)) 1 ((v9.natAbs / 2147483648) % 2147483648)) 2 (((v9.natAbs / 2147483648) / 2147483648) % 2147483648) i))))]) (show upd _ (2 : Int32).toNatClampNeg (nI (((v9.natAbs / 2147483648) / 2147483648) % 2147483648)) = _ from upd_nI (va_up (va_up gg 0 (v9.natAbs % 2147483648)) 1 ((v9.natAbs / 2147483648) % 2147483648)) (j := 2) (by omega) (((v9.natAbs / 2147483648) / 2147483648) % 2147483648)) rfl d_Wh_set_43 (fun H locs S => ?_)
    refine lv_lload_n hx hb d_Wh_set_44 rfl (lv_at hl 1 rfl) ?_
    refine lv_bipush (v := 31) hx hb d_Wh_set_45 (by decide) ?_
    refine lv_lushr (v := lN (((v9.natAbs / 2147483648) / 2147483648) / 2147483648)) hx hb d_Wh_set_47 (lN_ushr31 (a := ((v9.natAbs / 2147483648) / 2147483648)) (by omega)) ?_
    refine lv_lstore_n (lv' := [(3, .long (lN (((v9.natAbs / 2147483648) / 2147483648) / 2147483648))), (5, .int 2), (0, .ref h0), (1, .long (lZ v9))]) hx hb d_Wh_set_48 rfl hl (by decide) rfl (fun ls hl => ?_)
    refine lv_iinc (v := 3) (lv' := [(5, .int 3), (3, .long (lN (((v9.natAbs / 2147483648) / 2147483648) / 2147483648))), (0, .ref h0), (1, .long (lZ v9))]) hx hb d_Wh_set_49 hl (k := 1) rfl (by decide) (by decide) rfl (fun ls hl => ?_)
    refine lv_goto (tgt := 25) hx hb d_Wh_set_52 (by decide) ?_
    refine lv_iload hx hb d_Wh_set_25 (lv_at hl 0 rfl) ?_
    refine lv_iconst (v := 3) hx hb d_Wh_set_27 (by decide) ?_
    refine lv_icmp_ge (tgt := 55) hx hb d_Wh_set_28 (by decide) (fun _ => ?_) (fun hq => absurd (by decide) hq)
    refine lv_aload_n hx hb d_Wh_set_55 rfl (lv_at hl 2 rfl) ?_
    refine lv_iconst (v := 3) hx hb d_Wh_set_56 (by decide) ?_
    have hg9 : ∀ i, (va_up (va_up (va_up gg 0 (v9.natAbs % 2147483648)) 1 ((v9.natAbs / 2147483648) % 2147483648)) 2 (((v9.natAbs / 2147483648) / 2147483648) % 2147483648)) i < 2147483648 := up31 (up31 (up31 r3 (by omega)) (by omega)) (by omega)
    refine q_back0 (wi := [(h0, .inr (2, [.ref dd, .int xs9, .int (sgI v9)])), (dd, .inl (k 0, LL, .inl (fun i => nI (va_up (va_up (va_up gg 0 (v9.natAbs % 2147483648)) 1 ((v9.natAbs / 2147483648) % 2147483648)) 2 (((v9.natAbs / 2147483648) / 2147483648) % 2147483648) i))))]) (wr := []) S hA [0, 1] [] rfl rfl (by decide) (by decide) (va_runV (As := [.int 3]) (rest := []) ⟨hx, hb, C.2.2.1, C.2.2.2.1, C.2.2.2.2.1⟩ (g_Wh_trim l G k h0 _ _ 3 dd LL xs9 (sgI v9) (va_up (va_up (va_up gg 0 (v9.natAbs % 2147483648)) 1 ((v9.natAbs / 2147483648) % 2147483648)) 2 (((v9.natAbs / 2147483648) / 2147483648) % 2147483648)) ⟨r1, r2, hg9⟩ (by omega)) (k_virt (n := 1) C wc_Wh_trim rfl rfl wz_Wh wm_Wh_25 wn_Wh_trim ws_Wh_trim (by decide +kernel) ⟨(Nat.le_of_ble_eq_true rfl), (Nat.le_of_ble_eq_true rfl)⟩) (pr_nowVG K S [0, 1] (by decide) rfl 0 rfl rfl) rfl rfl hl.1 rfl (lv_room (Nat.le_of_ble_eq_true rfl)) d_Wh_set_57 ⟨(Nat.zero_le _), (Nat.zero_le _)⟩) (fun u4 H locs hw5 S => ?_)
    have S : Sw G A s.heap _ _ [(h0, .inr (2, [.ref dd, .int (nI u4), .int (if u4 = 0 then 0 else (sgI v9))])), (dd, .inl (k 0, LL, .inl (fun i => nI (va_up (va_up (va_up gg 0 (v9.natAbs % 2147483648)) 1 ((v9.natAbs / 2147483648) % 2147483648)) 2 (((v9.natAbs / 2147483648) / 2147483648) % 2147483648) i))))] := S
    have hw5 : u4 ≤ 3 ∧ (u4 = 0 ∨ (va_up (va_up (va_up gg 0 (v9.natAbs % 2147483648)) 1 ((v9.natAbs / 2147483648) % 2147483648)) 2 (((v9.natAbs / 2147483648) / 2147483648) % 2147483648)) (u4 - 1) ≠ 0) ∧ vl 2147483648 (va_up (va_up (va_up gg 0 (v9.natAbs % 2147483648)) 1 ((v9.natAbs / 2147483648) % 2147483648)) 2 (((v9.natAbs / 2147483648) / 2147483648) % 2147483648)) u4 = vl 2147483648 (va_up (va_up (va_up gg 0 (v9.natAbs % 2147483648)) 1 ((v9.natAbs / 2147483648) % 2147483648)) 2 (((v9.natAbs / 2147483648) / 2147483648) % 2147483648)) 3 := hw5
    show W p l e _ s m _ below meth c H locs _ _ _ (F0 m 60 ls [])
    obtain ⟨t1, t2, t3⟩ := hw5
    rw [set_val (by omega)] at t3
    have S : Sw G A s.heap H locs [(h0, .inr (2, [.ref dd, .int (nI u4), .int (sgI v9)])), (dd, .inl (k 0, LL, .inl (fun i => nI (va_up (va_up (va_up gg 0 (v9.natAbs % 2147483648)) 1 ((v9.natAbs / 2147483648) % 2147483648)) 2 (((v9.natAbs / 2147483648) / 2147483648) % 2147483648) i))))] := by rw [← sg_cut (n := u4) (z := v9) (by intro q9; have := t3; rw [q9] at this; have : (0 : Nat) = v9.natAbs := this; omega)]; exact S
    exact q_vret C K hsz (u4, va_up (va_up (va_up gg 0 (v9.natAbs % 2147483648)) 1 ((v9.natAbs / 2147483648) % 2147483648)) 2 (((v9.natAbs / 2147483648) / 2147483648) % 2147483648)) (show whO LL u4 (va_up (va_up (va_up gg 0 (v9.natAbs % 2147483648)) 1 ((v9.natAbs / 2147483648) % 2147483648)) 2 (((v9.natAbs / 2147483648) / 2147483648) % 2147483648)) v9 from ⟨by show u4 ≤ LL; omega, r1, r2, by assumption, t2, t3⟩) (S.sub [0, 1] (by decide) rfl) d_Wh_set_60 (Nat.zero_le _) (Nat.zero_le _) (Nat.zero_le _) (Nat.zero_le _)
  · refine lv_lload_n hx hb d_Wh_set_15 rfl (lv_at hl 1 rfl) ?_
    refine z_lneg (v := lN v9.natAbs) hx hb d_Wh_set_16 (lZ_neg_n (by have := mt (lz_ge0 hz1 hz2).mpr hc3; omega)) ?_
    refine lv_goto (tgt := 21) hx hb d_Wh_set_17 (by decide) ?_
    refine lv_lstore_n (lv' := [(3, .long (lN v9.natAbs)), (0, .ref h0), (1, .long (lZ v9))]) hx hb d_Wh_set_21 rfl hl (by decide) rfl (fun ls hl => ?_)
    refine lv_iconst (v := 0) hx hb d_Wh_set_22 (by decide) ?_
    refine lv_istore (lv' := [(5, .int 0), (3, .long (lN v9.natAbs)), (0, .ref h0), (1, .long (lZ v9))]) hx hb d_Wh_set_23 hl (by decide) rfl (fun ls hl => ?_)
    refine lv_iload hx hb d_Wh_set_25 (lv_at hl 0 rfl) ?_
    refine lv_iconst (v := 3) hx hb d_Wh_set_27 (by decide) ?_
    refine lv_icmp_ge (tgt := 55) hx hb d_Wh_set_28 (by decide) (fun hq => absurd hq (by decide)) (fun _ => ?_)
    refine lv_aload_n hx hb d_Wh_set_31 rfl (lv_at hl 2 rfl) ?_
    refine r_get C K S 0 rfl rfl clOk_Wh 0 (by decide) wf_Wh_9 (v := .ref dd) rfl d_Wh_set_32 ?_
    refine lv_iload hx hb d_Wh_set_35 (lv_at hl 0 rfl) ?_
    refine lv_lload_n hx hb d_Wh_set_37 rfl (lv_at hl 1 rfl) ?_
    refine lv_ldc2 (v := 2147483647) hx hb C.2.2.2.1 (C.2.2.2.2.1 _ wk_Wh_23) d_Wh_set_38 ?_
    refine z_land (v := lN (v9.natAbs % 2147483648)) hx hb d_Wh_set_41 (lN_and31 (a := v9.natAbs) (by omega)) ?_
    refine lv_l2i (v := nI (v9.natAbs % 2147483648)) hx hb d_Wh_set_42 (lN_i (v9.natAbs % 2147483648)) ?_
    refine r_iast C K S 1 rfl (i := 0) (x := nI (v9.natAbs % 2147483648)) (show vp_in (0) _ from vp_in_nI (n := 0) (by omega) (by omega)) (f' := fun i => nI (va_up gg 0 (v9.natAbs % 2147483648) i)) (ws' := [(h0, .inr (2, [.ref dd, .int xs9, .int (sgI v9)])), (dd, .inl (k 0, LL, .inl (fun i => nI (va_up gg 0 (v9.natAbs % 2147483648) i))))]) (show upd _ (0 : Int32).toNatClampNeg (nI (v9.natAbs % 2147483648)) = _ from upd_nI gg (j := 0) (by omega) (v9.natAbs % 2147483648)) rfl d_Wh_set_43 (fun H locs S => ?_)
    refine lv_lload_n hx hb d_Wh_set_44 rfl (lv_at hl 1 rfl) ?_
    refine lv_bipush (v := 31) hx hb d_Wh_set_45 (by decide) ?_
    refine lv_lushr (v := lN (v9.natAbs / 2147483648)) hx hb d_Wh_set_47 (lN_ushr31 (a := v9.natAbs) (by omega)) ?_
    refine lv_lstore_n (lv' := [(3, .long (lN (v9.natAbs / 2147483648))), (5, .int 0), (0, .ref h0), (1, .long (lZ v9))]) hx hb d_Wh_set_48 rfl hl (by decide) rfl (fun ls hl => ?_)
    refine lv_iinc (v := 1) (lv' := [(5, .int 1), (3, .long (lN (v9.natAbs / 2147483648))), (0, .ref h0), (1, .long (lZ v9))]) hx hb d_Wh_set_49 hl (k := 1) rfl (by decide) (by decide) rfl (fun ls hl => ?_)
    refine lv_goto (tgt := 25) hx hb d_Wh_set_52 (by decide) ?_
    refine lv_iload hx hb d_Wh_set_25 (lv_at hl 0 rfl) ?_
    refine lv_iconst (v := 3) hx hb d_Wh_set_27 (by decide) ?_
    refine lv_icmp_ge (tgt := 55) hx hb d_Wh_set_28 (by decide) (fun hq => absurd hq (by decide)) (fun _ => ?_)
    refine lv_aload_n hx hb d_Wh_set_31 rfl (lv_at hl 2 rfl) ?_
    refine r_get C K S 0 rfl rfl clOk_Wh 0 (by decide) wf_Wh_9 (v := .ref dd) rfl d_Wh_set_32 ?_
    refine lv_iload hx hb d_Wh_set_35 (lv_at hl 0 rfl) ?_
    refine lv_lload_n hx hb d_Wh_set_37 rfl (lv_at hl 1 rfl) ?_
    refine lv_ldc2 (v := 2147483647) hx hb C.2.2.2.1 (C.2.2.2.2.1 _ wk_Wh_23) d_Wh_set_38 ?_
    refine z_land (v := lN ((v9.natAbs / 2147483648) % 2147483648)) hx hb d_Wh_set_41 (lN_and31 (a := (v9.natAbs / 2147483648)) (by omega)) ?_
    refine lv_l2i (v := nI ((v9.natAbs / 2147483648) % 2147483648)) hx hb d_Wh_set_42 (lN_i ((v9.natAbs / 2147483648) % 2147483648)) ?_
    refine r_iast C K S 1 rfl (i := 1) (x := nI ((v9.natAbs / 2147483648) % 2147483648)) (show vp_in (1) _ from vp_in_nI (n := 1) (by omega) (by omega)) (f' := fun i => nI (va_up (va_up gg 0 (v9.natAbs % 2147483648)) 1 ((v9.natAbs / 2147483648) % 2147483648) i)) (ws' := [(h0, .inr (2, [.ref dd, .int xs9, .int (sgI v9)])), (dd, .inl (k 0, LL, .inl (fun i => nI (va_up (va_up gg 0 (v9.natAbs % 2147483648)) 1 ((v9.natAbs / 2147483648) % 2147483648) i))))]) (show upd _ (1 : Int32).toNatClampNeg (nI ((v9.natAbs / 2147483648) % 2147483648)) = _ from upd_nI (va_up gg 0 (v9.natAbs % 2147483648)) (j := 1) (by omega) ((v9.natAbs / 2147483648) % 2147483648)) rfl d_Wh_set_43 (fun H locs S => ?_)
    refine lv_lload_n hx hb d_Wh_set_44 rfl (lv_at hl 1 rfl) ?_
    refine lv_bipush (v := 31) hx hb d_Wh_set_45 (by decide) ?_
    refine lv_lushr (v := lN ((v9.natAbs / 2147483648) / 2147483648)) hx hb d_Wh_set_47 (lN_ushr31 (a := (v9.natAbs / 2147483648)) (by omega)) ?_
    refine lv_lstore_n (lv' := [(3, .long (lN ((v9.natAbs / 2147483648) / 2147483648))), (5, .int 1), (0, .ref h0), (1, .long (lZ v9))]) hx hb d_Wh_set_48 rfl hl (by decide) rfl (fun ls hl => ?_)
    refine lv_iinc (v := 2) (lv' := [(5, .int 2), (3, .long (lN ((v9.natAbs / 2147483648) / 2147483648))), (0, .ref h0), (1, .long (lZ v9))]) hx hb d_Wh_set_49 hl (k := 1) rfl (by decide) (by decide) rfl (fun ls hl => ?_)
    refine lv_goto (tgt := 25) hx hb d_Wh_set_52 (by decide) ?_
    refine lv_iload hx hb d_Wh_set_25 (lv_at hl 0 rfl) ?_
    refine lv_iconst (v := 3) hx hb d_Wh_set_27 (by decide) ?_
    refine lv_icmp_ge (tgt := 55) hx hb d_Wh_set_28 (by decide) (fun hq => absurd hq (by decide)) (fun _ => ?_)
    refine lv_aload_n hx hb d_Wh_set_31 rfl (lv_at hl 2 rfl) ?_
    refine r_get C K S 0 rfl rfl clOk_Wh 0 (by decide) wf_Wh_9 (v := .ref dd) rfl d_Wh_set_32 ?_
    refine lv_iload hx hb d_Wh_set_35 (lv_at hl 0 rfl) ?_
    refine lv_lload_n hx hb d_Wh_set_37 rfl (lv_at hl 1 rfl) ?_
    refine lv_ldc2 (v := 2147483647) hx hb C.2.2.2.1 (C.2.2.2.2.1 _ wk_Wh_23) d_Wh_set_38 ?_
    refine z_land (v := lN (((v9.natAbs / 2147483648) / 2147483648) % 2147483648)) hx hb d_Wh_set_41 (lN_and31 (a := ((v9.natAbs / 2147483648) / 2147483648)) (by omega)) ?_
    refine lv_l2i (v := nI (((v9.natAbs / 2147483648) / 2147483648) % 2147483648)) hx hb d_Wh_set_42 (lN_i (((v9.natAbs / 2147483648) / 2147483648) % 2147483648)) ?_
    refine r_iast C K S 1 rfl (i := 2) (x := nI (((v9.natAbs / 2147483648) / 2147483648) % 2147483648)) (show vp_in (2) _ from vp_in_nI (n := 2) (by omega) (by omega)) (f' := fun i => nI (va_up (va_up (va_up gg 0 (v9.natAbs % 2147483648)) 1 ((v9.natAbs / 2147483648) % 2147483648)) 2 (((v9.natAbs / 2147483648) / 2147483648) % 2147483648) i)) (ws' := [(h0, .inr (2, [.ref dd, .int xs9, .int (sgI v9)])), (dd, .inl (k 0, LL, .inl (fun i => nI (va_up (va_up (va_up gg 0 (v9.natAbs % 2147483648)) 1 ((v9.natAbs / 2147483648) % 2147483648)) 2 (((v9.natAbs / 2147483648) / 2147483648) % 2147483648) i))))]) (show upd _ (2 : Int32).toNatClampNeg (nI (((v9.natAbs / 2147483648) / 2147483648) % 2147483648)) = _ from upd_nI (va_up (va_up gg 0 (v9.natAbs % 2147483648)) 1 ((v9.natAbs / 2147483648) % 2147483648)) (j := 2) (by omega) (((v9.natAbs / 2147483648) / 2147483648) % 2147483648)) rfl d_Wh_set_43 (fun H locs S => ?_)
    refine lv_lload_n hx hb d_Wh_set_44 rfl (lv_at hl 1 rfl) ?_
    refine lv_bipush (v := 31) hx hb d_Wh_set_45 (by decide) ?_
    refine lv_lushr (v := lN (((v9.natAbs / 2147483648) / 2147483648) / 2147483648)) hx hb d_Wh_set_47 (lN_ushr31 (a := ((v9.natAbs / 2147483648) / 2147483648)) (by omega)) ?_
    refine lv_lstore_n (lv' := [(3, .long (lN (((v9.natAbs / 2147483648) / 2147483648) / 2147483648))), (5, .int 2), (0, .ref h0), (1, .long (lZ v9))]) hx hb d_Wh_set_48 rfl hl (by decide) rfl (fun ls hl => ?_)
    refine lv_iinc (v := 3) (lv' := [(5, .int 3), (3, .long (lN (((v9.natAbs / 2147483648) / 2147483648) / 2147483648))), (0, .ref h0), (1, .long (lZ v9))]) hx hb d_Wh_set_49 hl (k := 1) rfl (by decide) (by decide) rfl (fun ls hl => ?_)
    refine lv_goto (tgt := 25) hx hb d_Wh_set_52 (by decide) ?_
    refine lv_iload hx hb d_Wh_set_25 (lv_at hl 0 rfl) ?_
    refine lv_iconst (v := 3) hx hb d_Wh_set_27 (by decide) ?_
    refine lv_icmp_ge (tgt := 55) hx hb d_Wh_set_28 (by decide) (fun _ => ?_) (fun hq => absurd (by decide) hq)
    refine lv_aload_n hx hb d_Wh_set_55 rfl (lv_at hl 2 rfl) ?_
    refine lv_iconst (v := 3) hx hb d_Wh_set_56 (by decide) ?_
    have hg9 : ∀ i, (va_up (va_up (va_up gg 0 (v9.natAbs % 2147483648)) 1 ((v9.natAbs / 2147483648) % 2147483648)) 2 (((v9.natAbs / 2147483648) / 2147483648) % 2147483648)) i < 2147483648 := up31 (up31 (up31 r3 (by omega)) (by omega)) (by omega)
    refine q_back0 (wi := [(h0, .inr (2, [.ref dd, .int xs9, .int (sgI v9)])), (dd, .inl (k 0, LL, .inl (fun i => nI (va_up (va_up (va_up gg 0 (v9.natAbs % 2147483648)) 1 ((v9.natAbs / 2147483648) % 2147483648)) 2 (((v9.natAbs / 2147483648) / 2147483648) % 2147483648) i))))]) (wr := []) S hA [0, 1] [] rfl rfl (by decide) (by decide) (va_runV (As := [.int 3]) (rest := []) ⟨hx, hb, C.2.2.1, C.2.2.2.1, C.2.2.2.2.1⟩ (g_Wh_trim l G k h0 _ _ 3 dd LL xs9 (sgI v9) (va_up (va_up (va_up gg 0 (v9.natAbs % 2147483648)) 1 ((v9.natAbs / 2147483648) % 2147483648)) 2 (((v9.natAbs / 2147483648) / 2147483648) % 2147483648)) ⟨r1, r2, hg9⟩ (by omega)) (k_virt (n := 1) C wc_Wh_trim rfl rfl wz_Wh wm_Wh_25 wn_Wh_trim ws_Wh_trim (by decide +kernel) ⟨(Nat.le_of_ble_eq_true rfl), (Nat.le_of_ble_eq_true rfl)⟩) (pr_nowVG K S [0, 1] (by decide) rfl 0 rfl rfl) rfl rfl hl.1 rfl (lv_room (Nat.le_of_ble_eq_true rfl)) d_Wh_set_57 ⟨(Nat.zero_le _), (Nat.zero_le _)⟩) (fun u6 H locs hw7 S => ?_)
    have S : Sw G A s.heap _ _ [(h0, .inr (2, [.ref dd, .int (nI u6), .int (if u6 = 0 then 0 else (sgI v9))])), (dd, .inl (k 0, LL, .inl (fun i => nI (va_up (va_up (va_up gg 0 (v9.natAbs % 2147483648)) 1 ((v9.natAbs / 2147483648) % 2147483648)) 2 (((v9.natAbs / 2147483648) / 2147483648) % 2147483648) i))))] := S
    have hw7 : u6 ≤ 3 ∧ (u6 = 0 ∨ (va_up (va_up (va_up gg 0 (v9.natAbs % 2147483648)) 1 ((v9.natAbs / 2147483648) % 2147483648)) 2 (((v9.natAbs / 2147483648) / 2147483648) % 2147483648)) (u6 - 1) ≠ 0) ∧ vl 2147483648 (va_up (va_up (va_up gg 0 (v9.natAbs % 2147483648)) 1 ((v9.natAbs / 2147483648) % 2147483648)) 2 (((v9.natAbs / 2147483648) / 2147483648) % 2147483648)) u6 = vl 2147483648 (va_up (va_up (va_up gg 0 (v9.natAbs % 2147483648)) 1 ((v9.natAbs / 2147483648) % 2147483648)) 2 (((v9.natAbs / 2147483648) / 2147483648) % 2147483648)) 3 := hw7
    show W p l e _ s m _ below meth c H locs _ _ _ (F0 m 60 ls [])
    obtain ⟨t1, t2, t3⟩ := hw7
    rw [set_val (by omega)] at t3
    have S : Sw G A s.heap H locs [(h0, .inr (2, [.ref dd, .int (nI u6), .int (sgI v9)])), (dd, .inl (k 0, LL, .inl (fun i => nI (va_up (va_up (va_up gg 0 (v9.natAbs % 2147483648)) 1 ((v9.natAbs / 2147483648) % 2147483648)) 2 (((v9.natAbs / 2147483648) / 2147483648) % 2147483648) i))))] := by rw [← sg_cut (n := u6) (z := v9) (by intro q9; have := t3; rw [q9] at this; have : (0 : Nat) = v9.natAbs := this; omega)]; exact S
    exact q_vret C K hsz (u6, va_up (va_up (va_up gg 0 (v9.natAbs % 2147483648)) 1 ((v9.natAbs / 2147483648) % 2147483648)) 2 (((v9.natAbs / 2147483648) / 2147483648) % 2147483648)) (show whO LL u6 (va_up (va_up (va_up gg 0 (v9.natAbs % 2147483648)) 1 ((v9.natAbs / 2147483648) % 2147483648)) 2 (((v9.natAbs / 2147483648) / 2147483648) % 2147483648)) v9 from ⟨by show u6 ≤ LL; omega, r1, r2, by assumption, t2, t3⟩) (S.sub [0, 1] (by decide) rfl) d_Wh_set_60 (Nat.zero_le _) (Nat.zero_le _) (Nat.zero_le _) (Nat.zero_le _)
theorem cpy_ok {L L2 n : Nat} {g g2 : Nat → Nat} {z : Int} (h : whO L n g z) (hn : n ≤ L2) (h2 : raO L2 g2) : whO L2 n (fun i => if i < n then g i else g2 i) z := by
  obtain ⟨v1, v2, v3, v4, v5, v6⟩ := h
  refine ⟨hn, h2.1, h2.2.1, fun i => ?_, ?_, ?_⟩
  · show (if i < n then g i else g2 i) < 2147483648
    split
    · exact v4 i
    · exact h2.2.2 i
  · by_cases q : n = 0
    · exact Or.inl q
    · refine Or.inr ?_
      show (if n - 1 < n then g (n - 1) else g2 (n - 1)) ≠ 0
      rw [if_pos (by omega)]
      omega
  · rw [← v6]
    exact vl_congr n (fun i hi => if_pos hi)
theorem d_Wh_copy_0 : decode c_Wh_copy 0 = .ok (.aload_n 0, 1) := by decide +kernel
theorem d_Wh_copy_1 : decode c_Wh_copy 1 = .ok (.aload_n 1, 1) := by decide +kernel
theorem d_Wh_copy_2 : decode c_Wh_copy 2 = .ok (.getfield 29, 3) := by decide +kernel
theorem d_Wh_copy_5 : decode c_Wh_copy 5 = .ok (.invokevirtual 32, 3) := by decide +kernel
theorem d_Wh_copy_8 : decode c_Wh_copy 8 = .ok (.aload_n 1, 1) := by decide +kernel
theorem d_Wh_copy_9 : decode c_Wh_copy 9 = .ok (.getfield 9, 3) := by decide +kernel
theorem d_Wh_copy_12 : decode c_Wh_copy 12 = .ok (.iconst 0, 1) := by decide +kernel
theorem d_Wh_copy_13 : decode c_Wh_copy 13 = .ok (.aload_n 0, 1) := by decide +kernel
theorem d_Wh_copy_14 : decode c_Wh_copy 14 = .ok (.getfield 9, 3) := by decide +kernel
theorem d_Wh_copy_17 : decode c_Wh_copy 17 = .ok (.iconst 0, 1) := by decide +kernel
theorem d_Wh_copy_18 : decode c_Wh_copy 18 = .ok (.aload_n 1, 1) := by decide +kernel
theorem d_Wh_copy_19 : decode c_Wh_copy 19 = .ok (.getfield 29, 3) := by decide +kernel
theorem d_Wh_copy_22 : decode c_Wh_copy 22 = .ok (.invokestatic 35, 3) := by decide +kernel
theorem d_Wh_copy_25 : decode c_Wh_copy 25 = .ok (.aload_n 0, 1) := by decide +kernel
theorem d_Wh_copy_26 : decode c_Wh_copy 26 = .ok (.aload_n 1, 1) := by decide +kernel
theorem d_Wh_copy_27 : decode c_Wh_copy 27 = .ok (.getfield 29, 3) := by decide +kernel
theorem d_Wh_copy_30 : decode c_Wh_copy 30 = .ok (.putfield 29, 3) := by decide +kernel
theorem d_Wh_copy_33 : decode c_Wh_copy 33 = .ok (.aload_n 0, 1) := by decide +kernel
theorem d_Wh_copy_34 : decode c_Wh_copy 34 = .ok (.aload_n 1, 1) := by decide +kernel
theorem d_Wh_copy_35 : decode c_Wh_copy 35 = .ok (.getfield 19, 3) := by decide +kernel
theorem d_Wh_copy_38 : decode c_Wh_copy 38 = .ok (.putfield 19, 3) := by decide +kernel
theorem d_Wh_copy_41 : decode c_Wh_copy 41 = .ok (.return_, 1) := by decide +kernel
set_option maxRecDepth 100000 in
set_option maxHeartbeats 16000000 in
/-- copy -/
theorem g_Wh_copy (l : Launch) (G : va_G) (k : Nat → ClassId) (h0 : Nat) (s0 sl : Nat) (Mx : Nat) (dd : Nat) (LL : Nat) (xs9 : Int32) (ys9 : Int32) (gg : Nat → Nat) (ho : Nat) (do9 : Nat) (Lo : Nat) (no9 : Nat) (go : Nat → Nat) (zo : Int) (hr : raO LL gg) (hv : whO Lo no9 go zo) (hm1 : 2 * no9 ≤ Mx) (hm2 : LL ≤ Mx) (hm3 : Mx ≤ 400) : CG l y_Wh_copy c_Wh_copy 2 none { frames := 3, cells := Mx, slots := 2 * Mx, locals := 104 } [.ref h0, .ref ho] G k s0 sl [(h0, .inr (2, [.ref dd, .int xs9, .int ys9])), (dd, .inl (k 0, LL, .inl (fun i => nI (gg i)))), (ho, .inr (2, [.ref do9, .int (nI no9), .int (sgI zo)])), (do9, .inl (k 0, Lo, .inl (fun i => nI (go i))))] (fun (u : Nat × Nat × (Nat → Nat)) => none) (fun (u : Nat × Nat × (Nat → Nat)) => whO u.2.1 no9 u.2.2 zo ∧ LL ≤ u.2.1 ∧ u.2.1 ≤ Mx) (fun (u : Nat × Nat × (Nat → Nat)) => [(h0, .inr (2, [.ref u.1, .int (nI no9), .int (sgI zo)])), (u.1, .inl (k 0, u.2.1, .inl (fun i => nI (u.2.2 i)))), (ho, .inr (2, [.ref do9, .int (nI no9), .int (sgI zo)])), (do9, .inl (k 0, Lo, .inl (fun i => nI (go i))))]) (fun (u : Nat × Nat × (Nat → Nat)) => u.2.1 - LL) (fun (u : Nat × Nat × (Nat → Nat)) => 2 * (u.2.1 - LL)) Mx (2 * Mx) := by
  refine met_startG (by decide) (Nat.le_of_ble_eq_true rfl) ?_
  intro p e s m below meth c C K hA hsz S ls hl
  generalize va_A [(h0, .inr (2, [.ref dd, .int xs9, .int ys9])), (dd, .inl (k 0, LL, .inl (fun i => nI (gg i)))), (ho, .inr (2, [.ref do9, .int (nI no9), .int (sgI zo)])), (do9, .inl (k 0, Lo, .inl (fun i => nI (go i))))] s0 = A at hA S ⊢
  have hx := C.1
  have hb := C.2.1
  have hl : lv_has ls 2 [(0, .ref h0), (1, .ref ho)] := hl
  have hr0 := hr
  obtain ⟨r1, r2, r3⟩ := hr0
  have hv0 := hv
  obtain ⟨v1, v2, v3, v4, v5, v6⟩ := hv0
  refine lv_aload_n hx hb d_Wh_copy_0 rfl (lv_at hl 0 rfl) ?_
  refine lv_aload_n hx hb d_Wh_copy_1 rfl (lv_at hl 1 rfl) ?_
  refine r_get C K S 2 rfl rfl clOk_Wh 1 (by decide) wf_Wh_29 (v := .int (nI no9)) rfl d_Wh_copy_2 ?_
  refine q_back0 (wi := [(h0, .inr (2, [.ref dd, .int xs9, .int ys9])), (dd, .inl (k 0, LL, .inl (fun i => nI (gg i))))]) (wr := [(ho, .inr (2, [.ref do9, .int (nI no9), .int (sgI zo)])), (do9, .inl (k 0, Lo, .inl (fun i => nI (go i))))]) S hA [0, 1] [2, 3] rfl rfl (by decide) (by decide) (va_runV (As := [.int (nI no9)]) (rest := []) ⟨hx, hb, C.2.2.1, C.2.2.2.1, C.2.2.2.2.1⟩ (g_Wh_room l G k h0 _ _ no9 Mx dd LL xs9 ys9 gg (by first | exact hr | exact wh_ra hw) (by first | assumption | omega) (by first | assumption | omega) (by first | assumption | omega)) (k_virt (n := 1) C wc_Wh_room rfl rfl wz_Wh wm_Wh_32 wn_Wh_room ws_Wh_room (by decide +kernel) ⟨(Nat.le_of_ble_eq_true rfl), (Nat.le_of_ble_eq_true rfl)⟩) (pr_nowVG K S [0, 1] (by decide) rfl 0 rfl rfl) rfl rfl hl.1 rfl (lv_room (Nat.le_of_ble_eq_true rfl)) d_Wh_copy_5 ⟨(show 0 + Mx ≤ Mx from by omega), (show 0 + (2 * Mx) ≤ 2 * Mx from by omega)⟩) (fun w8 H locs hw1 S => ?_)
  have S : Sw G A s.heap _ _ [(ho, .inr (2, [.ref do9, .int (nI no9), .int (sgI zo)])), (do9, .inl (k 0, Lo, .inl (fun i => nI (go i)))), (h0, .inr (2, [.ref w8.1, .int xs9, .int ys9])), (w8.1, .inl (k 0, w8.2.1, .inl (fun i => nI (w8.2.2 i))))] := S
  have hw1 : raO w8.2.1 w8.2.2 ∧ LL ≤ w8.2.1 ∧ no9 ≤ w8.2.1 ∧ w8.2.1 ≤ Mx ∧ ∀ i, i < LL → w8.2.2 i = gg i := hw1
  show W p l e _ s m _ below meth c H locs _ _ _ (F0 m 8 ls [])
  obtain ⟨⟨s1, s2, s3⟩, s4, s5, s6, s7⟩ := hw1
  refine lv_aload_n hx hb d_Wh_copy_8 rfl (lv_at hl 1 rfl) ?_
  refine r_get C K S 0 rfl rfl clOk_Wh 0 (by decide) wf_Wh_9 (v := .ref do9) rfl d_Wh_copy_9 ?_
  refine lv_iconst (v := 0) hx hb d_Wh_copy_12 (by decide) ?_
  refine lv_aload_n hx hb d_Wh_copy_13 rfl (lv_at hl 0 rfl) ?_
  refine r_get C K S 2 rfl rfl clOk_Wh 0 (by decide) wf_Wh_9 (v := .ref w8.1) rfl d_Wh_copy_14 ?_
  refine lv_iconst (v := 0) hx hb d_Wh_copy_17 (by decide) ?_
  refine lv_aload_n hx hb d_Wh_copy_18 rfl (lv_at hl 1 rfl) ?_
  refine r_get C K S 0 rfl rfl clOk_Wh 1 (by decide) wf_Wh_29 (v := .int (nI no9)) rfl d_Wh_copy_19 ?_
  refine r_copyI C K S hl.1 wm_Wh_35 wa_native wa_static wz_JS 1 3 rfl rfl (w := nI no9) (nn_nlt (by omega)) (by rw [nI_clamp (by omega)]; omega) (by rw [nI_clamp (by omega)]; omega) (Nat.le_of_ble_eq_true rfl) (Nat.le_of_ble_eq_true rfl) d_Wh_copy_22 (g' := fun i => nI ((fun i => if i < no9 then go i else w8.2.2 i) i)) (ws' := [(ho, .inr (2, [.ref do9, .int (nI no9), .int (sgI zo)])), (do9, .inl (k 0, Lo, .inl (fun i => nI (go i)))), (h0, .inr (2, [.ref w8.1, .int xs9, .int ys9])), (w8.1, .inl (k 0, w8.2.1, .inl (fun i => nI ((fun i => if i < no9 then go i else w8.2.2 i) i))))]) (fun i hi => by rw [nI_clamp (by omega)]; by_cases q9 : i < no9 <;> simp [q9]) rfl (fun H locs S => ?_)
  refine lv_aload_n hx hb d_Wh_copy_25 rfl (lv_at hl 0 rfl) ?_
  refine lv_aload_n hx hb d_Wh_copy_26 rfl (lv_at hl 1 rfl) ?_
  refine r_get C K S 0 rfl rfl clOk_Wh 1 (by decide) wf_Wh_29 (v := .int (nI no9)) rfl d_Wh_copy_27 ?_
  refine r_put C K S 2 rfl rfl clOk_Wh 1 (by decide) wf_Wh_29 rfl (ty := .int) (v := .int (nI no9)) (by decide +kernel) rfl rfl (Nat.le_of_ble_eq_true rfl) (fs' := [.ref w8.1, .int (nI no9), .int ys9]) (ws' := [(ho, .inr (2, [.ref do9, .int (nI no9), .int (sgI zo)])), (do9, .inl (k 0, Lo, .inl (fun i => nI (go i)))), (h0, .inr (2, [.ref w8.1, .int (nI no9), .int ys9])), (w8.1, .inl (k 0, w8.2.1, .inl (fun i => nI ((fun i => if i < no9 then go i else w8.2.2 i) i))))]) rfl rfl d_Wh_copy_30 (fun H locs S => ?_)
  refine lv_aload_n hx hb d_Wh_copy_33 rfl (lv_at hl 0 rfl) ?_
  refine lv_aload_n hx hb d_Wh_copy_34 rfl (lv_at hl 1 rfl) ?_
  refine r_get C K S 0 rfl rfl clOk_Wh 2 (by decide) wf_Wh_19 (v := .int (sgI zo)) rfl d_Wh_copy_35 ?_
  refine r_put C K S 2 rfl rfl clOk_Wh 2 (by decide) wf_Wh_19 rfl (ty := .int) (v := .int (sgI zo)) (by decide +kernel) rfl rfl (Nat.le_of_ble_eq_true rfl) (fs' := [.ref w8.1, .int (nI no9), .int (sgI zo)]) (ws' := [(ho, .inr (2, [.ref do9, .int (nI no9), .int (sgI zo)])), (do9, .inl (k 0, Lo, .inl (fun i => nI (go i)))), (h0, .inr (2, [.ref w8.1, .int (nI no9), .int (sgI zo)])), (w8.1, .inl (k 0, w8.2.1, .inl (fun i => nI ((fun i => if i < no9 then go i else w8.2.2 i) i))))]) rfl rfl d_Wh_copy_38 (fun H locs S => ?_)
  exact q_vret C K hsz (w8.1, w8.2.1, (fun i => if i < no9 then go i else w8.2.2 i)) (show whO w8.2.1 no9 (fun i => if i < no9 then go i else w8.2.2 i) zo ∧ LL ≤ w8.2.1 ∧ w8.2.1 ≤ Mx from ⟨cpy_ok hv s5 ⟨s1, s2, s3⟩, s4, s6⟩) (S.sub [2, 3, 0, 1] (by decide) rfl) d_Wh_copy_41 (show 0 + (w8.2.1 - LL) ≤ w8.2.1 - LL from by omega) (show 0 + (2 * (w8.2.1 - LL)) ≤ 2 * (w8.2.1 - LL) from by omega) (show 0 + (w8.2.1 - LL) ≤ Mx from by omega) (show 0 + (2 * (w8.2.1 - LL)) ≤ 2 * Mx from by omega)
theorem d_Wh_compareAmount_0 : decode c_Wh_compareAmount 0 = .ok (.aload_n 0, 1) := by decide +kernel
theorem d_Wh_compareAmount_1 : decode c_Wh_compareAmount 1 = .ok (.getfield 29, 3) := by decide +kernel
theorem d_Wh_compareAmount_4 : decode c_Wh_compareAmount 4 = .ok (.aload_n 1, 1) := by decide +kernel
theorem d_Wh_compareAmount_5 : decode c_Wh_compareAmount 5 = .ok (.getfield 29, 3) := by decide +kernel
theorem d_Wh_compareAmount_8 : decode c_Wh_compareAmount 8 = .ok (.if_icmp .eq 15, 3) := by decide +kernel
theorem d_Wh_compareAmount_11 : decode c_Wh_compareAmount 11 = .ok (.aload_n 0, 1) := by decide +kernel
theorem d_Wh_compareAmount_12 : decode c_Wh_compareAmount 12 = .ok (.getfield 29, 3) := by decide +kernel
theorem d_Wh_compareAmount_15 : decode c_Wh_compareAmount 15 = .ok (.aload_n 1, 1) := by decide +kernel
theorem d_Wh_compareAmount_16 : decode c_Wh_compareAmount 16 = .ok (.getfield 29, 3) := by decide +kernel
theorem d_Wh_compareAmount_19 : decode c_Wh_compareAmount 19 = .ok (.invokestatic 41, 3) := by decide +kernel
theorem d_Wh_compareAmount_22 : decode c_Wh_compareAmount 22 = .ok (.ireturn, 1) := by decide +kernel
theorem d_Wh_compareAmount_23 : decode c_Wh_compareAmount 23 = .ok (.aload_n 0, 1) := by decide +kernel
theorem d_Wh_compareAmount_24 : decode c_Wh_compareAmount 24 = .ok (.getfield 29, 3) := by decide +kernel
theorem d_Wh_compareAmount_27 : decode c_Wh_compareAmount 27 = .ok (.iconst 1, 1) := by decide +kernel
theorem d_Wh_compareAmount_28 : decode c_Wh_compareAmount 28 = .ok (.isub, 1) := by decide +kernel
theorem d_Wh_compareAmount_29 : decode c_Wh_compareAmount 29 = .ok (.istore_n 2, 1) := by decide +kernel
theorem d_Wh_compareAmount_30 : decode c_Wh_compareAmount 30 = .ok (.iload_n 2, 1) := by decide +kernel
theorem d_Wh_compareAmount_31 : decode c_Wh_compareAmount 31 = .ok (.ifCond .lt 40, 3) := by decide +kernel
theorem d_Wh_compareAmount_34 : decode c_Wh_compareAmount 34 = .ok (.aload_n 0, 1) := by decide +kernel
theorem d_Wh_compareAmount_35 : decode c_Wh_compareAmount 35 = .ok (.getfield 9, 3) := by decide +kernel
theorem d_Wh_compareAmount_38 : decode c_Wh_compareAmount 38 = .ok (.iload_n 2, 1) := by decide +kernel
theorem d_Wh_compareAmount_39 : decode c_Wh_compareAmount 39 = .ok (.iaload, 1) := by decide +kernel
theorem d_Wh_compareAmount_40 : decode c_Wh_compareAmount 40 = .ok (.aload_n 1, 1) := by decide +kernel
theorem d_Wh_compareAmount_41 : decode c_Wh_compareAmount 41 = .ok (.getfield 9, 3) := by decide +kernel
theorem d_Wh_compareAmount_44 : decode c_Wh_compareAmount 44 = .ok (.iload_n 2, 1) := by decide +kernel
theorem d_Wh_compareAmount_45 : decode c_Wh_compareAmount 45 = .ok (.iaload, 1) := by decide +kernel
theorem d_Wh_compareAmount_46 : decode c_Wh_compareAmount 46 = .ok (.if_icmp .eq 19, 3) := by decide +kernel
theorem d_Wh_compareAmount_49 : decode c_Wh_compareAmount 49 = .ok (.aload_n 0, 1) := by decide +kernel
theorem d_Wh_compareAmount_50 : decode c_Wh_compareAmount 50 = .ok (.getfield 9, 3) := by decide +kernel
theorem d_Wh_compareAmount_53 : decode c_Wh_compareAmount 53 = .ok (.iload_n 2, 1) := by decide +kernel
theorem d_Wh_compareAmount_54 : decode c_Wh_compareAmount 54 = .ok (.iaload, 1) := by decide +kernel
theorem d_Wh_compareAmount_55 : decode c_Wh_compareAmount 55 = .ok (.aload_n 1, 1) := by decide +kernel
theorem d_Wh_compareAmount_56 : decode c_Wh_compareAmount 56 = .ok (.getfield 9, 3) := by decide +kernel
theorem d_Wh_compareAmount_59 : decode c_Wh_compareAmount 59 = .ok (.iload_n 2, 1) := by decide +kernel
theorem d_Wh_compareAmount_60 : decode c_Wh_compareAmount 60 = .ok (.iaload, 1) := by decide +kernel
theorem d_Wh_compareAmount_61 : decode c_Wh_compareAmount 61 = .ok (.invokestatic 41, 3) := by decide +kernel
theorem d_Wh_compareAmount_64 : decode c_Wh_compareAmount 64 = .ok (.ireturn, 1) := by decide +kernel
theorem d_Wh_compareAmount_65 : decode c_Wh_compareAmount 65 = .ok (.iinc 2 (-1), 3) := by decide +kernel
theorem d_Wh_compareAmount_68 : decode c_Wh_compareAmount 68 = .ok (.goto (-38), 3) := by decide +kernel
theorem d_Wh_compareAmount_71 : decode c_Wh_compareAmount 71 = .ok (.iconst 0, 1) := by decide +kernel
theorem d_Wh_compareAmount_72 : decode c_Wh_compareAmount 72 = .ok (.ireturn, 1) := by decide +kernel
set_option maxRecDepth 100000 in
set_option maxHeartbeats 16000000 in
/-- compareAmount -/
theorem g_Wh_compareAmount (l : Launch) (G : va_G) (k : Nat → ClassId) (h0 : Nat) (s0 sl : Nat) (dd : Nat) (LL : Nat) (nn9 : Nat) (gg : Nat → Nat) (zz : Int) (ho : Nat) (do9 : Nat) (Lo : Nat) (no9 : Nat) (go : Nat → Nat) (zo : Int) (hw : whO LL nn9 gg zz) (hv : whO Lo no9 go zo) : CG l y_Wh_compareAmount c_Wh_compareAmount 3 (some .int) { frames := 1, cells := 0, slots := 0, locals := 21 } [.ref h0, .ref ho] G k s0 sl [(h0, .inr (2, [.ref dd, .int (nI nn9), .int (sgI zz)])), (dd, .inl (k 0, LL, .inl (fun i => nI (gg i)))), (ho, .inr (2, [.ref do9, .int (nI no9), .int (sgI zo)])), (do9, .inl (k 0, Lo, .inl (fun i => nI (go i))))] (fun (u : Unit) => some (.int (cpN zz.natAbs zo.natAbs))) (fun (u : Unit) => True) (fun (u : Unit) => [(h0, .inr (2, [.ref dd, .int (nI nn9), .int (sgI zz)])), (dd, .inl (k 0, LL, .inl (fun i => nI (gg i)))), (ho, .inr (2, [.ref do9, .int (nI no9), .int (sgI zo)])), (do9, .inl (k 0, Lo, .inl (fun i => nI (go i))))]) (fun (u : Unit) => 0) (fun (u : Unit) => 0) 0 0 := by
  refine met_startG (by decide) (Nat.le_of_ble_eq_true rfl) ?_
  intro p e s m below meth c C K hA hsz S ls hl
  generalize va_A [(h0, .inr (2, [.ref dd, .int (nI nn9), .int (sgI zz)])), (dd, .inl (k 0, LL, .inl (fun i => nI (gg i)))), (ho, .inr (2, [.ref do9, .int (nI no9), .int (sgI zo)])), (do9, .inl (k 0, Lo, .inl (fun i => nI (go i))))] s0 = A at hA S ⊢
  have hx := C.1
  have hb := C.2.1
  have hl : lv_has ls 3 [(0, .ref h0), (1, .ref ho)] := hl
  have hw0 := hw
  obtain ⟨w1, w2, w3, w4, w5, w6⟩ := hw0
  have hv0 := hv
  obtain ⟨v1, v2, v3, v4, v5, v6⟩ := hv0
  refine lv_aload_n hx hb d_Wh_compareAmount_0 rfl (lv_at hl 0 rfl) ?_
  refine r_get C K S 0 rfl rfl clOk_Wh 1 (by decide) wf_Wh_29 (v := .int (nI nn9)) rfl d_Wh_compareAmount_1 ?_
  refine lv_aload_n hx hb d_Wh_compareAmount_4 rfl (lv_at hl 1 rfl) ?_
  refine r_get C K S 2 rfl rfl clOk_Wh 1 (by decide) wf_Wh_29 (v := .int (nI no9)) rfl d_Wh_compareAmount_5 ?_
  refine z_icmp_eq (a := nn9) (b := no9) (tgt := 23) hx hb d_Wh_compareAmount_8 (by decide) (by omega) (by omega) (fun hc1 => ?_) (fun hc1 => ?_)
  · refine lv_aload_n hx hb d_Wh_compareAmount_23 rfl (lv_at hl 0 rfl) ?_
    refine r_get C K S 0 rfl rfl clOk_Wh 1 (by decide) wf_Wh_29 (v := .int (nI nn9)) rfl d_Wh_compareAmount_24 ?_
    refine lv_iconst (v := 1) hx hb d_Wh_compareAmount_27 (by decide) ?_
    refine z_isub (v := pm nn9) hx hb d_Wh_compareAmount_28 (pm_of nn9) ?_
    refine lv_istore_n (lv' := [(2, .int (pm nn9)), (0, .ref h0), (1, .ref ho)]) hx hb d_Wh_compareAmount_29 rfl hl (by decide) rfl (fun ls hl => ?_)
    have hq9 : nn9 = no9 := by omega
    have hv2 : whO Lo nn9 go zo := by rw [hq9]; exact hv
    have lp : ∀ (t9 : Nat), (t9 ≤ nn9) → (∀ i, t9 ≤ i → i < nn9 → gg i = go i) → ∀ (H : Heap) (locs : List Loc), Sw G A s.heap H locs [(h0, .inr (2, [.ref dd, .int (nI nn9), .int (sgI zz)])), (dd, .inl (k 0, LL, .inl (fun i => nI (gg i)))), (ho, .inr (2, [.ref do9, .int (nI no9), .int (sgI zo)])), (do9, .inl (k 0, Lo, .inl (fun i => nI (go i))))] → ∀ ls : Array Slot, lv_has ls 3 [(2, .int (pm t9)), (0, .ref h0), (1, .ref ho)] → W p l e { frames := 1, cells := 0, slots := 0, locals := 21 } s m [Value.ref h0, Value.ref ho].toArray below meth c H locs 0 0 (MQ below (va_Qg (fun (u : Unit) => some (.int (cpN zz.natAbs zo.natAbs))) (fun (u : Unit) => True) (Pog G k A (fun (u : Unit) => [(h0, .inr (2, [.ref dd, .int (nI nn9), .int (sgI zz)])), (dd, .inl (k 0, LL, .inl (fun i => nI (gg i)))), (ho, .inr (2, [.ref do9, .int (nI no9), .int (sgI zo)])), (do9, .inl (k 0, Lo, .inl (fun i => nI (go i))))]) s0 sl (fun (u : Unit) => 0) (fun (u : Unit) => 0)) A) [Value.ref h0, Value.ref ho].toArray s 0 0 A) (F0 m 30 ls []) := by
      intro t9
      induction t9 with
      | zero =>
        intro ht he H locs S ls hl
        have hl : lv_has ls 3 [(2, .int (-1)), (0, .ref h0), (1, .ref ho)] := hl
        refine lv_iload_n hx hb d_Wh_compareAmount_30 rfl (lv_at hl 0 rfl) ?_
        refine lv_if_lt (tgt := 71) hx hb d_Wh_compareAmount_31 (by decide) (fun _ => ?_) (fun hq => absurd (by decide) hq)
        refine lv_iconst (v := 0) hx hb d_Wh_compareAmount_71 (by decide) ?_
        exact q_iret C K hsz rfl () (by rw [← ca_all hw hv2 (fun i q => he i (by omega) q)]) trivial (S.sub [0, 1, 2, 3] (by decide) rfl) d_Wh_compareAmount_72 (Nat.zero_le _) (Nat.zero_le _) (Nat.zero_le _) (Nat.zero_le _)
      | succ y9 ih_lp =>
        intro ht he H locs S ls hl
        have hl : lv_has ls 3 [(2, .int (nI y9)), (0, .ref h0), (1, .ref ho)] := hl
        have b1 := w4 y9
        have b2 := v4 y9
        refine lv_iload_n hx hb d_Wh_compareAmount_30 rfl (lv_at hl 0 rfl) ?_
        refine z_if_lt (a := y9) (tgt := 71) hx hb d_Wh_compareAmount_31 (by decide) (by omega) ?_
        refine lv_aload_n hx hb d_Wh_compareAmount_34 rfl (lv_at hl 1 rfl) ?_
        refine r_get C K S 0 rfl rfl clOk_Wh 0 (by decide) wf_Wh_9 (v := .ref dd) rfl d_Wh_compareAmount_35 ?_
        refine lv_iload_n hx hb d_Wh_compareAmount_38 rfl (lv_at hl 0 rfl) ?_
        refine r_iald C K S 1 rfl (i := nI y9) (show vp_in (nI y9) _ from vp_in_nI (n := y9) (by omega) (by omega)) (v := nI (gg y9)) (by rw [nI_clamp (by omega)]) d_Wh_compareAmount_39 ?_
        refine lv_aload_n hx hb d_Wh_compareAmount_40 rfl (lv_at hl 2 rfl) ?_
        refine r_get C K S 2 rfl rfl clOk_Wh 0 (by decide) wf_Wh_9 (v := .ref do9) rfl d_Wh_compareAmount_41 ?_
        refine lv_iload_n hx hb d_Wh_compareAmount_44 rfl (lv_at hl 0 rfl) ?_
        refine r_iald C K S 3 rfl (i := nI y9) (show vp_in (nI y9) _ from vp_in_nI (n := y9) (by omega) (by omega)) (v := nI (go y9)) (by rw [nI_clamp (by omega)]) d_Wh_compareAmount_45 ?_
        refine z_icmp_eq (a := (gg y9)) (b := (go y9)) (tgt := 65) hx hb d_Wh_compareAmount_46 (by decide) (by omega) (by omega) (fun hc2 => ?_) (fun hc2 => ?_)
        · refine lv_iinc (v := pm y9) (lv' := [(2, .int (pm y9)), (0, .ref h0), (1, .ref ho)]) hx hb d_Wh_compareAmount_65 hl (k := 0) rfl (pm_dn y9) (by decide) rfl (fun ls hl => ?_)
          refine lv_goto (tgt := 30) hx hb d_Wh_compareAmount_68 (by decide) ?_
          exact ih_lp (by omega) (fun i q1 q2 => (Decidable.em (i = y9)).elim (fun q3 => by rw [q3]; omega) (fun q3 => he i (by omega) q2)) _ _ (S.sub [0, 1, 2, 3] (by decide) rfl) ls (lv_sub hl [0, 1, 2] rfl)
        · refine lv_aload_n hx hb d_Wh_compareAmount_49 rfl (lv_at hl 1 rfl) ?_
          refine r_get C K S 0 rfl rfl clOk_Wh 0 (by decide) wf_Wh_9 (v := .ref dd) rfl d_Wh_compareAmount_50 ?_
          refine lv_iload_n hx hb d_Wh_compareAmount_53 rfl (lv_at hl 0 rfl) ?_
          refine r_iald C K S 1 rfl (i := nI y9) (show vp_in (nI y9) _ from vp_in_nI (n := y9) (by omega) (by omega)) (v := nI (gg y9)) (by rw [nI_clamp (by omega)]) d_Wh_compareAmount_54 ?_
          refine lv_aload_n hx hb d_Wh_compareAmount_55 rfl (lv_at hl 2 rfl) ?_
          refine r_get C K S 2 rfl rfl clOk_Wh 0 (by decide) wf_Wh_9 (v := .ref do9) rfl d_Wh_compareAmount_56 ?_
          refine lv_iload_n hx hb d_Wh_compareAmount_59 rfl (lv_at hl 0 rfl) ?_
          refine r_iald C K S 3 rfl (i := nI y9) (show vp_in (nI y9) _ from vp_in_nI (n := y9) (by omega) (by omega)) (v := nI (go y9)) (by rw [nI_clamp (by omega)]) d_Wh_compareAmount_60 ?_
          refine q_back0 (wi := []) (wr := [(h0, .inr (2, [.ref dd, .int (nI nn9), .int (sgI zz)])), (dd, .inl (k 0, LL, .inl (fun i => nI (gg i)))), (ho, .inr (2, [.ref do9, .int (nI no9), .int (sgI zo)])), (do9, .inl (k 0, Lo, .inl (fun i => nI (go i))))]) S hA [] [0, 1, 2, 3] rfl rfl (by decide) (by decide) (va_runS (As := [.int (nI (gg y9)), .int (nI (go y9))]) (rest := []) ⟨hx, hb, C.2.2.1, C.2.2.2.1, C.2.2.2.2.1⟩ (g_JI_compare l G k _ _ (nI (gg y9)) (nI (go y9))) (k_stat (n := 2) C wc_JI_compare rfl rfl wz_JI wm_Wh_41 wt_JI_compare (by decide +kernel) ⟨(Nat.le_of_ble_eq_true rfl), (Nat.le_of_ble_eq_true rfl)⟩) (pr_nowG K S [] (by decide) rfl) rfl rfl hl.1 rfl (lv_room (Nat.le_of_ble_eq_true rfl)) d_Wh_compareAmount_61 ⟨(Nat.zero_le _), (Nat.zero_le _)⟩) (fun u3 H locs hw4 S => ?_)
          have S : Sw G A s.heap _ _ [(h0, .inr (2, [.ref dd, .int (nI nn9), .int (sgI zz)])), (dd, .inl (k 0, LL, .inl (fun i => nI (gg i)))), (ho, .inr (2, [.ref do9, .int (nI no9), .int (sgI zo)])), (do9, .inl (k 0, Lo, .inl (fun i => nI (go i))))] := S
          have hw4 : True := hw4
          show W p l e _ s m _ below meth c H locs _ _ _ (F0 m 64 ls [.int (icI (nI (gg y9)) (nI (go y9)))])
          exact q_iret C K hsz rfl () (by rw [ca_dig hw hv2 (j := y9) (by omega) (fun i q1 q2 => he i (by omega) q2) (by omega)]) trivial (S.sub [0, 1, 2, 3] (by decide) rfl) d_Wh_compareAmount_64 (Nat.zero_le _) (Nat.zero_le _) (Nat.zero_le _) (Nat.zero_le _)
    exact lp nn9 (by omega) (fun _ q1 q2 => absurd q1 (by omega)) _ _ (S.sub [0, 1, 2, 3] (by decide) rfl) ls (lv_sub hl [0, 1, 2] rfl)
  · refine lv_aload_n hx hb d_Wh_compareAmount_11 rfl (lv_at hl 0 rfl) ?_
    refine r_get C K S 0 rfl rfl clOk_Wh 1 (by decide) wf_Wh_29 (v := .int (nI nn9)) rfl d_Wh_compareAmount_12 ?_
    refine lv_aload_n hx hb d_Wh_compareAmount_15 rfl (lv_at hl 1 rfl) ?_
    refine r_get C K S 2 rfl rfl clOk_Wh 1 (by decide) wf_Wh_29 (v := .int (nI no9)) rfl d_Wh_compareAmount_16 ?_
    refine q_back0 (wi := []) (wr := [(h0, .inr (2, [.ref dd, .int (nI nn9), .int (sgI zz)])), (dd, .inl (k 0, LL, .inl (fun i => nI (gg i)))), (ho, .inr (2, [.ref do9, .int (nI no9), .int (sgI zo)])), (do9, .inl (k 0, Lo, .inl (fun i => nI (go i))))]) S hA [] [0, 1, 2, 3] rfl rfl (by decide) (by decide) (va_runS (As := [.int (nI nn9), .int (nI no9)]) (rest := []) ⟨hx, hb, C.2.2.1, C.2.2.2.1, C.2.2.2.2.1⟩ (g_JI_compare l G k _ _ (nI nn9) (nI no9)) (k_stat (n := 2) C wc_JI_compare rfl rfl wz_JI wm_Wh_41 wt_JI_compare (by decide +kernel) ⟨(Nat.le_of_ble_eq_true rfl), (Nat.le_of_ble_eq_true rfl)⟩) (pr_nowG K S [] (by decide) rfl) rfl rfl hl.1 rfl (lv_room (Nat.le_of_ble_eq_true rfl)) d_Wh_compareAmount_19 ⟨(Nat.zero_le _), (Nat.zero_le _)⟩) (fun u5 H locs hw6 S => ?_)
    have S : Sw G A s.heap _ _ [(h0, .inr (2, [.ref dd, .int (nI nn9), .int (sgI zz)])), (dd, .inl (k 0, LL, .inl (fun i => nI (gg i)))), (ho, .inr (2, [.ref do9, .int (nI no9), .int (sgI zo)])), (do9, .inl (k 0, Lo, .inl (fun i => nI (go i))))] := S
    have hw6 : True := hw6
    show W p l e _ s m _ below meth c H locs _ _ _ (F0 m 22 ls [.int (icI (nI nn9) (nI no9))])
    exact q_iret C K hsz rfl () (by rw [ca_size hw hv (by omega)]) trivial (S.sub [0, 1, 2, 3] (by decide) rfl) d_Wh_compareAmount_22 (Nat.zero_le _) (Nat.zero_le _) (Nat.zero_le _) (Nat.zero_le _)
theorem d_Wh_compare_0 : decode c_Wh_compare 0 = .ok (.aload_n 0, 1) := by decide +kernel
theorem d_Wh_compare_1 : decode c_Wh_compare 1 = .ok (.getfield 19, 3) := by decide +kernel
theorem d_Wh_compare_4 : decode c_Wh_compare 4 = .ok (.aload_n 1, 1) := by decide +kernel
theorem d_Wh_compare_5 : decode c_Wh_compare 5 = .ok (.getfield 19, 3) := by decide +kernel
theorem d_Wh_compare_8 : decode c_Wh_compare 8 = .ok (.if_icmp .eq 15, 3) := by decide +kernel
theorem d_Wh_compare_11 : decode c_Wh_compare 11 = .ok (.aload_n 0, 1) := by decide +kernel
theorem d_Wh_compare_12 : decode c_Wh_compare 12 = .ok (.getfield 19, 3) := by decide +kernel
theorem d_Wh_compare_15 : decode c_Wh_compare 15 = .ok (.aload_n 1, 1) := by decide +kernel
theorem d_Wh_compare_16 : decode c_Wh_compare 16 = .ok (.getfield 19, 3) := by decide +kernel
theorem d_Wh_compare_19 : decode c_Wh_compare 19 = .ok (.invokestatic 41, 3) := by decide +kernel
theorem d_Wh_compare_22 : decode c_Wh_compare 22 = .ok (.ireturn, 1) := by decide +kernel
theorem d_Wh_compare_23 : decode c_Wh_compare 23 = .ok (.aload_n 0, 1) := by decide +kernel
theorem d_Wh_compare_24 : decode c_Wh_compare 24 = .ok (.getfield 19, 3) := by decide +kernel
theorem d_Wh_compare_27 : decode c_Wh_compare 27 = .ok (.aload_n 0, 1) := by decide +kernel
theorem d_Wh_compare_28 : decode c_Wh_compare 28 = .ok (.aload_n 1, 1) := by decide +kernel
theorem d_Wh_compare_29 : decode c_Wh_compare 29 = .ok (.invokevirtual 46, 3) := by decide +kernel
theorem d_Wh_compare_32 : decode c_Wh_compare 32 = .ok (.imul, 1) := by decide +kernel
theorem d_Wh_compare_33 : decode c_Wh_compare 33 = .ok (.ireturn, 1) := by decide +kernel
set_option maxRecDepth 100000 in
set_option maxHeartbeats 16000000 in
/-- compare -/
theorem g_Wh_compare (l : Launch) (G : va_G) (k : Nat → ClassId) (h0 : Nat) (s0 sl : Nat) (dd : Nat) (LL : Nat) (nn9 : Nat) (gg : Nat → Nat) (zz : Int) (ho : Nat) (do9 : Nat) (Lo : Nat) (no9 : Nat) (go : Nat → Nat) (zo : Int) (hw : whO LL nn9 gg zz) (hv : whO Lo no9 go zo) : CG l y_Wh_compare c_Wh_compare 2 (some .int) { frames := 2, cells := 0, slots := 0, locals := 43 } [.ref h0, .ref ho] G k s0 sl [(h0, .inr (2, [.ref dd, .int (nI nn9), .int (sgI zz)])), (dd, .inl (k 0, LL, .inl (fun i => nI (gg i)))), (ho, .inr (2, [.ref do9, .int (nI no9), .int (sgI zo)])), (do9, .inl (k 0, Lo, .inl (fun i => nI (go i))))] (fun (u : Unit) => some (.int (czI zz zo))) (fun (u : Unit) => True) (fun (u : Unit) => [(h0, .inr (2, [.ref dd, .int (nI nn9), .int (sgI zz)])), (dd, .inl (k 0, LL, .inl (fun i => nI (gg i)))), (ho, .inr (2, [.ref do9, .int (nI no9), .int (sgI zo)])), (do9, .inl (k 0, Lo, .inl (fun i => nI (go i))))]) (fun (u : Unit) => 0) (fun (u : Unit) => 0) 0 0 := by
  refine met_startG (by decide) (Nat.le_of_ble_eq_true rfl) ?_
  intro p e s m below meth c C K hA hsz S ls hl
  generalize va_A [(h0, .inr (2, [.ref dd, .int (nI nn9), .int (sgI zz)])), (dd, .inl (k 0, LL, .inl (fun i => nI (gg i)))), (ho, .inr (2, [.ref do9, .int (nI no9), .int (sgI zo)])), (do9, .inl (k 0, Lo, .inl (fun i => nI (go i))))] s0 = A at hA S ⊢
  have hx := C.1
  have hb := C.2.1
  have hl : lv_has ls 2 [(0, .ref h0), (1, .ref ho)] := hl
  refine lv_aload_n hx hb d_Wh_compare_0 rfl (lv_at hl 0 rfl) ?_
  refine r_get C K S 0 rfl rfl clOk_Wh 2 (by decide) wf_Wh_19 (v := .int (sgI zz)) rfl d_Wh_compare_1 ?_
  refine lv_aload_n hx hb d_Wh_compare_4 rfl (lv_at hl 1 rfl) ?_
  refine r_get C K S 2 rfl rfl clOk_Wh 2 (by decide) wf_Wh_19 (v := .int (sgI zo)) rfl d_Wh_compare_5 ?_
  refine lv_icmp_eq (tgt := 23) hx hb d_Wh_compare_8 (by decide) (fun hc1 => ?_) (fun hc1 => ?_)
  · refine lv_aload_n hx hb d_Wh_compare_23 rfl (lv_at hl 0 rfl) ?_
    refine r_get C K S 0 rfl rfl clOk_Wh 2 (by decide) wf_Wh_19 (v := .int (sgI zz)) rfl d_Wh_compare_24 ?_
    refine lv_aload_n hx hb d_Wh_compare_27 rfl (lv_at hl 0 rfl) ?_
    refine lv_aload_n hx hb d_Wh_compare_28 rfl (lv_at hl 1 rfl) ?_
    refine q_back0 (wi := [(h0, .inr (2, [.ref dd, .int (nI nn9), .int (sgI zz)])), (dd, .inl (k 0, LL, .inl (fun i => nI (gg i)))), (ho, .inr (2, [.ref do9, .int (nI no9), .int (sgI zo)])), (do9, .inl (k 0, Lo, .inl (fun i => nI (go i))))]) (wr := []) S hA [0, 1, 2, 3] [] rfl rfl (by decide) (by decide) (va_runV (As := [.ref ho]) (rest := [.int (sgI zz)]) ⟨hx, hb, C.2.2.1, C.2.2.2.1, C.2.2.2.2.1⟩ (g_Wh_compareAmount l G k h0 _ _ dd LL nn9 gg zz ho do9 Lo no9 go zo (by first | assumption | omega) (by first | assumption | omega)) (k_virt (n := 1) C wc_Wh_compareAmount rfl rfl wz_Wh wm_Wh_46 wn_Wh_compareAmount ws_Wh_compareAmount (by decide +kernel) ⟨(Nat.le_of_ble_eq_true rfl), (Nat.le_of_ble_eq_true rfl)⟩) (pr_nowVG K S [0, 1, 2, 3] (by decide) rfl 0 rfl rfl) rfl rfl hl.1 rfl (lv_room (Nat.le_of_ble_eq_true rfl)) d_Wh_compare_29 ⟨(Nat.zero_le _), (Nat.zero_le _)⟩) (fun u2 H locs hw3 S => ?_)
    have S : Sw G A s.heap _ _ [(h0, .inr (2, [.ref dd, .int (nI nn9), .int (sgI zz)])), (dd, .inl (k 0, LL, .inl (fun i => nI (gg i)))), (ho, .inr (2, [.ref do9, .int (nI no9), .int (sgI zo)])), (do9, .inl (k 0, Lo, .inl (fun i => nI (go i))))] := S
    have hw3 : True := hw3
    show W p l e _ s m _ below meth c H locs _ _ _ (F0 m 32 ls [.int (cpN zz.natAbs zo.natAbs), .int (sgI zz)])
    refine z_imul (v := czI zz zo) hx hb d_Wh_compare_32 (cz_am hc1) ?_
    exact q_iret C K hsz rfl () rfl trivial (S.sub [0, 1, 2, 3] (by decide) rfl) d_Wh_compare_33 (Nat.zero_le _) (Nat.zero_le _) (Nat.zero_le _) (Nat.zero_le _)
  · refine lv_aload_n hx hb d_Wh_compare_11 rfl (lv_at hl 0 rfl) ?_
    refine r_get C K S 0 rfl rfl clOk_Wh 2 (by decide) wf_Wh_19 (v := .int (sgI zz)) rfl d_Wh_compare_12 ?_
    refine lv_aload_n hx hb d_Wh_compare_15 rfl (lv_at hl 1 rfl) ?_
    refine r_get C K S 2 rfl rfl clOk_Wh 2 (by decide) wf_Wh_19 (v := .int (sgI zo)) rfl d_Wh_compare_16 ?_
    refine q_back0 (wi := []) (wr := [(h0, .inr (2, [.ref dd, .int (nI nn9), .int (sgI zz)])), (dd, .inl (k 0, LL, .inl (fun i => nI (gg i)))), (ho, .inr (2, [.ref do9, .int (nI no9), .int (sgI zo)])), (do9, .inl (k 0, Lo, .inl (fun i => nI (go i))))]) S hA [] [0, 1, 2, 3] rfl rfl (by decide) (by decide) (va_runS (As := [.int (sgI zz), .int (sgI zo)]) (rest := []) ⟨hx, hb, C.2.2.1, C.2.2.2.1, C.2.2.2.2.1⟩ (g_JI_compare l G k _ _ (sgI zz) (sgI zo)) (k_stat (n := 2) C wc_JI_compare rfl rfl wz_JI wm_Wh_41 wt_JI_compare (by decide +kernel) ⟨(Nat.le_of_ble_eq_true rfl), (Nat.le_of_ble_eq_true rfl)⟩) (pr_nowG K S [] (by decide) rfl) rfl rfl hl.1 rfl (lv_room (Nat.le_of_ble_eq_true rfl)) d_Wh_compare_19 ⟨(Nat.zero_le _), (Nat.zero_le _)⟩) (fun u4 H locs hw5 S => ?_)
    have S : Sw G A s.heap _ _ [(h0, .inr (2, [.ref dd, .int (nI nn9), .int (sgI zz)])), (dd, .inl (k 0, LL, .inl (fun i => nI (gg i)))), (ho, .inr (2, [.ref do9, .int (nI no9), .int (sgI zo)])), (do9, .inl (k 0, Lo, .inl (fun i => nI (go i))))] := S
    have hw5 : True := hw5
    show W p l e _ s m _ below meth c H locs _ _ _ (F0 m 22 ls [.int (icI (sgI zz) (sgI zo))])
    exact q_iret C K hsz rfl () (by rw [cz_sg hc1]) trivial (S.sub [0, 1, 2, 3] (by decide) rfl) d_Wh_compare_22 (Nat.zero_le _) (Nat.zero_le _) (Nat.zero_le _) (Nat.zero_le _)
end
section
/-! sums, differences and products of digits of 31 bits -/
theorem vl_put {B : Nat} {T : Nat → Nat} {i v : Nat} : vl B (va_up T i v) (i + 1) = vl B T i + v * B ^ i := by
  rw [vl_s, va_up_self, vl_congr (h := T) i (fun j hj => va_up_ne T _ (by omega))]
theorem cn_step {T : Nat → Nat} {i c a R : Nat} (hI : vl 2147483648 T i + c * 2147483648 ^ i = R) : vl 2147483648 (va_up T i ((c + a) % 2147483648)) (i + 1) + (c + a) / 2147483648 * 2147483648 ^ (i + 1) = R + a * 2147483648 ^ i := by
  rw [vl_put, ← hI, Nat.pow_succ]
  have h := Nat.mod_add_div (c + a) 2147483648
  generalize hP : 2147483648 ^ i = P
  generalize (c + a) % 2147483648 = x at h ⊢
  generalize (c + a) / 2147483648 = y at h ⊢
  have e : x * P + y * (P * 2147483648) = (x + 2147483648 * y) * P := by
    rw [Nat.add_mul, Nat.mul_comm P, ← Nat.mul_assoc, Nat.mul_comm y]
  rw [Nat.add_assoc, e, h, Nat.add_mul, Nat.add_assoc]
theorem add_step {T a b : Nat → Nat} {i c : Nat} (hI : vl 2147483648 T i + c * 2147483648 ^ i = vl 2147483648 a i + vl 2147483648 b i) : vl 2147483648 (va_up T i ((c + (a i + b i)) % 2147483648)) (i + 1) + (c + (a i + b i)) / 2147483648 * 2147483648 ^ (i + 1) = vl 2147483648 a (i + 1) + vl 2147483648 b (i + 1) := by
  rw [cn_step hI, vl_s, vl_s, Nat.add_mul]
  omega
theorem dz_step {T : Nat → Nat} {i : Nat} {b a R : Int} (hI : (vl 2147483648 T i : Int) + b * (2147483648 : Int) ^ i = R) : (vl 2147483648 (va_up T i ((b + a) % 2147483648).toNat) (i + 1) : Int) + ((b + a) / 2147483648) * (2147483648 : Int) ^ (i + 1) = R + a * (2147483648 : Int) ^ i := by
  have h := cz_step (B := 2147483648) (a := a) hI
  rw [vl_put]
  have e1 : (((b + a) % 2147483648).toNat : Int) = (b + a) % 2147483648 := Int.toNat_of_nonneg (by omega)
  rw [Int.natCast_add, Int.natCast_mul, e1, Int.natCast_pow, Int.pow_succ, Int.mul_comm ((2147483648 : Int) ^ i)]
  exact h
theorem sub_step {T a b : Nat → Nat} {i : Nat} {c : Int} (hI : (vl 2147483648 T i : Int) + c * (2147483648 : Int) ^ i = (vl 2147483648 a i : Int) - vl 2147483648 b i) : (vl 2147483648 (va_up T i ((c + ((a i : Int) - b i)) % 2147483648).toNat) (i + 1) : Int) + ((c + ((a i : Int) - b i)) / 2147483648) * (2147483648 : Int) ^ (i + 1) = (vl 2147483648 a (i + 1) : Int) - vl 2147483648 b (i + 1) := by
  rw [dz_step hI, vl_s, vl_s, Int.natCast_add, Int.natCast_add, Int.natCast_mul, Int.natCast_mul, Int.natCast_pow, Int.sub_mul]
  show _ + ((a i : Int) * (2147483648 : Int) ^ i - b i * (2147483648 : Int) ^ i) = (_ + (a i : Int) * (2147483648 : Int) ^ i) - (_ + (b i : Int) * (2147483648 : Int) ^ i)
  omega
/-- no borrow is left -/
theorem sub_end {V A B n : Nat} {c : Int} (hI : (V : Int) + c * (2147483648 : Int) ^ n = (A : Int) - B) (hB : B ≤ A) (hA : A < 2147483648 ^ n) (hV : V < 2147483648 ^ n) (h1 : -1 ≤ c) (h2 : c ≤ 0) : V = A - B := by
  have e : (2147483648 : Int) ^ n = ((2147483648 ^ n : Nat) : Int) := by rw [Int.natCast_pow]; rfl
  rw [e] at hI
  generalize 2147483648 ^ n = P at hI hA hV
  rcases (show c = -1 ∨ c = 0 by omega) with q | q
  · subst q; omega
  · subst q; omega
theorem add_end {V A B n c m1 m2 : Nat} (hI : V + c * 2147483648 ^ n = A + B) (h1 : A < 2147483648 ^ m1) (h2 : B < 2147483648 ^ m2) (k1 : m1 < n) (k2 : m2 < n) : c = 0 ∧ V = A + B := by
  apply no_carry hI
  have e1 : 2147483648 ^ m1 ≤ 2147483648 ^ (n - 1) := Nat.pow_le_pow_right (by decide) (by omega)
  have e2 : 2147483648 ^ m2 ≤ 2147483648 ^ (n - 1) := Nat.pow_le_pow_right (by decide) (by omega)
  have e3 : 2147483648 ^ n = 2147483648 ^ (n - 1) * 2147483648 := by rw [← Nat.pow_succ]; congr 1; omega
  omega
theorem dg_eq2 {n i : Nat} {g g2 : Nat → Nat} (h : i < n → g i = g2 i) : dgN n g i = dgN n g2 i := by
  unfold dgN
  split
  · exact h (by assumption)
  · rfl
/-- a whole number by its amount -/
theorem wh_of {L n : Nat} {g : Nat → Nat} {a : Nat} {z : Int} (h1 : n ≤ L) (h2 : raO L g) (h3 : n = 0 ∨ g (n - 1) ≠ 0) (h4 : vl 2147483648 g n = a) (h5 : z.natAbs = a) : whO L n g z := ⟨h1, h2.1, h2.2.1, h2.2.2, h3, by rw [h4, h5]⟩
/-- one row of a product: its inner step, its end -/
theorem mul_in {T x y : Nat → Nat} {N i j c R : Nat} (hp : i + j < N) (hI : vl 2147483648 T N + c * 2147483648 ^ (i + j) = R + x i * vl 2147483648 y j * 2147483648 ^ i) : vl 2147483648 (va_up T (i + j) ((c + (T (i + j) + x i * y j)) % 2147483648)) N + (c + (T (i + j) + x i * y j)) / 2147483648 * 2147483648 ^ (i + (j + 1)) = R + x i * vl 2147483648 y (j + 1) * 2147483648 ^ i := by
  have h := vl_mul_step (B := 2147483648) (T := T) (N := N) (p := i + j) (d := x i) (y := y j) (c := c) hp hI
  rw [show x i * y j + T (i + j) + c = c + (T (i + j) + x i * y j) by omega] at h
  rw [show i + (j + 1) = i + j + 1 by omega, h, vl_s, Nat.mul_add, Nat.add_mul, Nat.pow_add, Nat.add_assoc]
  congr 2
  rw [Nat.mul_assoc (x i), Nat.mul_assoc (x i), Nat.mul_assoc (y j), Nat.mul_comm (2147483648 ^ i)]
theorem mul_out {T x y : Nat → Nat} {N i n c : Nat} (hp : i + n < N) (hz : T (i + n) = 0) (hI : vl 2147483648 T N + c * 2147483648 ^ (i + n) = vl 2147483648 x i * vl 2147483648 y n + x i * vl 2147483648 y n * 2147483648 ^ i) : vl 2147483648 (va_up T (i + n) c) N = vl 2147483648 x (i + 1) * vl 2147483648 y n := by
  have h := vl_up (B := 2147483648) (g := T) (j := i + n) (v := c) N hp
  rw [hz, Nat.zero_mul, Nat.add_zero, hI] at h
  rw [h, vl_s, Nat.add_mul]
  congr 1
  rw [Nat.mul_assoc, Nat.mul_assoc, Nat.mul_comm (vl 2147483648 y n)]
theorem mul_cb {x y t c : Nat} (h1 : x < 2147483648) (h2 : y < 2147483648) (h3 : t < 2147483648) (h4 : c < 2147483648) : c + (t + x * y) < 4611686018427387904 ∧ (c + (t + x * y)) / 2147483648 < 2147483648 := by
  have : x * y ≤ 2147483647 * 2147483647 := Nat.mul_le_mul (by omega) (by omega)
  omega
theorem sg_pick {z z2 : Int} {n : Nat} {w : Int} (hw : n = 0 ↔ w = 0) (h1 : w = 0 → z = 0) (h2 : w ≠ 0 → sgI z2 = sgI z) : (if n = 0 then 0 else sgI z2) = sgI z := by
  by_cases q : n = 0
  · rw [if_pos q, h1 (hw.mp q)]; rfl
  · rw [if_neg q, h2 (fun t => q (hw.mpr t))]
theorem sgn_eq {z z2 : Int} (h1 : z < 0 ↔ z2 < 0) (h2 : z = 0 ↔ z2 = 0) : sgI z = sgI z2 := by
  unfold sgI
  by_cases q : z < 0
  · rw [if_pos q, if_pos (h1.mp q)]
  · rw [if_neg q, if_neg (fun t => q (h1.mpr t))]
    by_cases w : z = 0
    · rw [if_pos w, if_pos (h2.mp w)]
    · rw [if_neg w, if_neg (fun t => w (h2.mpr t))]
theorem sgn_same {z z2 : Int} (h : sgI z = sgI z2) : (z < 0 ↔ z2 < 0) ∧ (z = 0 ↔ z2 = 0) := ⟨by rw [← sgn_lt, h, sgn_lt], by rw [← sgn_0, h, sgn_0]⟩
end
section
theorem d_Wh_addAmount_0 : decode c_Wh_addAmount 0 = .ok (.aload_n 0, 1) := by decide +kernel
theorem d_Wh_addAmount_1 : decode c_Wh_addAmount 1 = .ok (.getfield 29, 3) := by decide +kernel
theorem d_Wh_addAmount_4 : decode c_Wh_addAmount 4 = .ok (.aload_n 1, 1) := by decide +kernel
theorem d_Wh_addAmount_5 : decode c_Wh_addAmount 5 = .ok (.getfield 29, 3) := by decide +kernel
theorem d_Wh_addAmount_8 : decode c_Wh_addAmount 8 = .ok (.if_icmp .le 10, 3) := by decide +kernel
theorem d_Wh_addAmount_11 : decode c_Wh_addAmount 11 = .ok (.aload_n 0, 1) := by decide +kernel
theorem d_Wh_addAmount_12 : decode c_Wh_addAmount 12 = .ok (.getfield 29, 3) := by decide +kernel
theorem d_Wh_addAmount_15 : decode c_Wh_addAmount 15 = .ok (.goto 7, 3) := by decide +kernel
theorem d_Wh_addAmount_18 : decode c_Wh_addAmount 18 = .ok (.aload_n 1, 1) := by decide +kernel
theorem d_Wh_addAmount_19 : decode c_Wh_addAmount 19 = .ok (.getfield 29, 3) := by decide +kernel
theorem d_Wh_addAmount_22 : decode c_Wh_addAmount 22 = .ok (.iconst 1, 1) := by decide +kernel
theorem d_Wh_addAmount_23 : decode c_Wh_addAmount 23 = .ok (.iadd, 1) := by decide +kernel
theorem d_Wh_addAmount_24 : decode c_Wh_addAmount 24 = .ok (.istore_n 2, 1) := by decide +kernel
theorem d_Wh_addAmount_25 : decode c_Wh_addAmount 25 = .ok (.aload_n 0, 1) := by decide +kernel
theorem d_Wh_addAmount_26 : decode c_Wh_addAmount 26 = .ok (.iload_n 2, 1) := by decide +kernel
theorem d_Wh_addAmount_27 : decode c_Wh_addAmount 27 = .ok (.invokevirtual 32, 3) := by decide +kernel
theorem d_Wh_addAmount_30 : decode c_Wh_addAmount 30 = .ok (.lconst 0, 1) := by decide +kernel
theorem d_Wh_addAmount_31 : decode c_Wh_addAmount 31 = .ok (.lstore_n 3, 1) := by decide +kernel
theorem d_Wh_addAmount_32 : decode c_Wh_addAmount 32 = .ok (.iconst 0, 1) := by decide +kernel
theorem d_Wh_addAmount_33 : decode c_Wh_addAmount 33 = .ok (.istore 5, 2) := by decide +kernel
theorem d_Wh_addAmount_35 : decode c_Wh_addAmount 35 = .ok (.iload 5, 2) := by decide +kernel
theorem d_Wh_addAmount_37 : decode c_Wh_addAmount 37 = .ok (.iload_n 2, 1) := by decide +kernel
theorem d_Wh_addAmount_38 : decode c_Wh_addAmount 38 = .ok (.if_icmp .ge 45, 3) := by decide +kernel
theorem d_Wh_addAmount_41 : decode c_Wh_addAmount 41 = .ok (.lload_n 3, 1) := by decide +kernel
theorem d_Wh_addAmount_42 : decode c_Wh_addAmount 42 = .ok (.aload_n 0, 1) := by decide +kernel
theorem d_Wh_addAmount_43 : decode c_Wh_addAmount 43 = .ok (.iload 5, 2) := by decide +kernel
theorem d_Wh_addAmount_45 : decode c_Wh_addAmount 45 = .ok (.invokevirtual 64, 3) := by decide +kernel
theorem d_Wh_addAmount_48 : decode c_Wh_addAmount 48 = .ok (.i2l, 1) := by decide +kernel
theorem d_Wh_addAmount_49 : decode c_Wh_addAmount 49 = .ok (.aload_n 1, 1) := by decide +kernel
theorem d_Wh_addAmount_50 : decode c_Wh_addAmount 50 = .ok (.iload 5, 2) := by decide +kernel
theorem d_Wh_addAmount_52 : decode c_Wh_addAmount 52 = .ok (.invokevirtual 64, 3) := by decide +kernel
theorem d_Wh_addAmount_55 : decode c_Wh_addAmount 55 = .ok (.i2l, 1) := by decide +kernel
theorem d_Wh_addAmount_56 : decode c_Wh_addAmount 56 = .ok (.ladd, 1) := by decide +kernel
theorem d_Wh_addAmount_57 : decode c_Wh_addAmount 57 = .ok (.ladd, 1) := by decide +kernel
theorem d_Wh_addAmount_58 : decode c_Wh_addAmount 58 = .ok (.lstore_n 3, 1) := by decide +kernel
theorem d_Wh_addAmount_59 : decode c_Wh_addAmount 59 = .ok (.aload_n 0, 1) := by decide +kernel
theorem d_Wh_addAmount_60 : decode c_Wh_addAmount 60 = .ok (.getfield 9, 3) := by decide +kernel
theorem d_Wh_addAmount_63 : decode c_Wh_addAmount 63 = .ok (.iload 5, 2) := by decide +kernel
theorem d_Wh_addAmount_65 : decode c_Wh_addAmount 65 = .ok (.lload_n 3, 1) := by decide +kernel
theorem d_Wh_addAmount_66 : decode c_Wh_addAmount 66 = .ok (.ldc2_w 23, 3) := by decide +kernel
theorem d_Wh_addAmount_69 : decode c_Wh_addAmount 69 = .ok (.land, 1) := by decide +kernel
theorem d_Wh_addAmount_70 : decode c_Wh_addAmount 70 = .ok (.l2i, 1) := by decide +kernel
theorem d_Wh_addAmount_71 : decode c_Wh_addAmount 71 = .ok (.iastore, 1) := by decide +kernel
theorem d_Wh_addAmount_72 : decode c_Wh_addAmount 72 = .ok (.lload_n 3, 1) := by decide +kernel
theorem d_Wh_addAmount_73 : decode c_Wh_addAmount 73 = .ok (.bipush 31, 2) := by decide +kernel
theorem d_Wh_addAmount_75 : decode c_Wh_addAmount 75 = .ok (.lshr, 1) := by decide +kernel
theorem d_Wh_addAmount_76 : decode c_Wh_addAmount 76 = .ok (.lstore_n 3, 1) := by decide +kernel
theorem d_Wh_addAmount_77 : decode c_Wh_addAmount 77 = .ok (.iinc 5 1, 3) := by decide +kernel
theorem d_Wh_addAmount_80 : decode c_Wh_addAmount 80 = .ok (.goto (-45), 3) := by decide +kernel
theorem d_Wh_addAmount_83 : decode c_Wh_addAmount 83 = .ok (.aload_n 0, 1) := by decide +kernel
theorem d_Wh_addAmount_84 : decode c_Wh_addAmount 84 = .ok (.iload_n 2, 1) := by decide +kernel
theorem d_Wh_addAmount_85 : decode c_Wh_addAmount 85 = .ok (.invokevirtual 25, 3) := by decide +kernel
theorem d_Wh_addAmount_88 : decode c_Wh_addAmount 88 = .ok (.return_, 1) := by decide +kernel
set_option maxRecDepth 100000 in
set_option maxHeartbeats 16000000 in
/-- addAmount -/
theorem g_Wh_addAmount (l : Launch) (G : va_G) (k : Nat → ClassId) (h0 : Nat) (s0 sl : Nat) (Mx : Nat) (dd : Nat) (LL : Nat) (nn9 : Nat) (gg : Nat → Nat) (zz : Int) (ho : Nat) (do9 : Nat) (Lo : Nat) (no9 : Nat) (go : Nat → Nat) (zo : Int) (hw : whO LL nn9 gg zz) (hv : whO Lo no9 go zo) (hm1 : 2 * (nn9 + 1) ≤ Mx) (hm0 : 2 * (no9 + 1) ≤ Mx) (hm2 : LL ≤ Mx) (hm3 : Mx ≤ 400) : CG l y_Wh_addAmount c_Wh_addAmount 6 none { frames := 3, cells := Mx, slots := 2 * Mx, locals := 104 } [.ref h0, .ref ho] G k s0 sl [(h0, .inr (2, [.ref dd, .int (nI nn9), .int (sgI zz)])), (dd, .inl (k 0, LL, .inl (fun i => nI (gg i)))), (ho, .inr (2, [.ref do9, .int (nI no9), .int (sgI zo)])), (do9, .inl (k 0, Lo, .inl (fun i => nI (go i))))] (fun (u : Nat × Nat × Nat × (Nat → Nat)) => none) (fun (u : Nat × Nat × Nat × (Nat → Nat)) => whO u.2.1 u.2.2.1 u.2.2.2 ((zz.natAbs + zo.natAbs : Nat) : Int) ∧ LL ≤ u.2.1 ∧ u.2.1 ≤ Mx) (fun (u : Nat × Nat × Nat × (Nat → Nat)) => [(h0, .inr (2, [.ref u.1, .int (nI u.2.2.1), .int (if u.2.2.1 = 0 then 0 else sgI zz)])), (u.1, .inl (k 0, u.2.1, .inl (fun i => nI (u.2.2.2 i)))), (ho, .inr (2, [.ref do9, .int (nI no9), .int (sgI zo)])), (do9, .inl (k 0, Lo, .inl (fun i => nI (go i))))]) (fun (u : Nat × Nat × Nat × (Nat → Nat)) => u.2.1 - LL) (fun (u : Nat × Nat × Nat × (Nat → Nat)) => 2 * (u.2.1 - LL)) Mx (2 * Mx) := by
  refine met_startG (by decide) (Nat.le_of_ble_eq_true rfl) ?_
  intro p e s m below meth c C K hA hsz S ls hl
  generalize va_A [(h0, .inr (2, [.ref dd, .int (nI nn9), .int (sgI zz)])), (dd, .inl (k 0, LL, .inl (fun i => nI (gg i)))), (ho, .inr (2, [.ref do9, .int (nI no9), .int (sgI zo)])), (do9, .inl (k 0, Lo, .inl (fun i => nI (go i))))] s0 = A at hA S ⊢
  have hx := C.1
  have hb := C.2.1
  have hl : lv_has ls 6 [(0, .ref h0), (1, .ref ho)] := hl
  have hw0 := hw
  obtain ⟨w1, w2, w3, w4, w5, w6⟩ := hw0
  have hv0 := hv
  obtain ⟨v1, v2, v3, v4, v5, v6⟩ := hv0
  have key : ∀ (mo9 : Nat), (nn9 < mo9) → (no9 < mo9) → (2 * mo9 ≤ Mx) → ∀ (H : Heap) (locs : List Loc), Sw G A s.heap H locs [(h0, .inr (2, [.ref dd, .int (nI nn9), .int (sgI zz)])), (dd, .inl (k 0, LL, .inl (fun i => nI (gg i)))), (ho, .inr (2, [.ref do9, .int (nI no9), .int (sgI zo)])), (do9, .inl (k 0, Lo, .inl (fun i => nI (go i))))] → ∀ ls : Array Slot, lv_has ls 6 [(2, .int (nI mo9)), (0, .ref h0), (1, .ref ho)] → W p l e { frames := 3, cells := Mx, slots := 2 * Mx, locals := 104 } s m [Value.ref h0, Value.ref ho].toArray below meth c H locs 0 0 (MQ below (va_Qg (fun (u : Nat × Nat × Nat × (Nat → Nat)) => none) (fun (u : Nat × Nat × Nat × (Nat → Nat)) => whO u.2.1 u.2.2.1 u.2.2.2 ((zz.natAbs + zo.natAbs : Nat) : Int) ∧ LL ≤ u.2.1 ∧ u.2.1 ≤ Mx) (Pog G k A (fun (u : Nat × Nat × Nat × (Nat → Nat)) => [(h0, .inr (2, [.ref u.1, .int (nI u.2.2.1), .int (if u.2.2.1 = 0 then 0 else sgI zz)])), (u.1, .inl (k 0, u.2.1, .inl (fun i => nI (u.2.2.2 i)))), (ho, .inr (2, [.ref do9, .int (nI no9), .int (sgI zo)])), (do9, .inl (k 0, Lo, .inl (fun i => nI (go i))))]) s0 sl (fun (u : Nat × Nat × Nat × (Nat → Nat)) => u.2.1 - LL) (fun (u : Nat × Nat × Nat × (Nat → Nat)) => 2 * (u.2.1 - LL))) A) [Value.ref h0, Value.ref ho].toArray s Mx (2 * Mx) A) (F0 m 25 ls []) := by
    intro mo9 ho1 ho2 ho3 H locs S ls hl
    refine lv_aload_n hx hb d_Wh_addAmount_25 rfl (lv_at hl 1 rfl) ?_
    refine lv_iload_n hx hb d_Wh_addAmount_26 rfl (lv_at hl 0 rfl) ?_
    refine q_back0 (wi := [(h0, .inr (2, [.ref dd, .int (nI nn9), .int (sgI zz)])), (dd, .inl (k 0, LL, .inl (fun i => nI (gg i))))]) (wr := [(ho, .inr (2, [.ref do9, .int (nI no9), .int (sgI zo)])), (do9, .inl (k 0, Lo, .inl (fun i => nI (go i))))]) S hA [0, 1] [2, 3] rfl rfl (by decide) (by decide) (va_runV (As := [.int (nI mo9)]) (rest := []) ⟨hx, hb, C.2.2.1, C.2.2.2.1, C.2.2.2.2.1⟩ (g_Wh_room l G k h0 _ _ mo9 Mx dd LL (nI nn9) (sgI zz) gg (by first | exact hr | exact wh_ra hw) (by first | assumption | omega) (by first | assumption | omega) (by first | assumption | omega)) (k_virt (n := 1) C wc_Wh_room rfl rfl wz_Wh wm_Wh_32 wn_Wh_room ws_Wh_room (by decide +kernel) ⟨(Nat.le_of_ble_eq_true rfl), (Nat.le_of_ble_eq_true rfl)⟩) (pr_nowVG K S [0, 1] (by decide) rfl 0 rfl rfl) rfl rfl hl.1 rfl (lv_room (Nat.le_of_ble_eq_true rfl)) d_Wh_addAmount_27 ⟨(show 0 + Mx ≤ Mx from by omega), (show 0 + (2 * Mx) ≤ 2 * Mx from by omega)⟩) (fun w8 H locs hw1 S => ?_)
    have S : Sw G A s.heap _ _ [(ho, .inr (2, [.ref do9, .int (nI no9), .int (sgI zo)])), (do9, .inl (k 0, Lo, .inl (fun i => nI (go i)))), (h0, .inr (2, [.ref w8.1, .int (nI nn9), .int (sgI zz)])), (w8.1, .inl (k 0, w8.2.1, .inl (fun i => nI (w8.2.2 i))))] := S
    have hw1 : raO w8.2.1 w8.2.2 ∧ LL ≤ w8.2.1 ∧ mo9 ≤ w8.2.1 ∧ w8.2.1 ≤ Mx ∧ ∀ i, i < LL → w8.2.2 i = gg i := hw1
    show W p l e _ s m _ below meth c H locs _ _ _ (F0 m 30 ls [])
    obtain ⟨⟨s1, s2, s3⟩, s4, s5, s6, s7⟩ := hw1
    refine lv_lconst (v := 0) hx hb d_Wh_addAmount_30 (by decide) ?_
    refine lv_lstore_n (lv' := [(3, .long 0), (2, .int (nI mo9)), (0, .ref h0), (1, .ref ho)]) hx hb d_Wh_addAmount_31 rfl hl (by decide) rfl (fun ls hl => ?_)
    refine lv_iconst (v := 0) hx hb d_Wh_addAmount_32 (by decide) ?_
    refine lv_istore (lv' := [(5, .int 0), (3, .long 0), (2, .int (nI mo9)), (0, .ref h0), (1, .ref ho)]) hx hb d_Wh_addAmount_33 hl (by decide) rfl (fun ls hl => ?_)
    have lp : ∀ d9, ∀ (i9 : Nat), ∀ (c8 : Nat), ∀ (T8 : Nat → Nat), (mo9 - i9) < d9 → (i9 ≤ mo9) → (vl 2147483648 T8 i9 + c8 * 2147483648 ^ i9 = vl 2147483648 (dgN nn9 gg) i9 + vl 2147483648 (dgN no9 go) i9) → (c8 ≤ 1) → (∀ i, T8 i < 2147483648) → (∀ i, i9 ≤ i → i < LL → T8 i = gg i) → ∀ (H : Heap) (locs : List Loc), Sw G A s.heap H locs [(h0, .inr (2, [.ref w8.1, .int (nI nn9), .int (sgI zz)])), (w8.1, .inl (k 0, w8.2.1, .inl (fun i => nI (T8 i)))), (ho, .inr (2, [.ref do9, .int (nI no9), .int (sgI zo)])), (do9, .inl (k 0, Lo, .inl (fun i => nI (go i))))] → ∀ ls : Array Slot, lv_has ls 6 [(3, .long (lN c8)), (5, .int (nI i9)), (2, .int (nI mo9)), (0, .ref h0), (1, .ref ho)] → W p l e { frames := 3, cells := Mx, slots := 2 * Mx, locals := 104 } s m [Value.ref h0, Value.ref ho].toArray below meth c H locs (0 + (w8.2.1 - LL)) (0 + (2 * (w8.2.1 - LL))) (MQ below (va_Qg (fun (u : Nat × Nat × Nat × (Nat → Nat)) => none) (fun (u : Nat × Nat × Nat × (Nat → Nat)) => whO u.2.1 u.2.2.1 u.2.2.2 ((zz.natAbs + zo.natAbs : Nat) : Int) ∧ LL ≤ u.2.1 ∧ u.2.1 ≤ Mx) (Pog G k A (fun (u : Nat × Nat × Nat × (Nat → Nat)) => [(h0, .inr (2, [.ref u.1, .int (nI u.2.2.1), .int (if u.2.2.1 = 0 then 0 else sgI zz)])), (u.1, .inl (k 0, u.2.1, .inl (fun i => nI (u.2.2.2 i)))), (ho, .inr (2, [.ref do9, .int (nI no9), .int (sgI zo)])), (do9, .inl (k 0, Lo, .inl (fun i => nI (go i))))]) s0 sl (fun (u : Nat × Nat × Nat × (Nat → Nat)) => u.2.1 - LL) (fun (u : Nat × Nat × Nat × (Nat → Nat)) => 2 * (u.2.1 - LL))) A) [Value.ref h0, Value.ref ho].toArray s Mx (2 * Mx) A) (F0 m 35 ls []) := by
      intro d9
      induction d9 with
      | zero => intro i9 c8 T8 hm; exact absurd hm (Nat.not_lt_zero _)
      | succ d9 ih_lp =>
        intro i9 c8 T8 hm hi hI hc8 hD hT H locs S ls hl
        have e1 := dg_lt (n := nn9) w4 i9
        have e2 := dg_lt (n := no9) v4 i9
        refine lv_iload hx hb d_Wh_addAmount_35 (lv_at hl 1 rfl) ?_
        refine lv_iload_n hx hb d_Wh_addAmount_37 rfl (lv_at hl 2 rfl) ?_
        refine z_icmp_ge (a := i9) (b := mo9) (tgt := 83) hx hb d_Wh_addAmount_38 (by decide) (by omega) (by omega) (fun hc2 => ?_) (fun hc2 => ?_)
        · refine lv_aload_n hx hb d_Wh_addAmount_83 rfl (lv_at hl 3 rfl) ?_
          refine lv_iload_n hx hb d_Wh_addAmount_84 rfl (lv_at hl 2 rfl) ?_
          obtain rfl : i9 = mo9 := by omega
          rw [dg_vl (by omega), dg_vl (by omega), w6, v6] at hI
          obtain ⟨-, e5⟩ := add_end hI (wh_lt hw) (wh_lt hv) (by omega) (by omega)
          refine q_back0 (wi := [(h0, .inr (2, [.ref w8.1, .int (nI nn9), .int (sgI zz)])), (w8.1, .inl (k 0, w8.2.1, .inl (fun i => nI (T8 i))))]) (wr := [(ho, .inr (2, [.ref do9, .int (nI no9), .int (sgI zo)])), (do9, .inl (k 0, Lo, .inl (fun i => nI (go i))))]) S hA [0, 1] [2, 3] rfl rfl (by decide) (by decide) (va_runV (As := [.int (nI i9)]) (rest := []) ⟨hx, hb, C.2.2.1, C.2.2.2.1, C.2.2.2.2.1⟩ (g_Wh_trim l G k h0 _ _ i9 w8.1 w8.2.1 (nI nn9) (sgI zz) T8 ⟨s1, s2, hD⟩ (by omega)) (k_virt (n := 1) C wc_Wh_trim rfl rfl wz_Wh wm_Wh_25 wn_Wh_trim ws_Wh_trim (by decide +kernel) ⟨(Nat.le_of_ble_eq_true rfl), (Nat.le_of_ble_eq_true rfl)⟩) (pr_nowVG K S [0, 1] (by decide) rfl 0 rfl rfl) rfl rfl hl.1 rfl (lv_room (Nat.le_of_ble_eq_true rfl)) d_Wh_addAmount_85 ⟨(show 0 + (w8.2.1 - LL) ≤ Mx from by omega), (show 0 + (2 * (w8.2.1 - LL)) ≤ 2 * Mx from by omega)⟩) (fun n7 H locs hw3 S => ?_)
          have S : Sw G A s.heap _ _ [(ho, .inr (2, [.ref do9, .int (nI no9), .int (sgI zo)])), (do9, .inl (k 0, Lo, .inl (fun i => nI (go i)))), (h0, .inr (2, [.ref w8.1, .int (nI n7), .int (if n7 = 0 then 0 else (sgI zz))])), (w8.1, .inl (k 0, w8.2.1, .inl (fun i => nI (T8 i))))] := S
          have hw3 : n7 ≤ i9 ∧ (n7 = 0 ∨ T8 (n7 - 1) ≠ 0) ∧ vl 2147483648 T8 n7 = vl 2147483648 T8 i9 := hw3
          show W p l e _ s m _ below meth c H locs _ _ _ (F0 m 88 ls [])
          obtain ⟨t1, t2, t3⟩ := hw3
          exact q_vret C K hsz (w8.1, w8.2.1, n7, T8) (show whO w8.2.1 n7 T8 ((zz.natAbs + zo.natAbs : Nat) : Int) ∧ LL ≤ w8.2.1 ∧ w8.2.1 ≤ Mx from ⟨wh_of (by omega) ⟨s1, s2, hD⟩ t2 t3 (by rw [Int.natAbs_natCast, e5]), s4, s6⟩) (S.sub [2, 3, 0, 1] (by decide) rfl) d_Wh_addAmount_88 (show 0 + (w8.2.1 - LL) ≤ w8.2.1 - LL from by omega) (show 0 + (2 * (w8.2.1 - LL)) ≤ 2 * (w8.2.1 - LL) from by omega) (show 0 + (w8.2.1 - LL) ≤ Mx from by omega) (show 0 + (2 * (w8.2.1 - LL)) ≤ 2 * Mx from by omega)
        · refine lv_lload_n hx hb d_Wh_addAmount_41 rfl (lv_at hl 0 rfl) ?_
          refine lv_aload_n hx hb d_Wh_addAmount_42 rfl (lv_at hl 3 rfl) ?_
          refine lv_iload hx hb d_Wh_addAmount_43 (lv_at hl 1 rfl) ?_
          refine q_back0 (wi := [(h0, .inr (2, [.ref w8.1, .int (nI nn9), .int (sgI zz)])), (w8.1, .inl (k 0, w8.2.1, .inl (fun i => nI (T8 i))))]) (wr := [(ho, .inr (2, [.ref do9, .int (nI no9), .int (sgI zo)])), (do9, .inl (k 0, Lo, .inl (fun i => nI (go i))))]) S hA [0, 1] [2, 3] rfl rfl (by decide) (by decide) (va_runV (As := [.int (nI i9)]) (rest := [.long (lN c8)]) ⟨hx, hb, C.2.2.1, C.2.2.2.1, C.2.2.2.2.1⟩ (g_Wh_digit l G k h0 _ _ i9 w8.1 w8.2.1 nn9 (sgI zz) T8 ⟨s1, s2, hD⟩ (by omega) (by omega)) (k_virt (n := 1) C wc_Wh_digit rfl rfl wz_Wh wm_Wh_64 wn_Wh_digit ws_Wh_digit (by decide +kernel) ⟨(Nat.le_of_ble_eq_true rfl), (Nat.le_of_ble_eq_true rfl)⟩) (pr_nowVG K S [0, 1] (by decide) rfl 0 rfl rfl) rfl rfl hl.1 rfl (lv_room (Nat.le_of_ble_eq_true rfl)) d_Wh_addAmount_45 ⟨(show 0 + (w8.2.1 - LL) ≤ Mx from by omega), (show 0 + (2 * (w8.2.1 - LL)) ≤ 2 * Mx from by omega)⟩) (fun u4 H locs hw5 S => ?_)
          have S : Sw G A s.heap _ _ [(ho, .inr (2, [.ref do9, .int (nI no9), .int (sgI zo)])), (do9, .inl (k 0, Lo, .inl (fun i => nI (go i)))), (h0, .inr (2, [.ref w8.1, .int (nI nn9), .int (sgI zz)])), (w8.1, .inl (k 0, w8.2.1, .inl (fun i => nI (T8 i))))] := S
          have hw5 : True := hw5
          show W p l e _ s m _ below meth c H locs _ _ _ (F0 m 48 ls [.int (nI (dgN nn9 T8 i9)), .long (lN c8)])
          rw [dg_eq2 (n := nn9) (g2 := gg) (fun q9 => hT i9 (Nat.le_refl _) (by omega))]
          refine lv_i2l (v := lN (dgN nn9 gg i9)) hx hb d_Wh_addAmount_48 (show (nI (dgN nn9 gg i9) : Int32).toInt64 = _ from nI_l (n := (dgN nn9 gg i9)) (by omega)) ?_
          refine lv_aload_n hx hb d_Wh_addAmount_49 rfl (lv_at hl 4 rfl) ?_
          refine lv_iload hx hb d_Wh_addAmount_50 (lv_at hl 1 rfl) ?_
          refine q_back0 (wi := [(ho, .inr (2, [.ref do9, .int (nI no9), .int (sgI zo)])), (do9, .inl (k 0, Lo, .inl (fun i => nI (go i))))]) (wr := [(h0, .inr (2, [.ref w8.1, .int (nI nn9), .int (sgI zz)])), (w8.1, .inl (k 0, w8.2.1, .inl (fun i => nI (T8 i))))]) S hA [0, 1] [2, 3] rfl rfl (by decide) (by decide) (va_runV (As := [.int (nI i9)]) (rest := [.long (lN (dgN nn9 gg i9)), .long (lN c8)]) ⟨hx, hb, C.2.2.1, C.2.2.2.1, C.2.2.2.2.1⟩ (g_Wh_digit l G k ho _ _ i9 do9 Lo no9 (sgI zo) go (wh_ra hv) (by omega) (by omega)) (k_virt (n := 1) C wc_Wh_digit rfl rfl wz_Wh wm_Wh_64 wn_Wh_digit ws_Wh_digit (by decide +kernel) ⟨(Nat.le_of_ble_eq_true rfl), (Nat.le_of_ble_eq_true rfl)⟩) (pr_nowVG K S [0, 1] (by decide) rfl 0 rfl rfl) rfl rfl hl.1 rfl (lv_room (Nat.le_of_ble_eq_true rfl)) d_Wh_addAmount_52 ⟨(show 0 + (w8.2.1 - LL) ≤ Mx from by omega), (show 0 + (2 * (w8.2.1 - LL)) ≤ 2 * Mx from by omega)⟩) (fun u6 H locs hw7 S => ?_)
          have S : Sw G A s.heap _ _ [(h0, .inr (2, [.ref w8.1, .int (nI nn9), .int (sgI zz)])), (w8.1, .inl (k 0, w8.2.1, .inl (fun i => nI (T8 i)))), (ho, .inr (2, [.ref do9, .int (nI no9), .int (sgI zo)])), (do9, .inl (k 0, Lo, .inl (fun i => nI (go i))))] := S
          have hw7 : True := hw7
          show W p l e _ s m _ below meth c H locs _ _ _ (F0 m 55 ls [.int (nI (dgN no9 go i9)), .long (lN (dgN nn9 gg i9)), .long (lN c8)])
          refine lv_i2l (v := lN (dgN no9 go i9)) hx hb d_Wh_addAmount_55 (show (nI (dgN no9 go i9) : Int32).toInt64 = _ from nI_l (n := (dgN no9 go i9)) (by omega)) ?_
          refine z_ladd (x := lN (dgN nn9 gg i9)) (y := lN (dgN no9 go i9)) (v := lN (dgN nn9 gg i9 + dgN no9 go i9)) hx hb d_Wh_addAmount_56 (lN_add (dgN nn9 gg i9) (dgN no9 go i9)) ?_
          refine z_ladd (x := lN c8) (y := lN (dgN nn9 gg i9 + dgN no9 go i9)) (v := lN (c8 + (dgN nn9 gg i9 + dgN no9 go i9))) hx hb d_Wh_addAmount_57 (lN_add c8 (dgN nn9 gg i9 + dgN no9 go i9)) ?_
          refine lv_lstore_n (lv' := [(3, .long (lN (c8 + (dgN nn9 gg i9 + dgN no9 go i9)))), (5, .int (nI i9)), (2, .int (nI mo9)), (0, .ref h0), (1, .ref ho)]) hx hb d_Wh_addAmount_58 rfl hl (by decide) rfl (fun ls hl => ?_)
          refine lv_aload_n hx hb d_Wh_addAmount_59 rfl (lv_at hl 3 rfl) ?_
          refine r_get C K S 0 rfl rfl clOk_Wh 0 (by decide) wf_Wh_9 (v := .ref w8.1) rfl d_Wh_addAmount_60 ?_
          refine lv_iload hx hb d_Wh_addAmount_63 (lv_at hl 1 rfl) ?_
          refine lv_lload_n hx hb d_Wh_addAmount_65 rfl (lv_at hl 0 rfl) ?_
          refine lv_ldc2 (v := 2147483647) hx hb C.2.2.2.1 (C.2.2.2.2.1 _ wk_Wh_23) d_Wh_addAmount_66 ?_
          refine z_land (v := lN ((c8 + (dgN nn9 gg i9 + dgN no9 go i9)) % 2147483648)) hx hb d_Wh_addAmount_69 (lN_and31 (by omega)) ?_
          refine lv_l2i (v := nI ((c8 + (dgN nn9 gg i9 + dgN no9 go i9)) % 2147483648)) hx hb d_Wh_addAmount_70 (lN_i ((c8 + (dgN nn9 gg i9 + dgN no9 go i9)) % 2147483648)) ?_
          refine r_iast C K S 1 rfl (i := nI i9) (x := nI ((c8 + (dgN nn9 gg i9 + dgN no9 go i9)) % 2147483648)) (show vp_in (nI i9) _ from vp_in_nI (n := i9) (by omega) (by omega)) (f' := fun i => nI (va_up T8 i9 ((c8 + (dgN nn9 gg i9 + dgN no9 go i9)) % 2147483648) i)) (ws' := [(h0, .inr (2, [.ref w8.1, .int (nI nn9), .int (sgI zz)])), (w8.1, .inl (k 0, w8.2.1, .inl (fun i => nI (va_up T8 i9 ((c8 + (dgN nn9 gg i9 + dgN no9 go i9)) % 2147483648) i)))), (ho, .inr (2, [.ref do9, .int (nI no9), .int (sgI zo)])), (do9, .inl (k 0, Lo, .inl (fun i => nI (go i))))]) (show upd _ (nI i9 : Int32).toNatClampNeg (nI ((c8 + (dgN nn9 gg i9 + dgN no9 go i9)) % 2147483648)) = _ from upd_nI T8 (j := i9) (by omega) ((c8 + (dgN nn9 gg i9 + dgN no9 go i9)) % 2147483648)) rfl d_Wh_addAmount_71 (fun H locs S => ?_)
          refine lv_lload_n hx hb d_Wh_addAmount_72 rfl (lv_at hl 0 rfl) ?_
          refine lv_bipush (v := 31) hx hb d_Wh_addAmount_73 (by decide) ?_
          refine lv_lshr (v := lN ((c8 + (dgN nn9 gg i9 + dgN no9 go i9)) / 2147483648)) hx hb d_Wh_addAmount_75 (lN_shr31 (by omega)) ?_
          refine lv_lstore_n (lv' := [(3, .long (lN ((c8 + (dgN nn9 gg i9 + dgN no9 go i9)) / 2147483648))), (5, .int (nI i9)), (2, .int (nI mo9)), (0, .ref h0), (1, .ref ho)]) hx hb d_Wh_addAmount_76 rfl hl (by decide) rfl (fun ls hl => ?_)
          refine lv_iinc (v := nI (i9 + 1)) (lv' := [(5, .int (nI (i9 + 1))), (3, .long (lN ((c8 + (dgN nn9 gg i9 + dgN no9 go i9)) / 2147483648))), (2, .int (nI mo9)), (0, .ref h0), (1, .ref ho)]) hx hb d_Wh_addAmount_77 hl (k := 1) rfl (show nI i9 + Int32.ofInt 1 = nI (i9 + 1) from (nI_add i9 1).trans (congrArg nI (by omega))) (by decide) rfl (fun ls hl => ?_)
          refine lv_goto (tgt := 35) hx hb d_Wh_addAmount_80 (by decide) ?_
          exact ih_lp (i9 + 1) ((c8 + (dgN nn9 gg i9 + dgN no9 go i9)) / 2147483648) (va_up T8 i9 ((c8 + (dgN nn9 gg i9 + dgN no9 go i9)) % 2147483648)) (by omega) (by omega) (add_step hI) (by omega) (up31 hD (by omega)) (fun i q1 q2 => by rw [va_up_ne _ _ (by omega)]; exact hT i (by omega) q2) _ _ (S.sub [0, 1, 2, 3] (by decide) rfl) ls (lv_sub hl [1, 0, 2, 3, 4] rfl)
    exact lp _ 0 0 w8.2.2 (Nat.lt_succ_self _) (by omega) rfl (by omega) s3 (fun i _ q => s7 i q) _ _ (S.sub [2, 3, 0, 1] (by decide) rfl) ls (lv_sub hl [1, 0, 2, 3, 4] rfl)
  refine lv_aload_n hx hb d_Wh_addAmount_0 rfl (lv_at hl 0 rfl) ?_
  refine r_get C K S 0 rfl rfl clOk_Wh 1 (by decide) wf_Wh_29 (v := .int (nI nn9)) rfl d_Wh_addAmount_1 ?_
  refine lv_aload_n hx hb d_Wh_addAmount_4 rfl (lv_at hl 1 rfl) ?_
  refine r_get C K S 2 rfl rfl clOk_Wh 1 (by decide) wf_Wh_29 (v := .int (nI no9)) rfl d_Wh_addAmount_5 ?_
  refine z_icmp_le (a := nn9) (b := no9) (tgt := 18) hx hb d_Wh_addAmount_8 (by decide) (by omega) (by omega) (fun hc8 => ?_) (fun hc8 => ?_)
  · refine lv_aload_n hx hb d_Wh_addAmount_18 rfl (lv_at hl 1 rfl) ?_
    refine r_get C K S 2 rfl rfl clOk_Wh 1 (by decide) wf_Wh_29 (v := .int (nI no9)) rfl d_Wh_addAmount_19 ?_
    refine lv_iconst (v := 1) hx hb d_Wh_addAmount_22 (by decide) ?_
    refine z_iadd (x := nI no9) (y := 1) (v := nI (no9 + 1)) hx hb d_Wh_addAmount_23 (nI_add no9 1) ?_
    refine lv_istore_n (lv' := [(2, .int (nI (no9 + 1))), (0, .ref h0), (1, .ref ho)]) hx hb d_Wh_addAmount_24 rfl hl (by decide) rfl (fun ls hl => ?_)
    exact key (no9 + 1) (by omega) (by omega) (by omega) _ _ (S.sub [0, 1, 2, 3] (by decide) rfl) ls (lv_sub hl [0, 1, 2] rfl)
  · refine lv_aload_n hx hb d_Wh_addAmount_11 rfl (lv_at hl 0 rfl) ?_
    refine r_get C K S 0 rfl rfl clOk_Wh 1 (by decide) wf_Wh_29 (v := .int (nI nn9)) rfl d_Wh_addAmount_12 ?_
    refine lv_goto (tgt := 22) hx hb d_Wh_addAmount_15 (by decide) ?_
    refine lv_iconst (v := 1) hx hb d_Wh_addAmount_22 (by decide) ?_
    refine z_iadd (x := nI nn9) (y := 1) (v := nI (nn9 + 1)) hx hb d_Wh_addAmount_23 (nI_add nn9 1) ?_
    refine lv_istore_n (lv' := [(2, .int (nI (nn9 + 1))), (0, .ref h0), (1, .ref ho)]) hx hb d_Wh_addAmount_24 rfl hl (by decide) rfl (fun ls hl => ?_)
    exact key (nn9 + 1) (by omega) (by omega) (by omega) _ _ (S.sub [0, 1, 2, 3] (by decide) rfl) ls (lv_sub hl [0, 1, 2] rfl)
theorem ca_le {L L2 n n2 : Nat} {g g2 : Nat → Nat} {z z2 : Int} (h : whO L n g z) (h2 : whO L2 n2 g2 z2) (hle : z.natAbs ≤ z2.natAbs) : n ≤ n2 := wh_size h (Nat.lt_of_le_of_lt hle (wh_lt h2))
theorem d_Wh_differ_0 : decode c_Wh_differ 0 = .ok (.aload_n 1, 1) := by decide +kernel
theorem d_Wh_differ_1 : decode c_Wh_differ 1 = .ok (.getfield 29, 3) := by decide +kernel
theorem d_Wh_differ_4 : decode c_Wh_differ 4 = .ok (.istore_n 3, 1) := by decide +kernel
theorem d_Wh_differ_5 : decode c_Wh_differ 5 = .ok (.aload_n 0, 1) := by decide +kernel
theorem d_Wh_differ_6 : decode c_Wh_differ 6 = .ok (.iload_n 3, 1) := by decide +kernel
theorem d_Wh_differ_7 : decode c_Wh_differ 7 = .ok (.invokevirtual 32, 3) := by decide +kernel
theorem d_Wh_differ_10 : decode c_Wh_differ 10 = .ok (.lconst 0, 1) := by decide +kernel
theorem d_Wh_differ_11 : decode c_Wh_differ 11 = .ok (.lstore 4, 2) := by decide +kernel
theorem d_Wh_differ_13 : decode c_Wh_differ 13 = .ok (.iconst 0, 1) := by decide +kernel
theorem d_Wh_differ_14 : decode c_Wh_differ 14 = .ok (.istore 6, 2) := by decide +kernel
theorem d_Wh_differ_16 : decode c_Wh_differ 16 = .ok (.iload 6, 2) := by decide +kernel
theorem d_Wh_differ_18 : decode c_Wh_differ 18 = .ok (.iload_n 3, 1) := by decide +kernel
theorem d_Wh_differ_19 : decode c_Wh_differ 19 = .ok (.if_icmp .ge 50, 3) := by decide +kernel
theorem d_Wh_differ_22 : decode c_Wh_differ 22 = .ok (.lload 4, 2) := by decide +kernel
theorem d_Wh_differ_24 : decode c_Wh_differ 24 = .ok (.aload_n 1, 1) := by decide +kernel
theorem d_Wh_differ_25 : decode c_Wh_differ 25 = .ok (.iload 6, 2) := by decide +kernel
theorem d_Wh_differ_27 : decode c_Wh_differ 27 = .ok (.invokevirtual 64, 3) := by decide +kernel
theorem d_Wh_differ_30 : decode c_Wh_differ 30 = .ok (.i2l, 1) := by decide +kernel
theorem d_Wh_differ_31 : decode c_Wh_differ 31 = .ok (.aload_n 2, 1) := by decide +kernel
theorem d_Wh_differ_32 : decode c_Wh_differ 32 = .ok (.iload 6, 2) := by decide +kernel
theorem d_Wh_differ_34 : decode c_Wh_differ 34 = .ok (.invokevirtual 64, 3) := by decide +kernel
theorem d_Wh_differ_37 : decode c_Wh_differ 37 = .ok (.i2l, 1) := by decide +kernel
theorem d_Wh_differ_38 : decode c_Wh_differ 38 = .ok (.lsub, 1) := by decide +kernel
theorem d_Wh_differ_39 : decode c_Wh_differ 39 = .ok (.ladd, 1) := by decide +kernel
theorem d_Wh_differ_40 : decode c_Wh_differ 40 = .ok (.lstore 4, 2) := by decide +kernel
theorem d_Wh_differ_42 : decode c_Wh_differ 42 = .ok (.aload_n 0, 1) := by decide +kernel
theorem d_Wh_differ_43 : decode c_Wh_differ 43 = .ok (.getfield 9, 3) := by decide +kernel
theorem d_Wh_differ_46 : decode c_Wh_differ 46 = .ok (.iload 6, 2) := by decide +kernel
theorem d_Wh_differ_48 : decode c_Wh_differ 48 = .ok (.lload 4, 2) := by decide +kernel
theorem d_Wh_differ_50 : decode c_Wh_differ 50 = .ok (.ldc2_w 23, 3) := by decide +kernel
theorem d_Wh_differ_53 : decode c_Wh_differ 53 = .ok (.land, 1) := by decide +kernel
theorem d_Wh_differ_54 : decode c_Wh_differ 54 = .ok (.l2i, 1) := by decide +kernel
theorem d_Wh_differ_55 : decode c_Wh_differ 55 = .ok (.iastore, 1) := by decide +kernel
theorem d_Wh_differ_56 : decode c_Wh_differ 56 = .ok (.lload 4, 2) := by decide +kernel
theorem d_Wh_differ_58 : decode c_Wh_differ 58 = .ok (.bipush 31, 2) := by decide +kernel
theorem d_Wh_differ_60 : decode c_Wh_differ 60 = .ok (.lshr, 1) := by decide +kernel
theorem d_Wh_differ_61 : decode c_Wh_differ 61 = .ok (.lstore 4, 2) := by decide +kernel
theorem d_Wh_differ_63 : decode c_Wh_differ 63 = .ok (.iinc 6 1, 3) := by decide +kernel
theorem d_Wh_differ_66 : decode c_Wh_differ 66 = .ok (.goto (-50), 3) := by decide +kernel
theorem d_Wh_differ_69 : decode c_Wh_differ 69 = .ok (.aload_n 0, 1) := by decide +kernel
theorem d_Wh_differ_70 : decode c_Wh_differ 70 = .ok (.iload_n 3, 1) := by decide +kernel
theorem d_Wh_differ_71 : decode c_Wh_differ 71 = .ok (.invokevirtual 25, 3) := by decide +kernel
theorem d_Wh_differ_74 : decode c_Wh_differ 74 = .ok (.return_, 1) := by decide +kernel
set_option maxRecDepth 100000 in
set_option maxHeartbeats 16000000 in
/-- differ -/
theorem g_Wh_differ_a (l : Launch) (G : va_G) (k : Nat → ClassId) (h0 : Nat) (s0 sl : Nat) (Mx : Nat) (dd : Nat) (LL : Nat) (nn9 : Nat) (gg : Nat → Nat) (zz : Int) (ho : Nat) (do9 : Nat) (Lo : Nat) (no9 : Nat) (go : Nat → Nat) (zo : Int) (hw : whO LL nn9 gg zz) (hv : whO Lo no9 go zo) (hle : zo.natAbs ≤ zz.natAbs) (hm1 : 2 * nn9 ≤ Mx) (hm2 : LL ≤ Mx) (hm3 : Mx ≤ 400) : CG l y_Wh_differ c_Wh_differ 7 none { frames := 3, cells := Mx, slots := 2 * Mx, locals := 104 } [.ref h0, .ref h0, .ref ho] G k s0 sl [(h0, .inr (2, [.ref dd, .int (nI nn9), .int (sgI zz)])), (dd, .inl (k 0, LL, .inl (fun i => nI (gg i)))), (ho, .inr (2, [.ref do9, .int (nI no9), .int (sgI zo)])), (do9, .inl (k 0, Lo, .inl (fun i => nI (go i))))] (fun (u : Nat × Nat × Nat × (Nat → Nat)) => none) (fun (u : Nat × Nat × Nat × (Nat → Nat)) => whO u.2.1 u.2.2.1 u.2.2.2 ((zz.natAbs - zo.natAbs : Nat) : Int) ∧ LL ≤ u.2.1 ∧ u.2.1 ≤ Mx) (fun (u : Nat × Nat × Nat × (Nat → Nat)) => [(h0, .inr (2, [.ref u.1, .int (nI u.2.2.1), .int (if u.2.2.1 = 0 then 0 else sgI zz)])), (u.1, .inl (k 0, u.2.1, .inl (fun i => nI (u.2.2.2 i)))), (ho, .inr (2, [.ref do9, .int (nI no9), .int (sgI zo)])), (do9, .inl (k 0, Lo, .inl (fun i => nI (go i))))]) (fun (u : Nat × Nat × Nat × (Nat → Nat)) => u.2.1 - LL) (fun (u : Nat × Nat × Nat × (Nat → Nat)) => 2 * (u.2.1 - LL)) Mx (2 * Mx) := by
  refine met_startG (by decide) (Nat.le_of_ble_eq_true rfl) ?_
  intro p e s m below meth c C K hA hsz S ls hl
  generalize va_A [(h0, .inr (2, [.ref dd, .int (nI nn9), .int (sgI zz)])), (dd, .inl (k 0, LL, .inl (fun i => nI (gg i)))), (ho, .inr (2, [.ref do9, .int (nI no9), .int (sgI zo)])), (do9, .inl (k 0, Lo, .inl (fun i => nI (go i))))] s0 = A at hA S ⊢
  have hx := C.1
  have hb := C.2.1
  have hl : lv_has ls 7 [(0, .ref h0), (1, .ref h0), (2, .ref ho)] := hl
  have hw0 := hw
  obtain ⟨w1, w2, w3, w4, w5, w6⟩ := hw0
  have hv0 := hv
  obtain ⟨v1, v2, v3, v4, v5, v6⟩ := hv0
  refine lv_aload_n hx hb d_Wh_differ_0 rfl (lv_at hl 1 rfl) ?_
  refine r_get C K S 0 rfl rfl clOk_Wh 1 (by decide) wf_Wh_29 (v := .int (nI nn9)) rfl d_Wh_differ_1 ?_
  refine lv_istore_n (lv' := [(3, .int (nI nn9)), (0, .ref h0), (1, .ref h0), (2, .ref ho)]) hx hb d_Wh_differ_4 rfl hl (by decide) rfl (fun ls hl => ?_)
  refine lv_aload_n hx hb d_Wh_differ_5 rfl (lv_at hl 1 rfl) ?_
  refine lv_iload_n hx hb d_Wh_differ_6 rfl (lv_at hl 0 rfl) ?_
  refine q_back0 (wi := [(h0, .inr (2, [.ref dd, .int (nI nn9), .int (sgI zz)])), (dd, .inl (k 0, LL, .inl (fun i => nI (gg i))))]) (wr := [(ho, .inr (2, [.ref do9, .int (nI no9), .int (sgI zo)])), (do9, .inl (k 0, Lo, .inl (fun i => nI (go i))))]) S hA [0, 1] [2, 3] rfl rfl (by decide) (by decide) (va_runV (As := [.int (nI nn9)]) (rest := []) ⟨hx, hb, C.2.2.1, C.2.2.2.1, C.2.2.2.2.1⟩ (g_Wh_room l G k h0 _ _ nn9 Mx dd LL (nI nn9) (sgI zz) gg (by first | exact hr | exact wh_ra hw) (by first | assumption | omega) (by first | assumption | omega) (by first | assumption | omega)) (k_virt (n := 1) C wc_Wh_room rfl rfl wz_Wh wm_Wh_32 wn_Wh_room ws_Wh_room (by decide +kernel) ⟨(Nat.le_of_ble_eq_true rfl), (Nat.le_of_ble_eq_true rfl)⟩) (pr_nowVG K S [0, 1] (by decide) rfl 0 rfl rfl) rfl rfl hl.1 rfl (lv_room (Nat.le_of_ble_eq_true rfl)) d_Wh_differ_7 ⟨(show 0 + Mx ≤ Mx from by omega), (show 0 + (2 * Mx) ≤ 2 * Mx from by omega)⟩) (fun w8 H locs hw1 S => ?_)
  have S : Sw G A s.heap _ _ [(ho, .inr (2, [.ref do9, .int (nI no9), .int (sgI zo)])), (do9, .inl (k 0, Lo, .inl (fun i => nI (go i)))), (h0, .inr (2, [.ref w8.1, .int (nI nn9), .int (sgI zz)])), (w8.1, .inl (k 0, w8.2.1, .inl (fun i => nI (w8.2.2 i))))] := S
  have hw1 : raO w8.2.1 w8.2.2 ∧ LL ≤ w8.2.1 ∧ nn9 ≤ w8.2.1 ∧ w8.2.1 ≤ Mx ∧ ∀ i, i < LL → w8.2.2 i = gg i := hw1
  show W p l e _ s m _ below meth c H locs _ _ _ (F0 m 10 ls [])
  obtain ⟨⟨s1, s2, s3⟩, s4, s5, s6, s7⟩ := hw1
  refine lv_lconst (v := 0) hx hb d_Wh_differ_10 (by decide) ?_
  refine z_topl (y := lZ 0) (by decide) ?_
  refine lv_lstore (lv' := [(4, .long (lZ 0)), (3, .int (nI nn9)), (0, .ref h0), (1, .ref h0), (2, .ref ho)]) hx hb d_Wh_differ_11 hl (by decide) rfl (fun ls hl => ?_)
  refine lv_iconst (v := 0) hx hb d_Wh_differ_13 (by decide) ?_
  refine lv_istore (lv' := [(6, .int 0), (4, .long (lZ 0)), (3, .int (nI nn9)), (0, .ref h0), (1, .ref h0), (2, .ref ho)]) hx hb d_Wh_differ_14 hl (by decide) rfl (fun ls hl => ?_)
  have lp : ∀ d9, ∀ (i9 : Nat), ∀ (c8 : Int), ∀ (T8 : Nat → Nat), (nn9 - i9) < d9 → (i9 ≤ nn9) → ((vl 2147483648 T8 i9 : Int) + c8 * (2147483648 : Int) ^ i9 = (vl 2147483648 (dgN nn9 gg) i9 : Int) - vl 2147483648 (dgN no9 go) i9) → (-1 ≤ c8) → (c8 ≤ 0) → (∀ i, T8 i < 2147483648) → (∀ i, i9 ≤ i → i < LL → T8 i = gg i) → ∀ (H : Heap) (locs : List Loc), Sw G A s.heap H locs [(h0, .inr (2, [.ref w8.1, .int (nI nn9), .int (sgI zz)])), (w8.1, .inl (k 0, w8.2.1, .inl (fun i => nI (T8 i)))), (ho, .inr (2, [.ref do9, .int (nI no9), .int (sgI zo)])), (do9, .inl (k 0, Lo, .inl (fun i => nI (go i))))] → ∀ ls : Array Slot, lv_has ls 7 [(4, .long (lZ c8)), (6, .int (nI i9)), (3, .int (nI nn9)), (0, .ref h0), (1, .ref h0), (2, .ref ho)] → W p l e { frames := 3, cells := Mx, slots := 2 * Mx, locals := 104 } s m [Value.ref h0, Value.ref h0, Value.ref ho].toArray below meth c H locs (0 + (w8.2.1 - LL)) (0 + (2 * (w8.2.1 - LL))) (MQ below (va_Qg (fun (u : Nat × Nat × Nat × (Nat → Nat)) => none) (fun (u : Nat × Nat × Nat × (Nat → Nat)) => whO u.2.1 u.2.2.1 u.2.2.2 ((zz.natAbs - zo.natAbs : Nat) : Int) ∧ LL ≤ u.2.1 ∧ u.2.1 ≤ Mx) (Pog G k A (fun (u : Nat × Nat × Nat × (Nat → Nat)) => [(h0, .inr (2, [.ref u.1, .int (nI u.2.2.1), .int (if u.2.2.1 = 0 then 0 else sgI zz)])), (u.1, .inl (k 0, u.2.1, .inl (fun i => nI (u.2.2.2 i)))), (ho, .inr (2, [.ref do9, .int (nI no9), .int (sgI zo)])), (do9, .inl (k 0, Lo, .inl (fun i => nI (go i))))]) s0 sl (fun (u : Nat × Nat × Nat × (Nat → Nat)) => u.2.1 - LL) (fun (u : Nat × Nat × Nat × (Nat → Nat)) => 2 * (u.2.1 - LL))) A) [Value.ref h0, Value.ref h0, Value.ref ho].toArray s Mx (2 * Mx) A) (F0 m 16 ls []) := by
    intro d9
    induction d9 with
    | zero => intro i9 c8 T8 hm; exact absurd hm (Nat.not_lt_zero _)
    | succ d9 ih_lp =>
      intro i9 c8 T8 hm hi hI hc8 hc9 hD hT H locs S ls hl
      have e1 := dg_lt (n := nn9) w4 i9
      have e2 := dg_lt (n := no9) v4 i9
      refine lv_iload hx hb d_Wh_differ_16 (lv_at hl 1 rfl) ?_
      refine lv_iload_n hx hb d_Wh_differ_18 rfl (lv_at hl 2 rfl) ?_
      refine z_icmp_ge (a := i9) (b := nn9) (tgt := 69) hx hb d_Wh_differ_19 (by decide) (by omega) (by omega) (fun hc2 => ?_) (fun hc2 => ?_)
      · refine lv_aload_n hx hb d_Wh_differ_69 rfl (lv_at hl 3 rfl) ?_
        refine lv_iload_n hx hb d_Wh_differ_70 rfl (lv_at hl 2 rfl) ?_
        obtain ⟨i8, hi8⟩ : ∃ x9, x9 = i9 := ⟨_, rfl⟩
        have e6 : i9 = nn9 := by omega
        rw [e6, dg_vl (n := nn9) (Nat.le_refl _), dg_vl (n := no9) (by have := ca_le hv hw hle; omega), w6, v6] at hI
        have e5 := sub_end hI hle (wh_lt hw) (vl_lt _ (fun i _ => hD i)) hc8 hc9
        refine q_back0 (wi := [(h0, .inr (2, [.ref w8.1, .int (nI nn9), .int (sgI zz)])), (w8.1, .inl (k 0, w8.2.1, .inl (fun i => nI (T8 i))))]) (wr := [(ho, .inr (2, [.ref do9, .int (nI no9), .int (sgI zo)])), (do9, .inl (k 0, Lo, .inl (fun i => nI (go i))))]) S hA [0, 1] [2, 3] rfl rfl (by decide) (by decide) (va_runV (As := [.int (nI nn9)]) (rest := []) ⟨hx, hb, C.2.2.1, C.2.2.2.1, C.2.2.2.2.1⟩ (g_Wh_trim l G k h0 _ _ nn9 w8.1 w8.2.1 (nI nn9) (sgI zz) T8 ⟨s1, s2, hD⟩ (by omega)) (k_virt (n := 1) C wc_Wh_trim rfl rfl wz_Wh wm_Wh_25 wn_Wh_trim ws_Wh_trim (by decide +kernel) ⟨(Nat.le_of_ble_eq_true rfl), (Nat.le_of_ble_eq_true rfl)⟩) (pr_nowVG K S [0, 1] (by decide) rfl 0 rfl rfl) rfl rfl hl.1 rfl (lv_room (Nat.le_of_ble_eq_true rfl)) d_Wh_differ_71 ⟨(show 0 + (w8.2.1 - LL) ≤ Mx from by omega), (show 0 + (2 * (w8.2.1 - LL)) ≤ 2 * Mx from by omega)⟩) (fun n7 H locs hw3 S => ?_)
        have S : Sw G A s.heap _ _ [(ho, .inr (2, [.ref do9, .int (nI no9), .int (sgI zo)])), (do9, .inl (k 0, Lo, .inl (fun i => nI (go i)))), (h0, .inr (2, [.ref w8.1, .int (nI n7), .int (if n7 = 0 then 0 else (sgI zz))])), (w8.1, .inl (k 0, w8.2.1, .inl (fun i => nI (T8 i))))] := S
        have hw3 : n7 ≤ nn9 ∧ (n7 = 0 ∨ T8 (n7 - 1) ≠ 0) ∧ vl 2147483648 T8 n7 = vl 2147483648 T8 nn9 := hw3
        show W p l e _ s m _ below meth c H locs _ _ _ (F0 m 74 ls [])
        obtain ⟨t1, t2, t3⟩ := hw3
        exact q_vret C K hsz (w8.1, w8.2.1, n7, T8) (show whO w8.2.1 n7 T8 ((zz.natAbs - zo.natAbs : Nat) : Int) ∧ LL ≤ w8.2.1 ∧ w8.2.1 ≤ Mx from ⟨wh_of (by omega) ⟨s1, s2, hD⟩ t2 t3 (by rw [Int.natAbs_natCast, e5]), s4, s6⟩) (S.sub [2, 3, 0, 1] (by decide) rfl) d_Wh_differ_74 (show 0 + (w8.2.1 - LL) ≤ w8.2.1 - LL from by omega) (show 0 + (2 * (w8.2.1 - LL)) ≤ 2 * (w8.2.1 - LL) from by omega) (show 0 + (w8.2.1 - LL) ≤ Mx from by omega) (show 0 + (2 * (w8.2.1 - LL)) ≤ 2 * Mx from by omega)
      · refine lv_lload hx hb d_Wh_differ_22 (lv_at hl 0 rfl) ?_
        refine lv_aload_n hx hb d_Wh_differ_24 rfl (lv_at hl 4 rfl) ?_
        refine lv_iload hx hb d_Wh_differ_25 (lv_at hl 1 rfl) ?_
        refine q_back0 (wi := [(h0, .inr (2, [.ref w8.1, .int (nI nn9), .int (sgI zz)])), (w8.1, .inl (k 0, w8.2.1, .inl (fun i => nI (T8 i))))]) (wr := [(ho, .inr (2, [.ref do9, .int (nI no9), .int (sgI zo)])), (do9, .inl (k 0, Lo, .inl (fun i => nI (go i))))]) S hA [0, 1] [2, 3] rfl rfl (by decide) (by decide) (va_runV (As := [.int (nI i9)]) (rest := [.long (lZ c8)]) ⟨hx, hb, C.2.2.1, C.2.2.2.1, C.2.2.2.2.1⟩ (g_Wh_digit l G k h0 _ _ i9 w8.1 w8.2.1 nn9 (sgI zz) T8 ⟨s1, s2, hD⟩ (by omega) (by omega)) (k_virt (n := 1) C wc_Wh_digit rfl rfl wz_Wh wm_Wh_64 wn_Wh_digit ws_Wh_digit (by decide +kernel) ⟨(Nat.le_of_ble_eq_true rfl), (Nat.le_of_ble_eq_true rfl)⟩) (pr_nowVG K S [0, 1] (by decide) rfl 0 rfl rfl) rfl rfl hl.1 rfl (lv_room (Nat.le_of_ble_eq_true rfl)) d_Wh_differ_27 ⟨(show 0 + (w8.2.1 - LL) ≤ Mx from by omega), (show 0 + (2 * (w8.2.1 - LL)) ≤ 2 * Mx from by omega)⟩) (fun u4 H locs hw5 S => ?_)
        have S : Sw G A s.heap _ _ [(ho, .inr (2, [.ref do9, .int (nI no9), .int (sgI zo)])), (do9, .inl (k 0, Lo, .inl (fun i => nI (go i)))), (h0, .inr (2, [.ref w8.1, .int (nI nn9), .int (sgI zz)])), (w8.1, .inl (k 0, w8.2.1, .inl (fun i => nI (T8 i))))] := S
        have hw5 : True := hw5
        show W p l e _ s m _ below meth c H locs _ _ _ (F0 m 30 ls [.int (nI (dgN nn9 T8 i9)), .long (lZ c8)])
        rw [dg_eq2 (n := nn9) (g2 := gg) (fun q9 => hT i9 (Nat.le_refl _) (by omega))]
        refine lv_i2l (v := lN (dgN nn9 gg i9)) hx hb d_Wh_differ_30 (show (nI (dgN nn9 gg i9) : Int32).toInt64 = _ from nI_l (n := (dgN nn9 gg i9)) (by omega)) ?_
        refine lv_aload_n hx hb d_Wh_differ_31 rfl (lv_at hl 5 rfl) ?_
        refine lv_iload hx hb d_Wh_differ_32 (lv_at hl 1 rfl) ?_
        refine q_back0 (wi := [(ho, .inr (2, [.ref do9, .int (nI no9), .int (sgI zo)])), (do9, .inl (k 0, Lo, .inl (fun i => nI (go i))))]) (wr := [(h0, .inr (2, [.ref w8.1, .int (nI nn9), .int (sgI zz)])), (w8.1, .inl (k 0, w8.2.1, .inl (fun i => nI (T8 i))))]) S hA [0, 1] [2, 3] rfl rfl (by decide) (by decide) (va_runV (As := [.int (nI i9)]) (rest := [.long (lN (dgN nn9 gg i9)), .long (lZ c8)]) ⟨hx, hb, C.2.2.1, C.2.2.2.1, C.2.2.2.2.1⟩ (g_Wh_digit l G k ho _ _ i9 do9 Lo no9 (sgI zo) go (wh_ra hv) (by omega) (by omega)) (k_virt (n := 1) C wc_Wh_digit rfl rfl wz_Wh wm_Wh_64 wn_Wh_digit ws_Wh_digit (by decide +kernel) ⟨(Nat.le_of_ble_eq_true rfl), (Nat.le_of_ble_eq_true rfl)⟩) (pr_nowVG K S [0, 1] (by decide) rfl 0 rfl rfl) rfl rfl hl.1 rfl (lv_room (Nat.le_of_ble_eq_true rfl)) d_Wh_differ_34 ⟨(show 0 + (w8.2.1 - LL) ≤ Mx from by omega), (show 0 + (2 * (w8.2.1 - LL)) ≤ 2 * Mx from by omega)⟩) (fun u6 H locs hw7 S => ?_)
        have S : Sw G A s.heap _ _ [(h0, .inr (2, [.ref w8.1, .int (nI nn9), .int (sgI zz)])), (w8.1, .inl (k 0, w8.2.1, .inl (fun i => nI (T8 i)))), (ho, .inr (2, [.ref do9, .int (nI no9), .int (sgI zo)])), (do9, .inl (k 0, Lo, .inl (fun i => nI (go i))))] := S
        have hw7 : True := hw7
        show W p l e _ s m _ below meth c H locs _ _ _ (F0 m 37 ls [.int (nI (dgN no9 go i9)), .long (lN (dgN nn9 gg i9)), .long (lZ c8)])
        refine lv_i2l (v := lN (dgN no9 go i9)) hx hb d_Wh_differ_37 (show (nI (dgN no9 go i9) : Int32).toInt64 = _ from nI_l (n := (dgN no9 go i9)) (by omega)) ?_
        refine z_lsub (v := lZ (((dgN nn9 gg i9 : Nat) : Int) - ((dgN no9 go i9 : Nat) : Int))) hx hb d_Wh_differ_38 (by rw [lN_lZ, lN_lZ, lZ_sub]) ?_
        refine z_ladd (v := lZ (c8 + (((dgN nn9 gg i9 : Nat) : Int) - ((dgN no9 go i9 : Nat) : Int)))) hx hb d_Wh_differ_39 (lZ_add _ _) ?_
        refine lv_lstore (lv' := [(4, .long (lZ (c8 + (((dgN nn9 gg i9 : Nat) : Int) - ((dgN no9 go i9 : Nat) : Int))))), (6, .int (nI i9)), (3, .int (nI nn9)), (0, .ref h0), (1, .ref h0), (2, .ref ho)]) hx hb d_Wh_differ_40 hl (by decide) rfl (fun ls hl => ?_)
        refine lv_aload_n hx hb d_Wh_differ_42 rfl (lv_at hl 3 rfl) ?_
        refine r_get C K S 0 rfl rfl clOk_Wh 0 (by decide) wf_Wh_9 (v := .ref w8.1) rfl d_Wh_differ_43 ?_
        refine lv_iload hx hb d_Wh_differ_46 (lv_at hl 1 rfl) ?_
        refine lv_lload hx hb d_Wh_differ_48 (lv_at hl 0 rfl) ?_
        refine lv_ldc2 (v := 2147483647) hx hb C.2.2.2.1 (C.2.2.2.2.1 _ wk_Wh_23) d_Wh_differ_50 ?_
        refine z_land (v := lZ ((c8 + (((dgN nn9 gg i9 : Nat) : Int) - ((dgN no9 go i9 : Nat) : Int))) % 2147483648)) hx hb d_Wh_differ_53 (lZ_and _) ?_
        refine lv_l2i (v := nI (((c8 + (((dgN nn9 gg i9 : Nat) : Int) - ((dgN no9 go i9 : Nat) : Int))) % 2147483648).toNat)) hx hb d_Wh_differ_54 (lZ_i (by omega) (by omega)) ?_
        refine r_iast C K S 1 rfl (i := nI i9) (x := nI (((c8 + (((dgN nn9 gg i9 : Nat) : Int) - ((dgN no9 go i9 : Nat) : Int))) % 2147483648).toNat)) (show vp_in (nI i9) _ from vp_in_nI (n := i9) (by omega) (by omega)) (f' := fun i => nI (va_up T8 i9 (((c8 + (((dgN nn9 gg i9 : Nat) : Int) - ((dgN no9 go i9 : Nat) : Int))) % 2147483648).toNat) i)) (ws' := [(h0, .inr (2, [.ref w8.1, .int (nI nn9), .int (sgI zz)])), (w8.1, .inl (k 0, w8.2.1, .inl (fun i => nI (va_up T8 i9 (((c8 + (((dgN nn9 gg i9 : Nat) : Int) - ((dgN no9 go i9 : Nat) : Int))) % 2147483648).toNat) i)))), (ho, .inr (2, [.ref do9, .int (nI no9), .int (sgI zo)])), (do9, .inl (k 0, Lo, .inl (fun i => nI (go i))))]) (show upd _ (nI i9 : Int32).toNatClampNeg (nI (((c8 + (((dgN nn9 gg i9 : Nat) : Int) - ((dgN no9 go i9 : Nat) : Int))) % 2147483648).toNat)) = _ from upd_nI T8 (j := i9) (by omega) (((c8 + (((dgN nn9 gg i9 : Nat) : Int) - ((dgN no9 go i9 : Nat) : Int))) % 2147483648).toNat)) rfl d_Wh_differ_55 (fun H locs S => ?_)
        refine lv_lload hx hb d_Wh_differ_56 (lv_at hl 0 rfl) ?_
        refine lv_bipush (v := 31) hx hb d_Wh_differ_58 (by decide) ?_
        refine lv_lshr (v := lZ ((c8 + (((dgN nn9 gg i9 : Nat) : Int) - ((dgN no9 go i9 : Nat) : Int))) / 2147483648)) hx hb d_Wh_differ_60 (lZ_shr (by omega) (by omega) d31) ?_
        refine lv_lstore (lv' := [(4, .long (lZ ((c8 + (((dgN nn9 gg i9 : Nat) : Int) - ((dgN no9 go i9 : Nat) : Int))) / 2147483648))), (6, .int (nI i9)), (3, .int (nI nn9)), (0, .ref h0), (1, .ref h0), (2, .ref ho)]) hx hb d_Wh_differ_61 hl (by decide) rfl (fun ls hl => ?_)
        refine lv_iinc (v := nI (i9 + 1)) (lv' := [(6, .int (nI (i9 + 1))), (4, .long (lZ ((c8 + (((dgN nn9 gg i9 : Nat) : Int) - ((dgN no9 go i9 : Nat) : Int))) / 2147483648))), (3, .int (nI nn9)), (0, .ref h0), (1, .ref h0), (2, .ref ho)]) hx hb d_Wh_differ_63 hl (k := 1) rfl (show nI i9 + Int32.ofInt 1 = nI (i9 + 1) from (nI_add i9 1).trans (congrArg nI (by omega))) (by decide) rfl (fun ls hl => ?_)
        refine lv_goto (tgt := 16) hx hb d_Wh_differ_66 (by decide) ?_
        exact ih_lp (i9 + 1) ((c8 + (((dgN nn9 gg i9 : Nat) : Int) - ((dgN no9 go i9 : Nat) : Int))) / 2147483648) (va_up T8 i9 (((c8 + (((dgN nn9 gg i9 : Nat) : Int) - ((dgN no9 go i9 : Nat) : Int))) % 2147483648).toNat)) (by omega) (by omega) (sub_step hI) (by omega) (by omega) (up31 hD (by omega)) (fun i q1 q2 => by rw [va_up_ne _ _ (by omega)]; exact hT i (by omega) q2) _ _ (S.sub [0, 1, 2, 3] (by decide) rfl) ls (lv_sub hl [1, 0, 2, 3, 4, 5] rfl)
  exact lp _ 0 0 w8.2.2 (Nat.lt_succ_self _) (by omega) rfl (by omega) (by omega) s3 (fun i _ q => s7 i q) _ _ (S.sub [2, 3, 0, 1] (by decide) rfl) ls (lv_sub hl [1, 0, 2, 3, 4, 5] rfl)
set_option maxRecDepth 100000 in
set_option maxHeartbeats 16000000 in
/-- differ -/
theorem g_Wh_differ_b (l : Launch) (G : va_G) (k : Nat → ClassId) (h0 : Nat) (s0 sl : Nat) (Mx : Nat) (dd : Nat) (LL : Nat) (nn9 : Nat) (gg : Nat → Nat) (zz : Int) (ho : Nat) (do9 : Nat) (Lo : Nat) (no9 : Nat) (go : Nat → Nat) (zo : Int) (hw : whO LL nn9 gg zz) (hv : whO Lo no9 go zo) (hle : zz.natAbs ≤ zo.natAbs) (hm1 : 2 * no9 ≤ Mx) (hm2 : LL ≤ Mx) (hm3 : Mx ≤ 400) : CG l y_Wh_differ c_Wh_differ 7 none { frames := 3, cells := Mx, slots := 2 * Mx, locals := 104 } [.ref h0, .ref ho, .ref h0] G k s0 sl [(h0, .inr (2, [.ref dd, .int (nI nn9), .int (sgI zz)])), (dd, .inl (k 0, LL, .inl (fun i => nI (gg i)))), (ho, .inr (2, [.ref do9, .int (nI no9), .int (sgI zo)])), (do9, .inl (k 0, Lo, .inl (fun i => nI (go i))))] (fun (u : Nat × Nat × Nat × (Nat → Nat)) => none) (fun (u : Nat × Nat × Nat × (Nat → Nat)) => whO u.2.1 u.2.2.1 u.2.2.2 ((zo.natAbs - zz.natAbs : Nat) : Int) ∧ LL ≤ u.2.1 ∧ u.2.1 ≤ Mx) (fun (u : Nat × Nat × Nat × (Nat → Nat)) => [(h0, .inr (2, [.ref u.1, .int (nI u.2.2.1), .int (if u.2.2.1 = 0 then 0 else sgI zz)])), (u.1, .inl (k 0, u.2.1, .inl (fun i => nI (u.2.2.2 i)))), (ho, .inr (2, [.ref do9, .int (nI no9), .int (sgI zo)])), (do9, .inl (k 0, Lo, .inl (fun i => nI (go i))))]) (fun (u : Nat × Nat × Nat × (Nat → Nat)) => u.2.1 - LL) (fun (u : Nat × Nat × Nat × (Nat → Nat)) => 2 * (u.2.1 - LL)) Mx (2 * Mx) := by
  refine met_startG (by decide) (Nat.le_of_ble_eq_true rfl) ?_
  intro p e s m below meth c C K hA hsz S ls hl
  generalize va_A [(h0, .inr (2, [.ref dd, .int (nI nn9), .int (sgI zz)])), (dd, .inl (k 0, LL, .inl (fun i => nI (gg i)))), (ho, .inr (2, [.ref do9, .int (nI no9), .int (sgI zo)])), (do9, .inl (k 0, Lo, .inl (fun i => nI (go i))))] s0 = A at hA S ⊢
  have hx := C.1
  have hb := C.2.1
  have hl : lv_has ls 7 [(0, .ref h0), (1, .ref ho), (2, .ref h0)] := hl
  have hw0 := hw
  obtain ⟨w1, w2, w3, w4, w5, w6⟩ := hw0
  have hv0 := hv
  obtain ⟨v1, v2, v3, v4, v5, v6⟩ := hv0
  refine lv_aload_n hx hb d_Wh_differ_0 rfl (lv_at hl 1 rfl) ?_
  refine r_get C K S 2 rfl rfl clOk_Wh 1 (by decide) wf_Wh_29 (v := .int (nI no9)) rfl d_Wh_differ_1 ?_
  refine lv_istore_n (lv' := [(3, .int (nI no9)), (0, .ref h0), (1, .ref ho), (2, .ref h0)]) hx hb d_Wh_differ_4 rfl hl (by decide) rfl (fun ls hl => ?_)
  refine lv_aload_n hx hb d_Wh_differ_5 rfl (lv_at hl 1 rfl) ?_
  refine lv_iload_n hx hb d_Wh_differ_6 rfl (lv_at hl 0 rfl) ?_
  refine q_back0 (wi := [(h0, .inr (2, [.ref dd, .int (nI nn9), .int (sgI zz)])), (dd, .inl (k 0, LL, .inl (fun i => nI (gg i))))]) (wr := [(ho, .inr (2, [.ref do9, .int (nI no9), .int (sgI zo)])), (do9, .inl (k 0, Lo, .inl (fun i => nI (go i))))]) S hA [0, 1] [2, 3] rfl rfl (by decide) (by decide) (va_runV (As := [.int (nI no9)]) (rest := []) ⟨hx, hb, C.2.2.1, C.2.2.2.1, C.2.2.2.2.1⟩ (g_Wh_room l G k h0 _ _ no9 Mx dd LL (nI nn9) (sgI zz) gg (by first | exact hr | exact wh_ra hw) (by first | assumption | omega) (by first | assumption | omega) (by first | assumption | omega)) (k_virt (n := 1) C wc_Wh_room rfl rfl wz_Wh wm_Wh_32 wn_Wh_room ws_Wh_room (by decide +kernel) ⟨(Nat.le_of_ble_eq_true rfl), (Nat.le_of_ble_eq_true rfl)⟩) (pr_nowVG K S [0, 1] (by decide) rfl 0 rfl rfl) rfl rfl hl.1 rfl (lv_room (Nat.le_of_ble_eq_true rfl)) d_Wh_differ_7 ⟨(show 0 + Mx ≤ Mx from by omega), (show 0 + (2 * Mx) ≤ 2 * Mx from by omega)⟩) (fun w8 H locs hw1 S => ?_)
  have S : Sw G A s.heap _ _ [(ho, .inr (2, [.ref do9, .int (nI no9), .int (sgI zo)])), (do9, .inl (k 0, Lo, .inl (fun i => nI (go i)))), (h0, .inr (2, [.ref w8.1, .int (nI nn9), .int (sgI zz)])), (w8.1, .inl (k 0, w8.2.1, .inl (fun i => nI (w8.2.2 i))))] := S
  have hw1 : raO w8.2.1 w8.2.2 ∧ LL ≤ w8.2.1 ∧ no9 ≤ w8.2.1 ∧ w8.2.1 ≤ Mx ∧ ∀ i, i < LL → w8.2.2 i = gg i := hw1
  show W p l e _ s m _ below meth c H locs _ _ _ (F0 m 10 ls [])
  obtain ⟨⟨s1, s2, s3⟩, s4, s5, s6, s7⟩ := hw1
  refine lv_lconst (v := 0) hx hb d_Wh_differ_10 (by decide) ?_
  refine z_topl (y := lZ 0) (by decide) ?_
  refine lv_lstore (lv' := [(4, .long (lZ 0)), (3, .int (nI no9)), (0, .ref h0), (1, .ref ho), (2, .ref h0)]) hx hb d_Wh_differ_11 hl (by decide) rfl (fun ls hl => ?_)
  refine lv_iconst (v := 0) hx hb d_Wh_differ_13 (by decide) ?_
  refine lv_istore (lv' := [(6, .int 0), (4, .long (lZ 0)), (3, .int (nI no9)), (0, .ref h0), (1, .ref ho), (2, .ref h0)]) hx hb d_Wh_differ_14 hl (by decide) rfl (fun ls hl => ?_)
  have lp : ∀ d9, ∀ (i9 : Nat), ∀ (c8 : Int), ∀ (T8 : Nat → Nat), (no9 - i9) < d9 → (i9 ≤ no9) → ((vl 2147483648 T8 i9 : Int) + c8 * (2147483648 : Int) ^ i9 = (vl 2147483648 (dgN no9 go) i9 : Int) - vl 2147483648 (dgN nn9 gg) i9) → (-1 ≤ c8) → (c8 ≤ 0) → (∀ i, T8 i < 2147483648) → (∀ i, i9 ≤ i → i < LL → T8 i = gg i) → ∀ (H : Heap) (locs : List Loc), Sw G A s.heap H locs [(h0, .inr (2, [.ref w8.1, .int (nI nn9), .int (sgI zz)])), (w8.1, .inl (k 0, w8.2.1, .inl (fun i => nI (T8 i)))), (ho, .inr (2, [.ref do9, .int (nI no9), .int (sgI zo)])), (do9, .inl (k 0, Lo, .inl (fun i => nI (go i))))] → ∀ ls : Array Slot, lv_has ls 7 [(4, .long (lZ c8)), (6, .int (nI i9)), (3, .int (nI no9)), (0, .ref h0), (1, .ref ho), (2, .ref h0)] → W p l e { frames := 3, cells := Mx, slots := 2 * Mx, locals := 104 } s m [Value.ref h0, Value.ref ho, Value.ref h0].toArray below meth c H locs (0 + (w8.2.1 - LL)) (0 + (2 * (w8.2.1 - LL))) (MQ below (va_Qg (fun (u : Nat × Nat × Nat × (Nat → Nat)) => none) (fun (u : Nat × Nat × Nat × (Nat → Nat)) => whO u.2.1 u.2.2.1 u.2.2.2 ((zo.natAbs - zz.natAbs : Nat) : Int) ∧ LL ≤ u.2.1 ∧ u.2.1 ≤ Mx) (Pog G k A (fun (u : Nat × Nat × Nat × (Nat → Nat)) => [(h0, .inr (2, [.ref u.1, .int (nI u.2.2.1), .int (if u.2.2.1 = 0 then 0 else sgI zz)])), (u.1, .inl (k 0, u.2.1, .inl (fun i => nI (u.2.2.2 i)))), (ho, .inr (2, [.ref do9, .int (nI no9), .int (sgI zo)])), (do9, .inl (k 0, Lo, .inl (fun i => nI (go i))))]) s0 sl (fun (u : Nat × Nat × Nat × (Nat → Nat)) => u.2.1 - LL) (fun (u : Nat × Nat × Nat × (Nat → Nat)) => 2 * (u.2.1 - LL))) A) [Value.ref h0, Value.ref ho, Value.ref h0].toArray s Mx (2 * Mx) A) (F0 m 16 ls []) := by
    intro d9
    induction d9 with
    | zero => intro i9 c8 T8 hm; exact absurd hm (Nat.not_lt_zero _)
    | succ d9 ih_lp =>
      intro i9 c8 T8 hm hi hI hc8 hc9 hD hT H locs S ls hl
      have e1 := dg_lt (n := nn9) w4 i9
      have e2 := dg_lt (n := no9) v4 i9
      refine lv_iload hx hb d_Wh_differ_16 (lv_at hl 1 rfl) ?_
      refine lv_iload_n hx hb d_Wh_differ_18 rfl (lv_at hl 2 rfl) ?_
      refine z_icmp_ge (a := i9) (b := no9) (tgt := 69) hx hb d_Wh_differ_19 (by decide) (by omega) (by omega) (fun hc2 => ?_) (fun hc2 => ?_)
      · refine lv_aload_n hx hb d_Wh_differ_69 rfl (lv_at hl 3 rfl) ?_
        refine lv_iload_n hx hb d_Wh_differ_70 rfl (lv_at hl 2 rfl) ?_
        obtain ⟨i8, hi8⟩ : ∃ x9, x9 = i9 := ⟨_, rfl⟩
        have e6 : i9 = no9 := by omega
        rw [e6, dg_vl (n := no9) (Nat.le_refl _), dg_vl (n := nn9) (by have := ca_le hw hv hle; omega), v6, w6] at hI
        have e5 := sub_end hI hle (wh_lt hv) (vl_lt _ (fun i _ => hD i)) hc8 hc9
        refine q_back0 (wi := [(h0, .inr (2, [.ref w8.1, .int (nI nn9), .int (sgI zz)])), (w8.1, .inl (k 0, w8.2.1, .inl (fun i => nI (T8 i))))]) (wr := [(ho, .inr (2, [.ref do9, .int (nI no9), .int (sgI zo)])), (do9, .inl (k 0, Lo, .inl (fun i => nI (go i))))]) S hA [0, 1] [2, 3] rfl rfl (by decide) (by decide) (va_runV (As := [.int (nI no9)]) (rest := []) ⟨hx, hb, C.2.2.1, C.2.2.2.1, C.2.2.2.2.1⟩ (g_Wh_trim l G k h0 _ _ no9 w8.1 w8.2.1 (nI nn9) (sgI zz) T8 ⟨s1, s2, hD⟩ (by omega)) (k_virt (n := 1) C wc_Wh_trim rfl rfl wz_Wh wm_Wh_25 wn_Wh_trim ws_Wh_trim (by decide +kernel) ⟨(Nat.le_of_ble_eq_true rfl), (Nat.le_of_ble_eq_true rfl)⟩) (pr_nowVG K S [0, 1] (by decide) rfl 0 rfl rfl) rfl rfl hl.1 rfl (lv_room (Nat.le_of_ble_eq_true rfl)) d_Wh_differ_71 ⟨(show 0 + (w8.2.1 - LL) ≤ Mx from by omega), (show 0 + (2 * (w8.2.1 - LL)) ≤ 2 * Mx from by omega)⟩) (fun n7 H locs hw3 S => ?_)
        have S : Sw G A s.heap _ _ [(ho, .inr (2, [.ref do9, .int (nI no9), .int (sgI zo)])), (do9, .inl (k 0, Lo, .inl (fun i => nI (go i)))), (h0, .inr (2, [.ref w8.1, .int (nI n7), .int (if n7 = 0 then 0 else (sgI zz))])), (w8.1, .inl (k 0, w8.2.1, .inl (fun i => nI (T8 i))))] := S
        have hw3 : n7 ≤ no9 ∧ (n7 = 0 ∨ T8 (n7 - 1) ≠ 0) ∧ vl 2147483648 T8 n7 = vl 2147483648 T8 no9 := hw3
        show W p l e _ s m _ below meth c H locs _ _ _ (F0 m 74 ls [])
        obtain ⟨t1, t2, t3⟩ := hw3
        exact q_vret C K hsz (w8.1, w8.2.1, n7, T8) (show whO w8.2.1 n7 T8 ((zo.natAbs - zz.natAbs : Nat) : Int) ∧ LL ≤ w8.2.1 ∧ w8.2.1 ≤ Mx from ⟨wh_of (by omega) ⟨s1, s2, hD⟩ t2 t3 (by rw [Int.natAbs_natCast, e5]), s4, s6⟩) (S.sub [2, 3, 0, 1] (by decide) rfl) d_Wh_differ_74 (show 0 + (w8.2.1 - LL) ≤ w8.2.1 - LL from by omega) (show 0 + (2 * (w8.2.1 - LL)) ≤ 2 * (w8.2.1 - LL) from by omega) (show 0 + (w8.2.1 - LL) ≤ Mx from by omega) (show 0 + (2 * (w8.2.1 - LL)) ≤ 2 * Mx from by omega)
      · refine lv_lload hx hb d_Wh_differ_22 (lv_at hl 0 rfl) ?_
        refine lv_aload_n hx hb d_Wh_differ_24 rfl (lv_at hl 4 rfl) ?_
        refine lv_iload hx hb d_Wh_differ_25 (lv_at hl 1 rfl) ?_
        refine q_back0 (wi := [(ho, .inr (2, [.ref do9, .int (nI no9), .int (sgI zo)])), (do9, .inl (k 0, Lo, .inl (fun i => nI (go i))))]) (wr := [(h0, .inr (2, [.ref w8.1, .int (nI nn9), .int (sgI zz)])), (w8.1, .inl (k 0, w8.2.1, .inl (fun i => nI (T8 i))))]) S hA [2, 3] [0, 1] rfl rfl (by decide) (by decide) (va_runV (As := [.int (nI i9)]) (rest := [.long (lZ c8)]) ⟨hx, hb, C.2.2.1, C.2.2.2.1, C.2.2.2.2.1⟩ (g_Wh_digit l G k ho _ _ i9 do9 Lo no9 (sgI zo) go (wh_ra hv) (by omega) (by omega)) (k_virt (n := 1) C wc_Wh_digit rfl rfl wz_Wh wm_Wh_64 wn_Wh_digit ws_Wh_digit (by decide +kernel) ⟨(Nat.le_of_ble_eq_true rfl), (Nat.le_of_ble_eq_true rfl)⟩) (pr_nowVG K S [2, 3] (by decide) rfl 2 rfl rfl) rfl rfl hl.1 rfl (lv_room (Nat.le_of_ble_eq_true rfl)) d_Wh_differ_27 ⟨(show 0 + (w8.2.1 - LL) ≤ Mx from by omega), (show 0 + (2 * (w8.2.1 - LL)) ≤ 2 * Mx from by omega)⟩) (fun u4 H locs hw5 S => ?_)
        have S : Sw G A s.heap _ _ [(h0, .inr (2, [.ref w8.1, .int (nI nn9), .int (sgI zz)])), (w8.1, .inl (k 0, w8.2.1, .inl (fun i => nI (T8 i)))), (ho, .inr (2, [.ref do9, .int (nI no9), .int (sgI zo)])), (do9, .inl (k 0, Lo, .inl (fun i => nI (go i))))] := S
        have hw5 : True := hw5
        show W p l e _ s m _ below meth c H locs _ _ _ (F0 m 30 ls [.int (nI (dgN no9 go i9)), .long (lZ c8)])
        refine lv_i2l (v := lN (dgN no9 go i9)) hx hb d_Wh_differ_30 (show (nI (dgN no9 go i9) : Int32).toInt64 = _ from nI_l (n := (dgN no9 go i9)) (by omega)) ?_
        refine lv_aload_n hx hb d_Wh_differ_31 rfl (lv_at hl 5 rfl) ?_
        refine lv_iload hx hb d_Wh_differ_32 (lv_at hl 1 rfl) ?_
        refine q_back0 (wi := [(h0, .inr (2, [.ref w8.1, .int (nI nn9), .int (sgI zz)])), (w8.1, .inl (k 0, w8.2.1, .inl (fun i => nI (T8 i))))]) (wr := [(ho, .inr (2, [.ref do9, .int (nI no9), .int (sgI zo)])), (do9, .inl (k 0, Lo, .inl (fun i => nI (go i))))]) S hA [0, 1] [2, 3] rfl rfl (by decide) (by decide) (va_runV (As := [.int (nI i9)]) (rest := [.long (lN (dgN no9 go i9)), .long (lZ c8)]) ⟨hx, hb, C.2.2.1, C.2.2.2.1, C.2.2.2.2.1⟩ (g_Wh_digit l G k h0 _ _ i9 w8.1 w8.2.1 nn9 (sgI zz) T8 ⟨s1, s2, hD⟩ (by omega) (by omega)) (k_virt (n := 1) C wc_Wh_digit rfl rfl wz_Wh wm_Wh_64 wn_Wh_digit ws_Wh_digit (by decide +kernel) ⟨(Nat.le_of_ble_eq_true rfl), (Nat.le_of_ble_eq_true rfl)⟩) (pr_nowVG K S [0, 1] (by decide) rfl 0 rfl rfl) rfl rfl hl.1 rfl (lv_room (Nat.le_of_ble_eq_true rfl)) d_Wh_differ_34 ⟨(show 0 + (w8.2.1 - LL) ≤ Mx from by omega), (show 0 + (2 * (w8.2.1 - LL)) ≤ 2 * Mx from by omega)⟩) (fun u6 H locs hw7 S => ?_)
        have S : Sw G A s.heap _ _ [(ho, .inr (2, [.ref do9, .int (nI no9), .int (sgI zo)])), (do9, .inl (k 0, Lo, .inl (fun i => nI (go i)))), (h0, .inr (2, [.ref w8.1, .int (nI nn9), .int (sgI zz)])), (w8.1, .inl (k 0, w8.2.1, .inl (fun i => nI (T8 i))))] := S
        have hw7 : True := hw7
        show W p l e _ s m _ below meth c H locs _ _ _ (F0 m 37 ls [.int (nI (dgN nn9 T8 i9)), .long (lN (dgN no9 go i9)), .long (lZ c8)])
        rw [dg_eq2 (n := nn9) (g2 := gg) (fun q9 => hT i9 (Nat.le_refl _) (by omega))]
        refine lv_i2l (v := lN (dgN nn9 gg i9)) hx hb d_Wh_differ_37 (show (nI (dgN nn9 gg i9) : Int32).toInt64 = _ from nI_l (n := (dgN nn9 gg i9)) (by omega)) ?_
        refine z_lsub (v := lZ (((dgN no9 go i9 : Nat) : Int) - ((dgN nn9 gg i9 : Nat) : Int))) hx hb d_Wh_differ_38 (by rw [lN_lZ, lN_lZ, lZ_sub]) ?_
        refine z_ladd (v := lZ (c8 + (((dgN no9 go i9 : Nat) : Int) - ((dgN nn9 gg i9 : Nat) : Int)))) hx hb d_Wh_differ_39 (lZ_add _ _) ?_
        refine lv_lstore (lv' := [(4, .long (lZ (c8 + (((dgN no9 go i9 : Nat) : Int) - ((dgN nn9 gg i9 : Nat) : Int))))), (6, .int (nI i9)), (3, .int (nI no9)), (0, .ref h0), (1, .ref ho), (2, .ref h0)]) hx hb d_Wh_differ_40 hl (by decide) rfl (fun ls hl => ?_)
        refine lv_aload_n hx hb d_Wh_differ_42 rfl (lv_at hl 3 rfl) ?_
        refine r_get C K S 2 rfl rfl clOk_Wh 0 (by decide) wf_Wh_9 (v := .ref w8.1) rfl d_Wh_differ_43 ?_
        refine lv_iload hx hb d_Wh_differ_46 (lv_at hl 1 rfl) ?_
        refine lv_lload hx hb d_Wh_differ_48 (lv_at hl 0 rfl) ?_
        refine lv_ldc2 (v := 2147483647) hx hb C.2.2.2.1 (C.2.2.2.2.1 _ wk_Wh_23) d_Wh_differ_50 ?_
        refine z_land (v := lZ ((c8 + (((dgN no9 go i9 : Nat) : Int) - ((dgN nn9 gg i9 : Nat) : Int))) % 2147483648)) hx hb d_Wh_differ_53 (lZ_and _) ?_
        refine lv_l2i (v := nI (((c8 + (((dgN no9 go i9 : Nat) : Int) - ((dgN nn9 gg i9 : Nat) : Int))) % 2147483648).toNat)) hx hb d_Wh_differ_54 (lZ_i (by omega) (by omega)) ?_
        refine r_iast C K S 3 rfl (i := nI i9) (x := nI (((c8 + (((dgN no9 go i9 : Nat) : Int) - ((dgN nn9 gg i9 : Nat) : Int))) % 2147483648).toNat)) (show vp_in (nI i9) _ from vp_in_nI (n := i9) (by omega) (by omega)) (f' := fun i => nI (va_up T8 i9 (((c8 + (((dgN no9 go i9 : Nat) : Int) - ((dgN nn9 gg i9 : Nat) : Int))) % 2147483648).toNat) i)) (ws' := [(ho, .inr (2, [.ref do9, .int (nI no9), .int (sgI zo)])), (do9, .inl (k 0, Lo, .inl (fun i => nI (go i)))), (h0, .inr (2, [.ref w8.1, .int (nI nn9), .int (sgI zz)])), (w8.1, .inl (k 0, w8.2.1, .inl (fun i => nI (va_up T8 i9 (((c8 + (((dgN no9 go i9 : Nat) : Int) - ((dgN nn9 gg i9 : Nat) : Int))) % 2147483648).toNat) i))))]) (show upd _ (nI i9 : Int32).toNatClampNeg (nI (((c8 + (((dgN no9 go i9 : Nat) : Int) - ((dgN nn9 gg i9 : Nat) : Int))) % 2147483648).toNat)) = _ from upd_nI T8 (j := i9) (by omega) (((c8 + (((dgN no9 go i9 : Nat) : Int) - ((dgN nn9 gg i9 : Nat) : Int))) % 2147483648).toNat)) rfl d_Wh_differ_55 (fun H locs S => ?_)
        refine lv_lload hx hb d_Wh_differ_56 (lv_at hl 0 rfl) ?_
        refine lv_bipush (v := 31) hx hb d_Wh_differ_58 (by decide) ?_
        refine lv_lshr (v := lZ ((c8 + (((dgN no9 go i9 : Nat) : Int) - ((dgN nn9 gg i9 : Nat) : Int))) / 2147483648)) hx hb d_Wh_differ_60 (lZ_shr (by omega) (by omega) d31) ?_
        refine lv_lstore (lv' := [(4, .long (lZ ((c8 + (((dgN no9 go i9 : Nat) : Int) - ((dgN nn9 gg i9 : Nat) : Int))) / 2147483648))), (6, .int (nI i9)), (3, .int (nI no9)), (0, .ref h0), (1, .ref ho), (2, .ref h0)]) hx hb d_Wh_differ_61 hl (by decide) rfl (fun ls hl => ?_)
        refine lv_iinc (v := nI (i9 + 1)) (lv' := [(6, .int (nI (i9 + 1))), (4, .long (lZ ((c8 + (((dgN no9 go i9 : Nat) : Int) - ((dgN nn9 gg i9 : Nat) : Int))) / 2147483648))), (3, .int (nI no9)), (0, .ref h0), (1, .ref ho), (2, .ref h0)]) hx hb d_Wh_differ_63 hl (k := 1) rfl (show nI i9 + Int32.ofInt 1 = nI (i9 + 1) from (nI_add i9 1).trans (congrArg nI (by omega))) (by decide) rfl (fun ls hl => ?_)
        refine lv_goto (tgt := 16) hx hb d_Wh_differ_66 (by decide) ?_
        exact ih_lp (i9 + 1) ((c8 + (((dgN no9 go i9 : Nat) : Int) - ((dgN nn9 gg i9 : Nat) : Int))) / 2147483648) (va_up T8 i9 (((c8 + (((dgN no9 go i9 : Nat) : Int) - ((dgN nn9 gg i9 : Nat) : Int))) % 2147483648).toNat)) (by omega) (by omega) (sub_step hI) (by omega) (by omega) (up31 hD (by omega)) (fun i q1 q2 => by rw [va_up_ne _ _ (by omega)]; exact hT i (by omega) q2) _ _ (S.sub [2, 3, 0, 1] (by decide) rfl) ls (lv_sub hl [1, 0, 2, 3, 4, 5] rfl)
  exact lp _ 0 0 w8.2.2 (Nat.lt_succ_self _) (by omega) rfl (by omega) (by omega) s3 (fun i _ q => s7 i q) _ _ (S.sub [2, 3, 0, 1] (by decide) rfl) ls (lv_sub hl [1, 0, 2, 3, 4, 5] rfl)
theorem wh_abs {L n : Nat} {g : Nat → Nat} {z z2 : Int} (h : whO L n g z) (e : z2.natAbs = z.natAbs) : whO L n g z2 := ⟨h.1, h.2.1, h.2.2.1, h.2.2.2.1, h.2.2.2.2.1, by rw [e]; exact h.2.2.2.2.2⟩
theorem d_Wh_subtract_0 : decode c_Wh_subtract 0 = .ok (.aload_n 1, 1) := by decide +kernel
theorem d_Wh_subtract_1 : decode c_Wh_subtract 1 = .ok (.getfield 19, 3) := by decide +kernel
theorem d_Wh_subtract_4 : decode c_Wh_subtract 4 = .ok (.ifCond .ne 4, 3) := by decide +kernel
theorem d_Wh_subtract_7 : decode c_Wh_subtract 7 = .ok (.return_, 1) := by decide +kernel
theorem d_Wh_subtract_8 : decode c_Wh_subtract 8 = .ok (.aload_n 0, 1) := by decide +kernel
theorem d_Wh_subtract_9 : decode c_Wh_subtract 9 = .ok (.getfield 19, 3) := by decide +kernel
theorem d_Wh_subtract_12 : decode c_Wh_subtract 12 = .ok (.ifCond .ne 15, 3) := by decide +kernel
theorem d_Wh_subtract_15 : decode c_Wh_subtract 15 = .ok (.aload_n 0, 1) := by decide +kernel
theorem d_Wh_subtract_16 : decode c_Wh_subtract 16 = .ok (.aload_n 1, 1) := by decide +kernel
theorem d_Wh_subtract_17 : decode c_Wh_subtract 17 = .ok (.invokevirtual 50, 3) := by decide +kernel
theorem d_Wh_subtract_20 : decode c_Wh_subtract 20 = .ok (.aload_n 0, 1) := by decide +kernel
theorem d_Wh_subtract_21 : decode c_Wh_subtract 21 = .ok (.invokevirtual 54, 3) := by decide +kernel
theorem d_Wh_subtract_24 : decode c_Wh_subtract 24 = .ok (.goto 54, 3) := by decide +kernel
theorem d_Wh_subtract_27 : decode c_Wh_subtract 27 = .ok (.aload_n 0, 1) := by decide +kernel
theorem d_Wh_subtract_28 : decode c_Wh_subtract 28 = .ok (.getfield 19, 3) := by decide +kernel
theorem d_Wh_subtract_31 : decode c_Wh_subtract 31 = .ok (.aload_n 1, 1) := by decide +kernel
theorem d_Wh_subtract_32 : decode c_Wh_subtract 32 = .ok (.getfield 19, 3) := by decide +kernel
theorem d_Wh_subtract_35 : decode c_Wh_subtract 35 = .ok (.if_icmp .eq 11, 3) := by decide +kernel
theorem d_Wh_subtract_38 : decode c_Wh_subtract 38 = .ok (.aload_n 0, 1) := by decide +kernel
theorem d_Wh_subtract_39 : decode c_Wh_subtract 39 = .ok (.aload_n 1, 1) := by decide +kernel
theorem d_Wh_subtract_40 : decode c_Wh_subtract 40 = .ok (.invokevirtual 57, 3) := by decide +kernel
theorem d_Wh_subtract_43 : decode c_Wh_subtract 43 = .ok (.goto 35, 3) := by decide +kernel
theorem d_Wh_subtract_46 : decode c_Wh_subtract 46 = .ok (.aload_n 0, 1) := by decide +kernel
theorem d_Wh_subtract_47 : decode c_Wh_subtract 47 = .ok (.aload_n 1, 1) := by decide +kernel
theorem d_Wh_subtract_48 : decode c_Wh_subtract 48 = .ok (.invokevirtual 46, 3) := by decide +kernel
theorem d_Wh_subtract_51 : decode c_Wh_subtract 51 = .ok (.ifCond .lt 12, 3) := by decide +kernel
theorem d_Wh_subtract_54 : decode c_Wh_subtract 54 = .ok (.aload_n 0, 1) := by decide +kernel
theorem d_Wh_subtract_55 : decode c_Wh_subtract 55 = .ok (.aload_n 0, 1) := by decide +kernel
theorem d_Wh_subtract_56 : decode c_Wh_subtract 56 = .ok (.aload_n 1, 1) := by decide +kernel
theorem d_Wh_subtract_57 : decode c_Wh_subtract 57 = .ok (.invokevirtual 60, 3) := by decide +kernel
theorem d_Wh_subtract_60 : decode c_Wh_subtract 60 = .ok (.goto 18, 3) := by decide +kernel
theorem d_Wh_subtract_63 : decode c_Wh_subtract 63 = .ok (.aload_n 0, 1) := by decide +kernel
theorem d_Wh_subtract_64 : decode c_Wh_subtract 64 = .ok (.aload_n 1, 1) := by decide +kernel
theorem d_Wh_subtract_65 : decode c_Wh_subtract 65 = .ok (.aload_n 0, 1) := by decide +kernel
theorem d_Wh_subtract_66 : decode c_Wh_subtract 66 = .ok (.invokevirtual 60, 3) := by decide +kernel
theorem d_Wh_subtract_69 : decode c_Wh_subtract 69 = .ok (.aload_n 0, 1) := by decide +kernel
theorem d_Wh_subtract_70 : decode c_Wh_subtract 70 = .ok (.aload_n 1, 1) := by decide +kernel
theorem d_Wh_subtract_71 : decode c_Wh_subtract 71 = .ok (.getfield 19, 3) := by decide +kernel
theorem d_Wh_subtract_74 : decode c_Wh_subtract 74 = .ok (.ineg, 1) := by decide +kernel
theorem d_Wh_subtract_75 : decode c_Wh_subtract 75 = .ok (.putfield 19, 3) := by decide +kernel
theorem d_Wh_subtract_78 : decode c_Wh_subtract 78 = .ok (.return_, 1) := by decide +kernel
set_option maxRecDepth 100000 in
set_option maxHeartbeats 16000000 in
/-- subtract -/
theorem g_Wh_subtract (l : Launch) (G : va_G) (k : Nat → ClassId) (h0 : Nat) (s0 sl : Nat) (Mx : Nat) (dd : Nat) (LL : Nat) (nn9 : Nat) (gg : Nat → Nat) (zz : Int) (ho : Nat) (do9 : Nat) (Lo : Nat) (no9 : Nat) (go : Nat → Nat) (zo : Int) (hw : whO LL nn9 gg zz) (hv : whO Lo no9 go zo) (hm1 : 2 * (nn9 + 1) ≤ Mx) (hm0 : 2 * (no9 + 1) ≤ Mx) (hm2 : LL ≤ Mx) (hm3 : Mx ≤ 400) : CG l y_Wh_subtract c_Wh_subtract 2 none { frames := 4, cells := Mx, slots := 2 * Mx, locals := 130 } [.ref h0, .ref ho] G k s0 sl [(h0, .inr (2, [.ref dd, .int (nI nn9), .int (sgI zz)])), (dd, .inl (k 0, LL, .inl (fun i => nI (gg i)))), (ho, .inr (2, [.ref do9, .int (nI no9), .int (sgI zo)])), (do9, .inl (k 0, Lo, .inl (fun i => nI (go i))))] (fun (u : Nat × Nat × Nat × (Nat → Nat)) => none) (fun (u : Nat × Nat × Nat × (Nat → Nat)) => whO u.2.1 u.2.2.1 u.2.2.2 (zz - zo) ∧ LL ≤ u.2.1 ∧ u.2.1 ≤ Mx) (fun (u : Nat × Nat × Nat × (Nat → Nat)) => [(h0, .inr (2, [.ref u.1, .int (nI u.2.2.1), .int (sgI (zz - zo))])), (u.1, .inl (k 0, u.2.1, .inl (fun i => nI (u.2.2.2 i)))), (ho, .inr (2, [.ref do9, .int (nI no9), .int (sgI zo)])), (do9, .inl (k 0, Lo, .inl (fun i => nI (go i))))]) (fun (u : Nat × Nat × Nat × (Nat → Nat)) => u.2.1 - LL) (fun (u : Nat × Nat × Nat × (Nat → Nat)) => 2 * (u.2.1 - LL)) Mx (2 * Mx) := by
  refine met_startG (by decide) (Nat.le_of_ble_eq_true rfl) ?_
  intro p e s m below meth c C K hA hsz S ls hl
  generalize va_A [(h0, .inr (2, [.ref dd, .int (nI nn9), .int (sgI zz)])), (dd, .inl (k 0, LL, .inl (fun i => nI (gg i)))), (ho, .inr (2, [.ref do9, .int (nI no9), .int (sgI zo)])), (do9, .inl (k 0, Lo, .inl (fun i => nI (go i))))] s0 = A at hA S ⊢
  have hx := C.1
  have hb := C.2.1
  have hl : lv_has ls 2 [(0, .ref h0), (1, .ref ho)] := hl
  have hw0 := hw
  obtain ⟨w1, w2, w3, w4, w5, w6⟩ := hw0
  have hv0 := hv
  obtain ⟨v1, v2, v3, v4, v5, v6⟩ := hv0
  refine lv_aload_n hx hb d_Wh_subtract_0 rfl (lv_at hl 1 rfl) ?_
  refine r_get C K S 2 rfl rfl clOk_Wh 2 (by decide) wf_Wh_19 (v := .int (sgI zo)) rfl d_Wh_subtract_1 ?_
  refine lv_if_ne (tgt := 8) hx hb d_Wh_subtract_4 (by decide) (fun hc1 => ?_) (fun hc1 => ?_)
  · refine lv_aload_n hx hb d_Wh_subtract_8 rfl (lv_at hl 0 rfl) ?_
    refine r_get C K S 0 rfl rfl clOk_Wh 2 (by decide) wf_Wh_19 (v := .int (sgI zz)) rfl d_Wh_subtract_9 ?_
    refine lv_if_ne (tgt := 27) hx hb d_Wh_subtract_12 (by decide) (fun hc2 => ?_) (fun hc2 => ?_)
    · refine lv_aload_n hx hb d_Wh_subtract_27 rfl (lv_at hl 0 rfl) ?_
      refine r_get C K S 0 rfl rfl clOk_Wh 2 (by decide) wf_Wh_19 (v := .int (sgI zz)) rfl d_Wh_subtract_28 ?_
      refine lv_aload_n hx hb d_Wh_subtract_31 rfl (lv_at hl 1 rfl) ?_
      refine r_get C K S 2 rfl rfl clOk_Wh 2 (by decide) wf_Wh_19 (v := .int (sgI zo)) rfl d_Wh_subtract_32 ?_
      refine lv_icmp_eq (tgt := 46) hx hb d_Wh_subtract_35 (by decide) (fun hc3 => ?_) (fun hc3 => ?_)
      · refine lv_aload_n hx hb d_Wh_subtract_46 rfl (lv_at hl 0 rfl) ?_
        refine lv_aload_n hx hb d_Wh_subtract_47 rfl (lv_at hl 1 rfl) ?_
        refine q_back0 (wi := [(h0, .inr (2, [.ref dd, .int (nI nn9), .int (sgI zz)])), (dd, .inl (k 0, LL, .inl (fun i => nI (gg i)))), (ho, .inr (2, [.ref do9, .int (nI no9), .int (sgI zo)])), (do9, .inl (k 0, Lo, .inl (fun i => nI (go i))))]) (wr := []) S hA [0, 1, 2, 3] [] rfl rfl (by decide) (by decide) (va_runV (As := [.ref ho]) (rest := []) ⟨hx, hb, C.2.2.1, C.2.2.2.1, C.2.2.2.2.1⟩ (g_Wh_compareAmount l G k h0 _ _ dd LL nn9 gg zz ho do9 Lo no9 go zo (by first | assumption | omega) (by first | assumption | omega)) (k_virt (n := 1) C wc_Wh_compareAmount rfl rfl wz_Wh wm_Wh_46 wn_Wh_compareAmount ws_Wh_compareAmount (by decide +kernel) ⟨(Nat.le_of_ble_eq_true rfl), (Nat.le_of_ble_eq_true rfl)⟩) (pr_nowVG K S [0, 1, 2, 3] (by decide) rfl 0 rfl rfl) rfl rfl hl.1 rfl (lv_room (Nat.le_of_ble_eq_true rfl)) d_Wh_subtract_48 ⟨(Nat.zero_le _), (Nat.zero_le _)⟩) (fun u4 H locs hw5 S => ?_)
        have S : Sw G A s.heap _ _ [(h0, .inr (2, [.ref dd, .int (nI nn9), .int (sgI zz)])), (dd, .inl (k 0, LL, .inl (fun i => nI (gg i)))), (ho, .inr (2, [.ref do9, .int (nI no9), .int (sgI zo)])), (do9, .inl (k 0, Lo, .inl (fun i => nI (go i))))] := S
        have hw5 : True := hw5
        show W p l e _ s m _ below meth c H locs _ _ _ (F0 m 51 ls [.int (cpN zz.natAbs zo.natAbs)])
        refine lv_if_lt (tgt := 63) hx hb d_Wh_subtract_51 (by decide) (fun hc6 => ?_) (fun hc6 => ?_)
        · refine lv_aload_n hx hb d_Wh_subtract_63 rfl (lv_at hl 0 rfl) ?_
          refine lv_aload_n hx hb d_Wh_subtract_64 rfl (lv_at hl 1 rfl) ?_
          refine lv_aload_n hx hb d_Wh_subtract_65 rfl (lv_at hl 0 rfl) ?_
          have hq9 : zz.natAbs < zo.natAbs := by exact cp_nz.mp hc6
          refine q_back0 (wi := [(h0, .inr (2, [.ref dd, .int (nI nn9), .int (sgI zz)])), (dd, .inl (k 0, LL, .inl (fun i => nI (gg i)))), (ho, .inr (2, [.ref do9, .int (nI no9), .int (sgI zo)])), (do9, .inl (k 0, Lo, .inl (fun i => nI (go i))))]) (wr := []) S hA [0, 1, 2, 3] [] rfl rfl (by decide) (by decide) (va_runV (As := [.ref ho, .ref h0]) (rest := []) ⟨hx, hb, C.2.2.1, C.2.2.2.1, C.2.2.2.2.1⟩ (g_Wh_differ_b l G k h0 _ _ Mx dd LL nn9 gg zz ho do9 Lo no9 go zo (by first | assumption | omega) (by first | assumption | omega) (by omega) (by first | assumption | omega) (by first | assumption | omega) (by first | assumption | omega)) (k_virt (n := 2) C wc_Wh_differ rfl rfl wz_Wh wm_Wh_60 wn_Wh_differ ws_Wh_differ (by decide +kernel) ⟨(Nat.le_of_ble_eq_true rfl), (Nat.le_of_ble_eq_true rfl)⟩) (pr_nowVG K S [0, 1, 2, 3] (by decide) rfl 0 rfl rfl) rfl rfl hl.1 rfl (lv_room (Nat.le_of_ble_eq_true rfl)) d_Wh_subtract_66 ⟨(show 0 + Mx ≤ Mx from by omega), (show 0 + (2 * Mx) ≤ 2 * Mx from by omega)⟩) (fun c8 H locs hw7 S => ?_)
          have S : Sw G A s.heap _ _ [(h0, .inr (2, [.ref c8.1, .int (nI c8.2.2.1), .int (if c8.2.2.1 = 0 then 0 else sgI zz)])), (c8.1, .inl (k 0, c8.2.1, .inl (fun i => nI (c8.2.2.2 i)))), (ho, .inr (2, [.ref do9, .int (nI no9), .int (sgI zo)])), (do9, .inl (k 0, Lo, .inl (fun i => nI (go i))))] := S
          have hw7 : whO c8.2.1 c8.2.2.1 c8.2.2.2 ((zo.natAbs - zz.natAbs : Nat) : Int) ∧ LL ≤ c8.2.1 ∧ c8.2.1 ≤ Mx := hw7
          show W p l e _ s m _ below meth c H locs _ _ _ (F0 m 69 ls [])
          obtain ⟨k1, k2, k3⟩ := hw7
          refine lv_aload_n hx hb d_Wh_subtract_69 rfl (lv_at hl 0 rfl) ?_
          refine lv_aload_n hx hb d_Wh_subtract_70 rfl (lv_at hl 1 rfl) ?_
          refine r_get C K S 2 rfl rfl clOk_Wh 2 (by decide) wf_Wh_19 (v := .int (sgI zo)) rfl d_Wh_subtract_71 ?_
          refine z_ineg (v := sgI (-zo)) hx hb d_Wh_subtract_74 (sg_neg zo) ?_
          refine r_put C K S 0 rfl rfl clOk_Wh 2 (by decide) wf_Wh_19 rfl (ty := .int) (v := .int (sgI (-zo))) (by decide +kernel) rfl rfl (Nat.le_of_ble_eq_true rfl) (fs' := [.ref c8.1, .int (nI c8.2.2.1), .int (sgI (-zo))]) (ws' := [(h0, .inr (2, [.ref c8.1, .int (nI c8.2.2.1), .int (sgI (-zo))])), (c8.1, .inl (k 0, c8.2.1, .inl (fun i => nI (c8.2.2.2 i)))), (ho, .inr (2, [.ref do9, .int (nI no9), .int (sgI zo)])), (do9, .inl (k 0, Lo, .inl (fun i => nI (go i))))]) rfl rfl d_Wh_subtract_75 (fun H locs S => ?_)
          have n1 : ¬ zo = 0 := fun q => hc1 (sgn_0.mpr q)
          have n2 : ¬ zz = 0 := fun q => hc2 (sgn_0.mpr q)
          obtain ⟨g1, g2⟩ := sgn_same hc3
          have S : Sw G A s.heap H locs [(h0, .inr (2, [.ref c8.1, .int (nI c8.2.2.1), .int (sgI (zz - zo))])), (c8.1, .inl (k 0, c8.2.1, .inl (fun i => nI (c8.2.2.2 i)))), (ho, .inr (2, [.ref do9, .int (nI no9), .int (sgI zo)])), (do9, .inl (k 0, Lo, .inl (fun i => nI (go i))))] := by rw [show sgI (zz - zo) = sgI (-zo) from sgn_eq (by omega) (by omega)]; exact S
          exact q_vret C K hsz (c8.1, c8.2.1, c8.2.2.1, c8.2.2.2) (show whO c8.2.1 c8.2.2.1 c8.2.2.2 (zz - zo) ∧ LL ≤ c8.2.1 ∧ c8.2.1 ≤ Mx from ⟨wh_abs k1 (by omega), k2, k3⟩) (S.sub [0, 1, 2, 3] (by decide) rfl) d_Wh_subtract_78 (show 0 + (c8.2.1 - LL) ≤ c8.2.1 - LL from by omega) (show 0 + (2 * (c8.2.1 - LL)) ≤ 2 * (c8.2.1 - LL) from by omega) (show 0 + (c8.2.1 - LL) ≤ Mx from by omega) (show 0 + (2 * (c8.2.1 - LL)) ≤ 2 * Mx from by omega)
        · refine lv_aload_n hx hb d_Wh_subtract_54 rfl (lv_at hl 0 rfl) ?_
          refine lv_aload_n hx hb d_Wh_subtract_55 rfl (lv_at hl 0 rfl) ?_
          refine lv_aload_n hx hb d_Wh_subtract_56 rfl (lv_at hl 1 rfl) ?_
          have hq9 : zo.natAbs ≤ zz.natAbs := by have := mt cp_nz.mpr hc6; omega
          refine q_back0 (wi := [(h0, .inr (2, [.ref dd, .int (nI nn9), .int (sgI zz)])), (dd, .inl (k 0, LL, .inl (fun i => nI (gg i)))), (ho, .inr (2, [.ref do9, .int (nI no9), .int (sgI zo)])), (do9, .inl (k 0, Lo, .inl (fun i => nI (go i))))]) (wr := []) S hA [0, 1, 2, 3] [] rfl rfl (by decide) (by decide) (va_runV (As := [.ref h0, .ref ho]) (rest := []) ⟨hx, hb, C.2.2.1, C.2.2.2.1, C.2.2.2.2.1⟩ (g_Wh_differ_a l G k h0 _ _ Mx dd LL nn9 gg zz ho do9 Lo no9 go zo (by first | assumption | omega) (by first | assumption | omega) (by omega) (by first | assumption | omega) (by first | assumption | omega) (by first | assumption | omega)) (k_virt (n := 2) C wc_Wh_differ rfl rfl wz_Wh wm_Wh_60 wn_Wh_differ ws_Wh_differ (by decide +kernel) ⟨(Nat.le_of_ble_eq_true rfl), (Nat.le_of_ble_eq_true rfl)⟩) (pr_nowVG K S [0, 1, 2, 3] (by decide) rfl 0 rfl rfl) rfl rfl hl.1 rfl (lv_room (Nat.le_of_ble_eq_true rfl)) d_Wh_subtract_57 ⟨(show 0 + Mx ≤ Mx from by omega), (show 0 + (2 * Mx) ≤ 2 * Mx from by omega)⟩) (fun c8 H locs hw8 S => ?_)
          have S : Sw G A s.heap _ _ [(h0, .inr (2, [.ref c8.1, .int (nI c8.2.2.1), .int (if c8.2.2.1 = 0 then 0 else sgI zz)])), (c8.1, .inl (k 0, c8.2.1, .inl (fun i => nI (c8.2.2.2 i)))), (ho, .inr (2, [.ref do9, .int (nI no9), .int (sgI zo)])), (do9, .inl (k 0, Lo, .inl (fun i => nI (go i))))] := S
          have hw8 : whO c8.2.1 c8.2.2.1 c8.2.2.2 ((zz.natAbs - zo.natAbs : Nat) : Int) ∧ LL ≤ c8.2.1 ∧ c8.2.1 ≤ Mx := hw8
          show W p l e _ s m _ below meth c H locs _ _ _ (F0 m 60 ls [])
          obtain ⟨k1, k2, k3⟩ := hw8
          refine lv_goto (tgt := 78) hx hb d_Wh_subtract_60 (by decide) ?_
          have n1 : ¬ zo = 0 := fun q => hc1 (sgn_0.mpr q)
          have n2 : ¬ zz = 0 := fun q => hc2 (sgn_0.mpr q)
          obtain ⟨g1, g2⟩ := sgn_same hc3
          have S : Sw G A s.heap H locs [(h0, .inr (2, [.ref c8.1, .int (nI c8.2.2.1), .int (sgI (zz - zo))])), (c8.1, .inl (k 0, c8.2.1, .inl (fun i => nI (c8.2.2.2 i)))), (ho, .inr (2, [.ref do9, .int (nI no9), .int (sgI zo)])), (do9, .inl (k 0, Lo, .inl (fun i => nI (go i))))] := by rw [← sg_pick (z := zz - zo) (z2 := zz) (whn_0 k1) (by omega) (fun _ => sgn_eq (by omega) (by omega))]; exact S
          exact q_vret C K hsz (c8.1, c8.2.1, c8.2.2.1, c8.2.2.2) (show whO c8.2.1 c8.2.2.1 c8.2.2.2 (zz - zo) ∧ LL ≤ c8.2.1 ∧ c8.2.1 ≤ Mx from ⟨wh_abs k1 (by omega), k2, k3⟩) (S.sub [0, 1, 2, 3] (by decide) rfl) d_Wh_subtract_78 (show 0 + (c8.2.1 - LL) ≤ c8.2.1 - LL from by omega) (show 0 + (2 * (c8.2.1 - LL)) ≤ 2 * (c8.2.1 - LL) from by omega) (show 0 + (c8.2.1 - LL) ≤ Mx from by omega) (show 0 + (2 * (c8.2.1 - LL)) ≤ 2 * Mx from by omega)
      · refine lv_aload_n hx hb d_Wh_subtract_38 rfl (lv_at hl 0 rfl) ?_
        refine lv_aload_n hx hb d_Wh_subtract_39 rfl (lv_at hl 1 rfl) ?_
        refine q_back0 (wi := [(h0, .inr (2, [.ref dd, .int (nI nn9), .int (sgI zz)])), (dd, .inl (k 0, LL, .inl (fun i => nI (gg i)))), (ho, .inr (2, [.ref do9, .int (nI no9), .int (sgI zo)])), (do9, .inl (k 0, Lo, .inl (fun i => nI (go i))))]) (wr := []) S hA [0, 1, 2, 3] [] rfl rfl (by decide) (by decide) (va_runV (As := [.ref ho]) (rest := []) ⟨hx, hb, C.2.2.1, C.2.2.2.1, C.2.2.2.2.1⟩ (g_Wh_addAmount l G k h0 _ _ Mx dd LL nn9 gg zz ho do9 Lo no9 go zo (by first | assumption | omega) (by first | assumption | omega) (by first | assumption | omega) (by first | assumption | omega) (by first | assumption | omega) (by first | assumption | omega)) (k_virt (n := 1) C wc_Wh_addAmount rfl rfl wz_Wh wm_Wh_57 wn_Wh_addAmount ws_Wh_addAmount (by decide +kernel) ⟨(Nat.le_of_ble_eq_true rfl), (Nat.le_of_ble_eq_true rfl)⟩) (pr_nowVG K S [0, 1, 2, 3] (by decide) rfl 0 rfl rfl) rfl rfl hl.1 rfl (lv_room (Nat.le_of_ble_eq_true rfl)) d_Wh_subtract_40 ⟨(show 0 + Mx ≤ Mx from by omega), (show 0 + (2 * Mx) ≤ 2 * Mx from by omega)⟩) (fun c8 H locs hw9 S => ?_)
        have S : Sw G A s.heap _ _ [(h0, .inr (2, [.ref c8.1, .int (nI c8.2.2.1), .int (if c8.2.2.1 = 0 then 0 else sgI zz)])), (c8.1, .inl (k 0, c8.2.1, .inl (fun i => nI (c8.2.2.2 i)))), (ho, .inr (2, [.ref do9, .int (nI no9), .int (sgI zo)])), (do9, .inl (k 0, Lo, .inl (fun i => nI (go i))))] := S
        have hw9 : whO c8.2.1 c8.2.2.1 c8.2.2.2 ((zz.natAbs + zo.natAbs : Nat) : Int) ∧ LL ≤ c8.2.1 ∧ c8.2.1 ≤ Mx := hw9
        show W p l e _ s m _ below meth c H locs _ _ _ (F0 m 43 ls [])
        obtain ⟨k1, k2, k3⟩ := hw9
        refine lv_goto (tgt := 78) hx hb d_Wh_subtract_43 (by decide) ?_
        have n1 : ¬ zo = 0 := fun q => hc1 (sgn_0.mpr q)
        have n2 : ¬ zz = 0 := fun q => hc2 (sgn_0.mpr q)
        have hs9 : ¬ ((zz < 0 ↔ zo < 0)) := fun q => hc3 (sgn_eq q (by omega))
        have S : Sw G A s.heap H locs [(h0, .inr (2, [.ref c8.1, .int (nI c8.2.2.1), .int (sgI (zz - zo))])), (c8.1, .inl (k 0, c8.2.1, .inl (fun i => nI (c8.2.2.2 i)))), (ho, .inr (2, [.ref do9, .int (nI no9), .int (sgI zo)])), (do9, .inl (k 0, Lo, .inl (fun i => nI (go i))))] := by rw [← sg_pick (z := zz - zo) (z2 := zz) (whn_0 k1) (by omega) (fun _ => sgn_eq (by omega) (by omega))]; exact S
        exact q_vret C K hsz (c8.1, c8.2.1, c8.2.2.1, c8.2.2.2) (show whO c8.2.1 c8.2.2.1 c8.2.2.2 (zz - zo) ∧ LL ≤ c8.2.1 ∧ c8.2.1 ≤ Mx from ⟨wh_abs k1 (by omega), k2, k3⟩) (S.sub [0, 1, 2, 3] (by decide) rfl) d_Wh_subtract_78 (show 0 + (c8.2.1 - LL) ≤ c8.2.1 - LL from by omega) (show 0 + (2 * (c8.2.1 - LL)) ≤ 2 * (c8.2.1 - LL) from by omega) (show 0 + (c8.2.1 - LL) ≤ Mx from by omega) (show 0 + (2 * (c8.2.1 - LL)) ≤ 2 * Mx from by omega)
    · refine lv_aload_n hx hb d_Wh_subtract_15 rfl (lv_at hl 0 rfl) ?_
      refine lv_aload_n hx hb d_Wh_subtract_16 rfl (lv_at hl 1 rfl) ?_
      refine q_back0 (wi := [(h0, .inr (2, [.ref dd, .int (nI nn9), .int (sgI zz)])), (dd, .inl (k 0, LL, .inl (fun i => nI (gg i)))), (ho, .inr (2, [.ref do9, .int (nI no9), .int (sgI zo)])), (do9, .inl (k 0, Lo, .inl (fun i => nI (go i))))]) (wr := []) S hA [0, 1, 2, 3] [] rfl rfl (by decide) (by decide) (va_runV (As := [.ref ho]) (rest := []) ⟨hx, hb, C.2.2.1, C.2.2.2.1, C.2.2.2.2.1⟩ (g_Wh_copy l G k h0 _ _ Mx dd LL (nI nn9) (sgI zz) gg ho do9 Lo no9 go zo (wh_ra hw) (by first | assumption | omega) (by first | assumption | omega) (by first | assumption | omega) (by first | assumption | omega)) (k_virt (n := 1) C wc_Wh_copy rfl rfl wz_Wh wm_Wh_50 wn_Wh_copy ws_Wh_copy (by decide +kernel) ⟨(Nat.le_of_ble_eq_true rfl), (Nat.le_of_ble_eq_true rfl)⟩) (pr_nowVG K S [0, 1, 2, 3] (by decide) rfl 0 rfl rfl) rfl rfl hl.1 rfl (lv_room (Nat.le_of_ble_eq_true rfl)) d_Wh_subtract_17 ⟨(show 0 + Mx ≤ Mx from by omega), (show 0 + (2 * Mx) ≤ 2 * Mx from by omega)⟩) (fun c8 H locs hw10 S => ?_)
      have S : Sw G A s.heap _ _ [(h0, .inr (2, [.ref c8.1, .int (nI no9), .int (sgI zo)])), (c8.1, .inl (k 0, c8.2.1, .inl (fun i => nI (c8.2.2 i)))), (ho, .inr (2, [.ref do9, .int (nI no9), .int (sgI zo)])), (do9, .inl (k 0, Lo, .inl (fun i => nI (go i))))] := S
      have hw10 : whO c8.2.1 no9 c8.2.2 zo ∧ LL ≤ c8.2.1 ∧ c8.2.1 ≤ Mx := hw10
      show W p l e _ s m _ below meth c H locs _ _ _ (F0 m 20 ls [])
      obtain ⟨k1, k2, k3⟩ := hw10
      refine lv_aload_n hx hb d_Wh_subtract_20 rfl (lv_at hl 0 rfl) ?_
      refine q_back0 (wi := [(h0, .inr (2, [.ref c8.1, .int (nI no9), .int (sgI zo)])), (c8.1, .inl (k 0, c8.2.1, .inl (fun i => nI (c8.2.2 i))))]) (wr := [(ho, .inr (2, [.ref do9, .int (nI no9), .int (sgI zo)])), (do9, .inl (k 0, Lo, .inl (fun i => nI (go i))))]) S hA [0, 1] [2, 3] rfl rfl (by decide) (by decide) (va_runV (As := []) (rest := []) ⟨hx, hb, C.2.2.1, C.2.2.2.1, C.2.2.2.2.1⟩ (g_Wh_negate l G k h0 _ _ c8.1 c8.2.1 no9 c8.2.2 zo) (k_virt (n := 0) C wc_Wh_negate rfl rfl wz_Wh wm_Wh_54 wn_Wh_negate ws_Wh_negate (by decide +kernel) ⟨(Nat.le_of_ble_eq_true rfl), (Nat.le_of_ble_eq_true rfl)⟩) (pr_nowVG K S [0, 1] (by decide) rfl 0 rfl rfl) rfl rfl hl.1 rfl (lv_room (Nat.le_of_ble_eq_true rfl)) d_Wh_subtract_21 ⟨(show 0 + (c8.2.1 - LL) ≤ Mx from by omega), (show 0 + (2 * (c8.2.1 - LL)) ≤ 2 * Mx from by omega)⟩) (fun u11 H locs hw12 S => ?_)
      have S : Sw G A s.heap _ _ [(ho, .inr (2, [.ref do9, .int (nI no9), .int (sgI zo)])), (do9, .inl (k 0, Lo, .inl (fun i => nI (go i)))), (h0, .inr (2, [.ref c8.1, .int (nI no9), .int (sgI (-zo))])), (c8.1, .inl (k 0, c8.2.1, .inl (fun i => nI (c8.2.2 i))))] := S
      have hw12 : True := hw12
      show W p l e _ s m _ below meth c H locs _ _ _ (F0 m 24 ls [])
      refine lv_goto (tgt := 78) hx hb d_Wh_subtract_24 (by decide) ?_
      have e0 : zz = 0 := sgn_0.mp hc2
      have e1 : zz - zo = -zo := by omega
      have S : Sw G A s.heap H locs [(ho, .inr (2, [.ref do9, .int (nI no9), .int (sgI zo)])), (do9, .inl (k 0, Lo, .inl (fun i => nI (go i)))), (h0, .inr (2, [.ref c8.1, .int (nI no9), .int (sgI (zz - zo))])), (c8.1, .inl (k 0, c8.2.1, .inl (fun i => nI (c8.2.2 i))))] := by rw [e1]; exact S
      exact q_vret C K hsz (c8.1, c8.2.1, no9, c8.2.2) (show whO c8.2.1 no9 c8.2.2 (zz - zo) ∧ LL ≤ c8.2.1 ∧ c8.2.1 ≤ Mx from ⟨wh_abs k1 (by rw [e1, Int.natAbs_neg]), k2, k3⟩) (S.sub [2, 3, 0, 1] (by decide) rfl) d_Wh_subtract_78 (show 0 + (c8.2.1 - LL) ≤ c8.2.1 - LL from by omega) (show 0 + (2 * (c8.2.1 - LL)) ≤ 2 * (c8.2.1 - LL) from by omega) (show 0 + (c8.2.1 - LL) ≤ Mx from by omega) (show 0 + (2 * (c8.2.1 - LL)) ≤ 2 * Mx from by omega)
  · have e0 : zo = 0 := sgn_0.mp hc1
    have e1 : zz - zo = zz := by omega
    have S : Sw G A s.heap s.heap [] [(h0, .inr (2, [.ref dd, .int (nI nn9), .int (sgI (zz - zo))])), (dd, .inl (k 0, LL, .inl (fun i => nI (gg i)))), (ho, .inr (2, [.ref do9, .int (nI no9), .int (sgI zo)])), (do9, .inl (k 0, Lo, .inl (fun i => nI (go i))))] := by rw [e1]; exact S
    exact q_vret C K hsz (dd, LL, nn9, gg) (show whO LL nn9 gg (zz - zo) ∧ LL ≤ LL ∧ LL ≤ Mx from ⟨by rw [e1]; exact hw, Nat.le_refl _, hm2⟩) (S.sub [0, 1, 2, 3] (by decide) rfl) d_Wh_subtract_7 (Nat.zero_le _) (Nat.zero_le _) (Nat.zero_le _) (Nat.zero_le _)
theorem d_Wh_multiply_0 : decode c_Wh_multiply 0 = .ok (.aload_n 1, 1) := by decide +kernel
theorem d_Wh_multiply_1 : decode c_Wh_multiply 1 = .ok (.getfield 29, 3) := by decide +kernel
theorem d_Wh_multiply_4 : decode c_Wh_multiply 4 = .ok (.aload_n 2, 1) := by decide +kernel
theorem d_Wh_multiply_5 : decode c_Wh_multiply 5 = .ok (.getfield 29, 3) := by decide +kernel
theorem d_Wh_multiply_8 : decode c_Wh_multiply 8 = .ok (.iadd, 1) := by decide +kernel
theorem d_Wh_multiply_9 : decode c_Wh_multiply 9 = .ok (.istore_n 3, 1) := by decide +kernel
theorem d_Wh_multiply_10 : decode c_Wh_multiply 10 = .ok (.aload_n 0, 1) := by decide +kernel
theorem d_Wh_multiply_11 : decode c_Wh_multiply 11 = .ok (.iload_n 3, 1) := by decide +kernel
theorem d_Wh_multiply_12 : decode c_Wh_multiply 12 = .ok (.invokevirtual 32, 3) := by decide +kernel
theorem d_Wh_multiply_15 : decode c_Wh_multiply 15 = .ok (.iconst 0, 1) := by decide +kernel
theorem d_Wh_multiply_16 : decode c_Wh_multiply 16 = .ok (.istore 4, 2) := by decide +kernel
theorem d_Wh_multiply_18 : decode c_Wh_multiply 18 = .ok (.iload 4, 2) := by decide +kernel
theorem d_Wh_multiply_20 : decode c_Wh_multiply 20 = .ok (.iload_n 3, 1) := by decide +kernel
theorem d_Wh_multiply_21 : decode c_Wh_multiply 21 = .ok (.if_icmp .ge 17, 3) := by decide +kernel
theorem d_Wh_multiply_24 : decode c_Wh_multiply 24 = .ok (.aload_n 0, 1) := by decide +kernel
theorem d_Wh_multiply_25 : decode c_Wh_multiply 25 = .ok (.getfield 9, 3) := by decide +kernel
theorem d_Wh_multiply_28 : decode c_Wh_multiply 28 = .ok (.iload 4, 2) := by decide +kernel
theorem d_Wh_multiply_30 : decode c_Wh_multiply 30 = .ok (.iconst 0, 1) := by decide +kernel
theorem d_Wh_multiply_31 : decode c_Wh_multiply 31 = .ok (.iastore, 1) := by decide +kernel
theorem d_Wh_multiply_32 : decode c_Wh_multiply 32 = .ok (.iinc 4 1, 3) := by decide +kernel
theorem d_Wh_multiply_35 : decode c_Wh_multiply 35 = .ok (.goto (-17), 3) := by decide +kernel
theorem d_Wh_multiply_38 : decode c_Wh_multiply 38 = .ok (.iconst 0, 1) := by decide +kernel
theorem d_Wh_multiply_39 : decode c_Wh_multiply 39 = .ok (.istore 4, 2) := by decide +kernel
theorem d_Wh_multiply_41 : decode c_Wh_multiply 41 = .ok (.iload 4, 2) := by decide +kernel
theorem d_Wh_multiply_43 : decode c_Wh_multiply 43 = .ok (.aload_n 1, 1) := by decide +kernel
theorem d_Wh_multiply_44 : decode c_Wh_multiply 44 = .ok (.getfield 29, 3) := by decide +kernel
theorem d_Wh_multiply_47 : decode c_Wh_multiply 47 = .ok (.if_icmp .ge 103, 3) := by decide +kernel
theorem d_Wh_multiply_50 : decode c_Wh_multiply 50 = .ok (.lconst 0, 1) := by decide +kernel
theorem d_Wh_multiply_51 : decode c_Wh_multiply 51 = .ok (.lstore 5, 2) := by decide +kernel
theorem d_Wh_multiply_53 : decode c_Wh_multiply 53 = .ok (.iconst 0, 1) := by decide +kernel
theorem d_Wh_multiply_54 : decode c_Wh_multiply 54 = .ok (.istore 7, 2) := by decide +kernel
theorem d_Wh_multiply_56 : decode c_Wh_multiply 56 = .ok (.iload 7, 2) := by decide +kernel
theorem d_Wh_multiply_58 : decode c_Wh_multiply 58 = .ok (.aload_n 2, 1) := by decide +kernel
theorem d_Wh_multiply_59 : decode c_Wh_multiply 59 = .ok (.getfield 29, 3) := by decide +kernel
theorem d_Wh_multiply_62 : decode c_Wh_multiply 62 = .ok (.if_icmp .ge 67, 3) := by decide +kernel
theorem d_Wh_multiply_65 : decode c_Wh_multiply 65 = .ok (.lload 5, 2) := by decide +kernel
theorem d_Wh_multiply_67 : decode c_Wh_multiply 67 = .ok (.aload_n 0, 1) := by decide +kernel
theorem d_Wh_multiply_68 : decode c_Wh_multiply 68 = .ok (.getfield 9, 3) := by decide +kernel
theorem d_Wh_multiply_71 : decode c_Wh_multiply 71 = .ok (.iload 4, 2) := by decide +kernel
theorem d_Wh_multiply_73 : decode c_Wh_multiply 73 = .ok (.iload 7, 2) := by decide +kernel
theorem d_Wh_multiply_75 : decode c_Wh_multiply 75 = .ok (.iadd, 1) := by decide +kernel
theorem d_Wh_multiply_76 : decode c_Wh_multiply 76 = .ok (.iaload, 1) := by decide +kernel
theorem d_Wh_multiply_77 : decode c_Wh_multiply 77 = .ok (.i2l, 1) := by decide +kernel
theorem d_Wh_multiply_78 : decode c_Wh_multiply 78 = .ok (.aload_n 1, 1) := by decide +kernel
theorem d_Wh_multiply_79 : decode c_Wh_multiply 79 = .ok (.getfield 9, 3) := by decide +kernel
theorem d_Wh_multiply_82 : decode c_Wh_multiply 82 = .ok (.iload 4, 2) := by decide +kernel
theorem d_Wh_multiply_84 : decode c_Wh_multiply 84 = .ok (.iaload, 1) := by decide +kernel
theorem d_Wh_multiply_85 : decode c_Wh_multiply 85 = .ok (.i2l, 1) := by decide +kernel
theorem d_Wh_multiply_86 : decode c_Wh_multiply 86 = .ok (.aload_n 2, 1) := by decide +kernel
theorem d_Wh_multiply_87 : decode c_Wh_multiply 87 = .ok (.getfield 9, 3) := by decide +kernel
theorem d_Wh_multiply_90 : decode c_Wh_multiply 90 = .ok (.iload 7, 2) := by decide +kernel
theorem d_Wh_multiply_92 : decode c_Wh_multiply 92 = .ok (.iaload, 1) := by decide +kernel
theorem d_Wh_multiply_93 : decode c_Wh_multiply 93 = .ok (.i2l, 1) := by decide +kernel
theorem d_Wh_multiply_94 : decode c_Wh_multiply 94 = .ok (.lmul, 1) := by decide +kernel
theorem d_Wh_multiply_95 : decode c_Wh_multiply 95 = .ok (.ladd, 1) := by decide +kernel
theorem d_Wh_multiply_96 : decode c_Wh_multiply 96 = .ok (.ladd, 1) := by decide +kernel
theorem d_Wh_multiply_97 : decode c_Wh_multiply 97 = .ok (.lstore 5, 2) := by decide +kernel
theorem d_Wh_multiply_99 : decode c_Wh_multiply 99 = .ok (.aload_n 0, 1) := by decide +kernel
theorem d_Wh_multiply_100 : decode c_Wh_multiply 100 = .ok (.getfield 9, 3) := by decide +kernel
theorem d_Wh_multiply_103 : decode c_Wh_multiply 103 = .ok (.iload 4, 2) := by decide +kernel
theorem d_Wh_multiply_105 : decode c_Wh_multiply 105 = .ok (.iload 7, 2) := by decide +kernel
theorem d_Wh_multiply_107 : decode c_Wh_multiply 107 = .ok (.iadd, 1) := by decide +kernel
theorem d_Wh_multiply_108 : decode c_Wh_multiply 108 = .ok (.lload 5, 2) := by decide +kernel
theorem d_Wh_multiply_110 : decode c_Wh_multiply 110 = .ok (.ldc2_w 23, 3) := by decide +kernel
theorem d_Wh_multiply_113 : decode c_Wh_multiply 113 = .ok (.land, 1) := by decide +kernel
theorem d_Wh_multiply_114 : decode c_Wh_multiply 114 = .ok (.l2i, 1) := by decide +kernel
theorem d_Wh_multiply_115 : decode c_Wh_multiply 115 = .ok (.iastore, 1) := by decide +kernel
theorem d_Wh_multiply_116 : decode c_Wh_multiply 116 = .ok (.lload 5, 2) := by decide +kernel
theorem d_Wh_multiply_118 : decode c_Wh_multiply 118 = .ok (.bipush 31, 2) := by decide +kernel
theorem d_Wh_multiply_120 : decode c_Wh_multiply 120 = .ok (.lshr, 1) := by decide +kernel
theorem d_Wh_multiply_121 : decode c_Wh_multiply 121 = .ok (.lstore 5, 2) := by decide +kernel
theorem d_Wh_multiply_123 : decode c_Wh_multiply 123 = .ok (.iinc 7 1, 3) := by decide +kernel
theorem d_Wh_multiply_126 : decode c_Wh_multiply 126 = .ok (.goto (-70), 3) := by decide +kernel
theorem d_Wh_multiply_129 : decode c_Wh_multiply 129 = .ok (.aload_n 0, 1) := by decide +kernel
theorem d_Wh_multiply_130 : decode c_Wh_multiply 130 = .ok (.getfield 9, 3) := by decide +kernel
theorem d_Wh_multiply_133 : decode c_Wh_multiply 133 = .ok (.iload 4, 2) := by decide +kernel
theorem d_Wh_multiply_135 : decode c_Wh_multiply 135 = .ok (.aload_n 2, 1) := by decide +kernel
theorem d_Wh_multiply_136 : decode c_Wh_multiply 136 = .ok (.getfield 29, 3) := by decide +kernel
theorem d_Wh_multiply_139 : decode c_Wh_multiply 139 = .ok (.iadd, 1) := by decide +kernel
theorem d_Wh_multiply_140 : decode c_Wh_multiply 140 = .ok (.lload 5, 2) := by decide +kernel
theorem d_Wh_multiply_142 : decode c_Wh_multiply 142 = .ok (.l2i, 1) := by decide +kernel
theorem d_Wh_multiply_143 : decode c_Wh_multiply 143 = .ok (.iastore, 1) := by decide +kernel
theorem d_Wh_multiply_144 : decode c_Wh_multiply 144 = .ok (.iinc 4 1, 3) := by decide +kernel
theorem d_Wh_multiply_147 : decode c_Wh_multiply 147 = .ok (.goto (-106), 3) := by decide +kernel
theorem d_Wh_multiply_150 : decode c_Wh_multiply 150 = .ok (.aload_n 0, 1) := by decide +kernel
theorem d_Wh_multiply_151 : decode c_Wh_multiply 151 = .ok (.aload_n 1, 1) := by decide +kernel
theorem d_Wh_multiply_152 : decode c_Wh_multiply 152 = .ok (.getfield 19, 3) := by decide +kernel
theorem d_Wh_multiply_155 : decode c_Wh_multiply 155 = .ok (.aload_n 2, 1) := by decide +kernel
theorem d_Wh_multiply_156 : decode c_Wh_multiply 156 = .ok (.getfield 19, 3) := by decide +kernel
theorem d_Wh_multiply_159 : decode c_Wh_multiply 159 = .ok (.imul, 1) := by decide +kernel
theorem d_Wh_multiply_160 : decode c_Wh_multiply 160 = .ok (.putfield 19, 3) := by decide +kernel
theorem d_Wh_multiply_163 : decode c_Wh_multiply 163 = .ok (.aload_n 0, 1) := by decide +kernel
theorem d_Wh_multiply_164 : decode c_Wh_multiply 164 = .ok (.iload_n 3, 1) := by decide +kernel
theorem d_Wh_multiply_165 : decode c_Wh_multiply 165 = .ok (.invokevirtual 25, 3) := by decide +kernel
theorem d_Wh_multiply_168 : decode c_Wh_multiply 168 = .ok (.return_, 1) := by decide +kernel
set_option maxRecDepth 100000 in
set_option maxHeartbeats 16000000 in
/-- multiply -/
theorem g_Wh_multiply (l : Launch) (G : va_G) (k : Nat → ClassId) (h0 : Nat) (s0 sl : Nat) (Mx : Nat) (dd : Nat) (LL : Nat) (xs9 : Int32) (ys9 : Int32) (gg : Nat → Nat) (hX : Nat) (dx : Nat) (LX : Nat) (nx : Nat) (gx : Nat → Nat) (zx : Int) (hY : Nat) (dy : Nat) (LY : Nat) (ny : Nat) (gy : Nat → Nat) (zy : Int) (hr : raO LL gg) (hw : whO LX nx gx zx) (hv : whO LY ny gy zy) (hm1 : 2 * (nx + ny) ≤ Mx) (hm2 : LL ≤ Mx) (hm3 : Mx ≤ 400) : CG l y_Wh_multiply c_Wh_multiply 8 none { frames := 3, cells := Mx, slots := 2 * Mx, locals := 104 } [.ref h0, .ref hX, .ref hY] G k s0 sl [(h0, .inr (2, [.ref dd, .int xs9, .int ys9])), (dd, .inl (k 0, LL, .inl (fun i => nI (gg i)))), (hX, .inr (2, [.ref dx, .int (nI nx), .int (sgI zx)])), (dx, .inl (k 0, LX, .inl (fun i => nI (gx i)))), (hY, .inr (2, [.ref dy, .int (nI ny), .int (sgI zy)])), (dy, .inl (k 0, LY, .inl (fun i => nI (gy i))))] (fun (u : Nat × Nat × Nat × (Nat → Nat)) => none) (fun (u : Nat × Nat × Nat × (Nat → Nat)) => whO u.2.1 u.2.2.1 u.2.2.2 (zx * zy) ∧ LL ≤ u.2.1 ∧ u.2.1 ≤ Mx) (fun (u : Nat × Nat × Nat × (Nat → Nat)) => [(h0, .inr (2, [.ref u.1, .int (nI u.2.2.1), .int (sgI (zx * zy))])), (u.1, .inl (k 0, u.2.1, .inl (fun i => nI (u.2.2.2 i)))), (hX, .inr (2, [.ref dx, .int (nI nx), .int (sgI zx)])), (dx, .inl (k 0, LX, .inl (fun i => nI (gx i)))), (hY, .inr (2, [.ref dy, .int (nI ny), .int (sgI zy)])), (dy, .inl (k 0, LY, .inl (fun i => nI (gy i))))]) (fun (u : Nat × Nat × Nat × (Nat → Nat)) => u.2.1 - LL) (fun (u : Nat × Nat × Nat × (Nat → Nat)) => 2 * (u.2.1 - LL)) Mx (2 * Mx) := by
  refine met_startG (by decide) (Nat.le_of_ble_eq_true rfl) ?_
  intro p e s m below meth c C K hA hsz S ls hl
  generalize va_A [(h0, .inr (2, [.ref dd, .int xs9, .int ys9])), (dd, .inl (k 0, LL, .inl (fun i => nI (gg i)))), (hX, .inr (2, [.ref dx, .int (nI nx), .int (sgI zx)])), (dx, .inl (k 0, LX, .inl (fun i => nI (gx i)))), (hY, .inr (2, [.ref dy, .int (nI ny), .int (sgI zy)])), (dy, .inl (k 0, LY, .inl (fun i => nI (gy i))))] s0 = A at hA S ⊢
  have hx := C.1
  have hb := C.2.1
  have hl : lv_has ls 8 [(0, .ref h0), (1, .ref hX), (2, .ref hY)] := hl
  have hr0 := hr
  obtain ⟨r1, r2, r3⟩ := hr0
  have hw0 := hw
  obtain ⟨w1, w2, w3, w4, w5, w6⟩ := hw0
  have hv0 := hv
  obtain ⟨v1, v2, v3, v4, v5, v6⟩ := hv0
  refine lv_aload_n hx hb d_Wh_multiply_0 rfl (lv_at hl 1 rfl) ?_
  refine r_get C K S 2 rfl rfl clOk_Wh 1 (by decide) wf_Wh_29 (v := .int (nI nx)) rfl d_Wh_multiply_1 ?_
  refine lv_aload_n hx hb d_Wh_multiply_4 rfl (lv_at hl 2 rfl) ?_
  refine r_get C K S 4 rfl rfl clOk_Wh 1 (by decide) wf_Wh_29 (v := .int (nI ny)) rfl d_Wh_multiply_5 ?_
  refine z_iadd (x := nI nx) (y := nI ny) (v := nI (nx + ny)) hx hb d_Wh_multiply_8 (nI_add nx ny) ?_
  refine lv_istore_n (lv' := [(3, .int (nI (nx + ny))), (0, .ref h0), (1, .ref hX), (2, .ref hY)]) hx hb d_Wh_multiply_9 rfl hl (by decide) rfl (fun ls hl => ?_)
  refine lv_aload_n hx hb d_Wh_multiply_10 rfl (lv_at hl 1 rfl) ?_
  refine lv_iload_n hx hb d_Wh_multiply_11 rfl (lv_at hl 0 rfl) ?_
  refine q_back0 (wi := [(h0, .inr (2, [.ref dd, .int xs9, .int ys9])), (dd, .inl (k 0, LL, .inl (fun i => nI (gg i))))]) (wr := [(hX, .inr (2, [.ref dx, .int (nI nx), .int (sgI zx)])), (dx, .inl (k 0, LX, .inl (fun i => nI (gx i)))), (hY, .inr (2, [.ref dy, .int (nI ny), .int (sgI zy)])), (dy, .inl (k 0, LY, .inl (fun i => nI (gy i))))]) S hA [0, 1] [2, 3, 4, 5] rfl rfl (by decide) (by decide) (va_runV (As := [.int (nI (nx + ny))]) (rest := []) ⟨hx, hb, C.2.2.1, C.2.2.2.1, C.2.2.2.2.1⟩ (g_Wh_room l G k h0 _ _ (nx + ny) Mx dd LL xs9 ys9 gg (by first | exact hr | exact wh_ra hw) (by first | assumption | omega) (by first | assumption | omega) (by first | assumption | omega)) (k_virt (n := 1) C wc_Wh_room rfl rfl wz_Wh wm_Wh_32 wn_Wh_room ws_Wh_room (by decide +kernel) ⟨(Nat.le_of_ble_eq_true rfl), (Nat.le_of_ble_eq_true rfl)⟩) (pr_nowVG K S [0, 1] (by decide) rfl 0 rfl rfl) rfl rfl hl.1 rfl (lv_room (Nat.le_of_ble_eq_true rfl)) d_Wh_multiply_12 ⟨(show 0 + Mx ≤ Mx from by omega), (show 0 + (2 * Mx) ≤ 2 * Mx from by omega)⟩) (fun w8 H locs hw1 S => ?_)
  have S : Sw G A s.heap _ _ [(hX, .inr (2, [.ref dx, .int (nI nx), .int (sgI zx)])), (dx, .inl (k 0, LX, .inl (fun i => nI (gx i)))), (hY, .inr (2, [.ref dy, .int (nI ny), .int (sgI zy)])), (dy, .inl (k 0, LY, .inl (fun i => nI (gy i)))), (h0, .inr (2, [.ref w8.1, .int xs9, .int ys9])), (w8.1, .inl (k 0, w8.2.1, .inl (fun i => nI (w8.2.2 i))))] := S
  have hw1 : raO w8.2.1 w8.2.2 ∧ LL ≤ w8.2.1 ∧ (nx + ny) ≤ w8.2.1 ∧ w8.2.1 ≤ Mx ∧ ∀ i, i < LL → w8.2.2 i = gg i := hw1
  show W p l e _ s m _ below meth c H locs _ _ _ (F0 m 15 ls [])
  obtain ⟨⟨s1, s2, s3⟩, s4, s5, s6, s7⟩ := hw1
  refine lv_iconst (v := 0) hx hb d_Wh_multiply_15 (by decide) ?_
  refine lv_istore (lv' := [(4, .int 0), (3, .int (nI (nx + ny))), (0, .ref h0), (1, .ref hX), (2, .ref hY)]) hx hb d_Wh_multiply_16 hl (by decide) rfl (fun ls hl => ?_)
  have lz : ∀ d9, ∀ (i9 : Nat), ∀ (T6 : Nat → Nat), (nx + ny - i9) < d9 → (i9 ≤ nx + ny) → (∀ i, T6 i < 2147483648) → (∀ i, i < i9 → T6 i = 0) → ∀ (H : Heap) (locs : List Loc), Sw G A s.heap H locs [(h0, .inr (2, [.ref w8.1, .int xs9, .int ys9])), (w8.1, .inl (k 0, w8.2.1, .inl (fun i => nI (T6 i)))), (hX, .inr (2, [.ref dx, .int (nI nx), .int (sgI zx)])), (dx, .inl (k 0, LX, .inl (fun i => nI (gx i)))), (hY, .inr (2, [.ref dy, .int (nI ny), .int (sgI zy)])), (dy, .inl (k 0, LY, .inl (fun i => nI (gy i))))] → ∀ ls : Array Slot, lv_has ls 8 [(4, .int (nI i9)), (3, .int (nI (nx + ny))), (0, .ref h0), (1, .ref hX), (2, .ref hY)] → W p l e { frames := 3, cells := Mx, slots := 2 * Mx, locals := 104 } s m [Value.ref h0, Value.ref hX, Value.ref hY].toArray below meth c H locs (0 + (w8.2.1 - LL)) (0 + (2 * (w8.2.1 - LL))) (MQ below (va_Qg (fun (u : Nat × Nat × Nat × (Nat → Nat)) => none) (fun (u : Nat × Nat × Nat × (Nat → Nat)) => whO u.2.1 u.2.2.1 u.2.2.2 (zx * zy) ∧ LL ≤ u.2.1 ∧ u.2.1 ≤ Mx) (Pog G k A (fun (u : Nat × Nat × Nat × (Nat → Nat)) => [(h0, .inr (2, [.ref u.1, .int (nI u.2.2.1), .int (sgI (zx * zy))])), (u.1, .inl (k 0, u.2.1, .inl (fun i => nI (u.2.2.2 i)))), (hX, .inr (2, [.ref dx, .int (nI nx), .int (sgI zx)])), (dx, .inl (k 0, LX, .inl (fun i => nI (gx i)))), (hY, .inr (2, [.ref dy, .int (nI ny), .int (sgI zy)])), (dy, .inl (k 0, LY, .inl (fun i => nI (gy i))))]) s0 sl (fun (u : Nat × Nat × Nat × (Nat → Nat)) => u.2.1 - LL) (fun (u : Nat × Nat × Nat × (Nat → Nat)) => 2 * (u.2.1 - LL))) A) [Value.ref h0, Value.ref hX, Value.ref hY].toArray s Mx (2 * Mx) A) (F0 m 18 ls []) := by
    intro d9
    induction d9 with
    | zero => intro i9 T6 hm; exact absurd hm (Nat.not_lt_zero _)
    | succ d9 ih_lz =>
      intro i9 T6 hm hi hD6 hZ6 H locs S ls hl
      refine lv_iload hx hb d_Wh_multiply_18 (lv_at hl 0 rfl) ?_
      refine lv_iload_n hx hb d_Wh_multiply_20 rfl (lv_at hl 1 rfl) ?_
      refine z_icmp_ge (a := i9) (b := (nx + ny)) (tgt := 38) hx hb d_Wh_multiply_21 (by decide) (by omega) (by omega) (fun hc2 => ?_) (fun hc2 => ?_)
      · refine lv_iconst (v := 0) hx hb d_Wh_multiply_38 (by decide) ?_
        refine lv_istore (lv' := [(4, .int 0), (3, .int (nI (nx + ny))), (0, .ref h0), (1, .ref hX), (2, .ref hY)]) hx hb d_Wh_multiply_39 hl (by decide) rfl (fun ls hl => ?_)
        have lp : ∀ d9, ∀ (i9 : Nat), ∀ (T8 : Nat → Nat), (nx - i9) < d9 → (i9 ≤ nx) → (vl 2147483648 T8 (nx + ny) = vl 2147483648 gx i9 * vl 2147483648 gy ny) → (∀ i, T8 i < 2147483648) → (∀ i, i9 + ny ≤ i → i < nx + ny → T8 i = 0) → ∀ (H : Heap) (locs : List Loc), Sw G A s.heap H locs [(h0, .inr (2, [.ref w8.1, .int xs9, .int ys9])), (w8.1, .inl (k 0, w8.2.1, .inl (fun i => nI (T8 i)))), (hX, .inr (2, [.ref dx, .int (nI nx), .int (sgI zx)])), (dx, .inl (k 0, LX, .inl (fun i => nI (gx i)))), (hY, .inr (2, [.ref dy, .int (nI ny), .int (sgI zy)])), (dy, .inl (k 0, LY, .inl (fun i => nI (gy i))))] → ∀ ls : Array Slot, lv_has ls 8 [(4, .int (nI i9)), (3, .int (nI (nx + ny))), (0, .ref h0), (1, .ref hX), (2, .ref hY)] → W p l e { frames := 3, cells := Mx, slots := 2 * Mx, locals := 104 } s m [Value.ref h0, Value.ref hX, Value.ref hY].toArray below meth c H locs (0 + (w8.2.1 - LL)) (0 + (2 * (w8.2.1 - LL))) (MQ below (va_Qg (fun (u : Nat × Nat × Nat × (Nat → Nat)) => none) (fun (u : Nat × Nat × Nat × (Nat → Nat)) => whO u.2.1 u.2.2.1 u.2.2.2 (zx * zy) ∧ LL ≤ u.2.1 ∧ u.2.1 ≤ Mx) (Pog G k A (fun (u : Nat × Nat × Nat × (Nat → Nat)) => [(h0, .inr (2, [.ref u.1, .int (nI u.2.2.1), .int (sgI (zx * zy))])), (u.1, .inl (k 0, u.2.1, .inl (fun i => nI (u.2.2.2 i)))), (hX, .inr (2, [.ref dx, .int (nI nx), .int (sgI zx)])), (dx, .inl (k 0, LX, .inl (fun i => nI (gx i)))), (hY, .inr (2, [.ref dy, .int (nI ny), .int (sgI zy)])), (dy, .inl (k 0, LY, .inl (fun i => nI (gy i))))]) s0 sl (fun (u : Nat × Nat × Nat × (Nat → Nat)) => u.2.1 - LL) (fun (u : Nat × Nat × Nat × (Nat → Nat)) => 2 * (u.2.1 - LL))) A) [Value.ref h0, Value.ref hX, Value.ref hY].toArray s Mx (2 * Mx) A) (F0 m 41 ls []) := by
          intro d9
          induction d9 with
          | zero => intro i9 T8 hm; exact absurd hm (Nat.not_lt_zero _)
          | succ d9 ih_lp =>
            intro i9 T8 hm hi hI hD hZ H locs S ls hl
            refine lv_iload hx hb d_Wh_multiply_41 (lv_at hl 0 rfl) ?_
            refine lv_aload_n hx hb d_Wh_multiply_43 rfl (lv_at hl 3 rfl) ?_
            refine r_get C K S 2 rfl rfl clOk_Wh 1 (by decide) wf_Wh_29 (v := .int (nI nx)) rfl d_Wh_multiply_44 ?_
            refine z_icmp_ge (a := i9) (b := nx) (tgt := 150) hx hb d_Wh_multiply_47 (by decide) (by omega) (by omega) (fun hc3 => ?_) (fun hc3 => ?_)
            · refine lv_aload_n hx hb d_Wh_multiply_150 rfl (lv_at hl 2 rfl) ?_
              refine lv_aload_n hx hb d_Wh_multiply_151 rfl (lv_at hl 3 rfl) ?_
              refine r_get C K S 2 rfl rfl clOk_Wh 2 (by decide) wf_Wh_19 (v := .int (sgI zx)) rfl d_Wh_multiply_152 ?_
              refine lv_aload_n hx hb d_Wh_multiply_155 rfl (lv_at hl 4 rfl) ?_
              refine r_get C K S 4 rfl rfl clOk_Wh 2 (by decide) wf_Wh_19 (v := .int (sgI zy)) rfl d_Wh_multiply_156 ?_
              refine z_imul (v := sgI (zx * zy)) hx hb d_Wh_multiply_159 (sg_mul zx zy) ?_
              refine r_put C K S 0 rfl rfl clOk_Wh 2 (by decide) wf_Wh_19 rfl (ty := .int) (v := .int (sgI (zx * zy))) (by decide +kernel) rfl rfl (Nat.le_of_ble_eq_true rfl) (fs' := [.ref w8.1, .int xs9, .int (sgI (zx * zy))]) (ws' := [(h0, .inr (2, [.ref w8.1, .int xs9, .int (sgI (zx * zy))])), (w8.1, .inl (k 0, w8.2.1, .inl (fun i => nI (T8 i)))), (hX, .inr (2, [.ref dx, .int (nI nx), .int (sgI zx)])), (dx, .inl (k 0, LX, .inl (fun i => nI (gx i)))), (hY, .inr (2, [.ref dy, .int (nI ny), .int (sgI zy)])), (dy, .inl (k 0, LY, .inl (fun i => nI (gy i))))]) rfl rfl d_Wh_multiply_160 (fun H locs S => ?_)
              refine lv_aload_n hx hb d_Wh_multiply_163 rfl (lv_at hl 2 rfl) ?_
              refine lv_iload_n hx hb d_Wh_multiply_164 rfl (lv_at hl 1 rfl) ?_
              have e9 : i9 = nx := by omega
              rw [e9] at hI
              refine q_back0 (wi := [(h0, .inr (2, [.ref w8.1, .int xs9, .int (sgI (zx * zy))])), (w8.1, .inl (k 0, w8.2.1, .inl (fun i => nI (T8 i))))]) (wr := [(hX, .inr (2, [.ref dx, .int (nI nx), .int (sgI zx)])), (dx, .inl (k 0, LX, .inl (fun i => nI (gx i)))), (hY, .inr (2, [.ref dy, .int (nI ny), .int (sgI zy)])), (dy, .inl (k 0, LY, .inl (fun i => nI (gy i))))]) S hA [0, 1] [2, 3, 4, 5] rfl rfl (by decide) (by decide) (va_runV (As := [.int (nI (nx + ny))]) (rest := []) ⟨hx, hb, C.2.2.1, C.2.2.2.1, C.2.2.2.2.1⟩ (g_Wh_trim l G k h0 _ _ (nx + ny) w8.1 w8.2.1 xs9 (sgI (zx * zy)) T8 ⟨s1, s2, hD⟩ (by omega)) (k_virt (n := 1) C wc_Wh_trim rfl rfl wz_Wh wm_Wh_25 wn_Wh_trim ws_Wh_trim (by decide +kernel) ⟨(Nat.le_of_ble_eq_true rfl), (Nat.le_of_ble_eq_true rfl)⟩) (pr_nowVG K S [0, 1] (by decide) rfl 0 rfl rfl) rfl rfl hl.1 rfl (lv_room (Nat.le_of_ble_eq_true rfl)) d_Wh_multiply_165 ⟨(show 0 + (w8.2.1 - LL) ≤ Mx from by omega), (show 0 + (2 * (w8.2.1 - LL)) ≤ 2 * Mx from by omega)⟩) (fun n7 H locs hw4 S => ?_)
              have S : Sw G A s.heap _ _ [(hX, .inr (2, [.ref dx, .int (nI nx), .int (sgI zx)])), (dx, .inl (k 0, LX, .inl (fun i => nI (gx i)))), (hY, .inr (2, [.ref dy, .int (nI ny), .int (sgI zy)])), (dy, .inl (k 0, LY, .inl (fun i => nI (gy i)))), (h0, .inr (2, [.ref w8.1, .int (nI n7), .int (if n7 = 0 then 0 else (sgI (zx * zy)))])), (w8.1, .inl (k 0, w8.2.1, .inl (fun i => nI (T8 i))))] := S
              have hw4 : n7 ≤ (nx + ny) ∧ (n7 = 0 ∨ T8 (n7 - 1) ≠ 0) ∧ vl 2147483648 T8 n7 = vl 2147483648 T8 (nx + ny) := hw4
              show W p l e _ s m _ below meth c H locs _ _ _ (F0 m 168 ls [])
              obtain ⟨t1, t2, t3⟩ := hw4
              have kw : whO w8.2.1 n7 T8 (zx * zy) := wh_of (by omega) ⟨s1, s2, hD⟩ t2 (by rw [t3, hI, w6, v6]) (Int.natAbs_mul zx zy)
              have S : Sw G A s.heap H locs [(hX, .inr (2, [.ref dx, .int (nI nx), .int (sgI zx)])), (dx, .inl (k 0, LX, .inl (fun i => nI (gx i)))), (hY, .inr (2, [.ref dy, .int (nI ny), .int (sgI zy)])), (dy, .inl (k 0, LY, .inl (fun i => nI (gy i)))), (h0, .inr (2, [.ref w8.1, .int (nI n7), .int (sgI (zx * zy))])), (w8.1, .inl (k 0, w8.2.1, .inl (fun i => nI (T8 i))))] := by rw [← sg_pick (n := n7) (z := zx * zy) (z2 := zx * zy) (whn_0 kw) (fun q => q) (fun _ => rfl)]; exact S
              exact q_vret C K hsz (w8.1, w8.2.1, n7, T8) (show whO w8.2.1 n7 T8 (zx * zy) ∧ LL ≤ w8.2.1 ∧ w8.2.1 ≤ Mx from ⟨kw, s4, s6⟩) (S.sub [4, 5, 0, 1, 2, 3] (by decide) rfl) d_Wh_multiply_168 (show 0 + (w8.2.1 - LL) ≤ w8.2.1 - LL from by omega) (show 0 + (2 * (w8.2.1 - LL)) ≤ 2 * (w8.2.1 - LL) from by omega) (show 0 + (w8.2.1 - LL) ≤ Mx from by omega) (show 0 + (2 * (w8.2.1 - LL)) ≤ 2 * Mx from by omega)
            · refine lv_lconst (v := 0) hx hb d_Wh_multiply_50 (by decide) ?_
              refine lv_lstore (lv' := [(5, .long 0), (4, .int (nI i9)), (3, .int (nI (nx + ny))), (0, .ref h0), (1, .ref hX), (2, .ref hY)]) hx hb d_Wh_multiply_51 hl (by decide) rfl (fun ls hl => ?_)
              refine lv_iconst (v := 0) hx hb d_Wh_multiply_53 (by decide) ?_
              refine lv_istore (lv' := [(7, .int 0), (5, .long 0), (4, .int (nI i9)), (3, .int (nI (nx + ny))), (0, .ref h0), (1, .ref hX), (2, .ref hY)]) hx hb d_Wh_multiply_54 hl (by decide) rfl (fun ls hl => ?_)
              have lq : ∀ d9, ∀ (j9 : Nat), ∀ (c8 : Nat), ∀ (T7 : Nat → Nat), (ny - j9) < d9 → (j9 ≤ ny) → (vl 2147483648 T7 (nx + ny) + c8 * 2147483648 ^ (i9 + j9) = vl 2147483648 gx i9 * vl 2147483648 gy ny + gx i9 * vl 2147483648 gy j9 * 2147483648 ^ i9) → (c8 < 2147483648) → (∀ i, T7 i < 2147483648) → (∀ i, i9 + ny ≤ i → i < nx + ny → T7 i = 0) → ∀ (H : Heap) (locs : List Loc), Sw G A s.heap H locs [(h0, .inr (2, [.ref w8.1, .int xs9, .int ys9])), (w8.1, .inl (k 0, w8.2.1, .inl (fun i => nI (T7 i)))), (hX, .inr (2, [.ref dx, .int (nI nx), .int (sgI zx)])), (dx, .inl (k 0, LX, .inl (fun i => nI (gx i)))), (hY, .inr (2, [.ref dy, .int (nI ny), .int (sgI zy)])), (dy, .inl (k 0, LY, .inl (fun i => nI (gy i))))] → ∀ ls : Array Slot, lv_has ls 8 [(5, .long (lN c8)), (7, .int (nI j9)), (4, .int (nI i9)), (3, .int (nI (nx + ny))), (0, .ref h0), (1, .ref hX), (2, .ref hY)] → W p l e { frames := 3, cells := Mx, slots := 2 * Mx, locals := 104 } s m [Value.ref h0, Value.ref hX, Value.ref hY].toArray below meth c H locs (0 + (w8.2.1 - LL)) (0 + (2 * (w8.2.1 - LL))) (MQ below (va_Qg (fun (u : Nat × Nat × Nat × (Nat → Nat)) => none) (fun (u : Nat × Nat × Nat × (Nat → Nat)) => whO u.2.1 u.2.2.1 u.2.2.2 (zx * zy) ∧ LL ≤ u.2.1 ∧ u.2.1 ≤ Mx) (Pog G k A (fun (u : Nat × Nat × Nat × (Nat → Nat)) => [(h0, .inr (2, [.ref u.1, .int (nI u.2.2.1), .int (sgI (zx * zy))])), (u.1, .inl (k 0, u.2.1, .inl (fun i => nI (u.2.2.2 i)))), (hX, .inr (2, [.ref dx, .int (nI nx), .int (sgI zx)])), (dx, .inl (k 0, LX, .inl (fun i => nI (gx i)))), (hY, .inr (2, [.ref dy, .int (nI ny), .int (sgI zy)])), (dy, .inl (k 0, LY, .inl (fun i => nI (gy i))))]) s0 sl (fun (u : Nat × Nat × Nat × (Nat → Nat)) => u.2.1 - LL) (fun (u : Nat × Nat × Nat × (Nat → Nat)) => 2 * (u.2.1 - LL))) A) [Value.ref h0, Value.ref hX, Value.ref hY].toArray s Mx (2 * Mx) A) (F0 m 56 ls []) := by
                intro d9
                induction d9 with
                | zero => intro j9 c8 T7 hm; exact absurd hm (Nat.not_lt_zero _)
                | succ d9 ih_lq =>
                  intro j9 c8 T7 hm hj hJ hc8 hD7 hZ7 H locs S ls hl
                  have d1 := w4 i9
                  have d2 := v4 j9
                  have d3 := hD7 (i9 + j9)
                  have q7 := mul_cb d1 d2 d3 hc8
                  refine lv_iload hx hb d_Wh_multiply_56 (lv_at hl 1 rfl) ?_
                  refine lv_aload_n hx hb d_Wh_multiply_58 rfl (lv_at hl 6 rfl) ?_
                  refine r_get C K S 4 rfl rfl clOk_Wh 1 (by decide) wf_Wh_29 (v := .int (nI ny)) rfl d_Wh_multiply_59 ?_
                  refine z_icmp_ge (a := j9) (b := ny) (tgt := 129) hx hb d_Wh_multiply_62 (by decide) (by omega) (by omega) (fun hc5 => ?_) (fun hc5 => ?_)
                  · refine lv_aload_n hx hb d_Wh_multiply_129 rfl (lv_at hl 4 rfl) ?_
                    refine r_get C K S 0 rfl rfl clOk_Wh 0 (by decide) wf_Wh_9 (v := .ref w8.1) rfl d_Wh_multiply_130 ?_
                    refine lv_iload hx hb d_Wh_multiply_133 (lv_at hl 2 rfl) ?_
                    refine lv_aload_n hx hb d_Wh_multiply_135 rfl (lv_at hl 6 rfl) ?_
                    refine r_get C K S 4 rfl rfl clOk_Wh 1 (by decide) wf_Wh_29 (v := .int (nI ny)) rfl d_Wh_multiply_136 ?_
                    refine z_iadd (x := nI i9) (y := nI ny) (v := nI (i9 + ny)) hx hb d_Wh_multiply_139 (nI_add i9 ny) ?_
                    refine lv_lload hx hb d_Wh_multiply_140 (lv_at hl 0 rfl) ?_
                    refine lv_l2i (v := nI c8) hx hb d_Wh_multiply_142 (lN_i c8) ?_
                    refine r_iast C K S 1 rfl (i := nI (i9 + ny)) (x := nI c8) (show vp_in (nI (i9 + ny)) _ from vp_in_nI (n := (i9 + ny)) (by omega) (by omega)) (f' := fun i => nI (va_up T7 (i9 + ny) c8 i)) (ws' := [(h0, .inr (2, [.ref w8.1, .int xs9, .int ys9])), (w8.1, .inl (k 0, w8.2.1, .inl (fun i => nI (va_up T7 (i9 + ny) c8 i)))), (hX, .inr (2, [.ref dx, .int (nI nx), .int (sgI zx)])), (dx, .inl (k 0, LX, .inl (fun i => nI (gx i)))), (hY, .inr (2, [.ref dy, .int (nI ny), .int (sgI zy)])), (dy, .inl (k 0, LY, .inl (fun i => nI (gy i))))]) (show upd _ (nI (i9 + ny) : Int32).toNatClampNeg (nI c8) = _ from upd_nI T7 (j := (i9 + ny)) (by omega) c8) rfl d_Wh_multiply_143 (fun H locs S => ?_)
                    refine lv_iinc (v := nI (i9 + 1)) (lv' := [(4, .int (nI (i9 + 1))), (5, .long (lN c8)), (7, .int (nI j9)), (3, .int (nI (nx + ny))), (0, .ref h0), (1, .ref hX), (2, .ref hY)]) hx hb d_Wh_multiply_144 hl (k := 2) rfl (show nI i9 + Int32.ofInt 1 = nI (i9 + 1) from (nI_add i9 1).trans (congrArg nI (by omega))) (by decide) rfl (fun ls hl => ?_)
                    refine lv_goto (tgt := 41) hx hb d_Wh_multiply_147 (by decide) ?_
                    exact ih_lp (i9 + 1) (va_up T7 (i9 + ny) c8) (by omega) (by omega) (mul_out (by omega) (hZ7 _ (by omega) (by omega)) (by have e : j9 = ny := (by omega); rw [e] at hJ; exact hJ)) (up31 hD7 hc8) (fun i q1 q2 => by rw [va_up_ne _ _ (by omega)]; exact hZ7 i (by omega) q2) _ _ (S.sub [0, 1, 2, 3, 4, 5] (by decide) rfl) ls (lv_sub hl [0, 3, 4, 5, 6] rfl)
                  · refine lv_lload hx hb d_Wh_multiply_65 (lv_at hl 0 rfl) ?_
                    refine lv_aload_n hx hb d_Wh_multiply_67 rfl (lv_at hl 4 rfl) ?_
                    refine r_get C K S 0 rfl rfl clOk_Wh 0 (by decide) wf_Wh_9 (v := .ref w8.1) rfl d_Wh_multiply_68 ?_
                    refine lv_iload hx hb d_Wh_multiply_71 (lv_at hl 2 rfl) ?_
                    refine lv_iload hx hb d_Wh_multiply_73 (lv_at hl 1 rfl) ?_
                    refine z_iadd (x := nI i9) (y := nI j9) (v := nI (i9 + j9)) hx hb d_Wh_multiply_75 (nI_add i9 j9) ?_
                    refine r_iald C K S 1 rfl (i := nI (i9 + j9)) (show vp_in (nI (i9 + j9)) _ from vp_in_nI (n := (i9 + j9)) (by omega) (by omega)) (v := nI (T7 (i9 + j9))) (by rw [nI_clamp (by omega)]) d_Wh_multiply_76 ?_
                    refine lv_i2l (v := lN (T7 (i9 + j9))) hx hb d_Wh_multiply_77 (show (nI (T7 (i9 + j9)) : Int32).toInt64 = _ from nI_l (n := (T7 (i9 + j9))) (by omega)) ?_
                    refine lv_aload_n hx hb d_Wh_multiply_78 rfl (lv_at hl 5 rfl) ?_
                    refine r_get C K S 2 rfl rfl clOk_Wh 0 (by decide) wf_Wh_9 (v := .ref dx) rfl d_Wh_multiply_79 ?_
                    refine lv_iload hx hb d_Wh_multiply_82 (lv_at hl 2 rfl) ?_
                    refine r_iald C K S 3 rfl (i := nI i9) (show vp_in (nI i9) _ from vp_in_nI (n := i9) (by omega) (by omega)) (v := nI (gx i9)) (by rw [nI_clamp (by omega)]) d_Wh_multiply_84 ?_
                    refine lv_i2l (v := lN (gx i9)) hx hb d_Wh_multiply_85 (show (nI (gx i9) : Int32).toInt64 = _ from nI_l (n := (gx i9)) (by omega)) ?_
                    refine lv_aload_n hx hb d_Wh_multiply_86 rfl (lv_at hl 6 rfl) ?_
                    refine r_get C K S 4 rfl rfl clOk_Wh 0 (by decide) wf_Wh_9 (v := .ref dy) rfl d_Wh_multiply_87 ?_
                    refine lv_iload hx hb d_Wh_multiply_90 (lv_at hl 1 rfl) ?_
                    refine r_iald C K S 5 rfl (i := nI j9) (show vp_in (nI j9) _ from vp_in_nI (n := j9) (by omega) (by omega)) (v := nI (gy j9)) (by rw [nI_clamp (by omega)]) d_Wh_multiply_92 ?_
                    refine lv_i2l (v := lN (gy j9)) hx hb d_Wh_multiply_93 (show (nI (gy j9) : Int32).toInt64 = _ from nI_l (n := (gy j9)) (by omega)) ?_
                    refine z_lmul (x := lN (gx i9)) (y := lN (gy j9)) (v := lN ((gx i9) * (gy j9))) hx hb d_Wh_multiply_94 (lN_mul (gx i9) (gy j9)) ?_
                    refine z_ladd (x := lN (T7 (i9 + j9))) (y := lN ((gx i9) * (gy j9))) (v := lN (T7 (i9 + j9) + (gx i9) * (gy j9))) hx hb d_Wh_multiply_95 (lN_add (T7 (i9 + j9)) ((gx i9) * (gy j9))) ?_
                    refine z_ladd (x := lN c8) (y := lN (T7 (i9 + j9) + (gx i9) * (gy j9))) (v := lN (c8 + (T7 (i9 + j9) + (gx i9) * (gy j9)))) hx hb d_Wh_multiply_96 (lN_add c8 (T7 (i9 + j9) + (gx i9) * (gy j9))) ?_
                    refine lv_lstore (lv' := [(5, .long (lN (c8 + (T7 (i9 + j9) + (gx i9) * (gy j9))))), (7, .int (nI j9)), (4, .int (nI i9)), (3, .int (nI (nx + ny))), (0, .ref h0), (1, .ref hX), (2, .ref hY)]) hx hb d_Wh_multiply_97 hl (by decide) rfl (fun ls hl => ?_)
                    refine lv_aload_n hx hb d_Wh_multiply_99 rfl (lv_at hl 4 rfl) ?_
                    refine r_get C K S 0 rfl rfl clOk_Wh 0 (by decide) wf_Wh_9 (v := .ref w8.1) rfl d_Wh_multiply_100 ?_
                    refine lv_iload hx hb d_Wh_multiply_103 (lv_at hl 2 rfl) ?_
                    refine lv_iload hx hb d_Wh_multiply_105 (lv_at hl 1 rfl) ?_
                    refine z_iadd (x := nI i9) (y := nI j9) (v := nI (i9 + j9)) hx hb d_Wh_multiply_107 (nI_add i9 j9) ?_
                    refine lv_lload hx hb d_Wh_multiply_108 (lv_at hl 0 rfl) ?_
                    refine lv_ldc2 (v := 2147483647) hx hb C.2.2.2.1 (C.2.2.2.2.1 _ wk_Wh_23) d_Wh_multiply_110 ?_
                    refine z_land (v := lN ((c8 + (T7 (i9 + j9) + gx i9 * gy j9)) % 2147483648)) hx hb d_Wh_multiply_113 (lN_and31 (by omega)) ?_
                    refine lv_l2i (v := nI ((c8 + (T7 (i9 + j9) + gx i9 * gy j9)) % 2147483648)) hx hb d_Wh_multiply_114 (lN_i ((c8 + (T7 (i9 + j9) + gx i9 * gy j9)) % 2147483648)) ?_
                    refine r_iast C K S 1 rfl (i := nI (i9 + j9)) (x := nI ((c8 + (T7 (i9 + j9) + gx i9 * gy j9)) % 2147483648)) (show vp_in (nI (i9 + j9)) _ from vp_in_nI (n := (i9 + j9)) (by omega) (by omega)) (f' := fun i => nI (va_up T7 (i9 + j9) ((c8 + (T7 (i9 + j9) + gx i9 * gy j9)) % 2147483648) i)) (ws' := [(h0, .inr (2, [.ref w8.1, .int xs9, .int ys9])), (w8.1, .inl (k 0, w8.2.1, .inl (fun i => nI (va_up T7 (i9 + j9) ((c8 + (T7 (i9 + j9) + gx i9 * gy j9)) % 2147483648) i)))), (hX, .inr (2, [.ref dx, .int (nI nx), .int (sgI zx)])), (dx, .inl (k 0, LX, .inl (fun i => nI (gx i)))), (hY, .inr (2, [.ref dy, .int (nI ny), .int (sgI zy)])), (dy, .inl (k 0, LY, .inl (fun i => nI (gy i))))]) (show upd _ (nI (i9 + j9) : Int32).toNatClampNeg (nI ((c8 + (T7 (i9 + j9) + gx i9 * gy j9)) % 2147483648)) = _ from upd_nI T7 (j := (i9 + j9)) (by omega) ((c8 + (T7 (i9 + j9) + gx i9 * gy j9)) % 2147483648)) rfl d_Wh_multiply_115 (fun H locs S => ?_)
                    refine lv_lload hx hb d_Wh_multiply_116 (lv_at hl 0 rfl) ?_
                    refine lv_bipush (v := 31) hx hb d_Wh_multiply_118 (by decide) ?_
                    refine lv_lshr (v := lN ((c8 + (T7 (i9 + j9) + gx i9 * gy j9)) / 2147483648)) hx hb d_Wh_multiply_120 (lN_shr31 (by omega)) ?_
                    refine lv_lstore (lv' := [(5, .long (lN ((c8 + (T7 (i9 + j9) + gx i9 * gy j9)) / 2147483648))), (7, .int (nI j9)), (4, .int (nI i9)), (3, .int (nI (nx + ny))), (0, .ref h0), (1, .ref hX), (2, .ref hY)]) hx hb d_Wh_multiply_121 hl (by decide) rfl (fun ls hl => ?_)
                    refine lv_iinc (v := nI (j9 + 1)) (lv' := [(7, .int (nI (j9 + 1))), (5, .long (lN ((c8 + (T7 (i9 + j9) + gx i9 * gy j9)) / 2147483648))), (4, .int (nI i9)), (3, .int (nI (nx + ny))), (0, .ref h0), (1, .ref hX), (2, .ref hY)]) hx hb d_Wh_multiply_123 hl (k := 1) rfl (show nI j9 + Int32.ofInt 1 = nI (j9 + 1) from (nI_add j9 1).trans (congrArg nI (by omega))) (by decide) rfl (fun ls hl => ?_)
                    refine lv_goto (tgt := 56) hx hb d_Wh_multiply_126 (by decide) ?_
                    exact ih_lq (j9 + 1) ((c8 + (T7 (i9 + j9) + gx i9 * gy j9)) / 2147483648) (va_up T7 (i9 + j9) ((c8 + (T7 (i9 + j9) + gx i9 * gy j9)) % 2147483648)) (by omega) (by omega) (mul_in (by omega) hJ) q7.2 (up31 hD7 (by omega)) (fun i q1 q2 => by rw [va_up_ne _ _ (by omega)]; exact hZ7 i q1 q2) _ _ (S.sub [0, 1, 2, 3, 4, 5] (by decide) rfl) ls (lv_sub hl [1, 0, 2, 3, 4, 5, 6] rfl)
              exact lq _ 0 0 T8 (Nat.lt_succ_self _) (by omega) (by rw [hI]; simp [vl]) (by omega) hD hZ _ _ (S.sub [0, 1, 2, 3, 4, 5] (by decide) rfl) ls (lv_sub hl [1, 0, 2, 3, 4, 5, 6] rfl)
        exact lp _ 0 T6 (Nat.lt_succ_self _) (by omega) (by rw [vl_zeros (n := 0) (nx + ny) (Nat.zero_le _) (fun i _ q => hZ6 i (by omega))]; simp [vl]) hD6 (fun i _ q => hZ6 i (by omega)) _ _ (S.sub [0, 1, 2, 3, 4, 5] (by decide) rfl) ls (lv_sub hl [0, 1, 2, 3, 4] rfl)
      · refine lv_aload_n hx hb d_Wh_multiply_24 rfl (lv_at hl 2 rfl) ?_
        refine r_get C K S 0 rfl rfl clOk_Wh 0 (by decide) wf_Wh_9 (v := .ref w8.1) rfl d_Wh_multiply_25 ?_
        refine lv_iload hx hb d_Wh_multiply_28 (lv_at hl 0 rfl) ?_
        refine lv_iconst (v := 0) hx hb d_Wh_multiply_30 (by decide) ?_
        refine r_iast C K S 1 rfl (i := nI i9) (x := 0) (show vp_in (nI i9) _ from vp_in_nI (n := i9) (by omega) (by omega)) (f' := fun i => nI (va_up T6 i9 0 i)) (ws' := [(h0, .inr (2, [.ref w8.1, .int xs9, .int ys9])), (w8.1, .inl (k 0, w8.2.1, .inl (fun i => nI (va_up T6 i9 0 i)))), (hX, .inr (2, [.ref dx, .int (nI nx), .int (sgI zx)])), (dx, .inl (k 0, LX, .inl (fun i => nI (gx i)))), (hY, .inr (2, [.ref dy, .int (nI ny), .int (sgI zy)])), (dy, .inl (k 0, LY, .inl (fun i => nI (gy i))))]) (show upd _ (nI i9 : Int32).toNatClampNeg 0 = _ from upd_nI T6 (j := i9) (by omega) 0) rfl d_Wh_multiply_31 (fun H locs S => ?_)
        refine lv_iinc (v := nI (i9 + 1)) (lv' := [(4, .int (nI (i9 + 1))), (3, .int (nI (nx + ny))), (0, .ref h0), (1, .ref hX), (2, .ref hY)]) hx hb d_Wh_multiply_32 hl (k := 0) rfl (show nI i9 + Int32.ofInt 1 = nI (i9 + 1) from (nI_add i9 1).trans (congrArg nI (by omega))) (by decide) rfl (fun ls hl => ?_)
        refine lv_goto (tgt := 18) hx hb d_Wh_multiply_35 (by decide) ?_
        exact ih_lz (i9 + 1) (va_up T6 i9 0) (by omega) (by omega) (up31 hD6 (by decide)) (fun i q => (Decidable.em (i = i9)).elim (fun t => by rw [t, va_up_self]) (fun t => by rw [va_up_ne _ _ t]; exact hZ6 i (by omega))) _ _ (S.sub [0, 1, 2, 3, 4, 5] (by decide) rfl) ls (lv_sub hl [0, 1, 2, 3, 4] rfl)
  exact lz _ 0 w8.2.2 (Nat.lt_succ_self _) (by omega) s3 (fun _ q => absurd q (Nat.not_lt_zero _)) _ _ (S.sub [4, 5, 0, 1, 2, 3] (by decide) rfl) ls (lv_sub hl [0, 1, 2, 3, 4] rfl)
end
section
/-! division of digits of 31 bits -/
theorem s_64 : ∀ n, n < 32 → ((nI n).toInt64 &&& 63).toBitVec.smod 64 = BitVec.ofNat 64 n := by decide +kernel
theorem lN_shlj {a j : Nat} (hj : j < 32) (h : a < 18446744073709551616) : lN a <<< ((nI j).toInt64 &&& 63) = lN (a * 2 ^ j) := g_shl (k := j) (s_64 j hj) (by omega) rfl h
theorem lN_orj {c d j : Nat} (hc : c < 2 ^ j) (h : d * 2 ^ j + c < 18446744073709551616) : lN c ||| lN (d * 2 ^ j) = lN (c + d * 2 ^ j) := by
  rw [Int64.or_comm, g_or (k := j) rfl hc h, Nat.add_comm]
theorem du_step {V X Q R Lo K1 : Nat} {k9 : Nat} (hLo : Lo < 2147483648 ^ k9) (hX : Lo + R * 2147483648 ^ k9 + Q * (2147483648 ^ (k9 + 1) * V) = X) (hV : 0 < V) (hK : K1 = Lo + R % V * 2147483648 ^ k9) :
    K1 + (R / V + Q * 2147483648) * (2147483648 ^ k9 * V) = X ∧ K1 < 2147483648 ^ k9 * V := by
  have h1 : R = V * (R / V) + R % V := (Nat.div_add_mod R V).symm
  have h2 : R % V < V := Nat.mod_lt _ hV
  generalize R / V = r at *
  generalize R % V = t at *
  subst h1
  subst hK
  rw [Nat.pow_succ] at hX
  generalize 2147483648 ^ k9 = P at *
  refine ⟨?_, ?_⟩
  · rw [← hX]
    have e1 : (V * r + t) * P = r * (P * V) + t * P := by rw [Nat.add_mul]; congr 1; rw [Nat.mul_comm V r, Nat.mul_assoc, Nat.mul_comm V P]
    have e2 : Q * (P * 2147483648 * V) = Q * 2147483648 * (P * V) := by rw [Nat.mul_assoc Q, Nat.mul_comm P 2147483648, Nat.mul_assoc 2147483648]
    rw [e1, e2, Nat.add_mul]
    omega
  · have e3 : (t + 1) * P ≤ V * P := Nat.mul_le_mul_right _ h2
    rw [Nat.add_mul, Nat.one_mul] at e3
    rw [Nat.mul_comm P V]
    omega
theorem du_R {V Lo P : Nat} {R : Nat} (h : Lo + R * P < P * 2147483648 * V) : R < 2147483648 * V := by
  apply Nat.lt_of_not_le
  intro q
  have h2 : 2147483648 * V * P ≤ R * P := Nat.mul_le_mul_right P q
  have h3 : 2147483648 * V * P = P * 2147483648 * V := by rw [Nat.mul_comm (2147483648 * V) P, Nat.mul_assoc]
  omega
theorem du_first {O : Nat → Nat} {n k9 V : Nat} (hlt : vl 2147483648 O (k9 + 1 + n) < 2147483648 ^ (k9 + 1) * V) : vl 2147483648 (fun i => O (k9 + i)) (n + 1) < 2147483648 * V := by
  have e : k9 + 1 + n = k9 + (n + 1) := by omega
  rw [e, vl_split, Nat.pow_succ] at hlt
  exact du_R hlt
theorem du_next {O U qt : Nat → Nat} {n N k9 A V : Nat} (hk : k9 ≤ N) (hI : vl 2147483648 O (k9 + 1 + n) + vl 2147483648 (fun i => qt (k9 + 1 + i)) (N + 1 - (k9 + 1)) * (2147483648 ^ (k9 + 1) * V) = A) (hV : 0 < V) (dO : ∀ i, O i < 2147483648) (hU : vl 2147483648 (fun i => U (k9 + i)) n = vl 2147483648 (fun i => O (k9 + i)) (n + 1) % V) (hUo : ∀ i, i < k9 → U i = O i) {x : Nat} (hx : x = vl 2147483648 (fun i => O (k9 + i)) (n + 1) / V) :
    vl 2147483648 U (k9 + n) + vl 2147483648 (fun i => va_up qt k9 x (k9 + i)) (N + 1 - k9) * (2147483648 ^ k9 * V) = A ∧ vl 2147483648 U (k9 + n) < 2147483648 ^ k9 * V := by
  have e : k9 + 1 + n = k9 + (n + 1) := by omega
  rw [e, vl_split, show N + 1 - (k9 + 1) = N - k9 by omega] at hI
  have hLo : vl 2147483648 O k9 < 2147483648 ^ k9 := vl_lt k9 (fun i _ => dO i)
  have hK : vl 2147483648 U (k9 + n) = vl 2147483648 O k9 + vl 2147483648 (fun i => O (k9 + i)) (n + 1) % V * 2147483648 ^ k9 := by
    rw [vl_split, hU, vl_congr (h := O) k9 hUo]
  obtain ⟨g1, g2⟩ := du_step (K1 := vl 2147483648 U (k9 + n)) hLo hI hV hK
  refine ⟨?_, g2⟩
  have e2 : N + 1 - k9 = 1 + (N - k9) := by omega
  have e3 : vl 2147483648 (fun i => va_up qt k9 x (k9 + i)) (N + 1 - k9) = x + vl 2147483648 (fun i => qt (k9 + 1 + i)) (N - k9) * 2147483648 := by
    have e4 : vl 2147483648 (fun i => va_up qt k9 x (k9 + i)) 1 = x := by
      rw [show (1 : Nat) = 0 + 1 from rfl, vl_s, show vl 2147483648 (fun i => va_up qt k9 x (k9 + i)) 0 = 0 from rfl, Nat.add_zero, va_up_self, Nat.pow_zero]
      omega
    have e5 : vl 2147483648 (fun i => va_up qt k9 x (k9 + (1 + i))) (N - k9) = vl 2147483648 (fun i => qt (k9 + 1 + i)) (N - k9) := vl_congr _ (fun i _ => by
      rw [va_up_ne _ _ (by omega), Nat.add_assoc])
    rw [e2, vl_split, e4, e5, Nat.pow_one]
  rw [e3, hx]
  exact g1
theorem du_start {n N V j A : Nat} (hA : A < 2147483648 ^ (N + n)) (hV : 2147483648 ^ (n - 1) ≤ V) (hn : 1 ≤ n) : A * 2 ^ j < 2147483648 ^ (N + 1) * (V * 2 ^ j) := by
  have h1 : 2147483648 ^ (N + 1) * 2147483648 ^ (n - 1) ≤ 2147483648 ^ (N + 1) * V := Nat.mul_le_mul_left _ hV
  have h2 : 2147483648 ^ (N + 1) * 2147483648 ^ (n - 1) = 2147483648 ^ (N + n) := by rw [← Nat.pow_add]; congr 1; omega
  rw [← Nat.mul_assoc]
  exact Nat.mul_lt_mul_of_pos_right (by omega) (Nat.two_pow_pos j)
/-- guessing a digit: where the guess stands -/
def gsO (v1 v2 h u q i t l : Nat) : Prop := t * v1 + l = h ∧ q ≤ t ∧ t ≤ 2147483649 ∧ ((t ≤ q + (2 - i) ∧ (l < 2147483648 ∨ t ≤ 2147483648)) ∨ (t ≤ 2147483648 ∧ t * (v1 * 2147483648 + v2) ≤ h * 2147483648 + u))
theorem gs_x {v1 v2 h u t l : Nat} (e : t * v1 + l = h) : t * (v1 * 2147483648 + v2) ≤ h * 2147483648 + u ↔ t * v2 ≤ l * 2147483648 + u := by
  subst e
  have e1 : t * (v1 * 2147483648 + v2) = t * v1 * 2147483648 + t * v2 := by rw [Nat.mul_add, Nat.mul_assoc]
  have e2 : (t * v1 + l) * 2147483648 = t * v1 * 2147483648 + l * 2147483648 := Nat.add_mul _ _ _
  rw [e1, e2]
  omega
section GS
variable {v1 v2 P w h u z q : Nat}
theorem gs_0 (hv : 2147483648 ≤ 2 * v1) (hv1 : v1 < 2147483648) (hv2 : v2 < 2147483648) (hP : 0 < P) (hw : w < P) (hu : u < 2147483648) (hz : z < P) (hR : (h * 2147483648 + u) * P + z < 2147483648 * ((v1 * 2147483648 + v2) * P + w)) (hq : q = ((h * 2147483648 + u) * P + z) / ((v1 * 2147483648 + v2) * P + w)) : gsO v1 v2 h u q 0 (h / v1) (h % v1) := by
  have hpos : 0 < v1 := by omega
  have hV : 0 < (v1 * 2147483648 + v2) * P + w := by
    have : 0 < (v1 * 2147483648 + v2) * P := Nat.mul_pos (by omega) hP
    omega
  have h4 : h / v1 * v1 ≤ h := Nat.div_mul_le_self _ _
  have hR2 := hR
  rw [Nat.mul_comm 2147483648] at hR2
  have hqB : q < 2147483648 := by rw [hq]; exact Nat.div_lt_of_lt_mul hR2
  have hlow : (h * 2147483648 + u) * P + z < (q + 1) * ((v1 * 2147483648 + v2) * P + w) := by
    have := Nat.lt_div_mul_add (a := (h * 2147483648 + u) * P + z) hV
    rw [← hq] at this
    rw [Nat.add_mul q 1, Nat.one_mul]
    exact this
  refine ⟨?_, ?_, ?_, Or.inl ⟨?_, Or.inl ?_⟩⟩
  · rw [Nat.mul_comm]; exact Nat.div_add_mod h v1
  · rw [hq]; exact kn_lower0 hpos hP (by decide) hu hz
  · exact kg_max hv hpos (kg_win hP hw hv2 hR) h4
  · exact kg_top hv hqB (kg_low hP hw hv2 hlow (by decide)) h4
  · exact Nat.lt_trans (Nat.mod_lt _ hpos) hv1
theorem gs_dec {i t l : Nat} (hP : 0 < P) (hz : z < P) (hq : q = ((h * 2147483648 + u) * P + z) / ((v1 * 2147483648 + v2) * P + w)) (hqB : q < 2147483648) (g : gsO v1 v2 h u q i t l) (hi : i < 2) (hd : 2147483648 ≤ t ∨ l * 2147483648 + u < t * v2) : gsO v1 v2 h u q (i + 1) (t - 1) (l + v1) ∧ 1 ≤ t := by
  obtain ⟨g1, g2, g3, g4⟩ := g
  have ht : q < t := by
    rcases hd with hd | hd
    · omega
    · have : h * 2147483648 + u < t * (v1 * 2147483648 + v2) := by
        apply Nat.lt_of_not_le
        intro hn
        have := (gs_x g1).mp hn
        omega
      rw [hq]
      exact kn_down hP hz this
  have e1 : (t - 1) * v1 + (l + v1) = h := by
    obtain ⟨y, rfl⟩ : ∃ y, t = y + 1 := ⟨t - 1, by omega⟩
    rw [Nat.add_mul] at g1
    rw [Nat.add_sub_cancel]
    omega
  refine ⟨⟨e1, by omega, by omega, ?_⟩, by omega⟩
  rcases g4 with ⟨a, b⟩ | ⟨a, b⟩
  · exact Or.inl ⟨by omega, Or.inr (by omega)⟩
  · refine Or.inr ⟨by omega, Nat.le_trans (Nat.mul_le_mul_right _ (by omega)) b⟩
theorem gs_skip {i t l : Nat} (g : gsO v1 v2 h u q i t l) (h1 : t < 2147483648) (h2 : t * v2 ≤ l * 2147483648 + u) : gsO v1 v2 h u q (i + 1) t l :=
  ⟨g.1, g.2.1, g.2.2.1, Or.inr ⟨by omega, (gs_x g.1).mpr h2⟩⟩
theorem gs_end {i t l : Nat} (hv : 0 < v1) (hv2 : v2 < 2147483648) (hw : w < P) (hq : q = ((h * 2147483648 + u) * P + z) / ((v1 * 2147483648 + v2) * P + w)) (hqB : q < 2147483648) (hP : 0 < P) (g : gsO v1 v2 h u q i t l) (he : i = 2 ∨ 2147483648 ≤ l) : q ≤ t ∧ t ≤ q + 1 ∧ t ≤ 2147483648 := by
  obtain ⟨g1, g2, g3, g4⟩ := g
  have hV : 0 < (v1 * 2147483648 + v2) * P + w := by
    have : 0 < (v1 * 2147483648 + v2) * P := Nat.mul_pos (by omega) hP
    omega
  have fin : t ≤ 2147483648 → t * (v1 * 2147483648 + v2) ≤ h * 2147483648 + u → q ≤ t ∧ t ≤ q + 1 ∧ t ≤ 2147483648 := by
    intro a b
    have h1 := kn_upper (z := z) hv hw a b
    rw [hq] at g2
    rcases kn_one hV g2 h1 with k | k
    · rw [hq, ← k]; omega
    · rw [hq]; omega
  rcases g4 with ⟨a, b⟩ | ⟨a, b⟩
  · rcases he with he | he
    · subst he; omega
    · have hB : t ≤ 2147483648 := by omega
      refine fin hB ((gs_x g1).mpr ?_)
      have k1 : t * v2 ≤ 2147483648 * 2147483647 := Nat.mul_le_mul hB (by omega)
      omega
  · exact fin a b
end GS
/-- a number's three highest parts -/
theorem vl_hi {g : Nat → Nat} {n : Nat} (hn : 2 ≤ n) : vl 2147483648 g n = (g (n - 1) * 2147483648 + g (n - 2)) * 2147483648 ^ (n - 2) + vl 2147483648 g (n - 2) := by
  obtain ⟨y, rfl⟩ : ∃ y, n = y + 2 := ⟨n - 2, by omega⟩
  rw [show y + 2 - 1 = y + 1 by omega, show y + 2 - 2 = y by omega, show y + 2 = y + 1 + 1 by omega, vl_s, vl_s, Nat.pow_succ, Nat.add_mul, Nat.mul_assoc, Nat.mul_comm (2147483648 ^ y)]
  omega
theorem vl_hi3 {g : Nat → Nat} {n : Nat} (hn : 2 ≤ n) : vl 2147483648 g (n + 1) = ((g n * 2147483648 + g (n - 1)) * 2147483648 + g (n - 2)) * 2147483648 ^ (n - 2) + vl 2147483648 g (n - 2) := by
  rw [vl_s, vl_hi hn]
  obtain ⟨y, rfl⟩ : ∃ y, n = y + 2 := ⟨n - 2, by omega⟩
  rw [show y + 2 - 1 = y + 1 by omega, show y + 2 - 2 = y by omega]
  generalize vl 2147483648 g y = a
  rw [Nat.pow_succ, Nat.pow_succ]
  generalize 2147483648 ^ y = P
  rw [Nat.add_mul (g (y + 2) * 2147483648) _ 2147483648, Nat.add_assoc (g (y + 2) * 2147483648 * 2147483648), Nat.add_mul _ (_ + _) P]
  have e : g (y + 2) * (P * 2147483648 * 2147483648) = g (y + 2) * 2147483648 * 2147483648 * P := by
    rw [Nat.mul_assoc (g (y + 2)), Nat.mul_assoc (g (y + 2)), Nat.mul_comm (2147483648 * 2147483648) P, Nat.mul_assoc P]
  rw [e]
  omega
/-- what is taken off -/
theorem tm_b {t : Int} {g : Nat} (h1 : -1 ≤ t) (h2 : t ≤ 2147483648) (hg : g < 2147483648) : -2147483647 ≤ t * (g : Int) ∧ t * (g : Int) ≤ 4611686016279904256 := by
  have a1 : 0 ≤ (t + 1) * (g : Int) := Int.mul_nonneg (by omega) (by omega)
  have a2 : 0 ≤ (2147483648 - t) * (g : Int) := Int.mul_nonneg (by omega) (by omega)
  rw [Int.add_mul] at a1
  rw [Int.sub_mul] at a2
  omega
theorem to_step {T g u : Nat → Nat} {b i : Nat} {c t : Int} (hT : T (b + i) = g (b + i)) (hI : (vl 2147483648 (fun j => T (b + j)) i : Int) + c * (2147483648 : Int) ^ i = (vl 2147483648 (fun j => g (b + j)) i : Int) - t * (vl 2147483648 u i : Int)) :
    (vl 2147483648 (fun j => va_up T (b + i) (((c + ((T (b + i) : Int) - t * (u i : Int))) % 2147483648).toNat) (b + j)) (i + 1) : Int) + ((c + ((T (b + i) : Int) - t * (u i : Int))) / 2147483648) * (2147483648 : Int) ^ (i + 1) = (vl 2147483648 (fun j => g (b + j)) (i + 1) : Int) - t * (vl 2147483648 u (i + 1) : Int) := by
  have e : (fun j => va_up T (b + i) (((c + ((T (b + i) : Int) - t * (u i : Int))) % 2147483648).toNat) (b + j)) = va_up (fun j => T (b + j)) i (((c + ((T (b + i) : Int) - t * (u i : Int))) % 2147483648).toNat) := by
    funext j
    by_cases q : j = i
    · subst q; rw [va_up_self, va_up_self]
    · rw [va_up_ne _ _ q, va_up_ne _ _ (by omega)]
  rw [e, dz_step hI, vl_s, vl_s, hT, Int.natCast_add, Int.natCast_add, Int.natCast_mul, Int.natCast_mul, Int.natCast_pow, Int.mul_add, Int.sub_mul]
  show _ = _ + (g (b + i) : Int) * (2147483648 : Int) ^ i - (_ + t * ((u i : Int) * (2147483648 : Int) ^ i))
  rw [Int.mul_assoc]
  omega
/-- what is left behind a digit: rightly guessed, or one too many -/
theorem to_end {W V Lo Tp L1 n : Nat} {c t : Int} (hW : W = Lo + Tp * 2147483648 ^ n) (hVn : V ≤ 2147483648 ^ n) (hV : 0 < V) (hL : L1 < 2147483648 ^ n) (hI : (L1 : Int) + c * (2147483648 : Int) ^ n = (Lo : Int) - t * (V : Int)) (h1 : ((W / V : Nat) : Int) ≤ t) (h2 : t ≤ ((W / V : Nat) : Int) + 1) :
    (c + Tp < 0 ↔ t = ((W / V : Nat) : Int) + 1) ∧ (t = ((W / V : Nat) : Int) → L1 = W % V) ∧ (t = ((W / V : Nat) : Int) + 1 → L1 + V = W % V + 2147483648 ^ n) := by
  have e : (2147483648 : Int) ^ n = ((2147483648 ^ n : Nat) : Int) := by rw [Int.natCast_pow]; rfl
  rw [e] at hI
  have hm := Nat.div_add_mod W V
  have hr := Nat.mod_lt W hV
  generalize hP : 2147483648 ^ n = P at *
  generalize hq : W / V = Q at *
  generalize W % V = r at *
  have hP0 : 0 < P := by omega
  rcases (show t = Q ∨ t = (Q : Int) + 1 by omega) with k | k
  · subst k
    have e1 : (L1 : Int) + (c + Tp) * (P : Int) = r := by
      rw [Int.add_mul]
      have : (W : Int) = Lo + Tp * (P : Int) := by rw [hW]; push_cast; rfl
      have h5 : (W : Int) = V * Q + r := by rw [← hm]; push_cast; rfl
      rw [Int.mul_comm (V : Int)] at h5
      omega
    have e2 : c + Tp = 0 := by
      rcases Int.lt_trichotomy (c + Tp) 0 with a | a | a
      · have : (c + Tp) * (P : Int) ≤ (-1) * (P : Int) := Int.mul_le_mul_of_nonneg_right (by omega) (by omega)
        omega
      · exact a
      · have : 1 * (P : Int) ≤ (c + Tp) * (P : Int) := Int.mul_le_mul_of_nonneg_right (by omega) (by omega)
        omega
    rw [e2, Int.zero_mul] at e1
    exact ⟨by omega, fun _ => by omega, fun a => by omega⟩
  · subst k
    have e1 : (L1 : Int) + (c + Tp) * (P : Int) = (r : Int) - V := by
      rw [Int.add_mul]
      have : (W : Int) = Lo + Tp * (P : Int) := by rw [hW]; push_cast; rfl
      have h5 : (W : Int) = V * Q + r := by rw [← hm]; push_cast; rfl
      rw [Int.mul_comm (V : Int)] at h5
      rw [Int.add_mul, Int.one_mul] at hI
      omega
    have e2 : c + Tp = -1 := by
      rcases Int.lt_trichotomy (c + Tp) (-1) with a | a | a
      · have : (c + Tp) * (P : Int) ≤ (-2) * (P : Int) := Int.mul_le_mul_of_nonneg_right (by omega) (by omega)
        omega
      · exact a
      · have : 0 * (P : Int) ≤ (c + Tp) * (P : Int) := Int.mul_le_mul_of_nonneg_right (by omega) (by omega)
        omega
    rw [e2] at e1
    exact ⟨by omega, fun a => by omega, fun _ => by omega⟩
theorem to_back {L1 L2 V r n : Nat} {c : Int} (hVn : V ≤ 2147483648 ^ n) (hr : r < V) (hL2 : L2 < 2147483648 ^ n) (hI : (L2 : Int) + c * (2147483648 : Int) ^ n = (L1 : Int) - (-1) * (V : Int)) (h : L1 + V = r + 2147483648 ^ n) : L2 = r := by
  have e : (2147483648 : Int) ^ n = ((2147483648 ^ n : Nat) : Int) := by rw [Int.natCast_pow]; rfl
  rw [e] at hI
  generalize 2147483648 ^ n = P at *
  have e1 : (L2 : Int) + c * (P : Int) = (r : Int) + P := by omega
  have e2 : c = 1 := by
    rcases Int.lt_trichotomy c 1 with a | a | a
    · have : c * (P : Int) ≤ 0 * (P : Int) := Int.mul_le_mul_of_nonneg_right (by omega) (by omega)
      omega
    · exact a
    · have : 2 * (P : Int) ≤ c * (P : Int) := Int.mul_le_mul_of_nonneg_right (by omega) (by omega)
      omega
  rw [e2] at e1
  omega
/-- dividing by one digit, from the top -/
theorem dd_step {g T : Nat → Nat} {n y b l : Nat} (hy : y < n) (hI : vl 2147483648 (fun j => g (y + 1 + j)) (n - (y + 1)) = vl 2147483648 (fun j => T (y + 1 + j)) (n - (y + 1)) * b + l) (hb : 0 < b) (hl : l < b) (hT : T y = g y) :
    vl 2147483648 (fun j => g (y + j)) (n - y) = vl 2147483648 (fun j => va_up T y ((l * 2147483648 + T y) / b) (y + j)) (n - y) * b + (l * 2147483648 + T y) % b := by
  have e0 : n - y = 1 + (n - (y + 1)) := by omega
  have one : ∀ f : Nat → Nat, vl 2147483648 f 1 = f 0 := by
    intro f
    rw [show (1 : Nat) = 0 + 1 from rfl, vl_s, show vl 2147483648 f 0 = 0 from rfl, Nat.pow_zero]; omega
  rw [e0, vl_split, vl_split, one, one]
  have e1 : vl 2147483648 (fun i => (fun j => va_up T y ((l * 2147483648 + T y) / b) (y + j)) (1 + i)) (n - (y + 1)) = vl 2147483648 (fun j => T (y + 1 + j)) (n - (y + 1)) := vl_congr _ (fun i _ => by
    show va_up T y _ (y + (1 + i)) = _
    rw [va_up_ne _ _ (by omega), Nat.add_assoc])
  have e2 : vl 2147483648 (fun i => (fun j => g (y + j)) (1 + i)) (n - (y + 1)) = vl 2147483648 (fun j => g (y + 1 + j)) (n - (y + 1)) := vl_congr _ (fun i _ => by
    show g (y + (1 + i)) = _
    rw [Nat.add_assoc])
  rw [e1, e2, hI]
  show g (y + 0) + _ = (va_up T y _ (y + 0) + _) * b + _
  rw [Nat.add_zero, va_up_self, ← hT, Nat.pow_one]
  have h := Nat.div_add_mod (l * 2147483648 + T y) b
  generalize (l * 2147483648 + T y) / b = x at *
  generalize (l * 2147483648 + T y) % b = r at *
  generalize vl 2147483648 (fun j => T (y + 1 + j)) (n - (y + 1)) = a at *
  have e3 : (a * b + l) * 2147483648 = a * 2147483648 * b + l * 2147483648 := by rw [Nat.add_mul, Nat.mul_assoc, Nat.mul_comm b, Nat.mul_assoc]
  have e4 : (x + a * 2147483648) * b = b * x + a * 2147483648 * b := by rw [Nat.add_mul, Nat.mul_comm x]
  rw [e3, e4]
  omega
theorem dd_end {A Q b l : Nat} (h : A = Q * b + l) (hl : l < b) : Q = A / b := by
  rw [h, Nat.add_comm, Nat.add_mul_div_right _ _ (by omega), Nat.div_eq_of_lt hl, Nat.zero_add]
theorem dd_lt {l b d : Nat} (hl : l < b) (hb : b < 2147483648) (hd : d < 2147483648) : (l * 2147483648 + d) / b < 2147483648 ∧ l * 2147483648 + d < 4611686018427387904 := by
  refine ⟨Nat.div_lt_of_lt_mul ?_, by omega⟩
  have : (l + 1) * 2147483648 ≤ b * 2147483648 := Nat.mul_le_mul_right _ hl
  omega
/-- a shift to the left -/
theorem sf_lt {d c j : Nat} (hd : d < 2147483648) (hj : j ≤ 30) (hc : c < 2 ^ j) : (c + d * 2 ^ j) / 2147483648 < 2 ^ j ∧ c + d * 2 ^ j < 4611686018427387904 ∧ d * 2 ^ j < 4611686018427387904 := by
  have h1 : 2 ^ j ≤ 2 ^ 30 := Nat.pow_le_pow_right (by decide) hj
  have h2 : (d + 1) * 2 ^ j ≤ 2147483648 * 2 ^ j := Nat.mul_le_mul_right _ hd
  have h3 : (d + 1) * 2 ^ j ≤ 2147483648 * 2 ^ 30 := Nat.mul_le_mul (by omega) h1
  rw [Nat.add_mul, Nat.one_mul] at h2 h3
  refine ⟨Nat.div_lt_of_lt_mul (by omega), by omega, by omega⟩
theorem sf_step {T g : Nat → Nat} {i c j : Nat} (hI : vl 2147483648 T i + c * 2147483648 ^ i = vl 2147483648 g i * 2 ^ j) : vl 2147483648 (va_up T i ((c + g i * 2 ^ j) % 2147483648)) (i + 1) + (c + g i * 2 ^ j) / 2147483648 * 2147483648 ^ (i + 1) = vl 2147483648 g (i + 1) * 2 ^ j := by
  rw [cn_step hI, vl_s, Nat.add_mul]
  congr 1
  rw [Nat.mul_assoc, Nat.mul_assoc, Nat.mul_comm (2 ^ j)]
/-- the divisor is shifted so that its highest digit is large: nothing is carried out -/
theorem su_fit {g : Nat → Nat} {n j : Nat} (hn : 1 ≤ n) (hg : ∀ i, g i < 2147483648) (ht : g (n - 1) * 2 ^ j < 2147483648) (hj : j ≤ 30) : vl 2147483648 g n * 2 ^ j < 2147483648 ^ n := by
  obtain ⟨y, rfl⟩ : ∃ y, n = y + 1 := ⟨n - 1, by omega⟩
  rw [show y + 1 - 1 = y by omega] at ht
  have h1 : vl 2147483648 g y < 2147483648 ^ y := vl_lt y (fun i _ => hg i)
  have h2 : vl 2147483648 g (y + 1) + 1 ≤ (g y + 1) * 2147483648 ^ y := by rw [vl_s, Nat.add_mul, Nat.one_mul]; omega
  have e31 : 2147483648 = 2 ^ (31 - j) * 2 ^ j := by rw [← Nat.pow_add, show 31 - j + j = 31 by omega]
  have h3 : g y + 1 ≤ 2 ^ (31 - j) := by
    apply Classical.byContradiction
    intro hn
    have : 2 ^ (31 - j) * 2 ^ j ≤ g y * 2 ^ j := Nat.mul_le_mul_right _ (by omega)
    rw [← e31] at this
    omega
  have h4 : (g y + 1) * 2 ^ j ≤ 2147483648 := by
    rw [e31]; exact Nat.mul_le_mul_right _ h3
  have h5 : vl 2147483648 g (y + 1) * 2 ^ j < (g y + 1) * 2147483648 ^ y * 2 ^ j := Nat.mul_lt_mul_of_pos_right (by omega) (Nat.two_pow_pos j)
  have h6 : (g y + 1) * 2147483648 ^ y * 2 ^ j = (g y + 1) * 2 ^ j * 2147483648 ^ y := by rw [Nat.mul_assoc, Nat.mul_comm (2147483648 ^ y), ← Nat.mul_assoc]
  have h7 : (g y + 1) * 2 ^ j * 2147483648 ^ y ≤ 2147483648 * 2147483648 ^ y := Nat.mul_le_mul_right _ h4
  rw [Nat.pow_succ, Nat.mul_comm (2147483648 ^ y)]
  omega
theorem su_lo {g : Nat → Nat} {n j : Nat} (hn : 1 ≤ n) (ht : 1073741824 ≤ g (n - 1) * 2 ^ j) : 1073741824 * 2147483648 ^ (n - 1) ≤ vl 2147483648 g n * 2 ^ j := by
  obtain ⟨y, rfl⟩ : ∃ y, n = y + 1 := ⟨n - 1, by omega⟩
  rw [show y + 1 - 1 = y by omega] at ht ⊢
  have h1 : g y * 2147483648 ^ y ≤ vl 2147483648 g (y + 1) := by rw [vl_s]; omega
  have h2 : g y * 2147483648 ^ y * 2 ^ j ≤ vl 2147483648 g (y + 1) * 2 ^ j := Nat.mul_le_mul_right _ h1
  have h3 : g y * 2147483648 ^ y * 2 ^ j = g y * 2 ^ j * 2147483648 ^ y := by rw [Nat.mul_assoc, Nat.mul_comm (2147483648 ^ y), ← Nat.mul_assoc]
  have h4 : 1073741824 * 2147483648 ^ y ≤ g y * 2 ^ j * 2147483648 ^ y := Nat.mul_le_mul_right _ ht
  omega
theorem su_top {G : Nat → Nat} {n X : Nat} (hn : 1 ≤ n) (hG : ∀ i, G i < 2147483648) (hv : vl 2147483648 G (n + 1) = X) (hX : X < 2147483648 ^ n) (hlo : 1073741824 * 2147483648 ^ (n - 1) ≤ X) : vl 2147483648 G n = X ∧ 1073741824 ≤ G (n - 1) := by
  rw [vl_s] at hv
  have h0 : G n = 0 := by
    rcases Nat.eq_zero_or_pos (G n) with q | q
    · exact q
    · have := Nat.mul_le_mul_right (2147483648 ^ n) q
      omega
  have h1 : vl 2147483648 G n = X := by rw [h0, Nat.zero_mul] at hv; omega
  refine ⟨h1, ?_⟩
  obtain ⟨y, rfl⟩ : ∃ y, n = y + 1 := ⟨n - 1, by omega⟩
  rw [show y + 1 - 1 = y by omega] at hlo ⊢
  have h2 : vl 2147483648 G y < 2147483648 ^ y := vl_lt y (fun i _ => hG i)
  rw [vl_s] at h1
  apply Classical.byContradiction
  intro hn
  have h3 : (G y + 1) * 2147483648 ^ y ≤ 1073741824 * 2147483648 ^ y := Nat.mul_le_mul_right _ (by omega)
  rw [Nat.add_mul, Nat.one_mul] at h3
  omega
theorem sg_div {z w : Int} (h : w.natAbs ≤ z.natAbs) (hw : w ≠ 0) : sgI (z.tdiv w) = sgI z * sgI w := by
  rw [sg_mul]
  have hq : z.natAbs / w.natAbs ≠ 0 := by
    have : 0 < z.natAbs / w.natAbs := Nat.div_pos h (by omega)
    omega
  have hn : (z.tdiv w).natAbs = z.natAbs / w.natAbs := Int.natAbs_tdiv z w
  have key : ∀ a b : Nat, b ≠ 0 → a / b ≠ 0 → (0 : Int) < (a : Int).tdiv (b : Int) := by
    intro a b hb h
    rw [← Int.ofNat_tdiv]
    exact Int.natCast_pos.mpr (Nat.pos_of_ne_zero h)
  rcases Int.lt_trichotomy z 0 with p | p | p <;> rcases Int.lt_trichotomy w 0 with q | q | q
  · obtain ⟨a, rfl⟩ : ∃ a : Nat, z = -(a : Int) := ⟨z.natAbs, by omega⟩
    obtain ⟨b, rfl⟩ : ∃ b : Nat, w = -(b : Int) := ⟨w.natAbs, by omega⟩
    have h1 : (-(a : Int)).tdiv (-(b : Int)) = (a : Int).tdiv b := by rw [Int.tdiv_neg, Int.neg_tdiv, Int.neg_neg]
    rw [Int.natAbs_neg, Int.natAbs_neg, Int.natAbs_natCast, Int.natAbs_natCast] at hq
    have h2 := key a b (by omega) hq
    have h3 : 0 < -(a : Int) * -(b : Int) := Int.mul_pos_of_neg_of_neg p q
    rw [h1]
    exact sgn_eq (by omega) (by omega)
  · exact absurd q hw
  · obtain ⟨a, rfl⟩ : ∃ a : Nat, z = -(a : Int) := ⟨z.natAbs, by omega⟩
    obtain ⟨b, rfl⟩ : ∃ b : Nat, w = (b : Int) := ⟨w.natAbs, by omega⟩
    have h1 : (-(a : Int)).tdiv (b : Int) = -((a : Int).tdiv b) := Int.neg_tdiv ..
    rw [Int.natAbs_neg, Int.natAbs_natCast, Int.natAbs_natCast] at hq
    have h2 := key a b (by omega) hq
    have h3 : -(a : Int) * (b : Int) < 0 := Int.mul_neg_of_neg_of_pos p q
    rw [h1]
    exact sgn_eq (by omega) (by omega)
  · subst p; rw [Int.natAbs_zero] at h; omega
  · exact absurd q hw
  · subst p; rw [Int.natAbs_zero] at h; omega
  · obtain ⟨a, rfl⟩ : ∃ a : Nat, z = (a : Int) := ⟨z.natAbs, by omega⟩
    obtain ⟨b, rfl⟩ : ∃ b : Nat, w = -(b : Int) := ⟨w.natAbs, by omega⟩
    have h1 : (a : Int).tdiv (-(b : Int)) = -((a : Int).tdiv b) := Int.tdiv_neg ..
    rw [Int.natAbs_neg, Int.natAbs_natCast, Int.natAbs_natCast] at hq
    have h2 := key a b (by omega) hq
    have h3 : (a : Int) * -(b : Int) < 0 := Int.mul_neg_of_pos_of_neg p q
    rw [h1]
    exact sgn_eq (by omega) (by omega)
  · exact absurd q hw
  · obtain ⟨a, rfl⟩ : ∃ a : Nat, z = (a : Int) := ⟨z.natAbs, by omega⟩
    obtain ⟨b, rfl⟩ : ∃ b : Nat, w = (b : Int) := ⟨w.natAbs, by omega⟩
    rw [Int.natAbs_natCast, Int.natAbs_natCast] at hq
    have h2 := key a b (by omega) hq
    have h3 : 0 < (a : Int) * (b : Int) := Int.mul_pos p q
    exact sgn_eq (by omega) (by omega)
theorem tdiv_0 {z w : Int} (h : w = 0 ∨ z.natAbs < w.natAbs) : z.tdiv w = 0 := by
  rcases h with h | h
  · rw [h, Int.tdiv_zero]
  · have e : (z.tdiv w).natAbs = 0 := (Int.natAbs_tdiv z w).trans (Nat.div_eq_of_lt h)
    omega
end
