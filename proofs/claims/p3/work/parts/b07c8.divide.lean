theorem d_Wh_divide_0 : decode c_Wh_divide 0 = .ok (.aload_n 1, 1) := by decide +kernel
theorem d_Wh_divide_1 : decode c_Wh_divide 1 = .ok (.getfield 29, 3) := by decide +kernel
theorem d_Wh_divide_4 : decode c_Wh_divide 4 = .ok (.ifCond .eq 11, 3) := by decide +kernel
theorem d_Wh_divide_7 : decode c_Wh_divide 7 = .ok (.aload_n 0, 1) := by decide +kernel
theorem d_Wh_divide_8 : decode c_Wh_divide 8 = .ok (.aload_n 1, 1) := by decide +kernel
theorem d_Wh_divide_9 : decode c_Wh_divide 9 = .ok (.invokevirtual 46, 3) := by decide +kernel
theorem d_Wh_divide_12 : decode c_Wh_divide 12 = .ok (.ifCond .ge 9, 3) := by decide +kernel
theorem d_Wh_divide_15 : decode c_Wh_divide 15 = .ok (.aload_n 0, 1) := by decide +kernel
theorem d_Wh_divide_16 : decode c_Wh_divide 16 = .ok (.lconst 0, 1) := by decide +kernel
theorem d_Wh_divide_17 : decode c_Wh_divide 17 = .ok (.invokevirtual 68, 3) := by decide +kernel
theorem d_Wh_divide_20 : decode c_Wh_divide 20 = .ok (.return_, 1) := by decide +kernel
theorem d_Wh_divide_21 : decode c_Wh_divide 21 = .ok (.aload_n 0, 1) := by decide +kernel
theorem d_Wh_divide_22 : decode c_Wh_divide 22 = .ok (.aload_n 0, 1) := by decide +kernel
theorem d_Wh_divide_23 : decode c_Wh_divide 23 = .ok (.getfield 19, 3) := by decide +kernel
theorem d_Wh_divide_26 : decode c_Wh_divide 26 = .ok (.aload_n 1, 1) := by decide +kernel
theorem d_Wh_divide_27 : decode c_Wh_divide 27 = .ok (.getfield 19, 3) := by decide +kernel
theorem d_Wh_divide_30 : decode c_Wh_divide 30 = .ok (.imul, 1) := by decide +kernel
theorem d_Wh_divide_31 : decode c_Wh_divide 31 = .ok (.putfield 19, 3) := by decide +kernel
theorem d_Wh_divide_34 : decode c_Wh_divide 34 = .ok (.aload_n 0, 1) := by decide +kernel
theorem d_Wh_divide_35 : decode c_Wh_divide 35 = .ok (.getfield 29, 3) := by decide +kernel
theorem d_Wh_divide_38 : decode c_Wh_divide 38 = .ok (.aload_n 1, 1) := by decide +kernel
theorem d_Wh_divide_39 : decode c_Wh_divide 39 = .ok (.getfield 29, 3) := by decide +kernel
theorem d_Wh_divide_42 : decode c_Wh_divide 42 = .ok (.isub, 1) := by decide +kernel
theorem d_Wh_divide_43 : decode c_Wh_divide 43 = .ok (.istore 4, 2) := by decide +kernel
theorem d_Wh_divide_45 : decode c_Wh_divide 45 = .ok (.aload_n 1, 1) := by decide +kernel
theorem d_Wh_divide_46 : decode c_Wh_divide 46 = .ok (.getfield 29, 3) := by decide +kernel
theorem d_Wh_divide_49 : decode c_Wh_divide 49 = .ok (.iconst 1, 1) := by decide +kernel
theorem d_Wh_divide_50 : decode c_Wh_divide 50 = .ok (.if_icmp .ne 16, 3) := by decide +kernel
theorem d_Wh_divide_53 : decode c_Wh_divide 53 = .ok (.aload_n 0, 1) := by decide +kernel
theorem d_Wh_divide_54 : decode c_Wh_divide 54 = .ok (.aload_n 1, 1) := by decide +kernel
theorem d_Wh_divide_55 : decode c_Wh_divide 55 = .ok (.getfield 9, 3) := by decide +kernel
theorem d_Wh_divide_58 : decode c_Wh_divide 58 = .ok (.iconst 0, 1) := by decide +kernel
theorem d_Wh_divide_59 : decode c_Wh_divide 59 = .ok (.iaload, 1) := by decide +kernel
theorem d_Wh_divide_60 : decode c_Wh_divide 60 = .ok (.invokevirtual 72, 3) := by decide +kernel
theorem d_Wh_divide_63 : decode c_Wh_divide 63 = .ok (.goto 100, 3) := by decide +kernel
theorem d_Wh_divide_66 : decode c_Wh_divide 66 = .ok (.aload_n 1, 1) := by decide +kernel
theorem d_Wh_divide_67 : decode c_Wh_divide 67 = .ok (.invokevirtual 75, 3) := by decide +kernel
theorem d_Wh_divide_70 : decode c_Wh_divide 70 = .ok (.istore 5, 2) := by decide +kernel
theorem d_Wh_divide_72 : decode c_Wh_divide 72 = .ok (.aload_n 2, 1) := by decide +kernel
theorem d_Wh_divide_73 : decode c_Wh_divide 73 = .ok (.aload_n 0, 1) := by decide +kernel
theorem d_Wh_divide_74 : decode c_Wh_divide 74 = .ok (.iload 5, 2) := by decide +kernel
theorem d_Wh_divide_76 : decode c_Wh_divide 76 = .ok (.invokevirtual 79, 3) := by decide +kernel
theorem d_Wh_divide_79 : decode c_Wh_divide 79 = .ok (.aload_n 3, 1) := by decide +kernel
theorem d_Wh_divide_80 : decode c_Wh_divide 80 = .ok (.aload_n 1, 1) := by decide +kernel
theorem d_Wh_divide_81 : decode c_Wh_divide 81 = .ok (.iload 5, 2) := by decide +kernel
theorem d_Wh_divide_83 : decode c_Wh_divide 83 = .ok (.invokevirtual 79, 3) := by decide +kernel
theorem d_Wh_divide_86 : decode c_Wh_divide 86 = .ok (.iload 4, 2) := by decide +kernel
theorem d_Wh_divide_88 : decode c_Wh_divide 88 = .ok (.istore 6, 2) := by decide +kernel
theorem d_Wh_divide_90 : decode c_Wh_divide 90 = .ok (.iload 6, 2) := by decide +kernel
theorem d_Wh_divide_92 : decode c_Wh_divide 92 = .ok (.ifCond .lt 71, 3) := by decide +kernel
theorem d_Wh_divide_95 : decode c_Wh_divide 95 = .ok (.aload_n 2, 1) := by decide +kernel
theorem d_Wh_divide_96 : decode c_Wh_divide 96 = .ok (.aload_n 3, 1) := by decide +kernel
theorem d_Wh_divide_97 : decode c_Wh_divide 97 = .ok (.aload_n 1, 1) := by decide +kernel
theorem d_Wh_divide_98 : decode c_Wh_divide 98 = .ok (.getfield 29, 3) := by decide +kernel
theorem d_Wh_divide_101 : decode c_Wh_divide 101 = .ok (.iload 6, 2) := by decide +kernel
theorem d_Wh_divide_103 : decode c_Wh_divide 103 = .ok (.invokevirtual 83, 3) := by decide +kernel
theorem d_Wh_divide_106 : decode c_Wh_divide 106 = .ok (.lstore 7, 2) := by decide +kernel
theorem d_Wh_divide_108 : decode c_Wh_divide 108 = .ok (.aload_n 2, 1) := by decide +kernel
theorem d_Wh_divide_109 : decode c_Wh_divide 109 = .ok (.aload_n 3, 1) := by decide +kernel
theorem d_Wh_divide_110 : decode c_Wh_divide 110 = .ok (.aload_n 1, 1) := by decide +kernel
theorem d_Wh_divide_111 : decode c_Wh_divide 111 = .ok (.getfield 29, 3) := by decide +kernel
theorem d_Wh_divide_114 : decode c_Wh_divide 114 = .ok (.iload 6, 2) := by decide +kernel
theorem d_Wh_divide_116 : decode c_Wh_divide 116 = .ok (.lload 7, 2) := by decide +kernel
theorem d_Wh_divide_118 : decode c_Wh_divide 118 = .ok (.invokevirtual 87, 3) := by decide +kernel
theorem d_Wh_divide_121 : decode c_Wh_divide 121 = .ok (.lconst 0, 1) := by decide +kernel
theorem d_Wh_divide_122 : decode c_Wh_divide 122 = .ok (.lcmp, 1) := by decide +kernel
theorem d_Wh_divide_123 : decode c_Wh_divide 123 = .ok (.ifCond .ge 24, 3) := by decide +kernel
theorem d_Wh_divide_126 : decode c_Wh_divide 126 = .ok (.lload 7, 2) := by decide +kernel
theorem d_Wh_divide_128 : decode c_Wh_divide 128 = .ok (.lconst 1, 1) := by decide +kernel
theorem d_Wh_divide_129 : decode c_Wh_divide 129 = .ok (.lsub, 1) := by decide +kernel
theorem d_Wh_divide_130 : decode c_Wh_divide 130 = .ok (.lstore 7, 2) := by decide +kernel
theorem d_Wh_divide_132 : decode c_Wh_divide 132 = .ok (.aload_n 2, 1) := by decide +kernel
theorem d_Wh_divide_133 : decode c_Wh_divide 133 = .ok (.aload_n 3, 1) := by decide +kernel
theorem d_Wh_divide_134 : decode c_Wh_divide 134 = .ok (.aload_n 1, 1) := by decide +kernel
theorem d_Wh_divide_135 : decode c_Wh_divide 135 = .ok (.getfield 29, 3) := by decide +kernel
theorem d_Wh_divide_138 : decode c_Wh_divide 138 = .ok (.iload 6, 2) := by decide +kernel
theorem d_Wh_divide_140 : decode c_Wh_divide 140 = .ok (.ldc2_w 91, 3) := by decide +kernel
theorem d_Wh_divide_143 : decode c_Wh_divide 143 = .ok (.invokevirtual 87, 3) := by decide +kernel
theorem d_Wh_divide_146 : decode c_Wh_divide 146 = .ok (.pop2, 1) := by decide +kernel
theorem d_Wh_divide_147 : decode c_Wh_divide 147 = .ok (.aload_n 0, 1) := by decide +kernel
theorem d_Wh_divide_148 : decode c_Wh_divide 148 = .ok (.getfield 9, 3) := by decide +kernel
theorem d_Wh_divide_151 : decode c_Wh_divide 151 = .ok (.iload 6, 2) := by decide +kernel
theorem d_Wh_divide_153 : decode c_Wh_divide 153 = .ok (.lload 7, 2) := by decide +kernel
theorem d_Wh_divide_155 : decode c_Wh_divide 155 = .ok (.l2i, 1) := by decide +kernel
theorem d_Wh_divide_156 : decode c_Wh_divide 156 = .ok (.iastore, 1) := by decide +kernel
theorem d_Wh_divide_157 : decode c_Wh_divide 157 = .ok (.iinc 6 (-1), 3) := by decide +kernel
theorem d_Wh_divide_160 : decode c_Wh_divide 160 = .ok (.goto (-70), 3) := by decide +kernel
theorem d_Wh_divide_163 : decode c_Wh_divide 163 = .ok (.aload_n 0, 1) := by decide +kernel
theorem d_Wh_divide_164 : decode c_Wh_divide 164 = .ok (.iload 4, 2) := by decide +kernel
theorem d_Wh_divide_166 : decode c_Wh_divide 166 = .ok (.iconst 1, 1) := by decide +kernel
theorem d_Wh_divide_167 : decode c_Wh_divide 167 = .ok (.iadd, 1) := by decide +kernel
theorem d_Wh_divide_168 : decode c_Wh_divide 168 = .ok (.invokevirtual 25, 3) := by decide +kernel
theorem d_Wh_divide_171 : decode c_Wh_divide 171 = .ok (.return_, 1) := by decide +kernel
set_option maxRecDepth 100000 in
set_option maxHeartbeats 16000000 in
/-- divide -/
theorem g_Wh_divide (l : Launch) (G : va_G) (k : Nat → ClassId) (h0 : Nat) (s0 sl : Nat) (Mx : Nat) (dd : Nat) (LL : Nat) (nn9 : Nat) (gg : Nat → Nat) (zz : Int) (ho : Nat) (do9 : Nat) (Lo : Nat) (no9 : Nat) (go : Nat → Nat) (zo : Int) (hq : Nat) (dq : Nat) (Lq : Nat) (xq9 : Int32) (yq9 : Int32) (gq : Nat → Nat) (hu : Nat) (du : Nat) (Lu : Nat) (xu9 : Int32) (yu9 : Int32) (gu : Nat → Nat) (hw : whO LL nn9 gg zz) (hv : whO Lo no9 go zo) (hrq : raO Lq gq) (hru : raO Lu gu) (hm1 : 2 * (nn9 + 1) ≤ Mx) (hm0 : 2 * (no9 + 1) ≤ Mx) (hmq : Lq ≤ Mx) (hmu : Lu ≤ Mx) (hm3 : Mx ≤ 400) : CG l y_Wh_divide c_Wh_divide 9 none { frames := 4, cells := 2 * Mx, slots := 4 * Mx, locals := 129 } [.ref h0, .ref ho, .ref hq, .ref hu] G k s0 sl [(h0, .inr (2, [.ref dd, .int (nI nn9), .int (sgI zz)])), (dd, .inl (k 0, LL, .inl (fun i => nI (gg i)))), (ho, .inr (2, [.ref do9, .int (nI no9), .int (sgI zo)])), (do9, .inl (k 0, Lo, .inl (fun i => nI (go i)))), (hq, .inr (2, [.ref dq, .int xq9, .int yq9])), (dq, .inl (k 0, Lq, .inl (fun i => nI (gq i)))), (hu, .inr (2, [.ref du, .int xu9, .int yu9])), (du, .inl (k 0, Lu, .inl (fun i => nI (gu i))))] (fun (u : Nat × (Nat → Nat) × (Nat × Nat × (Nat → Nat)) × (Nat × Nat × (Nat → Nat))) => none) (fun (u : Nat × (Nat → Nat) × (Nat × Nat × (Nat → Nat)) × (Nat × Nat × (Nat → Nat))) => whO LL u.1 u.2.1 (zz.tdiv zo) ∧ raO u.2.2.1.2.1 u.2.2.1.2.2 ∧ Lq ≤ u.2.2.1.2.1 ∧ u.2.2.1.2.1 ≤ Mx ∧ raO u.2.2.2.2.1 u.2.2.2.2.2 ∧ Lu ≤ u.2.2.2.2.1 ∧ u.2.2.2.2.1 ≤ Mx) (fun (u : Nat × (Nat → Nat) × (Nat × Nat × (Nat → Nat)) × (Nat × Nat × (Nat → Nat))) => [(h0, .inr (2, [.ref dd, .int (nI u.1), .int (sgI (zz.tdiv zo))])), (dd, .inl (k 0, LL, .inl (fun i => nI (u.2.1 i)))), (ho, .inr (2, [.ref do9, .int (nI no9), .int (sgI zo)])), (do9, .inl (k 0, Lo, .inl (fun i => nI (go i)))), (hq, .inr (2, [.ref u.2.2.1.1, .int xq9, .int yq9])), (u.2.2.1.1, .inl (k 0, u.2.2.1.2.1, .inl (fun i => nI (u.2.2.1.2.2 i)))), (hu, .inr (2, [.ref u.2.2.2.1, .int xu9, .int yu9])), (u.2.2.2.1, .inl (k 0, u.2.2.2.2.1, .inl (fun i => nI (u.2.2.2.2.2 i))))]) (fun (u : Nat × (Nat → Nat) × (Nat × Nat × (Nat → Nat)) × (Nat × Nat × (Nat → Nat))) => (u.2.2.1.2.1 - Lq) + (u.2.2.2.2.1 - Lu)) (fun (u : Nat × (Nat → Nat) × (Nat × Nat × (Nat → Nat)) × (Nat × Nat × (Nat → Nat))) => 2 * (u.2.2.1.2.1 - Lq) + 2 * (u.2.2.2.2.1 - Lu)) (2 * Mx) (4 * Mx) := by
  refine met_startG (by decide) (Nat.le_of_ble_eq_true rfl) ?_
  intro p e s m below meth c C K hA hsz S ls hl
  generalize va_A [(h0, .inr (2, [.ref dd, .int (nI nn9), .int (sgI zz)])), (dd, .inl (k 0, LL, .inl (fun i => nI (gg i)))), (ho, .inr (2, [.ref do9, .int (nI no9), .int (sgI zo)])), (do9, .inl (k 0, Lo, .inl (fun i => nI (go i)))), (hq, .inr (2, [.ref dq, .int xq9, .int yq9])), (dq, .inl (k 0, Lq, .inl (fun i => nI (gq i)))), (hu, .inr (2, [.ref du, .int xu9, .int yu9])), (du, .inl (k 0, Lu, .inl (fun i => nI (gu i))))] s0 = A at hA S ⊢
  have hx := C.1
  have hb := C.2.1
  have hl : lv_has ls 9 [(0, .ref h0), (1, .ref ho), (2, .ref hq), (3, .ref hu)] := hl
  have hw0 := hw
  obtain ⟨w1, w2, w3, w4, w5, w6⟩ := hw0
  have hv0 := hv
  obtain ⟨v1, v2, v3, v4, v5, v6⟩ := hv0
  refine lv_aload_n hx hb d_Wh_divide_0 rfl (lv_at hl 1 rfl) ?_
  refine r_get C K S 2 rfl rfl clOk_Wh 1 (by decide) wf_Wh_29 (v := .int (nI no9)) rfl d_Wh_divide_1 ?_
  refine z_if_eq (a := no9) (tgt := 15) hx hb d_Wh_divide_4 (by decide) (by omega) (fun hc1 => ?_) (fun hc1 => ?_)
  · refine lv_aload_n hx hb d_Wh_divide_15 rfl (lv_at hl 0 rfl) ?_
    refine lv_lconst (v := 0) hx hb d_Wh_divide_16 (by decide) ?_
    refine z_topl (y := lZ 0) (by decide) ?_
    refine q_back0 (wi := [(h0, .inr (2, [.ref dd, .int (nI nn9), .int (sgI zz)])), (dd, .inl (k 0, LL, .inl (fun i => nI (gg i))))]) (wr := [(ho, .inr (2, [.ref do9, .int (nI no9), .int (sgI zo)])), (do9, .inl (k 0, Lo, .inl (fun i => nI (go i)))), (hq, .inr (2, [.ref dq, .int xq9, .int yq9])), (dq, .inl (k 0, Lq, .inl (fun i => nI (gq i)))), (hu, .inr (2, [.ref du, .int xu9, .int yu9])), (du, .inl (k 0, Lu, .inl (fun i => nI (gu i))))]) S hA [0, 1] [2, 3, 4, 5, 6, 7] rfl rfl (by decide) (by decide) (va_runV (As := [.long (lZ 0)]) (rest := []) ⟨hx, hb, C.2.2.1, C.2.2.2.1, C.2.2.2.2.1⟩ (g_Wh_set l G k h0 _ _ 0 dd LL (nI nn9) (sgI zz) gg (wh_ra hw) (by decide) (by decide)) (k_virt (n := 1) C wc_Wh_set rfl rfl wz_Wh wm_Wh_68 wn_Wh_set ws_Wh_set (by decide +kernel) ⟨(Nat.le_of_ble_eq_true rfl), (Nat.le_of_ble_eq_true rfl)⟩) (pr_nowVG K S [0, 1] (by decide) rfl 0 rfl rfl) rfl rfl hl.1 rfl (lv_room (Nat.le_of_ble_eq_true rfl)) d_Wh_divide_17 ⟨(Nat.zero_le _), (Nat.zero_le _)⟩) (fun c8 H locs hw2 S => ?_)
    have S : Sw G A s.heap _ _ [(ho, .inr (2, [.ref do9, .int (nI no9), .int (sgI zo)])), (do9, .inl (k 0, Lo, .inl (fun i => nI (go i)))), (hq, .inr (2, [.ref dq, .int xq9, .int yq9])), (dq, .inl (k 0, Lq, .inl (fun i => nI (gq i)))), (hu, .inr (2, [.ref du, .int xu9, .int yu9])), (du, .inl (k 0, Lu, .inl (fun i => nI (gu i)))), (h0, .inr (2, [.ref dd, .int (nI c8.1), .int (sgI 0)])), (dd, .inl (k 0, LL, .inl (fun i => nI (c8.2 i))))] := S
    have hw2 : whO LL c8.1 c8.2 0 := hw2
    show W p l e _ s m _ below meth c H locs _ _ _ (F0 m 20 ls [])
    have k1 := hw2
    have e1 : zz.tdiv zo = 0 := tdiv_0 (Or.inl ((whn_0 hv).mp hc1))
    have S : Sw G A s.heap H locs [(ho, .inr (2, [.ref do9, .int (nI no9), .int (sgI zo)])), (do9, .inl (k 0, Lo, .inl (fun i => nI (go i)))), (hq, .inr (2, [.ref dq, .int xq9, .int yq9])), (dq, .inl (k 0, Lq, .inl (fun i => nI (gq i)))), (hu, .inr (2, [.ref du, .int xu9, .int yu9])), (du, .inl (k 0, Lu, .inl (fun i => nI (gu i)))), (h0, .inr (2, [.ref dd, .int (nI c8.1), .int (sgI (zz.tdiv zo))])), (dd, .inl (k 0, LL, .inl (fun i => nI (c8.2 i))))] := by rw [e1]; exact S
    exact q_vret C K hsz (c8.1, c8.2, (dq, Lq, gq), (du, Lu, gu)) (show whO LL c8.1 c8.2 (zz.tdiv zo) ∧ raO Lq gq ∧ Lq ≤ Lq ∧ Lq ≤ Mx ∧ raO Lu gu ∧ Lu ≤ Lu ∧ Lu ≤ Mx from ⟨by rw [e1]; exact k1, hrq, Nat.le_refl _, hmq, hru, Nat.le_refl _, hmu⟩) (S.sub [6, 7, 0, 1, 2, 3, 4, 5] (by decide) rfl) d_Wh_divide_20 (Nat.zero_le _) (Nat.zero_le _) (Nat.zero_le _) (Nat.zero_le _)
  · refine lv_aload_n hx hb d_Wh_divide_7 rfl (lv_at hl 0 rfl) ?_
    refine lv_aload_n hx hb d_Wh_divide_8 rfl (lv_at hl 1 rfl) ?_
    refine q_back0 (wi := [(h0, .inr (2, [.ref dd, .int (nI nn9), .int (sgI zz)])), (dd, .inl (k 0, LL, .inl (fun i => nI (gg i)))), (ho, .inr (2, [.ref do9, .int (nI no9), .int (sgI zo)])), (do9, .inl (k 0, Lo, .inl (fun i => nI (go i))))]) (wr := [(hq, .inr (2, [.ref dq, .int xq9, .int yq9])), (dq, .inl (k 0, Lq, .inl (fun i => nI (gq i)))), (hu, .inr (2, [.ref du, .int xu9, .int yu9])), (du, .inl (k 0, Lu, .inl (fun i => nI (gu i))))]) S hA [0, 1, 2, 3] [4, 5, 6, 7] rfl rfl (by decide) (by decide) (va_runV (As := [.ref ho]) (rest := []) ⟨hx, hb, C.2.2.1, C.2.2.2.1, C.2.2.2.2.1⟩ (g_Wh_compareAmount l G k h0 _ _ dd LL nn9 gg zz ho do9 Lo no9 go zo (by first | assumption | omega) (by first | assumption | omega)) (k_virt (n := 1) C wc_Wh_compareAmount rfl rfl wz_Wh wm_Wh_46 wn_Wh_compareAmount ws_Wh_compareAmount (by decide +kernel) ⟨(Nat.le_of_ble_eq_true rfl), (Nat.le_of_ble_eq_true rfl)⟩) (pr_nowVG K S [0, 1, 2, 3] (by decide) rfl 0 rfl rfl) rfl rfl hl.1 rfl (lv_room (Nat.le_of_ble_eq_true rfl)) d_Wh_divide_9 ⟨(Nat.zero_le _), (Nat.zero_le _)⟩) (fun u3 H locs hw4 S => ?_)
    have S : Sw G A s.heap _ _ [(hq, .inr (2, [.ref dq, .int xq9, .int yq9])), (dq, .inl (k 0, Lq, .inl (fun i => nI (gq i)))), (hu, .inr (2, [.ref du, .int xu9, .int yu9])), (du, .inl (k 0, Lu, .inl (fun i => nI (gu i)))), (h0, .inr (2, [.ref dd, .int (nI nn9), .int (sgI zz)])), (dd, .inl (k 0, LL, .inl (fun i => nI (gg i)))), (ho, .inr (2, [.ref do9, .int (nI no9), .int (sgI zo)])), (do9, .inl (k 0, Lo, .inl (fun i => nI (go i))))] := S
    have hw4 : True := hw4
    show W p l e _ s m _ below meth c H locs _ _ _ (F0 m 12 ls [.int (cpN zz.natAbs zo.natAbs)])
    refine lv_if_ge (tgt := 21) hx hb d_Wh_divide_12 (by decide) (fun hc5 => ?_) (fun hc5 => ?_)
    · refine lv_aload_n hx hb d_Wh_divide_21 rfl (lv_at hl 0 rfl) ?_
      refine lv_aload_n hx hb d_Wh_divide_22 rfl (lv_at hl 0 rfl) ?_
      refine r_get C K S 4 rfl rfl clOk_Wh 2 (by decide) wf_Wh_19 (v := .int (sgI zz)) rfl d_Wh_divide_23 ?_
      refine lv_aload_n hx hb d_Wh_divide_26 rfl (lv_at hl 1 rfl) ?_
      refine r_get C K S 6 rfl rfl clOk_Wh 2 (by decide) wf_Wh_19 (v := .int (sgI zo)) rfl d_Wh_divide_27 ?_
      refine z_imul (v := sgI zz * sgI zo) hx hb d_Wh_divide_30 rfl ?_
      refine r_put C K S 4 rfl rfl clOk_Wh 2 (by decide) wf_Wh_19 rfl (ty := .int) (v := .int (sgI zz * sgI zo)) (by decide +kernel) rfl rfl (Nat.le_of_ble_eq_true rfl) (fs' := [.ref dd, .int (nI nn9), .int (sgI zz * sgI zo)]) (ws' := [(hq, .inr (2, [.ref dq, .int xq9, .int yq9])), (dq, .inl (k 0, Lq, .inl (fun i => nI (gq i)))), (hu, .inr (2, [.ref du, .int xu9, .int yu9])), (du, .inl (k 0, Lu, .inl (fun i => nI (gu i)))), (h0, .inr (2, [.ref dd, .int (nI nn9), .int (sgI zz * sgI zo)])), (dd, .inl (k 0, LL, .inl (fun i => nI (gg i)))), (ho, .inr (2, [.ref do9, .int (nI no9), .int (sgI zo)])), (do9, .inl (k 0, Lo, .inl (fun i => nI (go i))))]) rfl rfl d_Wh_divide_31 (fun H locs S => ?_)
      have hle : zo.natAbs ≤ zz.natAbs := by have := mt cp_nz.mpr (Int32.not_lt.mpr hc5); omega
      have n1 : zo ≠ 0 := fun q => by have := (whn_0 hv).mpr q; omega
      have hnn := ca_le hv hw hle
      have hn0 : 1 ≤ no9 := by omega
      refine lv_aload_n hx hb d_Wh_divide_34 rfl (lv_at hl 0 rfl) ?_
      refine r_get C K S 4 rfl rfl clOk_Wh 1 (by decide) wf_Wh_29 (v := .int (nI nn9)) rfl d_Wh_divide_35 ?_
      refine lv_aload_n hx hb d_Wh_divide_38 rfl (lv_at hl 1 rfl) ?_
      refine r_get C K S 6 rfl rfl clOk_Wh 1 (by decide) wf_Wh_29 (v := .int (nI no9)) rfl d_Wh_divide_39 ?_
      refine z_isub (x := nI nn9) (y := nI no9) (v := nI (nn9 - no9)) hx hb d_Wh_divide_42 (pk_sub (a := nn9) (b := no9) (by omega)) ?_
      refine lv_istore (lv' := [(4, .int (nI (nn9 - no9))), (0, .ref h0), (1, .ref ho), (2, .ref hq), (3, .ref hu)]) hx hb d_Wh_divide_43 hl (by decide) rfl (fun ls hl => ?_)
      refine lv_aload_n hx hb d_Wh_divide_45 rfl (lv_at hl 2 rfl) ?_
      refine r_get C K S 6 rfl rfl clOk_Wh 1 (by decide) wf_Wh_29 (v := .int (nI no9)) rfl d_Wh_divide_46 ?_
      refine lv_iconst (v := 1) hx hb d_Wh_divide_49 (by decide) ?_
      refine z_icmp_ne (a := no9) (b := 1) (tgt := 66) hx hb d_Wh_divide_50 (by decide) (by omega) (by omega) (fun hc6 => ?_) (fun hc6 => ?_)
      · refine lv_aload_n hx hb d_Wh_divide_66 rfl (lv_at hl 2 rfl) ?_
        refine q_back0 (wi := [(ho, .inr (2, [.ref do9, .int (nI no9), .int (sgI zo)])), (do9, .inl (k 0, Lo, .inl (fun i => nI (go i))))]) (wr := [(hq, .inr (2, [.ref dq, .int xq9, .int yq9])), (dq, .inl (k 0, Lq, .inl (fun i => nI (gq i)))), (hu, .inr (2, [.ref du, .int xu9, .int yu9])), (du, .inl (k 0, Lu, .inl (fun i => nI (gu i)))), (h0, .inr (2, [.ref dd, .int (nI nn9), .int (sgI zz * sgI zo)])), (dd, .inl (k 0, LL, .inl (fun i => nI (gg i))))]) S hA [6, 7] [0, 1, 2, 3, 4, 5] rfl rfl (by decide) (by decide) (va_runV (As := []) (rest := []) ⟨hx, hb, C.2.2.1, C.2.2.2.1, C.2.2.2.2.1⟩ (g_Wh_bitsFree l G k ho _ _ do9 Lo no9 go zo hv hn0) (k_virt (n := 0) C wc_Wh_bitsFree rfl rfl wz_Wh wm_Wh_75 wn_Wh_bitsFree ws_Wh_bitsFree (by decide +kernel) ⟨(Nat.le_of_ble_eq_true rfl), (Nat.le_of_ble_eq_true rfl)⟩) (pr_nowVG K S [6, 7] (by decide) rfl 6 rfl rfl) rfl rfl hl.1 rfl (lv_room (Nat.le_of_ble_eq_true rfl)) d_Wh_divide_67 ⟨(Nat.zero_le _), (Nat.zero_le _)⟩) (fun f7 H locs hw7 S => ?_)
        have S : Sw G A s.heap _ _ [(hq, .inr (2, [.ref dq, .int xq9, .int yq9])), (dq, .inl (k 0, Lq, .inl (fun i => nI (gq i)))), (hu, .inr (2, [.ref du, .int xu9, .int yu9])), (du, .inl (k 0, Lu, .inl (fun i => nI (gu i)))), (h0, .inr (2, [.ref dd, .int (nI nn9), .int (sgI zz * sgI zo)])), (dd, .inl (k 0, LL, .inl (fun i => nI (gg i)))), (ho, .inr (2, [.ref do9, .int (nI no9), .int (sgI zo)])), (do9, .inl (k 0, Lo, .inl (fun i => nI (go i))))] := S
        have hw7 : f7 ≤ 30 ∧ go (no9 - 1) * 2 ^ f7 < 2147483648 ∧ 1073741824 ≤ go (no9 - 1) * 2 ^ f7 := hw7
        show W p l e _ s m _ below meth c H locs _ _ _ (F0 m 70 ls [.int (nI f7)])
        obtain ⟨f1, f2, f3⟩ := hw7
        refine lv_istore (lv' := [(5, .int (nI f7)), (4, .int (nI (nn9 - no9))), (0, .ref h0), (1, .ref ho), (2, .ref hq), (3, .ref hu)]) hx hb d_Wh_divide_70 hl (by decide) rfl (fun ls hl => ?_)
        refine lv_aload_n hx hb d_Wh_divide_72 rfl (lv_at hl 4 rfl) ?_
        refine lv_aload_n hx hb d_Wh_divide_73 rfl (lv_at hl 2 rfl) ?_
        refine lv_iload hx hb d_Wh_divide_74 (lv_at hl 0 rfl) ?_
        refine q_back0 (wi := [(hq, .inr (2, [.ref dq, .int xq9, .int yq9])), (dq, .inl (k 0, Lq, .inl (fun i => nI (gq i)))), (h0, .inr (2, [.ref dd, .int (nI nn9), .int (sgI zz * sgI zo)])), (dd, .inl (k 0, LL, .inl (fun i => nI (gg i))))]) (wr := [(hu, .inr (2, [.ref du, .int xu9, .int yu9])), (du, .inl (k 0, Lu, .inl (fun i => nI (gu i)))), (ho, .inr (2, [.ref do9, .int (nI no9), .int (sgI zo)])), (do9, .inl (k 0, Lo, .inl (fun i => nI (go i))))]) S hA [0, 1, 4, 5] [2, 3, 6, 7] rfl rfl (by decide) (by decide) (va_runV (As := [.ref h0, .int (nI f7)]) (rest := []) ⟨hx, hb, C.2.2.1, C.2.2.2.1, C.2.2.2.2.1⟩ (g_Wh_shift l G k hq _ _ f7 (sgI zz * sgI zo) Mx dq Lq xq9 yq9 gq h0 dd LL nn9 gg zz hrq hw f1 hm1 hmq hm3) (k_virt (n := 2) C wc_Wh_shift rfl rfl wz_Wh wm_Wh_79 wn_Wh_shift ws_Wh_shift (by decide +kernel) ⟨(Nat.le_of_ble_eq_true rfl), (Nat.le_of_ble_eq_true rfl)⟩) (pr_nowVG K S [0, 1, 4, 5] (by decide) rfl 0 rfl rfl) rfl rfl hl.1 rfl (lv_room (Nat.le_of_ble_eq_true rfl)) d_Wh_divide_76 ⟨(show 0 + Mx ≤ 2 * Mx from by omega), (show 0 + (2 * Mx) ≤ 4 * Mx from by omega)⟩) (fun p7 H locs hw8 S => ?_)
        have S : Sw G A s.heap _ _ [(hu, .inr (2, [.ref du, .int xu9, .int yu9])), (du, .inl (k 0, Lu, .inl (fun i => nI (gu i)))), (ho, .inr (2, [.ref do9, .int (nI no9), .int (sgI zo)])), (do9, .inl (k 0, Lo, .inl (fun i => nI (go i)))), (hq, .inr (2, [.ref p7.1, .int xq9, .int yq9])), (p7.1, .inl (k 0, p7.2.1, .inl (fun i => nI (p7.2.2 i)))), (h0, .inr (2, [.ref dd, .int (nI nn9), .int (sgI zz * sgI zo)])), (dd, .inl (k 0, LL, .inl (fun i => nI (gg i))))] := S
        have hw8 : raO p7.2.1 p7.2.2 ∧ Lq ≤ p7.2.1 ∧ nn9 + 1 ≤ p7.2.1 ∧ p7.2.1 ≤ Mx ∧ vl 2147483648 p7.2.2 (nn9 + 1) = zz.natAbs * 2 ^ f7 := hw8
        show W p l e _ s m _ below meth c H locs _ _ _ (F0 m 79 ls [])
        obtain ⟨x1, x2, x3, x4, x5⟩ := hw8
        refine lv_aload_n hx hb d_Wh_divide_79 rfl (lv_at hl 5 rfl) ?_
        refine lv_aload_n hx hb d_Wh_divide_80 rfl (lv_at hl 3 rfl) ?_
        refine lv_iload hx hb d_Wh_divide_81 (lv_at hl 0 rfl) ?_
        refine q_back0 (wi := [(hu, .inr (2, [.ref du, .int xu9, .int yu9])), (du, .inl (k 0, Lu, .inl (fun i => nI (gu i)))), (ho, .inr (2, [.ref do9, .int (nI no9), .int (sgI zo)])), (do9, .inl (k 0, Lo, .inl (fun i => nI (go i))))]) (wr := [(hq, .inr (2, [.ref p7.1, .int xq9, .int yq9])), (p7.1, .inl (k 0, p7.2.1, .inl (fun i => nI (p7.2.2 i)))), (h0, .inr (2, [.ref dd, .int (nI nn9), .int (sgI zz * sgI zo)])), (dd, .inl (k 0, LL, .inl (fun i => nI (gg i))))]) S hA [0, 1, 2, 3] [4, 5, 6, 7] rfl rfl (by decide) (by decide) (va_runV (As := [.ref ho, .int (nI f7)]) (rest := []) ⟨hx, hb, C.2.2.1, C.2.2.2.1, C.2.2.2.2.1⟩ (g_Wh_shift l G k hu _ _ f7 (sgI zo) Mx du Lu xu9 yu9 gu ho do9 Lo no9 go zo hru hv f1 hm0 hmu hm3) (k_virt (n := 2) C wc_Wh_shift rfl rfl wz_Wh wm_Wh_79 wn_Wh_shift ws_Wh_shift (by decide +kernel) ⟨(Nat.le_of_ble_eq_true rfl), (Nat.le_of_ble_eq_true rfl)⟩) (pr_nowVG K S [0, 1, 2, 3] (by decide) rfl 0 rfl rfl) rfl rfl hl.1 rfl (lv_room (Nat.le_of_ble_eq_true rfl)) d_Wh_divide_83 ⟨(show 0 + (p7.2.1 - Lq) + Mx ≤ 2 * Mx from by omega), (show 0 + (2 * (p7.2.1 - Lq)) + (2 * Mx) ≤ 4 * Mx from by omega)⟩) (fun p6 H locs hw9 S => ?_)
        have S : Sw G A s.heap _ _ [(hq, .inr (2, [.ref p7.1, .int xq9, .int yq9])), (p7.1, .inl (k 0, p7.2.1, .inl (fun i => nI (p7.2.2 i)))), (h0, .inr (2, [.ref dd, .int (nI nn9), .int (sgI zz * sgI zo)])), (dd, .inl (k 0, LL, .inl (fun i => nI (gg i)))), (hu, .inr (2, [.ref p6.1, .int xu9, .int yu9])), (p6.1, .inl (k 0, p6.2.1, .inl (fun i => nI (p6.2.2 i)))), (ho, .inr (2, [.ref do9, .int (nI no9), .int (sgI zo)])), (do9, .inl (k 0, Lo, .inl (fun i => nI (go i))))] := S
        have hw9 : raO p6.2.1 p6.2.2 ∧ Lu ≤ p6.2.1 ∧ no9 + 1 ≤ p6.2.1 ∧ p6.2.1 ≤ Mx ∧ vl 2147483648 p6.2.2 (no9 + 1) = zo.natAbs * 2 ^ f7 := hw9
        show W p l e _ s m _ below meth c H locs _ _ _ (F0 m 86 ls [])
        obtain ⟨y1, y2, y3, y4, y5⟩ := hw9
        refine lv_iload hx hb d_Wh_divide_86 (lv_at hl 1 rfl) ?_
        refine lv_istore (lv' := [(6, .int (nI (nn9 - no9))), (5, .int (nI f7)), (4, .int (nI (nn9 - no9))), (0, .ref h0), (1, .ref ho), (2, .ref hq), (3, .ref hu)]) hx hb d_Wh_divide_88 hl (by decide) rfl (fun ls hl => ?_)
        have fit := su_fit hn0 v4 f2 f1
        have flo := su_lo hn0 f3
        rw [v6] at fit flo
        obtain ⟨eV, etop⟩ := su_top hn0 y1.2.2 y5 fit flo
        have hV0 : 0 < vl 2147483648 p6.2.2 no9 := by rw [eV]; exact Nat.mul_pos (by omega) (Nat.two_pow_pos _)
        have hVn : vl 2147483648 p6.2.2 no9 ≤ 2147483648 ^ no9 := by rw [eV]; omega
        have hst : vl 2147483648 p7.2.2 (nn9 + 1) < 2147483648 ^ (nn9 - no9 + 1) * vl 2147483648 p6.2.2 no9 := by rw [x5, eV]; exact du_start (n := no9) (by rw [show nn9 - no9 + no9 = nn9 by omega]; exact wh_lt hw) (by rw [← v6]; exact vl_ge (by omega) (by omega)) hn0
        have lp : ∀ (t9 : Nat), ∀ (O8 : Nat → Nat), ∀ (Q8 : Nat → Nat), (t9 ≤ nn9 - no9 + 1) → (vl 2147483648 O8 (t9 + no9) + vl 2147483648 (fun i => Q8 (t9 + i)) (nn9 - no9 + 1 - t9) * (2147483648 ^ t9 * vl 2147483648 p6.2.2 no9) = zz.natAbs * 2 ^ f7) → (vl 2147483648 O8 (t9 + no9) < 2147483648 ^ t9 * vl 2147483648 p6.2.2 no9) → (∀ i, O8 i < 2147483648) → (∀ i, Q8 i < 2147483648) → ∀ (H : Heap) (locs : List Loc), Sw G A s.heap H locs [(hq, .inr (2, [.ref p7.1, .int xq9, .int yq9])), (p7.1, .inl (k 0, p7.2.1, .inl (fun i => nI (O8 i)))), (h0, .inr (2, [.ref dd, .int (nI nn9), .int (sgI zz * sgI zo)])), (dd, .inl (k 0, LL, .inl (fun i => nI (Q8 i)))), (hu, .inr (2, [.ref p6.1, .int xu9, .int yu9])), (p6.1, .inl (k 0, p6.2.1, .inl (fun i => nI (p6.2.2 i)))), (ho, .inr (2, [.ref do9, .int (nI no9), .int (sgI zo)])), (do9, .inl (k 0, Lo, .inl (fun i => nI (go i))))] → ∀ ls : Array Slot, lv_has ls 9 [(6, .int (pm t9)), (4, .int (nI (nn9 - no9))), (0, .ref h0), (1, .ref ho), (2, .ref hq), (3, .ref hu)] → W p l e { frames := 4, cells := 2 * Mx, slots := 4 * Mx, locals := 129 } s m [Value.ref h0, Value.ref ho, Value.ref hq, Value.ref hu].toArray below meth c H locs (0 + (p7.2.1 - Lq) + (p6.2.1 - Lu)) (0 + (2 * (p7.2.1 - Lq)) + (2 * (p6.2.1 - Lu))) (MQ below (va_Qg (fun (u : Nat × (Nat → Nat) × (Nat × Nat × (Nat → Nat)) × (Nat × Nat × (Nat → Nat))) => none) (fun (u : Nat × (Nat → Nat) × (Nat × Nat × (Nat → Nat)) × (Nat × Nat × (Nat → Nat))) => whO LL u.1 u.2.1 (zz.tdiv zo) ∧ raO u.2.2.1.2.1 u.2.2.1.2.2 ∧ Lq ≤ u.2.2.1.2.1 ∧ u.2.2.1.2.1 ≤ Mx ∧ raO u.2.2.2.2.1 u.2.2.2.2.2 ∧ Lu ≤ u.2.2.2.2.1 ∧ u.2.2.2.2.1 ≤ Mx) (Pog G k A (fun (u : Nat × (Nat → Nat) × (Nat × Nat × (Nat → Nat)) × (Nat × Nat × (Nat → Nat))) => [(h0, .inr (2, [.ref dd, .int (nI u.1), .int (sgI (zz.tdiv zo))])), (dd, .inl (k 0, LL, .inl (fun i => nI (u.2.1 i)))), (ho, .inr (2, [.ref do9, .int (nI no9), .int (sgI zo)])), (do9, .inl (k 0, Lo, .inl (fun i => nI (go i)))), (hq, .inr (2, [.ref u.2.2.1.1, .int xq9, .int yq9])), (u.2.2.1.1, .inl (k 0, u.2.2.1.2.1, .inl (fun i => nI (u.2.2.1.2.2 i)))), (hu, .inr (2, [.ref u.2.2.2.1, .int xu9, .int yu9])), (u.2.2.2.1, .inl (k 0, u.2.2.2.2.1, .inl (fun i => nI (u.2.2.2.2.2 i))))]) s0 sl (fun (u : Nat × (Nat → Nat) × (Nat × Nat × (Nat → Nat)) × (Nat × Nat × (Nat → Nat))) => (u.2.2.1.2.1 - Lq) + (u.2.2.2.2.1 - Lu)) (fun (u : Nat × (Nat → Nat) × (Nat × Nat × (Nat → Nat)) × (Nat × Nat × (Nat → Nat))) => 2 * (u.2.2.1.2.1 - Lq) + 2 * (u.2.2.2.2.1 - Lu))) A) [Value.ref h0, Value.ref ho, Value.ref hq, Value.ref hu].toArray s (2 * Mx) (4 * Mx) A) (F0 m 90 ls []) := by
          intro t9
          induction t9 with
          | zero =>
            intro O8 Q8 ht hI hlt hO hQ H locs S ls hl
            have hl : lv_has ls 9 [(6, .int (-1)), (4, .int (nI (nn9 - no9))), (0, .ref h0), (1, .ref ho), (2, .ref hq), (3, .ref hu)] := hl
            refine lv_iload hx hb d_Wh_divide_90 (lv_at hl 0 rfl) ?_
            refine lv_if_lt (tgt := 163) hx hb d_Wh_divide_92 (by decide) (fun _ => ?_) (fun hq => absurd (by decide) hq)
            refine lv_aload_n hx hb d_Wh_divide_163 rfl (lv_at hl 2 rfl) ?_
            refine lv_iload hx hb d_Wh_divide_164 (lv_at hl 1 rfl) ?_
            refine lv_iconst (v := 1) hx hb d_Wh_divide_166 (by decide) ?_
            refine z_iadd (x := nI (nn9 - no9)) (y := 1) (v := nI ((nn9 - no9) + 1)) hx hb d_Wh_divide_167 (nI_add (nn9 - no9) 1) ?_
            have qd : vl 2147483648 Q8 (nn9 - no9 + 1) = zz.natAbs / zo.natAbs := by
              simp only [Nat.zero_add, Nat.sub_zero, Nat.pow_zero, Nat.one_mul] at hI hlt
              rw [eV] at hI hlt
              exact dv_end hI hlt
            refine q_back0 (wi := [(h0, .inr (2, [.ref dd, .int (nI nn9), .int (sgI zz * sgI zo)])), (dd, .inl (k 0, LL, .inl (fun i => nI (Q8 i))))]) (wr := [(hq, .inr (2, [.ref p7.1, .int xq9, .int yq9])), (p7.1, .inl (k 0, p7.2.1, .inl (fun i => nI (O8 i)))), (hu, .inr (2, [.ref p6.1, .int xu9, .int yu9])), (p6.1, .inl (k 0, p6.2.1, .inl (fun i => nI (p6.2.2 i)))), (ho, .inr (2, [.ref do9, .int (nI no9), .int (sgI zo)])), (do9, .inl (k 0, Lo, .inl (fun i => nI (go i))))]) S hA [2, 3] [0, 1, 4, 5, 6, 7] rfl rfl (by decide) (by decide) (va_runV (As := [.int (nI ((nn9 - no9) + 1))]) (rest := []) ⟨hx, hb, C.2.2.1, C.2.2.2.1, C.2.2.2.2.1⟩ (g_Wh_trim l G k h0 _ _ ((nn9 - no9) + 1) dd LL (nI nn9) (sgI zz * sgI zo) Q8 ⟨w2, w3, hQ⟩ (by omega)) (k_virt (n := 1) C wc_Wh_trim rfl rfl wz_Wh wm_Wh_25 wn_Wh_trim ws_Wh_trim (by decide +kernel) ⟨(Nat.le_of_ble_eq_true rfl), (Nat.le_of_ble_eq_true rfl)⟩) (pr_nowVG K S [2, 3] (by decide) rfl 2 rfl rfl) rfl rfl hl.1 rfl (lv_room (Nat.le_of_ble_eq_true rfl)) d_Wh_divide_168 ⟨(show 0 + (p7.2.1 - Lq) + (p6.2.1 - Lu) ≤ 2 * Mx from by omega), (show 0 + (2 * (p7.2.1 - Lq)) + (2 * (p6.2.1 - Lu)) ≤ 4 * Mx from by omega)⟩) (fun n7 H locs hw10 S => ?_)
            have S : Sw G A s.heap _ _ [(hq, .inr (2, [.ref p7.1, .int xq9, .int yq9])), (p7.1, .inl (k 0, p7.2.1, .inl (fun i => nI (O8 i)))), (hu, .inr (2, [.ref p6.1, .int xu9, .int yu9])), (p6.1, .inl (k 0, p6.2.1, .inl (fun i => nI (p6.2.2 i)))), (ho, .inr (2, [.ref do9, .int (nI no9), .int (sgI zo)])), (do9, .inl (k 0, Lo, .inl (fun i => nI (go i)))), (h0, .inr (2, [.ref dd, .int (nI n7), .int (if n7 = 0 then 0 else (sgI zz * sgI zo))])), (dd, .inl (k 0, LL, .inl (fun i => nI (Q8 i))))] := S
            have hw10 : n7 ≤ ((nn9 - no9) + 1) ∧ (n7 = 0 ∨ Q8 (n7 - 1) ≠ 0) ∧ vl 2147483648 Q8 n7 = vl 2147483648 Q8 ((nn9 - no9) + 1) := hw10
            show W p l e _ s m _ below meth c H locs _ _ _ (F0 m 171 ls [])
            obtain ⟨t1, t2, t3⟩ := hw10
            have kw : whO LL n7 Q8 (zz.tdiv zo) := wh_of (a := zz.natAbs / zo.natAbs) (by omega) ⟨w2, w3, hQ⟩ t2 (by rw [t3]; exact qd) (Int.natAbs_tdiv zz zo)
            have S : Sw G A s.heap H locs [(hq, .inr (2, [.ref p7.1, .int xq9, .int yq9])), (p7.1, .inl (k 0, p7.2.1, .inl (fun i => nI (O8 i)))), (hu, .inr (2, [.ref p6.1, .int xu9, .int yu9])), (p6.1, .inl (k 0, p6.2.1, .inl (fun i => nI (p6.2.2 i)))), (ho, .inr (2, [.ref do9, .int (nI no9), .int (sgI zo)])), (do9, .inl (k 0, Lo, .inl (fun i => nI (go i)))), (h0, .inr (2, [.ref dd, .int (nI n7), .int (sgI (zz.tdiv zo))])), (dd, .inl (k 0, LL, .inl (fun i => nI (Q8 i))))] := by rw [show sgI (zz.tdiv zo) = (if n7 = 0 then 0 else sgI zz * sgI zo) from by rw [← sg_div hle n1]; exact (sg_pick (whn_0 kw) (fun q => q) (fun _ => rfl)).symm]; exact S
            exact q_vret C K hsz (n7, Q8, (p7.1, p7.2.1, O8), (p6.1, p6.2.1, p6.2.2)) (show whO LL n7 Q8 (zz.tdiv zo) ∧ raO p7.2.1 O8 ∧ Lq ≤ p7.2.1 ∧ p7.2.1 ≤ Mx ∧ raO p6.2.1 p6.2.2 ∧ Lu ≤ p6.2.1 ∧ p6.2.1 ≤ Mx from ⟨kw, ⟨x1.1, x1.2.1, hO⟩, x2, x4, y1, y2, y4⟩) (S.sub [6, 7, 4, 5, 0, 1, 2, 3] (by decide) rfl) d_Wh_divide_171 (show 0 + (p7.2.1 - Lq) + (p6.2.1 - Lu) ≤ (p7.2.1 - Lq) + (p6.2.1 - Lu) from by omega) (show 0 + (2 * (p7.2.1 - Lq)) + (2 * (p6.2.1 - Lu)) ≤ 2 * (p7.2.1 - Lq) + 2 * (p6.2.1 - Lu) from by omega) (show 0 + (p7.2.1 - Lq) + (p6.2.1 - Lu) ≤ 2 * Mx from by omega) (show 0 + (2 * (p7.2.1 - Lq)) + (2 * (p6.2.1 - Lu)) ≤ 4 * Mx from by omega)
          | succ y9 ih_lp =>
            intro O8 Q8 ht hI hlt hO hQ H locs S ls hl
            have hl : lv_has ls 9 [(6, .int (nI y9)), (4, .int (nI (nn9 - no9))), (0, .ref h0), (1, .ref ho), (2, .ref hq), (3, .ref hu)] := hl
            refine lv_iload hx hb d_Wh_divide_90 (lv_at hl 0 rfl) ?_
            refine z_if_lt (a := y9) (tgt := 163) hx hb d_Wh_divide_92 (by decide) (by omega) ?_
            refine lv_aload_n hx hb d_Wh_divide_95 rfl (lv_at hl 4 rfl) ?_
            refine lv_aload_n hx hb d_Wh_divide_96 rfl (lv_at hl 5 rfl) ?_
            refine lv_aload_n hx hb d_Wh_divide_97 rfl (lv_at hl 3 rfl) ?_
            refine r_get C K S 6 rfl rfl clOk_Wh 1 (by decide) wf_Wh_29 (v := .int (nI no9)) rfl d_Wh_divide_98 ?_
            refine lv_iload hx hb d_Wh_divide_101 (lv_at hl 0 rfl) ?_
            have hWV := du_first (n := no9) hlt
            refine q_back0 (wi := [(hq, .inr (2, [.ref p7.1, .int xq9, .int yq9])), (p7.1, .inl (k 0, p7.2.1, .inl (fun i => nI (O8 i)))), (hu, .inr (2, [.ref p6.1, .int xu9, .int yu9])), (p6.1, .inl (k 0, p6.2.1, .inl (fun i => nI (p6.2.2 i))))]) (wr := [(h0, .inr (2, [.ref dd, .int (nI nn9), .int (sgI zz * sgI zo)])), (dd, .inl (k 0, LL, .inl (fun i => nI (Q8 i)))), (ho, .inr (2, [.ref do9, .int (nI no9), .int (sgI zo)])), (do9, .inl (k 0, Lo, .inl (fun i => nI (go i))))]) S hA [0, 1, 4, 5] [2, 3, 6, 7] rfl rfl (by decide) (by decide) (va_runV (As := [.ref hu, .int (nI no9), .int (nI y9)]) (rest := []) ⟨hx, hb, C.2.2.1, C.2.2.2.1, C.2.2.2.2.1⟩ (g_Wh_guess l G k hq _ _ no9 y9 p7.1 p7.2.1 xq9 yq9 O8 hu p6.1 p6.2.1 xu9 yu9 p6.2.2 ⟨x1.1, x1.2.1, hO⟩ y1 (by omega) (by omega) (by omega) etop hWV) (k_virt (n := 3) C wc_Wh_guess rfl rfl wz_Wh wm_Wh_83 wn_Wh_guess ws_Wh_guess (by decide +kernel) ⟨(Nat.le_of_ble_eq_true rfl), (Nat.le_of_ble_eq_true rfl)⟩) (pr_nowVG K S [0, 1, 4, 5] (by decide) rfl 0 rfl rfl) rfl rfl hl.1 rfl (lv_room (Nat.le_of_ble_eq_true rfl)) d_Wh_divide_103 ⟨(show 0 + (p7.2.1 - Lq) + (p6.2.1 - Lu) ≤ 2 * Mx from by omega), (show 0 + (2 * (p7.2.1 - Lq)) + (2 * (p6.2.1 - Lu)) ≤ 4 * Mx from by omega)⟩) (fun t7 H locs hw11 S => ?_)
            have S : Sw G A s.heap _ _ [(h0, .inr (2, [.ref dd, .int (nI nn9), .int (sgI zz * sgI zo)])), (dd, .inl (k 0, LL, .inl (fun i => nI (Q8 i)))), (ho, .inr (2, [.ref do9, .int (nI no9), .int (sgI zo)])), (do9, .inl (k 0, Lo, .inl (fun i => nI (go i)))), (hq, .inr (2, [.ref p7.1, .int xq9, .int yq9])), (p7.1, .inl (k 0, p7.2.1, .inl (fun i => nI (O8 i)))), (hu, .inr (2, [.ref p6.1, .int xu9, .int yu9])), (p6.1, .inl (k 0, p6.2.1, .inl (fun i => nI (p6.2.2 i))))] := S
            have hw11 : vl 2147483648 (fun i => O8 (y9 + i)) (no9 + 1) / vl 2147483648 p6.2.2 no9 ≤ t7 ∧ t7 ≤ vl 2147483648 (fun i => O8 (y9 + i)) (no9 + 1) / vl 2147483648 p6.2.2 no9 + 1 ∧ t7 ≤ 2147483648 := hw11
            show W p l e _ s m _ below meth c H locs _ _ _ (F0 m 106 ls [.long (lN t7)])
            obtain ⟨g1, g2, g3⟩ := hw11
            refine z_topl (y := lZ (t7 : Int)) (lN_lZ t7) ?_
            refine lv_lstore (lv' := [(7, .long (lZ (t7 : Int))), (6, .int (nI y9)), (4, .int (nI (nn9 - no9))), (0, .ref h0), (1, .ref ho), (2, .ref hq), (3, .ref hu)]) hx hb d_Wh_divide_106 hl (by decide) rfl (fun ls hl => ?_)
            refine lv_aload_n hx hb d_Wh_divide_108 rfl (lv_at hl 5 rfl) ?_
            refine lv_aload_n hx hb d_Wh_divide_109 rfl (lv_at hl 6 rfl) ?_
            refine lv_aload_n hx hb d_Wh_divide_110 rfl (lv_at hl 4 rfl) ?_
            refine r_get C K S 2 rfl rfl clOk_Wh 1 (by decide) wf_Wh_29 (v := .int (nI no9)) rfl d_Wh_divide_111 ?_
            refine lv_iload hx hb d_Wh_divide_114 (lv_at hl 1 rfl) ?_
            refine lv_lload hx hb d_Wh_divide_116 (lv_at hl 0 rfl) ?_
            refine q_back0 (wi := [(hq, .inr (2, [.ref p7.1, .int xq9, .int yq9])), (p7.1, .inl (k 0, p7.2.1, .inl (fun i => nI (O8 i)))), (hu, .inr (2, [.ref p6.1, .int xu9, .int yu9])), (p6.1, .inl (k 0, p6.2.1, .inl (fun i => nI (p6.2.2 i))))]) (wr := [(h0, .inr (2, [.ref dd, .int (nI nn9), .int (sgI zz * sgI zo)])), (dd, .inl (k 0, LL, .inl (fun i => nI (Q8 i)))), (ho, .inr (2, [.ref do9, .int (nI no9), .int (sgI zo)])), (do9, .inl (k 0, Lo, .inl (fun i => nI (go i))))]) S hA [4, 5, 6, 7] [0, 1, 2, 3] rfl rfl (by decide) (by decide) (va_runV (As := [.ref hu, .int (nI no9), .int (nI y9), .long (lZ (t7 : Int))]) (rest := []) ⟨hx, hb, C.2.2.1, C.2.2.2.1, C.2.2.2.2.1⟩ (g_Wh_takeOff l G k hq _ _ no9 y9 (t7 : Int) p7.1 p7.2.1 xq9 yq9 O8 hu p6.1 p6.2.1 xu9 yu9 p6.2.2 ⟨x1.1, x1.2.1, hO⟩ y1 (by omega) (by omega) (by omega) (by omega)) (k_virt (n := 4) C wc_Wh_takeOff rfl rfl wz_Wh wm_Wh_87 wn_Wh_takeOff ws_Wh_takeOff (by decide +kernel) ⟨(Nat.le_of_ble_eq_true rfl), (Nat.le_of_ble_eq_true rfl)⟩) (pr_nowVG K S [4, 5, 6, 7] (by decide) rfl 4 rfl rfl) rfl rfl hl.1 rfl (lv_room (Nat.le_of_ble_eq_true rfl)) d_Wh_divide_118 ⟨(show 0 + (p7.2.1 - Lq) + (p6.2.1 - Lu) ≤ 2 * Mx from by omega), (show 0 + (2 * (p7.2.1 - Lq)) + (2 * (p6.2.1 - Lu)) ≤ 4 * Mx from by omega)⟩) (fun r7 H locs hw12 S => ?_)
            have S : Sw G A s.heap _ _ [(h0, .inr (2, [.ref dd, .int (nI nn9), .int (sgI zz * sgI zo)])), (dd, .inl (k 0, LL, .inl (fun i => nI (Q8 i)))), (ho, .inr (2, [.ref do9, .int (nI no9), .int (sgI zo)])), (do9, .inl (k 0, Lo, .inl (fun i => nI (go i)))), (hq, .inr (2, [.ref p7.1, .int xq9, .int yq9])), (p7.1, .inl (k 0, p7.2.1, .inl (fun i => nI (r7.2 i)))), (hu, .inr (2, [.ref p6.1, .int xu9, .int yu9])), (p6.1, .inl (k 0, p6.2.1, .inl (fun i => nI (p6.2.2 i))))] := S
            have hw12 : (vl 2147483648 (fun i => r7.2 (y9 + i)) no9 : Int) + r7.1 * (2147483648 : Int) ^ no9 = (vl 2147483648 (fun i => O8 (y9 + i)) no9 : Int) - (t7 : Int) * (vl 2147483648 p6.2.2 no9 : Int) ∧ (∀ i, r7.2 i < 2147483648) ∧ (∀ i, i < y9 ∨ y9 + no9 ≤ i → r7.2 i = O8 i) ∧ -2147483649 ≤ r7.1 ∧ r7.1 ≤ 1 := hw12
            show W p l e _ s m _ below meth c H locs _ _ _ (F0 m 121 ls [.long (lZ (r7.1 + (O8 (y9 + no9) : Int)))])
            obtain ⟨a1, a2, a3, a4, a5⟩ := hw12
            have hsp := to_end (W := vl 2147483648 (fun i => O8 (y9 + i)) (no9 + 1)) (Tp := O8 (y9 + no9)) (vl_s _ _ _) hVn hV0 (vl_lt no9 (fun i _ => a2 _)) a1 (by omega) (by omega)
            obtain ⟨b1, b2, b3⟩ := hsp
            have d5 := hO (y9 + no9)
            obtain ⟨q7, hq7⟩ : ∃ x9, x9 = vl 2147483648 (fun i => O8 (y9 + i)) (no9 + 1) / vl 2147483648 p6.2.2 no9 := ⟨_, rfl⟩
            rw [← hq7] at b1 b2 b3 g1 g2
            refine lv_lconst (v := 0) hx hb d_Wh_divide_121 (by decide) ?_
            refine W.lcmp hx hb d_Wh_divide_122 ?_
            refine lv_if_ge (tgt := 147) hx hb d_Wh_divide_123 (by decide) (fun hc13 => ?_) (fun hc13 => ?_)
            · refine lv_aload_n hx hb d_Wh_divide_147 rfl (lv_at hl 3 rfl) ?_
              refine r_get C K S 0 rfl rfl clOk_Wh 0 (by decide) wf_Wh_9 (v := .ref dd) rfl d_Wh_divide_148 ?_
              refine lv_iload hx hb d_Wh_divide_151 (lv_at hl 1 rfl) ?_
              refine lv_lload hx hb d_Wh_divide_153 (lv_at hl 0 rfl) ?_
              have hc7 : (t7 : Int) = (q7 : Int) := by have q8 := (lz_ge0 (by omega) (by omega)).mp hc13; have q6 := mt b1.mpr (by omega); omega
              have x9 : t7 = vl 2147483648 (fun i => O8 (y9 + i)) (no9 + 1) / vl 2147483648 p6.2.2 no9 := by rw [← hq7]; omega
              have hqB : q7 < 2147483648 := by rw [hq7]; exact Nat.div_lt_of_lt_mul (by rw [Nat.mul_comm (vl 2147483648 p6.2.2 no9)]; exact hWV)
              refine lv_l2i (v := nI t7) hx hb d_Wh_divide_155 (by rw [lZ_i (by omega) (by omega)]; first | rfl | (congr 1; omega)) ?_
              refine r_iast C K S 1 rfl (i := nI y9) (x := nI t7) (show vp_in (nI y9) _ from vp_in_nI (n := y9) (by omega) (by omega)) (f' := fun i => nI (va_up Q8 y9 t7 i)) (ws' := [(h0, .inr (2, [.ref dd, .int (nI nn9), .int (sgI zz * sgI zo)])), (dd, .inl (k 0, LL, .inl (fun i => nI (va_up Q8 y9 t7 i)))), (ho, .inr (2, [.ref do9, .int (nI no9), .int (sgI zo)])), (do9, .inl (k 0, Lo, .inl (fun i => nI (go i)))), (hq, .inr (2, [.ref p7.1, .int xq9, .int yq9])), (p7.1, .inl (k 0, p7.2.1, .inl (fun i => nI (r7.2 i)))), (hu, .inr (2, [.ref p6.1, .int xu9, .int yu9])), (p6.1, .inl (k 0, p6.2.1, .inl (fun i => nI (p6.2.2 i))))]) (show upd _ (nI y9 : Int32).toNatClampNeg (nI t7) = _ from upd_nI Q8 (j := y9) (by omega) t7) rfl d_Wh_divide_156 (fun H locs S => ?_)
              refine lv_iinc (v := pm y9) (lv' := [(6, .int (pm y9)), (7, .long (lZ (t7 : Int))), (4, .int (nI (nn9 - no9))), (0, .ref h0), (1, .ref ho), (2, .ref hq), (3, .ref hu)]) hx hb d_Wh_divide_157 hl (k := 1) rfl (pm_dn y9) (by decide) rfl (fun ls hl => ?_)
              refine lv_goto (tgt := 90) hx hb d_Wh_divide_160 (by decide) ?_
              obtain ⟨m1, m2⟩ := du_next (O := O8) (U := r7.2) (qt := Q8) (n := no9) (N := nn9 - no9) (k9 := y9) (by omega) hI hV0 hO (b2 hc7) (fun i q => a3 i (Or.inl q)) x9
              exact ih_lp r7.2 (va_up Q8 y9 (t7)) (by omega) m1 m2 a2 (up31 hQ (by omega)) _ _ (S.sub [4, 5, 0, 1, 6, 7, 2, 3] (by decide) rfl) ls (lv_sub hl [0, 2, 3, 4, 5, 6] rfl)
            · refine lv_lload hx hb d_Wh_divide_126 (lv_at hl 0 rfl) ?_
              refine lv_lconst (v := 1) hx hb d_Wh_divide_128 (by decide) ?_
              refine z_lsub (v := lZ ((t7 : Int) - 1)) hx hb d_Wh_divide_129 (by rw [show (1 : Int64) = lZ 1 from by decide, lZ_sub]) ?_
              refine lv_lstore (lv' := [(7, .long (lZ ((t7 : Int) - 1))), (6, .int (nI y9)), (4, .int (nI (nn9 - no9))), (0, .ref h0), (1, .ref ho), (2, .ref hq), (3, .ref hu)]) hx hb d_Wh_divide_130 hl (by decide) rfl (fun ls hl => ?_)
              refine lv_aload_n hx hb d_Wh_divide_132 rfl (lv_at hl 5 rfl) ?_
              refine lv_aload_n hx hb d_Wh_divide_133 rfl (lv_at hl 6 rfl) ?_
              refine lv_aload_n hx hb d_Wh_divide_134 rfl (lv_at hl 4 rfl) ?_
              refine r_get C K S 2 rfl rfl clOk_Wh 1 (by decide) wf_Wh_29 (v := .int (nI no9)) rfl d_Wh_divide_135 ?_
              refine lv_iload hx hb d_Wh_divide_138 (lv_at hl 1 rfl) ?_
              refine lv_ldc2 (v := (-1)) hx hb C.2.2.2.1 (C.2.2.2.2.1 _ wk_Wh_91) d_Wh_divide_140 ?_
              refine z_topl (y := lZ (-1)) (by decide) ?_
              refine q_back0 (wi := [(hq, .inr (2, [.ref p7.1, .int xq9, .int yq9])), (p7.1, .inl (k 0, p7.2.1, .inl (fun i => nI (r7.2 i)))), (hu, .inr (2, [.ref p6.1, .int xu9, .int yu9])), (p6.1, .inl (k 0, p6.2.1, .inl (fun i => nI (p6.2.2 i))))]) (wr := [(h0, .inr (2, [.ref dd, .int (nI nn9), .int (sgI zz * sgI zo)])), (dd, .inl (k 0, LL, .inl (fun i => nI (Q8 i)))), (ho, .inr (2, [.ref do9, .int (nI no9), .int (sgI zo)])), (do9, .inl (k 0, Lo, .inl (fun i => nI (go i))))]) S hA [4, 5, 6, 7] [0, 1, 2, 3] rfl rfl (by decide) (by decide) (va_runV (As := [.ref hu, .int (nI no9), .int (nI y9), .long (lZ (-1))]) (rest := []) ⟨hx, hb, C.2.2.1, C.2.2.2.1, C.2.2.2.2.1⟩ (g_Wh_takeOff l G k hq _ _ no9 y9 (-1) p7.1 p7.2.1 xq9 yq9 r7.2 hu p6.1 p6.2.1 xu9 yu9 p6.2.2 ⟨x1.1, x1.2.1, a2⟩ y1 (by omega) (by omega) (by decide) (by decide)) (k_virt (n := 4) C wc_Wh_takeOff rfl rfl wz_Wh wm_Wh_87 wn_Wh_takeOff ws_Wh_takeOff (by decide +kernel) ⟨(Nat.le_of_ble_eq_true rfl), (Nat.le_of_ble_eq_true rfl)⟩) (pr_nowVG K S [4, 5, 6, 7] (by decide) rfl 4 rfl rfl) rfl rfl hl.1 rfl (lv_room (Nat.le_of_ble_eq_true rfl)) d_Wh_divide_143 ⟨(show 0 + (p7.2.1 - Lq) + (p6.2.1 - Lu) ≤ 2 * Mx from by omega), (show 0 + (2 * (p7.2.1 - Lq)) + (2 * (p6.2.1 - Lu)) ≤ 4 * Mx from by omega)⟩) (fun r6 H locs hw14 S => ?_)
              have S : Sw G A s.heap _ _ [(h0, .inr (2, [.ref dd, .int (nI nn9), .int (sgI zz * sgI zo)])), (dd, .inl (k 0, LL, .inl (fun i => nI (Q8 i)))), (ho, .inr (2, [.ref do9, .int (nI no9), .int (sgI zo)])), (do9, .inl (k 0, Lo, .inl (fun i => nI (go i)))), (hq, .inr (2, [.ref p7.1, .int xq9, .int yq9])), (p7.1, .inl (k 0, p7.2.1, .inl (fun i => nI (r6.2 i)))), (hu, .inr (2, [.ref p6.1, .int xu9, .int yu9])), (p6.1, .inl (k 0, p6.2.1, .inl (fun i => nI (p6.2.2 i))))] := S
              have hw14 : (vl 2147483648 (fun i => r6.2 (y9 + i)) no9 : Int) + r6.1 * (2147483648 : Int) ^ no9 = (vl 2147483648 (fun i => r7.2 (y9 + i)) no9 : Int) - (-1) * (vl 2147483648 p6.2.2 no9 : Int) ∧ (∀ i, r6.2 i < 2147483648) ∧ (∀ i, i < y9 ∨ y9 + no9 ≤ i → r6.2 i = r7.2 i) ∧ -2147483649 ≤ r6.1 ∧ r6.1 ≤ 1 := hw14
              show W p l e _ s m _ below meth c H locs _ _ _ (F0 m 146 ls [.long (lZ (r6.1 + (r7.2 (y9 + no9) : Int)))])
              obtain ⟨c1, c2, c3, c4, c5⟩ := hw14
              refine lv_pop2_2 hx hb d_Wh_divide_146 rfl ?_
              refine lv_aload_n hx hb d_Wh_divide_147 rfl (lv_at hl 3 rfl) ?_
              refine r_get C K S 0 rfl rfl clOk_Wh 0 (by decide) wf_Wh_9 (v := .ref dd) rfl d_Wh_divide_148 ?_
              refine lv_iload hx hb d_Wh_divide_151 (lv_at hl 1 rfl) ?_
              refine lv_lload hx hb d_Wh_divide_153 (lv_at hl 0 rfl) ?_
              have hc7 : (t7 : Int) = (q7 : Int) + 1 := b1.mp (by have := mt (lz_ge0 (by omega) (by omega)).mpr hc13; omega)
              have x9 : t7 - 1 = vl 2147483648 (fun i => O8 (y9 + i)) (no9 + 1) / vl 2147483648 p6.2.2 no9 := by rw [← hq7]; omega
              have hqB : q7 < 2147483648 := by rw [hq7]; exact Nat.div_lt_of_lt_mul (by rw [Nat.mul_comm (vl 2147483648 p6.2.2 no9)]; exact hWV)
              refine lv_l2i (v := nI (t7 - 1)) hx hb d_Wh_divide_155 (by rw [lZ_i (by omega) (by omega)]; first | rfl | (congr 1; omega)) ?_
              refine r_iast C K S 1 rfl (i := nI y9) (x := nI (t7 - 1)) (show vp_in (nI y9) _ from vp_in_nI (n := y9) (by omega) (by omega)) (f' := fun i => nI (va_up Q8 y9 (t7 - 1) i)) (ws' := [(h0, .inr (2, [.ref dd, .int (nI nn9), .int (sgI zz * sgI zo)])), (dd, .inl (k 0, LL, .inl (fun i => nI (va_up Q8 y9 (t7 - 1) i)))), (ho, .inr (2, [.ref do9, .int (nI no9), .int (sgI zo)])), (do9, .inl (k 0, Lo, .inl (fun i => nI (go i)))), (hq, .inr (2, [.ref p7.1, .int xq9, .int yq9])), (p7.1, .inl (k 0, p7.2.1, .inl (fun i => nI (r6.2 i)))), (hu, .inr (2, [.ref p6.1, .int xu9, .int yu9])), (p6.1, .inl (k 0, p6.2.1, .inl (fun i => nI (p6.2.2 i))))]) (show upd _ (nI y9 : Int32).toNatClampNeg (nI (t7 - 1)) = _ from upd_nI Q8 (j := y9) (by omega) (t7 - 1)) rfl d_Wh_divide_156 (fun H locs S => ?_)
              refine lv_iinc (v := pm y9) (lv' := [(6, .int (pm y9)), (7, .long (lZ ((t7 : Int) - 1))), (4, .int (nI (nn9 - no9))), (0, .ref h0), (1, .ref ho), (2, .ref hq), (3, .ref hu)]) hx hb d_Wh_divide_157 hl (k := 1) rfl (pm_dn y9) (by decide) rfl (fun ls hl => ?_)
              refine lv_goto (tgt := 90) hx hb d_Wh_divide_160 (by decide) ?_
              obtain ⟨m1, m2⟩ := du_next (O := O8) (U := r6.2) (qt := Q8) (n := no9) (N := nn9 - no9) (k9 := y9) (by omega) hI hV0 hO (to_back hVn (Nat.mod_lt _ hV0) (vl_lt no9 (fun i _ => c2 _)) c1 (b3 hc7)) (fun i q => by rw [c3 i (Or.inl q), a3 i (Or.inl q)]) x9
              exact ih_lp r6.2 (va_up Q8 y9 (t7 - 1)) (by omega) m1 m2 c2 (up31 hQ (by omega)) _ _ (S.sub [4, 5, 0, 1, 6, 7, 2, 3] (by decide) rfl) ls (lv_sub hl [0, 2, 3, 4, 5, 6] rfl)
        exact lp (nn9 - no9 + 1) p7.2.2 gg (by omega) (by rw [show nn9 - no9 + 1 + no9 = nn9 + 1 by omega, x5, Nat.sub_self]; simp [vl]) (by rw [show nn9 - no9 + 1 + no9 = nn9 + 1 by omega]; exact hst) x1.2.2 w4 _ _ (S.sub [0, 1, 2, 3, 4, 5, 6, 7] (by decide) rfl) ls (lv_sub hl [0, 2, 3, 4, 5, 6] rfl)
      · refine lv_aload_n hx hb d_Wh_divide_53 rfl (lv_at hl 1 rfl) ?_
        refine lv_aload_n hx hb d_Wh_divide_54 rfl (lv_at hl 2 rfl) ?_
        refine r_get C K S 6 rfl rfl clOk_Wh 0 (by decide) wf_Wh_9 (v := .ref do9) rfl d_Wh_divide_55 ?_
        refine lv_iconst (v := 0) hx hb d_Wh_divide_58 (by decide) ?_
        refine r_iald C K S 7 rfl (i := 0) (show vp_in (0) _ from vp_in_nI (n := 0) (by omega) (by omega)) (v := nI (go 0)) (by rw [show (0 : Int32).toNatClampNeg = 0 from by decide]) d_Wh_divide_59 ?_
        obtain e1 : no9 = 1 := by omega
        have hgo : go 0 = zo.natAbs := by rw [← v6, e1, show (1 : Nat) = 0 + 1 from rfl, vl_s]; simp [vl]
        have hg1 : go 0 ≠ 0 := by rw [hgo]; omega
        refine q_back0 (wi := [(h0, .inr (2, [.ref dd, .int (nI nn9), .int (sgI zz * sgI zo)])), (dd, .inl (k 0, LL, .inl (fun i => nI (gg i))))]) (wr := [(hq, .inr (2, [.ref dq, .int xq9, .int yq9])), (dq, .inl (k 0, Lq, .inl (fun i => nI (gq i)))), (hu, .inr (2, [.ref du, .int xu9, .int yu9])), (du, .inl (k 0, Lu, .inl (fun i => nI (gu i)))), (ho, .inr (2, [.ref do9, .int (nI no9), .int (sgI zo)])), (do9, .inl (k 0, Lo, .inl (fun i => nI (go i))))]) S hA [4, 5] [0, 1, 2, 3, 6, 7] rfl rfl (by decide) (by decide) (va_runV (As := [.int (nI (go 0))]) (rest := []) ⟨hx, hb, C.2.2.1, C.2.2.2.1, C.2.2.2.2.1⟩ (g_Wh_divideByDigit l G k h0 _ _ (go 0) dd LL nn9 gg zz (sgI zz * sgI zo) hw (by omega) (v4 0)) (k_virt (n := 1) C wc_Wh_divideByDigit rfl rfl wz_Wh wm_Wh_72 wn_Wh_divideByDigit ws_Wh_divideByDigit (by decide +kernel) ⟨(Nat.le_of_ble_eq_true rfl), (Nat.le_of_ble_eq_true rfl)⟩) (pr_nowVG K S [4, 5] (by decide) rfl 4 rfl rfl) rfl rfl hl.1 rfl (lv_room (Nat.le_of_ble_eq_true rfl)) d_Wh_divide_60 ⟨(Nat.zero_le _), (Nat.zero_le _)⟩) (fun Q8 H locs hw15 S => ?_)
        have S : Sw G A s.heap _ _ [(hq, .inr (2, [.ref dq, .int xq9, .int yq9])), (dq, .inl (k 0, Lq, .inl (fun i => nI (gq i)))), (hu, .inr (2, [.ref du, .int xu9, .int yu9])), (du, .inl (k 0, Lu, .inl (fun i => nI (gu i)))), (ho, .inr (2, [.ref do9, .int (nI no9), .int (sgI zo)])), (do9, .inl (k 0, Lo, .inl (fun i => nI (go i)))), (h0, .inr (2, [.ref dd, .int (nI nn9), .int (sgI zz * sgI zo)])), (dd, .inl (k 0, LL, .inl (fun i => nI (Q8 i))))] := S
        have hw15 : (∀ i, Q8 i < 2147483648) ∧ vl 2147483648 Q8 nn9 = zz.natAbs / (go 0) := hw15
        show W p l e _ s m _ below meth c H locs _ _ _ (F0 m 63 ls [])
        obtain ⟨k4, k5⟩ := hw15
        refine lv_goto (tgt := 163) hx hb d_Wh_divide_63 (by decide) ?_
        refine lv_aload_n hx hb d_Wh_divide_163 rfl (lv_at hl 1 rfl) ?_
        refine lv_iload hx hb d_Wh_divide_164 (lv_at hl 0 rfl) ?_
        refine lv_iconst (v := 1) hx hb d_Wh_divide_166 (by decide) ?_
        refine z_iadd (x := nI (nn9 - no9)) (y := 1) (v := nI ((nn9 - no9) + 1)) hx hb d_Wh_divide_167 (nI_add (nn9 - no9) 1) ?_
        refine q_back0 (wi := [(h0, .inr (2, [.ref dd, .int (nI nn9), .int (sgI zz * sgI zo)])), (dd, .inl (k 0, LL, .inl (fun i => nI (Q8 i))))]) (wr := [(hq, .inr (2, [.ref dq, .int xq9, .int yq9])), (dq, .inl (k 0, Lq, .inl (fun i => nI (gq i)))), (hu, .inr (2, [.ref du, .int xu9, .int yu9])), (du, .inl (k 0, Lu, .inl (fun i => nI (gu i)))), (ho, .inr (2, [.ref do9, .int (nI no9), .int (sgI zo)])), (do9, .inl (k 0, Lo, .inl (fun i => nI (go i))))]) S hA [6, 7] [0, 1, 2, 3, 4, 5] rfl rfl (by decide) (by decide) (va_runV (As := [.int (nI ((nn9 - no9) + 1))]) (rest := []) ⟨hx, hb, C.2.2.1, C.2.2.2.1, C.2.2.2.2.1⟩ (g_Wh_trim l G k h0 _ _ ((nn9 - no9) + 1) dd LL (nI nn9) (sgI zz * sgI zo) Q8 ⟨w2, w3, k4⟩ (by omega)) (k_virt (n := 1) C wc_Wh_trim rfl rfl wz_Wh wm_Wh_25 wn_Wh_trim ws_Wh_trim (by decide +kernel) ⟨(Nat.le_of_ble_eq_true rfl), (Nat.le_of_ble_eq_true rfl)⟩) (pr_nowVG K S [6, 7] (by decide) rfl 6 rfl rfl) rfl rfl hl.1 rfl (lv_room (Nat.le_of_ble_eq_true rfl)) d_Wh_divide_168 ⟨(Nat.zero_le _), (Nat.zero_le _)⟩) (fun n7 H locs hw16 S => ?_)
        have S : Sw G A s.heap _ _ [(hq, .inr (2, [.ref dq, .int xq9, .int yq9])), (dq, .inl (k 0, Lq, .inl (fun i => nI (gq i)))), (hu, .inr (2, [.ref du, .int xu9, .int yu9])), (du, .inl (k 0, Lu, .inl (fun i => nI (gu i)))), (ho, .inr (2, [.ref do9, .int (nI no9), .int (sgI zo)])), (do9, .inl (k 0, Lo, .inl (fun i => nI (go i)))), (h0, .inr (2, [.ref dd, .int (nI n7), .int (if n7 = 0 then 0 else (sgI zz * sgI zo))])), (dd, .inl (k 0, LL, .inl (fun i => nI (Q8 i))))] := S
        have hw16 : n7 ≤ ((nn9 - no9) + 1) ∧ (n7 = 0 ∨ Q8 (n7 - 1) ≠ 0) ∧ vl 2147483648 Q8 n7 = vl 2147483648 Q8 ((nn9 - no9) + 1) := hw16
        show W p l e _ s m _ below meth c H locs _ _ _ (F0 m 171 ls [])
        obtain ⟨t1, t2, t3⟩ := hw16
        have kw : whO LL n7 Q8 (zz.tdiv zo) := wh_of (a := zz.natAbs / zo.natAbs) (by omega) ⟨w2, w3, k4⟩ t2 (by rw [t3, show nn9 - no9 + 1 = nn9 by omega, k5, hgo]) (Int.natAbs_tdiv zz zo)
        have S : Sw G A s.heap H locs [(hq, .inr (2, [.ref dq, .int xq9, .int yq9])), (dq, .inl (k 0, Lq, .inl (fun i => nI (gq i)))), (hu, .inr (2, [.ref du, .int xu9, .int yu9])), (du, .inl (k 0, Lu, .inl (fun i => nI (gu i)))), (ho, .inr (2, [.ref do9, .int (nI no9), .int (sgI zo)])), (do9, .inl (k 0, Lo, .inl (fun i => nI (go i)))), (h0, .inr (2, [.ref dd, .int (nI n7), .int (sgI (zz.tdiv zo))])), (dd, .inl (k 0, LL, .inl (fun i => nI (Q8 i))))] := by rw [show sgI (zz.tdiv zo) = (if n7 = 0 then 0 else sgI zz * sgI zo) from by rw [← sg_div hle n1]; exact (sg_pick (whn_0 kw) (fun q => q) (fun _ => rfl)).symm]; exact S
        exact q_vret C K hsz (n7, Q8, (dq, Lq, gq), (du, Lu, gu)) (show whO LL n7 Q8 (zz.tdiv zo) ∧ raO Lq gq ∧ Lq ≤ Lq ∧ Lq ≤ Mx ∧ raO Lu gu ∧ Lu ≤ Lu ∧ Lu ≤ Mx from ⟨kw, hrq, Nat.le_refl _, hmq, hru, Nat.le_refl _, hmu⟩) (S.sub [6, 7, 4, 5, 0, 1, 2, 3] (by decide) rfl) d_Wh_divide_171 (Nat.zero_le _) (Nat.zero_le _) (Nat.zero_le _) (Nat.zero_le _)
    · refine lv_aload_n hx hb d_Wh_divide_15 rfl (lv_at hl 0 rfl) ?_
      refine lv_lconst (v := 0) hx hb d_Wh_divide_16 (by decide) ?_
      refine z_topl (y := lZ 0) (by decide) ?_
      refine q_back0 (wi := [(h0, .inr (2, [.ref dd, .int (nI nn9), .int (sgI zz)])), (dd, .inl (k 0, LL, .inl (fun i => nI (gg i))))]) (wr := [(hq, .inr (2, [.ref dq, .int xq9, .int yq9])), (dq, .inl (k 0, Lq, .inl (fun i => nI (gq i)))), (hu, .inr (2, [.ref du, .int xu9, .int yu9])), (du, .inl (k 0, Lu, .inl (fun i => nI (gu i)))), (ho, .inr (2, [.ref do9, .int (nI no9), .int (sgI zo)])), (do9, .inl (k 0, Lo, .inl (fun i => nI (go i))))]) S hA [4, 5] [0, 1, 2, 3, 6, 7] rfl rfl (by decide) (by decide) (va_runV (As := [.long (lZ 0)]) (rest := []) ⟨hx, hb, C.2.2.1, C.2.2.2.1, C.2.2.2.2.1⟩ (g_Wh_set l G k h0 _ _ 0 dd LL (nI nn9) (sgI zz) gg (wh_ra hw) (by decide) (by decide)) (k_virt (n := 1) C wc_Wh_set rfl rfl wz_Wh wm_Wh_68 wn_Wh_set ws_Wh_set (by decide +kernel) ⟨(Nat.le_of_ble_eq_true rfl), (Nat.le_of_ble_eq_true rfl)⟩) (pr_nowVG K S [4, 5] (by decide) rfl 4 rfl rfl) rfl rfl hl.1 rfl (lv_room (Nat.le_of_ble_eq_true rfl)) d_Wh_divide_17 ⟨(Nat.zero_le _), (Nat.zero_le _)⟩) (fun c8 H locs hw17 S => ?_)
      have S : Sw G A s.heap _ _ [(hq, .inr (2, [.ref dq, .int xq9, .int yq9])), (dq, .inl (k 0, Lq, .inl (fun i => nI (gq i)))), (hu, .inr (2, [.ref du, .int xu9, .int yu9])), (du, .inl (k 0, Lu, .inl (fun i => nI (gu i)))), (ho, .inr (2, [.ref do9, .int (nI no9), .int (sgI zo)])), (do9, .inl (k 0, Lo, .inl (fun i => nI (go i)))), (h0, .inr (2, [.ref dd, .int (nI c8.1), .int (sgI 0)])), (dd, .inl (k 0, LL, .inl (fun i => nI (c8.2 i))))] := S
      have hw17 : whO LL c8.1 c8.2 0 := hw17
      show W p l e _ s m _ below meth c H locs _ _ _ (F0 m 20 ls [])
      have k1 := hw17
      have e1 : zz.tdiv zo = 0 := tdiv_0 (Or.inr (by have := cp_nz.mp (Int32.not_le.mp hc5); exact this))
      have S : Sw G A s.heap H locs [(hq, .inr (2, [.ref dq, .int xq9, .int yq9])), (dq, .inl (k 0, Lq, .inl (fun i => nI (gq i)))), (hu, .inr (2, [.ref du, .int xu9, .int yu9])), (du, .inl (k 0, Lu, .inl (fun i => nI (gu i)))), (ho, .inr (2, [.ref do9, .int (nI no9), .int (sgI zo)])), (do9, .inl (k 0, Lo, .inl (fun i => nI (go i)))), (h0, .inr (2, [.ref dd, .int (nI c8.1), .int (sgI (zz.tdiv zo))])), (dd, .inl (k 0, LL, .inl (fun i => nI (c8.2 i))))] := by rw [e1]; exact S
      exact q_vret C K hsz (c8.1, c8.2, (dq, Lq, gq), (du, Lu, gu)) (show whO LL c8.1 c8.2 (zz.tdiv zo) ∧ raO Lq gq ∧ Lq ≤ Lq ∧ Lq ≤ Mx ∧ raO Lu gu ∧ Lu ≤ Lu ∧ Lu ≤ Mx from ⟨by rw [e1]; exact k1, hrq, Nat.le_refl _, hmq, hru, Nat.le_refl _, hmu⟩) (S.sub [6, 7, 4, 5, 0, 1, 2, 3] (by decide) rfl) d_Wh_divide_20 (Nat.zero_le _) (Nat.zero_le _) (Nat.zero_le _) (Nat.zero_le _)
