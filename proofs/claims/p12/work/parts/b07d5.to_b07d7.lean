section
theorem hO_up1 {st : Nat → Option wQ} {Z : Nat → Int} {i : Nat} {z : Int} (h : gO st (va_up Z i z) (va_up V0 i True)) (hb : bdO Z) (hz : z.natAbs < 2147483648 ^ 49) : hO st (va_up Z i z) := ⟨h.weak (fun j _ hv => ⟨by
  by_cases w : j = i
  · rw [w, va_up_self]; trivial
  · rw [va_up_ne _ _ w]; exact hv, rfl⟩) (fun _ _ => rfl), bd_up hb hz⟩
theorem pr_0 {n R row col : Nat} {Z : Nat → Int} (hR : R ≤ 91) (hC : n ≤ 40) : prO n R row col Z (va_up Z 3732 (Z (row * (n + 1) + col))) 0 0 := by
  refine ⟨fun i hi j hj => ?_, by rw [va_up_ne _ _ (by decide)], va_up_self _ _ _⟩
  have := ix_lt hi hj hR hC
  rw [va_up_ne _ _ (by omega), if_neg (by omega)]
theorem cz_0 {a b : Int} (h : czI a b = 0) : a = b := by
  unfold czI at h
  by_cases q : a < b
  · rw [if_pos q] at h; exact absurd h (by decide)
  · rw [if_neg q] at h
    by_cases w : a = b
    · exact w
    · rw [if_neg w] at h; exact absurd h (by decide)
theorem d_So_swapUnknowns_0 : decode c_So_swapUnknowns 0 = .ok (.aload_n 0, 1) := by decide +kernel
theorem d_So_swapUnknowns_1 : decode c_So_swapUnknowns 1 = .ok (.getfield 27, 3) := by decide +kernel
theorem d_So_swapUnknowns_4 : decode c_So_swapUnknowns 4 = .ok (.iload_n 2, 1) := by decide +kernel
theorem d_So_swapUnknowns_5 : decode c_So_swapUnknowns 5 = .ok (.iaload, 1) := by decide +kernel
theorem d_So_swapUnknowns_6 : decode c_So_swapUnknowns 6 = .ok (.istore_n 3, 1) := by decide +kernel
theorem d_So_swapUnknowns_7 : decode c_So_swapUnknowns 7 = .ok (.aload_n 0, 1) := by decide +kernel
theorem d_So_swapUnknowns_8 : decode c_So_swapUnknowns 8 = .ok (.getfield 24, 3) := by decide +kernel
theorem d_So_swapUnknowns_11 : decode c_So_swapUnknowns 11 = .ok (.iload_n 1, 1) := by decide +kernel
theorem d_So_swapUnknowns_12 : decode c_So_swapUnknowns 12 = .ok (.iaload, 1) := by decide +kernel
theorem d_So_swapUnknowns_13 : decode c_So_swapUnknowns 13 = .ok (.istore 4, 2) := by decide +kernel
theorem d_So_swapUnknowns_15 : decode c_So_swapUnknowns 15 = .ok (.aload_n 0, 1) := by decide +kernel
theorem d_So_swapUnknowns_16 : decode c_So_swapUnknowns 16 = .ok (.getfield 24, 3) := by decide +kernel
theorem d_So_swapUnknowns_19 : decode c_So_swapUnknowns 19 = .ok (.iload_n 1, 1) := by decide +kernel
theorem d_So_swapUnknowns_20 : decode c_So_swapUnknowns 20 = .ok (.iload_n 3, 1) := by decide +kernel
theorem d_So_swapUnknowns_21 : decode c_So_swapUnknowns 21 = .ok (.iastore, 1) := by decide +kernel
theorem d_So_swapUnknowns_22 : decode c_So_swapUnknowns 22 = .ok (.aload_n 0, 1) := by decide +kernel
theorem d_So_swapUnknowns_23 : decode c_So_swapUnknowns 23 = .ok (.getfield 27, 3) := by decide +kernel
theorem d_So_swapUnknowns_26 : decode c_So_swapUnknowns 26 = .ok (.iload_n 2, 1) := by decide +kernel
theorem d_So_swapUnknowns_27 : decode c_So_swapUnknowns 27 = .ok (.iload 4, 2) := by decide +kernel
theorem d_So_swapUnknowns_29 : decode c_So_swapUnknowns 29 = .ok (.iastore, 1) := by decide +kernel
theorem d_So_swapUnknowns_30 : decode c_So_swapUnknowns 30 = .ok (.iload_n 3, 1) := by decide +kernel
theorem d_So_swapUnknowns_31 : decode c_So_swapUnknowns 31 = .ok (.bipush (-2), 2) := by decide +kernel
theorem d_So_swapUnknowns_33 : decode c_So_swapUnknowns 33 = .ok (.if_icmp .eq 10, 3) := by decide +kernel
theorem d_So_swapUnknowns_36 : decode c_So_swapUnknowns 36 = .ok (.aload_n 0, 1) := by decide +kernel
theorem d_So_swapUnknowns_37 : decode c_So_swapUnknowns 37 = .ok (.getfield 17, 3) := by decide +kernel
theorem d_So_swapUnknowns_40 : decode c_So_swapUnknowns 40 = .ok (.iload_n 3, 1) := by decide +kernel
theorem d_So_swapUnknowns_41 : decode c_So_swapUnknowns 41 = .ok (.iload_n 1, 1) := by decide +kernel
theorem d_So_swapUnknowns_42 : decode c_So_swapUnknowns 42 = .ok (.iastore, 1) := by decide +kernel
theorem d_So_swapUnknowns_43 : decode c_So_swapUnknowns 43 = .ok (.iload 4, 2) := by decide +kernel
theorem d_So_swapUnknowns_45 : decode c_So_swapUnknowns 45 = .ok (.bipush (-2), 2) := by decide +kernel
theorem d_So_swapUnknowns_47 : decode c_So_swapUnknowns 47 = .ok (.if_icmp .eq 20, 3) := by decide +kernel
theorem d_So_swapUnknowns_50 : decode c_So_swapUnknowns 50 = .ok (.aload_n 0, 1) := by decide +kernel
theorem d_So_swapUnknowns_51 : decode c_So_swapUnknowns 51 = .ok (.getfield 17, 3) := by decide +kernel
theorem d_So_swapUnknowns_54 : decode c_So_swapUnknowns 54 = .ok (.iload 4, 2) := by decide +kernel
theorem d_So_swapUnknowns_56 : decode c_So_swapUnknowns 56 = .ok (.bipush (-2), 2) := by decide +kernel
theorem d_So_swapUnknowns_58 : decode c_So_swapUnknowns 58 = .ok (.iastore, 1) := by decide +kernel
theorem d_So_swapUnknowns_59 : decode c_So_swapUnknowns 59 = .ok (.aload_n 0, 1) := by decide +kernel
theorem d_So_swapUnknowns_60 : decode c_So_swapUnknowns 60 = .ok (.getfield 21, 3) := by decide +kernel
theorem d_So_swapUnknowns_63 : decode c_So_swapUnknowns 63 = .ok (.iload 4, 2) := by decide +kernel
theorem d_So_swapUnknowns_65 : decode c_So_swapUnknowns 65 = .ok (.iload_n 2, 1) := by decide +kernel
theorem d_So_swapUnknowns_66 : decode c_So_swapUnknowns 66 = .ok (.iastore, 1) := by decide +kernel
theorem d_So_swapUnknowns_67 : decode c_So_swapUnknowns 67 = .ok (.return_, 1) := by decide +kernel
set_option maxRecDepth 100000 in
set_option maxHeartbeats 16000000 in
/-- swapUnknowns -/
theorem g_So_swapUnknowns (l : Launch) (G : va_G) (k : Nat → ClassId) (h0 : Nat) (s0 sl : Nat) (qr : Nat) (qc : Nat) (cea : Nat) (roa : Nat) (coa : Nat) (ura : Nat) (uca : Nat) (au : Nat) (ap : Nat) (al : Nat) (ar : Nat) (ae : Nat) (rw9 : Nat) (C9 : Nat) (fs9 : Nat) (tk9 : Nat) (ro : Nat → Int32) (co : Nat → Int32) (ur : Nat → Int32) (uc : Nat → Int32) (hC : C9 ≤ 40) (hRw : rw9 ≤ 91) (hso : soO C9 rw9 ro ur uc) (hqr : qr < rw9) (hqc : qc < C9) : CG l y_So_swapUnknowns c_So_swapUnknowns 5 none { frames := 0, cells := 0, slots := 0, locals := 0 } [.ref h0, .int (nI qr), .int (nI qc)] G k s0 sl [(h0, .inr (1, [.ref cea, .ref roa, .ref coa, .ref ura, .ref uca, .ref au, .ref ap, .ref al, .ref ar, .ref ae, .int (nI rw9), .int (nI C9), .int (nI fs9), .int (nI tk9)])), (roa, .inl (k 0, 40, .inl ro)), (coa, .inl (k 0, 40, .inl co)), (ura, .inl (k 0, 91, .inl ur)), (uca, .inl (k 0, 40, .inl uc))] (fun (u : (Nat → Int32) × (Nat → Int32) × (Nat → Int32) × (Nat → Int32)) => none) (fun (u : (Nat → Int32) × (Nat → Int32) × (Nat → Int32) × (Nat → Int32)) => soO C9 rw9 u.1 u.2.2.1 u.2.2.2) (fun (u : (Nat → Int32) × (Nat → Int32) × (Nat → Int32) × (Nat → Int32)) => [(h0, .inr (1, [.ref cea, .ref roa, .ref coa, .ref ura, .ref uca, .ref au, .ref ap, .ref al, .ref ar, .ref ae, .int (nI rw9), .int (nI C9), .int (nI fs9), .int (nI tk9)])), (roa, .inl (k 0, 40, .inl u.1)), (coa, .inl (k 0, 40, .inl u.2.1)), (ura, .inl (k 0, 91, .inl u.2.2.1)), (uca, .inl (k 0, 40, .inl u.2.2.2))]) (fun (u : (Nat → Int32) × (Nat → Int32) × (Nat → Int32) × (Nat → Int32)) => 0) (fun (u : (Nat → Int32) × (Nat → Int32) × (Nat → Int32) × (Nat → Int32)) => 0) 0 0 := by
  refine met_startG (by decide) (Nat.le_of_ble_eq_true rfl) ?_
  intro p e s m below meth c C K hA hsz S ls hl
  generalize va_A [(h0, .inr (1, [.ref cea, .ref roa, .ref coa, .ref ura, .ref uca, .ref au, .ref ap, .ref al, .ref ar, .ref ae, .int (nI rw9), .int (nI C9), .int (nI fs9), .int (nI tk9)])), (roa, .inl (k 0, 40, .inl ro)), (coa, .inl (k 0, 40, .inl co)), (ura, .inl (k 0, 91, .inl ur)), (uca, .inl (k 0, 40, .inl uc))] s0 = A at hA S ⊢
  have hx := C.1
  have hb := C.2.1
  have hl : lv_has ls 5 [(0, .ref h0), (1, .int (nI qr)), (2, .int (nI qc))] := hl
  obtain ⟨so1, so2, so3⟩ := hso
  rcases so3 qc hqc with ea | ⟨va, la, ea⟩
  · rcases so2 qr hqr with eb | ⟨vb, lb, eb⟩
    · refine lv_aload_n hx hb d_So_swapUnknowns_0 rfl (lv_at hl 0 rfl) ?_
      refine r_get C K S 0 rfl rfl clOk_So 4 (by decide) wf_So_27 (v := .ref uca) rfl d_So_swapUnknowns_1 ?_
      refine lv_iload_n hx hb d_So_swapUnknowns_4 rfl (lv_at hl 2 rfl) ?_
      refine r_iald C K S 4 rfl (i := nI qc) (show vp_in (nI qc) _ from vp_in_nI (n := qc) (by omega) (by decide)) (v := uc qc) (by rw [nI_clamp (by omega)]) d_So_swapUnknowns_5 ?_
      refine z_topi (y := (-2)) ea ?_
      refine lv_istore_n (lv' := [(3, .int (-2)), (0, .ref h0), (1, .int (nI qr)), (2, .int (nI qc))]) hx hb d_So_swapUnknowns_6 rfl hl (by decide) rfl (fun ls hl => ?_)
      refine lv_aload_n hx hb d_So_swapUnknowns_7 rfl (lv_at hl 1 rfl) ?_
      refine r_get C K S 0 rfl rfl clOk_So 3 (by decide) wf_So_24 (v := .ref ura) rfl d_So_swapUnknowns_8 ?_
      refine lv_iload_n hx hb d_So_swapUnknowns_11 rfl (lv_at hl 2 rfl) ?_
      refine r_iald C K S 3 rfl (i := nI qr) (show vp_in (nI qr) _ from vp_in_nI (n := qr) (by omega) (by decide)) (v := ur qr) (by rw [nI_clamp (by omega)]) d_So_swapUnknowns_12 ?_
      refine z_topi (y := (-2)) eb ?_
      refine lv_istore (lv' := [(4, .int (-2)), (3, .int (-2)), (0, .ref h0), (1, .int (nI qr)), (2, .int (nI qc))]) hx hb d_So_swapUnknowns_13 hl (by decide) rfl (fun ls hl => ?_)
      refine lv_aload_n hx hb d_So_swapUnknowns_15 rfl (lv_at hl 2 rfl) ?_
      refine r_get C K S 0 rfl rfl clOk_So 3 (by decide) wf_So_24 (v := .ref ura) rfl d_So_swapUnknowns_16 ?_
      refine lv_iload_n hx hb d_So_swapUnknowns_19 rfl (lv_at hl 3 rfl) ?_
      refine lv_iload_n hx hb d_So_swapUnknowns_20 rfl (lv_at hl 1 rfl) ?_
      refine r_iast C K S 3 rfl (i := nI qr) (x := (-2)) (show vp_in (nI qr) _ from vp_in_nI (n := qr) (by omega) (by decide)) (f' := va_up ur qr (-2)) (ws' := [(h0, .inr (1, [.ref cea, .ref roa, .ref coa, .ref ura, .ref uca, .ref au, .ref ap, .ref al, .ref ar, .ref ae, .int (nI rw9), .int (nI C9), .int (nI fs9), .int (nI tk9)])), (roa, .inl (k 0, 40, .inl ro)), (coa, .inl (k 0, 40, .inl co)), (ura, .inl (k 0, 91, .inl (va_up ur qr (-2)))), (uca, .inl (k 0, 40, .inl uc))]) (show upd _ (nI qr : Int32).toNatClampNeg (-2) = _ from upd_W ur (j := qr) (by omega) (-2)) rfl d_So_swapUnknowns_21 (fun H locs S => ?_)
      refine lv_aload_n hx hb d_So_swapUnknowns_22 rfl (lv_at hl 2 rfl) ?_
      refine r_get C K S 0 rfl rfl clOk_So 4 (by decide) wf_So_27 (v := .ref uca) rfl d_So_swapUnknowns_23 ?_
      refine lv_iload_n hx hb d_So_swapUnknowns_26 rfl (lv_at hl 4 rfl) ?_
      refine lv_iload hx hb d_So_swapUnknowns_27 (lv_at hl 0 rfl) ?_
      refine r_iast C K S 4 rfl (i := nI qc) (x := (-2)) (show vp_in (nI qc) _ from vp_in_nI (n := qc) (by omega) (by decide)) (f' := va_up uc qc (-2)) (ws' := [(h0, .inr (1, [.ref cea, .ref roa, .ref coa, .ref ura, .ref uca, .ref au, .ref ap, .ref al, .ref ar, .ref ae, .int (nI rw9), .int (nI C9), .int (nI fs9), .int (nI tk9)])), (roa, .inl (k 0, 40, .inl ro)), (coa, .inl (k 0, 40, .inl co)), (ura, .inl (k 0, 91, .inl (va_up ur qr (-2)))), (uca, .inl (k 0, 40, .inl (va_up uc qc (-2))))]) (show upd _ (nI qc : Int32).toNatClampNeg (-2) = _ from upd_W uc (j := qc) (by omega) (-2)) rfl d_So_swapUnknowns_29 (fun H locs S => ?_)
      refine lv_iload_n hx hb d_So_swapUnknowns_30 rfl (lv_at hl 1 rfl) ?_
      refine lv_bipush (v := (-2)) hx hb d_So_swapUnknowns_31 (by decide) ?_
      refine lv_icmp_eq (tgt := 43) hx hb d_So_swapUnknowns_33 (by decide) (fun _ => ?_) (fun hq => absurd (by decide) hq)
      refine lv_iload hx hb d_So_swapUnknowns_43 (lv_at hl 0 rfl) ?_
      refine lv_bipush (v := (-2)) hx hb d_So_swapUnknowns_45 (by decide) ?_
      refine lv_icmp_eq (tgt := 67) hx hb d_So_swapUnknowns_47 (by decide) (fun _ => ?_) (fun hq => absurd (by decide) hq)
      refine q_vret C K hsz (ro, co, (va_up ur qr (-2)), (va_up uc qc (-2))) ⟨?_, ?_, ?_⟩ (S.sub [0, 1, 2, 3, 4] (by decide) rfl) d_So_swapUnknowns_67 (Nat.zero_le _) (Nat.zero_le _) (Nat.zero_le _) (Nat.zero_le _)
      · intro v hv
        show ro v = -2 ∨ ∃ r, r < rw9 ∧ ro v = nI r
        exact so1 v hv
      · intro v hv
        show (va_up ur qr (-2)) v = -2 ∨ ∃ r, r < C9 ∧ (va_up ur qr (-2)) v = nI r
        by_cases w9 : v = qr
        · rw [w9, va_up_self]; exact Or.inl rfl
        rw [va_up_ne _ _ w9]
        exact so2 v hv
      · intro v hv
        show (va_up uc qc (-2)) v = -2 ∨ ∃ r, r < C9 ∧ (va_up uc qc (-2)) v = nI r
        by_cases w9 : v = qc
        · rw [w9, va_up_self]; exact Or.inl rfl
        rw [va_up_ne _ _ w9]
        exact so3 v hv
    · refine lv_aload_n hx hb d_So_swapUnknowns_0 rfl (lv_at hl 0 rfl) ?_
      refine r_get C K S 0 rfl rfl clOk_So 4 (by decide) wf_So_27 (v := .ref uca) rfl d_So_swapUnknowns_1 ?_
      refine lv_iload_n hx hb d_So_swapUnknowns_4 rfl (lv_at hl 2 rfl) ?_
      refine r_iald C K S 4 rfl (i := nI qc) (show vp_in (nI qc) _ from vp_in_nI (n := qc) (by omega) (by decide)) (v := uc qc) (by rw [nI_clamp (by omega)]) d_So_swapUnknowns_5 ?_
      refine z_topi (y := (-2)) ea ?_
      refine lv_istore_n (lv' := [(3, .int (-2)), (0, .ref h0), (1, .int (nI qr)), (2, .int (nI qc))]) hx hb d_So_swapUnknowns_6 rfl hl (by decide) rfl (fun ls hl => ?_)
      refine lv_aload_n hx hb d_So_swapUnknowns_7 rfl (lv_at hl 1 rfl) ?_
      refine r_get C K S 0 rfl rfl clOk_So 3 (by decide) wf_So_24 (v := .ref ura) rfl d_So_swapUnknowns_8 ?_
      refine lv_iload_n hx hb d_So_swapUnknowns_11 rfl (lv_at hl 2 rfl) ?_
      refine r_iald C K S 3 rfl (i := nI qr) (show vp_in (nI qr) _ from vp_in_nI (n := qr) (by omega) (by decide)) (v := ur qr) (by rw [nI_clamp (by omega)]) d_So_swapUnknowns_12 ?_
      refine z_topi (y := nI vb) eb ?_
      refine lv_istore (lv' := [(4, .int (nI vb)), (3, .int (-2)), (0, .ref h0), (1, .int (nI qr)), (2, .int (nI qc))]) hx hb d_So_swapUnknowns_13 hl (by decide) rfl (fun ls hl => ?_)
      refine lv_aload_n hx hb d_So_swapUnknowns_15 rfl (lv_at hl 2 rfl) ?_
      refine r_get C K S 0 rfl rfl clOk_So 3 (by decide) wf_So_24 (v := .ref ura) rfl d_So_swapUnknowns_16 ?_
      refine lv_iload_n hx hb d_So_swapUnknowns_19 rfl (lv_at hl 3 rfl) ?_
      refine lv_iload_n hx hb d_So_swapUnknowns_20 rfl (lv_at hl 1 rfl) ?_
      refine r_iast C K S 3 rfl (i := nI qr) (x := (-2)) (show vp_in (nI qr) _ from vp_in_nI (n := qr) (by omega) (by decide)) (f' := va_up ur qr (-2)) (ws' := [(h0, .inr (1, [.ref cea, .ref roa, .ref coa, .ref ura, .ref uca, .ref au, .ref ap, .ref al, .ref ar, .ref ae, .int (nI rw9), .int (nI C9), .int (nI fs9), .int (nI tk9)])), (roa, .inl (k 0, 40, .inl ro)), (coa, .inl (k 0, 40, .inl co)), (ura, .inl (k 0, 91, .inl (va_up ur qr (-2)))), (uca, .inl (k 0, 40, .inl uc))]) (show upd _ (nI qr : Int32).toNatClampNeg (-2) = _ from upd_W ur (j := qr) (by omega) (-2)) rfl d_So_swapUnknowns_21 (fun H locs S => ?_)
      refine lv_aload_n hx hb d_So_swapUnknowns_22 rfl (lv_at hl 2 rfl) ?_
      refine r_get C K S 0 rfl rfl clOk_So 4 (by decide) wf_So_27 (v := .ref uca) rfl d_So_swapUnknowns_23 ?_
      refine lv_iload_n hx hb d_So_swapUnknowns_26 rfl (lv_at hl 4 rfl) ?_
      refine lv_iload hx hb d_So_swapUnknowns_27 (lv_at hl 0 rfl) ?_
      refine r_iast C K S 4 rfl (i := nI qc) (x := nI vb) (show vp_in (nI qc) _ from vp_in_nI (n := qc) (by omega) (by decide)) (f' := va_up uc qc (nI vb)) (ws' := [(h0, .inr (1, [.ref cea, .ref roa, .ref coa, .ref ura, .ref uca, .ref au, .ref ap, .ref al, .ref ar, .ref ae, .int (nI rw9), .int (nI C9), .int (nI fs9), .int (nI tk9)])), (roa, .inl (k 0, 40, .inl ro)), (coa, .inl (k 0, 40, .inl co)), (ura, .inl (k 0, 91, .inl (va_up ur qr (-2)))), (uca, .inl (k 0, 40, .inl (va_up uc qc (nI vb))))]) (show upd _ (nI qc : Int32).toNatClampNeg (nI vb) = _ from upd_W uc (j := qc) (by omega) (nI vb)) rfl d_So_swapUnknowns_29 (fun H locs S => ?_)
      refine lv_iload_n hx hb d_So_swapUnknowns_30 rfl (lv_at hl 1 rfl) ?_
      refine lv_bipush (v := (-2)) hx hb d_So_swapUnknowns_31 (by decide) ?_
      refine lv_icmp_eq (tgt := 43) hx hb d_So_swapUnknowns_33 (by decide) (fun _ => ?_) (fun hq => absurd (by decide) hq)
      refine lv_iload hx hb d_So_swapUnknowns_43 (lv_at hl 0 rfl) ?_
      refine lv_bipush (v := (-2)) hx hb d_So_swapUnknowns_45 (by decide) ?_
      refine lv_icmp_eq (tgt := 67) hx hb d_So_swapUnknowns_47 (by decide) (fun hq => absurd hq (nI_ne2 (by omega))) (fun _ => ?_)
      refine lv_aload_n hx hb d_So_swapUnknowns_50 rfl (lv_at hl 2 rfl) ?_
      refine r_get C K S 0 rfl rfl clOk_So 1 (by decide) wf_So_17 (v := .ref roa) rfl d_So_swapUnknowns_51 ?_
      refine lv_iload hx hb d_So_swapUnknowns_54 (lv_at hl 0 rfl) ?_
      refine lv_bipush (v := (-2)) hx hb d_So_swapUnknowns_56 (by decide) ?_
      refine r_iast C K S 1 rfl (i := nI vb) (x := (-2)) (show vp_in (nI vb) _ from vp_in_nI (n := vb) (by omega) (by decide)) (f' := va_up ro vb (-2)) (ws' := [(h0, .inr (1, [.ref cea, .ref roa, .ref coa, .ref ura, .ref uca, .ref au, .ref ap, .ref al, .ref ar, .ref ae, .int (nI rw9), .int (nI C9), .int (nI fs9), .int (nI tk9)])), (roa, .inl (k 0, 40, .inl (va_up ro vb (-2)))), (coa, .inl (k 0, 40, .inl co)), (ura, .inl (k 0, 91, .inl (va_up ur qr (-2)))), (uca, .inl (k 0, 40, .inl (va_up uc qc (nI vb))))]) (show upd _ (nI vb : Int32).toNatClampNeg (-2) = _ from upd_W ro (j := vb) (by omega) (-2)) rfl d_So_swapUnknowns_58 (fun H locs S => ?_)
      refine lv_aload_n hx hb d_So_swapUnknowns_59 rfl (lv_at hl 2 rfl) ?_
      refine r_get C K S 0 rfl rfl clOk_So 2 (by decide) wf_So_21 (v := .ref coa) rfl d_So_swapUnknowns_60 ?_
      refine lv_iload hx hb d_So_swapUnknowns_63 (lv_at hl 0 rfl) ?_
      refine lv_iload_n hx hb d_So_swapUnknowns_65 rfl (lv_at hl 4 rfl) ?_
      refine r_iast C K S 2 rfl (i := nI vb) (x := nI qc) (show vp_in (nI vb) _ from vp_in_nI (n := vb) (by omega) (by decide)) (f' := va_up co vb (nI qc)) (ws' := [(h0, .inr (1, [.ref cea, .ref roa, .ref coa, .ref ura, .ref uca, .ref au, .ref ap, .ref al, .ref ar, .ref ae, .int (nI rw9), .int (nI C9), .int (nI fs9), .int (nI tk9)])), (roa, .inl (k 0, 40, .inl (va_up ro vb (-2)))), (coa, .inl (k 0, 40, .inl (va_up co vb (nI qc)))), (ura, .inl (k 0, 91, .inl (va_up ur qr (-2)))), (uca, .inl (k 0, 40, .inl (va_up uc qc (nI vb))))]) (show upd _ (nI vb : Int32).toNatClampNeg (nI qc) = _ from upd_W co (j := vb) (by omega) (nI qc)) rfl d_So_swapUnknowns_66 (fun H locs S => ?_)
      refine q_vret C K hsz ((va_up ro vb (-2)), (va_up co vb (nI qc)), (va_up ur qr (-2)), (va_up uc qc (nI vb))) ⟨?_, ?_, ?_⟩ (S.sub [0, 1, 2, 3, 4] (by decide) rfl) d_So_swapUnknowns_67 (Nat.zero_le _) (Nat.zero_le _) (Nat.zero_le _) (Nat.zero_le _)
      · intro v hv
        show (va_up ro vb (-2)) v = -2 ∨ ∃ r, r < rw9 ∧ (va_up ro vb (-2)) v = nI r
        by_cases wvb : v = vb
        · rw [wvb, va_up_self]; exact Or.inl rfl
        rw [va_up_ne _ _ wvb]
        exact so1 v hv
      · intro v hv
        show (va_up ur qr (-2)) v = -2 ∨ ∃ r, r < C9 ∧ (va_up ur qr (-2)) v = nI r
        by_cases w9 : v = qr
        · rw [w9, va_up_self]; exact Or.inl rfl
        rw [va_up_ne _ _ w9]
        exact so2 v hv
      · intro v hv
        show (va_up uc qc (nI vb)) v = -2 ∨ ∃ r, r < C9 ∧ (va_up uc qc (nI vb)) v = nI r
        by_cases w9 : v = qc
        · rw [w9, va_up_self]; exact Or.inr ⟨_, lb, rfl⟩
        rw [va_up_ne _ _ w9]
        exact so3 v hv
  · rcases so2 qr hqr with eb | ⟨vb, lb, eb⟩
    · refine lv_aload_n hx hb d_So_swapUnknowns_0 rfl (lv_at hl 0 rfl) ?_
      refine r_get C K S 0 rfl rfl clOk_So 4 (by decide) wf_So_27 (v := .ref uca) rfl d_So_swapUnknowns_1 ?_
      refine lv_iload_n hx hb d_So_swapUnknowns_4 rfl (lv_at hl 2 rfl) ?_
      refine r_iald C K S 4 rfl (i := nI qc) (show vp_in (nI qc) _ from vp_in_nI (n := qc) (by omega) (by decide)) (v := uc qc) (by rw [nI_clamp (by omega)]) d_So_swapUnknowns_5 ?_
      refine z_topi (y := nI va) ea ?_
      refine lv_istore_n (lv' := [(3, .int (nI va)), (0, .ref h0), (1, .int (nI qr)), (2, .int (nI qc))]) hx hb d_So_swapUnknowns_6 rfl hl (by decide) rfl (fun ls hl => ?_)
      refine lv_aload_n hx hb d_So_swapUnknowns_7 rfl (lv_at hl 1 rfl) ?_
      refine r_get C K S 0 rfl rfl clOk_So 3 (by decide) wf_So_24 (v := .ref ura) rfl d_So_swapUnknowns_8 ?_
      refine lv_iload_n hx hb d_So_swapUnknowns_11 rfl (lv_at hl 2 rfl) ?_
      refine r_iald C K S 3 rfl (i := nI qr) (show vp_in (nI qr) _ from vp_in_nI (n := qr) (by omega) (by decide)) (v := ur qr) (by rw [nI_clamp (by omega)]) d_So_swapUnknowns_12 ?_
      refine z_topi (y := (-2)) eb ?_
      refine lv_istore (lv' := [(4, .int (-2)), (3, .int (nI va)), (0, .ref h0), (1, .int (nI qr)), (2, .int (nI qc))]) hx hb d_So_swapUnknowns_13 hl (by decide) rfl (fun ls hl => ?_)
      refine lv_aload_n hx hb d_So_swapUnknowns_15 rfl (lv_at hl 2 rfl) ?_
      refine r_get C K S 0 rfl rfl clOk_So 3 (by decide) wf_So_24 (v := .ref ura) rfl d_So_swapUnknowns_16 ?_
      refine lv_iload_n hx hb d_So_swapUnknowns_19 rfl (lv_at hl 3 rfl) ?_
      refine lv_iload_n hx hb d_So_swapUnknowns_20 rfl (lv_at hl 1 rfl) ?_
      refine r_iast C K S 3 rfl (i := nI qr) (x := nI va) (show vp_in (nI qr) _ from vp_in_nI (n := qr) (by omega) (by decide)) (f' := va_up ur qr (nI va)) (ws' := [(h0, .inr (1, [.ref cea, .ref roa, .ref coa, .ref ura, .ref uca, .ref au, .ref ap, .ref al, .ref ar, .ref ae, .int (nI rw9), .int (nI C9), .int (nI fs9), .int (nI tk9)])), (roa, .inl (k 0, 40, .inl ro)), (coa, .inl (k 0, 40, .inl co)), (ura, .inl (k 0, 91, .inl (va_up ur qr (nI va)))), (uca, .inl (k 0, 40, .inl uc))]) (show upd _ (nI qr : Int32).toNatClampNeg (nI va) = _ from upd_W ur (j := qr) (by omega) (nI va)) rfl d_So_swapUnknowns_21 (fun H locs S => ?_)
      refine lv_aload_n hx hb d_So_swapUnknowns_22 rfl (lv_at hl 2 rfl) ?_
      refine r_get C K S 0 rfl rfl clOk_So 4 (by decide) wf_So_27 (v := .ref uca) rfl d_So_swapUnknowns_23 ?_
      refine lv_iload_n hx hb d_So_swapUnknowns_26 rfl (lv_at hl 4 rfl) ?_
      refine lv_iload hx hb d_So_swapUnknowns_27 (lv_at hl 0 rfl) ?_
      refine r_iast C K S 4 rfl (i := nI qc) (x := (-2)) (show vp_in (nI qc) _ from vp_in_nI (n := qc) (by omega) (by decide)) (f' := va_up uc qc (-2)) (ws' := [(h0, .inr (1, [.ref cea, .ref roa, .ref coa, .ref ura, .ref uca, .ref au, .ref ap, .ref al, .ref ar, .ref ae, .int (nI rw9), .int (nI C9), .int (nI fs9), .int (nI tk9)])), (roa, .inl (k 0, 40, .inl ro)), (coa, .inl (k 0, 40, .inl co)), (ura, .inl (k 0, 91, .inl (va_up ur qr (nI va)))), (uca, .inl (k 0, 40, .inl (va_up uc qc (-2))))]) (show upd _ (nI qc : Int32).toNatClampNeg (-2) = _ from upd_W uc (j := qc) (by omega) (-2)) rfl d_So_swapUnknowns_29 (fun H locs S => ?_)
      refine lv_iload_n hx hb d_So_swapUnknowns_30 rfl (lv_at hl 1 rfl) ?_
      refine lv_bipush (v := (-2)) hx hb d_So_swapUnknowns_31 (by decide) ?_
      refine lv_icmp_eq (tgt := 43) hx hb d_So_swapUnknowns_33 (by decide) (fun hq => absurd hq (nI_ne2 (by omega))) (fun _ => ?_)
      refine lv_aload_n hx hb d_So_swapUnknowns_36 rfl (lv_at hl 2 rfl) ?_
      refine r_get C K S 0 rfl rfl clOk_So 1 (by decide) wf_So_17 (v := .ref roa) rfl d_So_swapUnknowns_37 ?_
      refine lv_iload_n hx hb d_So_swapUnknowns_40 rfl (lv_at hl 1 rfl) ?_
      refine lv_iload_n hx hb d_So_swapUnknowns_41 rfl (lv_at hl 3 rfl) ?_
      refine r_iast C K S 1 rfl (i := nI va) (x := nI qr) (show vp_in (nI va) _ from vp_in_nI (n := va) (by omega) (by decide)) (f' := va_up ro va (nI qr)) (ws' := [(h0, .inr (1, [.ref cea, .ref roa, .ref coa, .ref ura, .ref uca, .ref au, .ref ap, .ref al, .ref ar, .ref ae, .int (nI rw9), .int (nI C9), .int (nI fs9), .int (nI tk9)])), (roa, .inl (k 0, 40, .inl (va_up ro va (nI qr)))), (coa, .inl (k 0, 40, .inl co)), (ura, .inl (k 0, 91, .inl (va_up ur qr (nI va)))), (uca, .inl (k 0, 40, .inl (va_up uc qc (-2))))]) (show upd _ (nI va : Int32).toNatClampNeg (nI qr) = _ from upd_W ro (j := va) (by omega) (nI qr)) rfl d_So_swapUnknowns_42 (fun H locs S => ?_)
      refine lv_iload hx hb d_So_swapUnknowns_43 (lv_at hl 0 rfl) ?_
      refine lv_bipush (v := (-2)) hx hb d_So_swapUnknowns_45 (by decide) ?_
      refine lv_icmp_eq (tgt := 67) hx hb d_So_swapUnknowns_47 (by decide) (fun _ => ?_) (fun hq => absurd (by decide) hq)
      refine q_vret C K hsz ((va_up ro va (nI qr)), co, (va_up ur qr (nI va)), (va_up uc qc (-2))) ⟨?_, ?_, ?_⟩ (S.sub [0, 1, 2, 3, 4] (by decide) rfl) d_So_swapUnknowns_67 (Nat.zero_le _) (Nat.zero_le _) (Nat.zero_le _) (Nat.zero_le _)
      · intro v hv
        show (va_up ro va (nI qr)) v = -2 ∨ ∃ r, r < rw9 ∧ (va_up ro va (nI qr)) v = nI r
        by_cases wva : v = va
        · rw [wva, va_up_self]; exact Or.inr ⟨qr, hqr, rfl⟩
        rw [va_up_ne _ _ wva]
        exact so1 v hv
      · intro v hv
        show (va_up ur qr (nI va)) v = -2 ∨ ∃ r, r < C9 ∧ (va_up ur qr (nI va)) v = nI r
        by_cases w9 : v = qr
        · rw [w9, va_up_self]; exact Or.inr ⟨_, la, rfl⟩
        rw [va_up_ne _ _ w9]
        exact so2 v hv
      · intro v hv
        show (va_up uc qc (-2)) v = -2 ∨ ∃ r, r < C9 ∧ (va_up uc qc (-2)) v = nI r
        by_cases w9 : v = qc
        · rw [w9, va_up_self]; exact Or.inl rfl
        rw [va_up_ne _ _ w9]
        exact so3 v hv
    · refine lv_aload_n hx hb d_So_swapUnknowns_0 rfl (lv_at hl 0 rfl) ?_
      refine r_get C K S 0 rfl rfl clOk_So 4 (by decide) wf_So_27 (v := .ref uca) rfl d_So_swapUnknowns_1 ?_
      refine lv_iload_n hx hb d_So_swapUnknowns_4 rfl (lv_at hl 2 rfl) ?_
      refine r_iald C K S 4 rfl (i := nI qc) (show vp_in (nI qc) _ from vp_in_nI (n := qc) (by omega) (by decide)) (v := uc qc) (by rw [nI_clamp (by omega)]) d_So_swapUnknowns_5 ?_
      refine z_topi (y := nI va) ea ?_
      refine lv_istore_n (lv' := [(3, .int (nI va)), (0, .ref h0), (1, .int (nI qr)), (2, .int (nI qc))]) hx hb d_So_swapUnknowns_6 rfl hl (by decide) rfl (fun ls hl => ?_)
      refine lv_aload_n hx hb d_So_swapUnknowns_7 rfl (lv_at hl 1 rfl) ?_
      refine r_get C K S 0 rfl rfl clOk_So 3 (by decide) wf_So_24 (v := .ref ura) rfl d_So_swapUnknowns_8 ?_
      refine lv_iload_n hx hb d_So_swapUnknowns_11 rfl (lv_at hl 2 rfl) ?_
      refine r_iald C K S 3 rfl (i := nI qr) (show vp_in (nI qr) _ from vp_in_nI (n := qr) (by omega) (by decide)) (v := ur qr) (by rw [nI_clamp (by omega)]) d_So_swapUnknowns_12 ?_
      refine z_topi (y := nI vb) eb ?_
      refine lv_istore (lv' := [(4, .int (nI vb)), (3, .int (nI va)), (0, .ref h0), (1, .int (nI qr)), (2, .int (nI qc))]) hx hb d_So_swapUnknowns_13 hl (by decide) rfl (fun ls hl => ?_)
      refine lv_aload_n hx hb d_So_swapUnknowns_15 rfl (lv_at hl 2 rfl) ?_
      refine r_get C K S 0 rfl rfl clOk_So 3 (by decide) wf_So_24 (v := .ref ura) rfl d_So_swapUnknowns_16 ?_
      refine lv_iload_n hx hb d_So_swapUnknowns_19 rfl (lv_at hl 3 rfl) ?_
      refine lv_iload_n hx hb d_So_swapUnknowns_20 rfl (lv_at hl 1 rfl) ?_
      refine r_iast C K S 3 rfl (i := nI qr) (x := nI va) (show vp_in (nI qr) _ from vp_in_nI (n := qr) (by omega) (by decide)) (f' := va_up ur qr (nI va)) (ws' := [(h0, .inr (1, [.ref cea, .ref roa, .ref coa, .ref ura, .ref uca, .ref au, .ref ap, .ref al, .ref ar, .ref ae, .int (nI rw9), .int (nI C9), .int (nI fs9), .int (nI tk9)])), (roa, .inl (k 0, 40, .inl ro)), (coa, .inl (k 0, 40, .inl co)), (ura, .inl (k 0, 91, .inl (va_up ur qr (nI va)))), (uca, .inl (k 0, 40, .inl uc))]) (show upd _ (nI qr : Int32).toNatClampNeg (nI va) = _ from upd_W ur (j := qr) (by omega) (nI va)) rfl d_So_swapUnknowns_21 (fun H locs S => ?_)
      refine lv_aload_n hx hb d_So_swapUnknowns_22 rfl (lv_at hl 2 rfl) ?_
      refine r_get C K S 0 rfl rfl clOk_So 4 (by decide) wf_So_27 (v := .ref uca) rfl d_So_swapUnknowns_23 ?_
      refine lv_iload_n hx hb d_So_swapUnknowns_26 rfl (lv_at hl 4 rfl) ?_
      refine lv_iload hx hb d_So_swapUnknowns_27 (lv_at hl 0 rfl) ?_
      refine r_iast C K S 4 rfl (i := nI qc) (x := nI vb) (show vp_in (nI qc) _ from vp_in_nI (n := qc) (by omega) (by decide)) (f' := va_up uc qc (nI vb)) (ws' := [(h0, .inr (1, [.ref cea, .ref roa, .ref coa, .ref ura, .ref uca, .ref au, .ref ap, .ref al, .ref ar, .ref ae, .int (nI rw9), .int (nI C9), .int (nI fs9), .int (nI tk9)])), (roa, .inl (k 0, 40, .inl ro)), (coa, .inl (k 0, 40, .inl co)), (ura, .inl (k 0, 91, .inl (va_up ur qr (nI va)))), (uca, .inl (k 0, 40, .inl (va_up uc qc (nI vb))))]) (show upd _ (nI qc : Int32).toNatClampNeg (nI vb) = _ from upd_W uc (j := qc) (by omega) (nI vb)) rfl d_So_swapUnknowns_29 (fun H locs S => ?_)
      refine lv_iload_n hx hb d_So_swapUnknowns_30 rfl (lv_at hl 1 rfl) ?_
      refine lv_bipush (v := (-2)) hx hb d_So_swapUnknowns_31 (by decide) ?_
      refine lv_icmp_eq (tgt := 43) hx hb d_So_swapUnknowns_33 (by decide) (fun hq => absurd hq (nI_ne2 (by omega))) (fun _ => ?_)
      refine lv_aload_n hx hb d_So_swapUnknowns_36 rfl (lv_at hl 2 rfl) ?_
      refine r_get C K S 0 rfl rfl clOk_So 1 (by decide) wf_So_17 (v := .ref roa) rfl d_So_swapUnknowns_37 ?_
      refine lv_iload_n hx hb d_So_swapUnknowns_40 rfl (lv_at hl 1 rfl) ?_
      refine lv_iload_n hx hb d_So_swapUnknowns_41 rfl (lv_at hl 3 rfl) ?_
      refine r_iast C K S 1 rfl (i := nI va) (x := nI qr) (show vp_in (nI va) _ from vp_in_nI (n := va) (by omega) (by decide)) (f' := va_up ro va (nI qr)) (ws' := [(h0, .inr (1, [.ref cea, .ref roa, .ref coa, .ref ura, .ref uca, .ref au, .ref ap, .ref al, .ref ar, .ref ae, .int (nI rw9), .int (nI C9), .int (nI fs9), .int (nI tk9)])), (roa, .inl (k 0, 40, .inl (va_up ro va (nI qr)))), (coa, .inl (k 0, 40, .inl co)), (ura, .inl (k 0, 91, .inl (va_up ur qr (nI va)))), (uca, .inl (k 0, 40, .inl (va_up uc qc (nI vb))))]) (show upd _ (nI va : Int32).toNatClampNeg (nI qr) = _ from upd_W ro (j := va) (by omega) (nI qr)) rfl d_So_swapUnknowns_42 (fun H locs S => ?_)
      refine lv_iload hx hb d_So_swapUnknowns_43 (lv_at hl 0 rfl) ?_
      refine lv_bipush (v := (-2)) hx hb d_So_swapUnknowns_45 (by decide) ?_
      refine lv_icmp_eq (tgt := 67) hx hb d_So_swapUnknowns_47 (by decide) (fun hq => absurd hq (nI_ne2 (by omega))) (fun _ => ?_)
      refine lv_aload_n hx hb d_So_swapUnknowns_50 rfl (lv_at hl 2 rfl) ?_
      refine r_get C K S 0 rfl rfl clOk_So 1 (by decide) wf_So_17 (v := .ref roa) rfl d_So_swapUnknowns_51 ?_
      refine lv_iload hx hb d_So_swapUnknowns_54 (lv_at hl 0 rfl) ?_
      refine lv_bipush (v := (-2)) hx hb d_So_swapUnknowns_56 (by decide) ?_
      refine r_iast C K S 1 rfl (i := nI vb) (x := (-2)) (show vp_in (nI vb) _ from vp_in_nI (n := vb) (by omega) (by decide)) (f' := va_up (va_up ro va (nI qr)) vb (-2)) (ws' := [(h0, .inr (1, [.ref cea, .ref roa, .ref coa, .ref ura, .ref uca, .ref au, .ref ap, .ref al, .ref ar, .ref ae, .int (nI rw9), .int (nI C9), .int (nI fs9), .int (nI tk9)])), (roa, .inl (k 0, 40, .inl (va_up (va_up ro va (nI qr)) vb (-2)))), (coa, .inl (k 0, 40, .inl co)), (ura, .inl (k 0, 91, .inl (va_up ur qr (nI va)))), (uca, .inl (k 0, 40, .inl (va_up uc qc (nI vb))))]) (show upd _ (nI vb : Int32).toNatClampNeg (-2) = _ from upd_W (va_up ro va (nI qr)) (j := vb) (by omega) (-2)) rfl d_So_swapUnknowns_58 (fun H locs S => ?_)
      refine lv_aload_n hx hb d_So_swapUnknowns_59 rfl (lv_at hl 2 rfl) ?_
      refine r_get C K S 0 rfl rfl clOk_So 2 (by decide) wf_So_21 (v := .ref coa) rfl d_So_swapUnknowns_60 ?_
      refine lv_iload hx hb d_So_swapUnknowns_63 (lv_at hl 0 rfl) ?_
      refine lv_iload_n hx hb d_So_swapUnknowns_65 rfl (lv_at hl 4 rfl) ?_
      refine r_iast C K S 2 rfl (i := nI vb) (x := nI qc) (show vp_in (nI vb) _ from vp_in_nI (n := vb) (by omega) (by decide)) (f' := va_up co vb (nI qc)) (ws' := [(h0, .inr (1, [.ref cea, .ref roa, .ref coa, .ref ura, .ref uca, .ref au, .ref ap, .ref al, .ref ar, .ref ae, .int (nI rw9), .int (nI C9), .int (nI fs9), .int (nI tk9)])), (roa, .inl (k 0, 40, .inl (va_up (va_up ro va (nI qr)) vb (-2)))), (coa, .inl (k 0, 40, .inl (va_up co vb (nI qc)))), (ura, .inl (k 0, 91, .inl (va_up ur qr (nI va)))), (uca, .inl (k 0, 40, .inl (va_up uc qc (nI vb))))]) (show upd _ (nI vb : Int32).toNatClampNeg (nI qc) = _ from upd_W co (j := vb) (by omega) (nI qc)) rfl d_So_swapUnknowns_66 (fun H locs S => ?_)
      refine q_vret C K hsz ((va_up (va_up ro va (nI qr)) vb (-2)), (va_up co vb (nI qc)), (va_up ur qr (nI va)), (va_up uc qc (nI vb))) ⟨?_, ?_, ?_⟩ (S.sub [0, 1, 2, 3, 4] (by decide) rfl) d_So_swapUnknowns_67 (Nat.zero_le _) (Nat.zero_le _) (Nat.zero_le _) (Nat.zero_le _)
      · intro v hv
        show (va_up (va_up ro va (nI qr)) vb (-2)) v = -2 ∨ ∃ r, r < rw9 ∧ (va_up (va_up ro va (nI qr)) vb (-2)) v = nI r
        by_cases wvb : v = vb
        · rw [wvb, va_up_self]; exact Or.inl rfl
        rw [va_up_ne _ _ wvb]
        by_cases wva : v = va
        · rw [wva, va_up_self]; exact Or.inr ⟨qr, hqr, rfl⟩
        rw [va_up_ne _ _ wva]
        exact so1 v hv
      · intro v hv
        show (va_up ur qr (nI va)) v = -2 ∨ ∃ r, r < C9 ∧ (va_up ur qr (nI va)) v = nI r
        by_cases w9 : v = qr
        · rw [w9, va_up_self]; exact Or.inr ⟨_, la, rfl⟩
        rw [va_up_ne _ _ w9]
        exact so2 v hv
      · intro v hv
        show (va_up uc qc (nI vb)) v = -2 ∨ ∃ r, r < C9 ∧ (va_up uc qc (nI vb)) v = nI r
        by_cases w9 : v = qc
        · rw [w9, va_up_self]; exact Or.inr ⟨_, lb, rfl⟩
        rw [va_up_ne _ _ w9]
        exact so3 v hv
theorem d_So_exchange_0 : decode c_So_exchange 0 = .ok (.aload_n 0, 1) := by decide +kernel
theorem d_So_exchange_1 : decode c_So_exchange 1 = .ok (.getfield 35, 3) := by decide +kernel
theorem d_So_exchange_4 : decode c_So_exchange 4 = .ok (.aload_n 0, 1) := by decide +kernel
theorem d_So_exchange_5 : decode c_So_exchange 5 = .ok (.iload_n 1, 1) := by decide +kernel
theorem d_So_exchange_6 : decode c_So_exchange 6 = .ok (.iload_n 2, 1) := by decide +kernel
theorem d_So_exchange_7 : decode c_So_exchange 7 = .ok (.invokevirtual 66, 3) := by decide +kernel
theorem d_So_exchange_10 : decode c_So_exchange 10 = .ok (.invokevirtual 133, 3) := by decide +kernel
theorem d_So_exchange_13 : decode c_So_exchange 13 = .ok (.aload_n 0, 1) := by decide +kernel
theorem d_So_exchange_14 : decode c_So_exchange 14 = .ok (.getfield 35, 3) := by decide +kernel
theorem d_So_exchange_17 : decode c_So_exchange 17 = .ok (.aload_n 0, 1) := by decide +kernel
theorem d_So_exchange_18 : decode c_So_exchange 18 = .ok (.getfield 31, 3) := by decide +kernel
theorem d_So_exchange_21 : decode c_So_exchange 21 = .ok (.invokevirtual 104, 3) := by decide +kernel
theorem d_So_exchange_24 : decode c_So_exchange 24 = .ok (.ifCond .ne 7, 3) := by decide +kernel
theorem d_So_exchange_27 : decode c_So_exchange 27 = .ok (.iconst 1, 1) := by decide +kernel
theorem d_So_exchange_28 : decode c_So_exchange 28 = .ok (.goto 4, 3) := by decide +kernel
theorem d_So_exchange_31 : decode c_So_exchange 31 = .ok (.iconst 0, 1) := by decide +kernel
theorem d_So_exchange_32 : decode c_So_exchange 32 = .ok (.istore_n 3, 1) := by decide +kernel
theorem d_So_exchange_33 : decode c_So_exchange 33 = .ok (.iconst 0, 1) := by decide +kernel
theorem d_So_exchange_34 : decode c_So_exchange 34 = .ok (.istore 4, 2) := by decide +kernel
theorem d_So_exchange_36 : decode c_So_exchange 36 = .ok (.iload 4, 2) := by decide +kernel
theorem d_So_exchange_38 : decode c_So_exchange 38 = .ok (.aload_n 0, 1) := by decide +kernel
theorem d_So_exchange_39 : decode c_So_exchange 39 = .ok (.getfield 70, 3) := by decide +kernel
theorem d_So_exchange_42 : decode c_So_exchange 42 = .ok (.if_icmp .ge 110, 3) := by decide +kernel
theorem d_So_exchange_45 : decode c_So_exchange 45 = .ok (.aload_n 0, 1) := by decide +kernel
theorem d_So_exchange_46 : decode c_So_exchange 46 = .ok (.iload 4, 2) := by decide +kernel
theorem d_So_exchange_48 : decode c_So_exchange 48 = .ok (.iload_n 2, 1) := by decide +kernel
theorem d_So_exchange_49 : decode c_So_exchange 49 = .ok (.invokevirtual 66, 3) := by decide +kernel
theorem d_So_exchange_52 : decode c_So_exchange 52 = .ok (.astore 5, 2) := by decide +kernel
theorem d_So_exchange_54 : decode c_So_exchange 54 = .ok (.iload 4, 2) := by decide +kernel
theorem d_So_exchange_56 : decode c_So_exchange 56 = .ok (.iload_n 1, 1) := by decide +kernel
theorem d_So_exchange_57 : decode c_So_exchange 57 = .ok (.if_icmp .eq 15, 3) := by decide +kernel
theorem d_So_exchange_60 : decode c_So_exchange 60 = .ok (.iload_n 3, 1) := by decide +kernel
theorem d_So_exchange_61 : decode c_So_exchange 61 = .ok (.ifCond .eq 15, 3) := by decide +kernel
theorem d_So_exchange_64 : decode c_So_exchange 64 = .ok (.aload 5, 2) := by decide +kernel
theorem d_So_exchange_66 : decode c_So_exchange 66 = .ok (.invokevirtual 101, 3) := by decide +kernel
theorem d_So_exchange_69 : decode c_So_exchange 69 = .ok (.ifCond .ne 7, 3) := by decide +kernel
theorem d_So_exchange_72 : decode c_So_exchange 72 = .ok (.iconst 1, 1) := by decide +kernel
theorem d_So_exchange_73 : decode c_So_exchange 73 = .ok (.goto 4, 3) := by decide +kernel
theorem d_So_exchange_76 : decode c_So_exchange 76 = .ok (.iconst 0, 1) := by decide +kernel
theorem d_So_exchange_77 : decode c_So_exchange 77 = .ok (.istore 6, 2) := by decide +kernel
theorem d_So_exchange_79 : decode c_So_exchange 79 = .ok (.iconst 0, 1) := by decide +kernel
theorem d_So_exchange_80 : decode c_So_exchange 80 = .ok (.istore 7, 2) := by decide +kernel
theorem d_So_exchange_82 : decode c_So_exchange 82 = .ok (.iload 7, 2) := by decide +kernel
theorem d_So_exchange_84 : decode c_So_exchange 84 = .ok (.aload_n 0, 1) := by decide +kernel
theorem d_So_exchange_85 : decode c_So_exchange 85 = .ok (.getfield 59, 3) := by decide +kernel
theorem d_So_exchange_88 : decode c_So_exchange 88 = .ok (.if_icmp .gt 58, 3) := by decide +kernel
theorem d_So_exchange_91 : decode c_So_exchange 91 = .ok (.iload 6, 2) := by decide +kernel
theorem d_So_exchange_93 : decode c_So_exchange 93 = .ok (.ifCond .ne 53, 3) := by decide +kernel
theorem d_So_exchange_96 : decode c_So_exchange 96 = .ok (.iload 7, 2) := by decide +kernel
theorem d_So_exchange_98 : decode c_So_exchange 98 = .ok (.iload_n 2, 1) := by decide +kernel
theorem d_So_exchange_99 : decode c_So_exchange 99 = .ok (.if_icmp .eq 41, 3) := by decide +kernel
theorem d_So_exchange_102 : decode c_So_exchange 102 = .ok (.iload_n 3, 1) := by decide +kernel
theorem d_So_exchange_103 : decode c_So_exchange 103 = .ok (.ifCond .eq 16, 3) := by decide +kernel
theorem d_So_exchange_106 : decode c_So_exchange 106 = .ok (.aload_n 0, 1) := by decide +kernel
theorem d_So_exchange_107 : decode c_So_exchange 107 = .ok (.iload_n 1, 1) := by decide +kernel
theorem d_So_exchange_108 : decode c_So_exchange 108 = .ok (.iload 7, 2) := by decide +kernel
theorem d_So_exchange_110 : decode c_So_exchange 110 = .ok (.invokevirtual 66, 3) := by decide +kernel
theorem d_So_exchange_113 : decode c_So_exchange 113 = .ok (.invokevirtual 101, 3) := by decide +kernel
theorem d_So_exchange_116 : decode c_So_exchange 116 = .ok (.ifCond .eq 24, 3) := by decide +kernel
theorem d_So_exchange_119 : decode c_So_exchange 119 = .ok (.aload_n 0, 1) := by decide +kernel
theorem d_So_exchange_120 : decode c_So_exchange 120 = .ok (.aload_n 0, 1) := by decide +kernel
theorem d_So_exchange_121 : decode c_So_exchange 121 = .ok (.iload 4, 2) := by decide +kernel
theorem d_So_exchange_123 : decode c_So_exchange 123 = .ok (.iload 7, 2) := by decide +kernel
theorem d_So_exchange_125 : decode c_So_exchange 125 = .ok (.invokevirtual 66, 3) := by decide +kernel
theorem d_So_exchange_128 : decode c_So_exchange 128 = .ok (.aload 5, 2) := by decide +kernel
theorem d_So_exchange_130 : decode c_So_exchange 130 = .ok (.aload_n 0, 1) := by decide +kernel
theorem d_So_exchange_131 : decode c_So_exchange 131 = .ok (.iload_n 1, 1) := by decide +kernel
theorem d_So_exchange_132 : decode c_So_exchange 132 = .ok (.iload 7, 2) := by decide +kernel
theorem d_So_exchange_134 : decode c_So_exchange 134 = .ok (.invokevirtual 66, 3) := by decide +kernel
theorem d_So_exchange_137 : decode c_So_exchange 137 = .ok (.invokevirtual 137, 3) := by decide +kernel
theorem d_So_exchange_140 : decode c_So_exchange 140 = .ok (.iinc 7 1, 3) := by decide +kernel
theorem d_So_exchange_143 : decode c_So_exchange 143 = .ok (.goto (-61), 3) := by decide +kernel
theorem d_So_exchange_146 : decode c_So_exchange 146 = .ok (.iinc 4 1, 3) := by decide +kernel
theorem d_So_exchange_149 : decode c_So_exchange 149 = .ok (.goto (-113), 3) := by decide +kernel
theorem d_So_exchange_152 : decode c_So_exchange 152 = .ok (.iconst 0, 1) := by decide +kernel
theorem d_So_exchange_153 : decode c_So_exchange 153 = .ok (.istore 4, 2) := by decide +kernel
theorem d_So_exchange_155 : decode c_So_exchange 155 = .ok (.iload 4, 2) := by decide +kernel
theorem d_So_exchange_157 : decode c_So_exchange 157 = .ok (.aload_n 0, 1) := by decide +kernel
theorem d_So_exchange_158 : decode c_So_exchange 158 = .ok (.getfield 59, 3) := by decide +kernel
theorem d_So_exchange_161 : decode c_So_exchange 161 = .ok (.if_icmp .gt 19, 3) := by decide +kernel
theorem d_So_exchange_164 : decode c_So_exchange 164 = .ok (.aload_n 0, 1) := by decide +kernel
theorem d_So_exchange_165 : decode c_So_exchange 165 = .ok (.iload_n 1, 1) := by decide +kernel
theorem d_So_exchange_166 : decode c_So_exchange 166 = .ok (.iload 4, 2) := by decide +kernel
theorem d_So_exchange_168 : decode c_So_exchange 168 = .ok (.invokevirtual 66, 3) := by decide +kernel
theorem d_So_exchange_171 : decode c_So_exchange 171 = .ok (.invokevirtual 141, 3) := by decide +kernel
theorem d_So_exchange_174 : decode c_So_exchange 174 = .ok (.iinc 4 1, 3) := by decide +kernel
theorem d_So_exchange_177 : decode c_So_exchange 177 = .ok (.goto (-22), 3) := by decide +kernel
theorem d_So_exchange_180 : decode c_So_exchange 180 = .ok (.aload_n 0, 1) := by decide +kernel
theorem d_So_exchange_181 : decode c_So_exchange 181 = .ok (.iload_n 1, 1) := by decide +kernel
theorem d_So_exchange_182 : decode c_So_exchange 182 = .ok (.iload_n 2, 1) := by decide +kernel
theorem d_So_exchange_183 : decode c_So_exchange 183 = .ok (.invokevirtual 66, 3) := by decide +kernel
theorem d_So_exchange_186 : decode c_So_exchange 186 = .ok (.aload_n 0, 1) := by decide +kernel
theorem d_So_exchange_187 : decode c_So_exchange 187 = .ok (.getfield 31, 3) := by decide +kernel
theorem d_So_exchange_190 : decode c_So_exchange 190 = .ok (.invokevirtual 133, 3) := by decide +kernel
theorem d_So_exchange_193 : decode c_So_exchange 193 = .ok (.aload_n 0, 1) := by decide +kernel
theorem d_So_exchange_194 : decode c_So_exchange 194 = .ok (.getfield 31, 3) := by decide +kernel
theorem d_So_exchange_197 : decode c_So_exchange 197 = .ok (.aload_n 0, 1) := by decide +kernel
theorem d_So_exchange_198 : decode c_So_exchange 198 = .ok (.getfield 35, 3) := by decide +kernel
theorem d_So_exchange_201 : decode c_So_exchange 201 = .ok (.invokevirtual 133, 3) := by decide +kernel
theorem d_So_exchange_204 : decode c_So_exchange 204 = .ok (.aload_n 0, 1) := by decide +kernel
theorem d_So_exchange_205 : decode c_So_exchange 205 = .ok (.iload_n 1, 1) := by decide +kernel
theorem d_So_exchange_206 : decode c_So_exchange 206 = .ok (.iload_n 2, 1) := by decide +kernel
theorem d_So_exchange_207 : decode c_So_exchange 207 = .ok (.invokevirtual 144, 3) := by decide +kernel
theorem d_So_exchange_210 : decode c_So_exchange 210 = .ok (.return_, 1) := by decide +kernel
set_option maxRecDepth 100000 in
set_option maxHeartbeats 16000000 in
/-- exchange -/
theorem g_So_exchange (l : Launch) (G : va_G) (k : Nat → ClassId) (h0 : Nat) (s0 sl : Nat) (qr : Nat) (qc : Nat) (cea : Nat) (roa : Nat) (coa : Nat) (ura : Nat) (uca : Nat) (au : Nat) (ap : Nat) (al : Nat) (ar : Nat) (ae : Nat) (rw9 : Nat) (C9 : Nat) (fs9 : Nat) (tk9 : Nat) (ro : Nat → Int32) (co : Nat → Int32) (ur : Nat → Int32) (uc : Nat → Int32) (N9 : Nat) (st : Nat → Option wQ) (Z : Nat → Int) (hN : N9 = 3745) (hh : hO st Z) (hU : atO st 3731 au) (hP : atO st 3732 ap) (hL : atO st 3733 al) (hR : atO st 3734 ar) (hE : atO st 3735 ae) (hC : C9 ≤ 40) (hRw : rw9 ≤ 91) (hso : soO C9 rw9 ro ur uc) (htab : tabO C9 rw9 Z) (hqr : qr < rw9) (hqc : qc < C9) (hpos : 0 < Z (qr * (C9 + 1) + qc)) : CG l y_So_exchange c_So_exchange 8 none { frames := 6, cells := pt st N9 + 400, slots := 2 * pt st N9 + 800, locals := 181 } [.ref h0, .int (nI qr), .int (nI qc)] G k s0 sl ([(h0, .inr (1, [.ref cea, .ref roa, .ref coa, .ref ura, .ref uca, .ref au, .ref ap, .ref al, .ref ar, .ref ae, .int (nI rw9), .int (nI C9), .int (nI fs9), .int (nI tk9)])), (cea, .inl (k 4, 3731, .inr (.inr (.inr (.inr (fun j => adO (st j))))))), (roa, .inl (k 0, 40, .inl ro)), (coa, .inl (k 0, 40, .inl co)), (ura, .inl (k 0, 91, .inl ur)), (uca, .inl (k 0, 40, .inl uc))] ++ (tpl k st N9)) (fun (u : (Nat → Option wQ) × (Nat → Int) × (Nat → Int32) × (Nat → Int32) × (Nat → Int32) × (Nat → Int32)) => none) (fun (u : (Nat → Option wQ) × (Nat → Int) × (Nat → Int32) × (Nat → Int32) × (Nat → Int32) × (Nat → Int32)) => hO u.1 u.2.1 ∧ keO st u.1 ∧ pt u.1 N9 ≤ pt st N9 ∧ tabO C9 rw9 u.2.1 ∧ soO C9 rw9 u.2.2.1 u.2.2.2.2.1 u.2.2.2.2.2) (fun (u : (Nat → Option wQ) × (Nat → Int) × (Nat → Int32) × (Nat → Int32) × (Nat → Int32) × (Nat → Int32)) => ([(h0, .inr (1, [.ref cea, .ref roa, .ref coa, .ref ura, .ref uca, .ref au, .ref ap, .ref al, .ref ar, .ref ae, .int (nI rw9), .int (nI C9), .int (nI fs9), .int (nI tk9)])), (cea, .inl (k 4, 3731, .inr (.inr (.inr (.inr (fun j => adO (u.1 j))))))), (roa, .inl (k 0, 40, .inl u.2.2.1)), (coa, .inl (k 0, 40, .inl u.2.2.2.1)), (ura, .inl (k 0, 91, .inl u.2.2.2.2.1)), (uca, .inl (k 0, 40, .inl u.2.2.2.2.2))] ++ (tpl k u.1 N9))) (fun (u : (Nat → Option wQ) × (Nat → Int) × (Nat → Int32) × (Nat → Int32) × (Nat → Int32) × (Nat → Int32)) => pt st N9 - pt u.1 N9) (fun (u : (Nat → Option wQ) × (Nat → Int) × (Nat → Int32) × (Nat → Int32) × (Nat → Int32) × (Nat → Int32)) => 2 * (pt st N9 - pt u.1 N9)) (pt st N9 + 400) (2 * pt st N9 + 800) := by
  refine met_startG (by decide) (Nat.le_of_ble_eq_true rfl) ?_
  intro p e s m below meth c C K hA hsz S ls hl
  generalize va_A ([(h0, .inr (1, [.ref cea, .ref roa, .ref coa, .ref ura, .ref uca, .ref au, .ref ap, .ref al, .ref ar, .ref ae, .int (nI rw9), .int (nI C9), .int (nI fs9), .int (nI tk9)])), (cea, .inl (k 4, 3731, .inr (.inr (.inr (.inr (fun j => adO (st j))))))), (roa, .inl (k 0, 40, .inl ro)), (coa, .inl (k 0, 40, .inl co)), (ura, .inl (k 0, 91, .inl ur)), (uca, .inl (k 0, 40, .inl uc))] ++ (tpl k st N9)) s0 = A at hA S ⊢
  have hx := C.1
  have hb := C.2.1
  have hl : lv_has ls 8 [(0, .ref h0), (1, .int (nI qr)), (2, .int (nI qc))] := hl
  refine lv_aload_n hx hb d_So_exchange_0 rfl (lv_at hl 0 rfl) ?_
  refine r_get C K S 0 rfl rfl clOk_So 6 (by decide) wf_So_35 (v := .ref ap) rfl d_So_exchange_1 ?_
  refine lv_aload_n hx hb d_So_exchange_4 rfl (lv_at hl 0 rfl) ?_
  refine lv_iload_n hx hb d_So_exchange_5 rfl (lv_at hl 1 rfl) ?_
  refine lv_iload_n hx hb d_So_exchange_6 rfl (lv_at hl 2 rfl) ?_
  refine q_backP (wi := [(h0, .inr (1, [.ref cea, .ref roa, .ref coa, .ref ura, .ref uca, .ref au, .ref ap, .ref al, .ref ar, .ref ae, .int (nI rw9), .int (nI C9), .int (nI fs9), .int (nI tk9)])), (cea, .inl (k 4, 3731, .inr (.inr (.inr (.inr (fun j => adO (st j)))))))]) (wr := [(roa, .inl (k 0, 40, .inl ro)), (coa, .inl (k 0, 40, .inl co)), (ura, .inl (k 0, 91, .inl ur)), (uca, .inl (k 0, 40, .inl uc))]) S hA [0, 1] [2, 3, 4, 5] rfl rfl (by decide) (by decide) (va_runV (As := [.int (nI qr), .int (nI qc)]) (rest := [.ref ap]) ⟨hx, hb, C.2.2.1, C.2.2.2.1, C.2.2.2.2.1⟩ (g_So_cell l G k h0 _ _ qr qc cea roa coa ura uca au ap al ar ae rw9 C9 fs9 tk9 N9 st Z hN ⟨hh.1, hh.2⟩ (by omega) (by omega) (by omega)) (k_virt (n := 2) C wc_So_cell rfl rfl wz_So wm_So_66 wn_So_cell ws_So_cell (by decide +kernel) ⟨(Nat.le_of_ble_eq_true rfl), (Nat.le_of_ble_eq_true rfl)⟩) (pr_nowVGP K S [0, 1] (by decide) rfl (List.mem_append_left _ (List.mem_of_getElem? (i := 0) rfl)) rfl) rfl rfl hl.1 rfl (lv_room (Nat.le_of_ble_eq_true rfl)) d_So_exchange_7 ⟨(show 0 + (pt st N9 + 10) ≤ pt st N9 + 400 from by omega), (show 0 + (2 * pt st N9 + 20) ≤ 2 * pt st N9 + 800 from by omega)⟩) (fun c1 H locs hw2 S => ?_)
  have S : Sw G A s.heap _ _ ([(roa, .inl (k 0, 40, .inl ro)), (coa, .inl (k 0, 40, .inl co)), (ura, .inl (k 0, 91, .inl ur)), (uca, .inl (k 0, 40, .inl uc)), (h0, .inr (1, [.ref cea, .ref roa, .ref coa, .ref ura, .ref uca, .ref au, .ref ap, .ref al, .ref ar, .ref ae, .int (nI rw9), .int (nI C9), .int (nI fs9), .int (nI tk9)])), (cea, .inl (k 4, 3731, .inr (.inr (.inr (.inr (fun j => adO (c1.1 j)))))))] ++ (tpl k c1.1 N9)) := S
  have hw2 : hO c1.1 Z ∧ atO c1.1 (qr * (C9 + 1) + qc) c1.2 ∧ keO st c1.1 ∧ pt c1.1 N9 ≤ pt st N9 := hw2
  show W p l e _ s m _ below meth c H locs _ _ _ (F0 m 10 ls [.ref c1.2, .ref ap])
  obtain ⟨hh3, at4, ke5, pt6⟩ := hw2
  have lt7 := ix_lt (C := C9) (R := 91) (i := qr) (j := qc) (by omega) (by omega) (Nat.le_refl _) (by omega)
  have mb8 := Mb_le 3732
  refine q_backP (wi := []) (wr := [(roa, .inl (k 0, 40, .inl ro)), (coa, .inl (k 0, 40, .inl co)), (ura, .inl (k 0, 91, .inl ur)), (uca, .inl (k 0, 40, .inl uc)), (h0, .inr (1, [.ref cea, .ref roa, .ref coa, .ref ura, .ref uca, .ref au, .ref ap, .ref al, .ref ar, .ref ae, .int (nI rw9), .int (nI C9), .int (nI fs9), .int (nI tk9)])), (cea, .inl (k 4, 3731, .inr (.inr (.inr (.inr (fun j => adO (c1.1 j)))))))]) S hA [] [0, 1, 2, 3, 4, 5] rfl rfl (by decide) (by decide) (va_runV (As := [.ref c1.2]) (rest := []) ⟨hx, hb, C.2.2.1, C.2.2.2.1, C.2.2.2.2.1⟩ (g_P_copy l G k _ _ 3732 (qr * (C9 + 1) + qc) ap c1.2 (Z (qr * (C9 + 1) + qc)) N9 c1.1 Z V0 hN hh3.1 (by omega) (by omega) (ke5.at hP) at4 rfl (show V0 (qr * (C9 + 1) + qc) from by unfold V0; omega) (by omega) (hh3.2 (qr * (C9 + 1) + qc) (by omega) (by unfold V0; omega))) (k_virt (n := 1) C wc_Wh_copy rfl rfl wz_Wh wm_So_133 wn_Wh_copy ws_Wh_copy (by decide +kernel) ⟨(Nat.le_of_ble_eq_true rfl), (Nat.le_of_ble_eq_true rfl)⟩) (pr_nowVGP K S [] (by decide) rfl (Classical.choose_spec (at_mem (ke5.at hP) (show 3732 < N9 by omega))) rfl) rfl rfl hl.1 rfl (lv_room (Nat.le_of_ble_eq_true rfl)) d_So_exchange_10 ⟨(show 0 + (pt st N9 - pt c1.1 N9) + (Mb 3732) ≤ pt st N9 + 400 from by omega), (show 0 + (2 * (pt st N9 - pt c1.1 N9)) + (2 * Mb 3732) ≤ 2 * pt st N9 + 800 from by omega)⟩) (fun st9 H locs hw10 S => ?_)
  have S : Sw G A s.heap _ _ ([(roa, .inl (k 0, 40, .inl ro)), (coa, .inl (k 0, 40, .inl co)), (ura, .inl (k 0, 91, .inl ur)), (uca, .inl (k 0, 40, .inl uc)), (h0, .inr (1, [.ref cea, .ref roa, .ref coa, .ref ura, .ref uca, .ref au, .ref ap, .ref al, .ref ar, .ref ae, .int (nI rw9), .int (nI C9), .int (nI fs9), .int (nI tk9)])), (cea, .inl (k 4, 3731, .inr (.inr (.inr (.inr (fun j => adO (c1.1 j)))))))] ++ (tpl k st9 N9)) := S
  have hw10 : gO st9 (va_up Z 3732 (Z (qr * (C9 + 1) + qc))) (va_up V0 3732 True) ∧ keO c1.1 st9 ∧ pt st9 N9 ≤ pt c1.1 N9 ∧ saO c1.1 st9 := hw10
  show W p l e _ s m _ below meth c H locs _ _ _ (F0 m 13 ls [])
  obtain ⟨g11, ke12, pt13, sa14⟩ := hw10
  have S : Sw G A s.heap H locs ([(roa, .inl (k 0, 40, .inl ro)), (coa, .inl (k 0, 40, .inl co)), (ura, .inl (k 0, 91, .inl ur)), (uca, .inl (k 0, 40, .inl uc)), (h0, .inr (1, [.ref cea, .ref roa, .ref coa, .ref ura, .ref uca, .ref au, .ref ap, .ref al, .ref ar, .ref ae, .int (nI rw9), .int (nI C9), .int (nI fs9), .int (nI tk9)])), (cea, .inl (k 4, 3731, .inr (.inr (.inr (.inr (fun j => adO (st9 j)))))))] ++ (tpl k st9 N9)) := by rw [show (fun j => adO (st9 j)) = _ from sa14]; exact S
  have hh15 : hO st9 (va_up Z 3732 (Z (qr * (C9 + 1) + qc))) := hO_up1 g11 hh3.2 (hh3.2 _ (by omega) (by unfold V0; omega))
  obtain ⟨Z1, hZ1⟩ : ∃ x9, x9 = (va_up Z 3732 (Z (qr * (C9 + 1) + qc))) := ⟨_, rfl⟩
  rw [← hZ1] at hh15
  have pr0 : prO C9 rw9 qr qc Z Z1 0 0 := by rw [hZ1]; exact pr_0 hRw hC
  have k33 : ∀ (sm9 : Nat), (sm9 ≤ 1) → (sm9 = 1 → Z (qr * (C9 + 1) + qc) = Z 3731) → ∀ (H : Heap) (locs : List Loc), Sw G A s.heap H locs ([(roa, .inl (k 0, 40, .inl ro)), (coa, .inl (k 0, 40, .inl co)), (ura, .inl (k 0, 91, .inl ur)), (uca, .inl (k 0, 40, .inl uc)), (h0, .inr (1, [.ref cea, .ref roa, .ref coa, .ref ura, .ref uca, .ref au, .ref ap, .ref al, .ref ar, .ref ae, .int (nI rw9), .int (nI C9), .int (nI fs9), .int (nI tk9)])), (cea, .inl (k 4, 3731, .inr (.inr (.inr (.inr (fun j => adO (st9 j)))))))] ++ (tpl k st9 N9)) → ∀ ls : Array Slot, lv_has ls 8 [(3, .int (nI sm9)), (0, .ref h0), (1, .int (nI qr)), (2, .int (nI qc))] → W p l e { frames := 6, cells := pt st N9 + 400, slots := 2 * pt st N9 + 800, locals := 181 } s m [Value.ref h0, Value.int (nI qr), Value.int (nI qc)].toArray below meth c H locs (0 + (pt st N9 - pt c1.1 N9) + (pt c1.1 N9 - pt st9 N9)) (0 + (2 * (pt st N9 - pt c1.1 N9)) + (2 * (pt c1.1 N9 - pt st9 N9))) (MQ below (va_Qg (fun (u : (Nat → Option wQ) × (Nat → Int) × (Nat → Int32) × (Nat → Int32) × (Nat → Int32) × (Nat → Int32)) => none) (fun (u : (Nat → Option wQ) × (Nat → Int) × (Nat → Int32) × (Nat → Int32) × (Nat → Int32) × (Nat → Int32)) => hO u.1 u.2.1 ∧ keO st u.1 ∧ pt u.1 N9 ≤ pt st N9 ∧ tabO C9 rw9 u.2.1 ∧ soO C9 rw9 u.2.2.1 u.2.2.2.2.1 u.2.2.2.2.2) (Pog G k A (fun (u : (Nat → Option wQ) × (Nat → Int) × (Nat → Int32) × (Nat → Int32) × (Nat → Int32) × (Nat → Int32)) => ([(h0, .inr (1, [.ref cea, .ref roa, .ref coa, .ref ura, .ref uca, .ref au, .ref ap, .ref al, .ref ar, .ref ae, .int (nI rw9), .int (nI C9), .int (nI fs9), .int (nI tk9)])), (cea, .inl (k 4, 3731, .inr (.inr (.inr (.inr (fun j => adO (u.1 j))))))), (roa, .inl (k 0, 40, .inl u.2.2.1)), (coa, .inl (k 0, 40, .inl u.2.2.2.1)), (ura, .inl (k 0, 91, .inl u.2.2.2.2.1)), (uca, .inl (k 0, 40, .inl u.2.2.2.2.2))] ++ (tpl k u.1 N9))) s0 sl (fun (u : (Nat → Option wQ) × (Nat → Int) × (Nat → Int32) × (Nat → Int32) × (Nat → Int32) × (Nat → Int32)) => pt st N9 - pt u.1 N9) (fun (u : (Nat → Option wQ) × (Nat → Int) × (Nat → Int32) × (Nat → Int32) × (Nat → Int32) × (Nat → Int32)) => 2 * (pt st N9 - pt u.1 N9))) A) [Value.ref h0, Value.int (nI qr), Value.int (nI qc)].toArray s (pt st N9 + 400) (2 * pt st N9 + 800) A) (F0 m 33 ls []) := by
    intro sm9 hsm hsame H locs S ls hl
    refine lv_iconst (v := 0) hx hb d_So_exchange_33 (by decide) ?_
    refine lv_istore (lv' := [(4, .int 0), (3, .int (nI sm9)), (0, .ref h0), (1, .int (nI qr)), (2, .int (nI qc))]) hx hb d_So_exchange_34 hl (by decide) rfl (fun ls hl => ?_)
    refine W.widen (show 0 + (pt st N9 - pt c1.1 N9) + (pt c1.1 N9 - pt st9 N9) ≤ pt st N9 - pt st9 N9 from by omega) (show 0 + (2 * (pt st N9 - pt c1.1 N9)) + (2 * (pt c1.1 N9 - pt st9 N9)) ≤ 2 * (pt st N9 - pt st9 N9) from by omega) ?_
    have lo : ∀ d9, ∀ (s8 : Nat → Option wQ), ∀ (Z8 : Nat → Int), ∀ (i9 : Nat), (rw9 - i9) < d9 → (hO s8 Z8) → (keO st s8) → (pt s8 N9 ≤ pt st N9) → (i9 ≤ rw9) → (prO C9 rw9 qr qc Z Z8 i9 0) → ∀ (H : Heap) (locs : List Loc), Sw G A s.heap H locs ([(h0, .inr (1, [.ref cea, .ref roa, .ref coa, .ref ura, .ref uca, .ref au, .ref ap, .ref al, .ref ar, .ref ae, .int (nI rw9), .int (nI C9), .int (nI fs9), .int (nI tk9)])), (cea, .inl (k 4, 3731, .inr (.inr (.inr (.inr (fun j => adO (s8 j))))))), (roa, .inl (k 0, 40, .inl ro)), (coa, .inl (k 0, 40, .inl co)), (ura, .inl (k 0, 91, .inl ur)), (uca, .inl (k 0, 40, .inl uc))] ++ (tpl k s8 N9)) → ∀ ls : Array Slot, lv_has ls 8 [(4, .int (nI i9)), (3, .int (nI sm9)), (0, .ref h0), (1, .int (nI qr)), (2, .int (nI qc))] → W p l e { frames := 6, cells := pt st N9 + 400, slots := 2 * pt st N9 + 800, locals := 181 } s m [Value.ref h0, Value.int (nI qr), Value.int (nI qc)].toArray below meth c H locs (pt st N9 - pt s8 N9) (2 * (pt st N9 - pt s8 N9)) (MQ below (va_Qg (fun (u : (Nat → Option wQ) × (Nat → Int) × (Nat → Int32) × (Nat → Int32) × (Nat → Int32) × (Nat → Int32)) => none) (fun (u : (Nat → Option wQ) × (Nat → Int) × (Nat → Int32) × (Nat → Int32) × (Nat → Int32) × (Nat → Int32)) => hO u.1 u.2.1 ∧ keO st u.1 ∧ pt u.1 N9 ≤ pt st N9 ∧ tabO C9 rw9 u.2.1 ∧ soO C9 rw9 u.2.2.1 u.2.2.2.2.1 u.2.2.2.2.2) (Pog G k A (fun (u : (Nat → Option wQ) × (Nat → Int) × (Nat → Int32) × (Nat → Int32) × (Nat → Int32) × (Nat → Int32)) => ([(h0, .inr (1, [.ref cea, .ref roa, .ref coa, .ref ura, .ref uca, .ref au, .ref ap, .ref al, .ref ar, .ref ae, .int (nI rw9), .int (nI C9), .int (nI fs9), .int (nI tk9)])), (cea, .inl (k 4, 3731, .inr (.inr (.inr (.inr (fun j => adO (u.1 j))))))), (roa, .inl (k 0, 40, .inl u.2.2.1)), (coa, .inl (k 0, 40, .inl u.2.2.2.1)), (ura, .inl (k 0, 91, .inl u.2.2.2.2.1)), (uca, .inl (k 0, 40, .inl u.2.2.2.2.2))] ++ (tpl k u.1 N9))) s0 sl (fun (u : (Nat → Option wQ) × (Nat → Int) × (Nat → Int32) × (Nat → Int32) × (Nat → Int32) × (Nat → Int32)) => pt st N9 - pt u.1 N9) (fun (u : (Nat → Option wQ) × (Nat → Int) × (Nat → Int32) × (Nat → Int32) × (Nat → Int32) × (Nat → Int32)) => 2 * (pt st N9 - pt u.1 N9))) A) [Value.ref h0, Value.int (nI qr), Value.int (nI qc)].toArray s (pt st N9 + 400) (2 * pt st N9 + 800) A) (F0 m 36 ls []) := by
      intro d9
      induction d9 with
      | zero => intro s8 Z8 i9 hm; exact absurd hm (Nat.not_lt_zero _)
      | succ d9 ih_lo =>
        intro s8 Z8 i9 hm hh8 hke8 hpt8 hi hpr8 H locs S ls hl
        refine lv_iload hx hb d_So_exchange_36 (lv_at hl 0 rfl) ?_
        refine lv_aload_n hx hb d_So_exchange_38 rfl (lv_at hl 2 rfl) ?_
        refine r_get C K S 0 rfl rfl clOk_So 10 (by decide) wf_So_70 (v := .int (nI rw9)) rfl d_So_exchange_39 ?_
        refine z_icmp_ge (a := i9) (b := rw9) (tgt := 152) hx hb d_So_exchange_42 (by decide) (by omega) (by omega) (fun hc16 => ?_) (fun hc16 => ?_)
        · have e9 : i9 = rw9 := by omega
          rw [e9] at hpr8
          have hn0 := ng_0 hpr8 hqr
          refine lv_iconst (v := 0) hx hb d_So_exchange_152 (by decide) ?_
          refine lv_istore (lv' := [(4, .int 0), (3, .int (nI sm9)), (0, .ref h0), (1, .int (nI qr)), (2, .int (nI qc))]) hx hb d_So_exchange_153 hl (by decide) rfl (fun ls hl => ?_)
          have ln : ∀ d9, ∀ (s6 : Nat → Option wQ), ∀ (Z6 : Nat → Int), ∀ (j9 : Nat), (C9 + 1 - j9) < d9 → (hO s6 Z6) → (keO st s6) → (pt s6 N9 ≤ pt st N9) → (j9 ≤ C9 + 1) → (ngO C9 rw9 qr qc Z Z6 j9) → ∀ (H : Heap) (locs : List Loc), Sw G A s.heap H locs ([(h0, .inr (1, [.ref cea, .ref roa, .ref coa, .ref ura, .ref uca, .ref au, .ref ap, .ref al, .ref ar, .ref ae, .int (nI rw9), .int (nI C9), .int (nI fs9), .int (nI tk9)])), (cea, .inl (k 4, 3731, .inr (.inr (.inr (.inr (fun j => adO (s6 j))))))), (roa, .inl (k 0, 40, .inl ro)), (coa, .inl (k 0, 40, .inl co)), (ura, .inl (k 0, 91, .inl ur)), (uca, .inl (k 0, 40, .inl uc))] ++ (tpl k s6 N9)) → ∀ ls : Array Slot, lv_has ls 8 [(4, .int (nI j9)), (3, .int (nI sm9)), (0, .ref h0), (1, .int (nI qr)), (2, .int (nI qc))] → W p l e { frames := 6, cells := pt st N9 + 400, slots := 2 * pt st N9 + 800, locals := 181 } s m [Value.ref h0, Value.int (nI qr), Value.int (nI qc)].toArray below meth c H locs (pt st N9 - pt s6 N9) (2 * (pt st N9 - pt s6 N9)) (MQ below (va_Qg (fun (u : (Nat → Option wQ) × (Nat → Int) × (Nat → Int32) × (Nat → Int32) × (Nat → Int32) × (Nat → Int32)) => none) (fun (u : (Nat → Option wQ) × (Nat → Int) × (Nat → Int32) × (Nat → Int32) × (Nat → Int32) × (Nat → Int32)) => hO u.1 u.2.1 ∧ keO st u.1 ∧ pt u.1 N9 ≤ pt st N9 ∧ tabO C9 rw9 u.2.1 ∧ soO C9 rw9 u.2.2.1 u.2.2.2.2.1 u.2.2.2.2.2) (Pog G k A (fun (u : (Nat → Option wQ) × (Nat → Int) × (Nat → Int32) × (Nat → Int32) × (Nat → Int32) × (Nat → Int32)) => ([(h0, .inr (1, [.ref cea, .ref roa, .ref coa, .ref ura, .ref uca, .ref au, .ref ap, .ref al, .ref ar, .ref ae, .int (nI rw9), .int (nI C9), .int (nI fs9), .int (nI tk9)])), (cea, .inl (k 4, 3731, .inr (.inr (.inr (.inr (fun j => adO (u.1 j))))))), (roa, .inl (k 0, 40, .inl u.2.2.1)), (coa, .inl (k 0, 40, .inl u.2.2.2.1)), (ura, .inl (k 0, 91, .inl u.2.2.2.2.1)), (uca, .inl (k 0, 40, .inl u.2.2.2.2.2))] ++ (tpl k u.1 N9))) s0 sl (fun (u : (Nat → Option wQ) × (Nat → Int) × (Nat → Int32) × (Nat → Int32) × (Nat → Int32) × (Nat → Int32)) => pt st N9 - pt u.1 N9) (fun (u : (Nat → Option wQ) × (Nat → Int) × (Nat → Int32) × (Nat → Int32) × (Nat → Int32) × (Nat → Int32)) => 2 * (pt st N9 - pt u.1 N9))) A) [Value.ref h0, Value.int (nI qr), Value.int (nI qc)].toArray s (pt st N9 + 400) (2 * pt st N9 + 800) A) (F0 m 155 ls []) := by
            intro d9
            induction d9 with
            | zero => intro s6 Z6 j9 hm; exact absurd hm (Nat.not_lt_zero _)
            | succ d9 ih_ln =>
              intro s6 Z6 j9 hm hh6 hke6 hpt6 hj hng6 H locs S ls hl
              refine lv_iload hx hb d_So_exchange_155 (lv_at hl 0 rfl) ?_
              refine lv_aload_n hx hb d_So_exchange_157 rfl (lv_at hl 2 rfl) ?_
              refine r_get C K S 0 rfl rfl clOk_So 11 (by decide) wf_So_59 (v := .int (nI C9)) rfl d_So_exchange_158 ?_
              refine z_icmp_gt (a := j9) (b := C9) (tgt := 180) hx hb d_So_exchange_161 (by decide) (by omega) (by omega) (fun hc17 => ?_) (fun hc17 => ?_)
              · refine lv_aload_n hx hb d_So_exchange_180 rfl (lv_at hl 2 rfl) ?_
                refine lv_iload_n hx hb d_So_exchange_181 rfl (lv_at hl 3 rfl) ?_
                refine lv_iload_n hx hb d_So_exchange_182 rfl (lv_at hl 4 rfl) ?_
                refine q_backP (wi := [(h0, .inr (1, [.ref cea, .ref roa, .ref coa, .ref ura, .ref uca, .ref au, .ref ap, .ref al, .ref ar, .ref ae, .int (nI rw9), .int (nI C9), .int (nI fs9), .int (nI tk9)])), (cea, .inl (k 4, 3731, .inr (.inr (.inr (.inr (fun j => adO (s6 j)))))))]) (wr := [(roa, .inl (k 0, 40, .inl ro)), (coa, .inl (k 0, 40, .inl co)), (ura, .inl (k 0, 91, .inl ur)), (uca, .inl (k 0, 40, .inl uc))]) S hA [0, 1] [2, 3, 4, 5] rfl rfl (by decide) (by decide) (va_runV (As := [.int (nI qr), .int (nI qc)]) (rest := []) ⟨hx, hb, C.2.2.1, C.2.2.2.1, C.2.2.2.2.1⟩ (g_So_cell l G k h0 _ _ qr qc cea roa coa ura uca au ap al ar ae rw9 C9 fs9 tk9 N9 s6 Z6 hN ⟨hh6.1, hh6.2⟩ (by omega) (by omega) (by omega)) (k_virt (n := 2) C wc_So_cell rfl rfl wz_So wm_So_66 wn_So_cell ws_So_cell (by decide +kernel) ⟨(Nat.le_of_ble_eq_true rfl), (Nat.le_of_ble_eq_true rfl)⟩) (pr_nowVGP K S [0, 1] (by decide) rfl (List.mem_append_left _ (List.mem_of_getElem? (i := 0) rfl)) rfl) rfl rfl hl.1 rfl (lv_room (Nat.le_of_ble_eq_true rfl)) d_So_exchange_183 ⟨(show pt st N9 - pt s6 N9 + (pt s6 N9 + 10) ≤ pt st N9 + 400 from by omega), (show 2 * (pt st N9 - pt s6 N9) + (2 * pt s6 N9 + 20) ≤ 2 * pt st N9 + 800 from by omega)⟩) (fun c18 H locs hw19 S => ?_)
                have S : Sw G A s.heap _ _ ([(roa, .inl (k 0, 40, .inl ro)), (coa, .inl (k 0, 40, .inl co)), (ura, .inl (k 0, 91, .inl ur)), (uca, .inl (k 0, 40, .inl uc)), (h0, .inr (1, [.ref cea, .ref roa, .ref coa, .ref ura, .ref uca, .ref au, .ref ap, .ref al, .ref ar, .ref ae, .int (nI rw9), .int (nI C9), .int (nI fs9), .int (nI tk9)])), (cea, .inl (k 4, 3731, .inr (.inr (.inr (.inr (fun j => adO (c18.1 j)))))))] ++ (tpl k c18.1 N9)) := S
                have hw19 : hO c18.1 Z6 ∧ atO c18.1 (qr * (C9 + 1) + qc) c18.2 ∧ keO s6 c18.1 ∧ pt c18.1 N9 ≤ pt s6 N9 := hw19
                show W p l e _ s m _ below meth c H locs _ _ _ (F0 m 186 ls [.ref c18.2])
                obtain ⟨hh20, at21, ke22, pt23⟩ := hw19
                have lt24 := ix_lt (C := C9) (R := 91) (i := qr) (j := qc) (by omega) (by omega) (Nat.le_refl _) (by omega)
                refine lv_aload_n hx hb d_So_exchange_186 rfl (lv_at hl 2 rfl) ?_
                refine r_get C K S 4 rfl rfl clOk_So 5 (by decide) wf_So_31 (v := .ref au) rfl d_So_exchange_187 ?_
                have mb25 := Mb_le (qr * (C9 + 1) + qc)
                refine q_backP (wi := []) (wr := [(roa, .inl (k 0, 40, .inl ro)), (coa, .inl (k 0, 40, .inl co)), (ura, .inl (k 0, 91, .inl ur)), (uca, .inl (k 0, 40, .inl uc)), (h0, .inr (1, [.ref cea, .ref roa, .ref coa, .ref ura, .ref uca, .ref au, .ref ap, .ref al, .ref ar, .ref ae, .int (nI rw9), .int (nI C9), .int (nI fs9), .int (nI tk9)])), (cea, .inl (k 4, 3731, .inr (.inr (.inr (.inr (fun j => adO (c18.1 j)))))))]) S hA [] [0, 1, 2, 3, 4, 5] rfl rfl (by decide) (by decide) (va_runV (As := [.ref au]) (rest := []) ⟨hx, hb, C.2.2.1, C.2.2.2.1, C.2.2.2.2.1⟩ (g_P_copy l G k _ _ (qr * (C9 + 1) + qc) 3731 c18.2 au (Z6 3731) N9 c18.1 Z6 V0 hN hh20.1 (by omega) (by omega) at21 (ke22.at (hke6.at hU)) rfl (show V0 3731 from by unfold V0; omega) (by omega) (hh20.2 3731 (by omega) (by unfold V0; omega))) (k_virt (n := 1) C wc_Wh_copy rfl rfl wz_Wh wm_So_133 wn_Wh_copy ws_Wh_copy (by decide +kernel) ⟨(Nat.le_of_ble_eq_true rfl), (Nat.le_of_ble_eq_true rfl)⟩) (pr_nowVGP K S [] (by decide) rfl (Classical.choose_spec (at_mem at21 (show qr * (C9 + 1) + qc < N9 by omega))) rfl) rfl rfl hl.1 rfl (lv_room (Nat.le_of_ble_eq_true rfl)) d_So_exchange_190 ⟨(show pt st N9 - pt s6 N9 + (pt s6 N9 - pt c18.1 N9) + (Mb (qr * (C9 + 1) + qc)) ≤ pt st N9 + 400 from by omega), (show 2 * (pt st N9 - pt s6 N9) + (2 * (pt s6 N9 - pt c18.1 N9)) + (2 * Mb (qr * (C9 + 1) + qc)) ≤ 2 * pt st N9 + 800 from by omega)⟩) (fun st26 H locs hw27 S => ?_)
                have S : Sw G A s.heap _ _ ([(roa, .inl (k 0, 40, .inl ro)), (coa, .inl (k 0, 40, .inl co)), (ura, .inl (k 0, 91, .inl ur)), (uca, .inl (k 0, 40, .inl uc)), (h0, .inr (1, [.ref cea, .ref roa, .ref coa, .ref ura, .ref uca, .ref au, .ref ap, .ref al, .ref ar, .ref ae, .int (nI rw9), .int (nI C9), .int (nI fs9), .int (nI tk9)])), (cea, .inl (k 4, 3731, .inr (.inr (.inr (.inr (fun j => adO (c18.1 j)))))))] ++ (tpl k st26 N9)) := S
                have hw27 : gO st26 (va_up Z6 (qr * (C9 + 1) + qc) (Z6 3731)) (va_up V0 (qr * (C9 + 1) + qc) True) ∧ keO c18.1 st26 ∧ pt st26 N9 ≤ pt c18.1 N9 ∧ saO c18.1 st26 := hw27
                show W p l e _ s m _ below meth c H locs _ _ _ (F0 m 193 ls [])
                obtain ⟨g28, ke29, pt30, sa31⟩ := hw27
                have S : Sw G A s.heap H locs ([(roa, .inl (k 0, 40, .inl ro)), (coa, .inl (k 0, 40, .inl co)), (ura, .inl (k 0, 91, .inl ur)), (uca, .inl (k 0, 40, .inl uc)), (h0, .inr (1, [.ref cea, .ref roa, .ref coa, .ref ura, .ref uca, .ref au, .ref ap, .ref al, .ref ar, .ref ae, .int (nI rw9), .int (nI C9), .int (nI fs9), .int (nI tk9)])), (cea, .inl (k 4, 3731, .inr (.inr (.inr (.inr (fun j => adO (st26 j)))))))] ++ (tpl k st26 N9)) := by rw [show (fun j => adO (st26 j)) = _ from sa31]; exact S
                have hh32 : hO st26 (va_up Z6 (qr * (C9 + 1) + qc) (Z6 3731)) := hO_up1 g28 hh20.2 (hh20.2 3731 (by omega) (by unfold V0; omega))
                refine lv_aload_n hx hb d_So_exchange_193 rfl (lv_at hl 2 rfl) ?_
                refine r_get C K S 4 rfl rfl clOk_So 5 (by decide) wf_So_31 (v := .ref au) rfl d_So_exchange_194 ?_
                refine lv_aload_n hx hb d_So_exchange_197 rfl (lv_at hl 2 rfl) ?_
                refine r_get C K S 4 rfl rfl clOk_So 6 (by decide) wf_So_35 (v := .ref ap) rfl d_So_exchange_198 ?_
                have mb33 := Mb_le 3731
                refine q_backP (wi := []) (wr := [(roa, .inl (k 0, 40, .inl ro)), (coa, .inl (k 0, 40, .inl co)), (ura, .inl (k 0, 91, .inl ur)), (uca, .inl (k 0, 40, .inl uc)), (h0, .inr (1, [.ref cea, .ref roa, .ref coa, .ref ura, .ref uca, .ref au, .ref ap, .ref al, .ref ar, .ref ae, .int (nI rw9), .int (nI C9), .int (nI fs9), .int (nI tk9)])), (cea, .inl (k 4, 3731, .inr (.inr (.inr (.inr (fun j => adO (st26 j)))))))]) S hA [] [0, 1, 2, 3, 4, 5] rfl rfl (by decide) (by decide) (va_runV (As := [.ref ap]) (rest := []) ⟨hx, hb, C.2.2.1, C.2.2.2.1, C.2.2.2.2.1⟩ (g_P_copy l G k _ _ 3731 3732 au ap ((va_up Z6 (qr * (C9 + 1) + qc) (Z6 3731)) 3732) N9 st26 (va_up Z6 (qr * (C9 + 1) + qc) (Z6 3731)) V0 hN hh32.1 (by omega) (by omega) (ke29.at (ke22.at (hke6.at hU))) (ke29.at (ke22.at (hke6.at hP))) rfl (show V0 3732 from by unfold V0; omega) (by decide) (hh32.2 3732 (by omega) (by unfold V0; omega))) (k_virt (n := 1) C wc_Wh_copy rfl rfl wz_Wh wm_So_133 wn_Wh_copy ws_Wh_copy (by decide +kernel) ⟨(Nat.le_of_ble_eq_true rfl), (Nat.le_of_ble_eq_true rfl)⟩) (pr_nowVGP K S [] (by decide) rfl (Classical.choose_spec (at_mem (ke29.at (ke22.at (hke6.at hU))) (show 3731 < N9 by omega))) rfl) rfl rfl hl.1 rfl (lv_room (Nat.le_of_ble_eq_true rfl)) d_So_exchange_201 ⟨(show pt st N9 - pt s6 N9 + (pt s6 N9 - pt c18.1 N9) + (pt c18.1 N9 - pt st26 N9) + (Mb 3731) ≤ pt st N9 + 400 from by omega), (show 2 * (pt st N9 - pt s6 N9) + (2 * (pt s6 N9 - pt c18.1 N9)) + (2 * (pt c18.1 N9 - pt st26 N9)) + (2 * Mb 3731) ≤ 2 * pt st N9 + 800 from by omega)⟩) (fun st34 H locs hw35 S => ?_)
                have S : Sw G A s.heap _ _ ([(roa, .inl (k 0, 40, .inl ro)), (coa, .inl (k 0, 40, .inl co)), (ura, .inl (k 0, 91, .inl ur)), (uca, .inl (k 0, 40, .inl uc)), (h0, .inr (1, [.ref cea, .ref roa, .ref coa, .ref ura, .ref uca, .ref au, .ref ap, .ref al, .ref ar, .ref ae, .int (nI rw9), .int (nI C9), .int (nI fs9), .int (nI tk9)])), (cea, .inl (k 4, 3731, .inr (.inr (.inr (.inr (fun j => adO (st26 j)))))))] ++ (tpl k st34 N9)) := S
                have hw35 : gO st34 (va_up (va_up Z6 (qr * (C9 + 1) + qc) (Z6 3731)) 3731 ((va_up Z6 (qr * (C9 + 1) + qc) (Z6 3731)) 3732)) (va_up V0 3731 True) ∧ keO st26 st34 ∧ pt st34 N9 ≤ pt st26 N9 ∧ saO st26 st34 := hw35
                show W p l e _ s m _ below meth c H locs _ _ _ (F0 m 204 ls [])
                obtain ⟨g36, ke37, pt38, sa39⟩ := hw35
                have S : Sw G A s.heap H locs ([(roa, .inl (k 0, 40, .inl ro)), (coa, .inl (k 0, 40, .inl co)), (ura, .inl (k 0, 91, .inl ur)), (uca, .inl (k 0, 40, .inl uc)), (h0, .inr (1, [.ref cea, .ref roa, .ref coa, .ref ura, .ref uca, .ref au, .ref ap, .ref al, .ref ar, .ref ae, .int (nI rw9), .int (nI C9), .int (nI fs9), .int (nI tk9)])), (cea, .inl (k 4, 3731, .inr (.inr (.inr (.inr (fun j => adO (st34 j)))))))] ++ (tpl k st34 N9)) := by rw [show (fun j => adO (st34 j)) = _ from sa39]; exact S
                have hh40 : hO st34 (va_up (va_up Z6 (qr * (C9 + 1) + qc) (Z6 3731)) 3731 ((va_up Z6 (qr * (C9 + 1) + qc) (Z6 3731)) 3732)) := hO_up1 g36 hh32.2 (hh32.2 3732 (by omega) (by unfold V0; omega))
                refine lv_aload_n hx hb d_So_exchange_204 rfl (lv_at hl 2 rfl) ?_
                refine lv_iload_n hx hb d_So_exchange_205 rfl (lv_at hl 3 rfl) ?_
                refine lv_iload_n hx hb d_So_exchange_206 rfl (lv_at hl 4 rfl) ?_
                refine q_backP (wi := [(h0, .inr (1, [.ref cea, .ref roa, .ref coa, .ref ura, .ref uca, .ref au, .ref ap, .ref al, .ref ar, .ref ae, .int (nI rw9), .int (nI C9), .int (nI fs9), .int (nI tk9)])), (roa, .inl (k 0, 40, .inl ro)), (coa, .inl (k 0, 40, .inl co)), (ura, .inl (k 0, 91, .inl ur)), (uca, .inl (k 0, 40, .inl uc))]) (wr := [(cea, .inl (k 4, 3731, .inr (.inr (.inr (.inr (fun j => adO (st34 j)))))))]) S hA [4, 0, 1, 2, 3] [5] rfl rfl (by decide) (by decide) (va_runV (As := [.int (nI qr), .int (nI qc)]) (rest := []) ⟨hx, hb, C.2.2.1, C.2.2.2.1, C.2.2.2.2.1⟩ (cg_frame (tpl k st34 N9) (g_So_swapUnknowns l G k h0 _ _ qr qc cea roa coa ura uca au ap al ar ae rw9 C9 fs9 tk9 ro co ur uc hC hRw hso hqr hqc)) (k_virt (n := 2) C wc_So_swapUnknowns rfl rfl wz_So wm_So_144 wn_So_swapUnknowns ws_So_swapUnknowns (by decide +kernel) ⟨(Nat.le_of_ble_eq_true rfl), (Nat.le_of_ble_eq_true rfl)⟩) (pr_nowVGP K S [4, 0, 1, 2, 3] (by decide) rfl (List.mem_append_left _ (List.mem_of_getElem? (i := 4) rfl)) rfl) rfl rfl hl.1 rfl (lv_room (Nat.le_of_ble_eq_true rfl)) d_So_exchange_207 ⟨(show pt st N9 - pt s6 N9 + (pt s6 N9 - pt c18.1 N9) + (pt c18.1 N9 - pt st26 N9) + (pt st26 N9 - pt st34 N9) ≤ pt st N9 + 400 from by omega), (show 2 * (pt st N9 - pt s6 N9) + (2 * (pt s6 N9 - pt c18.1 N9)) + (2 * (pt c18.1 N9 - pt st26 N9)) + (2 * (pt st26 N9 - pt st34 N9)) ≤ 2 * pt st N9 + 800 from by omega)⟩) (fun sw9 H locs hw41 S => ?_)
                have S : Sw G A s.heap _ _ ([(cea, .inl (k 4, 3731, .inr (.inr (.inr (.inr (fun j => adO (st34 j))))))), (h0, .inr (1, [.ref cea, .ref roa, .ref coa, .ref ura, .ref uca, .ref au, .ref ap, .ref al, .ref ar, .ref ae, .int (nI rw9), .int (nI C9), .int (nI fs9), .int (nI tk9)])), (roa, .inl (k 0, 40, .inl sw9.1)), (coa, .inl (k 0, 40, .inl sw9.2.1)), (ura, .inl (k 0, 91, .inl sw9.2.2.1)), (uca, .inl (k 0, 40, .inl sw9.2.2.2))] ++ (tpl k st34 N9)) := S
                have hw41 : soO C9 rw9 sw9.1 sw9.2.2.1 sw9.2.2.2 := hw41
                show W p l e _ s m _ below meth c H locs _ _ _ (F0 m 210 ls [])
                have hsw9 := hw41
                have e8 : j9 = C9 + 1 := by omega
                rw [e8] at hng6
                have htn := ng_end htab hng6 hqr hqc hRw hC hpos
                have hzz : (va_up (va_up Z6 (qr * (C9 + 1) + qc) (Z6 3731)) 3731 ((va_up Z6 (qr * (C9 + 1) + qc) (Z6 3731)) 3732)) = va_up (va_up Z6 (qr * (C9 + 1) + qc) (Z 3731)) 3731 (Z (qr * (C9 + 1) + qc)) := by rw [hng6.2.2.1, va_up_ne _ _ (show 3732 ≠ qr * (C9 + 1) + qc by omega), hng6.2.2.2]
                rw [← hzz] at htn
                exact q_vret C K hsz (st34, (va_up (va_up Z6 (qr * (C9 + 1) + qc) (Z6 3731)) 3731 ((va_up Z6 (qr * (C9 + 1) + qc) (Z6 3731)) 3732)), sw9.1, sw9.2.1, sw9.2.2.1, sw9.2.2.2) (show hO st34 (va_up (va_up Z6 (qr * (C9 + 1) + qc) (Z6 3731)) 3731 ((va_up Z6 (qr * (C9 + 1) + qc) (Z6 3731)) 3732)) ∧ keO st st34 ∧ pt st34 N9 ≤ pt st N9 ∧ tabO C9 rw9 (va_up (va_up Z6 (qr * (C9 + 1) + qc) (Z6 3731)) 3731 ((va_up Z6 (qr * (C9 + 1) + qc) (Z6 3731)) 3732)) ∧ soO C9 rw9 sw9.1 sw9.2.2.1 sw9.2.2.2 from ⟨⟨hh40.1, hh40.2⟩, (((hke6.tr ke22).tr ke29).tr ke37), by omega, htn, hsw9⟩) (S.subP [1, 0, 2, 3, 4, 5] (by decide) rfl) d_So_exchange_210 (show pt st N9 - pt s6 N9 + (pt s6 N9 - pt c18.1 N9) + (pt c18.1 N9 - pt st26 N9) + (pt st26 N9 - pt st34 N9) ≤ pt st N9 - pt st34 N9 from by omega) (show 2 * (pt st N9 - pt s6 N9) + (2 * (pt s6 N9 - pt c18.1 N9)) + (2 * (pt c18.1 N9 - pt st26 N9)) + (2 * (pt st26 N9 - pt st34 N9)) ≤ 2 * (pt st N9 - pt st34 N9) from by omega) (show pt st N9 - pt s6 N9 + (pt s6 N9 - pt c18.1 N9) + (pt c18.1 N9 - pt st26 N9) + (pt st26 N9 - pt st34 N9) ≤ pt st N9 + 400 from by omega) (show 2 * (pt st N9 - pt s6 N9) + (2 * (pt s6 N9 - pt c18.1 N9)) + (2 * (pt c18.1 N9 - pt st26 N9)) + (2 * (pt st26 N9 - pt st34 N9)) ≤ 2 * pt st N9 + 800 from by omega)
              · refine lv_aload_n hx hb d_So_exchange_164 rfl (lv_at hl 2 rfl) ?_
                refine lv_iload_n hx hb d_So_exchange_165 rfl (lv_at hl 3 rfl) ?_
                refine lv_iload hx hb d_So_exchange_166 (lv_at hl 0 rfl) ?_
                refine q_backP (wi := [(h0, .inr (1, [.ref cea, .ref roa, .ref coa, .ref ura, .ref uca, .ref au, .ref ap, .ref al, .ref ar, .ref ae, .int (nI rw9), .int (nI C9), .int (nI fs9), .int (nI tk9)])), (cea, .inl (k 4, 3731, .inr (.inr (.inr (.inr (fun j => adO (s6 j)))))))]) (wr := [(roa, .inl (k 0, 40, .inl ro)), (coa, .inl (k 0, 40, .inl co)), (ura, .inl (k 0, 91, .inl ur)), (uca, .inl (k 0, 40, .inl uc))]) S hA [0, 1] [2, 3, 4, 5] rfl rfl (by decide) (by decide) (va_runV (As := [.int (nI qr), .int (nI j9)]) (rest := []) ⟨hx, hb, C.2.2.1, C.2.2.2.1, C.2.2.2.2.1⟩ (g_So_cell l G k h0 _ _ qr j9 cea roa coa ura uca au ap al ar ae rw9 C9 fs9 tk9 N9 s6 Z6 hN ⟨hh6.1, hh6.2⟩ (by omega) (by omega) (by omega)) (k_virt (n := 2) C wc_So_cell rfl rfl wz_So wm_So_66 wn_So_cell ws_So_cell (by decide +kernel) ⟨(Nat.le_of_ble_eq_true rfl), (Nat.le_of_ble_eq_true rfl)⟩) (pr_nowVGP K S [0, 1] (by decide) rfl (List.mem_append_left _ (List.mem_of_getElem? (i := 0) rfl)) rfl) rfl rfl hl.1 rfl (lv_room (Nat.le_of_ble_eq_true rfl)) d_So_exchange_168 ⟨(show pt st N9 - pt s6 N9 + (pt s6 N9 + 10) ≤ pt st N9 + 400 from by omega), (show 2 * (pt st N9 - pt s6 N9) + (2 * pt s6 N9 + 20) ≤ 2 * pt st N9 + 800 from by omega)⟩) (fun c42 H locs hw43 S => ?_)
                have S : Sw G A s.heap _ _ ([(roa, .inl (k 0, 40, .inl ro)), (coa, .inl (k 0, 40, .inl co)), (ura, .inl (k 0, 91, .inl ur)), (uca, .inl (k 0, 40, .inl uc)), (h0, .inr (1, [.ref cea, .ref roa, .ref coa, .ref ura, .ref uca, .ref au, .ref ap, .ref al, .ref ar, .ref ae, .int (nI rw9), .int (nI C9), .int (nI fs9), .int (nI tk9)])), (cea, .inl (k 4, 3731, .inr (.inr (.inr (.inr (fun j => adO (c42.1 j)))))))] ++ (tpl k c42.1 N9)) := S
                have hw43 : hO c42.1 Z6 ∧ atO c42.1 (qr * (C9 + 1) + j9) c42.2 ∧ keO s6 c42.1 ∧ pt c42.1 N9 ≤ pt s6 N9 := hw43
                show W p l e _ s m _ below meth c H locs _ _ _ (F0 m 171 ls [.ref c42.2])
                obtain ⟨hh44, at45, ke46, pt47⟩ := hw43
                have lt48 := ix_lt (C := C9) (R := 91) (i := qr) (j := j9) (by omega) (by omega) (Nat.le_refl _) (by omega)
                refine q_backP (wi := []) (wr := [(roa, .inl (k 0, 40, .inl ro)), (coa, .inl (k 0, 40, .inl co)), (ura, .inl (k 0, 91, .inl ur)), (uca, .inl (k 0, 40, .inl uc)), (h0, .inr (1, [.ref cea, .ref roa, .ref coa, .ref ura, .ref uca, .ref au, .ref ap, .ref al, .ref ar, .ref ae, .int (nI rw9), .int (nI C9), .int (nI fs9), .int (nI tk9)])), (cea, .inl (k 4, 3731, .inr (.inr (.inr (.inr (fun j => adO (c42.1 j)))))))]) S hA [] [0, 1, 2, 3, 4, 5] rfl rfl (by decide) (by decide) (va_runV (As := []) (rest := []) ⟨hx, hb, C.2.2.1, C.2.2.2.1, C.2.2.2.2.1⟩ (g_P_negate l G k _ _ (qr * (C9 + 1) + j9) c42.2 (Z6 (qr * (C9 + 1) + j9)) N9 c42.1 Z6 V0 hN hh44.1 (by omega) at45 rfl (show V0 (qr * (C9 + 1) + j9) from by unfold V0; omega)) (k_virt (n := 0) C wc_Wh_negate rfl rfl wz_Wh wm_So_141 wn_Wh_negate ws_Wh_negate (by decide +kernel) ⟨(Nat.le_of_ble_eq_true rfl), (Nat.le_of_ble_eq_true rfl)⟩) (pr_nowVGP K S [] (by decide) rfl (Classical.choose_spec (at_mem at45 (show qr * (C9 + 1) + j9 < N9 by omega))) rfl) rfl rfl hl.1 rfl (lv_room (Nat.le_of_ble_eq_true rfl)) d_So_exchange_171 ⟨(show pt st N9 - pt s6 N9 + (pt s6 N9 - pt c42.1 N9) ≤ pt st N9 + 400 from by omega), (show 2 * (pt st N9 - pt s6 N9) + (2 * (pt s6 N9 - pt c42.1 N9)) ≤ 2 * pt st N9 + 800 from by omega)⟩) (fun st49 H locs hw50 S => ?_)
                have S : Sw G A s.heap _ _ ([(roa, .inl (k 0, 40, .inl ro)), (coa, .inl (k 0, 40, .inl co)), (ura, .inl (k 0, 91, .inl ur)), (uca, .inl (k 0, 40, .inl uc)), (h0, .inr (1, [.ref cea, .ref roa, .ref coa, .ref ura, .ref uca, .ref au, .ref ap, .ref al, .ref ar, .ref ae, .int (nI rw9), .int (nI C9), .int (nI fs9), .int (nI tk9)])), (cea, .inl (k 4, 3731, .inr (.inr (.inr (.inr (fun j => adO (c42.1 j)))))))] ++ (tpl k st49 N9)) := S
                have hw50 : gO st49 (va_up Z6 (qr * (C9 + 1) + j9) (-((Z6 (qr * (C9 + 1) + j9))))) (va_up V0 (qr * (C9 + 1) + j9) True) ∧ keO c42.1 st49 ∧ pt st49 N9 ≤ pt c42.1 N9 ∧ saO c42.1 st49 := hw50
                show W p l e _ s m _ below meth c H locs _ _ _ (F0 m 174 ls [])
                obtain ⟨g51, ke52, pt53, sa54⟩ := hw50
                have S : Sw G A s.heap H locs ([(roa, .inl (k 0, 40, .inl ro)), (coa, .inl (k 0, 40, .inl co)), (ura, .inl (k 0, 91, .inl ur)), (uca, .inl (k 0, 40, .inl uc)), (h0, .inr (1, [.ref cea, .ref roa, .ref coa, .ref ura, .ref uca, .ref au, .ref ap, .ref al, .ref ar, .ref ae, .int (nI rw9), .int (nI C9), .int (nI fs9), .int (nI tk9)])), (cea, .inl (k 4, 3731, .inr (.inr (.inr (.inr (fun j => adO (st49 j)))))))] ++ (tpl k st49 N9)) := by rw [show (fun j => adO (st49 j)) = _ from sa54]; exact S
                have hh55 : hO st49 (va_up Z6 (qr * (C9 + 1) + j9) (-(Z6 (qr * (C9 + 1) + j9)))) := hO_up1 g51 hh44.2 (by rw [Int.natAbs_neg]; exact hh44.2 _ (by omega) (by unfold V0; omega))
                refine lv_iinc (v := nI (j9 + 1)) (lv' := [(4, .int (nI (j9 + 1))), (3, .int (nI sm9)), (0, .ref h0), (1, .int (nI qr)), (2, .int (nI qc))]) hx hb d_So_exchange_174 hl (k := 0) rfl (show nI j9 + Int32.ofInt 1 = nI (j9 + 1) from (nI_add j9 1).trans (congrArg nI (by omega))) (by decide) rfl (fun ls hl => ?_)
                refine lv_goto (tgt := 155) hx hb d_So_exchange_177 (by decide) ?_
                refine W.widen (show pt st N9 - pt s6 N9 + (pt s6 N9 - pt c42.1 N9) + (pt c42.1 N9 - pt st49 N9) ≤ pt st N9 - pt st49 N9 from by omega) (show 2 * (pt st N9 - pt s6 N9) + (2 * (pt s6 N9 - pt c42.1 N9)) + (2 * (pt c42.1 N9 - pt st49 N9)) ≤ 2 * (pt st N9 - pt st49 N9) from by omega) ?_
                exact ih_ln st49 (va_up Z6 (qr * (C9 + 1) + j9) (-(Z6 (qr * (C9 + 1) + j9)))) (j9 + 1) (by omega) ⟨hh55.1, hh55.2⟩ ((hke6.tr ke46).tr ke52) (by omega) (by omega) (ng_s hng6 hqr hRw hC (by omega)) _ _ (S.subP [4, 5, 0, 1, 2, 3] (by decide) rfl) ls (lv_sub hl [0, 1, 2, 3, 4] rfl)
          exact ln _ s8 Z8 0 (Nat.lt_succ_self _) ⟨hh8.1, hh8.2⟩ hke8 (by omega) (by omega) hn0 _ _ (S.subP [0, 1, 2, 3, 4, 5] (by decide) rfl) ls (lv_sub hl [0, 1, 2, 3, 4] rfl)
        · refine lv_aload_n hx hb d_So_exchange_45 rfl (lv_at hl 2 rfl) ?_
          refine lv_iload hx hb d_So_exchange_46 (lv_at hl 0 rfl) ?_
          refine lv_iload_n hx hb d_So_exchange_48 rfl (lv_at hl 4 rfl) ?_
          refine q_backP (wi := [(h0, .inr (1, [.ref cea, .ref roa, .ref coa, .ref ura, .ref uca, .ref au, .ref ap, .ref al, .ref ar, .ref ae, .int (nI rw9), .int (nI C9), .int (nI fs9), .int (nI tk9)])), (cea, .inl (k 4, 3731, .inr (.inr (.inr (.inr (fun j => adO (s8 j)))))))]) (wr := [(roa, .inl (k 0, 40, .inl ro)), (coa, .inl (k 0, 40, .inl co)), (ura, .inl (k 0, 91, .inl ur)), (uca, .inl (k 0, 40, .inl uc))]) S hA [0, 1] [2, 3, 4, 5] rfl rfl (by decide) (by decide) (va_runV (As := [.int (nI i9), .int (nI qc)]) (rest := []) ⟨hx, hb, C.2.2.1, C.2.2.2.1, C.2.2.2.2.1⟩ (g_So_cell l G k h0 _ _ i9 qc cea roa coa ura uca au ap al ar ae rw9 C9 fs9 tk9 N9 s8 Z8 hN ⟨hh8.1, hh8.2⟩ (by omega) (by omega) (by omega)) (k_virt (n := 2) C wc_So_cell rfl rfl wz_So wm_So_66 wn_So_cell ws_So_cell (by decide +kernel) ⟨(Nat.le_of_ble_eq_true rfl), (Nat.le_of_ble_eq_true rfl)⟩) (pr_nowVGP K S [0, 1] (by decide) rfl (List.mem_append_left _ (List.mem_of_getElem? (i := 0) rfl)) rfl) rfl rfl hl.1 rfl (lv_room (Nat.le_of_ble_eq_true rfl)) d_So_exchange_49 ⟨(show pt st N9 - pt s8 N9 + (pt s8 N9 + 10) ≤ pt st N9 + 400 from by omega), (show 2 * (pt st N9 - pt s8 N9) + (2 * pt s8 N9 + 20) ≤ 2 * pt st N9 + 800 from by omega)⟩) (fun c56 H locs hw57 S => ?_)
          have S : Sw G A s.heap _ _ ([(roa, .inl (k 0, 40, .inl ro)), (coa, .inl (k 0, 40, .inl co)), (ura, .inl (k 0, 91, .inl ur)), (uca, .inl (k 0, 40, .inl uc)), (h0, .inr (1, [.ref cea, .ref roa, .ref coa, .ref ura, .ref uca, .ref au, .ref ap, .ref al, .ref ar, .ref ae, .int (nI rw9), .int (nI C9), .int (nI fs9), .int (nI tk9)])), (cea, .inl (k 4, 3731, .inr (.inr (.inr (.inr (fun j => adO (c56.1 j)))))))] ++ (tpl k c56.1 N9)) := S
          have hw57 : hO c56.1 Z8 ∧ atO c56.1 (i9 * (C9 + 1) + qc) c56.2 ∧ keO s8 c56.1 ∧ pt c56.1 N9 ≤ pt s8 N9 := hw57
          show W p l e _ s m _ below meth c H locs _ _ _ (F0 m 52 ls [.ref c56.2])
          obtain ⟨hh58, at59, ke60, pt61⟩ := hw57
          have lt62 := ix_lt (C := C9) (R := 91) (i := i9) (j := qc) (by omega) (by omega) (Nat.le_refl _) (by omega)
          refine lv_astore (lv' := [(5, .ref c56.2), (4, .int (nI i9)), (3, .int (nI sm9)), (0, .ref h0), (1, .int (nI qr)), (2, .int (nI qc))]) hx hb d_So_exchange_52 hl (by decide) rfl (fun ls hl => ?_)
          have k79 : ∀ (ap9 : Nat), (ap9 ≤ 1) → (ap9 = 1 → i9 = qr ∨ (sm9 = 1 ∧ Z (i9 * (C9 + 1) + qc) = 0)) → (ap9 = 0 → i9 ≠ qr) → ∀ (H : Heap) (locs : List Loc), Sw G A s.heap H locs ([(roa, .inl (k 0, 40, .inl ro)), (coa, .inl (k 0, 40, .inl co)), (ura, .inl (k 0, 91, .inl ur)), (uca, .inl (k 0, 40, .inl uc)), (h0, .inr (1, [.ref cea, .ref roa, .ref coa, .ref ura, .ref uca, .ref au, .ref ap, .ref al, .ref ar, .ref ae, .int (nI rw9), .int (nI C9), .int (nI fs9), .int (nI tk9)])), (cea, .inl (k 4, 3731, .inr (.inr (.inr (.inr (fun j => adO (c56.1 j)))))))] ++ (tpl k c56.1 N9)) → ∀ ls : Array Slot, lv_has ls 8 [(6, .int (nI ap9)), (5, .ref c56.2), (4, .int (nI i9)), (3, .int (nI sm9)), (0, .ref h0), (1, .int (nI qr)), (2, .int (nI qc))] → W p l e { frames := 6, cells := pt st N9 + 400, slots := 2 * pt st N9 + 800, locals := 181 } s m [Value.ref h0, Value.int (nI qr), Value.int (nI qc)].toArray below meth c H locs (pt st N9 - pt s8 N9 + (pt s8 N9 - pt c56.1 N9)) (2 * (pt st N9 - pt s8 N9) + (2 * (pt s8 N9 - pt c56.1 N9))) (MQ below (va_Qg (fun (u : (Nat → Option wQ) × (Nat → Int) × (Nat → Int32) × (Nat → Int32) × (Nat → Int32) × (Nat → Int32)) => none) (fun (u : (Nat → Option wQ) × (Nat → Int) × (Nat → Int32) × (Nat → Int32) × (Nat → Int32) × (Nat → Int32)) => hO u.1 u.2.1 ∧ keO st u.1 ∧ pt u.1 N9 ≤ pt st N9 ∧ tabO C9 rw9 u.2.1 ∧ soO C9 rw9 u.2.2.1 u.2.2.2.2.1 u.2.2.2.2.2) (Pog G k A (fun (u : (Nat → Option wQ) × (Nat → Int) × (Nat → Int32) × (Nat → Int32) × (Nat → Int32) × (Nat → Int32)) => ([(h0, .inr (1, [.ref cea, .ref roa, .ref coa, .ref ura, .ref uca, .ref au, .ref ap, .ref al, .ref ar, .ref ae, .int (nI rw9), .int (nI C9), .int (nI fs9), .int (nI tk9)])), (cea, .inl (k 4, 3731, .inr (.inr (.inr (.inr (fun j => adO (u.1 j))))))), (roa, .inl (k 0, 40, .inl u.2.2.1)), (coa, .inl (k 0, 40, .inl u.2.2.2.1)), (ura, .inl (k 0, 91, .inl u.2.2.2.2.1)), (uca, .inl (k 0, 40, .inl u.2.2.2.2.2))] ++ (tpl k u.1 N9))) s0 sl (fun (u : (Nat → Option wQ) × (Nat → Int) × (Nat → Int32) × (Nat → Int32) × (Nat → Int32) × (Nat → Int32)) => pt st N9 - pt u.1 N9) (fun (u : (Nat → Option wQ) × (Nat → Int) × (Nat → Int32) × (Nat → Int32) × (Nat → Int32) × (Nat → Int32)) => 2 * (pt st N9 - pt u.1 N9))) A) [Value.ref h0, Value.int (nI qr), Value.int (nI qc)].toArray s (pt st N9 + 400) (2 * pt st N9 + 800) A) (F0 m 79 ls []) := by
            intro ap9 hap hap1 hap0 H locs S ls hl
            refine lv_iconst (v := 0) hx hb d_So_exchange_79 (by decide) ?_
            refine lv_istore (lv' := [(7, .int 0), (6, .int (nI ap9)), (5, .ref c56.2), (4, .int (nI i9)), (3, .int (nI sm9)), (0, .ref h0), (1, .int (nI qr)), (2, .int (nI qc))]) hx hb d_So_exchange_80 hl (by decide) rfl (fun ls hl => ?_)
            refine W.widen (show pt st N9 - pt s8 N9 + (pt s8 N9 - pt c56.1 N9) ≤ pt st N9 - pt c56.1 N9 from by omega) (show 2 * (pt st N9 - pt s8 N9) + (2 * (pt s8 N9 - pt c56.1 N9)) ≤ 2 * (pt st N9 - pt c56.1 N9) from by omega) ?_
            have li : ∀ d9, ∀ (s7 : Nat → Option wQ), ∀ (Z7 : Nat → Int), ∀ (j9 : Nat), (C9 + 1 - j9) < d9 → (hO s7 Z7) → (keO st s7) → (pt s7 N9 ≤ pt st N9) → (j9 ≤ C9 + 1) → (prO C9 rw9 qr qc Z Z7 i9 j9) → (atO s7 (i9 * (C9 + 1) + qc) c56.2) → (ap9 = 1 → j9 = 0) → (i9 < rw9) → ∀ (H : Heap) (locs : List Loc), Sw G A s.heap H locs ([(h0, .inr (1, [.ref cea, .ref roa, .ref coa, .ref ura, .ref uca, .ref au, .ref ap, .ref al, .ref ar, .ref ae, .int (nI rw9), .int (nI C9), .int (nI fs9), .int (nI tk9)])), (cea, .inl (k 4, 3731, .inr (.inr (.inr (.inr (fun j => adO (s7 j))))))), (roa, .inl (k 0, 40, .inl ro)), (coa, .inl (k 0, 40, .inl co)), (ura, .inl (k 0, 91, .inl ur)), (uca, .inl (k 0, 40, .inl uc))] ++ (tpl k s7 N9)) → ∀ ls : Array Slot, lv_has ls 8 [(7, .int (nI j9)), (6, .int (nI ap9)), (5, .ref c56.2), (4, .int (nI i9)), (3, .int (nI sm9)), (0, .ref h0), (1, .int (nI qr)), (2, .int (nI qc))] → W p l e { frames := 6, cells := pt st N9 + 400, slots := 2 * pt st N9 + 800, locals := 181 } s m [Value.ref h0, Value.int (nI qr), Value.int (nI qc)].toArray below meth c H locs (pt st N9 - pt s7 N9) (2 * (pt st N9 - pt s7 N9)) (MQ below (va_Qg (fun (u : (Nat → Option wQ) × (Nat → Int) × (Nat → Int32) × (Nat → Int32) × (Nat → Int32) × (Nat → Int32)) => none) (fun (u : (Nat → Option wQ) × (Nat → Int) × (Nat → Int32) × (Nat → Int32) × (Nat → Int32) × (Nat → Int32)) => hO u.1 u.2.1 ∧ keO st u.1 ∧ pt u.1 N9 ≤ pt st N9 ∧ tabO C9 rw9 u.2.1 ∧ soO C9 rw9 u.2.2.1 u.2.2.2.2.1 u.2.2.2.2.2) (Pog G k A (fun (u : (Nat → Option wQ) × (Nat → Int) × (Nat → Int32) × (Nat → Int32) × (Nat → Int32) × (Nat → Int32)) => ([(h0, .inr (1, [.ref cea, .ref roa, .ref coa, .ref ura, .ref uca, .ref au, .ref ap, .ref al, .ref ar, .ref ae, .int (nI rw9), .int (nI C9), .int (nI fs9), .int (nI tk9)])), (cea, .inl (k 4, 3731, .inr (.inr (.inr (.inr (fun j => adO (u.1 j))))))), (roa, .inl (k 0, 40, .inl u.2.2.1)), (coa, .inl (k 0, 40, .inl u.2.2.2.1)), (ura, .inl (k 0, 91, .inl u.2.2.2.2.1)), (uca, .inl (k 0, 40, .inl u.2.2.2.2.2))] ++ (tpl k u.1 N9))) s0 sl (fun (u : (Nat → Option wQ) × (Nat → Int) × (Nat → Int32) × (Nat → Int32) × (Nat → Int32) × (Nat → Int32)) => pt st N9 - pt u.1 N9) (fun (u : (Nat → Option wQ) × (Nat → Int) × (Nat → Int32) × (Nat → Int32) × (Nat → Int32) × (Nat → Int32)) => 2 * (pt st N9 - pt u.1 N9))) A) [Value.ref h0, Value.int (nI qr), Value.int (nI qc)].toArray s (pt st N9 + 400) (2 * pt st N9 + 800) A) (F0 m 82 ls []) := by
              intro d9
              induction d9 with
              | zero => intro s7 Z7 j9 hm; exact absurd hm (Nat.not_lt_zero _)
              | succ d9 ih_li =>
                intro s7 Z7 j9 hm hh7 hke7 hpt7 hj hpr7 hat7 haj hi7 H locs S ls hl
                have lt77 := ix_lt (C := C9) (R := 91) (i := i9) (j := qc) (by omega) (by omega) (Nat.le_refl _) (by omega)
                refine lv_iload hx hb d_So_exchange_82 (lv_at hl 0 rfl) ?_
                refine lv_aload_n hx hb d_So_exchange_84 rfl (lv_at hl 5 rfl) ?_
                refine r_get C K S 0 rfl rfl clOk_So 11 (by decide) wf_So_59 (v := .int (nI C9)) rfl d_So_exchange_85 ?_
                refine z_icmp_gt (a := j9) (b := C9) (tgt := 146) hx hb d_So_exchange_88 (by decide) (by omega) (by omega) (fun hc63 => ?_) (fun hc63 => ?_)
                · have hnx : prO C9 rw9 qr qc Z Z7 (i9 + 1) 0 := pr_row (by have e9 : j9 = C9 + 1 := (by omega); rw [e9] at hpr7; exact hpr7)
                  refine lv_iinc (v := nI (i9 + 1)) (lv' := [(4, .int (nI (i9 + 1))), (7, .int (nI j9)), (6, .int (nI ap9)), (5, .ref c56.2), (3, .int (nI sm9)), (0, .ref h0), (1, .int (nI qr)), (2, .int (nI qc))]) hx hb d_So_exchange_146 hl (k := 3) rfl (show nI i9 + Int32.ofInt 1 = nI (i9 + 1) from (nI_add i9 1).trans (congrArg nI (by omega))) (by decide) rfl (fun ls hl => ?_)
                  refine lv_goto (tgt := 36) hx hb d_So_exchange_149 (by decide) ?_
                  exact ih_lo s7 Z7 (i9 + 1) (by omega) ⟨hh7.1, hh7.2⟩ hke7 (by omega) (by omega) hnx _ _ (S.subP [0, 1, 2, 3, 4, 5] (by decide) rfl) ls (lv_sub hl [0, 4, 5, 6, 7] rfl)
                · refine lv_iload hx hb d_So_exchange_91 (lv_at hl 1 rfl) ?_
                  refine z_if_ne (a := ap9) (tgt := 146) hx hb d_So_exchange_93 (by decide) (by omega) (fun hc64 => ?_) (fun hc64 => ?_)
                  · have e0 : j9 = 0 := haj (by omega)
                    rw [e0] at hpr7
                    have hnx : prO C9 rw9 qr qc Z Z7 (i9 + 1) 0 := pr_apart hpr7 (fun _ q1 j _ _ => by rcases hap1 (by omega) with q | ⟨q2, q3⟩; exact absurd q q1; exact wv_same (tab_pos htab) (hsame q2) (Or.inl q3))
                    refine lv_iinc (v := nI (i9 + 1)) (lv' := [(4, .int (nI (i9 + 1))), (7, .int (nI j9)), (6, .int (nI ap9)), (5, .ref c56.2), (3, .int (nI sm9)), (0, .ref h0), (1, .int (nI qr)), (2, .int (nI qc))]) hx hb d_So_exchange_146 hl (k := 3) rfl (show nI i9 + Int32.ofInt 1 = nI (i9 + 1) from (nI_add i9 1).trans (congrArg nI (by omega))) (by decide) rfl (fun ls hl => ?_)
                    refine lv_goto (tgt := 36) hx hb d_So_exchange_149 (by decide) ?_
                    exact ih_lo s7 Z7 (i9 + 1) (by omega) ⟨hh7.1, hh7.2⟩ hke7 (by omega) (by omega) hnx _ _ (S.subP [0, 1, 2, 3, 4, 5] (by decide) rfl) ls (lv_sub hl [0, 4, 5, 6, 7] rfl)
                  · refine lv_iload hx hb d_So_exchange_96 (lv_at hl 0 rfl) ?_
                    refine lv_iload_n hx hb d_So_exchange_98 rfl (lv_at hl 7 rfl) ?_
                    refine z_icmp_eq (a := j9) (b := qc) (tgt := 140) hx hb d_So_exchange_99 (by decide) (by omega) (by omega) (fun hc65 => ?_) (fun hc65 => ?_)
                    · refine lv_iinc (v := nI (j9 + 1)) (lv' := [(7, .int (nI (j9 + 1))), (6, .int (nI ap9)), (5, .ref c56.2), (4, .int (nI i9)), (3, .int (nI sm9)), (0, .ref h0), (1, .int (nI qr)), (2, .int (nI qc))]) hx hb d_So_exchange_140 hl (k := 0) rfl (show nI j9 + Int32.ofInt 1 = nI (j9 + 1) from (nI_add j9 1).trans (congrArg nI (by omega))) (by decide) rfl (fun ls hl => ?_)
                      refine lv_goto (tgt := 82) hx hb d_So_exchange_143 (by decide) ?_
                      exact ih_li s7 Z7 (j9 + 1) (by omega) ⟨hh7.1, hh7.2⟩ hke7 (by omega) (by omega) (pr_skip hpr7 (fun _ _ _ q => absurd (show j9 = qc by omega) q)) hat7 (fun q => absurd q (by omega)) (by omega) _ _ (S.subP [0, 1, 2, 3, 4, 5] (by decide) rfl) ls (lv_sub hl [0, 1, 2, 3, 4, 5, 6, 7] rfl)
                    · refine lv_iload_n hx hb d_So_exchange_102 rfl (lv_at hl 4 rfl) ?_
                      refine z_if_eq (a := sm9) (tgt := 119) hx hb d_So_exchange_103 (by decide) (by omega) (fun hc66 => ?_) (fun hc66 => ?_)
                      · refine lv_aload_n hx hb d_So_exchange_119 rfl (lv_at hl 5 rfl) ?_
                        refine lv_aload_n hx hb d_So_exchange_120 rfl (lv_at hl 5 rfl) ?_
                        refine lv_iload hx hb d_So_exchange_121 (lv_at hl 3 rfl) ?_
                        refine lv_iload hx hb d_So_exchange_123 (lv_at hl 0 rfl) ?_
                        refine q_backP (wi := [(h0, .inr (1, [.ref cea, .ref roa, .ref coa, .ref ura, .ref uca, .ref au, .ref ap, .ref al, .ref ar, .ref ae, .int (nI rw9), .int (nI C9), .int (nI fs9), .int (nI tk9)])), (cea, .inl (k 4, 3731, .inr (.inr (.inr (.inr (fun j => adO (s7 j)))))))]) (wr := [(roa, .inl (k 0, 40, .inl ro)), (coa, .inl (k 0, 40, .inl co)), (ura, .inl (k 0, 91, .inl ur)), (uca, .inl (k 0, 40, .inl uc))]) S hA [0, 1] [2, 3, 4, 5] rfl rfl (by decide) (by decide) (va_runV (As := [.int (nI i9), .int (nI j9)]) (rest := [.ref h0]) ⟨hx, hb, C.2.2.1, C.2.2.2.1, C.2.2.2.2.1⟩ (g_So_cell l G k h0 _ _ i9 j9 cea roa coa ura uca au ap al ar ae rw9 C9 fs9 tk9 N9 s7 Z7 hN ⟨hh7.1, hh7.2⟩ (by omega) (by omega) (by omega)) (k_virt (n := 2) C wc_So_cell rfl rfl wz_So wm_So_66 wn_So_cell ws_So_cell (by decide +kernel) ⟨(Nat.le_of_ble_eq_true rfl), (Nat.le_of_ble_eq_true rfl)⟩) (pr_nowVGP K S [0, 1] (by decide) rfl (List.mem_append_left _ (List.mem_of_getElem? (i := 0) rfl)) rfl) rfl rfl hl.1 rfl (lv_room (Nat.le_of_ble_eq_true rfl)) d_So_exchange_125 ⟨(show pt st N9 - pt s7 N9 + (pt s7 N9 + 10) ≤ pt st N9 + 400 from by omega), (show 2 * (pt st N9 - pt s7 N9) + (2 * pt s7 N9 + 20) ≤ 2 * pt st N9 + 800 from by omega)⟩) (fun c67 H locs hw68 S => ?_)
                        have S : Sw G A s.heap _ _ ([(roa, .inl (k 0, 40, .inl ro)), (coa, .inl (k 0, 40, .inl co)), (ura, .inl (k 0, 91, .inl ur)), (uca, .inl (k 0, 40, .inl uc)), (h0, .inr (1, [.ref cea, .ref roa, .ref coa, .ref ura, .ref uca, .ref au, .ref ap, .ref al, .ref ar, .ref ae, .int (nI rw9), .int (nI C9), .int (nI fs9), .int (nI tk9)])), (cea, .inl (k 4, 3731, .inr (.inr (.inr (.inr (fun j => adO (c67.1 j)))))))] ++ (tpl k c67.1 N9)) := S
                        have hw68 : hO c67.1 Z7 ∧ atO c67.1 (i9 * (C9 + 1) + j9) c67.2 ∧ keO s7 c67.1 ∧ pt c67.1 N9 ≤ pt s7 N9 := hw68
                        show W p l e _ s m _ below meth c H locs _ _ _ (F0 m 128 ls [.ref c67.2, .ref h0])
                        obtain ⟨hh69, at70, ke71, pt72⟩ := hw68
                        have lt73 := ix_lt (C := C9) (R := 91) (i := i9) (j := j9) (by omega) (by omega) (Nat.le_refl _) (by omega)
                        refine lv_aload hx hb d_So_exchange_128 (lv_at hl 2 rfl) ?_
                        refine lv_aload_n hx hb d_So_exchange_130 rfl (lv_at hl 5 rfl) ?_
                        refine lv_iload_n hx hb d_So_exchange_131 rfl (lv_at hl 6 rfl) ?_
                        refine lv_iload hx hb d_So_exchange_132 (lv_at hl 0 rfl) ?_
                        refine q_backP (wi := [(h0, .inr (1, [.ref cea, .ref roa, .ref coa, .ref ura, .ref uca, .ref au, .ref ap, .ref al, .ref ar, .ref ae, .int (nI rw9), .int (nI C9), .int (nI fs9), .int (nI tk9)])), (cea, .inl (k 4, 3731, .inr (.inr (.inr (.inr (fun j => adO (c67.1 j)))))))]) (wr := [(roa, .inl (k 0, 40, .inl ro)), (coa, .inl (k 0, 40, .inl co)), (ura, .inl (k 0, 91, .inl ur)), (uca, .inl (k 0, 40, .inl uc))]) S hA [4, 5] [0, 1, 2, 3] rfl rfl (by decide) (by decide) (va_runV (As := [.int (nI qr), .int (nI j9)]) (rest := [.ref c56.2, .ref c67.2, .ref h0]) ⟨hx, hb, C.2.2.1, C.2.2.2.1, C.2.2.2.2.1⟩ (g_So_cell l G k h0 _ _ qr j9 cea roa coa ura uca au ap al ar ae rw9 C9 fs9 tk9 N9 c67.1 Z7 hN ⟨hh69.1, hh69.2⟩ (by omega) (by omega) (by omega)) (k_virt (n := 2) C wc_So_cell rfl rfl wz_So wm_So_66 wn_So_cell ws_So_cell (by decide +kernel) ⟨(Nat.le_of_ble_eq_true rfl), (Nat.le_of_ble_eq_true rfl)⟩) (pr_nowVGP K S [4, 5] (by decide) rfl (List.mem_append_left _ (List.mem_of_getElem? (i := 4) rfl)) rfl) rfl rfl hl.1 rfl (lv_room (Nat.le_of_ble_eq_true rfl)) d_So_exchange_134 ⟨(show pt st N9 - pt s7 N9 + (pt s7 N9 - pt c67.1 N9) + (pt c67.1 N9 + 10) ≤ pt st N9 + 400 from by omega), (show 2 * (pt st N9 - pt s7 N9) + (2 * (pt s7 N9 - pt c67.1 N9)) + (2 * pt c67.1 N9 + 20) ≤ 2 * pt st N9 + 800 from by omega)⟩) (fun c74 H locs hw75 S => ?_)
                        have S : Sw G A s.heap _ _ ([(roa, .inl (k 0, 40, .inl ro)), (coa, .inl (k 0, 40, .inl co)), (ura, .inl (k 0, 91, .inl ur)), (uca, .inl (k 0, 40, .inl uc)), (h0, .inr (1, [.ref cea, .ref roa, .ref coa, .ref ura, .ref uca, .ref au, .ref ap, .ref al, .ref ar, .ref ae, .int (nI rw9), .int (nI C9), .int (nI fs9), .int (nI tk9)])), (cea, .inl (k 4, 3731, .inr (.inr (.inr (.inr (fun j => adO (c74.1 j)))))))] ++ (tpl k c74.1 N9)) := S
                        have hw75 : hO c74.1 Z7 ∧ atO c74.1 (qr * (C9 + 1) + j9) c74.2 ∧ keO c67.1 c74.1 ∧ pt c74.1 N9 ≤ pt c67.1 N9 := hw75
                        show W p l e _ s m _ below meth c H locs _ _ _ (F0 m 137 ls [.ref c74.2, .ref c56.2, .ref c67.2, .ref h0])
                        obtain ⟨hh76, at77, ke78, pt79⟩ := hw75
                        have lt80 := ix_lt (C := C9) (R := 91) (i := qr) (j := j9) (by omega) (by omega) (Nat.le_refl _) (by omega)
                        obtain ⟨tw1, tw2⟩ := tab_W htab hC hqr hqc (i := i9) (j := j9) hi7 (by omega) (by omega)
                        have ex1 := pr_at hpr7 (i := i9) (j := j9) hi7 (by omega) (by omega)
                        have ey1 := pr_at hpr7 (i := i9) (j := qc) hi7 (by omega) (by omega)
                        have ez1 := pr_at hpr7 (i := qr) (j := j9) hqr (by omega) (by omega)
                        refine q_backP (wi := [(h0, .inr (1, [.ref cea, .ref roa, .ref coa, .ref ura, .ref uca, .ref au, .ref ap, .ref al, .ref ar, .ref ae, .int (nI rw9), .int (nI C9), .int (nI fs9), .int (nI tk9)]))]) (wr := [(roa, .inl (k 0, 40, .inl ro)), (coa, .inl (k 0, 40, .inl co)), (ura, .inl (k 0, 91, .inl ur)), (uca, .inl (k 0, 40, .inl uc)), (cea, .inl (k 4, 3731, .inr (.inr (.inr (.inr (fun j => adO (c74.1 j)))))))]) S hA [4] [0, 1, 2, 3, 5] rfl rfl (by decide) (by decide) (va_runV (As := [.ref c67.2, .ref c56.2, .ref c74.2]) (rest := []) ⟨hx, hb, C.2.2.1, C.2.2.2.1, C.2.2.2.2.1⟩ (g_So_put l G k h0 _ _ (i9 * (C9 + 1) + j9) (i9 * (C9 + 1) + qc) (qr * (C9 + 1) + j9) c67.2 c56.2 c74.2 (wv C9 qr qc Z i9 j9) cea roa coa ura uca au ap al ar ae rw9 C9 fs9 tk9 N9 c74.1 Z7 hN ⟨hh76.1, hh76.2⟩ (ke78.at (ke71.at (hke7.at hU))) (ke78.at (ke71.at (hke7.at hP))) (ke78.at (ke71.at (hke7.at hL))) (ke78.at (ke71.at (hke7.at hR))) (ke78.at (ke71.at (hke7.at hE))) (by omega) (by omega) (by omega) (ke78.at at70) (ke78.at (ke71.at hat7)) at77 (by exact ix_ne (by omega) (by omega) (by omega)) (by exact ix_ne (by omega) (by omega) (by omega)) (by exact ix_ne (by omega) (by omega) (by omega)) (by rw [hpr7.2.1]; have := tab_pos htab; omega) (by rw [ex1, ey1, ez1, hpr7.2.1, hpr7.2.2, Int.mul_comm (Z (i9 * (C9 + 1) + j9))]; exact tw1) tw2) (k_virt (n := 3) C wc_So_put rfl rfl wz_So wm_So_137 wn_So_put ws_So_put (by decide +kernel) ⟨(Nat.le_of_ble_eq_true rfl), (Nat.le_of_ble_eq_true rfl)⟩) (pr_nowVGP K S [4] (by decide) rfl (List.mem_append_left _ (List.mem_of_getElem? (i := 4) rfl)) rfl) rfl rfl hl.1 rfl (lv_room (Nat.le_of_ble_eq_true rfl)) d_So_exchange_137 ⟨(show pt st N9 - pt s7 N9 + (pt s7 N9 - pt c67.1 N9) + (pt c67.1 N9 - pt c74.1 N9) + (pt c74.1 N9 + 400) ≤ pt st N9 + 400 from by omega), (show 2 * (pt st N9 - pt s7 N9) + (2 * (pt s7 N9 - pt c67.1 N9)) + (2 * (pt c67.1 N9 - pt c74.1 N9)) + (2 * pt c74.1 N9 + 800) ≤ 2 * pt st N9 + 800 from by omega)⟩) (fun sp81 H locs hw82 S => ?_)
                        have S : Sw G A s.heap _ _ ([(roa, .inl (k 0, 40, .inl ro)), (coa, .inl (k 0, 40, .inl co)), (ura, .inl (k 0, 91, .inl ur)), (uca, .inl (k 0, 40, .inl uc)), (cea, .inl (k 4, 3731, .inr (.inr (.inr (.inr (fun j => adO (c74.1 j))))))), (h0, .inr (1, [.ref cea, .ref roa, .ref coa, .ref ura, .ref uca, .ref au, .ref ap, .ref al, .ref ar, .ref ae, .int (nI rw9), .int (nI C9), .int (nI fs9), .int (nI tk9)]))] ++ (tpl k sp81 N9)) := S
                        have hw82 : hO sp81 (va_up Z7 (i9 * (C9 + 1) + j9) (wv C9 qr qc Z i9 j9)) ∧ keO c74.1 sp81 ∧ pt sp81 N9 ≤ pt c74.1 N9 ∧ saO c74.1 sp81 := hw82
                        show W p l e _ s m _ below meth c H locs _ _ _ (F0 m 140 ls [])
                        obtain ⟨hh83, ke84, pt85, sa86⟩ := hw82
                        have S : Sw G A s.heap H locs ([(roa, .inl (k 0, 40, .inl ro)), (coa, .inl (k 0, 40, .inl co)), (ura, .inl (k 0, 91, .inl ur)), (uca, .inl (k 0, 40, .inl uc)), (cea, .inl (k 4, 3731, .inr (.inr (.inr (.inr (fun j => adO (sp81 j))))))), (h0, .inr (1, [.ref cea, .ref roa, .ref coa, .ref ura, .ref uca, .ref au, .ref ap, .ref al, .ref ar, .ref ae, .int (nI rw9), .int (nI C9), .int (nI fs9), .int (nI tk9)]))] ++ (tpl k sp81 N9)) := by rw [show (fun j => adO (sp81 j)) = _ from sa86]; exact S
                        refine lv_iinc (v := nI (j9 + 1)) (lv' := [(7, .int (nI (j9 + 1))), (6, .int (nI ap9)), (5, .ref c56.2), (4, .int (nI i9)), (3, .int (nI sm9)), (0, .ref h0), (1, .int (nI qr)), (2, .int (nI qc))]) hx hb d_So_exchange_140 hl (k := 0) rfl (show nI j9 + Int32.ofInt 1 = nI (j9 + 1) from (nI_add j9 1).trans (congrArg nI (by omega))) (by decide) rfl (fun ls hl => ?_)
                        refine lv_goto (tgt := 82) hx hb d_So_exchange_143 (by decide) ?_
                        refine W.widen (show pt st N9 - pt s7 N9 + (pt s7 N9 - pt c67.1 N9) + (pt c67.1 N9 - pt c74.1 N9) + (pt c74.1 N9 - pt sp81 N9) ≤ pt st N9 - pt sp81 N9 from by omega) (show 2 * (pt st N9 - pt s7 N9) + (2 * (pt s7 N9 - pt c67.1 N9)) + (2 * (pt c67.1 N9 - pt c74.1 N9)) + (2 * (pt c74.1 N9 - pt sp81 N9)) ≤ 2 * (pt st N9 - pt sp81 N9) from by omega) ?_
                        exact ih_li sp81 (va_up Z7 (i9 * (C9 + 1) + j9) (wv C9 qr qc Z i9 j9)) (j9 + 1) (by omega) ⟨hh83.1, hh83.2⟩ (((hke7.tr ke71).tr ke78).tr ke84) (by omega) (by omega) (pr_put2 hpr7 hRw hC hi7 (by omega) (by omega) (by omega)) (ke84.at (ke78.at (ke71.at hat7))) (fun q => absurd q (by omega)) (by omega) _ _ (S.subP [5, 4, 0, 1, 2, 3] (by decide) rfl) ls (lv_sub hl [0, 1, 2, 3, 4, 5, 6, 7] rfl)
                      · refine lv_aload_n hx hb d_So_exchange_106 rfl (lv_at hl 5 rfl) ?_
                        refine lv_iload_n hx hb d_So_exchange_107 rfl (lv_at hl 6 rfl) ?_
                        refine lv_iload hx hb d_So_exchange_108 (lv_at hl 0 rfl) ?_
                        refine q_backP (wi := [(h0, .inr (1, [.ref cea, .ref roa, .ref coa, .ref ura, .ref uca, .ref au, .ref ap, .ref al, .ref ar, .ref ae, .int (nI rw9), .int (nI C9), .int (nI fs9), .int (nI tk9)])), (cea, .inl (k 4, 3731, .inr (.inr (.inr (.inr (fun j => adO (s7 j)))))))]) (wr := [(roa, .inl (k 0, 40, .inl ro)), (coa, .inl (k 0, 40, .inl co)), (ura, .inl (k 0, 91, .inl ur)), (uca, .inl (k 0, 40, .inl uc))]) S hA [0, 1] [2, 3, 4, 5] rfl rfl (by decide) (by decide) (va_runV (As := [.int (nI qr), .int (nI j9)]) (rest := []) ⟨hx, hb, C.2.2.1, C.2.2.2.1, C.2.2.2.2.1⟩ (g_So_cell l G k h0 _ _ qr j9 cea roa coa ura uca au ap al ar ae rw9 C9 fs9 tk9 N9 s7 Z7 hN ⟨hh7.1, hh7.2⟩ (by omega) (by omega) (by omega)) (k_virt (n := 2) C wc_So_cell rfl rfl wz_So wm_So_66 wn_So_cell ws_So_cell (by decide +kernel) ⟨(Nat.le_of_ble_eq_true rfl), (Nat.le_of_ble_eq_true rfl)⟩) (pr_nowVGP K S [0, 1] (by decide) rfl (List.mem_append_left _ (List.mem_of_getElem? (i := 0) rfl)) rfl) rfl rfl hl.1 rfl (lv_room (Nat.le_of_ble_eq_true rfl)) d_So_exchange_110 ⟨(show pt st N9 - pt s7 N9 + (pt s7 N9 + 10) ≤ pt st N9 + 400 from by omega), (show 2 * (pt st N9 - pt s7 N9) + (2 * pt s7 N9 + 20) ≤ 2 * pt st N9 + 800 from by omega)⟩) (fun c87 H locs hw88 S => ?_)
                        have S : Sw G A s.heap _ _ ([(roa, .inl (k 0, 40, .inl ro)), (coa, .inl (k 0, 40, .inl co)), (ura, .inl (k 0, 91, .inl ur)), (uca, .inl (k 0, 40, .inl uc)), (h0, .inr (1, [.ref cea, .ref roa, .ref coa, .ref ura, .ref uca, .ref au, .ref ap, .ref al, .ref ar, .ref ae, .int (nI rw9), .int (nI C9), .int (nI fs9), .int (nI tk9)])), (cea, .inl (k 4, 3731, .inr (.inr (.inr (.inr (fun j => adO (c87.1 j)))))))] ++ (tpl k c87.1 N9)) := S
                        have hw88 : hO c87.1 Z7 ∧ atO c87.1 (qr * (C9 + 1) + j9) c87.2 ∧ keO s7 c87.1 ∧ pt c87.1 N9 ≤ pt s7 N9 := hw88
                        show W p l e _ s m _ below meth c H locs _ _ _ (F0 m 113 ls [.ref c87.2])
                        obtain ⟨hh89, at90, ke91, pt92⟩ := hw88
                        have lt93 := ix_lt (C := C9) (R := 91) (i := qr) (j := j9) (by omega) (by omega) (Nat.le_refl _) (by omega)
                        refine q_backP (wi := []) (wr := [(roa, .inl (k 0, 40, .inl ro)), (coa, .inl (k 0, 40, .inl co)), (ura, .inl (k 0, 91, .inl ur)), (uca, .inl (k 0, 40, .inl uc)), (h0, .inr (1, [.ref cea, .ref roa, .ref coa, .ref ura, .ref uca, .ref au, .ref ap, .ref al, .ref ar, .ref ae, .int (nI rw9), .int (nI C9), .int (nI fs9), .int (nI tk9)])), (cea, .inl (k 4, 3731, .inr (.inr (.inr (.inr (fun j => adO (c87.1 j)))))))]) S hA [] [0, 1, 2, 3, 4, 5] rfl rfl (by decide) (by decide) (va_runV (As := []) (rest := []) ⟨hx, hb, C.2.2.1, C.2.2.2.1, C.2.2.2.2.1⟩ (g_P_sign l G k _ _ (qr * (C9 + 1) + j9) c87.2 (Z7 (qr * (C9 + 1) + j9)) N9 c87.1 Z7 V0 hN hh89.1 (by omega) at90 rfl (show V0 (qr * (C9 + 1) + j9) from by unfold V0; omega)) (k_virt (n := 0) C wc_Wh_sign rfl rfl wz_Wh wm_So_101 wn_Wh_sign ws_Wh_sign (by decide +kernel) ⟨(Nat.le_of_ble_eq_true rfl), (Nat.le_of_ble_eq_true rfl)⟩) (pr_nowVGP K S [] (by decide) rfl (Classical.choose_spec (at_mem at90 (show qr * (C9 + 1) + j9 < N9 by omega))) rfl) rfl rfl hl.1 rfl (lv_room (Nat.le_of_ble_eq_true rfl)) d_So_exchange_113 ⟨(show pt st N9 - pt s7 N9 + (pt s7 N9 - pt c87.1 N9) ≤ pt st N9 + 400 from by omega), (show 2 * (pt st N9 - pt s7 N9) + (2 * (pt s7 N9 - pt c87.1 N9)) ≤ 2 * pt st N9 + 800 from by omega)⟩) (fun u94 H locs hw95 S => ?_)
                        have S : Sw G A s.heap _ _ ([(roa, .inl (k 0, 40, .inl ro)), (coa, .inl (k 0, 40, .inl co)), (ura, .inl (k 0, 91, .inl ur)), (uca, .inl (k 0, 40, .inl uc)), (h0, .inr (1, [.ref cea, .ref roa, .ref coa, .ref ura, .ref uca, .ref au, .ref ap, .ref al, .ref ar, .ref ae, .int (nI rw9), .int (nI C9), .int (nI fs9), .int (nI tk9)])), (cea, .inl (k 4, 3731, .inr (.inr (.inr (.inr (fun j => adO (c87.1 j)))))))] ++ (tpl k c87.1 N9)) := S
                        have hw95 : True := hw95
                        show W p l e _ s m _ below meth c H locs _ _ _ (F0 m 116 ls [.int (sgI ((Z7 (qr * (C9 + 1) + j9))))])
                        refine lv_if_eq (tgt := 140) hx hb d_So_exchange_116 (by decide) (fun hc96 => ?_) (fun hc96 => ?_)
                        · refine lv_iinc (v := nI (j9 + 1)) (lv' := [(7, .int (nI (j9 + 1))), (6, .int (nI ap9)), (5, .ref c56.2), (4, .int (nI i9)), (3, .int (nI sm9)), (0, .ref h0), (1, .int (nI qr)), (2, .int (nI qc))]) hx hb d_So_exchange_140 hl (k := 0) rfl (show nI j9 + Int32.ofInt 1 = nI (j9 + 1) from (nI_add j9 1).trans (congrArg nI (by omega))) (by decide) rfl (fun ls hl => ?_)
                          refine lv_goto (tgt := 82) hx hb d_So_exchange_143 (by decide) ?_
                          refine W.widen (show pt st N9 - pt s7 N9 + (pt s7 N9 - pt c87.1 N9) ≤ pt st N9 - pt c87.1 N9 from by omega) (show 2 * (pt st N9 - pt s7 N9) + (2 * (pt s7 N9 - pt c87.1 N9)) ≤ 2 * (pt st N9 - pt c87.1 N9) from by omega) ?_
                          exact ih_li c87.1 Z7 (j9 + 1) (by omega) ⟨hh89.1, hh89.2⟩ (hke7.tr ke91) (by omega) (by omega) (pr_skip hpr7 (fun _ _ _ _ => wv_same (tab_pos htab) (hsame (by omega)) (Or.inr (by rw [← pr_at hpr7 (show qr < rw9 by omega) (show j9 ≤ C9 by omega) (by omega)]; exact sgn_0.mp hc96)))) (ke91.at hat7) (fun q => absurd q (by omega)) (by omega) _ _ (S.subP [4, 5, 0, 1, 2, 3] (by decide) rfl) ls (lv_sub hl [0, 1, 2, 3, 4, 5, 6, 7] rfl)
                        · refine lv_aload_n hx hb d_So_exchange_119 rfl (lv_at hl 5 rfl) ?_
                          refine lv_aload_n hx hb d_So_exchange_120 rfl (lv_at hl 5 rfl) ?_
                          refine lv_iload hx hb d_So_exchange_121 (lv_at hl 3 rfl) ?_
                          refine lv_iload hx hb d_So_exchange_123 (lv_at hl 0 rfl) ?_
                          refine q_backP (wi := [(h0, .inr (1, [.ref cea, .ref roa, .ref coa, .ref ura, .ref uca, .ref au, .ref ap, .ref al, .ref ar, .ref ae, .int (nI rw9), .int (nI C9), .int (nI fs9), .int (nI tk9)])), (cea, .inl (k 4, 3731, .inr (.inr (.inr (.inr (fun j => adO (c87.1 j)))))))]) (wr := [(roa, .inl (k 0, 40, .inl ro)), (coa, .inl (k 0, 40, .inl co)), (ura, .inl (k 0, 91, .inl ur)), (uca, .inl (k 0, 40, .inl uc))]) S hA [4, 5] [0, 1, 2, 3] rfl rfl (by decide) (by decide) (va_runV (As := [.int (nI i9), .int (nI j9)]) (rest := [.ref h0]) ⟨hx, hb, C.2.2.1, C.2.2.2.1, C.2.2.2.2.1⟩ (g_So_cell l G k h0 _ _ i9 j9 cea roa coa ura uca au ap al ar ae rw9 C9 fs9 tk9 N9 c87.1 Z7 hN ⟨hh89.1, hh89.2⟩ (by omega) (by omega) (by omega)) (k_virt (n := 2) C wc_So_cell rfl rfl wz_So wm_So_66 wn_So_cell ws_So_cell (by decide +kernel) ⟨(Nat.le_of_ble_eq_true rfl), (Nat.le_of_ble_eq_true rfl)⟩) (pr_nowVGP K S [4, 5] (by decide) rfl (List.mem_append_left _ (List.mem_of_getElem? (i := 4) rfl)) rfl) rfl rfl hl.1 rfl (lv_room (Nat.le_of_ble_eq_true rfl)) d_So_exchange_125 ⟨(show pt st N9 - pt s7 N9 + (pt s7 N9 - pt c87.1 N9) + (pt c87.1 N9 + 10) ≤ pt st N9 + 400 from by omega), (show 2 * (pt st N9 - pt s7 N9) + (2 * (pt s7 N9 - pt c87.1 N9)) + (2 * pt c87.1 N9 + 20) ≤ 2 * pt st N9 + 800 from by omega)⟩) (fun c97 H locs hw98 S => ?_)
                          have S : Sw G A s.heap _ _ ([(roa, .inl (k 0, 40, .inl ro)), (coa, .inl (k 0, 40, .inl co)), (ura, .inl (k 0, 91, .inl ur)), (uca, .inl (k 0, 40, .inl uc)), (h0, .inr (1, [.ref cea, .ref roa, .ref coa, .ref ura, .ref uca, .ref au, .ref ap, .ref al, .ref ar, .ref ae, .int (nI rw9), .int (nI C9), .int (nI fs9), .int (nI tk9)])), (cea, .inl (k 4, 3731, .inr (.inr (.inr (.inr (fun j => adO (c97.1 j)))))))] ++ (tpl k c97.1 N9)) := S
                          have hw98 : hO c97.1 Z7 ∧ atO c97.1 (i9 * (C9 + 1) + j9) c97.2 ∧ keO c87.1 c97.1 ∧ pt c97.1 N9 ≤ pt c87.1 N9 := hw98
                          show W p l e _ s m _ below meth c H locs _ _ _ (F0 m 128 ls [.ref c97.2, .ref h0])
                          obtain ⟨hh99, at100, ke101, pt102⟩ := hw98
                          have lt103 := ix_lt (C := C9) (R := 91) (i := i9) (j := j9) (by omega) (by omega) (Nat.le_refl _) (by omega)
                          refine lv_aload hx hb d_So_exchange_128 (lv_at hl 2 rfl) ?_
                          refine lv_aload_n hx hb d_So_exchange_130 rfl (lv_at hl 5 rfl) ?_
                          refine lv_iload_n hx hb d_So_exchange_131 rfl (lv_at hl 6 rfl) ?_
                          refine lv_iload hx hb d_So_exchange_132 (lv_at hl 0 rfl) ?_
                          refine q_backP (wi := [(h0, .inr (1, [.ref cea, .ref roa, .ref coa, .ref ura, .ref uca, .ref au, .ref ap, .ref al, .ref ar, .ref ae, .int (nI rw9), .int (nI C9), .int (nI fs9), .int (nI tk9)])), (cea, .inl (k 4, 3731, .inr (.inr (.inr (.inr (fun j => adO (c97.1 j)))))))]) (wr := [(roa, .inl (k 0, 40, .inl ro)), (coa, .inl (k 0, 40, .inl co)), (ura, .inl (k 0, 91, .inl ur)), (uca, .inl (k 0, 40, .inl uc))]) S hA [4, 5] [0, 1, 2, 3] rfl rfl (by decide) (by decide) (va_runV (As := [.int (nI qr), .int (nI j9)]) (rest := [.ref c56.2, .ref c97.2, .ref h0]) ⟨hx, hb, C.2.2.1, C.2.2.2.1, C.2.2.2.2.1⟩ (g_So_cell l G k h0 _ _ qr j9 cea roa coa ura uca au ap al ar ae rw9 C9 fs9 tk9 N9 c97.1 Z7 hN ⟨hh99.1, hh99.2⟩ (by omega) (by omega) (by omega)) (k_virt (n := 2) C wc_So_cell rfl rfl wz_So wm_So_66 wn_So_cell ws_So_cell (by decide +kernel) ⟨(Nat.le_of_ble_eq_true rfl), (Nat.le_of_ble_eq_true rfl)⟩) (pr_nowVGP K S [4, 5] (by decide) rfl (List.mem_append_left _ (List.mem_of_getElem? (i := 4) rfl)) rfl) rfl rfl hl.1 rfl (lv_room (Nat.le_of_ble_eq_true rfl)) d_So_exchange_134 ⟨(show pt st N9 - pt s7 N9 + (pt s7 N9 - pt c87.1 N9) + (pt c87.1 N9 - pt c97.1 N9) + (pt c97.1 N9 + 10) ≤ pt st N9 + 400 from by omega), (show 2 * (pt st N9 - pt s7 N9) + (2 * (pt s7 N9 - pt c87.1 N9)) + (2 * (pt c87.1 N9 - pt c97.1 N9)) + (2 * pt c97.1 N9 + 20) ≤ 2 * pt st N9 + 800 from by omega)⟩) (fun c104 H locs hw105 S => ?_)
                          have S : Sw G A s.heap _ _ ([(roa, .inl (k 0, 40, .inl ro)), (coa, .inl (k 0, 40, .inl co)), (ura, .inl (k 0, 91, .inl ur)), (uca, .inl (k 0, 40, .inl uc)), (h0, .inr (1, [.ref cea, .ref roa, .ref coa, .ref ura, .ref uca, .ref au, .ref ap, .ref al, .ref ar, .ref ae, .int (nI rw9), .int (nI C9), .int (nI fs9), .int (nI tk9)])), (cea, .inl (k 4, 3731, .inr (.inr (.inr (.inr (fun j => adO (c104.1 j)))))))] ++ (tpl k c104.1 N9)) := S
                          have hw105 : hO c104.1 Z7 ∧ atO c104.1 (qr * (C9 + 1) + j9) c104.2 ∧ keO c97.1 c104.1 ∧ pt c104.1 N9 ≤ pt c97.1 N9 := hw105
                          show W p l e _ s m _ below meth c H locs _ _ _ (F0 m 137 ls [.ref c104.2, .ref c56.2, .ref c97.2, .ref h0])
                          obtain ⟨hh106, at107, ke108, pt109⟩ := hw105
                          have lt110 := ix_lt (C := C9) (R := 91) (i := qr) (j := j9) (by omega) (by omega) (Nat.le_refl _) (by omega)
                          obtain ⟨tw1, tw2⟩ := tab_W htab hC hqr hqc (i := i9) (j := j9) hi7 (by omega) (by omega)
                          have ex1 := pr_at hpr7 (i := i9) (j := j9) hi7 (by omega) (by omega)
                          have ey1 := pr_at hpr7 (i := i9) (j := qc) hi7 (by omega) (by omega)
                          have ez1 := pr_at hpr7 (i := qr) (j := j9) hqr (by omega) (by omega)
                          refine q_backP (wi := [(h0, .inr (1, [.ref cea, .ref roa, .ref coa, .ref ura, .ref uca, .ref au, .ref ap, .ref al, .ref ar, .ref ae, .int (nI rw9), .int (nI C9), .int (nI fs9), .int (nI tk9)]))]) (wr := [(roa, .inl (k 0, 40, .inl ro)), (coa, .inl (k 0, 40, .inl co)), (ura, .inl (k 0, 91, .inl ur)), (uca, .inl (k 0, 40, .inl uc)), (cea, .inl (k 4, 3731, .inr (.inr (.inr (.inr (fun j => adO (c104.1 j)))))))]) S hA [4] [0, 1, 2, 3, 5] rfl rfl (by decide) (by decide) (va_runV (As := [.ref c97.2, .ref c56.2, .ref c104.2]) (rest := []) ⟨hx, hb, C.2.2.1, C.2.2.2.1, C.2.2.2.2.1⟩ (g_So_put l G k h0 _ _ (i9 * (C9 + 1) + j9) (i9 * (C9 + 1) + qc) (qr * (C9 + 1) + j9) c97.2 c56.2 c104.2 (wv C9 qr qc Z i9 j9) cea roa coa ura uca au ap al ar ae rw9 C9 fs9 tk9 N9 c104.1 Z7 hN ⟨hh106.1, hh106.2⟩ (ke108.at (ke101.at (ke91.at (hke7.at hU)))) (ke108.at (ke101.at (ke91.at (hke7.at hP)))) (ke108.at (ke101.at (ke91.at (hke7.at hL)))) (ke108.at (ke101.at (ke91.at (hke7.at hR)))) (ke108.at (ke101.at (ke91.at (hke7.at hE)))) (by omega) (by omega) (by omega) (ke108.at at100) (ke108.at (ke101.at (ke91.at hat7))) at107 (by exact ix_ne (by omega) (by omega) (by omega)) (by exact ix_ne (by omega) (by omega) (by omega)) (by exact ix_ne (by omega) (by omega) (by omega)) (by rw [hpr7.2.1]; have := tab_pos htab; omega) (by rw [ex1, ey1, ez1, hpr7.2.1, hpr7.2.2, Int.mul_comm (Z (i9 * (C9 + 1) + j9))]; exact tw1) tw2) (k_virt (n := 3) C wc_So_put rfl rfl wz_So wm_So_137 wn_So_put ws_So_put (by decide +kernel) ⟨(Nat.le_of_ble_eq_true rfl), (Nat.le_of_ble_eq_true rfl)⟩) (pr_nowVGP K S [4] (by decide) rfl (List.mem_append_left _ (List.mem_of_getElem? (i := 4) rfl)) rfl) rfl rfl hl.1 rfl (lv_room (Nat.le_of_ble_eq_true rfl)) d_So_exchange_137 ⟨(show pt st N9 - pt s7 N9 + (pt s7 N9 - pt c87.1 N9) + (pt c87.1 N9 - pt c97.1 N9) + (pt c97.1 N9 - pt c104.1 N9) + (pt c104.1 N9 + 400) ≤ pt st N9 + 400 from by omega), (show 2 * (pt st N9 - pt s7 N9) + (2 * (pt s7 N9 - pt c87.1 N9)) + (2 * (pt c87.1 N9 - pt c97.1 N9)) + (2 * (pt c97.1 N9 - pt c104.1 N9)) + (2 * pt c104.1 N9 + 800) ≤ 2 * pt st N9 + 800 from by omega)⟩) (fun sp111 H locs hw112 S => ?_)
                          have S : Sw G A s.heap _ _ ([(roa, .inl (k 0, 40, .inl ro)), (coa, .inl (k 0, 40, .inl co)), (ura, .inl (k 0, 91, .inl ur)), (uca, .inl (k 0, 40, .inl uc)), (cea, .inl (k 4, 3731, .inr (.inr (.inr (.inr (fun j => adO (c104.1 j))))))), (h0, .inr (1, [.ref cea, .ref roa, .ref coa, .ref ura, .ref uca, .ref au, .ref ap, .ref al, .ref ar, .ref ae, .int (nI rw9), .int (nI C9), .int (nI fs9), .int (nI tk9)]))] ++ (tpl k sp111 N9)) := S
                          have hw112 : hO sp111 (va_up Z7 (i9 * (C9 + 1) + j9) (wv C9 qr qc Z i9 j9)) ∧ keO c104.1 sp111 ∧ pt sp111 N9 ≤ pt c104.1 N9 ∧ saO c104.1 sp111 := hw112
                          show W p l e _ s m _ below meth c H locs _ _ _ (F0 m 140 ls [])
                          obtain ⟨hh113, ke114, pt115, sa116⟩ := hw112
                          have S : Sw G A s.heap H locs ([(roa, .inl (k 0, 40, .inl ro)), (coa, .inl (k 0, 40, .inl co)), (ura, .inl (k 0, 91, .inl ur)), (uca, .inl (k 0, 40, .inl uc)), (cea, .inl (k 4, 3731, .inr (.inr (.inr (.inr (fun j => adO (sp111 j))))))), (h0, .inr (1, [.ref cea, .ref roa, .ref coa, .ref ura, .ref uca, .ref au, .ref ap, .ref al, .ref ar, .ref ae, .int (nI rw9), .int (nI C9), .int (nI fs9), .int (nI tk9)]))] ++ (tpl k sp111 N9)) := by rw [show (fun j => adO (sp111 j)) = _ from sa116]; exact S
                          refine lv_iinc (v := nI (j9 + 1)) (lv' := [(7, .int (nI (j9 + 1))), (6, .int (nI ap9)), (5, .ref c56.2), (4, .int (nI i9)), (3, .int (nI sm9)), (0, .ref h0), (1, .int (nI qr)), (2, .int (nI qc))]) hx hb d_So_exchange_140 hl (k := 0) rfl (show nI j9 + Int32.ofInt 1 = nI (j9 + 1) from (nI_add j9 1).trans (congrArg nI (by omega))) (by decide) rfl (fun ls hl => ?_)
                          refine lv_goto (tgt := 82) hx hb d_So_exchange_143 (by decide) ?_
                          refine W.widen (show pt st N9 - pt s7 N9 + (pt s7 N9 - pt c87.1 N9) + (pt c87.1 N9 - pt c97.1 N9) + (pt c97.1 N9 - pt c104.1 N9) + (pt c104.1 N9 - pt sp111 N9) ≤ pt st N9 - pt sp111 N9 from by omega) (show 2 * (pt st N9 - pt s7 N9) + (2 * (pt s7 N9 - pt c87.1 N9)) + (2 * (pt c87.1 N9 - pt c97.1 N9)) + (2 * (pt c97.1 N9 - pt c104.1 N9)) + (2 * (pt c104.1 N9 - pt sp111 N9)) ≤ 2 * (pt st N9 - pt sp111 N9) from by omega) ?_
                          exact ih_li sp111 (va_up Z7 (i9 * (C9 + 1) + j9) (wv C9 qr qc Z i9 j9)) (j9 + 1) (by omega) ⟨hh113.1, hh113.2⟩ ((((hke7.tr ke91).tr ke101).tr ke108).tr ke114) (by omega) (by omega) (pr_put2 hpr7 hRw hC hi7 (by omega) (by omega) (by omega)) (ke114.at (ke108.at (ke101.at (ke91.at hat7)))) (fun q => absurd q (by omega)) (by omega) _ _ (S.subP [5, 4, 0, 1, 2, 3] (by decide) rfl) ls (lv_sub hl [0, 1, 2, 3, 4, 5, 6, 7] rfl)
            exact li _ c56.1 Z8 0 (Nat.lt_succ_self _) ⟨hh58.1, hh58.2⟩ (hke8.tr ke60) (by omega) (by omega) hpr8 at59 (fun _ => rfl) (by omega) _ _ (S.subP [4, 5, 0, 1, 2, 3] (by decide) rfl) ls (lv_sub hl [0, 1, 2, 3, 4, 5, 6, 7] rfl)
          refine lv_iload hx hb d_So_exchange_54 (lv_at hl 1 rfl) ?_
          refine lv_iload_n hx hb d_So_exchange_56 rfl (lv_at hl 4 rfl) ?_
          refine z_icmp_eq (a := i9) (b := qr) (tgt := 72) hx hb d_So_exchange_57 (by decide) (by omega) (by omega) (fun hc117 => ?_) (fun hc117 => ?_)
          · refine lv_iconst (v := 1) hx hb d_So_exchange_72 (by decide) ?_
            refine lv_goto (tgt := 77) hx hb d_So_exchange_73 (by decide) ?_
            refine lv_istore (lv' := [(6, .int 1), (5, .ref c56.2), (4, .int (nI i9)), (3, .int (nI sm9)), (0, .ref h0), (1, .int (nI qr)), (2, .int (nI qc))]) hx hb d_So_exchange_77 hl (by decide) rfl (fun ls hl => ?_)
            exact k79 1 (by decide) (fun _ => Or.inl (by omega)) (fun q => absurd q (by decide)) _ _ (S.subP [0, 1, 2, 3, 4, 5] (by decide) rfl) ls (lv_sub hl [0, 1, 2, 3, 4, 5, 6] rfl)
          · refine lv_iload_n hx hb d_So_exchange_60 rfl (lv_at hl 2 rfl) ?_
            refine z_if_eq (a := sm9) (tgt := 76) hx hb d_So_exchange_61 (by decide) (by omega) (fun hc118 => ?_) (fun hc118 => ?_)
            · refine lv_iconst (v := 0) hx hb d_So_exchange_76 (by decide) ?_
              refine lv_istore (lv' := [(6, .int 0), (5, .ref c56.2), (4, .int (nI i9)), (3, .int (nI sm9)), (0, .ref h0), (1, .int (nI qr)), (2, .int (nI qc))]) hx hb d_So_exchange_77 hl (by decide) rfl (fun ls hl => ?_)
              exact k79 0 (by decide) (fun q => absurd q (by decide)) (fun _ => by omega) _ _ (S.subP [0, 1, 2, 3, 4, 5] (by decide) rfl) ls (lv_sub hl [0, 1, 2, 3, 4, 5, 6] rfl)
            · refine lv_aload hx hb d_So_exchange_64 (lv_at hl 0 rfl) ?_
              refine q_backP (wi := []) (wr := [(roa, .inl (k 0, 40, .inl ro)), (coa, .inl (k 0, 40, .inl co)), (ura, .inl (k 0, 91, .inl ur)), (uca, .inl (k 0, 40, .inl uc)), (h0, .inr (1, [.ref cea, .ref roa, .ref coa, .ref ura, .ref uca, .ref au, .ref ap, .ref al, .ref ar, .ref ae, .int (nI rw9), .int (nI C9), .int (nI fs9), .int (nI tk9)])), (cea, .inl (k 4, 3731, .inr (.inr (.inr (.inr (fun j => adO (c56.1 j)))))))]) S hA [] [0, 1, 2, 3, 4, 5] rfl rfl (by decide) (by decide) (va_runV (As := []) (rest := []) ⟨hx, hb, C.2.2.1, C.2.2.2.1, C.2.2.2.2.1⟩ (g_P_sign l G k _ _ (i9 * (C9 + 1) + qc) c56.2 (Z8 (i9 * (C9 + 1) + qc)) N9 c56.1 Z8 V0 hN hh58.1 (by omega) at59 rfl (show V0 (i9 * (C9 + 1) + qc) from by unfold V0; omega)) (k_virt (n := 0) C wc_Wh_sign rfl rfl wz_Wh wm_So_101 wn_Wh_sign ws_Wh_sign (by decide +kernel) ⟨(Nat.le_of_ble_eq_true rfl), (Nat.le_of_ble_eq_true rfl)⟩) (pr_nowVGP K S [] (by decide) rfl (Classical.choose_spec (at_mem at59 (show i9 * (C9 + 1) + qc < N9 by omega))) rfl) rfl rfl hl.1 rfl (lv_room (Nat.le_of_ble_eq_true rfl)) d_So_exchange_66 ⟨(show pt st N9 - pt s8 N9 + (pt s8 N9 - pt c56.1 N9) ≤ pt st N9 + 400 from by omega), (show 2 * (pt st N9 - pt s8 N9) + (2 * (pt s8 N9 - pt c56.1 N9)) ≤ 2 * pt st N9 + 800 from by omega)⟩) (fun u119 H locs hw120 S => ?_)
              have S : Sw G A s.heap _ _ ([(roa, .inl (k 0, 40, .inl ro)), (coa, .inl (k 0, 40, .inl co)), (ura, .inl (k 0, 91, .inl ur)), (uca, .inl (k 0, 40, .inl uc)), (h0, .inr (1, [.ref cea, .ref roa, .ref coa, .ref ura, .ref uca, .ref au, .ref ap, .ref al, .ref ar, .ref ae, .int (nI rw9), .int (nI C9), .int (nI fs9), .int (nI tk9)])), (cea, .inl (k 4, 3731, .inr (.inr (.inr (.inr (fun j => adO (c56.1 j)))))))] ++ (tpl k c56.1 N9)) := S
              have hw120 : True := hw120
              show W p l e _ s m _ below meth c H locs _ _ _ (F0 m 69 ls [.int (sgI ((Z8 (i9 * (C9 + 1) + qc))))])
              refine lv_if_ne (tgt := 76) hx hb d_So_exchange_69 (by decide) (fun hc121 => ?_) (fun hc121 => ?_)
              · refine lv_iconst (v := 0) hx hb d_So_exchange_76 (by decide) ?_
                refine lv_istore (lv' := [(6, .int 0), (5, .ref c56.2), (4, .int (nI i9)), (3, .int (nI sm9)), (0, .ref h0), (1, .int (nI qr)), (2, .int (nI qc))]) hx hb d_So_exchange_77 hl (by decide) rfl (fun ls hl => ?_)
                exact k79 0 (by decide) (fun q => absurd q (by decide)) (fun _ => by omega) _ _ (S.subP [0, 1, 2, 3, 4, 5] (by decide) rfl) ls (lv_sub hl [0, 1, 2, 3, 4, 5, 6] rfl)
              · refine lv_iconst (v := 1) hx hb d_So_exchange_72 (by decide) ?_
                refine lv_goto (tgt := 77) hx hb d_So_exchange_73 (by decide) ?_
                refine lv_istore (lv' := [(6, .int 1), (5, .ref c56.2), (4, .int (nI i9)), (3, .int (nI sm9)), (0, .ref h0), (1, .int (nI qr)), (2, .int (nI qc))]) hx hb d_So_exchange_77 hl (by decide) rfl (fun ls hl => ?_)
                exact k79 1 (by decide) (fun _ => Or.inr ⟨by omega, by rw [← pr_at hpr8 (show i9 < rw9 by omega) (show qc ≤ C9 by omega) (by omega)]; exact sgn_0.mp hc121⟩) (fun q => absurd q (by decide)) _ _ (S.subP [0, 1, 2, 3, 4, 5] (by decide) rfl) ls (lv_sub hl [0, 1, 2, 3, 4, 5, 6] rfl)
    exact lo _ st9 Z1 0 (Nat.lt_succ_self _) ⟨hh15.1, hh15.2⟩ (ke5.tr ke12) (by omega) (by omega) pr0 _ _ (S.subP [4, 5, 0, 1, 2, 3] (by decide) rfl) ls (lv_sub hl [0, 1, 2, 3, 4] rfl)
  refine lv_aload_n hx hb d_So_exchange_13 rfl (lv_at hl 0 rfl) ?_
  refine r_get C K S 4 rfl rfl clOk_So 6 (by decide) wf_So_35 (v := .ref ap) rfl d_So_exchange_14 ?_
  refine lv_aload_n hx hb d_So_exchange_17 rfl (lv_at hl 0 rfl) ?_
  refine r_get C K S 4 rfl rfl clOk_So 5 (by decide) wf_So_31 (v := .ref au) rfl d_So_exchange_18 ?_
  refine q_backP (wi := []) (wr := [(roa, .inl (k 0, 40, .inl ro)), (coa, .inl (k 0, 40, .inl co)), (ura, .inl (k 0, 91, .inl ur)), (uca, .inl (k 0, 40, .inl uc)), (h0, .inr (1, [.ref cea, .ref roa, .ref coa, .ref ura, .ref uca, .ref au, .ref ap, .ref al, .ref ar, .ref ae, .int (nI rw9), .int (nI C9), .int (nI fs9), .int (nI tk9)])), (cea, .inl (k 4, 3731, .inr (.inr (.inr (.inr (fun j => adO (st9 j)))))))]) S hA [] [0, 1, 2, 3, 4, 5] rfl rfl (by decide) (by decide) (va_runV (As := [.ref au]) (rest := []) ⟨hx, hb, C.2.2.1, C.2.2.2.1, C.2.2.2.2.1⟩ (g_P_compare l G k _ _ 3732 3731 ap au (Z1 3732) (Z1 3731) N9 st9 Z1 V0 hN hh15.1 (by omega) (by omega) (ke12.at (ke5.at hP)) (ke12.at (ke5.at hU)) rfl rfl (show V0 3732 from by unfold V0; omega) (show V0 3731 from by unfold V0; omega) (by decide)) (k_virt (n := 1) C wc_Wh_compare rfl rfl wz_Wh wm_So_104 wn_Wh_compare ws_Wh_compare (by decide +kernel) ⟨(Nat.le_of_ble_eq_true rfl), (Nat.le_of_ble_eq_true rfl)⟩) (pr_nowVGP K S [] (by decide) rfl (Classical.choose_spec (at_mem (ke12.at (ke5.at hP)) (show 3732 < N9 by omega))) rfl) rfl rfl hl.1 rfl (lv_room (Nat.le_of_ble_eq_true rfl)) d_So_exchange_21 ⟨(show 0 + (pt st N9 - pt c1.1 N9) + (pt c1.1 N9 - pt st9 N9) ≤ pt st N9 + 400 from by omega), (show 0 + (2 * (pt st N9 - pt c1.1 N9)) + (2 * (pt c1.1 N9 - pt st9 N9)) ≤ 2 * pt st N9 + 800 from by omega)⟩) (fun u122 H locs hw123 S => ?_)
  have S : Sw G A s.heap _ _ ([(roa, .inl (k 0, 40, .inl ro)), (coa, .inl (k 0, 40, .inl co)), (ura, .inl (k 0, 91, .inl ur)), (uca, .inl (k 0, 40, .inl uc)), (h0, .inr (1, [.ref cea, .ref roa, .ref coa, .ref ura, .ref uca, .ref au, .ref ap, .ref al, .ref ar, .ref ae, .int (nI rw9), .int (nI C9), .int (nI fs9), .int (nI tk9)])), (cea, .inl (k 4, 3731, .inr (.inr (.inr (.inr (fun j => adO (st9 j)))))))] ++ (tpl k st9 N9)) := S
  have hw123 : True := hw123
  show W p l e _ s m _ below meth c H locs _ _ _ (F0 m 24 ls [.int (czI ((Z1 3732)) ((Z1 3731)))])
  refine lv_if_ne (tgt := 31) hx hb d_So_exchange_24 (by decide) (fun hc124 => ?_) (fun hc124 => ?_)
  · refine lv_iconst (v := 0) hx hb d_So_exchange_31 (by decide) ?_
    refine lv_istore_n (lv' := [(3, .int 0), (0, .ref h0), (1, .int (nI qr)), (2, .int (nI qc))]) hx hb d_So_exchange_32 rfl hl (by decide) rfl (fun ls hl => ?_)
    exact k33 0 (by decide) (fun q => absurd q (by decide)) _ _ (S.subP [0, 1, 2, 3, 4, 5] (by decide) rfl) ls (lv_sub hl [0, 1, 2, 3] rfl)
  · refine lv_iconst (v := 1) hx hb d_So_exchange_27 (by decide) ?_
    refine lv_goto (tgt := 32) hx hb d_So_exchange_28 (by decide) ?_
    refine lv_istore_n (lv' := [(3, .int 1), (0, .ref h0), (1, .int (nI qr)), (2, .int (nI qc))]) hx hb d_So_exchange_32 rfl hl (by decide) rfl (fun ls hl => ?_)
    exact k33 1 (by decide) (fun _ => by have q9 := cz_0 hc124; rw [pr0.2.2, pr0.2.1] at q9; exact q9) _ _ (S.subP [0, 1, 2, 3, 4, 5] (by decide) rfl) ls (lv_sub hl [0, 1, 2, 3] rfl)
end
section
/-! loading a table; rows out of two pools -/
def ldP (n R j9 : Nat) (Z : Nat → Int) : Prop := Z 3731 = 1 ∧ (∀ i, i < R → ∀ j, j ≤ n → (Z (i * (n + 1) + j)).natAbs ≤ 2147483648) ∧ ∀ j, j < j9 → (Z (R * (n + 1) + j)).natAbs ≤ 2147483648
theorem ld_up {n R j9 : Nat} {Z : Nat → Int} {v : Int} (h : ldP n R j9 Z) (hv : v.natAbs ≤ 2147483648) (hj : j9 ≤ n) (hn : n ≤ 40) (hR : R < 91) : ldP n R (j9 + 1) (va_up Z (R * (n + 1) + j9) v) := by
  have hlt := ix_lt (C := n) (R := 91) (i := R) (j := j9) hR hj (Nat.le_refl _) hn
  refine ⟨by rw [va_up_ne _ _ (by omega)]; exact h.1, fun i hi j hj2 => ?_, fun j hj2 => ?_⟩
  · rw [va_up_ne _ _ (ix_ne hj2 hj (Or.inl (by omega)))]
    exact h.2.1 i hi j hj2
  · by_cases q : j = j9
    · rw [q, va_up_self]; exact hv
    · rw [va_up_ne _ _ (ix_ne (by omega) hj (Or.inr q))]
      exact h.2.2 j (by omega)
theorem ld_row {n R : Nat} {Z : Nat → Int} (h : ldP n R (n + 1) Z) : ldP n (R + 1) 0 Z := by
  refine ⟨h.1, fun i hi j hj => ?_, fun j hj => absurd hj (Nat.not_lt_zero _)⟩
  by_cases q : i = R
  · rw [q]; exact h.2.2 j (by omega)
  · exact h.2.1 i (by omega) j hj
theorem ld_tab {n R : Nat} {Z : Nat → Int} (h : ldP n R 0 Z) (hn : n ≤ 40) : tabO n R Z := tab_first hn h.1 h.2.1
theorem i32_lZ (x : Int32) : x.toInt64 = lZ x.toInt := by
  apply Int64.toInt_inj.mp
  have h1 := x.le_toInt
  have h2 := x.toInt_lt
  rw [Int32.toInt_toInt64, lZ_toInt (by omega) (by omega)]
theorem i32_b (x : Int32) : x.toInt.natAbs ≤ 2147483648 := by
  have h1 := x.le_toInt
  have h2 := x.toInt_lt
  omega
theorem b49i {z : Int} (h : z.natAbs ≤ 2147483648) : z.natAbs < 2147483648 ^ 49 := Nat.lt_of_le_of_lt h (by decide +kernel)
section TW
variable {G : va_G} {A : Nat → Prop} {H0 H : Heap} {locs : List Loc} {k : Nat → ClassId}
theorem Sw.out2 {X T : va_W} {L : List Nat} {F : Nat → Nat → Int32} {a : Nat} (S : Sw G A H0 H locs (X ++ (T ++ va_pl L (rwp k 41 F)))) (h : a ∈ L) : Sw G A H0 H locs ((X ++ [(a, .inl (k 0, 41, .inl (F a)))]) ++ (T ++ va_pl (L.erase a) (rwp k 41 F))) := by
  refine S.perm ?_
  rw [List.append_assoc]
  refine List.Perm.append_left X ?_
  have h1 : (va_pl L (rwp k 41 F)).Perm ((a, .inl (k 0, 41, .inl (F a))) :: va_pl (L.erase a) (rwp k 41 F)) := (List.perm_cons_erase h).map (fun a => (a, rwp k 41 F a))
  refine (List.Perm.append_left T h1).trans ?_
  exact List.perm_middle
theorem Sw.into2 {X T : va_W} {L : List Nat} {F : Nat → Nat → Int32} {a : Nat} (S : Sw G A H0 H locs ((X ++ [(a, .inl (k 0, 41, .inl (F a)))]) ++ (T ++ va_pl (L.erase a) (rwp k 41 F)))) (h : a ∈ L) : Sw G A H0 H locs (X ++ (T ++ va_pl L (rwp k 41 F))) := by
  refine S.perm ?_
  rw [List.append_assoc]
  refine List.Perm.append_left X ?_
  have h1 : (va_pl L (rwp k 41 F)).Perm ((a, .inl (k 0, 41, .inl (F a))) :: va_pl (L.erase a) (rwp k 41 F)) := (List.perm_cons_erase h).map (fun a => (a, rwp k 41 F a))
  exact ((List.Perm.append_left T h1).trans List.perm_middle).symm
end TW
theorem s_64b : ∀ n, n < 64 → ((nI n).toInt64 &&& 63).toBitVec.smod 64 = BitVec.ofNat 64 n := by decide +kernel
theorem shl_1 {j : Nat} (hj : j ≤ 40) : (1 : Int64) <<< ((nI j).toInt64 &&& 63) = lZ ((2 ^ j : Nat) : Int) := by
  have h := g_shl (a := 1) (k := j) (p := 2 ^ j) (s_64b j (by omega)) (by omega) rfl (by decide)
  rw [Nat.one_mul, lN_lZ (2 ^ j)] at h
  exact h
theorem p40 {j : Nat} (hj : j ≤ 40) : (2 : Nat) ^ j ≤ 1099511627776 := Nat.pow_le_pow_right (n := 2) (by decide) hj
theorem b51 {x y : Int} (hx : x.natAbs < 2147483648 ^ 49) (hy : y.natAbs < 2147483648 ^ 3) : (x * y).natAbs < 2147483648 ^ 52 := by
  rw [Int.natAbs_mul]
  have h1 := Nat.mul_lt_mul'' hx hy
  rw [← Nat.pow_add] at h1
  exact h1
end
section
theorem d_So_solve_0 : decode c_So_solve 0 = .ok (.iconst 0, 1) := by decide +kernel
theorem d_So_solve_1 : decode c_So_solve 1 = .ok (.istore_n 1, 1) := by decide +kernel
theorem d_So_solve_2 : decode c_So_solve 2 = .ok (.iload_n 1, 1) := by decide +kernel
theorem d_So_solve_3 : decode c_So_solve 3 = .ok (.ldc 88, 2) := by decide +kernel
theorem d_So_solve_5 : decode c_So_solve 5 = .ok (.if_icmp .ge 42, 3) := by decide +kernel
theorem d_So_solve_8 : decode c_So_solve 8 = .ok (.aload_n 0, 1) := by decide +kernel
theorem d_So_solve_9 : decode c_So_solve 9 = .ok (.invokevirtual 89, 3) := by decide +kernel
theorem d_So_solve_12 : decode c_So_solve 12 = .ok (.istore_n 2, 1) := by decide +kernel
theorem d_So_solve_13 : decode c_So_solve 13 = .ok (.iload_n 2, 1) := by decide +kernel
theorem d_So_solve_14 : decode c_So_solve 14 = .ok (.bipush (-2), 2) := by decide +kernel
theorem d_So_solve_16 : decode c_So_solve 16 = .ok (.if_icmp .ne 5, 3) := by decide +kernel
theorem d_So_solve_19 : decode c_So_solve 19 = .ok (.iconst 1, 1) := by decide +kernel
theorem d_So_solve_20 : decode c_So_solve 20 = .ok (.ireturn, 1) := by decide +kernel
theorem d_So_solve_21 : decode c_So_solve 21 = .ok (.aload_n 0, 1) := by decide +kernel
theorem d_So_solve_22 : decode c_So_solve 22 = .ok (.iload_n 2, 1) := by decide +kernel
theorem d_So_solve_23 : decode c_So_solve 23 = .ok (.invokevirtual 93, 3) := by decide +kernel
theorem d_So_solve_26 : decode c_So_solve 26 = .ok (.istore_n 3, 1) := by decide +kernel
theorem d_So_solve_27 : decode c_So_solve 27 = .ok (.iload_n 3, 1) := by decide +kernel
theorem d_So_solve_28 : decode c_So_solve 28 = .ok (.bipush (-2), 2) := by decide +kernel
theorem d_So_solve_30 : decode c_So_solve 30 = .ok (.if_icmp .ne 5, 3) := by decide +kernel
theorem d_So_solve_33 : decode c_So_solve 33 = .ok (.iconst 0, 1) := by decide +kernel
theorem d_So_solve_34 : decode c_So_solve 34 = .ok (.ireturn, 1) := by decide +kernel
theorem d_So_solve_35 : decode c_So_solve 35 = .ok (.aload_n 0, 1) := by decide +kernel
theorem d_So_solve_36 : decode c_So_solve 36 = .ok (.iload_n 2, 1) := by decide +kernel
theorem d_So_solve_37 : decode c_So_solve 37 = .ok (.iload_n 3, 1) := by decide +kernel
theorem d_So_solve_38 : decode c_So_solve 38 = .ok (.invokevirtual 97, 3) := by decide +kernel
theorem d_So_solve_41 : decode c_So_solve 41 = .ok (.iinc 1 1, 3) := by decide +kernel
theorem d_So_solve_44 : decode c_So_solve 44 = .ok (.goto (-42), 3) := by decide +kernel
theorem d_So_solve_47 : decode c_So_solve 47 = .ok (.iconst 0, 1) := by decide +kernel
theorem d_So_solve_48 : decode c_So_solve 48 = .ok (.ireturn, 1) := by decide +kernel
set_option maxRecDepth 100000 in
set_option maxHeartbeats 16000000 in
/-- solve -/
theorem g_So_solve (l : Launch) (G : va_G) (k : Nat → ClassId) (h0 : Nat) (s0 sl : Nat) (cea : Nat) (roa : Nat) (coa : Nat) (ura : Nat) (uca : Nat) (au : Nat) (ap : Nat) (al : Nat) (ar : Nat) (ae : Nat) (rw9 : Nat) (C9 : Nat) (fs9 : Nat) (tk9 : Nat) (ro : Nat → Int32) (co : Nat → Int32) (ur : Nat → Int32) (uc : Nat → Int32) (N9 : Nat) (st : Nat → Option wQ) (Z : Nat → Int) (hN : N9 = 3745) (hh : hO st Z) (hU : atO st 3731 au) (hP : atO st 3732 ap) (hL : atO st 3733 al) (hR : atO st 3734 ar) (hE : atO st 3735 ae) (hC : C9 ≤ 40) (hRw : rw9 ≤ 91) (hso : soO C9 rw9 ro ur uc) (htab : tabO C9 rw9 Z) (hfs : fs9 + tk9 < C9) : CG l y_So_solve c_So_solve 4 (some .boolean) { frames := 7, cells := pt st N9 + 400, slots := 2 * pt st N9 + 800, locals := 208 } [.ref h0] G k s0 sl ([(h0, .inr (1, [.ref cea, .ref roa, .ref coa, .ref ura, .ref uca, .ref au, .ref ap, .ref al, .ref ar, .ref ae, .int (nI rw9), .int (nI C9), .int (nI fs9), .int (nI tk9)])), (cea, .inl (k 4, 3731, .inr (.inr (.inr (.inr (fun j => adO (st j))))))), (roa, .inl (k 0, 40, .inl ro)), (coa, .inl (k 0, 40, .inl co)), (ura, .inl (k 0, 91, .inl ur)), (uca, .inl (k 0, 40, .inl uc))] ++ (tpl k st N9)) (fun (u : (Nat → Option wQ) × (Nat → Int) × (Nat → Int32) × (Nat → Int32) × (Nat → Int32) × (Nat → Int32) × Nat) => some (.int (nI u.2.2.2.2.2.2))) (fun (u : (Nat → Option wQ) × (Nat → Int) × (Nat → Int32) × (Nat → Int32) × (Nat → Int32) × (Nat → Int32) × Nat) => hO u.1 u.2.1 ∧ keO st u.1 ∧ pt u.1 N9 ≤ pt st N9 ∧ soO C9 rw9 u.2.2.1 u.2.2.2.2.1 u.2.2.2.2.2.1 ∧ u.2.2.2.2.2.2 ≤ 1) (fun (u : (Nat → Option wQ) × (Nat → Int) × (Nat → Int32) × (Nat → Int32) × (Nat → Int32) × (Nat → Int32) × Nat) => ([(h0, .inr (1, [.ref cea, .ref roa, .ref coa, .ref ura, .ref uca, .ref au, .ref ap, .ref al, .ref ar, .ref ae, .int (nI rw9), .int (nI C9), .int (nI fs9), .int (nI tk9)])), (cea, .inl (k 4, 3731, .inr (.inr (.inr (.inr (fun j => adO (u.1 j))))))), (roa, .inl (k 0, 40, .inl u.2.2.1)), (coa, .inl (k 0, 40, .inl u.2.2.2.1)), (ura, .inl (k 0, 91, .inl u.2.2.2.2.1)), (uca, .inl (k 0, 40, .inl u.2.2.2.2.2.1))] ++ (tpl k u.1 N9))) (fun (u : (Nat → Option wQ) × (Nat → Int) × (Nat → Int32) × (Nat → Int32) × (Nat → Int32) × (Nat → Int32) × Nat) => pt st N9 - pt u.1 N9) (fun (u : (Nat → Option wQ) × (Nat → Int) × (Nat → Int32) × (Nat → Int32) × (Nat → Int32) × (Nat → Int32) × Nat) => 2 * (pt st N9 - pt u.1 N9)) (pt st N9 + 400) (2 * pt st N9 + 800) := by
  refine met_startG (by decide) (Nat.le_of_ble_eq_true rfl) ?_
  intro p e s m below meth c C K hA hsz S ls hl
  generalize va_A ([(h0, .inr (1, [.ref cea, .ref roa, .ref coa, .ref ura, .ref uca, .ref au, .ref ap, .ref al, .ref ar, .ref ae, .int (nI rw9), .int (nI C9), .int (nI fs9), .int (nI tk9)])), (cea, .inl (k 4, 3731, .inr (.inr (.inr (.inr (fun j => adO (st j))))))), (roa, .inl (k 0, 40, .inl ro)), (coa, .inl (k 0, 40, .inl co)), (ura, .inl (k 0, 91, .inl ur)), (uca, .inl (k 0, 40, .inl uc))] ++ (tpl k st N9)) s0 = A at hA S ⊢
  have hx := C.1
  have hb := C.2.1
  have hl : lv_has ls 4 [(0, .ref h0)] := hl
  refine lv_iconst (v := 0) hx hb d_So_solve_0 (by decide) ?_
  refine lv_istore_n (lv' := [(1, .int 0), (0, .ref h0)]) hx hb d_So_solve_1 rfl hl (by decide) rfl (fun ls hl => ?_)
  refine W.widen (show 0 ≤ pt st N9 - pt st N9 from by omega) (show 0 ≤ 2 * (pt st N9 - pt st N9) from by omega) ?_
  have lp : ∀ d9, ∀ (s8 : Nat → Option wQ), ∀ (Z8 : Nat → Int), ∀ (n9 : Nat), ∀ (ro8 : Nat → Int32), ∀ (co8 : Nat → Int32), ∀ (ur8 : Nat → Int32), ∀ (uc8 : Nat → Int32), (1000000 - n9) < d9 → (hO s8 Z8) → (keO st s8) → (pt s8 N9 ≤ pt st N9) → (n9 ≤ 1000000) → (tabO C9 rw9 Z8) → (soO C9 rw9 ro8 ur8 uc8) → ∀ (H : Heap) (locs : List Loc), Sw G A s.heap H locs ([(h0, .inr (1, [.ref cea, .ref roa, .ref coa, .ref ura, .ref uca, .ref au, .ref ap, .ref al, .ref ar, .ref ae, .int (nI rw9), .int (nI C9), .int (nI fs9), .int (nI tk9)])), (cea, .inl (k 4, 3731, .inr (.inr (.inr (.inr (fun j => adO (s8 j))))))), (roa, .inl (k 0, 40, .inl ro8)), (coa, .inl (k 0, 40, .inl co8)), (ura, .inl (k 0, 91, .inl ur8)), (uca, .inl (k 0, 40, .inl uc8))] ++ (tpl k s8 N9)) → ∀ ls : Array Slot, lv_has ls 4 [(1, .int (nI n9)), (0, .ref h0)] → W p l e { frames := 7, cells := pt st N9 + 400, slots := 2 * pt st N9 + 800, locals := 208 } s m [Value.ref h0].toArray below meth c H locs (pt st N9 - pt s8 N9) (2 * (pt st N9 - pt s8 N9)) (MQ below (va_Qg (fun (u : (Nat → Option wQ) × (Nat → Int) × (Nat → Int32) × (Nat → Int32) × (Nat → Int32) × (Nat → Int32) × Nat) => some (.int (nI u.2.2.2.2.2.2))) (fun (u : (Nat → Option wQ) × (Nat → Int) × (Nat → Int32) × (Nat → Int32) × (Nat → Int32) × (Nat → Int32) × Nat) => hO u.1 u.2.1 ∧ keO st u.1 ∧ pt u.1 N9 ≤ pt st N9 ∧ soO C9 rw9 u.2.2.1 u.2.2.2.2.1 u.2.2.2.2.2.1 ∧ u.2.2.2.2.2.2 ≤ 1) (Pog G k A (fun (u : (Nat → Option wQ) × (Nat → Int) × (Nat → Int32) × (Nat → Int32) × (Nat → Int32) × (Nat → Int32) × Nat) => ([(h0, .inr (1, [.ref cea, .ref roa, .ref coa, .ref ura, .ref uca, .ref au, .ref ap, .ref al, .ref ar, .ref ae, .int (nI rw9), .int (nI C9), .int (nI fs9), .int (nI tk9)])), (cea, .inl (k 4, 3731, .inr (.inr (.inr (.inr (fun j => adO (u.1 j))))))), (roa, .inl (k 0, 40, .inl u.2.2.1)), (coa, .inl (k 0, 40, .inl u.2.2.2.1)), (ura, .inl (k 0, 91, .inl u.2.2.2.2.1)), (uca, .inl (k 0, 40, .inl u.2.2.2.2.2.1))] ++ (tpl k u.1 N9))) s0 sl (fun (u : (Nat → Option wQ) × (Nat → Int) × (Nat → Int32) × (Nat → Int32) × (Nat → Int32) × (Nat → Int32) × Nat) => pt st N9 - pt u.1 N9) (fun (u : (Nat → Option wQ) × (Nat → Int) × (Nat → Int32) × (Nat → Int32) × (Nat → Int32) × (Nat → Int32) × Nat) => 2 * (pt st N9 - pt u.1 N9))) A) [Value.ref h0].toArray s (pt st N9 + 400) (2 * pt st N9 + 800) A) (F0 m 2 ls []) := by
    intro d9
    induction d9 with
    | zero => intro s8 Z8 n9 ro8 co8 ur8 uc8 hm; exact absurd hm (Nat.not_lt_zero _)
    | succ d9 ih_lp =>
      intro s8 Z8 n9 ro8 co8 ur8 uc8 hm hh8 hke8 hpt8 hn9 htab8 hso8 H locs S ls hl
      refine lv_iload_n hx hb d_So_solve_2 rfl (lv_at hl 0 rfl) ?_
      refine lv_ldc (v := 1000000) hx hb C.2.2.2.1 (C.2.2.2.2.1 _ wk_So_88) d_So_solve_3 ?_
      refine z_icmp_ge (a := n9) (b := 1000000) (tgt := 47) hx hb d_So_solve_5 (by decide) (by omega) (by omega) (fun hc1 => ?_) (fun hc1 => ?_)
      · refine lv_iconst (v := 0) hx hb d_So_solve_47 (by decide) ?_
        exact q_iret C K hsz rfl (s8, Z8, ro8, co8, ur8, uc8, 0) rfl (show hO s8 Z8 ∧ keO st s8 ∧ pt s8 N9 ≤ pt st N9 ∧ soO C9 rw9 ro8 ur8 uc8 ∧ 0 ≤ 1 from ⟨⟨hh8.1, hh8.2⟩, hke8, by omega, hso8, by decide⟩) (S.subP [0, 1, 2, 3, 4, 5] (by decide) rfl) d_So_solve_48 (show pt st N9 - pt s8 N9 ≤ pt st N9 - pt s8 N9 from by omega) (show 2 * (pt st N9 - pt s8 N9) ≤ 2 * (pt st N9 - pt s8 N9) from by omega) (show pt st N9 - pt s8 N9 ≤ pt st N9 + 400 from by omega) (show 2 * (pt st N9 - pt s8 N9) ≤ 2 * pt st N9 + 800 from by omega)
      · refine lv_aload_n hx hb d_So_solve_8 rfl (lv_at hl 1 rfl) ?_
        refine q_backP (wi := [(h0, .inr (1, [.ref cea, .ref roa, .ref coa, .ref ura, .ref uca, .ref au, .ref ap, .ref al, .ref ar, .ref ae, .int (nI rw9), .int (nI C9), .int (nI fs9), .int (nI tk9)])), (cea, .inl (k 4, 3731, .inr (.inr (.inr (.inr (fun j => adO (s8 j)))))))]) (wr := [(roa, .inl (k 0, 40, .inl ro8)), (coa, .inl (k 0, 40, .inl co8)), (ura, .inl (k 0, 91, .inl ur8)), (uca, .inl (k 0, 40, .inl uc8))]) S hA [0, 1] [2, 3, 4, 5] rfl rfl (by decide) (by decide) (va_runV (As := []) (rest := []) ⟨hx, hb, C.2.2.1, C.2.2.2.1, C.2.2.2.2.1⟩ (g_So_lowestRow l G k h0 _ _ cea roa coa ura uca au ap al ar ae rw9 C9 fs9 tk9 N9 s8 Z8 hN ⟨hh8.1, hh8.2⟩ (hke8.at hU) (hke8.at hP) (hke8.at hL) (hke8.at hR) (hke8.at hE) hC hRw) (k_virt (n := 0) C wc_So_lowestRow rfl rfl wz_So wm_So_89 wn_So_lowestRow ws_So_lowestRow (by decide +kernel) ⟨(Nat.le_of_ble_eq_true rfl), (Nat.le_of_ble_eq_true rfl)⟩) (pr_nowVGP K S [0, 1] (by decide) rfl (List.mem_append_left _ (List.mem_of_getElem? (i := 0) rfl)) rfl) rfl rfl hl.1 rfl (lv_room (Nat.le_of_ble_eq_true rfl)) d_So_solve_9 ⟨(show pt st N9 - pt s8 N9 + (pt s8 N9 + 400) ≤ pt st N9 + 400 from by omega), (show 2 * (pt st N9 - pt s8 N9) + (2 * pt s8 N9 + 800) ≤ 2 * pt st N9 + 800 from by omega)⟩) (fun c2 H locs hw3 S => ?_)
        have S : Sw G A s.heap _ _ ([(roa, .inl (k 0, 40, .inl ro8)), (coa, .inl (k 0, 40, .inl co8)), (ura, .inl (k 0, 91, .inl ur8)), (uca, .inl (k 0, 40, .inl uc8)), (h0, .inr (1, [.ref cea, .ref roa, .ref coa, .ref ura, .ref uca, .ref au, .ref ap, .ref al, .ref ar, .ref ae, .int (nI rw9), .int (nI C9), .int (nI fs9), .int (nI tk9)])), (cea, .inl (k 4, 3731, .inr (.inr (.inr (.inr (fun j => adO (c2.1 j)))))))] ++ (tpl k c2.1 N9)) := S
        have hw3 : hO c2.1 Z8 ∧ keO s8 c2.1 ∧ pt c2.1 N9 ≤ pt s8 N9 ∧ (c2.2 = -2 ∨ ∃ b7, b7 < rw9 ∧ c2.2 = nI b7) := hw3
        show W p l e _ s m _ below meth c H locs _ _ _ (F0 m 12 ls [.int c2.2])
        obtain ⟨hh4, ke5, pt6, hlow⟩ := hw3
        refine lv_istore_n (lv' := [(2, .int c2.2), (1, .int (nI n9)), (0, .ref h0)]) hx hb d_So_solve_12 rfl hl (by decide) rfl (fun ls hl => ?_)
        refine lv_iload_n hx hb d_So_solve_13 rfl (lv_at hl 0 rfl) ?_
        refine lv_bipush (v := (-2)) hx hb d_So_solve_14 (by decide) ?_
        refine lv_icmp_ne (tgt := 21) hx hb d_So_solve_16 (by decide) (fun hc7 => ?_) (fun hc7 => ?_)
        · obtain ⟨w7, l7, e7⟩ := hlow.resolve_left hc7
          refine lv_aload_n hx hb d_So_solve_21 rfl (lv_at hl 2 rfl) ?_
          refine lv_iload_n hx hb d_So_solve_22 rfl (lv_at hl 0 rfl) ?_
          refine z_topi (y := nI w7) e7 ?_
          refine q_backP (wi := [(h0, .inr (1, [.ref cea, .ref roa, .ref coa, .ref ura, .ref uca, .ref au, .ref ap, .ref al, .ref ar, .ref ae, .int (nI rw9), .int (nI C9), .int (nI fs9), .int (nI tk9)])), (cea, .inl (k 4, 3731, .inr (.inr (.inr (.inr (fun j => adO (c2.1 j))))))), (roa, .inl (k 0, 40, .inl ro8)), (coa, .inl (k 0, 40, .inl co8))]) (wr := [(ura, .inl (k 0, 91, .inl ur8)), (uca, .inl (k 0, 40, .inl uc8))]) S hA [4, 5, 0, 1] [2, 3] rfl rfl (by decide) (by decide) (va_runV (As := [.int (nI w7)]) (rest := []) ⟨hx, hb, C.2.2.1, C.2.2.2.1, C.2.2.2.2.1⟩ (g_So_entering l G k h0 _ _ w7 cea roa coa ura uca au ap al ar ae rw9 C9 fs9 tk9 ro8 co8 N9 c2.1 Z8 hN ⟨hh4.1, hh4.2⟩ (ke5.at (hke8.at hU)) (ke5.at (hke8.at hP)) (ke5.at (hke8.at hL)) (ke5.at (hke8.at hR)) (ke5.at (hke8.at hE)) hC hRw hso8.1 hfs l7) (k_virt (n := 1) C wc_So_entering rfl rfl wz_So wm_So_93 wn_So_entering ws_So_entering (by decide +kernel) ⟨(Nat.le_of_ble_eq_true rfl), (Nat.le_of_ble_eq_true rfl)⟩) (pr_nowVGP K S [4, 5, 0, 1] (by decide) rfl (List.mem_append_left _ (List.mem_of_getElem? (i := 4) rfl)) rfl) rfl rfl hl.1 rfl (lv_room (Nat.le_of_ble_eq_true rfl)) d_So_solve_23 ⟨(show pt st N9 - pt s8 N9 + (pt s8 N9 - pt c2.1 N9) + (pt c2.1 N9 + 400) ≤ pt st N9 + 400 from by omega), (show 2 * (pt st N9 - pt s8 N9) + (2 * (pt s8 N9 - pt c2.1 N9)) + (2 * pt c2.1 N9 + 800) ≤ 2 * pt st N9 + 800 from by omega)⟩) (fun c8 H locs hw9 S => ?_)
          have S : Sw G A s.heap _ _ ([(ura, .inl (k 0, 91, .inl ur8)), (uca, .inl (k 0, 40, .inl uc8)), (h0, .inr (1, [.ref cea, .ref roa, .ref coa, .ref ura, .ref uca, .ref au, .ref ap, .ref al, .ref ar, .ref ae, .int (nI rw9), .int (nI C9), .int (nI fs9), .int (nI tk9)])), (cea, .inl (k 4, 3731, .inr (.inr (.inr (.inr (fun j => adO (c8.1 j))))))), (roa, .inl (k 0, 40, .inl ro8)), (coa, .inl (k 0, 40, .inl co8))] ++ (tpl k c8.1 N9)) := S
          have hw9 : hO c8.1 Z8 ∧ keO c2.1 c8.1 ∧ pt c8.1 N9 ≤ pt c2.1 N9 ∧ (c8.2 = -2 ∨ ∃ b7, (b7 < C9 ∧ 0 < Z8 (w7 * (C9 + 1) + b7)) ∧ c8.2 = nI b7) := hw9
          show W p l e _ s m _ below meth c H locs _ _ _ (F0 m 26 ls [.int c8.2])
          obtain ⟨hh10, ke11, pt12, hent⟩ := hw9
          refine lv_istore_n (lv' := [(3, .int c8.2), (2, .int c2.2), (1, .int (nI n9)), (0, .ref h0)]) hx hb d_So_solve_26 rfl hl (by decide) rfl (fun ls hl => ?_)
          refine lv_iload_n hx hb d_So_solve_27 rfl (lv_at hl 0 rfl) ?_
          refine lv_bipush (v := (-2)) hx hb d_So_solve_28 (by decide) ?_
          refine lv_icmp_ne (tgt := 35) hx hb d_So_solve_30 (by decide) (fun hc13 => ?_) (fun hc13 => ?_)
          · obtain ⟨b6, l6, e6⟩ := hent.resolve_left hc13
            refine lv_aload_n hx hb d_So_solve_35 rfl (lv_at hl 3 rfl) ?_
            refine lv_iload_n hx hb d_So_solve_36 rfl (lv_at hl 1 rfl) ?_
            refine z_topi (y := nI w7) e7 ?_
            refine lv_iload_n hx hb d_So_solve_37 rfl (lv_at hl 0 rfl) ?_
            refine z_topi (y := nI b6) e6 ?_
            refine q_backP (wi := [(h0, .inr (1, [.ref cea, .ref roa, .ref coa, .ref ura, .ref uca, .ref au, .ref ap, .ref al, .ref ar, .ref ae, .int (nI rw9), .int (nI C9), .int (nI fs9), .int (nI tk9)])), (cea, .inl (k 4, 3731, .inr (.inr (.inr (.inr (fun j => adO (c8.1 j))))))), (roa, .inl (k 0, 40, .inl ro8)), (coa, .inl (k 0, 40, .inl co8)), (ura, .inl (k 0, 91, .inl ur8)), (uca, .inl (k 0, 40, .inl uc8))]) (wr := []) S hA [2, 3, 4, 5, 0, 1] [] rfl rfl (by decide) (by decide) (va_runV (As := [.int (nI w7), .int (nI b6)]) (rest := []) ⟨hx, hb, C.2.2.1, C.2.2.2.1, C.2.2.2.2.1⟩ (g_So_exchange l G k h0 _ _ w7 b6 cea roa coa ura uca au ap al ar ae rw9 C9 fs9 tk9 ro8 co8 ur8 uc8 N9 c8.1 Z8 hN ⟨hh10.1, hh10.2⟩ (ke11.at (ke5.at (hke8.at hU))) (ke11.at (ke5.at (hke8.at hP))) (ke11.at (ke5.at (hke8.at hL))) (ke11.at (ke5.at (hke8.at hR))) (ke11.at (ke5.at (hke8.at hE))) hC hRw hso8 htab8 l7 l6.1 l6.2) (k_virt (n := 2) C wc_So_exchange rfl rfl wz_So wm_So_97 wn_So_exchange ws_So_exchange (by decide +kernel) ⟨(Nat.le_of_ble_eq_true rfl), (Nat.le_of_ble_eq_true rfl)⟩) (pr_nowVGP K S [2, 3, 4, 5, 0, 1] (by decide) rfl (List.mem_append_left _ (List.mem_of_getElem? (i := 2) rfl)) rfl) rfl rfl hl.1 rfl (lv_room (Nat.le_of_ble_eq_true rfl)) d_So_solve_38 ⟨(show pt st N9 - pt s8 N9 + (pt s8 N9 - pt c2.1 N9) + (pt c2.1 N9 - pt c8.1 N9) + (pt c8.1 N9 + 400) ≤ pt st N9 + 400 from by omega), (show 2 * (pt st N9 - pt s8 N9) + (2 * (pt s8 N9 - pt c2.1 N9)) + (2 * (pt c2.1 N9 - pt c8.1 N9)) + (2 * pt c8.1 N9 + 800) ≤ 2 * pt st N9 + 800 from by omega)⟩) (fun x14 H locs hw15 S => ?_)
            have S : Sw G A s.heap _ _ ([(h0, .inr (1, [.ref cea, .ref roa, .ref coa, .ref ura, .ref uca, .ref au, .ref ap, .ref al, .ref ar, .ref ae, .int (nI rw9), .int (nI C9), .int (nI fs9), .int (nI tk9)])), (cea, .inl (k 4, 3731, .inr (.inr (.inr (.inr (fun j => adO (x14.1 j))))))), (roa, .inl (k 0, 40, .inl x14.2.2.1)), (coa, .inl (k 0, 40, .inl x14.2.2.2.1)), (ura, .inl (k 0, 91, .inl x14.2.2.2.2.1)), (uca, .inl (k 0, 40, .inl x14.2.2.2.2.2))] ++ (tpl k x14.1 N9)) := S
            have hw15 : hO x14.1 x14.2.1 ∧ keO c8.1 x14.1 ∧ pt x14.1 N9 ≤ pt c8.1 N9 ∧ tabO C9 rw9 x14.2.1 ∧ soO C9 rw9 x14.2.2.1 x14.2.2.2.2.1 x14.2.2.2.2.2 := hw15
            show W p l e _ s m _ below meth c H locs _ _ _ (F0 m 41 ls [])
            obtain ⟨hh16, ke17, pt18, htn, hsn⟩ := hw15
            refine lv_iinc (v := nI (n9 + 1)) (lv' := [(1, .int (nI (n9 + 1))), (3, .int c8.2), (2, .int c2.2), (0, .ref h0)]) hx hb d_So_solve_41 hl (k := 2) rfl (show nI n9 + Int32.ofInt 1 = nI (n9 + 1) from (nI_add n9 1).trans (congrArg nI (by omega))) (by decide) rfl (fun ls hl => ?_)
            refine lv_goto (tgt := 2) hx hb d_So_solve_44 (by decide) ?_
            refine W.widen (show pt st N9 - pt s8 N9 + (pt s8 N9 - pt c2.1 N9) + (pt c2.1 N9 - pt c8.1 N9) + (pt c8.1 N9 - pt x14.1 N9) ≤ pt st N9 - pt x14.1 N9 from by omega) (show 2 * (pt st N9 - pt s8 N9) + (2 * (pt s8 N9 - pt c2.1 N9)) + (2 * (pt c2.1 N9 - pt c8.1 N9)) + (2 * (pt c8.1 N9 - pt x14.1 N9)) ≤ 2 * (pt st N9 - pt x14.1 N9) from by omega) ?_
            exact ih_lp x14.1 x14.2.1 (n9 + 1) x14.2.2.1 x14.2.2.2.1 x14.2.2.2.2.1 x14.2.2.2.2.2 (by omega) ⟨hh16.1, hh16.2⟩ (((hke8.tr ke5).tr ke11).tr ke17) (by omega) (by omega) htn hsn _ _ (S.subP [0, 1, 2, 3, 4, 5] (by decide) rfl) ls (lv_sub hl [0, 3] rfl)
          · refine lv_iconst (v := 0) hx hb d_So_solve_33 (by decide) ?_
            exact q_iret C K hsz rfl (c8.1, Z8, ro8, co8, ur8, uc8, 0) rfl (show hO c8.1 Z8 ∧ keO st c8.1 ∧ pt c8.1 N9 ≤ pt st N9 ∧ soO C9 rw9 ro8 ur8 uc8 ∧ 0 ≤ 1 from ⟨⟨hh10.1, hh10.2⟩, ((hke8.tr ke5).tr ke11), by omega, hso8, by decide⟩) (S.subP [2, 3, 4, 5, 0, 1] (by decide) rfl) d_So_solve_34 (show pt st N9 - pt s8 N9 + (pt s8 N9 - pt c2.1 N9) + (pt c2.1 N9 - pt c8.1 N9) ≤ pt st N9 - pt c8.1 N9 from by omega) (show 2 * (pt st N9 - pt s8 N9) + (2 * (pt s8 N9 - pt c2.1 N9)) + (2 * (pt c2.1 N9 - pt c8.1 N9)) ≤ 2 * (pt st N9 - pt c8.1 N9) from by omega) (show pt st N9 - pt s8 N9 + (pt s8 N9 - pt c2.1 N9) + (pt c2.1 N9 - pt c8.1 N9) ≤ pt st N9 + 400 from by omega) (show 2 * (pt st N9 - pt s8 N9) + (2 * (pt s8 N9 - pt c2.1 N9)) + (2 * (pt c2.1 N9 - pt c8.1 N9)) ≤ 2 * pt st N9 + 800 from by omega)
        · refine lv_iconst (v := 1) hx hb d_So_solve_19 (by decide) ?_
          exact q_iret C K hsz rfl (c2.1, Z8, ro8, co8, ur8, uc8, 1) rfl (show hO c2.1 Z8 ∧ keO st c2.1 ∧ pt c2.1 N9 ≤ pt st N9 ∧ soO C9 rw9 ro8 ur8 uc8 ∧ 1 ≤ 1 from ⟨⟨hh4.1, hh4.2⟩, (hke8.tr ke5), by omega, hso8, by decide⟩) (S.subP [4, 5, 0, 1, 2, 3] (by decide) rfl) d_So_solve_20 (show pt st N9 - pt s8 N9 + (pt s8 N9 - pt c2.1 N9) ≤ pt st N9 - pt c2.1 N9 from by omega) (show 2 * (pt st N9 - pt s8 N9) + (2 * (pt s8 N9 - pt c2.1 N9)) ≤ 2 * (pt st N9 - pt c2.1 N9) from by omega) (show pt st N9 - pt s8 N9 + (pt s8 N9 - pt c2.1 N9) ≤ pt st N9 + 400 from by omega) (show 2 * (pt st N9 - pt s8 N9) + (2 * (pt s8 N9 - pt c2.1 N9)) ≤ 2 * pt st N9 + 800 from by omega)
  exact lp _ st Z 0 ro co ur uc (Nat.lt_succ_self _) ⟨hh.1, hh.2⟩ (keO.rf st) (by omega) (by omega) htab hso _ _ (S.subP [0, 1, 2, 3, 4, 5] (by decide) rfl) ls (lv_sub hl [0, 1] rfl)
theorem d_So_canFail_0 : decode c_So_canFail 0 = .ok (.iconst 0, 1) := by decide +kernel
theorem d_So_canFail_1 : decode c_So_canFail 1 = .ok (.istore_n 1, 1) := by decide +kernel
theorem d_So_canFail_2 : decode c_So_canFail 2 = .ok (.iload_n 1, 1) := by decide +kernel
theorem d_So_canFail_3 : decode c_So_canFail 3 = .ok (.bipush 40, 2) := by decide +kernel
theorem d_So_canFail_5 : decode c_So_canFail 5 = .ok (.if_icmp .gt 17, 3) := by decide +kernel
theorem d_So_canFail_8 : decode c_So_canFail 8 = .ok (.aload_n 0, 1) := by decide +kernel
theorem d_So_canFail_9 : decode c_So_canFail 9 = .ok (.iload_n 1, 1) := by decide +kernel
theorem d_So_canFail_10 : decode c_So_canFail 10 = .ok (.iaload, 1) := by decide +kernel
theorem d_So_canFail_11 : decode c_So_canFail 11 = .ok (.ifCond .ge 5, 3) := by decide +kernel
theorem d_So_canFail_14 : decode c_So_canFail 14 = .ok (.iconst 1, 1) := by decide +kernel
theorem d_So_canFail_15 : decode c_So_canFail 15 = .ok (.ireturn, 1) := by decide +kernel
theorem d_So_canFail_16 : decode c_So_canFail 16 = .ok (.iinc 1 1, 3) := by decide +kernel
theorem d_So_canFail_19 : decode c_So_canFail 19 = .ok (.goto (-17), 3) := by decide +kernel
theorem d_So_canFail_22 : decode c_So_canFail 22 = .ok (.iconst 0, 1) := by decide +kernel
theorem d_So_canFail_23 : decode c_So_canFail 23 = .ok (.ireturn, 1) := by decide +kernel
set_option maxRecDepth 100000 in
set_option maxHeartbeats 16000000 in
/-- canFail -/
theorem g_So_canFail (l : Launch) (G : va_G) (k : Nat → ClassId) (s0 sl : Nat) (ra9 : Nat) (f9 : Nat → Int32) : CG l y_So_canFail c_So_canFail 2 (some .boolean) { frames := 0, cells := 0, slots := 0, locals := 0 } [.ref ra9] G k s0 sl [(ra9, .inl (k 0, 41, .inl f9))] (fun (u : Nat) => some (.int (nI u))) (fun (u : Nat) => u ≤ 1) (fun (u : Nat) => [(ra9, .inl (k 0, 41, .inl f9))]) (fun (u : Nat) => 0) (fun (u : Nat) => 0) 0 0 := by
  refine met_startG (by decide) (Nat.le_of_ble_eq_true rfl) ?_
  intro p e s m below meth c C K hA hsz S ls hl
  generalize va_A [(ra9, .inl (k 0, 41, .inl f9))] s0 = A at hA S ⊢
  have hx := C.1
  have hb := C.2.1
  have hl : lv_has ls 2 [(0, .ref ra9)] := hl
  refine lv_iconst (v := 0) hx hb d_So_canFail_0 (by decide) ?_
  refine lv_istore_n (lv' := [(1, .int 0), (0, .ref ra9)]) hx hb d_So_canFail_1 rfl hl (by decide) rfl (fun ls hl => ?_)
  have lp : ∀ d9, ∀ (i9 : Nat), (41 - i9) < d9 → (i9 ≤ 41) → ∀ (H : Heap) (locs : List Loc), Sw G A s.heap H locs [(ra9, .inl (k 0, 41, .inl f9))] → ∀ ls : Array Slot, lv_has ls 2 [(1, .int (nI i9)), (0, .ref ra9)] → W p l e { frames := 0, cells := 0, slots := 0, locals := 0 } s m [Value.ref ra9].toArray below meth c H locs 0 0 (MQ below (va_Qg (fun (u : Nat) => some (.int (nI u))) (fun (u : Nat) => u ≤ 1) (Pog G k A (fun (u : Nat) => [(ra9, .inl (k 0, 41, .inl f9))]) s0 sl (fun (u : Nat) => 0) (fun (u : Nat) => 0)) A) [Value.ref ra9].toArray s 0 0 A) (F0 m 2 ls []) := by
    intro d9
    induction d9 with
    | zero => intro i9 hm; exact absurd hm (Nat.not_lt_zero _)
    | succ d9 ih_lp =>
      intro i9 hm hi H locs S ls hl
      refine lv_iload_n hx hb d_So_canFail_2 rfl (lv_at hl 0 rfl) ?_
      refine lv_bipush (v := 40) hx hb d_So_canFail_3 (by decide) ?_
      refine z_icmp_gt (a := i9) (b := 40) (tgt := 22) hx hb d_So_canFail_5 (by decide) (by omega) (by omega) (fun hc1 => ?_) (fun hc1 => ?_)
      · refine lv_iconst (v := 0) hx hb d_So_canFail_22 (by decide) ?_
        exact q_iret (rv := (fun (u : Nat) => some (.int (nI u)))) (post := (fun (u : Nat) => u ≤ 1)) (wo := (fun (u : Nat) => [(ra9, .inl (k 0, 41, .inl f9))])) (cu := (fun (u : Nat) => 0)) (nu := (fun (u : Nat) => 0)) C K hsz rfl (0 : Nat) rfl (show (0 : Nat) ≤ 1 from (by decide)) (S.sub [0] (by decide) rfl) d_So_canFail_23 (Nat.zero_le _) (Nat.zero_le _) (Nat.zero_le _) (Nat.zero_le _)
      · refine lv_aload_n hx hb d_So_canFail_8 rfl (lv_at hl 1 rfl) ?_
        refine lv_iload_n hx hb d_So_canFail_9 rfl (lv_at hl 0 rfl) ?_
        refine r_iald C K S 0 rfl (i := nI i9) (show vp_in (nI i9) _ from vp_in_nI (n := i9) (by omega) (by decide)) (v := f9 i9) (by rw [nI_clamp (by omega)]) d_So_canFail_10 ?_
        refine lv_if_ge (tgt := 16) hx hb d_So_canFail_11 (by decide) (fun hc2 => ?_) (fun hc2 => ?_)
        · refine lv_iinc (v := nI (i9 + 1)) (lv' := [(1, .int (nI (i9 + 1))), (0, .ref ra9)]) hx hb d_So_canFail_16 hl (k := 0) rfl (show nI i9 + Int32.ofInt 1 = nI (i9 + 1) from (nI_add i9 1).trans (congrArg nI (by omega))) (by decide) rfl (fun ls hl => ?_)
          refine lv_goto (tgt := 2) hx hb d_So_canFail_19 (by decide) ?_
          exact ih_lp (i9 + 1) (by omega) (by omega) _ _ (S.sub [0] (by decide) rfl) ls (lv_sub hl [0, 1] rfl)
        · refine lv_iconst (v := 1) hx hb d_So_canFail_14 (by decide) ?_
          exact q_iret (rv := (fun (u : Nat) => some (.int (nI u)))) (post := (fun (u : Nat) => u ≤ 1)) (wo := (fun (u : Nat) => [(ra9, .inl (k 0, 41, .inl f9))])) (cu := (fun (u : Nat) => 0)) (nu := (fun (u : Nat) => 0)) C K hsz rfl (1 : Nat) rfl (show (1 : Nat) ≤ 1 from (by decide)) (S.sub [0] (by decide) rfl) d_So_canFail_15 (Nat.zero_le _) (Nat.zero_le _) (Nat.zero_le _) (Nat.zero_le _)
  exact lp _ 0 (Nat.lt_succ_self _) (by omega) _ _ (S.sub [0] (by decide) rfl) ls (lv_sub hl [0, 1] rfl)
theorem d_So_loadRow_0 : decode c_So_loadRow 0 = .ok (.iconst 0, 1) := by decide +kernel
theorem d_So_loadRow_1 : decode c_So_loadRow 1 = .ok (.istore_n 2, 1) := by decide +kernel
theorem d_So_loadRow_2 : decode c_So_loadRow 2 = .ok (.iload_n 2, 1) := by decide +kernel
theorem d_So_loadRow_3 : decode c_So_loadRow 3 = .ok (.aload_n 0, 1) := by decide +kernel
theorem d_So_loadRow_4 : decode c_So_loadRow 4 = .ok (.getfield 59, 3) := by decide +kernel
theorem d_So_loadRow_7 : decode c_So_loadRow 7 = .ok (.if_icmp .ge 25, 3) := by decide +kernel
theorem d_So_loadRow_10 : decode c_So_loadRow 10 = .ok (.aload_n 0, 1) := by decide +kernel
theorem d_So_loadRow_11 : decode c_So_loadRow 11 = .ok (.aload_n 0, 1) := by decide +kernel
theorem d_So_loadRow_12 : decode c_So_loadRow 12 = .ok (.getfield 70, 3) := by decide +kernel
theorem d_So_loadRow_15 : decode c_So_loadRow 15 = .ok (.iload_n 2, 1) := by decide +kernel
theorem d_So_loadRow_16 : decode c_So_loadRow 16 = .ok (.invokevirtual 66, 3) := by decide +kernel
theorem d_So_loadRow_19 : decode c_So_loadRow 19 = .ok (.aload_n 1, 1) := by decide +kernel
theorem d_So_loadRow_20 : decode c_So_loadRow 20 = .ok (.iload_n 2, 1) := by decide +kernel
theorem d_So_loadRow_21 : decode c_So_loadRow 21 = .ok (.iaload, 1) := by decide +kernel
theorem d_So_loadRow_22 : decode c_So_loadRow 22 = .ok (.i2l, 1) := by decide +kernel
theorem d_So_loadRow_23 : decode c_So_loadRow 23 = .ok (.invokevirtual 62, 3) := by decide +kernel
theorem d_So_loadRow_26 : decode c_So_loadRow 26 = .ok (.iinc 2 1, 3) := by decide +kernel
theorem d_So_loadRow_29 : decode c_So_loadRow 29 = .ok (.goto (-27), 3) := by decide +kernel
theorem d_So_loadRow_32 : decode c_So_loadRow 32 = .ok (.aload_n 0, 1) := by decide +kernel
theorem d_So_loadRow_33 : decode c_So_loadRow 33 = .ok (.aload_n 0, 1) := by decide +kernel
theorem d_So_loadRow_34 : decode c_So_loadRow 34 = .ok (.getfield 70, 3) := by decide +kernel
theorem d_So_loadRow_37 : decode c_So_loadRow 37 = .ok (.aload_n 0, 1) := by decide +kernel
theorem d_So_loadRow_38 : decode c_So_loadRow 38 = .ok (.getfield 59, 3) := by decide +kernel
theorem d_So_loadRow_41 : decode c_So_loadRow 41 = .ok (.invokevirtual 66, 3) := by decide +kernel
theorem d_So_loadRow_44 : decode c_So_loadRow 44 = .ok (.aload_n 1, 1) := by decide +kernel
theorem d_So_loadRow_45 : decode c_So_loadRow 45 = .ok (.bipush 40, 2) := by decide +kernel
theorem d_So_loadRow_47 : decode c_So_loadRow 47 = .ok (.iaload, 1) := by decide +kernel
theorem d_So_loadRow_48 : decode c_So_loadRow 48 = .ok (.i2l, 1) := by decide +kernel
theorem d_So_loadRow_49 : decode c_So_loadRow 49 = .ok (.invokevirtual 62, 3) := by decide +kernel
theorem d_So_loadRow_52 : decode c_So_loadRow 52 = .ok (.aload_n 0, 1) := by decide +kernel
theorem d_So_loadRow_53 : decode c_So_loadRow 53 = .ok (.getfield 24, 3) := by decide +kernel
theorem d_So_loadRow_56 : decode c_So_loadRow 56 = .ok (.aload_n 0, 1) := by decide +kernel
theorem d_So_loadRow_57 : decode c_So_loadRow 57 = .ok (.getfield 70, 3) := by decide +kernel
theorem d_So_loadRow_60 : decode c_So_loadRow 60 = .ok (.bipush (-2), 2) := by decide +kernel
theorem d_So_loadRow_62 : decode c_So_loadRow 62 = .ok (.iastore, 1) := by decide +kernel
theorem d_So_loadRow_63 : decode c_So_loadRow 63 = .ok (.aload_n 0, 1) := by decide +kernel
theorem d_So_loadRow_64 : decode c_So_loadRow 64 = .ok (.dup, 1) := by decide +kernel
theorem d_So_loadRow_65 : decode c_So_loadRow 65 = .ok (.getfield 70, 3) := by decide +kernel
theorem d_So_loadRow_68 : decode c_So_loadRow 68 = .ok (.iconst 1, 1) := by decide +kernel
theorem d_So_loadRow_69 : decode c_So_loadRow 69 = .ok (.iadd, 1) := by decide +kernel
theorem d_So_loadRow_70 : decode c_So_loadRow 70 = .ok (.putfield 70, 3) := by decide +kernel
theorem d_So_loadRow_73 : decode c_So_loadRow 73 = .ok (.return_, 1) := by decide +kernel
set_option maxRecDepth 100000 in
set_option maxHeartbeats 16000000 in
/-- loadRow -/
theorem g_So_loadRow (l : Launch) (G : va_G) (k : Nat → ClassId) (h0 : Nat) (s0 sl : Nat) (ra9 : Nat) (f9 : Nat → Int32) (cea : Nat) (roa : Nat) (coa : Nat) (ura : Nat) (uca : Nat) (au : Nat) (ap : Nat) (al : Nat) (ar : Nat) (ae : Nat) (rw9 : Nat) (C9 : Nat) (fs9 : Nat) (tk9 : Nat) (ur : Nat → Int32) (N9 : Nat) (st : Nat → Option wQ) (Z : Nat → Int) (hN : N9 = 3745) (hh : hO st Z) (hU : atO st 3731 au) (hP : atO st 3732 ap) (hL : atO st 3733 al) (hR : atO st 3734 ar) (hE : atO st 3735 ae) (hC : C9 ≤ 40) (hRw : rw9 ≤ 90) (hld : ldP C9 rw9 0 Z) : CG l y_So_loadRow c_So_loadRow 3 none { frames := 3, cells := pt st N9 + 400, slots := 2 * pt st N9 + 800, locals := 55 } [.ref h0, .ref ra9] G k s0 sl ([(h0, .inr (1, [.ref cea, .ref roa, .ref coa, .ref ura, .ref uca, .ref au, .ref ap, .ref al, .ref ar, .ref ae, .int (nI rw9), .int (nI C9), .int (nI fs9), .int (nI tk9)])), (cea, .inl (k 4, 3731, .inr (.inr (.inr (.inr (fun j => adO (st j))))))), (ura, .inl (k 0, 91, .inl ur)), (ra9, .inl (k 0, 41, .inl f9))] ++ (tpl k st N9)) (fun (u : (Nat → Option wQ) × (Nat → Int)) => none) (fun (u : (Nat → Option wQ) × (Nat → Int)) => hO u.1 u.2 ∧ keO st u.1 ∧ pt u.1 N9 ≤ pt st N9 ∧ ldP C9 (rw9 + 1) 0 u.2) (fun (u : (Nat → Option wQ) × (Nat → Int)) => ([(h0, .inr (1, [.ref cea, .ref roa, .ref coa, .ref ura, .ref uca, .ref au, .ref ap, .ref al, .ref ar, .ref ae, .int (nI (rw9 + 1)), .int (nI C9), .int (nI fs9), .int (nI tk9)])), (cea, .inl (k 4, 3731, .inr (.inr (.inr (.inr (fun j => adO (u.1 j))))))), (ura, .inl (k 0, 91, .inl (va_up ur rw9 (-2)))), (ra9, .inl (k 0, 41, .inl f9))] ++ (tpl k u.1 N9))) (fun (u : (Nat → Option wQ) × (Nat → Int)) => pt st N9 - pt u.1 N9) (fun (u : (Nat → Option wQ) × (Nat → Int)) => 2 * (pt st N9 - pt u.1 N9)) (pt st N9 + 400) (2 * pt st N9 + 800) := by
  refine met_startG (by decide) (Nat.le_of_ble_eq_true rfl) ?_
  intro p e s m below meth c C K hA hsz S ls hl
  generalize va_A ([(h0, .inr (1, [.ref cea, .ref roa, .ref coa, .ref ura, .ref uca, .ref au, .ref ap, .ref al, .ref ar, .ref ae, .int (nI rw9), .int (nI C9), .int (nI fs9), .int (nI tk9)])), (cea, .inl (k 4, 3731, .inr (.inr (.inr (.inr (fun j => adO (st j))))))), (ura, .inl (k 0, 91, .inl ur)), (ra9, .inl (k 0, 41, .inl f9))] ++ (tpl k st N9)) s0 = A at hA S ⊢
  have hx := C.1
  have hb := C.2.1
  have hl : lv_has ls 3 [(0, .ref h0), (1, .ref ra9)] := hl
  refine lv_iconst (v := 0) hx hb d_So_loadRow_0 (by decide) ?_
  refine lv_istore_n (lv' := [(2, .int 0), (0, .ref h0), (1, .ref ra9)]) hx hb d_So_loadRow_1 rfl hl (by decide) rfl (fun ls hl => ?_)
  refine W.widen (show 0 ≤ pt st N9 - pt st N9 from by omega) (show 0 ≤ 2 * (pt st N9 - pt st N9) from by omega) ?_
  have lp : ∀ d9, ∀ (s8 : Nat → Option wQ), ∀ (Z8 : Nat → Int), ∀ (j9 : Nat), (C9 - j9) < d9 → (hO s8 Z8) → (keO st s8) → (pt s8 N9 ≤ pt st N9) → (j9 ≤ C9) → (ldP C9 rw9 j9 Z8) → ∀ (H : Heap) (locs : List Loc), Sw G A s.heap H locs ([(h0, .inr (1, [.ref cea, .ref roa, .ref coa, .ref ura, .ref uca, .ref au, .ref ap, .ref al, .ref ar, .ref ae, .int (nI rw9), .int (nI C9), .int (nI fs9), .int (nI tk9)])), (cea, .inl (k 4, 3731, .inr (.inr (.inr (.inr (fun j => adO (s8 j))))))), (ura, .inl (k 0, 91, .inl ur)), (ra9, .inl (k 0, 41, .inl f9))] ++ (tpl k s8 N9)) → ∀ ls : Array Slot, lv_has ls 3 [(2, .int (nI j9)), (0, .ref h0), (1, .ref ra9)] → W p l e { frames := 3, cells := pt st N9 + 400, slots := 2 * pt st N9 + 800, locals := 55 } s m [Value.ref h0, Value.ref ra9].toArray below meth c H locs (pt st N9 - pt s8 N9) (2 * (pt st N9 - pt s8 N9)) (MQ below (va_Qg (fun (u : (Nat → Option wQ) × (Nat → Int)) => none) (fun (u : (Nat → Option wQ) × (Nat → Int)) => hO u.1 u.2 ∧ keO st u.1 ∧ pt u.1 N9 ≤ pt st N9 ∧ ldP C9 (rw9 + 1) 0 u.2) (Pog G k A (fun (u : (Nat → Option wQ) × (Nat → Int)) => ([(h0, .inr (1, [.ref cea, .ref roa, .ref coa, .ref ura, .ref uca, .ref au, .ref ap, .ref al, .ref ar, .ref ae, .int (nI (rw9 + 1)), .int (nI C9), .int (nI fs9), .int (nI tk9)])), (cea, .inl (k 4, 3731, .inr (.inr (.inr (.inr (fun j => adO (u.1 j))))))), (ura, .inl (k 0, 91, .inl (va_up ur rw9 (-2)))), (ra9, .inl (k 0, 41, .inl f9))] ++ (tpl k u.1 N9))) s0 sl (fun (u : (Nat → Option wQ) × (Nat → Int)) => pt st N9 - pt u.1 N9) (fun (u : (Nat → Option wQ) × (Nat → Int)) => 2 * (pt st N9 - pt u.1 N9))) A) [Value.ref h0, Value.ref ra9].toArray s (pt st N9 + 400) (2 * pt st N9 + 800) A) (F0 m 2 ls []) := by
    intro d9
    induction d9 with
    | zero => intro s8 Z8 j9 hm; exact absurd hm (Nat.not_lt_zero _)
    | succ d9 ih_lp =>
      intro s8 Z8 j9 hm hh8 hke8 hpt8 hj hld8 H locs S ls hl
      have f1 := (f9 j9).le_toInt
      have f2 := (f9 j9).toInt_lt
      refine lv_iload_n hx hb d_So_loadRow_2 rfl (lv_at hl 0 rfl) ?_
      refine lv_aload_n hx hb d_So_loadRow_3 rfl (lv_at hl 1 rfl) ?_
      refine r_get C K S 0 rfl rfl clOk_So 11 (by decide) wf_So_59 (v := .int (nI C9)) rfl d_So_loadRow_4 ?_
      refine z_icmp_ge (a := j9) (b := C9) (tgt := 32) hx hb d_So_loadRow_7 (by decide) (by omega) (by omega) (fun hc1 => ?_) (fun hc1 => ?_)
      · have e9 : j9 = C9 := by omega
        rw [e9] at hld8
        have f1 := (f9 40).le_toInt
        have f2 := (f9 40).toInt_lt
        refine lv_aload_n hx hb d_So_loadRow_32 rfl (lv_at hl 1 rfl) ?_
        refine lv_aload_n hx hb d_So_loadRow_33 rfl (lv_at hl 1 rfl) ?_
        refine r_get C K S 0 rfl rfl clOk_So 10 (by decide) wf_So_70 (v := .int (nI rw9)) rfl d_So_loadRow_34 ?_
        refine lv_aload_n hx hb d_So_loadRow_37 rfl (lv_at hl 1 rfl) ?_
        refine r_get C K S 0 rfl rfl clOk_So 11 (by decide) wf_So_59 (v := .int (nI C9)) rfl d_So_loadRow_38 ?_
        refine q_backP (wi := [(h0, .inr (1, [.ref cea, .ref roa, .ref coa, .ref ura, .ref uca, .ref au, .ref ap, .ref al, .ref ar, .ref ae, .int (nI rw9), .int (nI C9), .int (nI fs9), .int (nI tk9)])), (cea, .inl (k 4, 3731, .inr (.inr (.inr (.inr (fun j => adO (s8 j)))))))]) (wr := [(ura, .inl (k 0, 91, .inl ur)), (ra9, .inl (k 0, 41, .inl f9))]) S hA [0, 1] [2, 3] rfl rfl (by decide) (by decide) (va_runV (As := [.int (nI rw9), .int (nI C9)]) (rest := []) ⟨hx, hb, C.2.2.1, C.2.2.2.1, C.2.2.2.2.1⟩ (g_So_cell l G k h0 _ _ rw9 C9 cea roa coa ura uca au ap al ar ae rw9 C9 fs9 tk9 N9 s8 Z8 hN ⟨hh8.1, hh8.2⟩ (by omega) (by omega) (by omega)) (k_virt (n := 2) C wc_So_cell rfl rfl wz_So wm_So_66 wn_So_cell ws_So_cell (by decide +kernel) ⟨(Nat.le_of_ble_eq_true rfl), (Nat.le_of_ble_eq_true rfl)⟩) (pr_nowVGP K S [0, 1] (by decide) rfl (List.mem_append_left _ (List.mem_of_getElem? (i := 0) rfl)) rfl) rfl rfl hl.1 rfl (lv_room (Nat.le_of_ble_eq_true rfl)) d_So_loadRow_41 ⟨(show pt st N9 - pt s8 N9 + (pt s8 N9 + 10) ≤ pt st N9 + 400 from by omega), (show 2 * (pt st N9 - pt s8 N9) + (2 * pt s8 N9 + 20) ≤ 2 * pt st N9 + 800 from by omega)⟩) (fun c2 H locs hw3 S => ?_)
        have S : Sw G A s.heap _ _ ([(ura, .inl (k 0, 91, .inl ur)), (ra9, .inl (k 0, 41, .inl f9)), (h0, .inr (1, [.ref cea, .ref roa, .ref coa, .ref ura, .ref uca, .ref au, .ref ap, .ref al, .ref ar, .ref ae, .int (nI rw9), .int (nI C9), .int (nI fs9), .int (nI tk9)])), (cea, .inl (k 4, 3731, .inr (.inr (.inr (.inr (fun j => adO (c2.1 j)))))))] ++ (tpl k c2.1 N9)) := S
        have hw3 : hO c2.1 Z8 ∧ atO c2.1 (rw9 * (C9 + 1) + C9) c2.2 ∧ keO s8 c2.1 ∧ pt c2.1 N9 ≤ pt s8 N9 := hw3
        show W p l e _ s m _ below meth c H locs _ _ _ (F0 m 44 ls [.ref c2.2])
        obtain ⟨hh4, at5, ke6, pt7⟩ := hw3
        have lt8 := ix_lt (C := C9) (R := 91) (i := rw9) (j := C9) (by omega) (by omega) (Nat.le_refl _) (by omega)
        refine lv_aload_n hx hb d_So_loadRow_44 rfl (lv_at hl 2 rfl) ?_
        refine lv_bipush (v := 40) hx hb d_So_loadRow_45 (by decide) ?_
        refine r_iald C K S 1 rfl (i := 40) (by unfold vp_in; decide) (v := f9 40) (by rw [show (40 : Int32).toNatClampNeg = 40 from by decide]) d_So_loadRow_47 ?_
        refine lv_i2l (v := lZ (f9 40).toInt) hx hb d_So_loadRow_48 (i32_lZ _) ?_
        refine q_backP (wi := []) (wr := [(ura, .inl (k 0, 91, .inl ur)), (ra9, .inl (k 0, 41, .inl f9)), (h0, .inr (1, [.ref cea, .ref roa, .ref coa, .ref ura, .ref uca, .ref au, .ref ap, .ref al, .ref ar, .ref ae, .int (nI rw9), .int (nI C9), .int (nI fs9), .int (nI tk9)])), (cea, .inl (k 4, 3731, .inr (.inr (.inr (.inr (fun j => adO (c2.1 j)))))))]) S hA [] [0, 1, 2, 3] rfl rfl (by decide) (by decide) (va_runV (As := [.long (lZ (f9 40).toInt)]) (rest := []) ⟨hx, hb, C.2.2.1, C.2.2.2.1, C.2.2.2.2.1⟩ (g_P_set l G k _ _ ((f9 40).toInt) (rw9 * (C9 + 1) + C9) c2.2 N9 c2.1 Z8 V0 hN hh4.1 (by omega) at5 (by omega) (by omega)) (k_virt (n := 1) C wc_Wh_set rfl rfl wz_Wh wm_So_62 wn_Wh_set ws_Wh_set (by decide +kernel) ⟨(Nat.le_of_ble_eq_true rfl), (Nat.le_of_ble_eq_true rfl)⟩) (pr_nowVGP K S [] (by decide) rfl (Classical.choose_spec (at_mem at5 (show rw9 * (C9 + 1) + C9 < N9 by omega))) rfl) rfl rfl hl.1 rfl (lv_room (Nat.le_of_ble_eq_true rfl)) d_So_loadRow_49 ⟨(show pt st N9 - pt s8 N9 + (pt s8 N9 - pt c2.1 N9) ≤ pt st N9 + 400 from by omega), (show 2 * (pt st N9 - pt s8 N9) + (2 * (pt s8 N9 - pt c2.1 N9)) ≤ 2 * pt st N9 + 800 from by omega)⟩) (fun st9 H locs hw10 S => ?_)
        have S : Sw G A s.heap _ _ ([(ura, .inl (k 0, 91, .inl ur)), (ra9, .inl (k 0, 41, .inl f9)), (h0, .inr (1, [.ref cea, .ref roa, .ref coa, .ref ura, .ref uca, .ref au, .ref ap, .ref al, .ref ar, .ref ae, .int (nI rw9), .int (nI C9), .int (nI fs9), .int (nI tk9)])), (cea, .inl (k 4, 3731, .inr (.inr (.inr (.inr (fun j => adO (c2.1 j)))))))] ++ (tpl k st9 N9)) := S
        have hw10 : gO st9 (va_up Z8 (rw9 * (C9 + 1) + C9) ((f9 40).toInt)) (va_up V0 (rw9 * (C9 + 1) + C9) True) ∧ keO c2.1 st9 ∧ pt st9 N9 ≤ pt c2.1 N9 ∧ saO c2.1 st9 := hw10
        show W p l e _ s m _ below meth c H locs _ _ _ (F0 m 52 ls [])
        obtain ⟨g11, ke12, pt13, sa14⟩ := hw10
        have S : Sw G A s.heap H locs ([(ura, .inl (k 0, 91, .inl ur)), (ra9, .inl (k 0, 41, .inl f9)), (h0, .inr (1, [.ref cea, .ref roa, .ref coa, .ref ura, .ref uca, .ref au, .ref ap, .ref al, .ref ar, .ref ae, .int (nI rw9), .int (nI C9), .int (nI fs9), .int (nI tk9)])), (cea, .inl (k 4, 3731, .inr (.inr (.inr (.inr (fun j => adO (st9 j)))))))] ++ (tpl k st9 N9)) := by rw [show (fun j => adO (st9 j)) = _ from sa14]; exact S
        have hh15 : hO st9 (va_up Z8 (rw9 * (C9 + 1) + C9) ((f9 40).toInt)) := hO_up1 g11 hh4.2 (b49i (i32_b _))
        refine lv_aload_n hx hb d_So_loadRow_52 rfl (lv_at hl 1 rfl) ?_
        refine r_get C K S 2 rfl rfl clOk_So 3 (by decide) wf_So_24 (v := .ref ura) rfl d_So_loadRow_53 ?_
        refine lv_aload_n hx hb d_So_loadRow_56 rfl (lv_at hl 1 rfl) ?_
        refine r_get C K S 2 rfl rfl clOk_So 10 (by decide) wf_So_70 (v := .int (nI rw9)) rfl d_So_loadRow_57 ?_
        refine lv_bipush (v := (-2)) hx hb d_So_loadRow_60 (by decide) ?_
        refine r_iast C K S 0 rfl (i := nI rw9) (x := (-2)) (show vp_in (nI rw9) _ from vp_in_nI (n := rw9) (by omega) (by decide)) (f' := va_up ur rw9 (-2)) (ws' := ([(ura, .inl (k 0, 91, .inl (va_up ur rw9 (-2)))), (ra9, .inl (k 0, 41, .inl f9)), (h0, .inr (1, [.ref cea, .ref roa, .ref coa, .ref ura, .ref uca, .ref au, .ref ap, .ref al, .ref ar, .ref ae, .int (nI rw9), .int (nI C9), .int (nI fs9), .int (nI tk9)])), (cea, .inl (k 4, 3731, .inr (.inr (.inr (.inr (fun j => adO (st9 j)))))))] ++ (tpl k st9 N9))) (show upd _ (nI rw9 : Int32).toNatClampNeg (-2) = _ from upd_W ur (j := rw9) (by omega) (-2)) rfl d_So_loadRow_62 (fun H locs S => ?_)
        refine lv_aload_n hx hb d_So_loadRow_63 rfl (lv_at hl 1 rfl) ?_
        refine lv_dup hx hb d_So_loadRow_64 rfl ?_
        refine r_get C K S 2 rfl rfl clOk_So 10 (by decide) wf_So_70 (v := .int (nI rw9)) rfl d_So_loadRow_65 ?_
        refine lv_iconst (v := 1) hx hb d_So_loadRow_68 (by decide) ?_
        refine z_iadd (x := nI rw9) (y := 1) (v := nI (rw9 + 1)) hx hb d_So_loadRow_69 (nI_add rw9 1) ?_
        refine r_put C K S 2 rfl rfl clOk_So 10 (by decide) wf_So_70 rfl (ty := .int) (v := .int (nI (rw9 + 1))) (by decide +kernel) rfl rfl (Nat.le_of_ble_eq_true rfl) (fs' := [.ref cea, .ref roa, .ref coa, .ref ura, .ref uca, .ref au, .ref ap, .ref al, .ref ar, .ref ae, .int (nI (rw9 + 1)), .int (nI C9), .int (nI fs9), .int (nI tk9)]) (ws' := ([(ura, .inl (k 0, 91, .inl (va_up ur rw9 (-2)))), (ra9, .inl (k 0, 41, .inl f9)), (h0, .inr (1, [.ref cea, .ref roa, .ref coa, .ref ura, .ref uca, .ref au, .ref ap, .ref al, .ref ar, .ref ae, .int (nI (rw9 + 1)), .int (nI C9), .int (nI fs9), .int (nI tk9)])), (cea, .inl (k 4, 3731, .inr (.inr (.inr (.inr (fun j => adO (st9 j)))))))] ++ (tpl k st9 N9))) rfl rfl d_So_loadRow_70 (fun H locs S => ?_)
        have hl2 := ld_row (ld_up hld8 (i32_b (f9 40)) (Nat.le_refl _) hC (by omega))
        exact q_vret C K hsz (st9, (va_up Z8 (rw9 * (C9 + 1) + C9) ((f9 40).toInt))) (show hO st9 (va_up Z8 (rw9 * (C9 + 1) + C9) ((f9 40).toInt)) ∧ keO st st9 ∧ pt st9 N9 ≤ pt st N9 ∧ ldP C9 (rw9 + 1) 0 (va_up Z8 (rw9 * (C9 + 1) + C9) ((f9 40).toInt)) from ⟨⟨hh15.1, hh15.2⟩, ((hke8.tr ke6).tr ke12), by omega, hl2⟩) (S.subP [2, 3, 0, 1] (by decide) rfl) d_So_loadRow_73 (show pt st N9 - pt s8 N9 + (pt s8 N9 - pt c2.1 N9) + (pt c2.1 N9 - pt st9 N9) ≤ pt st N9 - pt st9 N9 from by omega) (show 2 * (pt st N9 - pt s8 N9) + (2 * (pt s8 N9 - pt c2.1 N9)) + (2 * (pt c2.1 N9 - pt st9 N9)) ≤ 2 * (pt st N9 - pt st9 N9) from by omega) (show pt st N9 - pt s8 N9 + (pt s8 N9 - pt c2.1 N9) + (pt c2.1 N9 - pt st9 N9) ≤ pt st N9 + 400 from by omega) (show 2 * (pt st N9 - pt s8 N9) + (2 * (pt s8 N9 - pt c2.1 N9)) + (2 * (pt c2.1 N9 - pt st9 N9)) ≤ 2 * pt st N9 + 800 from by omega)
      · refine lv_aload_n hx hb d_So_loadRow_10 rfl (lv_at hl 1 rfl) ?_
        refine lv_aload_n hx hb d_So_loadRow_11 rfl (lv_at hl 1 rfl) ?_
        refine r_get C K S 0 rfl rfl clOk_So 10 (by decide) wf_So_70 (v := .int (nI rw9)) rfl d_So_loadRow_12 ?_
        refine lv_iload_n hx hb d_So_loadRow_15 rfl (lv_at hl 0 rfl) ?_
        refine q_backP (wi := [(h0, .inr (1, [.ref cea, .ref roa, .ref coa, .ref ura, .ref uca, .ref au, .ref ap, .ref al, .ref ar, .ref ae, .int (nI rw9), .int (nI C9), .int (nI fs9), .int (nI tk9)])), (cea, .inl (k 4, 3731, .inr (.inr (.inr (.inr (fun j => adO (s8 j)))))))]) (wr := [(ura, .inl (k 0, 91, .inl ur)), (ra9, .inl (k 0, 41, .inl f9))]) S hA [0, 1] [2, 3] rfl rfl (by decide) (by decide) (va_runV (As := [.int (nI rw9), .int (nI j9)]) (rest := []) ⟨hx, hb, C.2.2.1, C.2.2.2.1, C.2.2.2.2.1⟩ (g_So_cell l G k h0 _ _ rw9 j9 cea roa coa ura uca au ap al ar ae rw9 C9 fs9 tk9 N9 s8 Z8 hN ⟨hh8.1, hh8.2⟩ (by omega) (by omega) (by omega)) (k_virt (n := 2) C wc_So_cell rfl rfl wz_So wm_So_66 wn_So_cell ws_So_cell (by decide +kernel) ⟨(Nat.le_of_ble_eq_true rfl), (Nat.le_of_ble_eq_true rfl)⟩) (pr_nowVGP K S [0, 1] (by decide) rfl (List.mem_append_left _ (List.mem_of_getElem? (i := 0) rfl)) rfl) rfl rfl hl.1 rfl (lv_room (Nat.le_of_ble_eq_true rfl)) d_So_loadRow_16 ⟨(show pt st N9 - pt s8 N9 + (pt s8 N9 + 10) ≤ pt st N9 + 400 from by omega), (show 2 * (pt st N9 - pt s8 N9) + (2 * pt s8 N9 + 20) ≤ 2 * pt st N9 + 800 from by omega)⟩) (fun c16 H locs hw17 S => ?_)
        have S : Sw G A s.heap _ _ ([(ura, .inl (k 0, 91, .inl ur)), (ra9, .inl (k 0, 41, .inl f9)), (h0, .inr (1, [.ref cea, .ref roa, .ref coa, .ref ura, .ref uca, .ref au, .ref ap, .ref al, .ref ar, .ref ae, .int (nI rw9), .int (nI C9), .int (nI fs9), .int (nI tk9)])), (cea, .inl (k 4, 3731, .inr (.inr (.inr (.inr (fun j => adO (c16.1 j)))))))] ++ (tpl k c16.1 N9)) := S
        have hw17 : hO c16.1 Z8 ∧ atO c16.1 (rw9 * (C9 + 1) + j9) c16.2 ∧ keO s8 c16.1 ∧ pt c16.1 N9 ≤ pt s8 N9 := hw17
        show W p l e _ s m _ below meth c H locs _ _ _ (F0 m 19 ls [.ref c16.2])
        obtain ⟨hh18, at19, ke20, pt21⟩ := hw17
        have lt22 := ix_lt (C := C9) (R := 91) (i := rw9) (j := j9) (by omega) (by omega) (Nat.le_refl _) (by omega)
        refine lv_aload_n hx hb d_So_loadRow_19 rfl (lv_at hl 2 rfl) ?_
        refine lv_iload_n hx hb d_So_loadRow_20 rfl (lv_at hl 0 rfl) ?_
        refine r_iald C K S 1 rfl (i := nI j9) (show vp_in (nI j9) _ from vp_in_nI (n := j9) (by omega) (by decide)) (v := f9 j9) (by rw [nI_clamp (by omega)]) d_So_loadRow_21 ?_
        refine lv_i2l (v := lZ (f9 j9).toInt) hx hb d_So_loadRow_22 (i32_lZ _) ?_
        refine q_backP (wi := []) (wr := [(ura, .inl (k 0, 91, .inl ur)), (ra9, .inl (k 0, 41, .inl f9)), (h0, .inr (1, [.ref cea, .ref roa, .ref coa, .ref ura, .ref uca, .ref au, .ref ap, .ref al, .ref ar, .ref ae, .int (nI rw9), .int (nI C9), .int (nI fs9), .int (nI tk9)])), (cea, .inl (k 4, 3731, .inr (.inr (.inr (.inr (fun j => adO (c16.1 j)))))))]) S hA [] [0, 1, 2, 3] rfl rfl (by decide) (by decide) (va_runV (As := [.long (lZ (f9 j9).toInt)]) (rest := []) ⟨hx, hb, C.2.2.1, C.2.2.2.1, C.2.2.2.2.1⟩ (g_P_set l G k _ _ ((f9 j9).toInt) (rw9 * (C9 + 1) + j9) c16.2 N9 c16.1 Z8 V0 hN hh18.1 (by omega) at19 (by omega) (by omega)) (k_virt (n := 1) C wc_Wh_set rfl rfl wz_Wh wm_So_62 wn_Wh_set ws_Wh_set (by decide +kernel) ⟨(Nat.le_of_ble_eq_true rfl), (Nat.le_of_ble_eq_true rfl)⟩) (pr_nowVGP K S [] (by decide) rfl (Classical.choose_spec (at_mem at19 (show rw9 * (C9 + 1) + j9 < N9 by omega))) rfl) rfl rfl hl.1 rfl (lv_room (Nat.le_of_ble_eq_true rfl)) d_So_loadRow_23 ⟨(show pt st N9 - pt s8 N9 + (pt s8 N9 - pt c16.1 N9) ≤ pt st N9 + 400 from by omega), (show 2 * (pt st N9 - pt s8 N9) + (2 * (pt s8 N9 - pt c16.1 N9)) ≤ 2 * pt st N9 + 800 from by omega)⟩) (fun st23 H locs hw24 S => ?_)
        have S : Sw G A s.heap _ _ ([(ura, .inl (k 0, 91, .inl ur)), (ra9, .inl (k 0, 41, .inl f9)), (h0, .inr (1, [.ref cea, .ref roa, .ref coa, .ref ura, .ref uca, .ref au, .ref ap, .ref al, .ref ar, .ref ae, .int (nI rw9), .int (nI C9), .int (nI fs9), .int (nI tk9)])), (cea, .inl (k 4, 3731, .inr (.inr (.inr (.inr (fun j => adO (c16.1 j)))))))] ++ (tpl k st23 N9)) := S
        have hw24 : gO st23 (va_up Z8 (rw9 * (C9 + 1) + j9) ((f9 j9).toInt)) (va_up V0 (rw9 * (C9 + 1) + j9) True) ∧ keO c16.1 st23 ∧ pt st23 N9 ≤ pt c16.1 N9 ∧ saO c16.1 st23 := hw24
        show W p l e _ s m _ below meth c H locs _ _ _ (F0 m 26 ls [])
        obtain ⟨g25, ke26, pt27, sa28⟩ := hw24
        have S : Sw G A s.heap H locs ([(ura, .inl (k 0, 91, .inl ur)), (ra9, .inl (k 0, 41, .inl f9)), (h0, .inr (1, [.ref cea, .ref roa, .ref coa, .ref ura, .ref uca, .ref au, .ref ap, .ref al, .ref ar, .ref ae, .int (nI rw9), .int (nI C9), .int (nI fs9), .int (nI tk9)])), (cea, .inl (k 4, 3731, .inr (.inr (.inr (.inr (fun j => adO (st23 j)))))))] ++ (tpl k st23 N9)) := by rw [show (fun j => adO (st23 j)) = _ from sa28]; exact S
        have hh29 : hO st23 (va_up Z8 (rw9 * (C9 + 1) + j9) ((f9 j9).toInt)) := hO_up1 g25 hh18.2 (b49i (i32_b _))
        refine lv_iinc (v := nI (j9 + 1)) (lv' := [(2, .int (nI (j9 + 1))), (0, .ref h0), (1, .ref ra9)]) hx hb d_So_loadRow_26 hl (k := 0) rfl (show nI j9 + Int32.ofInt 1 = nI (j9 + 1) from (nI_add j9 1).trans (congrArg nI (by omega))) (by decide) rfl (fun ls hl => ?_)
        refine lv_goto (tgt := 2) hx hb d_So_loadRow_29 (by decide) ?_
        refine W.widen (show pt st N9 - pt s8 N9 + (pt s8 N9 - pt c16.1 N9) + (pt c16.1 N9 - pt st23 N9) ≤ pt st N9 - pt st23 N9 from by omega) (show 2 * (pt st N9 - pt s8 N9) + (2 * (pt s8 N9 - pt c16.1 N9)) + (2 * (pt c16.1 N9 - pt st23 N9)) ≤ 2 * (pt st N9 - pt st23 N9) from by omega) ?_
        exact ih_lp st23 (va_up Z8 (rw9 * (C9 + 1) + j9) ((f9 j9).toInt)) (j9 + 1) (by omega) ⟨hh29.1, hh29.2⟩ ((hke8.tr ke20).tr ke26) (by omega) (by omega) (ld_up hld8 (i32_b _) (by omega) hC (by omega)) _ _ (S.subP [2, 3, 0, 1] (by decide) rfl) ls (lv_sub hl [0, 1, 2] rfl)
  exact lp _ st Z 0 (Nat.lt_succ_self _) ⟨hh.1, hh.2⟩ (keO.rf st) (by omega) (by omega) hld _ _ (S.subP [0, 1, 2, 3] (by decide) rfl) ls (lv_sub hl [0, 1, 2] rfl)
theorem d_So_tell_0 : decode c_So_tell 0 = .ok (.aload_n 0, 1) := by decide +kernel
theorem d_So_tell_1 : decode c_So_tell 1 = .ok (.getfield 17, 3) := by decide +kernel
theorem d_So_tell_4 : decode c_So_tell 4 = .ok (.aload_n 0, 1) := by decide +kernel
theorem d_So_tell_5 : decode c_So_tell 5 = .ok (.getfield 47, 3) := by decide +kernel
theorem d_So_tell_8 : decode c_So_tell 8 = .ok (.iload_n 1, 1) := by decide +kernel
theorem d_So_tell_9 : decode c_So_tell 9 = .ok (.iadd, 1) := by decide +kernel
theorem d_So_tell_10 : decode c_So_tell 10 = .ok (.iaload, 1) := by decide +kernel
theorem d_So_tell_11 : decode c_So_tell 11 = .ok (.istore_n 3, 1) := by decide +kernel
theorem d_So_tell_12 : decode c_So_tell 12 = .ok (.iload_n 3, 1) := by decide +kernel
theorem d_So_tell_13 : decode c_So_tell 13 = .ok (.bipush (-2), 2) := by decide +kernel
theorem d_So_tell_15 : decode c_So_tell 15 = .ok (.if_icmp .ne 11, 3) := by decide +kernel
theorem d_So_tell_18 : decode c_So_tell 18 = .ok (.aload_n 2, 1) := by decide +kernel
theorem d_So_tell_19 : decode c_So_tell 19 = .ok (.lconst 0, 1) := by decide +kernel
theorem d_So_tell_20 : decode c_So_tell 20 = .ok (.invokevirtual 62, 3) := by decide +kernel
theorem d_So_tell_23 : decode c_So_tell 23 = .ok (.goto 16, 3) := by decide +kernel
theorem d_So_tell_26 : decode c_So_tell 26 = .ok (.aload_n 2, 1) := by decide +kernel
theorem d_So_tell_27 : decode c_So_tell 27 = .ok (.aload_n 0, 1) := by decide +kernel
theorem d_So_tell_28 : decode c_So_tell 28 = .ok (.iload_n 3, 1) := by decide +kernel
theorem d_So_tell_29 : decode c_So_tell 29 = .ok (.aload_n 0, 1) := by decide +kernel
theorem d_So_tell_30 : decode c_So_tell 30 = .ok (.getfield 59, 3) := by decide +kernel
theorem d_So_tell_33 : decode c_So_tell 33 = .ok (.invokevirtual 66, 3) := by decide +kernel
theorem d_So_tell_36 : decode c_So_tell 36 = .ok (.invokevirtual 133, 3) := by decide +kernel
theorem d_So_tell_39 : decode c_So_tell 39 = .ok (.return_, 1) := by decide +kernel
set_option maxRecDepth 100000 in
set_option maxHeartbeats 16000000 in
/-- tell -/
theorem g_So_tell (l : Launch) (G : va_G) (k : Nat → ClassId) (h0 : Nat) (s0 sl : Nat) (qi : Nat) (ip9 : Nat) (ai9 : Nat) (cea : Nat) (roa : Nat) (coa : Nat) (ura : Nat) (uca : Nat) (au : Nat) (ap : Nat) (al : Nat) (ar : Nat) (ae : Nat) (rw9 : Nat) (C9 : Nat) (fs9 : Nat) (tk9 : Nat) (ro : Nat → Int32) (N9 : Nat) (st : Nat → Option wQ) (Z : Nat → Int) (hN : N9 = 3745) (hh : hO st Z) (hU : atO st 3731 au) (hP : atO st 3732 ap) (hL : atO st 3733 al) (hR : atO st 3734 ar) (hE : atO st 3735 ae) (hC : C9 ≤ 40) (hRw : rw9 ≤ 91) (hro : ∀ v, v < C9 → ro v = -2 ∨ ∃ r, r < rw9 ∧ ro v = nI r) (hfi : fs9 + qi < C9) (hip : 3736 ≤ ip9) (hip2 : ip9 ≤ 3740) (hai : atO st ip9 ai9) : CG l y_So_tell c_So_tell 4 none { frames := 4, cells := pt st N9 + 400, slots := 2 * pt st N9 + 800, locals := 125 } [.ref h0, .int (nI qi), .ref ai9] G k s0 sl ([(h0, .inr (1, [.ref cea, .ref roa, .ref coa, .ref ura, .ref uca, .ref au, .ref ap, .ref al, .ref ar, .ref ae, .int (nI rw9), .int (nI C9), .int (nI fs9), .int (nI tk9)])), (cea, .inl (k 4, 3731, .inr (.inr (.inr (.inr (fun j => adO (st j))))))), (roa, .inl (k 0, 40, .inl ro))] ++ (tpl k st N9)) (fun (u : (Nat → Option wQ) × (Nat → Int)) => none) (fun (u : (Nat → Option wQ) × (Nat → Int)) => hO u.1 u.2 ∧ keO st u.1 ∧ pt u.1 N9 ≤ pt st N9) (fun (u : (Nat → Option wQ) × (Nat → Int)) => ([(h0, .inr (1, [.ref cea, .ref roa, .ref coa, .ref ura, .ref uca, .ref au, .ref ap, .ref al, .ref ar, .ref ae, .int (nI rw9), .int (nI C9), .int (nI fs9), .int (nI tk9)])), (cea, .inl (k 4, 3731, .inr (.inr (.inr (.inr (fun j => adO (u.1 j))))))), (roa, .inl (k 0, 40, .inl ro))] ++ (tpl k u.1 N9))) (fun (u : (Nat → Option wQ) × (Nat → Int)) => pt st N9 - pt u.1 N9) (fun (u : (Nat → Option wQ) × (Nat → Int)) => 2 * (pt st N9 - pt u.1 N9)) (pt st N9 + 400) (2 * pt st N9 + 800) := by
  refine met_startG (by decide) (Nat.le_of_ble_eq_true rfl) ?_
  intro p e s m below meth c C K hA hsz S ls hl
  generalize va_A ([(h0, .inr (1, [.ref cea, .ref roa, .ref coa, .ref ura, .ref uca, .ref au, .ref ap, .ref al, .ref ar, .ref ae, .int (nI rw9), .int (nI C9), .int (nI fs9), .int (nI tk9)])), (cea, .inl (k 4, 3731, .inr (.inr (.inr (.inr (fun j => adO (st j))))))), (roa, .inl (k 0, 40, .inl ro))] ++ (tpl k st N9)) s0 = A at hA S ⊢
  have hx := C.1
  have hb := C.2.1
  have hl : lv_has ls 4 [(0, .ref h0), (1, .int (nI qi)), (2, .ref ai9)] := hl
  refine lv_aload_n hx hb d_So_tell_0 rfl (lv_at hl 0 rfl) ?_
  refine r_get C K S 0 rfl rfl clOk_So 1 (by decide) wf_So_17 (v := .ref roa) rfl d_So_tell_1 ?_
  refine lv_aload_n hx hb d_So_tell_4 rfl (lv_at hl 0 rfl) ?_
  refine r_get C K S 0 rfl rfl clOk_So 12 (by decide) wf_So_47 (v := .int (nI fs9)) rfl d_So_tell_5 ?_
  refine lv_iload_n hx hb d_So_tell_8 rfl (lv_at hl 1 rfl) ?_
  refine z_iadd (x := nI fs9) (y := nI qi) (v := nI (fs9 + qi)) hx hb d_So_tell_9 (nI_add fs9 qi) ?_
  refine r_iald C K S 2 rfl (i := nI (fs9 + qi)) (show vp_in (nI (fs9 + qi)) _ from vp_in_nI (n := (fs9 + qi)) (by omega) (by decide)) (v := ro (fs9 + qi)) (by rw [nI_clamp (by omega)]) d_So_tell_10 ?_
  refine lv_istore_n (lv' := [(3, .int (ro (fs9 + qi))), (0, .ref h0), (1, .int (nI qi)), (2, .ref ai9)]) hx hb d_So_tell_11 rfl hl (by decide) rfl (fun ls hl => ?_)
  refine lv_iload_n hx hb d_So_tell_12 rfl (lv_at hl 0 rfl) ?_
  refine lv_bipush (v := (-2)) hx hb d_So_tell_13 (by decide) ?_
  refine lv_icmp_ne (tgt := 26) hx hb d_So_tell_15 (by decide) (fun hc1 => ?_) (fun hc1 => ?_)
  · obtain ⟨b7, l7, e7⟩ := (hro _ hfi).resolve_left hc1
    refine lv_aload_n hx hb d_So_tell_26 rfl (lv_at hl 3 rfl) ?_
    refine lv_aload_n hx hb d_So_tell_27 rfl (lv_at hl 1 rfl) ?_
    refine lv_iload_n hx hb d_So_tell_28 rfl (lv_at hl 0 rfl) ?_
    refine z_topi (y := nI b7) e7 ?_
    refine lv_aload_n hx hb d_So_tell_29 rfl (lv_at hl 1 rfl) ?_
    refine r_get C K S 0 rfl rfl clOk_So 11 (by decide) wf_So_59 (v := .int (nI C9)) rfl d_So_tell_30 ?_
    refine q_backP (wi := [(h0, .inr (1, [.ref cea, .ref roa, .ref coa, .ref ura, .ref uca, .ref au, .ref ap, .ref al, .ref ar, .ref ae, .int (nI rw9), .int (nI C9), .int (nI fs9), .int (nI tk9)])), (cea, .inl (k 4, 3731, .inr (.inr (.inr (.inr (fun j => adO (st j)))))))]) (wr := [(roa, .inl (k 0, 40, .inl ro))]) S hA [0, 1] [2] rfl rfl (by decide) (by decide) (va_runV (As := [.int (nI b7), .int (nI C9)]) (rest := [.ref ai9]) ⟨hx, hb, C.2.2.1, C.2.2.2.1, C.2.2.2.2.1⟩ (g_So_cell l G k h0 _ _ b7 C9 cea roa coa ura uca au ap al ar ae rw9 C9 fs9 tk9 N9 st Z hN ⟨hh.1, hh.2⟩ (by omega) (by omega) (by omega)) (k_virt (n := 2) C wc_So_cell rfl rfl wz_So wm_So_66 wn_So_cell ws_So_cell (by decide +kernel) ⟨(Nat.le_of_ble_eq_true rfl), (Nat.le_of_ble_eq_true rfl)⟩) (pr_nowVGP K S [0, 1] (by decide) rfl (List.mem_append_left _ (List.mem_of_getElem? (i := 0) rfl)) rfl) rfl rfl hl.1 rfl (lv_room (Nat.le_of_ble_eq_true rfl)) d_So_tell_33 ⟨(show 0 + (pt st N9 + 10) ≤ pt st N9 + 400 from by omega), (show 0 + (2 * pt st N9 + 20) ≤ 2 * pt st N9 + 800 from by omega)⟩) (fun c2 H locs hw3 S => ?_)
    have S : Sw G A s.heap _ _ ([(roa, .inl (k 0, 40, .inl ro)), (h0, .inr (1, [.ref cea, .ref roa, .ref coa, .ref ura, .ref uca, .ref au, .ref ap, .ref al, .ref ar, .ref ae, .int (nI rw9), .int (nI C9), .int (nI fs9), .int (nI tk9)])), (cea, .inl (k 4, 3731, .inr (.inr (.inr (.inr (fun j => adO (c2.1 j)))))))] ++ (tpl k c2.1 N9)) := S
    have hw3 : hO c2.1 Z ∧ atO c2.1 (b7 * (C9 + 1) + C9) c2.2 ∧ keO st c2.1 ∧ pt c2.1 N9 ≤ pt st N9 := hw3
    show W p l e _ s m _ below meth c H locs _ _ _ (F0 m 36 ls [.ref c2.2, .ref ai9])
    obtain ⟨hh4, at5, ke6, pt7⟩ := hw3
    have lt8 := ix_lt (C := C9) (R := 91) (i := b7) (j := C9) (by omega) (by omega) (Nat.le_refl _) (by omega)
    have mb9 := Mb_le ip9
    refine q_backP (wi := []) (wr := [(roa, .inl (k 0, 40, .inl ro)), (h0, .inr (1, [.ref cea, .ref roa, .ref coa, .ref ura, .ref uca, .ref au, .ref ap, .ref al, .ref ar, .ref ae, .int (nI rw9), .int (nI C9), .int (nI fs9), .int (nI tk9)])), (cea, .inl (k 4, 3731, .inr (.inr (.inr (.inr (fun j => adO (c2.1 j)))))))]) S hA [] [0, 1, 2] rfl rfl (by decide) (by decide) (va_runV (As := [.ref c2.2]) (rest := []) ⟨hx, hb, C.2.2.1, C.2.2.2.1, C.2.2.2.2.1⟩ (g_P_copy l G k _ _ ip9 (b7 * (C9 + 1) + C9) ai9 c2.2 (Z (b7 * (C9 + 1) + C9)) N9 c2.1 Z V0 hN hh4.1 (by omega) (by omega) (ke6.at hai) at5 rfl (show V0 (b7 * (C9 + 1) + C9) from by unfold V0; omega) (by omega) (hh4.2 (b7 * (C9 + 1) + C9) (by omega) (by unfold V0; omega))) (k_virt (n := 1) C wc_Wh_copy rfl rfl wz_Wh wm_So_133 wn_Wh_copy ws_Wh_copy (by decide +kernel) ⟨(Nat.le_of_ble_eq_true rfl), (Nat.le_of_ble_eq_true rfl)⟩) (pr_nowVGP K S [] (by decide) rfl (Classical.choose_spec (at_mem (ke6.at hai) (show ip9 < N9 by omega))) rfl) rfl rfl hl.1 rfl (lv_room (Nat.le_of_ble_eq_true rfl)) d_So_tell_36 ⟨(show 0 + (pt st N9 - pt c2.1 N9) + (Mb ip9) ≤ pt st N9 + 400 from by omega), (show 0 + (2 * (pt st N9 - pt c2.1 N9)) + (2 * Mb ip9) ≤ 2 * pt st N9 + 800 from by omega)⟩) (fun st10 H locs hw11 S => ?_)
    have S : Sw G A s.heap _ _ ([(roa, .inl (k 0, 40, .inl ro)), (h0, .inr (1, [.ref cea, .ref roa, .ref coa, .ref ura, .ref uca, .ref au, .ref ap, .ref al, .ref ar, .ref ae, .int (nI rw9), .int (nI C9), .int (nI fs9), .int (nI tk9)])), (cea, .inl (k 4, 3731, .inr (.inr (.inr (.inr (fun j => adO (c2.1 j)))))))] ++ (tpl k st10 N9)) := S
    have hw11 : gO st10 (va_up Z ip9 (Z (b7 * (C9 + 1) + C9))) (va_up V0 ip9 True) ∧ keO c2.1 st10 ∧ pt st10 N9 ≤ pt c2.1 N9 ∧ saO c2.1 st10 := hw11
    show W p l e _ s m _ below meth c H locs _ _ _ (F0 m 39 ls [])
    obtain ⟨g12, ke13, pt14, sa15⟩ := hw11
    have S : Sw G A s.heap H locs ([(roa, .inl (k 0, 40, .inl ro)), (h0, .inr (1, [.ref cea, .ref roa, .ref coa, .ref ura, .ref uca, .ref au, .ref ap, .ref al, .ref ar, .ref ae, .int (nI rw9), .int (nI C9), .int (nI fs9), .int (nI tk9)])), (cea, .inl (k 4, 3731, .inr (.inr (.inr (.inr (fun j => adO (st10 j)))))))] ++ (tpl k st10 N9)) := by rw [show (fun j => adO (st10 j)) = _ from sa15]; exact S
    have hh16 : hO st10 (va_up Z ip9 (Z (b7 * (C9 + 1) + C9))) := hO_up1 g12 hh4.2 (hh4.2 _ (by omega) (by unfold V0; omega))
    exact q_vret C K hsz (st10, (va_up Z ip9 (Z (b7 * (C9 + 1) + C9)))) (show hO st10 (va_up Z ip9 (Z (b7 * (C9 + 1) + C9))) ∧ keO st st10 ∧ pt st10 N9 ≤ pt st N9 from ⟨⟨hh16.1, hh16.2⟩, (ke6.tr ke13), by omega⟩) (S.subP [1, 2, 0] (by decide) rfl) d_So_tell_39 (show 0 + (pt st N9 - pt c2.1 N9) + (pt c2.1 N9 - pt st10 N9) ≤ pt st N9 - pt st10 N9 from by omega) (show 0 + (2 * (pt st N9 - pt c2.1 N9)) + (2 * (pt c2.1 N9 - pt st10 N9)) ≤ 2 * (pt st N9 - pt st10 N9) from by omega) (show 0 + (pt st N9 - pt c2.1 N9) + (pt c2.1 N9 - pt st10 N9) ≤ pt st N9 + 400 from by omega) (show 0 + (2 * (pt st N9 - pt c2.1 N9)) + (2 * (pt c2.1 N9 - pt st10 N9)) ≤ 2 * pt st N9 + 800 from by omega)
  · refine lv_aload_n hx hb d_So_tell_18 rfl (lv_at hl 3 rfl) ?_
    refine lv_lconst (v := 0) hx hb d_So_tell_19 (by decide) ?_
    refine z_topl (y := lZ 0) (by decide) ?_
    refine q_backP (wi := []) (wr := [(h0, .inr (1, [.ref cea, .ref roa, .ref coa, .ref ura, .ref uca, .ref au, .ref ap, .ref al, .ref ar, .ref ae, .int (nI rw9), .int (nI C9), .int (nI fs9), .int (nI tk9)])), (cea, .inl (k 4, 3731, .inr (.inr (.inr (.inr (fun j => adO (st j))))))), (roa, .inl (k 0, 40, .inl ro))]) S hA [] [0, 1, 2] rfl rfl (by decide) (by decide) (va_runV (As := [.long (lZ 0)]) (rest := []) ⟨hx, hb, C.2.2.1, C.2.2.2.1, C.2.2.2.2.1⟩ (g_P_set l G k _ _ 0 ip9 ai9 N9 st Z V0 hN hh.1 (by omega) hai (by decide) (by decide)) (k_virt (n := 1) C wc_Wh_set rfl rfl wz_Wh wm_So_62 wn_Wh_set ws_Wh_set (by decide +kernel) ⟨(Nat.le_of_ble_eq_true rfl), (Nat.le_of_ble_eq_true rfl)⟩) (pr_nowVGP K S [] (by decide) rfl (Classical.choose_spec (at_mem hai (show ip9 < N9 by omega))) rfl) rfl rfl hl.1 rfl (lv_room (Nat.le_of_ble_eq_true rfl)) d_So_tell_20 ⟨(Nat.zero_le _), (Nat.zero_le _)⟩) (fun st17 H locs hw18 S => ?_)
    have S : Sw G A s.heap _ _ ([(h0, .inr (1, [.ref cea, .ref roa, .ref coa, .ref ura, .ref uca, .ref au, .ref ap, .ref al, .ref ar, .ref ae, .int (nI rw9), .int (nI C9), .int (nI fs9), .int (nI tk9)])), (cea, .inl (k 4, 3731, .inr (.inr (.inr (.inr (fun j => adO (st j))))))), (roa, .inl (k 0, 40, .inl ro))] ++ (tpl k st17 N9)) := S
    have hw18 : gO st17 (va_up Z ip9 0) (va_up V0 ip9 True) ∧ keO st st17 ∧ pt st17 N9 ≤ pt st N9 ∧ saO st st17 := hw18
    show W p l e _ s m _ below meth c H locs _ _ _ (F0 m 23 ls [])
    obtain ⟨g19, ke20, pt21, sa22⟩ := hw18
    have S : Sw G A s.heap H locs ([(h0, .inr (1, [.ref cea, .ref roa, .ref coa, .ref ura, .ref uca, .ref au, .ref ap, .ref al, .ref ar, .ref ae, .int (nI rw9), .int (nI C9), .int (nI fs9), .int (nI tk9)])), (cea, .inl (k 4, 3731, .inr (.inr (.inr (.inr (fun j => adO (st17 j))))))), (roa, .inl (k 0, 40, .inl ro))] ++ (tpl k st17 N9)) := by rw [show (fun j => adO (st17 j)) = _ from sa22]; exact S
    have hh23 : hO st17 (va_up Z ip9 0) := hO_up1 g19 hh.2 (by decide +kernel)
    refine lv_goto (tgt := 39) hx hb d_So_tell_23 (by decide) ?_
    exact q_vret C K hsz (st17, (va_up Z ip9 0)) (show hO st17 (va_up Z ip9 0) ∧ keO st st17 ∧ pt st17 N9 ≤ pt st N9 from ⟨⟨hh23.1, hh23.2⟩, ke20, by omega⟩) (S.subP [0, 1, 2] (by decide) rfl) d_So_tell_39 (show 0 + (pt st N9 - pt st17 N9) ≤ pt st N9 - pt st17 N9 from by omega) (show 0 + (2 * (pt st N9 - pt st17 N9)) ≤ 2 * (pt st N9 - pt st17 N9) from by omega) (show 0 + (pt st N9 - pt st17 N9) ≤ pt st N9 + 400 from by omega) (show 0 + (2 * (pt st N9 - pt st17 N9)) ≤ 2 * pt st N9 + 800 from by omega)
end
