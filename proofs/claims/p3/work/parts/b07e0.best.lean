def B50 : Nat := 2147483648 ^ 50
theorem B50_lt : 20 * B50 < 2147483648 ^ 99 := by unfold B50; decide +kernel
theorem B50_49 : 2147483648 ^ 49 ≤ 1 * B50 := by unfold B50; decide +kernel
theorem b49i2 {z : Int} (h : z.natAbs ≤ 9223372036854775808) : z.natAbs < 2147483648 ^ 49 := Nat.lt_of_le_of_lt h (by decide +kernel)
theorem b99d {x y : Int} (hx : x.natAbs < 2147483648 ^ 49) (hy : y.natAbs ≤ 9223372036854775808) : (x * y).natAbs < 2147483648 ^ 99 := Nat.lt_trans (b51 hx (Nat.lt_of_le_of_lt hy (by decide +kernel))) (by decide +kernel)
theorem b50d {x y : Int} (hx : x.natAbs < 2147483648 ^ 49) (hy : y.natAbs ≤ 2147483648) : (x * y).natAbs ≤ B50 := by
  rw [Int.natAbs_mul]
  have h1 := Nat.mul_le_mul (Nat.le_of_lt hx) hy
  rw [← Nat.pow_succ] at h1
  exact h1
theorem has_of {x : Int32} {t : Nat} (ht : t ≤ 3) (h1 : ¬ x < 0) (h2 : ¬ nI t ≤ x) : ∃ j, j < 4 ∧ x = nI j := by
  have e0 : (0 : Int32).toInt = 0 := by decide
  rw [Int32.lt_iff_toInt_lt, e0] at h1
  rw [Int32.le_iff_toInt_le, i32_nn (by omega)] at h2
  refine ⟨x.toInt.toNat, by omega, Int32.toInt_inj.mp ?_⟩
  rw [i32_nn (by omega)]
  omega
theorem d_Be_has_0 : decode c_Be_has 0 = .ok (.aload_n 0, 1) := by decide +kernel
theorem d_Be_has_1 : decode c_Be_has 1 = .ok (.getfield 34, 3) := by decide +kernel
theorem d_Be_has_4 : decode c_Be_has 4 = .ok (.ifCond .eq 24, 3) := by decide +kernel
theorem d_Be_has_7 : decode c_Be_has 7 = .ok (.iload_n 1, 1) := by decide +kernel
theorem d_Be_has_8 : decode c_Be_has 8 = .ok (.iconst 3, 1) := by decide +kernel
theorem d_Be_has_9 : decode c_Be_has 9 = .ok (.if_icmp .eq 15, 3) := by decide +kernel
theorem d_Be_has_12 : decode c_Be_has 12 = .ok (.iload_n 1, 1) := by decide +kernel
theorem d_Be_has_13 : decode c_Be_has 13 = .ok (.ifCond .lt 15, 3) := by decide +kernel
theorem d_Be_has_16 : decode c_Be_has 16 = .ok (.iload_n 1, 1) := by decide +kernel
theorem d_Be_has_17 : decode c_Be_has 17 = .ok (.aload_n 0, 1) := by decide +kernel
theorem d_Be_has_18 : decode c_Be_has 18 = .ok (.getfield 44, 3) := by decide +kernel
theorem d_Be_has_21 : decode c_Be_has 21 = .ok (.if_icmp .ge 7, 3) := by decide +kernel
theorem d_Be_has_24 : decode c_Be_has 24 = .ok (.iconst 1, 1) := by decide +kernel
theorem d_Be_has_25 : decode c_Be_has 25 = .ok (.goto 4, 3) := by decide +kernel
theorem d_Be_has_28 : decode c_Be_has 28 = .ok (.iconst 0, 1) := by decide +kernel
theorem d_Be_has_29 : decode c_Be_has 29 = .ok (.ireturn, 1) := by decide +kernel
set_option maxRecDepth 100000 in
set_option maxHeartbeats 16000000 in
/-- has -/
theorem g_Be_has (l : Launch) (G : va_G) (k : Nat → ClassId) (h0 : Nat) (s0 sl : Nat) (xi9 : Int32) (pta : Nat) (bu9 : Nat) (bs9 : Nat) (bf9 : Nat) (bp9 : Nat) (br9 : Nat) (fo9 : Nat) (bt9 : Nat) (pa : Nat → Nat) (hfo : fo9 ≤ 1) (hbt : bt9 ≤ 3) : CG l y_Be_has c_Be_has 2 (some .boolean) { frames := 0, cells := 0, slots := 0, locals := 0 } [.ref h0, .int xi9] G k s0 sl [(h0, .inr (3, [.ref pta, .ref bu9, .ref bs9, .ref bf9, .ref bp9, .ref br9, .int (nI fo9), .int (nI bt9)]))] (fun (u : Nat) => some (.int (nI u))) (fun (u : Nat) => u ≤ 1 ∧ (u = 1 → fo9 = 1 ∧ ∃ j, j < 4 ∧ xi9 = nI j)) (fun (u : Nat) => [(h0, .inr (3, [.ref pta, .ref bu9, .ref bs9, .ref bf9, .ref bp9, .ref br9, .int (nI fo9), .int (nI bt9)]))]) (fun (u : Nat) => 0) (fun (u : Nat) => 0) 0 0 := by
  refine met_startG (by decide) (Nat.le_of_ble_eq_true rfl) ?_
  intro p e s m below meth c C K hA hsz S ls hl
  generalize va_A [(h0, .inr (3, [.ref pta, .ref bu9, .ref bs9, .ref bf9, .ref bp9, .ref br9, .int (nI fo9), .int (nI bt9)]))] s0 = A at hA S ⊢
  have hx := C.1
  have hb := C.2.1
  have hl : lv_has ls 2 [(0, .ref h0), (1, .int xi9)] := hl
  refine lv_aload_n hx hb d_Be_has_0 rfl (lv_at hl 0 rfl) ?_
  refine r_get C K S 0 rfl rfl clOk_Be 6 (by decide) wf_Be_34 (v := .int (nI fo9)) rfl d_Be_has_1 ?_
  refine z_if_eq (a := fo9) (tgt := 28) hx hb d_Be_has_4 (by decide) (by omega) (fun hc1 => ?_) (fun hc1 => ?_)
  · refine lv_iconst (v := 0) hx hb d_Be_has_28 (by decide) ?_
    exact q_iret (v := 0) (rv := (fun (u : Nat) => some (.int (nI u)))) (post := (fun (u : Nat) => u ≤ 1 ∧ (u = 1 → fo9 = 1 ∧ ∃ j, j < 4 ∧ xi9 = nI j))) (wo := (fun (u : Nat) => [(h0, .inr (3, [.ref pta, .ref bu9, .ref bs9, .ref bf9, .ref bp9, .ref br9, .int (nI fo9), .int (nI bt9)]))])) (cu := (fun (u : Nat) => 0)) (nu := (fun (u : Nat) => 0)) C K hsz rfl (0 : Nat) rfl (show (0 : Nat) ≤ 1 ∧ ((0 : Nat) = 1 → fo9 = 1 ∧ ∃ j, j < 4 ∧ xi9 = nI j) from ⟨by decide, fun q => absurd q (by decide)⟩) (S.sub [0] (by decide) rfl) d_Be_has_29 (Nat.zero_le _) (Nat.zero_le _) (Nat.zero_le _) (Nat.zero_le _)
  · refine lv_iload_n hx hb d_Be_has_7 rfl (lv_at hl 1 rfl) ?_
    refine lv_iconst (v := 3) hx hb d_Be_has_8 (by decide) ?_
    refine lv_icmp_eq (tgt := 24) hx hb d_Be_has_9 (by decide) (fun hc2 => ?_) (fun hc2 => ?_)
    · refine lv_iconst (v := 1) hx hb d_Be_has_24 (by decide) ?_
      refine lv_goto (tgt := 29) hx hb d_Be_has_25 (by decide) ?_
      exact q_iret (v := 1) (rv := (fun (u : Nat) => some (.int (nI u)))) (post := (fun (u : Nat) => u ≤ 1 ∧ (u = 1 → fo9 = 1 ∧ ∃ j, j < 4 ∧ xi9 = nI j))) (wo := (fun (u : Nat) => [(h0, .inr (3, [.ref pta, .ref bu9, .ref bs9, .ref bf9, .ref bp9, .ref br9, .int (nI fo9), .int (nI bt9)]))])) (cu := (fun (u : Nat) => 0)) (nu := (fun (u : Nat) => 0)) C K hsz rfl (1 : Nat) rfl (show (1 : Nat) ≤ 1 ∧ ((1 : Nat) = 1 → fo9 = 1 ∧ ∃ j, j < 4 ∧ xi9 = nI j) from ⟨by decide, fun _ => ⟨by omega, ⟨3, by decide, hc2⟩⟩⟩) (S.sub [0] (by decide) rfl) d_Be_has_29 (Nat.zero_le _) (Nat.zero_le _) (Nat.zero_le _) (Nat.zero_le _)
    · refine lv_iload_n hx hb d_Be_has_12 rfl (lv_at hl 1 rfl) ?_
      refine lv_if_lt (tgt := 28) hx hb d_Be_has_13 (by decide) (fun hc3 => ?_) (fun hc3 => ?_)
      · refine lv_iconst (v := 0) hx hb d_Be_has_28 (by decide) ?_
        exact q_iret (v := 0) (rv := (fun (u : Nat) => some (.int (nI u)))) (post := (fun (u : Nat) => u ≤ 1 ∧ (u = 1 → fo9 = 1 ∧ ∃ j, j < 4 ∧ xi9 = nI j))) (wo := (fun (u : Nat) => [(h0, .inr (3, [.ref pta, .ref bu9, .ref bs9, .ref bf9, .ref bp9, .ref br9, .int (nI fo9), .int (nI bt9)]))])) (cu := (fun (u : Nat) => 0)) (nu := (fun (u : Nat) => 0)) C K hsz rfl (0 : Nat) rfl (show (0 : Nat) ≤ 1 ∧ ((0 : Nat) = 1 → fo9 = 1 ∧ ∃ j, j < 4 ∧ xi9 = nI j) from ⟨by decide, fun q => absurd q (by decide)⟩) (S.sub [0] (by decide) rfl) d_Be_has_29 (Nat.zero_le _) (Nat.zero_le _) (Nat.zero_le _) (Nat.zero_le _)
      · refine lv_iload_n hx hb d_Be_has_16 rfl (lv_at hl 1 rfl) ?_
        refine lv_aload_n hx hb d_Be_has_17 rfl (lv_at hl 0 rfl) ?_
        refine r_get C K S 0 rfl rfl clOk_Be 7 (by decide) wf_Be_44 (v := .int (nI bt9)) rfl d_Be_has_18 ?_
        refine lv_icmp_ge (tgt := 28) hx hb d_Be_has_21 (by decide) (fun hc4 => ?_) (fun hc4 => ?_)
        · refine lv_iconst (v := 0) hx hb d_Be_has_28 (by decide) ?_
          exact q_iret (v := 0) (rv := (fun (u : Nat) => some (.int (nI u)))) (post := (fun (u : Nat) => u ≤ 1 ∧ (u = 1 → fo9 = 1 ∧ ∃ j, j < 4 ∧ xi9 = nI j))) (wo := (fun (u : Nat) => [(h0, .inr (3, [.ref pta, .ref bu9, .ref bs9, .ref bf9, .ref bp9, .ref br9, .int (nI fo9), .int (nI bt9)]))])) (cu := (fun (u : Nat) => 0)) (nu := (fun (u : Nat) => 0)) C K hsz rfl (0 : Nat) rfl (show (0 : Nat) ≤ 1 ∧ ((0 : Nat) = 1 → fo9 = 1 ∧ ∃ j, j < 4 ∧ xi9 = nI j) from ⟨by decide, fun q => absurd q (by decide)⟩) (S.sub [0] (by decide) rfl) d_Be_has_29 (Nat.zero_le _) (Nat.zero_le _) (Nat.zero_le _) (Nat.zero_le _)
        · refine lv_iconst (v := 1) hx hb d_Be_has_24 (by decide) ?_
          refine lv_goto (tgt := 29) hx hb d_Be_has_25 (by decide) ?_
          exact q_iret (v := 1) (rv := (fun (u : Nat) => some (.int (nI u)))) (post := (fun (u : Nat) => u ≤ 1 ∧ (u = 1 → fo9 = 1 ∧ ∃ j, j < 4 ∧ xi9 = nI j))) (wo := (fun (u : Nat) => [(h0, .inr (3, [.ref pta, .ref bu9, .ref bs9, .ref bf9, .ref bp9, .ref br9, .int (nI fo9), .int (nI bt9)]))])) (cu := (fun (u : Nat) => 0)) (nu := (fun (u : Nat) => 0)) C K hsz rfl (1 : Nat) rfl (show (1 : Nat) ≤ 1 ∧ ((1 : Nat) = 1 → fo9 = 1 ∧ ∃ j, j < 4 ∧ xi9 = nI j) from ⟨by decide, fun _ => ⟨by omega, (has_of (by omega) hc3 hc4)⟩⟩) (S.sub [0] (by decide) rfl) d_Be_has_29 (Nat.zero_le _) (Nat.zero_le _) (Nat.zero_le _) (Nat.zero_le _)
theorem d_Be_doubled_0 : decode c_Be_doubled 0 = .ok (.aload_n 0, 1) := by decide +kernel
theorem d_Be_doubled_1 : decode c_Be_doubled 1 = .ok (.getfield 25, 3) := by decide +kernel
theorem d_Be_doubled_4 : decode c_Be_doubled 4 = .ok (.lconst 1, 1) := by decide +kernel
theorem d_Be_doubled_5 : decode c_Be_doubled 5 = .ok (.iload_n 2, 1) := by decide +kernel
theorem d_Be_doubled_6 : decode c_Be_doubled 6 = .ok (.lshl, 1) := by decide +kernel
theorem d_Be_doubled_7 : decode c_Be_doubled 7 = .ok (.invokevirtual 54, 3) := by decide +kernel
theorem d_Be_doubled_10 : decode c_Be_doubled 10 = .ok (.aload_n 0, 1) := by decide +kernel
theorem d_Be_doubled_11 : decode c_Be_doubled 11 = .ok (.getfield 28, 3) := by decide +kernel
theorem d_Be_doubled_14 : decode c_Be_doubled 14 = .ok (.aload_n 0, 1) := by decide +kernel
theorem d_Be_doubled_15 : decode c_Be_doubled 15 = .ok (.getfield 11, 3) := by decide +kernel
theorem d_Be_doubled_18 : decode c_Be_doubled 18 = .ok (.iload_n 1, 1) := by decide +kernel
theorem d_Be_doubled_19 : decode c_Be_doubled 19 = .ok (.aaload, 1) := by decide +kernel
theorem d_Be_doubled_20 : decode c_Be_doubled 20 = .ok (.aload_n 0, 1) := by decide +kernel
theorem d_Be_doubled_21 : decode c_Be_doubled 21 = .ok (.getfield 25, 3) := by decide +kernel
theorem d_Be_doubled_24 : decode c_Be_doubled 24 = .ok (.invokevirtual 58, 3) := by decide +kernel
theorem d_Be_doubled_27 : decode c_Be_doubled 27 = .ok (.aload_n 0, 1) := by decide +kernel
theorem d_Be_doubled_28 : decode c_Be_doubled 28 = .ok (.getfield 28, 3) := by decide +kernel
theorem d_Be_doubled_31 : decode c_Be_doubled 31 = .ok (.aload_n 0, 1) := by decide +kernel
theorem d_Be_doubled_32 : decode c_Be_doubled 32 = .ok (.getfield 18, 3) := by decide +kernel
theorem d_Be_doubled_35 : decode c_Be_doubled 35 = .ok (.aload_n 0, 1) := by decide +kernel
theorem d_Be_doubled_36 : decode c_Be_doubled 36 = .ok (.getfield 31, 3) := by decide +kernel
theorem d_Be_doubled_39 : decode c_Be_doubled 39 = .ok (.aload_n 0, 1) := by decide +kernel
theorem d_Be_doubled_40 : decode c_Be_doubled 40 = .ok (.getfield 25, 3) := by decide +kernel
theorem d_Be_doubled_43 : decode c_Be_doubled 43 = .ok (.invokevirtual 62, 3) := by decide +kernel
theorem d_Be_doubled_46 : decode c_Be_doubled 46 = .ok (.aload_n 0, 1) := by decide +kernel
theorem d_Be_doubled_47 : decode c_Be_doubled 47 = .ok (.getfield 28, 3) := by decide +kernel
theorem d_Be_doubled_50 : decode c_Be_doubled 50 = .ok (.invokevirtual 66, 3) := by decide +kernel
theorem d_Be_doubled_53 : decode c_Be_doubled 53 = .ok (.lreturn, 1) := by decide +kernel
set_option maxRecDepth 100000 in
set_option maxHeartbeats 16000000 in
/-- doubled -/
theorem g_Be_doubled (l : Launch) (G : va_G) (k : Nat → ClassId) (h0 : Nat) (s0 sl : Nat) (qi : Nat) (qk : Nat) (pta : Nat) (bu9 : Nat) (bs9 : Nat) (bf9 : Nat) (bp9 : Nat) (br9 : Nat) (fo9 : Nat) (bt9 : Nat) (pa : Nat → Nat) (N9 : Nat) (st : Nat → Option wQ) (Z : Nat → Int) (hN : N9 = 3745) (hh : hO st Z) (hb0 : ∀ j, j < 4 → atO st (3736 + j) (pa j)) (hb1 : atO st 3740 bu9) (hb2 : atO st 3741 bs9) (hb3 : atO st 3742 bf9) (hb4 : atO st 3743 bp9) (hb5 : atO st 3744 br9) (hqi : qi < 4) (hqk : qk ≤ 40) : CG l y_Be_doubled c_Be_doubled 3 (some .long) { frames := 5, cells := pt st N9 + 400, slots := 2 * pt st N9 + 800, locals := 157 } [.ref h0, .int (nI qi), .int (nI qk)] G k s0 sl ([(h0, .inr (3, [.ref pta, .ref bu9, .ref bs9, .ref bf9, .ref bp9, .ref br9, .int (nI fo9), .int (nI bt9)])), (pta, .inl (k 4, 4, .inr (.inr (.inr (.inr (fun j => some (pa j)))))))] ++ (tpl k st N9)) (fun (u : (Nat → Option wQ) × Int64) => some (.long u.2)) (fun (u : (Nat → Option wQ) × Int64) => hO u.1 Z ∧ keO st u.1 ∧ pt u.1 N9 ≤ pt st N9 ∧ saO st u.1) (fun (u : (Nat → Option wQ) × Int64) => ([(h0, .inr (3, [.ref pta, .ref bu9, .ref bs9, .ref bf9, .ref bp9, .ref br9, .int (nI fo9), .int (nI bt9)])), (pta, .inl (k 4, 4, .inr (.inr (.inr (.inr (fun j => some (pa j)))))))] ++ (tpl k u.1 N9))) (fun (u : (Nat → Option wQ) × Int64) => pt st N9 - pt u.1 N9) (fun (u : (Nat → Option wQ) × Int64) => 2 * (pt st N9 - pt u.1 N9)) (pt st N9 + 400) (2 * pt st N9 + 800) := by
  refine met_startG (by decide) (Nat.le_of_ble_eq_true rfl) ?_
  intro p e s m below meth c C K hA hsz S ls hl
  generalize va_A ([(h0, .inr (3, [.ref pta, .ref bu9, .ref bs9, .ref bf9, .ref bp9, .ref br9, .int (nI fo9), .int (nI bt9)])), (pta, .inl (k 4, 4, .inr (.inr (.inr (.inr (fun j => some (pa j)))))))] ++ (tpl k st N9)) s0 = A at hA S ⊢
  have hx := C.1
  have hb := C.2.1
  have hl : lv_has ls 3 [(0, .ref h0), (1, .int (nI qi)), (2, .int (nI qk))] := hl
  have hp40 := p40 hqk
  obtain ⟨pw9, hpw9⟩ : ∃ x9, x9 = 2 ^ qk := ⟨_, rfl⟩
  rw [← hpw9] at hp40
  refine lv_aload_n hx hb d_Be_doubled_0 rfl (lv_at hl 0 rfl) ?_
  refine r_get C K S 0 rfl rfl clOk_Be 3 (by decide) wf_Be_25 (v := .ref bf9) rfl d_Be_doubled_1 ?_
  refine lv_lconst (v := 1) hx hb d_Be_doubled_4 (by decide) ?_
  refine lv_iload_n hx hb d_Be_doubled_5 rfl (lv_at hl 2 rfl) ?_
  refine lv_lshl (v := lZ (pw9 : Int)) hx hb d_Be_doubled_6 (by rw [hpw9]; exact shl_1 hqk) ?_
  refine q_backP (wi := []) (wr := [(h0, .inr (3, [.ref pta, .ref bu9, .ref bs9, .ref bf9, .ref bp9, .ref br9, .int (nI fo9), .int (nI bt9)])), (pta, .inl (k 4, 4, .inr (.inr (.inr (.inr (fun j => some (pa j)))))))]) S hA [] [0, 1] rfl rfl (by decide) (by decide) (va_runV (As := [.long (lZ (pw9 : Int))]) (rest := []) ⟨hx, hb, C.2.2.1, C.2.2.2.1, C.2.2.2.2.1⟩ (g_P_set l G k _ _ (pw9 : Int) 3742 bf9 N9 st Z V0 hN hh.1 (by omega) hb3 (by omega) (by omega)) (k_virt (n := 1) C wc_Wh_set rfl rfl wz_Wh wm_Be_54 wn_Wh_set ws_Wh_set (by decide +kernel) ⟨(Nat.le_of_ble_eq_true rfl), (Nat.le_of_ble_eq_true rfl)⟩) (pr_nowVGP K S [] (by decide) rfl (Classical.choose_spec (at_mem hb3 (show 3742 < N9 by omega))) rfl) rfl rfl hl.1 rfl (lv_room (Nat.le_of_ble_eq_true rfl)) d_Be_doubled_7 ⟨(Nat.zero_le _), (Nat.zero_le _)⟩) (fun st1 H locs hw2 S => ?_)
  have S : Sw G A s.heap _ _ ([(h0, .inr (3, [.ref pta, .ref bu9, .ref bs9, .ref bf9, .ref bp9, .ref br9, .int (nI fo9), .int (nI bt9)])), (pta, .inl (k 4, 4, .inr (.inr (.inr (.inr (fun j => some (pa j)))))))] ++ (tpl k st1 N9)) := S
  have hw2 : gO st1 (va_up Z 3742 (pw9 : Int)) (va_up V0 3742 True) ∧ keO st st1 ∧ pt st1 N9 ≤ pt st N9 ∧ saO st st1 := hw2
  show W p l e _ s m _ below meth c H locs _ _ _ (F0 m 10 ls [])
  obtain ⟨g3, ke4, pt5, sa6⟩ := hw2
  refine lv_aload_n hx hb d_Be_doubled_10 rfl (lv_at hl 0 rfl) ?_
  refine r_get C K S 0 rfl rfl clOk_Be 4 (by decide) wf_Be_28 (v := .ref bp9) rfl d_Be_doubled_11 ?_
  refine lv_aload_n hx hb d_Be_doubled_14 rfl (lv_at hl 0 rfl) ?_
  refine r_get C K S 0 rfl rfl clOk_Be 0 (by decide) wf_Be_11 (v := .ref pta) rfl d_Be_doubled_15 ?_
  refine lv_iload_n hx hb d_Be_doubled_18 rfl (lv_at hl 1 rfl) ?_
  refine r_aald C K S 1 4 rfl rfl (i := nI qi) (show vp_in (nI qi) _ from vp_in_nI (n := qi) (by omega) (by decide)) (b := (pa qi)) (by rw [nI_clamp (by omega)]) d_Be_doubled_19 ?_
  refine lv_aload_n hx hb d_Be_doubled_20 rfl (lv_at hl 0 rfl) ?_
  refine r_get C K S 0 rfl rfl clOk_Be 3 (by decide) wf_Be_25 (v := .ref bf9) rfl d_Be_doubled_21 ?_
  refine q_backP (wi := []) (wr := [(h0, .inr (3, [.ref pta, .ref bu9, .ref bs9, .ref bf9, .ref bp9, .ref br9, .int (nI fo9), .int (nI bt9)])), (pta, .inl (k 4, 4, .inr (.inr (.inr (.inr (fun j => some (pa j)))))))]) S hA [] [0, 1] rfl rfl (by decide) (by decide) (va_runV (As := [.ref (pa qi), .ref bf9]) (rest := []) ⟨hx, hb, C.2.2.1, C.2.2.2.1, C.2.2.2.2.1⟩ (g_P_multiply l G k _ _ 3743 (3736 + qi) 3742 bp9 (pa qi) bf9 (Z (3736 + qi)) (pw9 : Int) N9 st1 (va_up Z 3742 (pw9 : Int)) (va_up V0 3742 True) hN g3 (by omega) (by omega) (by omega) (ke4.at hb4) (ke4.at (hb0 qi (by omega))) (ke4.at hb3) (by rw [va_up_ne _ _ (show 3736 + qi ≠ 3742 by omega)]) (by rw [va_up_self]) (by rw [va_up_ne _ _ (show 3736 + qi ≠ 3742 by omega)]; unfold V0; omega) (by rw [va_up_self]; trivial) (by omega) (by decide) (by omega) (by decide) (b50 (hh.2 (3736 + qi) (by omega) (by unfold V0; omega))) (b50 (b49i2 (by omega)))) (k_virt (n := 2) C wc_Wh_multiply rfl rfl wz_Wh wm_Be_58 wn_Wh_multiply ws_Wh_multiply (by decide +kernel) ⟨(Nat.le_of_ble_eq_true rfl), (Nat.le_of_ble_eq_true rfl)⟩) (pr_nowVGP K S [] (by decide) rfl (Classical.choose_spec (at_mem (ke4.at hb4) (show 3743 < N9 by omega))) rfl) rfl rfl hl.1 rfl (lv_room (Nat.le_of_ble_eq_true rfl)) d_Be_doubled_24 ⟨(show 0 + (pt st N9 - pt st1 N9) + 200 ≤ pt st N9 + 400 from by omega), (show 0 + (2 * (pt st N9 - pt st1 N9)) + 400 ≤ 2 * pt st N9 + 800 from by omega)⟩) (fun st7 H locs hw8 S => ?_)
  have S : Sw G A s.heap _ _ ([(h0, .inr (3, [.ref pta, .ref bu9, .ref bs9, .ref bf9, .ref bp9, .ref br9, .int (nI fo9), .int (nI bt9)])), (pta, .inl (k 4, 4, .inr (.inr (.inr (.inr (fun j => some (pa j)))))))] ++ (tpl k st7 N9)) := S
  have hw8 : gO st7 (va_up (va_up Z 3742 (pw9 : Int)) 3743 ((Z (3736 + qi)) * (pw9 : Int))) (va_up (va_up V0 3742 True) 3743 True) ∧ keO st1 st7 ∧ pt st7 N9 ≤ pt st1 N9 ∧ saO st1 st7 := hw8
  show W p l e _ s m _ below meth c H locs _ _ _ (F0 m 27 ls [])
  obtain ⟨g9, ke10, pt11, sa12⟩ := hw8
  refine lv_aload_n hx hb d_Be_doubled_27 rfl (lv_at hl 0 rfl) ?_
  refine r_get C K S 0 rfl rfl clOk_Be 4 (by decide) wf_Be_28 (v := .ref bp9) rfl d_Be_doubled_28 ?_
  refine lv_aload_n hx hb d_Be_doubled_31 rfl (lv_at hl 0 rfl) ?_
  refine r_get C K S 0 rfl rfl clOk_Be 1 (by decide) wf_Be_18 (v := .ref bu9) rfl d_Be_doubled_32 ?_
  refine lv_aload_n hx hb d_Be_doubled_35 rfl (lv_at hl 0 rfl) ?_
  refine r_get C K S 0 rfl rfl clOk_Be 5 (by decide) wf_Be_31 (v := .ref br9) rfl d_Be_doubled_36 ?_
  refine lv_aload_n hx hb d_Be_doubled_39 rfl (lv_at hl 0 rfl) ?_
  refine r_get C K S 0 rfl rfl clOk_Be 3 (by decide) wf_Be_25 (v := .ref bf9) rfl d_Be_doubled_40 ?_
  refine q_backP (wi := []) (wr := [(h0, .inr (3, [.ref pta, .ref bu9, .ref bs9, .ref bf9, .ref bp9, .ref br9, .int (nI fo9), .int (nI bt9)])), (pta, .inl (k 4, 4, .inr (.inr (.inr (.inr (fun j => some (pa j)))))))]) S hA [] [0, 1] rfl rfl (by decide) (by decide) (va_runV (As := [.ref bu9, .ref br9, .ref bf9]) (rest := []) ⟨hx, hb, C.2.2.1, C.2.2.2.1, C.2.2.2.2.1⟩ (g_P_divide l G k _ _ 3743 3740 3744 3742 bp9 bu9 br9 bf9 ((Z (3736 + qi)) * (pw9 : Int)) (Z 3740) N9 st7 (va_up (va_up Z 3742 (pw9 : Int)) 3743 ((Z (3736 + qi)) * (pw9 : Int))) (va_up (va_up V0 3742 True) 3743 True) hN g9 (by omega) (by omega) (by omega) (by omega) (ke10.at (ke4.at hb4)) (ke10.at (ke4.at hb1)) (ke10.at (ke4.at hb5)) (ke10.at (ke4.at hb3)) (by rw [va_up_self]) (by rw [va_up_ne _ _ (show 3740 ≠ 3743 by decide), va_up_ne _ _ (show 3740 ≠ 3742 by decide)]) (by rw [va_up_self]; trivial) (by rw [va_up_ne _ _ (show 3740 ≠ 3743 by decide), va_up_ne _ _ (show 3740 ≠ 3742 by decide)]; unfold V0; omega) (by decide) (by decide) (by decide) (by decide) (by decide) (by decide) (by decide) (by decide) (by decide) (b99d (hh.2 (3736 + qi) (by omega) (by unfold V0; omega)) (by omega)) (b99z (hh.2 3740 (by omega) (by unfold V0; omega)))) (k_virt (n := 3) C wc_Wh_divide rfl rfl wz_Wh wm_Be_62 wn_Wh_divide ws_Wh_divide (by decide +kernel) ⟨(Nat.le_of_ble_eq_true rfl), (Nat.le_of_ble_eq_true rfl)⟩) (pr_nowVGP K S [] (by decide) rfl (Classical.choose_spec (at_mem (ke10.at (ke4.at hb4)) (show 3743 < N9 by omega))) rfl) rfl rfl hl.1 rfl (lv_room (Nat.le_of_ble_eq_true rfl)) d_Be_doubled_43 ⟨(show 0 + (pt st N9 - pt st1 N9) + (pt st1 N9 - pt st7 N9) + 400 ≤ pt st N9 + 400 from by omega), (show 0 + (2 * (pt st N9 - pt st1 N9)) + (2 * (pt st1 N9 - pt st7 N9)) + 800 ≤ 2 * pt st N9 + 800 from by omega)⟩) (fun st13 H locs hw14 S => ?_)
  have S : Sw G A s.heap _ _ ([(h0, .inr (3, [.ref pta, .ref bu9, .ref bs9, .ref bf9, .ref bp9, .ref br9, .int (nI fo9), .int (nI bt9)])), (pta, .inl (k 4, 4, .inr (.inr (.inr (.inr (fun j => some (pa j)))))))] ++ (tpl k st13 N9)) := S
  have hw14 : gO st13 (va_up (va_up (va_up Z 3742 (pw9 : Int)) 3743 ((Z (3736 + qi)) * (pw9 : Int))) 3743 (((Z (3736 + qi)) * (pw9 : Int)).tdiv (Z 3740))) (va_up (va_up (va_up (va_up (va_up V0 3742 True) 3743 True) 3742 False) 3744 False) 3743 True) ∧ keO st7 st13 ∧ pt st13 N9 ≤ pt st7 N9 ∧ saO st7 st13 := hw14
  show W p l e _ s m _ below meth c H locs _ _ _ (F0 m 46 ls [])
  obtain ⟨g15, ke16, pt17, sa18⟩ := hw14
  refine lv_aload_n hx hb d_Be_doubled_46 rfl (lv_at hl 0 rfl) ?_
  refine r_get C K S 0 rfl rfl clOk_Be 4 (by decide) wf_Be_28 (v := .ref bp9) rfl d_Be_doubled_47 ?_
  refine q_backP (wi := []) (wr := [(h0, .inr (3, [.ref pta, .ref bu9, .ref bs9, .ref bf9, .ref bp9, .ref br9, .int (nI fo9), .int (nI bt9)])), (pta, .inl (k 4, 4, .inr (.inr (.inr (.inr (fun j => some (pa j)))))))]) S hA [] [0, 1] rfl rfl (by decide) (by decide) (va_runV (As := []) (rest := []) ⟨hx, hb, C.2.2.1, C.2.2.2.1, C.2.2.2.2.1⟩ (g_P_lowest l G k _ _ 3743 bp9 N9 st13 (va_up (va_up (va_up Z 3742 (pw9 : Int)) 3743 ((Z (3736 + qi)) * (pw9 : Int))) 3743 (((Z (3736 + qi)) * (pw9 : Int)).tdiv (Z 3740))) (va_up (va_up (va_up (va_up (va_up V0 3742 True) 3743 True) 3742 False) 3744 False) 3743 True) hN g15 (by omega) (ke16.at (ke10.at (ke4.at hb4))) (by rw [va_up_self]; trivial)) (k_virt (n := 0) C wc_Wh_lowest rfl rfl wz_Wh wm_Be_66 wn_Wh_lowest ws_Wh_lowest (by decide +kernel) ⟨(Nat.le_of_ble_eq_true rfl), (Nat.le_of_ble_eq_true rfl)⟩) (pr_nowVGP K S [] (by decide) rfl (Classical.choose_spec (at_mem (ke16.at (ke10.at (ke4.at hb4))) (show 3743 < N9 by omega))) rfl) rfl rfl hl.1 rfl (lv_room (Nat.le_of_ble_eq_true rfl)) d_Be_doubled_50 ⟨(show 0 + (pt st N9 - pt st1 N9) + (pt st1 N9 - pt st7 N9) + (pt st7 N9 - pt st13 N9) ≤ pt st N9 + 400 from by omega), (show 0 + (2 * (pt st N9 - pt st1 N9)) + (2 * (pt st1 N9 - pt st7 N9)) + (2 * (pt st7 N9 - pt st13 N9)) ≤ 2 * pt st N9 + 800 from by omega)⟩) (fun u19 H locs hw20 S => ?_)
  have S : Sw G A s.heap _ _ ([(h0, .inr (3, [.ref pta, .ref bu9, .ref bs9, .ref bf9, .ref bp9, .ref br9, .int (nI fo9), .int (nI bt9)])), (pta, .inl (k 4, 4, .inr (.inr (.inr (.inr (fun j => some (pa j)))))))] ++ (tpl k st13 N9)) := S
  have hw20 : True := hw20
  show W p l e _ s m _ below meth c H locs _ _ _ (F0 m 53 ls [.long u19])
  have hfin : hO st13 Z := by
    refine hO_of g15 hh.2 (fun i q1 q2 => ?_)
    unfold V0 at q2
    exact ⟨by rw [va_up_ne _ _ (show i ≠ 3743 by omega), va_up_ne _ _ (show i ≠ 3744 by omega), va_up_ne _ _ (show i ≠ 3742 by omega), va_up_ne _ _ (show i ≠ 3743 by omega), va_up_ne _ _ (show i ≠ 3742 by omega)]; unfold V0; omega, by rw [va_up_ne _ _ (show i ≠ 3743 by omega), va_up_ne _ _ (show i ≠ 3743 by omega), va_up_ne _ _ (show i ≠ 3742 by omega)]⟩
  exact q_lret C K hsz (st13, u19) rfl (show hO st13 Z ∧ keO st st13 ∧ pt st13 N9 ≤ pt st N9 ∧ saO st st13 from ⟨hfin, ((ke4.tr ke10).tr ke16), by omega, (saO.tr (saO.tr sa6 sa12) sa18)⟩) (S.subP [0, 1] (by decide) rfl) d_Be_doubled_53 (show 0 + (pt st N9 - pt st1 N9) + (pt st1 N9 - pt st7 N9) + (pt st7 N9 - pt st13 N9) ≤ pt st N9 - pt st13 N9 from by omega) (show 0 + (2 * (pt st N9 - pt st1 N9)) + (2 * (pt st1 N9 - pt st7 N9)) + (2 * (pt st7 N9 - pt st13 N9)) ≤ 2 * (pt st N9 - pt st13 N9) from by omega) (show 0 + (pt st N9 - pt st1 N9) + (pt st1 N9 - pt st7 N9) + (pt st7 N9 - pt st13 N9) ≤ pt st N9 + 400 from by omega) (show 0 + (2 * (pt st N9 - pt st1 N9)) + (2 * (pt st1 N9 - pt st7 N9)) + (2 * (pt st7 N9 - pt st13 N9)) ≤ 2 * pt st N9 + 800 from by omega)
theorem d_Be_addTimes_0 : decode c_Be_addTimes 0 = .ok (.iload_n 1, 1) := by decide +kernel
theorem d_Be_addTimes_1 : decode c_Be_addTimes 1 = .ok (.aload_n 0, 1) := by decide +kernel
theorem d_Be_addTimes_2 : decode c_Be_addTimes 2 = .ok (.getfield 44, 3) := by decide +kernel
theorem d_Be_addTimes_5 : decode c_Be_addTimes 5 = .ok (.if_icmp .ge 41, 3) := by decide +kernel
theorem d_Be_addTimes_8 : decode c_Be_addTimes 8 = .ok (.aload_n 0, 1) := by decide +kernel
theorem d_Be_addTimes_9 : decode c_Be_addTimes 9 = .ok (.getfield 25, 3) := by decide +kernel
theorem d_Be_addTimes_12 : decode c_Be_addTimes 12 = .ok (.iload_n 2, 1) := by decide +kernel
theorem d_Be_addTimes_13 : decode c_Be_addTimes 13 = .ok (.i2l, 1) := by decide +kernel
theorem d_Be_addTimes_14 : decode c_Be_addTimes 14 = .ok (.lneg, 1) := by decide +kernel
theorem d_Be_addTimes_15 : decode c_Be_addTimes 15 = .ok (.invokevirtual 54, 3) := by decide +kernel
theorem d_Be_addTimes_18 : decode c_Be_addTimes 18 = .ok (.aload_n 0, 1) := by decide +kernel
theorem d_Be_addTimes_19 : decode c_Be_addTimes 19 = .ok (.getfield 28, 3) := by decide +kernel
theorem d_Be_addTimes_22 : decode c_Be_addTimes 22 = .ok (.aload_n 0, 1) := by decide +kernel
theorem d_Be_addTimes_23 : decode c_Be_addTimes 23 = .ok (.getfield 11, 3) := by decide +kernel
theorem d_Be_addTimes_26 : decode c_Be_addTimes 26 = .ok (.iload_n 1, 1) := by decide +kernel
theorem d_Be_addTimes_27 : decode c_Be_addTimes 27 = .ok (.aaload, 1) := by decide +kernel
theorem d_Be_addTimes_28 : decode c_Be_addTimes 28 = .ok (.aload_n 0, 1) := by decide +kernel
theorem d_Be_addTimes_29 : decode c_Be_addTimes 29 = .ok (.getfield 25, 3) := by decide +kernel
theorem d_Be_addTimes_32 : decode c_Be_addTimes 32 = .ok (.invokevirtual 58, 3) := by decide +kernel
theorem d_Be_addTimes_35 : decode c_Be_addTimes 35 = .ok (.aload_n 0, 1) := by decide +kernel
theorem d_Be_addTimes_36 : decode c_Be_addTimes 36 = .ok (.getfield 22, 3) := by decide +kernel
theorem d_Be_addTimes_39 : decode c_Be_addTimes 39 = .ok (.aload_n 0, 1) := by decide +kernel
theorem d_Be_addTimes_40 : decode c_Be_addTimes 40 = .ok (.getfield 28, 3) := by decide +kernel
theorem d_Be_addTimes_43 : decode c_Be_addTimes 43 = .ok (.invokevirtual 78, 3) := by decide +kernel
theorem d_Be_addTimes_46 : decode c_Be_addTimes 46 = .ok (.return_, 1) := by decide +kernel
set_option maxRecDepth 100000 in
set_option maxHeartbeats 16000000 in
/-- addTimes -/
theorem g_Be_addTimes (l : Launch) (G : va_G) (k : Nat → ClassId) (h0 : Nat) (s0 sl : Nat) (qi : Nat) (ql : Nat) (m9 : Nat) (pta : Nat) (bu9 : Nat) (bs9 : Nat) (bf9 : Nat) (bp9 : Nat) (br9 : Nat) (fo9 : Nat) (bt9 : Nat) (pa : Nat → Nat) (N9 : Nat) (st : Nat → Option wQ) (Z : Nat → Int) (hN : N9 = 3745) (hg0 : gO st Z (va_up V0 3741 True)) (hbd : bdO Z) (hb0 : ∀ j, j < 4 → atO st (3736 + j) (pa j)) (hb1 : atO st 3740 bu9) (hb2 : atO st 3741 bs9) (hb3 : atO st 3742 bf9) (hb4 : atO st 3743 bp9) (hb5 : atO st 3744 br9) (hqi : qi < 3) (hql : ql < 2147483648) (hbt : bt9 ≤ 3) (hm9 : m9 ≤ 10) (hsu : (Z 3741).natAbs ≤ m9 * B50) : CG l y_Be_addTimes c_Be_addTimes 3 none { frames := 5, cells := pt st N9 + 400, slots := 2 * pt st N9 + 800, locals := 151 } [.ref h0, .int (nI qi), .int (nI ql)] G k s0 sl ([(h0, .inr (3, [.ref pta, .ref bu9, .ref bs9, .ref bf9, .ref bp9, .ref br9, .int (nI fo9), .int (nI bt9)])), (pta, .inl (k 4, 4, .inr (.inr (.inr (.inr (fun j => some (pa j)))))))] ++ (tpl k st N9)) (fun (u : (Nat → Option wQ) × Int) => none) (fun (u : (Nat → Option wQ) × Int) => gO u.1 (va_up Z 3741 u.2) (va_up V0 3741 True) ∧ u.2.natAbs ≤ (m9 + 1) * B50 ∧ keO st u.1 ∧ pt u.1 N9 ≤ pt st N9 ∧ saO st u.1) (fun (u : (Nat → Option wQ) × Int) => ([(h0, .inr (3, [.ref pta, .ref bu9, .ref bs9, .ref bf9, .ref bp9, .ref br9, .int (nI fo9), .int (nI bt9)])), (pta, .inl (k 4, 4, .inr (.inr (.inr (.inr (fun j => some (pa j)))))))] ++ (tpl k u.1 N9))) (fun (u : (Nat → Option wQ) × Int) => pt st N9 - pt u.1 N9) (fun (u : (Nat → Option wQ) × Int) => 2 * (pt st N9 - pt u.1 N9)) (pt st N9 + 400) (2 * pt st N9 + 800) := by
  refine met_startG (by decide) (Nat.le_of_ble_eq_true rfl) ?_
  intro p e s m below meth c C K hA hsz S ls hl
  generalize va_A ([(h0, .inr (3, [.ref pta, .ref bu9, .ref bs9, .ref bf9, .ref bp9, .ref br9, .int (nI fo9), .int (nI bt9)])), (pta, .inl (k 4, 4, .inr (.inr (.inr (.inr (fun j => some (pa j)))))))] ++ (tpl k st N9)) s0 = A at hA S ⊢
  have hx := C.1
  have hb := C.2.1
  have hl : lv_has ls 3 [(0, .ref h0), (1, .int (nI qi)), (2, .int (nI ql))] := hl
  have h20 := B50_lt
  have hmm : m9 * B50 ≤ 10 * B50 := Nat.mul_le_mul_right B50 hm9
  have hm1 : (m9 + 1) * B50 = m9 * B50 + B50 := by rw [Nat.add_mul, Nat.one_mul]
  have hpr := b50d (y := -(ql : Int)) (hbd (3736 + qi) (by omega) (by unfold V0; omega)) (by omega)
  refine lv_iload_n hx hb d_Be_addTimes_0 rfl (lv_at hl 1 rfl) ?_
  refine lv_aload_n hx hb d_Be_addTimes_1 rfl (lv_at hl 0 rfl) ?_
  refine r_get C K S 0 rfl rfl clOk_Be 7 (by decide) wf_Be_44 (v := .int (nI bt9)) rfl d_Be_addTimes_2 ?_
  refine z_icmp_ge (a := qi) (b := bt9) (tgt := 46) hx hb d_Be_addTimes_5 (by decide) (by omega) (by omega) (fun hc1 => ?_) (fun hc1 => ?_)
  · exact q_vret C K hsz (st, Z 3741) (show gO st (va_up Z 3741 (Z 3741)) (va_up V0 3741 True) ∧ (Z 3741).natAbs ≤ (m9 + 1) * B50 ∧ keO st st ∧ pt st N9 ≤ pt st N9 ∧ saO st st from ⟨by rw [up_id Z 3741 rfl]; exact hg0, by rw [hm1]; omega, keO.rf st, Nat.le_refl _, rfl⟩) (S.subP [0, 1] (by decide) rfl) d_Be_addTimes_46 (Nat.zero_le _) (Nat.zero_le _) (Nat.zero_le _) (Nat.zero_le _)
  · refine lv_aload_n hx hb d_Be_addTimes_8 rfl (lv_at hl 0 rfl) ?_
    refine r_get C K S 0 rfl rfl clOk_Be 3 (by decide) wf_Be_25 (v := .ref bf9) rfl d_Be_addTimes_9 ?_
    refine lv_iload_n hx hb d_Be_addTimes_12 rfl (lv_at hl 2 rfl) ?_
    refine lv_i2l (v := lN ql) hx hb d_Be_addTimes_13 (show (nI ql : Int32).toInt64 = _ from nI_l (n := ql) (by omega)) ?_
    refine z_lneg (v := lZ (-(ql : Int))) hx hb d_Be_addTimes_14 (by rw [lN_lZ, lZ_neg]) ?_
    refine q_backP (wi := []) (wr := [(h0, .inr (3, [.ref pta, .ref bu9, .ref bs9, .ref bf9, .ref bp9, .ref br9, .int (nI fo9), .int (nI bt9)])), (pta, .inl (k 4, 4, .inr (.inr (.inr (.inr (fun j => some (pa j)))))))]) S hA [] [0, 1] rfl rfl (by decide) (by decide) (va_runV (As := [.long (lZ (-(ql : Int)))]) (rest := []) ⟨hx, hb, C.2.2.1, C.2.2.2.1, C.2.2.2.2.1⟩ (g_P_set l G k _ _ (-(ql : Int)) 3742 bf9 N9 st Z (va_up V0 3741 True) hN hg0 (by omega) hb3 (by omega) (by omega)) (k_virt (n := 1) C wc_Wh_set rfl rfl wz_Wh wm_Be_54 wn_Wh_set ws_Wh_set (by decide +kernel) ⟨(Nat.le_of_ble_eq_true rfl), (Nat.le_of_ble_eq_true rfl)⟩) (pr_nowVGP K S [] (by decide) rfl (Classical.choose_spec (at_mem hb3 (show 3742 < N9 by omega))) rfl) rfl rfl hl.1 rfl (lv_room (Nat.le_of_ble_eq_true rfl)) d_Be_addTimes_15 ⟨(Nat.zero_le _), (Nat.zero_le _)⟩) (fun st2 H locs hw3 S => ?_)
    have S : Sw G A s.heap _ _ ([(h0, .inr (3, [.ref pta, .ref bu9, .ref bs9, .ref bf9, .ref bp9, .ref br9, .int (nI fo9), .int (nI bt9)])), (pta, .inl (k 4, 4, .inr (.inr (.inr (.inr (fun j => some (pa j)))))))] ++ (tpl k st2 N9)) := S
    have hw3 : gO st2 (va_up Z 3742 (-(ql : Int))) (va_up (va_up V0 3741 True) 3742 True) ∧ keO st st2 ∧ pt st2 N9 ≤ pt st N9 ∧ saO st st2 := hw3
    show W p l e _ s m _ below meth c H locs _ _ _ (F0 m 18 ls [])
    obtain ⟨g4, ke5, pt6, sa7⟩ := hw3
    refine lv_aload_n hx hb d_Be_addTimes_18 rfl (lv_at hl 0 rfl) ?_
    refine r_get C K S 0 rfl rfl clOk_Be 4 (by decide) wf_Be_28 (v := .ref bp9) rfl d_Be_addTimes_19 ?_
    refine lv_aload_n hx hb d_Be_addTimes_22 rfl (lv_at hl 0 rfl) ?_
    refine r_get C K S 0 rfl rfl clOk_Be 0 (by decide) wf_Be_11 (v := .ref pta) rfl d_Be_addTimes_23 ?_
    refine lv_iload_n hx hb d_Be_addTimes_26 rfl (lv_at hl 1 rfl) ?_
    refine r_aald C K S 1 4 rfl rfl (i := nI qi) (show vp_in (nI qi) _ from vp_in_nI (n := qi) (by omega) (by decide)) (b := (pa qi)) (by rw [nI_clamp (by omega)]) d_Be_addTimes_27 ?_
    refine lv_aload_n hx hb d_Be_addTimes_28 rfl (lv_at hl 0 rfl) ?_
    refine r_get C K S 0 rfl rfl clOk_Be 3 (by decide) wf_Be_25 (v := .ref bf9) rfl d_Be_addTimes_29 ?_
    refine q_backP (wi := []) (wr := [(h0, .inr (3, [.ref pta, .ref bu9, .ref bs9, .ref bf9, .ref bp9, .ref br9, .int (nI fo9), .int (nI bt9)])), (pta, .inl (k 4, 4, .inr (.inr (.inr (.inr (fun j => some (pa j)))))))]) S hA [] [0, 1] rfl rfl (by decide) (by decide) (va_runV (As := [.ref (pa qi), .ref bf9]) (rest := []) ⟨hx, hb, C.2.2.1, C.2.2.2.1, C.2.2.2.2.1⟩ (g_P_multiply l G k _ _ 3743 (3736 + qi) 3742 bp9 (pa qi) bf9 (Z (3736 + qi)) (-(ql : Int)) N9 st2 (va_up Z 3742 (-(ql : Int))) (va_up (va_up V0 3741 True) 3742 True) hN g4 (by omega) (by omega) (by omega) (ke5.at hb4) (ke5.at (hb0 qi (by omega))) (ke5.at hb3) (by rw [va_up_ne _ _ (show 3736 + qi ≠ 3742 by omega)]) (by rw [va_up_self]) (by rw [va_up_ne _ _ (show 3736 + qi ≠ 3742 by omega), va_up_ne _ _ (show 3736 + qi ≠ 3741 by omega)]; unfold V0; omega) (by rw [va_up_self]; trivial) (by omega) (by decide) (by omega) (by decide) (b50 (hbd (3736 + qi) (by omega) (by unfold V0; omega))) (b50 (b49i2 (by omega)))) (k_virt (n := 2) C wc_Wh_multiply rfl rfl wz_Wh wm_Be_58 wn_Wh_multiply ws_Wh_multiply (by decide +kernel) ⟨(Nat.le_of_ble_eq_true rfl), (Nat.le_of_ble_eq_true rfl)⟩) (pr_nowVGP K S [] (by decide) rfl (Classical.choose_spec (at_mem (ke5.at hb4) (show 3743 < N9 by omega))) rfl) rfl rfl hl.1 rfl (lv_room (Nat.le_of_ble_eq_true rfl)) d_Be_addTimes_32 ⟨(show 0 + (pt st N9 - pt st2 N9) + 200 ≤ pt st N9 + 400 from by omega), (show 0 + (2 * (pt st N9 - pt st2 N9)) + 400 ≤ 2 * pt st N9 + 800 from by omega)⟩) (fun st8 H locs hw9 S => ?_)
    have S : Sw G A s.heap _ _ ([(h0, .inr (3, [.ref pta, .ref bu9, .ref bs9, .ref bf9, .ref bp9, .ref br9, .int (nI fo9), .int (nI bt9)])), (pta, .inl (k 4, 4, .inr (.inr (.inr (.inr (fun j => some (pa j)))))))] ++ (tpl k st8 N9)) := S
    have hw9 : gO st8 (va_up (va_up Z 3742 (-(ql : Int))) 3743 ((Z (3736 + qi)) * (-(ql : Int)))) (va_up (va_up (va_up V0 3741 True) 3742 True) 3743 True) ∧ keO st2 st8 ∧ pt st8 N9 ≤ pt st2 N9 ∧ saO st2 st8 := hw9
    show W p l e _ s m _ below meth c H locs _ _ _ (F0 m 35 ls [])
    obtain ⟨g10, ke11, pt12, sa13⟩ := hw9
    refine lv_aload_n hx hb d_Be_addTimes_35 rfl (lv_at hl 0 rfl) ?_
    refine r_get C K S 0 rfl rfl clOk_Be 2 (by decide) wf_Be_22 (v := .ref bs9) rfl d_Be_addTimes_36 ?_
    refine lv_aload_n hx hb d_Be_addTimes_39 rfl (lv_at hl 0 rfl) ?_
    refine r_get C K S 0 rfl rfl clOk_Be 4 (by decide) wf_Be_28 (v := .ref bp9) rfl d_Be_addTimes_40 ?_
    refine q_backP (wi := []) (wr := [(h0, .inr (3, [.ref pta, .ref bu9, .ref bs9, .ref bf9, .ref bp9, .ref br9, .int (nI fo9), .int (nI bt9)])), (pta, .inl (k 4, 4, .inr (.inr (.inr (.inr (fun j => some (pa j)))))))]) S hA [] [0, 1] rfl rfl (by decide) (by decide) (va_runV (As := [.ref bp9]) (rest := []) ⟨hx, hb, C.2.2.1, C.2.2.2.1, C.2.2.2.2.1⟩ (g_P_subtract l G k _ _ 3741 3743 bs9 bp9 (Z 3741) ((Z (3736 + qi)) * (-(ql : Int))) N9 st8 (va_up (va_up Z 3742 (-(ql : Int))) 3743 ((Z (3736 + qi)) * (-(ql : Int)))) (va_up (va_up (va_up V0 3741 True) 3742 True) 3743 True) hN g10 (by omega) (by omega) (ke11.at (ke5.at hb2)) (ke11.at (ke5.at hb4)) (by rw [va_up_ne _ _ (show 3741 ≠ 3743 by decide), va_up_ne _ _ (show 3741 ≠ 3742 by decide)]) (by rw [va_up_self]) (by rw [va_up_ne _ _ (show 3741 ≠ 3743 by decide), va_up_ne _ _ (show 3741 ≠ 3742 by decide), va_up_self]; trivial) (by rw [va_up_self]; trivial) (by decide) (by decide) (Nat.lt_of_le_of_lt (show _ ≤ 20 * B50 by omega) h20) (Nat.lt_of_le_of_lt (show _ ≤ 20 * B50 by omega) h20)) (k_virt (n := 1) C wc_Wh_subtract rfl rfl wz_Wh wm_Be_78 wn_Wh_subtract ws_Wh_subtract (by decide +kernel) ⟨(Nat.le_of_ble_eq_true rfl), (Nat.le_of_ble_eq_true rfl)⟩) (pr_nowVGP K S [] (by decide) rfl (Classical.choose_spec (at_mem (ke11.at (ke5.at hb2)) (show 3741 < N9 by omega))) rfl) rfl rfl hl.1 rfl (lv_room (Nat.le_of_ble_eq_true rfl)) d_Be_addTimes_43 ⟨(show 0 + (pt st N9 - pt st2 N9) + (pt st2 N9 - pt st8 N9) + 200 ≤ pt st N9 + 400 from by omega), (show 0 + (2 * (pt st N9 - pt st2 N9)) + (2 * (pt st2 N9 - pt st8 N9)) + 400 ≤ 2 * pt st N9 + 800 from by omega)⟩) (fun st14 H locs hw15 S => ?_)
    have S : Sw G A s.heap _ _ ([(h0, .inr (3, [.ref pta, .ref bu9, .ref bs9, .ref bf9, .ref bp9, .ref br9, .int (nI fo9), .int (nI bt9)])), (pta, .inl (k 4, 4, .inr (.inr (.inr (.inr (fun j => some (pa j)))))))] ++ (tpl k st14 N9)) := S
    have hw15 : gO st14 (va_up (va_up (va_up Z 3742 (-(ql : Int))) 3743 ((Z (3736 + qi)) * (-(ql : Int)))) 3741 ((Z 3741) - ((Z (3736 + qi)) * (-(ql : Int))))) (va_up (va_up (va_up (va_up V0 3741 True) 3742 True) 3743 True) 3741 True) ∧ keO st8 st14 ∧ pt st14 N9 ≤ pt st8 N9 ∧ saO st8 st14 := hw15
    show W p l e _ s m _ below meth c H locs _ _ _ (F0 m 46 ls [])
    obtain ⟨g16, ke17, pt18, sa19⟩ := hw15
    have hfin : gO st14 (va_up Z 3741 (Z 3741 - Z (3736 + qi) * -(ql : Int))) (va_up V0 3741 True) := by
      refine gO.weak g16 (fun i q1 q2 => ?_) (fun i q1 => ?_)
      · by_cases w9 : i = 3741
        · subst w9; exact ⟨by rw [va_up_self]; trivial, by rw [va_up_self, va_up_self]⟩
        · rw [va_up_ne _ _ w9] at q2
          unfold V0 at q2
          exact ⟨by rw [va_up_ne _ _ (show i ≠ 3741 by omega), va_up_ne _ _ (show i ≠ 3743 by omega), va_up_ne _ _ (show i ≠ 3742 by omega), va_up_ne _ _ w9]; unfold V0; omega, by rw [va_up_ne _ _ w9, va_up_ne _ _ (show i ≠ 3741 by omega), va_up_ne _ _ (show i ≠ 3743 by omega), va_up_ne _ _ (show i ≠ 3742 by omega)]⟩
      · rw [va_up_ne _ _ (show i ≠ 3741 by omega), va_up_ne _ _ (show i ≠ 3741 by omega), va_up_ne _ _ (show i ≠ 3743 by omega), va_up_ne _ _ (show i ≠ 3742 by omega)]
    have hbv : (Z 3741 - Z (3736 + qi) * -(ql : Int)).natAbs ≤ (m9 + 1) * B50 := by rw [hm1]; omega
    exact q_vret C K hsz (st14, (Z 3741 - Z (3736 + qi) * -(ql : Int))) (show gO st14 (va_up Z 3741 (Z 3741 - Z (3736 + qi) * -(ql : Int))) (va_up V0 3741 True) ∧ (Z 3741 - Z (3736 + qi) * -(ql : Int)).natAbs ≤ (m9 + 1) * B50 ∧ keO st st14 ∧ pt st14 N9 ≤ pt st N9 ∧ saO st st14 from ⟨hfin, hbv, ((ke5.tr ke11).tr ke17), by omega, (saO.tr (saO.tr sa7 sa13) sa19)⟩) (S.subP [0, 1] (by decide) rfl) d_Be_addTimes_46 (show 0 + (pt st N9 - pt st2 N9) + (pt st2 N9 - pt st8 N9) + (pt st8 N9 - pt st14 N9) ≤ pt st N9 - pt st14 N9 from by omega) (show 0 + (2 * (pt st N9 - pt st2 N9)) + (2 * (pt st2 N9 - pt st8 N9)) + (2 * (pt st8 N9 - pt st14 N9)) ≤ 2 * (pt st N9 - pt st14 N9) from by omega) (show 0 + (pt st N9 - pt st2 N9) + (pt st2 N9 - pt st8 N9) + (pt st8 N9 - pt st14 N9) ≤ pt st N9 + 400 from by omega) (show 0 + (2 * (pt st N9 - pt st2 N9)) + (2 * (pt st2 N9 - pt st8 N9)) + (2 * (pt st8 N9 - pt st14 N9)) ≤ 2 * pt st N9 + 800 from by omega)
theorem bd_s {Z : Nat → Int} {z : Int} (h : bdO Z) : bdO (va_up Z 3741 z) := fun i hi hv => by
  have : i ≠ 3741 := by unfold V0 at hv; omega
  rw [va_up_ne _ _ this]
  exact h i hi hv
theorem d_Be_reaches_0 : decode c_Be_reaches 0 = .ok (.aload_n 0, 1) := by decide +kernel
theorem d_Be_reaches_1 : decode c_Be_reaches 1 = .ok (.getfield 22, 3) := by decide +kernel
theorem d_Be_reaches_4 : decode c_Be_reaches 4 = .ok (.aload_n 0, 1) := by decide +kernel
theorem d_Be_reaches_5 : decode c_Be_reaches 5 = .ok (.getfield 11, 3) := by decide +kernel
theorem d_Be_reaches_8 : decode c_Be_reaches 8 = .ok (.iconst 3, 1) := by decide +kernel
theorem d_Be_reaches_9 : decode c_Be_reaches 9 = .ok (.aaload, 1) := by decide +kernel
theorem d_Be_reaches_10 : decode c_Be_reaches 10 = .ok (.invokevirtual 46, 3) := by decide +kernel
theorem d_Be_reaches_13 : decode c_Be_reaches 13 = .ok (.aload_n 0, 1) := by decide +kernel
theorem d_Be_reaches_14 : decode c_Be_reaches 14 = .ok (.iconst 0, 1) := by decide +kernel
theorem d_Be_reaches_15 : decode c_Be_reaches 15 = .ok (.iload_n 1, 1) := by decide +kernel
theorem d_Be_reaches_16 : decode c_Be_reaches 16 = .ok (.invokevirtual 70, 3) := by decide +kernel
theorem d_Be_reaches_19 : decode c_Be_reaches 19 = .ok (.aload_n 0, 1) := by decide +kernel
theorem d_Be_reaches_20 : decode c_Be_reaches 20 = .ok (.iconst 1, 1) := by decide +kernel
theorem d_Be_reaches_21 : decode c_Be_reaches 21 = .ok (.iload_n 2, 1) := by decide +kernel
theorem d_Be_reaches_22 : decode c_Be_reaches 22 = .ok (.invokevirtual 70, 3) := by decide +kernel
theorem d_Be_reaches_25 : decode c_Be_reaches 25 = .ok (.aload_n 0, 1) := by decide +kernel
theorem d_Be_reaches_26 : decode c_Be_reaches 26 = .ok (.iconst 2, 1) := by decide +kernel
theorem d_Be_reaches_27 : decode c_Be_reaches 27 = .ok (.iload_n 3, 1) := by decide +kernel
theorem d_Be_reaches_28 : decode c_Be_reaches 28 = .ok (.invokevirtual 70, 3) := by decide +kernel
theorem d_Be_reaches_31 : decode c_Be_reaches 31 = .ok (.aload_n 0, 1) := by decide +kernel
theorem d_Be_reaches_32 : decode c_Be_reaches 32 = .ok (.getfield 25, 3) := by decide +kernel
theorem d_Be_reaches_35 : decode c_Be_reaches 35 = .ok (.lload 4, 2) := by decide +kernel
theorem d_Be_reaches_37 : decode c_Be_reaches 37 = .ok (.invokevirtual 54, 3) := by decide +kernel
theorem d_Be_reaches_40 : decode c_Be_reaches 40 = .ok (.aload_n 0, 1) := by decide +kernel
theorem d_Be_reaches_41 : decode c_Be_reaches 41 = .ok (.getfield 28, 3) := by decide +kernel
theorem d_Be_reaches_44 : decode c_Be_reaches 44 = .ok (.aload_n 0, 1) := by decide +kernel
theorem d_Be_reaches_45 : decode c_Be_reaches 45 = .ok (.getfield 18, 3) := by decide +kernel
theorem d_Be_reaches_48 : decode c_Be_reaches 48 = .ok (.aload_n 0, 1) := by decide +kernel
theorem d_Be_reaches_49 : decode c_Be_reaches 49 = .ok (.getfield 25, 3) := by decide +kernel
theorem d_Be_reaches_52 : decode c_Be_reaches 52 = .ok (.invokevirtual 58, 3) := by decide +kernel
theorem d_Be_reaches_55 : decode c_Be_reaches 55 = .ok (.aload_n 0, 1) := by decide +kernel
theorem d_Be_reaches_56 : decode c_Be_reaches 56 = .ok (.getfield 22, 3) := by decide +kernel
theorem d_Be_reaches_59 : decode c_Be_reaches 59 = .ok (.aload_n 0, 1) := by decide +kernel
theorem d_Be_reaches_60 : decode c_Be_reaches 60 = .ok (.getfield 28, 3) := by decide +kernel
theorem d_Be_reaches_63 : decode c_Be_reaches 63 = .ok (.invokevirtual 74, 3) := by decide +kernel
theorem d_Be_reaches_66 : decode c_Be_reaches 66 = .ok (.ifCond .lt 7, 3) := by decide +kernel
theorem d_Be_reaches_69 : decode c_Be_reaches 69 = .ok (.iconst 1, 1) := by decide +kernel
theorem d_Be_reaches_70 : decode c_Be_reaches 70 = .ok (.goto 4, 3) := by decide +kernel
theorem d_Be_reaches_73 : decode c_Be_reaches 73 = .ok (.iconst 0, 1) := by decide +kernel
theorem d_Be_reaches_74 : decode c_Be_reaches 74 = .ok (.ireturn, 1) := by decide +kernel
set_option maxRecDepth 100000 in
set_option maxHeartbeats 16000000 in
/-- reaches -/
theorem g_Be_reaches (l : Launch) (G : va_G) (k : Nat → ClassId) (h0 : Nat) (s0 sl : Nat) (qa : Nat) (qb : Nat) (qc : Nat) (qn : Int) (pta : Nat) (bu9 : Nat) (bs9 : Nat) (bf9 : Nat) (bp9 : Nat) (br9 : Nat) (fo9 : Nat) (bt9 : Nat) (pa : Nat → Nat) (N9 : Nat) (st : Nat → Option wQ) (Z : Nat → Int) (hN : N9 = 3745) (hh : hO st Z) (hb0 : ∀ j, j < 4 → atO st (3736 + j) (pa j)) (hb1 : atO st 3740 bu9) (hb2 : atO st 3741 bs9) (hb3 : atO st 3742 bf9) (hb4 : atO st 3743 bp9) (hb5 : atO st 3744 br9) (hqa : qa < 2147483648) (hqb : qb < 2147483648) (hqc : qc < 2147483648) (hbt : bt9 ≤ 3) (hn1 : -9223372036854775808 ≤ qn) (hn2 : qn < 9223372036854775808) : CG l y_Be_reaches c_Be_reaches 6 (some .boolean) { frames := 6, cells := pt st N9 + 400, slots := 2 * pt st N9 + 800, locals := 173 } [.ref h0, .int (nI qa), .int (nI qb), .int (nI qc), .long (lZ qn)] G k s0 sl ([(h0, .inr (3, [.ref pta, .ref bu9, .ref bs9, .ref bf9, .ref bp9, .ref br9, .int (nI fo9), .int (nI bt9)])), (pta, .inl (k 4, 4, .inr (.inr (.inr (.inr (fun j => some (pa j)))))))] ++ (tpl k st N9)) (fun (u : (Nat → Option wQ) × Nat) => some (.int (nI u.2))) (fun (u : (Nat → Option wQ) × Nat) => hO u.1 Z ∧ keO st u.1 ∧ pt u.1 N9 ≤ pt st N9 ∧ saO st u.1 ∧ u.2 ≤ 1) (fun (u : (Nat → Option wQ) × Nat) => ([(h0, .inr (3, [.ref pta, .ref bu9, .ref bs9, .ref bf9, .ref bp9, .ref br9, .int (nI fo9), .int (nI bt9)])), (pta, .inl (k 4, 4, .inr (.inr (.inr (.inr (fun j => some (pa j)))))))] ++ (tpl k u.1 N9))) (fun (u : (Nat → Option wQ) × Nat) => pt st N9 - pt u.1 N9) (fun (u : (Nat → Option wQ) × Nat) => 2 * (pt st N9 - pt u.1 N9)) (pt st N9 + 400) (2 * pt st N9 + 800) := by
  refine met_startG (by decide) (Nat.le_of_ble_eq_true rfl) ?_
  intro p e s m below meth c C K hA hsz S ls hl
  generalize va_A ([(h0, .inr (3, [.ref pta, .ref bu9, .ref bs9, .ref bf9, .ref bp9, .ref br9, .int (nI fo9), .int (nI bt9)])), (pta, .inl (k 4, 4, .inr (.inr (.inr (.inr (fun j => some (pa j)))))))] ++ (tpl k st N9)) s0 = A at hA S ⊢
  have hx := C.1
  have hb := C.2.1
  have hl : lv_has ls 6 [(0, .ref h0), (1, .int (nI qa)), (2, .int (nI qb)), (3, .int (nI qc)), (4, .long (lZ qn))] := hl
  refine lv_aload_n hx hb d_Be_reaches_0 rfl (lv_at hl 0 rfl) ?_
  refine r_get C K S 0 rfl rfl clOk_Be 2 (by decide) wf_Be_22 (v := .ref bs9) rfl d_Be_reaches_1 ?_
  refine lv_aload_n hx hb d_Be_reaches_4 rfl (lv_at hl 0 rfl) ?_
  refine r_get C K S 0 rfl rfl clOk_Be 0 (by decide) wf_Be_11 (v := .ref pta) rfl d_Be_reaches_5 ?_
  refine lv_iconst (v := 3) hx hb d_Be_reaches_8 (by decide) ?_
  refine r_aald C K S 1 4 rfl rfl (i := 3) (by unfold vp_in; decide) (b := (pa 3)) rfl d_Be_reaches_9 ?_
  have mb1 := Mb_le 3741
  refine q_backP (wi := []) (wr := [(h0, .inr (3, [.ref pta, .ref bu9, .ref bs9, .ref bf9, .ref bp9, .ref br9, .int (nI fo9), .int (nI bt9)])), (pta, .inl (k 4, 4, .inr (.inr (.inr (.inr (fun j => some (pa j)))))))]) S hA [] [0, 1] rfl rfl (by decide) (by decide) (va_runV (As := [.ref (pa 3)]) (rest := []) ⟨hx, hb, C.2.2.1, C.2.2.2.1, C.2.2.2.2.1⟩ (g_P_copy l G k _ _ 3741 (3736 + 3) bs9 (pa 3) (Z (3736 + 3)) N9 st Z V0 hN hh.1 (by omega) (by omega) hb2 (hb0 3 (by decide)) rfl (show V0 (3736 + 3) from by unfold V0; omega) (by omega) (hh.2 (3736 + 3) (by omega) (by unfold V0; omega))) (k_virt (n := 1) C wc_Wh_copy rfl rfl wz_Wh wm_Be_46 wn_Wh_copy ws_Wh_copy (by decide +kernel) ⟨(Nat.le_of_ble_eq_true rfl), (Nat.le_of_ble_eq_true rfl)⟩) (pr_nowVGP K S [] (by decide) rfl (Classical.choose_spec (at_mem hb2 (show 3741 < N9 by omega))) rfl) rfl rfl hl.1 rfl (lv_room (Nat.le_of_ble_eq_true rfl)) d_Be_reaches_10 ⟨(show 0 + (Mb 3741) ≤ pt st N9 + 400 from by omega), (show 0 + (2 * Mb 3741) ≤ 2 * pt st N9 + 800 from by omega)⟩) (fun st2 H locs hw3 S => ?_)
  have S : Sw G A s.heap _ _ ([(h0, .inr (3, [.ref pta, .ref bu9, .ref bs9, .ref bf9, .ref bp9, .ref br9, .int (nI fo9), .int (nI bt9)])), (pta, .inl (k 4, 4, .inr (.inr (.inr (.inr (fun j => some (pa j)))))))] ++ (tpl k st2 N9)) := S
  have hw3 : gO st2 (va_up Z 3741 (Z (3736 + 3))) (va_up V0 3741 True) ∧ keO st st2 ∧ pt st2 N9 ≤ pt st N9 ∧ saO st st2 := hw3
  show W p l e _ s m _ below meth c H locs _ _ _ (F0 m 13 ls [])
  obtain ⟨g4, ke5, pt6, sa7⟩ := hw3
  refine lv_aload_n hx hb d_Be_reaches_13 rfl (lv_at hl 0 rfl) ?_
  refine lv_iconst (v := 0) hx hb d_Be_reaches_14 (by decide) ?_
  refine lv_iload_n hx hb d_Be_reaches_15 rfl (lv_at hl 1 rfl) ?_
  refine q_backP (wi := [(h0, .inr (3, [.ref pta, .ref bu9, .ref bs9, .ref bf9, .ref bp9, .ref br9, .int (nI fo9), .int (nI bt9)])), (pta, .inl (k 4, 4, .inr (.inr (.inr (.inr (fun j => some (pa j)))))))]) (wr := []) S hA [0, 1] [] rfl rfl (by decide) (by decide) (va_runV (As := [.int 0, .int (nI qa)]) (rest := []) ⟨hx, hb, C.2.2.1, C.2.2.2.1, C.2.2.2.2.1⟩ (g_Be_addTimes l G k h0 _ _ 0 qa 1 pta bu9 bs9 bf9 bp9 br9 fo9 bt9 pa N9 st2 (va_up Z 3741 (Z (3736 + 3))) hN g4 (bd_s hh.2) (fun j q => ke5.at (hb0 j q)) (ke5.at hb1) (ke5.at hb2) (ke5.at hb3) (ke5.at hb4) (ke5.at hb5) (by decide) (by omega) hbt (by decide) (by rw [va_up_self]; exact (Nat.le_trans (Nat.le_of_lt (hh.2 (3736 + 3) (by omega) (by unfold V0; omega))) B50_49))) (k_virt (n := 2) C wc_Be_addTimes rfl rfl wz_Be wm_Be_70 wn_Be_addTimes ws_Be_addTimes (by decide +kernel) ⟨(Nat.le_of_ble_eq_true rfl), (Nat.le_of_ble_eq_true rfl)⟩) (pr_nowVGP K S [0, 1] (by decide) rfl (List.mem_append_left _ (List.mem_of_getElem? (i := 0) rfl)) rfl) rfl rfl hl.1 rfl (lv_room (Nat.le_of_ble_eq_true rfl)) d_Be_reaches_16 ⟨(show 0 + (pt st N9 - pt st2 N9) + (pt st2 N9 + 400) ≤ pt st N9 + 400 from by omega), (show 0 + (2 * (pt st N9 - pt st2 N9)) + (2 * pt st2 N9 + 800) ≤ 2 * pt st N9 + 800 from by omega)⟩) (fun t8 H locs hw9 S => ?_)
  have S : Sw G A s.heap _ _ ([(h0, .inr (3, [.ref pta, .ref bu9, .ref bs9, .ref bf9, .ref bp9, .ref br9, .int (nI fo9), .int (nI bt9)])), (pta, .inl (k 4, 4, .inr (.inr (.inr (.inr (fun j => some (pa j)))))))] ++ (tpl k t8.1 N9)) := S
  have hw9 : gO t8.1 (va_up (va_up Z 3741 (Z (3736 + 3))) 3741 t8.2) (va_up V0 3741 True) ∧ t8.2.natAbs ≤ (1 + 1) * B50 ∧ keO st2 t8.1 ∧ pt t8.1 N9 ≤ pt st2 N9 ∧ saO st2 t8.1 := hw9
  show W p l e _ s m _ below meth c H locs _ _ _ (F0 m 19 ls [])
  obtain ⟨g10, bv11, ke12, pt13, sa14⟩ := hw9
  rw [up_up] at g10
  refine lv_aload_n hx hb d_Be_reaches_19 rfl (lv_at hl 0 rfl) ?_
  refine lv_iconst (v := 1) hx hb d_Be_reaches_20 (by decide) ?_
  refine lv_iload_n hx hb d_Be_reaches_21 rfl (lv_at hl 2 rfl) ?_
  refine q_backP (wi := [(h0, .inr (3, [.ref pta, .ref bu9, .ref bs9, .ref bf9, .ref bp9, .ref br9, .int (nI fo9), .int (nI bt9)])), (pta, .inl (k 4, 4, .inr (.inr (.inr (.inr (fun j => some (pa j)))))))]) (wr := []) S hA [0, 1] [] rfl rfl (by decide) (by decide) (va_runV (As := [.int 1, .int (nI qb)]) (rest := []) ⟨hx, hb, C.2.2.1, C.2.2.2.1, C.2.2.2.2.1⟩ (g_Be_addTimes l G k h0 _ _ 1 qb 2 pta bu9 bs9 bf9 bp9 br9 fo9 bt9 pa N9 t8.1 (va_up Z 3741 t8.2) hN g10 (bd_s hh.2) (fun j q => ke12.at ((fun j q => ke5.at (hb0 j q)) j q)) (ke12.at (ke5.at hb1)) (ke12.at (ke5.at hb2)) (ke12.at (ke5.at hb3)) (ke12.at (ke5.at hb4)) (ke12.at (ke5.at hb5)) (by decide) (by omega) hbt (by decide) (by rw [va_up_self]; exact bv11)) (k_virt (n := 2) C wc_Be_addTimes rfl rfl wz_Be wm_Be_70 wn_Be_addTimes ws_Be_addTimes (by decide +kernel) ⟨(Nat.le_of_ble_eq_true rfl), (Nat.le_of_ble_eq_true rfl)⟩) (pr_nowVGP K S [0, 1] (by decide) rfl (List.mem_append_left _ (List.mem_of_getElem? (i := 0) rfl)) rfl) rfl rfl hl.1 rfl (lv_room (Nat.le_of_ble_eq_true rfl)) d_Be_reaches_22 ⟨(show 0 + (pt st N9 - pt st2 N9) + (pt st2 N9 - pt t8.1 N9) + (pt t8.1 N9 + 400) ≤ pt st N9 + 400 from by omega), (show 0 + (2 * (pt st N9 - pt st2 N9)) + (2 * (pt st2 N9 - pt t8.1 N9)) + (2 * pt t8.1 N9 + 800) ≤ 2 * pt st N9 + 800 from by omega)⟩) (fun t15 H locs hw16 S => ?_)
  have S : Sw G A s.heap _ _ ([(h0, .inr (3, [.ref pta, .ref bu9, .ref bs9, .ref bf9, .ref bp9, .ref br9, .int (nI fo9), .int (nI bt9)])), (pta, .inl (k 4, 4, .inr (.inr (.inr (.inr (fun j => some (pa j)))))))] ++ (tpl k t15.1 N9)) := S
  have hw16 : gO t15.1 (va_up (va_up Z 3741 t8.2) 3741 t15.2) (va_up V0 3741 True) ∧ t15.2.natAbs ≤ (2 + 1) * B50 ∧ keO t8.1 t15.1 ∧ pt t15.1 N9 ≤ pt t8.1 N9 ∧ saO t8.1 t15.1 := hw16
  show W p l e _ s m _ below meth c H locs _ _ _ (F0 m 25 ls [])
  obtain ⟨g17, bv18, ke19, pt20, sa21⟩ := hw16
  rw [up_up] at g17
  refine lv_aload_n hx hb d_Be_reaches_25 rfl (lv_at hl 0 rfl) ?_
  refine lv_iconst (v := 2) hx hb d_Be_reaches_26 (by decide) ?_
  refine lv_iload_n hx hb d_Be_reaches_27 rfl (lv_at hl 3 rfl) ?_
  refine q_backP (wi := [(h0, .inr (3, [.ref pta, .ref bu9, .ref bs9, .ref bf9, .ref bp9, .ref br9, .int (nI fo9), .int (nI bt9)])), (pta, .inl (k 4, 4, .inr (.inr (.inr (.inr (fun j => some (pa j)))))))]) (wr := []) S hA [0, 1] [] rfl rfl (by decide) (by decide) (va_runV (As := [.int 2, .int (nI qc)]) (rest := []) ⟨hx, hb, C.2.2.1, C.2.2.2.1, C.2.2.2.2.1⟩ (g_Be_addTimes l G k h0 _ _ 2 qc 3 pta bu9 bs9 bf9 bp9 br9 fo9 bt9 pa N9 t15.1 (va_up Z 3741 t15.2) hN g17 (bd_s hh.2) (fun j q => ke19.at ((fun j q => ke12.at ((fun j q => ke5.at (hb0 j q)) j q)) j q)) (ke19.at (ke12.at (ke5.at hb1))) (ke19.at (ke12.at (ke5.at hb2))) (ke19.at (ke12.at (ke5.at hb3))) (ke19.at (ke12.at (ke5.at hb4))) (ke19.at (ke12.at (ke5.at hb5))) (by decide) (by omega) hbt (by decide) (by rw [va_up_self]; exact bv18)) (k_virt (n := 2) C wc_Be_addTimes rfl rfl wz_Be wm_Be_70 wn_Be_addTimes ws_Be_addTimes (by decide +kernel) ⟨(Nat.le_of_ble_eq_true rfl), (Nat.le_of_ble_eq_true rfl)⟩) (pr_nowVGP K S [0, 1] (by decide) rfl (List.mem_append_left _ (List.mem_of_getElem? (i := 0) rfl)) rfl) rfl rfl hl.1 rfl (lv_room (Nat.le_of_ble_eq_true rfl)) d_Be_reaches_28 ⟨(show 0 + (pt st N9 - pt st2 N9) + (pt st2 N9 - pt t8.1 N9) + (pt t8.1 N9 - pt t15.1 N9) + (pt t15.1 N9 + 400) ≤ pt st N9 + 400 from by omega), (show 0 + (2 * (pt st N9 - pt st2 N9)) + (2 * (pt st2 N9 - pt t8.1 N9)) + (2 * (pt t8.1 N9 - pt t15.1 N9)) + (2 * pt t15.1 N9 + 800) ≤ 2 * pt st N9 + 800 from by omega)⟩) (fun t22 H locs hw23 S => ?_)
  have S : Sw G A s.heap _ _ ([(h0, .inr (3, [.ref pta, .ref bu9, .ref bs9, .ref bf9, .ref bp9, .ref br9, .int (nI fo9), .int (nI bt9)])), (pta, .inl (k 4, 4, .inr (.inr (.inr (.inr (fun j => some (pa j)))))))] ++ (tpl k t22.1 N9)) := S
  have hw23 : gO t22.1 (va_up (va_up Z 3741 t15.2) 3741 t22.2) (va_up V0 3741 True) ∧ t22.2.natAbs ≤ (3 + 1) * B50 ∧ keO t15.1 t22.1 ∧ pt t22.1 N9 ≤ pt t15.1 N9 ∧ saO t15.1 t22.1 := hw23
  show W p l e _ s m _ below meth c H locs _ _ _ (F0 m 31 ls [])
  obtain ⟨g24, bv25, ke26, pt27, sa28⟩ := hw23
  rw [up_up] at g24
  refine lv_aload_n hx hb d_Be_reaches_31 rfl (lv_at hl 0 rfl) ?_
  refine r_get C K S 0 rfl rfl clOk_Be 3 (by decide) wf_Be_25 (v := .ref bf9) rfl d_Be_reaches_32 ?_
  refine lv_lload hx hb d_Be_reaches_35 (lv_at hl 4 rfl) ?_
  refine q_backP (wi := []) (wr := [(h0, .inr (3, [.ref pta, .ref bu9, .ref bs9, .ref bf9, .ref bp9, .ref br9, .int (nI fo9), .int (nI bt9)])), (pta, .inl (k 4, 4, .inr (.inr (.inr (.inr (fun j => some (pa j)))))))]) S hA [] [0, 1] rfl rfl (by decide) (by decide) (va_runV (As := [.long (lZ qn)]) (rest := []) ⟨hx, hb, C.2.2.1, C.2.2.2.1, C.2.2.2.2.1⟩ (g_P_set l G k _ _ qn 3742 bf9 N9 t22.1 (va_up Z 3741 t22.2) (va_up V0 3741 True) hN g24 (by omega) (ke26.at (ke19.at (ke12.at (ke5.at hb3)))) hn1 hn2) (k_virt (n := 1) C wc_Wh_set rfl rfl wz_Wh wm_Be_54 wn_Wh_set ws_Wh_set (by decide +kernel) ⟨(Nat.le_of_ble_eq_true rfl), (Nat.le_of_ble_eq_true rfl)⟩) (pr_nowVGP K S [] (by decide) rfl (Classical.choose_spec (at_mem (ke26.at (ke19.at (ke12.at (ke5.at hb3)))) (show 3742 < N9 by omega))) rfl) rfl rfl hl.1 rfl (lv_room (Nat.le_of_ble_eq_true rfl)) d_Be_reaches_37 ⟨(show 0 + (pt st N9 - pt st2 N9) + (pt st2 N9 - pt t8.1 N9) + (pt t8.1 N9 - pt t15.1 N9) + (pt t15.1 N9 - pt t22.1 N9) ≤ pt st N9 + 400 from by omega), (show 0 + (2 * (pt st N9 - pt st2 N9)) + (2 * (pt st2 N9 - pt t8.1 N9)) + (2 * (pt t8.1 N9 - pt t15.1 N9)) + (2 * (pt t15.1 N9 - pt t22.1 N9)) ≤ 2 * pt st N9 + 800 from by omega)⟩) (fun st29 H locs hw30 S => ?_)
  have S : Sw G A s.heap _ _ ([(h0, .inr (3, [.ref pta, .ref bu9, .ref bs9, .ref bf9, .ref bp9, .ref br9, .int (nI fo9), .int (nI bt9)])), (pta, .inl (k 4, 4, .inr (.inr (.inr (.inr (fun j => some (pa j)))))))] ++ (tpl k st29 N9)) := S
  have hw30 : gO st29 (va_up (va_up Z 3741 t22.2) 3742 qn) (va_up (va_up V0 3741 True) 3742 True) ∧ keO t22.1 st29 ∧ pt st29 N9 ≤ pt t22.1 N9 ∧ saO t22.1 st29 := hw30
  show W p l e _ s m _ below meth c H locs _ _ _ (F0 m 40 ls [])
  obtain ⟨g31, ke32, pt33, sa34⟩ := hw30
  refine lv_aload_n hx hb d_Be_reaches_40 rfl (lv_at hl 0 rfl) ?_
  refine r_get C K S 0 rfl rfl clOk_Be 4 (by decide) wf_Be_28 (v := .ref bp9) rfl d_Be_reaches_41 ?_
  refine lv_aload_n hx hb d_Be_reaches_44 rfl (lv_at hl 0 rfl) ?_
  refine r_get C K S 0 rfl rfl clOk_Be 1 (by decide) wf_Be_18 (v := .ref bu9) rfl d_Be_reaches_45 ?_
  refine lv_aload_n hx hb d_Be_reaches_48 rfl (lv_at hl 0 rfl) ?_
  refine r_get C K S 0 rfl rfl clOk_Be 3 (by decide) wf_Be_25 (v := .ref bf9) rfl d_Be_reaches_49 ?_
  refine q_backP (wi := []) (wr := [(h0, .inr (3, [.ref pta, .ref bu9, .ref bs9, .ref bf9, .ref bp9, .ref br9, .int (nI fo9), .int (nI bt9)])), (pta, .inl (k 4, 4, .inr (.inr (.inr (.inr (fun j => some (pa j)))))))]) S hA [] [0, 1] rfl rfl (by decide) (by decide) (va_runV (As := [.ref bu9, .ref bf9]) (rest := []) ⟨hx, hb, C.2.2.1, C.2.2.2.1, C.2.2.2.2.1⟩ (g_P_multiply l G k _ _ 3743 3740 3742 bp9 bu9 bf9 (Z 3740) qn N9 st29 (va_up (va_up Z 3741 t22.2) 3742 qn) (va_up (va_up V0 3741 True) 3742 True) hN g31 (by omega) (by omega) (by omega) (ke32.at (ke26.at (ke19.at (ke12.at (ke5.at hb4))))) (ke32.at (ke26.at (ke19.at (ke12.at (ke5.at hb1))))) (ke32.at (ke26.at (ke19.at (ke12.at (ke5.at hb3))))) (by rw [va_up_ne _ _ (show 3740 ≠ 3742 by decide), va_up_ne _ _ (show 3740 ≠ 3741 by decide)]) (by rw [va_up_self]) (by rw [va_up_ne _ _ (show 3740 ≠ 3742 by decide), va_up_ne _ _ (show 3740 ≠ 3741 by decide)]; unfold V0; omega) (by rw [va_up_self]; trivial) (by decide) (by decide) (by decide) (by decide) (b50 (hh.2 3740 (by omega) (by unfold V0; omega))) (b50 (b49i2 (by omega)))) (k_virt (n := 2) C wc_Wh_multiply rfl rfl wz_Wh wm_Be_58 wn_Wh_multiply ws_Wh_multiply (by decide +kernel) ⟨(Nat.le_of_ble_eq_true rfl), (Nat.le_of_ble_eq_true rfl)⟩) (pr_nowVGP K S [] (by decide) rfl (Classical.choose_spec (at_mem (ke32.at (ke26.at (ke19.at (ke12.at (ke5.at hb4))))) (show 3743 < N9 by omega))) rfl) rfl rfl hl.1 rfl (lv_room (Nat.le_of_ble_eq_true rfl)) d_Be_reaches_52 ⟨(show 0 + (pt st N9 - pt st2 N9) + (pt st2 N9 - pt t8.1 N9) + (pt t8.1 N9 - pt t15.1 N9) + (pt t15.1 N9 - pt t22.1 N9) + (pt t22.1 N9 - pt st29 N9) + 200 ≤ pt st N9 + 400 from by omega), (show 0 + (2 * (pt st N9 - pt st2 N9)) + (2 * (pt st2 N9 - pt t8.1 N9)) + (2 * (pt t8.1 N9 - pt t15.1 N9)) + (2 * (pt t15.1 N9 - pt t22.1 N9)) + (2 * (pt t22.1 N9 - pt st29 N9)) + 400 ≤ 2 * pt st N9 + 800 from by omega)⟩) (fun st35 H locs hw36 S => ?_)
  have S : Sw G A s.heap _ _ ([(h0, .inr (3, [.ref pta, .ref bu9, .ref bs9, .ref bf9, .ref bp9, .ref br9, .int (nI fo9), .int (nI bt9)])), (pta, .inl (k 4, 4, .inr (.inr (.inr (.inr (fun j => some (pa j)))))))] ++ (tpl k st35 N9)) := S
  have hw36 : gO st35 (va_up (va_up (va_up Z 3741 t22.2) 3742 qn) 3743 ((Z 3740) * qn)) (va_up (va_up (va_up V0 3741 True) 3742 True) 3743 True) ∧ keO st29 st35 ∧ pt st35 N9 ≤ pt st29 N9 ∧ saO st29 st35 := hw36
  show W p l e _ s m _ below meth c H locs _ _ _ (F0 m 55 ls [])
  obtain ⟨g37, ke38, pt39, sa40⟩ := hw36
  refine lv_aload_n hx hb d_Be_reaches_55 rfl (lv_at hl 0 rfl) ?_
  refine r_get C K S 0 rfl rfl clOk_Be 2 (by decide) wf_Be_22 (v := .ref bs9) rfl d_Be_reaches_56 ?_
  refine lv_aload_n hx hb d_Be_reaches_59 rfl (lv_at hl 0 rfl) ?_
  refine r_get C K S 0 rfl rfl clOk_Be 4 (by decide) wf_Be_28 (v := .ref bp9) rfl d_Be_reaches_60 ?_
  refine q_backP (wi := []) (wr := [(h0, .inr (3, [.ref pta, .ref bu9, .ref bs9, .ref bf9, .ref bp9, .ref br9, .int (nI fo9), .int (nI bt9)])), (pta, .inl (k 4, 4, .inr (.inr (.inr (.inr (fun j => some (pa j)))))))]) S hA [] [0, 1] rfl rfl (by decide) (by decide) (va_runV (As := [.ref bp9]) (rest := []) ⟨hx, hb, C.2.2.1, C.2.2.2.1, C.2.2.2.2.1⟩ (g_P_compare l G k _ _ 3741 3743 bs9 bp9 t22.2 ((Z 3740) * qn) N9 st35 (va_up (va_up (va_up Z 3741 t22.2) 3742 qn) 3743 ((Z 3740) * qn)) (va_up (va_up (va_up V0 3741 True) 3742 True) 3743 True) hN g37 (by omega) (by omega) (ke38.at (ke32.at (ke26.at (ke19.at (ke12.at (ke5.at hb2)))))) (ke38.at (ke32.at (ke26.at (ke19.at (ke12.at (ke5.at hb4)))))) (by rw [va_up_ne _ _ (show 3741 ≠ 3743 by decide), va_up_ne _ _ (show 3741 ≠ 3742 by decide), va_up_self]) (by rw [va_up_self]) (by rw [va_up_ne _ _ (show 3741 ≠ 3743 by decide), va_up_ne _ _ (show 3741 ≠ 3742 by decide), va_up_self]; trivial) (by rw [va_up_self]; trivial) (by decide)) (k_virt (n := 1) C wc_Wh_compare rfl rfl wz_Wh wm_Be_74 wn_Wh_compare ws_Wh_compare (by decide +kernel) ⟨(Nat.le_of_ble_eq_true rfl), (Nat.le_of_ble_eq_true rfl)⟩) (pr_nowVGP K S [] (by decide) rfl (Classical.choose_spec (at_mem (ke38.at (ke32.at (ke26.at (ke19.at (ke12.at (ke5.at hb2)))))) (show 3741 < N9 by omega))) rfl) rfl rfl hl.1 rfl (lv_room (Nat.le_of_ble_eq_true rfl)) d_Be_reaches_63 ⟨(show 0 + (pt st N9 - pt st2 N9) + (pt st2 N9 - pt t8.1 N9) + (pt t8.1 N9 - pt t15.1 N9) + (pt t15.1 N9 - pt t22.1 N9) + (pt t22.1 N9 - pt st29 N9) + (pt st29 N9 - pt st35 N9) ≤ pt st N9 + 400 from by omega), (show 0 + (2 * (pt st N9 - pt st2 N9)) + (2 * (pt st2 N9 - pt t8.1 N9)) + (2 * (pt t8.1 N9 - pt t15.1 N9)) + (2 * (pt t15.1 N9 - pt t22.1 N9)) + (2 * (pt t22.1 N9 - pt st29 N9)) + (2 * (pt st29 N9 - pt st35 N9)) ≤ 2 * pt st N9 + 800 from by omega)⟩) (fun u41 H locs hw42 S => ?_)
  have S : Sw G A s.heap _ _ ([(h0, .inr (3, [.ref pta, .ref bu9, .ref bs9, .ref bf9, .ref bp9, .ref br9, .int (nI fo9), .int (nI bt9)])), (pta, .inl (k 4, 4, .inr (.inr (.inr (.inr (fun j => some (pa j)))))))] ++ (tpl k st35 N9)) := S
  have hw42 : True := hw42
  show W p l e _ s m _ below meth c H locs _ _ _ (F0 m 66 ls [.int (czI (t22.2) (((Z 3740) * qn)))])
  refine lv_if_lt (tgt := 73) hx hb d_Be_reaches_66 (by decide) (fun hc43 => ?_) (fun hc43 => ?_)
  · refine lv_iconst (v := 0) hx hb d_Be_reaches_73 (by decide) ?_
    have hfin : hO st35 Z := by
      refine hO_of g37 hh.2 (fun i q1 q2 => ?_)
      unfold V0 at q2
      exact ⟨by rw [va_up_ne _ _ (show i ≠ 3743 by omega), va_up_ne _ _ (show i ≠ 3742 by omega), va_up_ne _ _ (show i ≠ 3741 by omega)]; unfold V0; omega, by rw [va_up_ne _ _ (show i ≠ 3743 by omega), va_up_ne _ _ (show i ≠ 3742 by omega), va_up_ne _ _ (show i ≠ 3741 by omega)]⟩
    exact q_iret (v := 0) (rv := (fun (u : (Nat → Option wQ) × Nat) => some (.int (nI u.2)))) (post := (fun (u : (Nat → Option wQ) × Nat) => hO u.1 Z ∧ keO st u.1 ∧ pt u.1 N9 ≤ pt st N9 ∧ saO st u.1 ∧ u.2 ≤ 1)) (wo := (fun (u : (Nat → Option wQ) × Nat) => ([(h0, .inr (3, [.ref pta, .ref bu9, .ref bs9, .ref bf9, .ref bp9, .ref br9, .int (nI fo9), .int (nI bt9)])), (pta, .inl (k 4, 4, .inr (.inr (.inr (.inr (fun j => some (pa j)))))))] ++ (tpl k u.1 N9)))) (cu := (fun (u : (Nat → Option wQ) × Nat) => pt st N9 - pt u.1 N9)) (nu := (fun (u : (Nat → Option wQ) × Nat) => 2 * (pt st N9 - pt u.1 N9))) C K hsz rfl (st35, 0) rfl (show hO st35 Z ∧ keO st st35 ∧ pt st35 N9 ≤ pt st N9 ∧ saO st st35 ∧ 0 ≤ 1 from ⟨hfin, (((((ke5.tr ke12).tr ke19).tr ke26).tr ke32).tr ke38), by omega, (saO.tr (saO.tr (saO.tr (saO.tr (saO.tr sa7 sa14) sa21) sa28) sa34) sa40), by decide⟩) (S.subP [0, 1] (by decide) rfl) d_Be_reaches_74 (show 0 + (pt st N9 - pt st2 N9) + (pt st2 N9 - pt t8.1 N9) + (pt t8.1 N9 - pt t15.1 N9) + (pt t15.1 N9 - pt t22.1 N9) + (pt t22.1 N9 - pt st29 N9) + (pt st29 N9 - pt st35 N9) ≤ pt st N9 - pt st35 N9 from by omega) (show 0 + (2 * (pt st N9 - pt st2 N9)) + (2 * (pt st2 N9 - pt t8.1 N9)) + (2 * (pt t8.1 N9 - pt t15.1 N9)) + (2 * (pt t15.1 N9 - pt t22.1 N9)) + (2 * (pt t22.1 N9 - pt st29 N9)) + (2 * (pt st29 N9 - pt st35 N9)) ≤ 2 * (pt st N9 - pt st35 N9) from by omega) (show 0 + (pt st N9 - pt st2 N9) + (pt st2 N9 - pt t8.1 N9) + (pt t8.1 N9 - pt t15.1 N9) + (pt t15.1 N9 - pt t22.1 N9) + (pt t22.1 N9 - pt st29 N9) + (pt st29 N9 - pt st35 N9) ≤ pt st N9 + 400 from by omega) (show 0 + (2 * (pt st N9 - pt st2 N9)) + (2 * (pt st2 N9 - pt t8.1 N9)) + (2 * (pt t8.1 N9 - pt t15.1 N9)) + (2 * (pt t15.1 N9 - pt t22.1 N9)) + (2 * (pt t22.1 N9 - pt st29 N9)) + (2 * (pt st29 N9 - pt st35 N9)) ≤ 2 * pt st N9 + 800 from by omega)
  · refine lv_iconst (v := 1) hx hb d_Be_reaches_69 (by decide) ?_
    refine lv_goto (tgt := 74) hx hb d_Be_reaches_70 (by decide) ?_
    have hfin : hO st35 Z := by
      refine hO_of g37 hh.2 (fun i q1 q2 => ?_)
      unfold V0 at q2
      exact ⟨by rw [va_up_ne _ _ (show i ≠ 3743 by omega), va_up_ne _ _ (show i ≠ 3742 by omega), va_up_ne _ _ (show i ≠ 3741 by omega)]; unfold V0; omega, by rw [va_up_ne _ _ (show i ≠ 3743 by omega), va_up_ne _ _ (show i ≠ 3742 by omega), va_up_ne _ _ (show i ≠ 3741 by omega)]⟩
    exact q_iret (v := 1) (rv := (fun (u : (Nat → Option wQ) × Nat) => some (.int (nI u.2)))) (post := (fun (u : (Nat → Option wQ) × Nat) => hO u.1 Z ∧ keO st u.1 ∧ pt u.1 N9 ≤ pt st N9 ∧ saO st u.1 ∧ u.2 ≤ 1)) (wo := (fun (u : (Nat → Option wQ) × Nat) => ([(h0, .inr (3, [.ref pta, .ref bu9, .ref bs9, .ref bf9, .ref bp9, .ref br9, .int (nI fo9), .int (nI bt9)])), (pta, .inl (k 4, 4, .inr (.inr (.inr (.inr (fun j => some (pa j)))))))] ++ (tpl k u.1 N9)))) (cu := (fun (u : (Nat → Option wQ) × Nat) => pt st N9 - pt u.1 N9)) (nu := (fun (u : (Nat → Option wQ) × Nat) => 2 * (pt st N9 - pt u.1 N9))) C K hsz rfl (st35, 1) rfl (show hO st35 Z ∧ keO st st35 ∧ pt st35 N9 ≤ pt st N9 ∧ saO st st35 ∧ 1 ≤ 1 from ⟨hfin, (((((ke5.tr ke12).tr ke19).tr ke26).tr ke32).tr ke38), by omega, (saO.tr (saO.tr (saO.tr (saO.tr (saO.tr sa7 sa14) sa21) sa28) sa34) sa40), by decide⟩) (S.subP [0, 1] (by decide) rfl) d_Be_reaches_74 (show 0 + (pt st N9 - pt st2 N9) + (pt st2 N9 - pt t8.1 N9) + (pt t8.1 N9 - pt t15.1 N9) + (pt t15.1 N9 - pt t22.1 N9) + (pt t22.1 N9 - pt st29 N9) + (pt st29 N9 - pt st35 N9) ≤ pt st N9 - pt st35 N9 from by omega) (show 0 + (2 * (pt st N9 - pt st2 N9)) + (2 * (pt st2 N9 - pt t8.1 N9)) + (2 * (pt t8.1 N9 - pt t15.1 N9)) + (2 * (pt t15.1 N9 - pt t22.1 N9)) + (2 * (pt t22.1 N9 - pt st29 N9)) + (2 * (pt st29 N9 - pt st35 N9)) ≤ 2 * (pt st N9 - pt st35 N9) from by omega) (show 0 + (pt st N9 - pt st2 N9) + (pt st2 N9 - pt t8.1 N9) + (pt t8.1 N9 - pt t15.1 N9) + (pt t15.1 N9 - pt t22.1 N9) + (pt t22.1 N9 - pt st29 N9) + (pt st29 N9 - pt st35 N9) ≤ pt st N9 + 400 from by omega) (show 0 + (2 * (pt st N9 - pt st2 N9)) + (2 * (pt st2 N9 - pt t8.1 N9)) + (2 * (pt t8.1 N9 - pt t15.1 N9)) + (2 * (pt t15.1 N9 - pt t22.1 N9)) + (2 * (pt t22.1 N9 - pt st29 N9)) + (2 * (pt st29 N9 - pt st35 N9)) ≤ 2 * pt st N9 + 800 from by omega)
theorem d_Be_take_0 : decode c_Be_take 0 = .ok (.aload_n 0, 1) := by decide +kernel
theorem d_Be_take_1 : decode c_Be_take 1 = .ok (.iconst 1, 1) := by decide +kernel
theorem d_Be_take_2 : decode c_Be_take 2 = .ok (.putfield 34, 3) := by decide +kernel
theorem d_Be_take_5 : decode c_Be_take 5 = .ok (.aload_n 0, 1) := by decide +kernel
theorem d_Be_take_6 : decode c_Be_take 6 = .ok (.aload_n 1, 1) := by decide +kernel
theorem d_Be_take_7 : decode c_Be_take 7 = .ok (.getfield 38, 3) := by decide +kernel
theorem d_Be_take_10 : decode c_Be_take 10 = .ok (.putfield 44, 3) := by decide +kernel
theorem d_Be_take_13 : decode c_Be_take 13 = .ok (.aload_n 0, 1) := by decide +kernel
theorem d_Be_take_14 : decode c_Be_take 14 = .ok (.getfield 18, 3) := by decide +kernel
theorem d_Be_take_17 : decode c_Be_take 17 = .ok (.aload_n 1, 1) := by decide +kernel
theorem d_Be_take_18 : decode c_Be_take 18 = .ok (.getfield 45, 3) := by decide +kernel
theorem d_Be_take_21 : decode c_Be_take 21 = .ok (.invokevirtual 46, 3) := by decide +kernel
theorem d_Be_take_24 : decode c_Be_take 24 = .ok (.iconst 0, 1) := by decide +kernel
theorem d_Be_take_25 : decode c_Be_take 25 = .ok (.istore_n 2, 1) := by decide +kernel
theorem d_Be_take_26 : decode c_Be_take 26 = .ok (.iload_n 2, 1) := by decide +kernel
theorem d_Be_take_27 : decode c_Be_take 27 = .ok (.aload_n 0, 1) := by decide +kernel
theorem d_Be_take_28 : decode c_Be_take 28 = .ok (.getfield 44, 3) := by decide +kernel
theorem d_Be_take_31 : decode c_Be_take 31 = .ok (.if_icmp .ge 20, 3) := by decide +kernel
theorem d_Be_take_34 : decode c_Be_take 34 = .ok (.aload_n 1, 1) := by decide +kernel
theorem d_Be_take_35 : decode c_Be_take 35 = .ok (.iload_n 2, 1) := by decide +kernel
theorem d_Be_take_36 : decode c_Be_take 36 = .ok (.aload_n 0, 1) := by decide +kernel
theorem d_Be_take_37 : decode c_Be_take 37 = .ok (.getfield 11, 3) := by decide +kernel
theorem d_Be_take_40 : decode c_Be_take 40 = .ok (.iload_n 2, 1) := by decide +kernel
theorem d_Be_take_41 : decode c_Be_take 41 = .ok (.aaload, 1) := by decide +kernel
theorem d_Be_take_42 : decode c_Be_take 42 = .ok (.invokevirtual 50, 3) := by decide +kernel
theorem d_Be_take_45 : decode c_Be_take 45 = .ok (.iinc 2 1, 3) := by decide +kernel
theorem d_Be_take_48 : decode c_Be_take 48 = .ok (.goto (-22), 3) := by decide +kernel
theorem d_Be_take_51 : decode c_Be_take 51 = .ok (.aload_n 1, 1) := by decide +kernel
theorem d_Be_take_52 : decode c_Be_take 52 = .ok (.aload_n 0, 1) := by decide +kernel
theorem d_Be_take_53 : decode c_Be_take 53 = .ok (.getfield 44, 3) := by decide +kernel
theorem d_Be_take_56 : decode c_Be_take 56 = .ok (.aload_n 0, 1) := by decide +kernel
theorem d_Be_take_57 : decode c_Be_take 57 = .ok (.getfield 11, 3) := by decide +kernel
theorem d_Be_take_60 : decode c_Be_take 60 = .ok (.iconst 3, 1) := by decide +kernel
theorem d_Be_take_61 : decode c_Be_take 61 = .ok (.aaload, 1) := by decide +kernel
theorem d_Be_take_62 : decode c_Be_take 62 = .ok (.invokevirtual 50, 3) := by decide +kernel
theorem d_Be_take_65 : decode c_Be_take 65 = .ok (.return_, 1) := by decide +kernel
set_option maxRecDepth 100000 in
set_option maxHeartbeats 16000000 in
/-- take -/
theorem g_Be_take (l : Launch) (G : va_G) (k : Nat → ClassId) (h0 : Nat) (s0 sl : Nat) (hs : Nat) (cea : Nat) (roa : Nat) (coa : Nat) (ura : Nat) (uca : Nat) (au : Nat) (ap : Nat) (al : Nat) (ar : Nat) (ae : Nat) (rw9 : Nat) (C9 : Nat) (fs9 : Nat) (tk9 : Nat) (ro : Nat → Int32) (pta : Nat) (bu9 : Nat) (bs9 : Nat) (bf9 : Nat) (bp9 : Nat) (br9 : Nat) (fo9 : Nat) (bt9 : Nat) (pa : Nat → Nat) (N9 : Nat) (st : Nat → Option wQ) (Z : Nat → Int) (hN : N9 = 3745) (hh : hO st Z) (hU : atO st 3731 au) (hP : atO st 3732 ap) (hL : atO st 3733 al) (hR : atO st 3734 ar) (hE : atO st 3735 ae) (hb0 : ∀ j, j < 4 → atO st (3736 + j) (pa j)) (hb1 : atO st 3740 bu9) (hb2 : atO st 3741 bs9) (hb3 : atO st 3742 bf9) (hb4 : atO st 3743 bp9) (hb5 : atO st 3744 br9) (hC : C9 ≤ 40) (hRw : rw9 ≤ 91) (hro : ∀ v, v < C9 → ro v = -2 ∨ ∃ r, r < rw9 ∧ ro v = nI r) (hfs : fs9 + tk9 < C9) (htk : tk9 ≤ 3) : CG l y_Be_take c_Be_take 3 none { frames := 5, cells := pt st N9 + 400, slots := 2 * pt st N9 + 800, locals := 148 } [.ref h0, .ref hs] G k s0 sl ([(h0, .inr (3, [.ref pta, .ref bu9, .ref bs9, .ref bf9, .ref bp9, .ref br9, .int (nI fo9), .int (nI bt9)])), (pta, .inl (k 4, 4, .inr (.inr (.inr (.inr (fun j => some (pa j))))))), (hs, .inr (1, [.ref cea, .ref roa, .ref coa, .ref ura, .ref uca, .ref au, .ref ap, .ref al, .ref ar, .ref ae, .int (nI rw9), .int (nI C9), .int (nI fs9), .int (nI tk9)])), (cea, .inl (k 4, 3731, .inr (.inr (.inr (.inr (fun j => adO (st j))))))), (roa, .inl (k 0, 40, .inl ro))] ++ (tpl k st N9)) (fun (u : (Nat → Option wQ) × (Nat → Int)) => none) (fun (u : (Nat → Option wQ) × (Nat → Int)) => hO u.1 u.2 ∧ keO st u.1 ∧ pt u.1 N9 ≤ pt st N9) (fun (u : (Nat → Option wQ) × (Nat → Int)) => ([(h0, .inr (3, [.ref pta, .ref bu9, .ref bs9, .ref bf9, .ref bp9, .ref br9, .int 1, .int (nI tk9)])), (pta, .inl (k 4, 4, .inr (.inr (.inr (.inr (fun j => some (pa j))))))), (hs, .inr (1, [.ref cea, .ref roa, .ref coa, .ref ura, .ref uca, .ref au, .ref ap, .ref al, .ref ar, .ref ae, .int (nI rw9), .int (nI C9), .int (nI fs9), .int (nI tk9)])), (cea, .inl (k 4, 3731, .inr (.inr (.inr (.inr (fun j => adO (u.1 j))))))), (roa, .inl (k 0, 40, .inl ro))] ++ (tpl k u.1 N9))) (fun (u : (Nat → Option wQ) × (Nat → Int)) => pt st N9 - pt u.1 N9) (fun (u : (Nat → Option wQ) × (Nat → Int)) => 2 * (pt st N9 - pt u.1 N9)) (pt st N9 + 400) (2 * pt st N9 + 800) := by
  refine met_startG (by decide) (Nat.le_of_ble_eq_true rfl) ?_
  intro p e s m below meth c C K hA hsz S ls hl
  generalize va_A ([(h0, .inr (3, [.ref pta, .ref bu9, .ref bs9, .ref bf9, .ref bp9, .ref br9, .int (nI fo9), .int (nI bt9)])), (pta, .inl (k 4, 4, .inr (.inr (.inr (.inr (fun j => some (pa j))))))), (hs, .inr (1, [.ref cea, .ref roa, .ref coa, .ref ura, .ref uca, .ref au, .ref ap, .ref al, .ref ar, .ref ae, .int (nI rw9), .int (nI C9), .int (nI fs9), .int (nI tk9)])), (cea, .inl (k 4, 3731, .inr (.inr (.inr (.inr (fun j => adO (st j))))))), (roa, .inl (k 0, 40, .inl ro))] ++ (tpl k st N9)) s0 = A at hA S ⊢
  have hx := C.1
  have hb := C.2.1
  have hl : lv_has ls 3 [(0, .ref h0), (1, .ref hs)] := hl
  refine lv_aload_n hx hb d_Be_take_0 rfl (lv_at hl 0 rfl) ?_
  refine lv_iconst (v := 1) hx hb d_Be_take_1 (by decide) ?_
  refine r_put C K S 0 rfl rfl clOk_Be 6 (by decide) wf_Be_34 rfl (ty := .boolean) (v := .int 1) (by decide +kernel) rfl rfl (Nat.le_of_ble_eq_true rfl) (fs' := [.ref pta, .ref bu9, .ref bs9, .ref bf9, .ref bp9, .ref br9, .int 1, .int (nI bt9)]) (ws' := ([(h0, .inr (3, [.ref pta, .ref bu9, .ref bs9, .ref bf9, .ref bp9, .ref br9, .int 1, .int (nI bt9)])), (pta, .inl (k 4, 4, .inr (.inr (.inr (.inr (fun j => some (pa j))))))), (hs, .inr (1, [.ref cea, .ref roa, .ref coa, .ref ura, .ref uca, .ref au, .ref ap, .ref al, .ref ar, .ref ae, .int (nI rw9), .int (nI C9), .int (nI fs9), .int (nI tk9)])), (cea, .inl (k 4, 3731, .inr (.inr (.inr (.inr (fun j => adO (st j))))))), (roa, .inl (k 0, 40, .inl ro))] ++ (tpl k st N9))) rfl rfl d_Be_take_2 (fun H locs S => ?_)
  refine lv_aload_n hx hb d_Be_take_5 rfl (lv_at hl 0 rfl) ?_
  refine lv_aload_n hx hb d_Be_take_6 rfl (lv_at hl 1 rfl) ?_
  refine r_getN C K S 2 rfl rfl clOk_So 13 (by decide) xf_Be_38 (v := .int (nI tk9)) rfl d_Be_take_7 ?_
  refine r_put C K S 0 rfl rfl clOk_Be 7 (by decide) wf_Be_44 rfl (ty := .int) (v := .int (nI tk9)) (by decide +kernel) rfl rfl (Nat.le_of_ble_eq_true rfl) (fs' := [.ref pta, .ref bu9, .ref bs9, .ref bf9, .ref bp9, .ref br9, .int 1, .int (nI tk9)]) (ws' := ([(h0, .inr (3, [.ref pta, .ref bu9, .ref bs9, .ref bf9, .ref bp9, .ref br9, .int 1, .int (nI tk9)])), (pta, .inl (k 4, 4, .inr (.inr (.inr (.inr (fun j => some (pa j))))))), (hs, .inr (1, [.ref cea, .ref roa, .ref coa, .ref ura, .ref uca, .ref au, .ref ap, .ref al, .ref ar, .ref ae, .int (nI rw9), .int (nI C9), .int (nI fs9), .int (nI tk9)])), (cea, .inl (k 4, 3731, .inr (.inr (.inr (.inr (fun j => adO (st j))))))), (roa, .inl (k 0, 40, .inl ro))] ++ (tpl k st N9))) rfl rfl d_Be_take_10 (fun H locs S => ?_)
  refine lv_aload_n hx hb d_Be_take_13 rfl (lv_at hl 0 rfl) ?_
  refine r_get C K S 0 rfl rfl clOk_Be 1 (by decide) wf_Be_18 (v := .ref bu9) rfl d_Be_take_14 ?_
  refine lv_aload_n hx hb d_Be_take_17 rfl (lv_at hl 1 rfl) ?_
  refine r_getN C K S 2 rfl rfl clOk_So 5 (by decide) xf_Be_45 (v := .ref au) rfl d_Be_take_18 ?_
  have mb1 := Mb_le 3740
  refine q_backP (wi := []) (wr := [(h0, .inr (3, [.ref pta, .ref bu9, .ref bs9, .ref bf9, .ref bp9, .ref br9, .int 1, .int (nI tk9)])), (pta, .inl (k 4, 4, .inr (.inr (.inr (.inr (fun j => some (pa j))))))), (hs, .inr (1, [.ref cea, .ref roa, .ref coa, .ref ura, .ref uca, .ref au, .ref ap, .ref al, .ref ar, .ref ae, .int (nI rw9), .int (nI C9), .int (nI fs9), .int (nI tk9)])), (cea, .inl (k 4, 3731, .inr (.inr (.inr (.inr (fun j => adO (st j))))))), (roa, .inl (k 0, 40, .inl ro))]) S hA [] [0, 1, 2, 3, 4] rfl rfl (by decide) (by decide) (va_runV (As := [.ref au]) (rest := []) ⟨hx, hb, C.2.2.1, C.2.2.2.1, C.2.2.2.2.1⟩ (g_P_copy l G k _ _ 3740 3731 bu9 au (Z 3731) N9 st Z V0 hN hh.1 (by omega) (by omega) hb1 hU rfl (show V0 3731 from by unfold V0; omega) (by decide) (hh.2 3731 (by omega) (by unfold V0; omega))) (k_virt (n := 1) C wc_Wh_copy rfl rfl wz_Wh wm_Be_46 wn_Wh_copy ws_Wh_copy (by decide +kernel) ⟨(Nat.le_of_ble_eq_true rfl), (Nat.le_of_ble_eq_true rfl)⟩) (pr_nowVGP K S [] (by decide) rfl (Classical.choose_spec (at_mem hb1 (show 3740 < N9 by omega))) rfl) rfl rfl hl.1 rfl (lv_room (Nat.le_of_ble_eq_true rfl)) d_Be_take_21 ⟨(show 0 + (Mb 3740) ≤ pt st N9 + 400 from by omega), (show 0 + (2 * Mb 3740) ≤ 2 * pt st N9 + 800 from by omega)⟩) (fun st2 H locs hw3 S => ?_)
  have S : Sw G A s.heap _ _ ([(h0, .inr (3, [.ref pta, .ref bu9, .ref bs9, .ref bf9, .ref bp9, .ref br9, .int 1, .int (nI tk9)])), (pta, .inl (k 4, 4, .inr (.inr (.inr (.inr (fun j => some (pa j))))))), (hs, .inr (1, [.ref cea, .ref roa, .ref coa, .ref ura, .ref uca, .ref au, .ref ap, .ref al, .ref ar, .ref ae, .int (nI rw9), .int (nI C9), .int (nI fs9), .int (nI tk9)])), (cea, .inl (k 4, 3731, .inr (.inr (.inr (.inr (fun j => adO (st j))))))), (roa, .inl (k 0, 40, .inl ro))] ++ (tpl k st2 N9)) := S
  have hw3 : gO st2 (va_up Z 3740 (Z 3731)) (va_up V0 3740 True) ∧ keO st st2 ∧ pt st2 N9 ≤ pt st N9 ∧ saO st st2 := hw3
  show W p l e _ s m _ below meth c H locs _ _ _ (F0 m 24 ls [])
  obtain ⟨g4, ke5, pt6, sa7⟩ := hw3
  have S : Sw G A s.heap H locs ([(h0, .inr (3, [.ref pta, .ref bu9, .ref bs9, .ref bf9, .ref bp9, .ref br9, .int 1, .int (nI tk9)])), (pta, .inl (k 4, 4, .inr (.inr (.inr (.inr (fun j => some (pa j))))))), (hs, .inr (1, [.ref cea, .ref roa, .ref coa, .ref ura, .ref uca, .ref au, .ref ap, .ref al, .ref ar, .ref ae, .int (nI rw9), .int (nI C9), .int (nI fs9), .int (nI tk9)])), (cea, .inl (k 4, 3731, .inr (.inr (.inr (.inr (fun j => adO (st2 j))))))), (roa, .inl (k 0, 40, .inl ro))] ++ (tpl k st2 N9)) := by rw [show (fun j => adO (st2 j)) = _ from sa7]; exact S
  have hh8 : hO st2 (va_up Z 3740 (Z 3731)) := hO_up1 g4 hh.2 (hh.2 _ (by omega) (by unfold V0; omega))
  refine lv_iconst (v := 0) hx hb d_Be_take_24 (by decide) ?_
  refine lv_istore_n (lv' := [(2, .int 0), (0, .ref h0), (1, .ref hs)]) hx hb d_Be_take_25 rfl hl (by decide) rfl (fun ls hl => ?_)
  refine W.widen (show 0 + (pt st N9 - pt st2 N9) ≤ pt st N9 - pt st2 N9 from by omega) (show 0 + (2 * (pt st N9 - pt st2 N9)) ≤ 2 * (pt st N9 - pt st2 N9) from by omega) ?_
  have lp : ∀ d9, ∀ (s8 : Nat → Option wQ), ∀ (Z8 : Nat → Int), ∀ (i9 : Nat), (tk9 - i9) < d9 → (hO s8 Z8) → (keO st s8) → (pt s8 N9 ≤ pt st N9) → (i9 ≤ tk9) → ∀ (H : Heap) (locs : List Loc), Sw G A s.heap H locs ([(h0, .inr (3, [.ref pta, .ref bu9, .ref bs9, .ref bf9, .ref bp9, .ref br9, .int 1, .int (nI tk9)])), (pta, .inl (k 4, 4, .inr (.inr (.inr (.inr (fun j => some (pa j))))))), (hs, .inr (1, [.ref cea, .ref roa, .ref coa, .ref ura, .ref uca, .ref au, .ref ap, .ref al, .ref ar, .ref ae, .int (nI rw9), .int (nI C9), .int (nI fs9), .int (nI tk9)])), (cea, .inl (k 4, 3731, .inr (.inr (.inr (.inr (fun j => adO (s8 j))))))), (roa, .inl (k 0, 40, .inl ro))] ++ (tpl k s8 N9)) → ∀ ls : Array Slot, lv_has ls 3 [(2, .int (nI i9)), (0, .ref h0), (1, .ref hs)] → W p l e { frames := 5, cells := pt st N9 + 400, slots := 2 * pt st N9 + 800, locals := 148 } s m [Value.ref h0, Value.ref hs].toArray below meth c H locs (pt st N9 - pt s8 N9) (2 * (pt st N9 - pt s8 N9)) (MQ below (va_Qg (fun (u : (Nat → Option wQ) × (Nat → Int)) => none) (fun (u : (Nat → Option wQ) × (Nat → Int)) => hO u.1 u.2 ∧ keO st u.1 ∧ pt u.1 N9 ≤ pt st N9) (Pog G k A (fun (u : (Nat → Option wQ) × (Nat → Int)) => ([(h0, .inr (3, [.ref pta, .ref bu9, .ref bs9, .ref bf9, .ref bp9, .ref br9, .int 1, .int (nI tk9)])), (pta, .inl (k 4, 4, .inr (.inr (.inr (.inr (fun j => some (pa j))))))), (hs, .inr (1, [.ref cea, .ref roa, .ref coa, .ref ura, .ref uca, .ref au, .ref ap, .ref al, .ref ar, .ref ae, .int (nI rw9), .int (nI C9), .int (nI fs9), .int (nI tk9)])), (cea, .inl (k 4, 3731, .inr (.inr (.inr (.inr (fun j => adO (u.1 j))))))), (roa, .inl (k 0, 40, .inl ro))] ++ (tpl k u.1 N9))) s0 sl (fun (u : (Nat → Option wQ) × (Nat → Int)) => pt st N9 - pt u.1 N9) (fun (u : (Nat → Option wQ) × (Nat → Int)) => 2 * (pt st N9 - pt u.1 N9))) A) [Value.ref h0, Value.ref hs].toArray s (pt st N9 + 400) (2 * pt st N9 + 800) A) (F0 m 26 ls []) := by
    intro d9
    induction d9 with
    | zero => intro s8 Z8 i9 hm; exact absurd hm (Nat.not_lt_zero _)
    | succ d9 ih_lp =>
      intro s8 Z8 i9 hm hh8 hke8 hpt8 hi H locs S ls hl
      refine lv_iload_n hx hb d_Be_take_26 rfl (lv_at hl 0 rfl) ?_
      refine lv_aload_n hx hb d_Be_take_27 rfl (lv_at hl 1 rfl) ?_
      refine r_get C K S 0 rfl rfl clOk_Be 7 (by decide) wf_Be_44 (v := .int (nI tk9)) rfl d_Be_take_28 ?_
      refine z_icmp_ge (a := i9) (b := tk9) (tgt := 51) hx hb d_Be_take_31 (by decide) (by omega) (by omega) (fun hc9 => ?_) (fun hc9 => ?_)
      · refine lv_aload_n hx hb d_Be_take_51 rfl (lv_at hl 2 rfl) ?_
        refine lv_aload_n hx hb d_Be_take_52 rfl (lv_at hl 1 rfl) ?_
        refine r_get C K S 0 rfl rfl clOk_Be 7 (by decide) wf_Be_44 (v := .int (nI tk9)) rfl d_Be_take_53 ?_
        refine lv_aload_n hx hb d_Be_take_56 rfl (lv_at hl 1 rfl) ?_
        refine r_get C K S 0 rfl rfl clOk_Be 0 (by decide) wf_Be_11 (v := .ref pta) rfl d_Be_take_57 ?_
        refine lv_iconst (v := 3) hx hb d_Be_take_60 (by decide) ?_
        refine r_aald C K S 1 4 rfl rfl (i := 3) (by unfold vp_in; decide) (b := (pa 3)) rfl d_Be_take_61 ?_
        refine q_backP (wi := [(hs, .inr (1, [.ref cea, .ref roa, .ref coa, .ref ura, .ref uca, .ref au, .ref ap, .ref al, .ref ar, .ref ae, .int (nI rw9), .int (nI C9), .int (nI fs9), .int (nI tk9)])), (cea, .inl (k 4, 3731, .inr (.inr (.inr (.inr (fun j => adO (s8 j))))))), (roa, .inl (k 0, 40, .inl ro))]) (wr := [(h0, .inr (3, [.ref pta, .ref bu9, .ref bs9, .ref bf9, .ref bp9, .ref br9, .int 1, .int (nI tk9)])), (pta, .inl (k 4, 4, .inr (.inr (.inr (.inr (fun j => some (pa j)))))))]) S hA [2, 3, 4] [0, 1] rfl rfl (by decide) (by decide) (va_runVN (As := [.int (nI tk9), .ref (pa 3)]) (rest := []) ⟨hx, hb, C.2.2.1, C.2.2.2.1, C.2.2.2.2.1⟩ (g_So_tell l G k hs _ _ tk9 (3736 + 3) (pa 3) cea roa coa ura uca au ap al ar ae rw9 C9 fs9 tk9 ro N9 s8 Z8 hN ⟨hh8.1, hh8.2⟩ (hke8.at hU) (hke8.at hP) (hke8.at hL) (hke8.at hR) (hke8.at hE) hC hRw hro (by omega) (by omega) (by omega) (hke8.at (hb0 3 (by omega)))) (k_virtN (n := 2) C K wc_So_tell rfl rfl wz_So xm_Be_50 wn_So_tell ws_So_tell (by decide +kernel) ⟨(Nat.le_of_ble_eq_true rfl), (Nat.le_of_ble_eq_true rfl)⟩) (pr_nowVGP K S [2, 3, 4] (by decide) rfl (List.mem_append_left _ (List.mem_of_getElem? (i := 2) rfl)) rfl) rfl rfl hl.1 rfl (lv_room (Nat.le_of_ble_eq_true rfl)) d_Be_take_62 ⟨(show pt st N9 - pt s8 N9 + (pt s8 N9 + 400) ≤ pt st N9 + 400 from by omega), (show 2 * (pt st N9 - pt s8 N9) + (2 * pt s8 N9 + 800) ≤ 2 * pt st N9 + 800 from by omega)⟩) (fun t10 H locs hw11 S => ?_)
        have S : Sw G A s.heap _ _ ([(h0, .inr (3, [.ref pta, .ref bu9, .ref bs9, .ref bf9, .ref bp9, .ref br9, .int 1, .int (nI tk9)])), (pta, .inl (k 4, 4, .inr (.inr (.inr (.inr (fun j => some (pa j))))))), (hs, .inr (1, [.ref cea, .ref roa, .ref coa, .ref ura, .ref uca, .ref au, .ref ap, .ref al, .ref ar, .ref ae, .int (nI rw9), .int (nI C9), .int (nI fs9), .int (nI tk9)])), (cea, .inl (k 4, 3731, .inr (.inr (.inr (.inr (fun j => adO (t10.1 j))))))), (roa, .inl (k 0, 40, .inl ro))] ++ (tpl k t10.1 N9)) := S
        have hw11 : hO t10.1 t10.2 ∧ keO s8 t10.1 ∧ pt t10.1 N9 ≤ pt s8 N9 := hw11
        show W p l e _ s m _ below meth c H locs _ _ _ (F0 m 65 ls [])
        obtain ⟨hh12, ke13, pt14⟩ := hw11
        exact q_vret C K hsz (t10.1, t10.2) (show hO t10.1 t10.2 ∧ keO st t10.1 ∧ pt t10.1 N9 ≤ pt st N9 from ⟨⟨hh12.1, hh12.2⟩, (hke8.tr ke13), by omega⟩) (S.subP [0, 1, 2, 3, 4] (by decide) rfl) d_Be_take_65 (show pt st N9 - pt s8 N9 + (pt s8 N9 - pt t10.1 N9) ≤ pt st N9 - pt t10.1 N9 from by omega) (show 2 * (pt st N9 - pt s8 N9) + (2 * (pt s8 N9 - pt t10.1 N9)) ≤ 2 * (pt st N9 - pt t10.1 N9) from by omega) (show pt st N9 - pt s8 N9 + (pt s8 N9 - pt t10.1 N9) ≤ pt st N9 + 400 from by omega) (show 2 * (pt st N9 - pt s8 N9) + (2 * (pt s8 N9 - pt t10.1 N9)) ≤ 2 * pt st N9 + 800 from by omega)
      · refine lv_aload_n hx hb d_Be_take_34 rfl (lv_at hl 2 rfl) ?_
        refine lv_iload_n hx hb d_Be_take_35 rfl (lv_at hl 0 rfl) ?_
        refine lv_aload_n hx hb d_Be_take_36 rfl (lv_at hl 1 rfl) ?_
        refine r_get C K S 0 rfl rfl clOk_Be 0 (by decide) wf_Be_11 (v := .ref pta) rfl d_Be_take_37 ?_
        refine lv_iload_n hx hb d_Be_take_40 rfl (lv_at hl 0 rfl) ?_
        refine r_aald C K S 1 4 rfl rfl (i := nI i9) (show vp_in (nI i9) _ from vp_in_nI (n := i9) (by omega) (by decide)) (b := (pa i9)) (by rw [nI_clamp (by omega)]) d_Be_take_41 ?_
        refine q_backP (wi := [(hs, .inr (1, [.ref cea, .ref roa, .ref coa, .ref ura, .ref uca, .ref au, .ref ap, .ref al, .ref ar, .ref ae, .int (nI rw9), .int (nI C9), .int (nI fs9), .int (nI tk9)])), (cea, .inl (k 4, 3731, .inr (.inr (.inr (.inr (fun j => adO (s8 j))))))), (roa, .inl (k 0, 40, .inl ro))]) (wr := [(h0, .inr (3, [.ref pta, .ref bu9, .ref bs9, .ref bf9, .ref bp9, .ref br9, .int 1, .int (nI tk9)])), (pta, .inl (k 4, 4, .inr (.inr (.inr (.inr (fun j => some (pa j)))))))]) S hA [2, 3, 4] [0, 1] rfl rfl (by decide) (by decide) (va_runVN (As := [.int (nI i9), .ref (pa i9)]) (rest := []) ⟨hx, hb, C.2.2.1, C.2.2.2.1, C.2.2.2.2.1⟩ (g_So_tell l G k hs _ _ i9 (3736 + i9) (pa i9) cea roa coa ura uca au ap al ar ae rw9 C9 fs9 tk9 ro N9 s8 Z8 hN ⟨hh8.1, hh8.2⟩ (hke8.at hU) (hke8.at hP) (hke8.at hL) (hke8.at hR) (hke8.at hE) hC hRw hro (by omega) (by omega) (by omega) (hke8.at (hb0 i9 (by omega)))) (k_virtN (n := 2) C K wc_So_tell rfl rfl wz_So xm_Be_50 wn_So_tell ws_So_tell (by decide +kernel) ⟨(Nat.le_of_ble_eq_true rfl), (Nat.le_of_ble_eq_true rfl)⟩) (pr_nowVGP K S [2, 3, 4] (by decide) rfl (List.mem_append_left _ (List.mem_of_getElem? (i := 2) rfl)) rfl) rfl rfl hl.1 rfl (lv_room (Nat.le_of_ble_eq_true rfl)) d_Be_take_42 ⟨(show pt st N9 - pt s8 N9 + (pt s8 N9 + 400) ≤ pt st N9 + 400 from by omega), (show 2 * (pt st N9 - pt s8 N9) + (2 * pt s8 N9 + 800) ≤ 2 * pt st N9 + 800 from by omega)⟩) (fun t15 H locs hw16 S => ?_)
        have S : Sw G A s.heap _ _ ([(h0, .inr (3, [.ref pta, .ref bu9, .ref bs9, .ref bf9, .ref bp9, .ref br9, .int 1, .int (nI tk9)])), (pta, .inl (k 4, 4, .inr (.inr (.inr (.inr (fun j => some (pa j))))))), (hs, .inr (1, [.ref cea, .ref roa, .ref coa, .ref ura, .ref uca, .ref au, .ref ap, .ref al, .ref ar, .ref ae, .int (nI rw9), .int (nI C9), .int (nI fs9), .int (nI tk9)])), (cea, .inl (k 4, 3731, .inr (.inr (.inr (.inr (fun j => adO (t15.1 j))))))), (roa, .inl (k 0, 40, .inl ro))] ++ (tpl k t15.1 N9)) := S
        have hw16 : hO t15.1 t15.2 ∧ keO s8 t15.1 ∧ pt t15.1 N9 ≤ pt s8 N9 := hw16
        show W p l e _ s m _ below meth c H locs _ _ _ (F0 m 45 ls [])
        obtain ⟨hh17, ke18, pt19⟩ := hw16
        refine lv_iinc (v := nI (i9 + 1)) (lv' := [(2, .int (nI (i9 + 1))), (0, .ref h0), (1, .ref hs)]) hx hb d_Be_take_45 hl (k := 0) rfl (show nI i9 + Int32.ofInt 1 = nI (i9 + 1) from (nI_add i9 1).trans (congrArg nI (by omega))) (by decide) rfl (fun ls hl => ?_)
        refine lv_goto (tgt := 26) hx hb d_Be_take_48 (by decide) ?_
        refine W.widen (show pt st N9 - pt s8 N9 + (pt s8 N9 - pt t15.1 N9) ≤ pt st N9 - pt t15.1 N9 from by omega) (show 2 * (pt st N9 - pt s8 N9) + (2 * (pt s8 N9 - pt t15.1 N9)) ≤ 2 * (pt st N9 - pt t15.1 N9) from by omega) ?_
        exact ih_lp t15.1 t15.2 (i9 + 1) (by omega) ⟨hh17.1, hh17.2⟩ (hke8.tr ke18) (by omega) (by omega) _ _ (S.subP [0, 1, 2, 3, 4] (by decide) rfl) ls (lv_sub hl [0, 1, 2] rfl)
  exact lp _ st2 (va_up Z 3740 (Z 3731)) 0 (Nat.lt_succ_self _) ⟨hh8.1, hh8.2⟩ ke5 (by omega) (by omega) _ _ (S.subP [0, 1, 2, 3, 4] (by decide) rfl) ls (lv_sub hl [0, 1, 2] rfl)
