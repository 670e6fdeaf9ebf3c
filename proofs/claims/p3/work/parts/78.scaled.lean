/-- the cells that hold the best bounds are not large -/
def solO (n rows : Nat) (T : Nat → Int) : Prop := n ≤ 3 ∧ rows ≤ 90 ∧ 0 < T 3997 ∧ (T 3997).natAbs < 65536 ^ 42 ∧ ∀ i, i ≤ n → (T (42 * (rows + 1 + i) + 41)).natAbs < 65536 ^ 42
theorem ba_cases (xi : Int32) {n : Nat} (hn : n ≤ 3) : (∃ v, v < n ∧ xi = nI v) ∨ xi = 3 ∨ ((xi < 0 ∨ nI n ≤ xi) ∧ xi ≠ 3) := by
  by_cases q : xi = 3
  · exact Or.inr (Or.inl q)
  · by_cases q1 : xi < 0
    · exact Or.inr (Or.inr ⟨Or.inl q1, q⟩)
    · by_cases q2 : xi < nI n
      · exact Or.inl ⟨xi.toNatClampNeg, nn_lt q1 (by omega) q2, (nn_of q1).symm⟩
      · exact Or.inr (Or.inr ⟨Or.inr (Int32.not_lt.mp q2), q⟩)
theorem l1sh : ∀ kk, kk < 41 → -9223372036854775808 < ((1 : Int64) <<< ((nI kk).toInt64 &&& 63)).toInt ∧ ((1 : Int64) <<< ((nI kk).toInt64 &&& 63)).toInt.natAbs < 65536 ^ 4 := by decide +kernel
theorem k_le40 {k9 : Int32} (h1 : ¬ k9 < 0) (h2 : ¬ 40 < k9) : ∃ kk, kk < 41 ∧ k9 = nI kk := by
  refine ⟨k9.toNatClampNeg, ?_, (nn_of h1).symm⟩
  rw [Int32.lt_iff_toInt_lt, show (0 : Int32).toInt = 0 by decide] at h1
  rw [Int32.lt_iff_toInt_lt, show (40 : Int32).toInt = 40 by decide] at h2
  have h4 : k9.toNatClampNeg = k9.toInt.toNat := rfl
  omega
theorem d_Mo_boundAt_0 : decode c_Mo_boundAt 0 = .ok (.aload_n 0, 1) := by decide +kernel
theorem d_Mo_boundAt_1 : decode c_Mo_boundAt 1 = .ok (.getfield 9, 3) := by decide +kernel
theorem d_Mo_boundAt_4 : decode c_Mo_boundAt 4 = .ok (.aload_n 0, 1) := by decide +kernel
theorem d_Mo_boundAt_5 : decode c_Mo_boundAt 5 = .ok (.getfield 392, 3) := by decide +kernel
theorem d_Mo_boundAt_8 : decode c_Mo_boundAt 8 = .ok (.iaload, 1) := by decide +kernel
theorem d_Mo_boundAt_9 : decode c_Mo_boundAt 9 = .ok (.istore_n 2, 1) := by decide +kernel
theorem d_Mo_boundAt_10 : decode c_Mo_boundAt 10 = .ok (.iload_n 1, 1) := by decide +kernel
theorem d_Mo_boundAt_11 : decode c_Mo_boundAt 11 = .ok (.ifCond .lt 24, 3) := by decide +kernel
theorem d_Mo_boundAt_14 : decode c_Mo_boundAt 14 = .ok (.iload_n 1, 1) := by decide +kernel
theorem d_Mo_boundAt_15 : decode c_Mo_boundAt 15 = .ok (.iload_n 2, 1) := by decide +kernel
theorem d_Mo_boundAt_16 : decode c_Mo_boundAt 16 = .ok (.if_icmp .ge 19, 3) := by decide +kernel
theorem d_Mo_boundAt_19 : decode c_Mo_boundAt 19 = .ok (.aload_n 0, 1) := by decide +kernel
theorem d_Mo_boundAt_20 : decode c_Mo_boundAt 20 = .ok (.getfield 333, 3) := by decide +kernel
theorem d_Mo_boundAt_23 : decode c_Mo_boundAt 23 = .ok (.iconst 1, 1) := by decide +kernel
theorem d_Mo_boundAt_24 : decode c_Mo_boundAt 24 = .ok (.iadd, 1) := by decide +kernel
theorem d_Mo_boundAt_25 : decode c_Mo_boundAt 25 = .ok (.iload_n 1, 1) := by decide +kernel
theorem d_Mo_boundAt_26 : decode c_Mo_boundAt 26 = .ok (.iadd, 1) := by decide +kernel
theorem d_Mo_boundAt_27 : decode c_Mo_boundAt 27 = .ok (.bipush 41, 2) := by decide +kernel
theorem d_Mo_boundAt_29 : decode c_Mo_boundAt 29 = .ok (.invokestatic 328, 3) := by decide +kernel
theorem d_Mo_boundAt_32 : decode c_Mo_boundAt 32 = .ok (.goto 25, 3) := by decide +kernel
theorem d_Mo_boundAt_35 : decode c_Mo_boundAt 35 = .ok (.iload_n 1, 1) := by decide +kernel
theorem d_Mo_boundAt_36 : decode c_Mo_boundAt 36 = .ok (.iconst 3, 1) := by decide +kernel
theorem d_Mo_boundAt_37 : decode c_Mo_boundAt 37 = .ok (.if_icmp .ne 19, 3) := by decide +kernel
theorem d_Mo_boundAt_40 : decode c_Mo_boundAt 40 = .ok (.aload_n 0, 1) := by decide +kernel
theorem d_Mo_boundAt_41 : decode c_Mo_boundAt 41 = .ok (.getfield 333, 3) := by decide +kernel
theorem d_Mo_boundAt_44 : decode c_Mo_boundAt 44 = .ok (.iconst 1, 1) := by decide +kernel
theorem d_Mo_boundAt_45 : decode c_Mo_boundAt 45 = .ok (.iadd, 1) := by decide +kernel
theorem d_Mo_boundAt_46 : decode c_Mo_boundAt 46 = .ok (.iload_n 2, 1) := by decide +kernel
theorem d_Mo_boundAt_47 : decode c_Mo_boundAt 47 = .ok (.iadd, 1) := by decide +kernel
theorem d_Mo_boundAt_48 : decode c_Mo_boundAt 48 = .ok (.bipush 41, 2) := by decide +kernel
theorem d_Mo_boundAt_50 : decode c_Mo_boundAt 50 = .ok (.invokestatic 328, 3) := by decide +kernel
theorem d_Mo_boundAt_53 : decode c_Mo_boundAt 53 = .ok (.goto 4, 3) := by decide +kernel
theorem d_Mo_boundAt_56 : decode c_Mo_boundAt 56 = .ok (.iconst (-1), 1) := by decide +kernel
theorem d_Mo_boundAt_57 : decode c_Mo_boundAt 57 = .ok (.ireturn, 1) := by decide +kernel
set_option maxRecDepth 100000 in
set_option maxHeartbeats 16000000 in
/-- Mo_boundAt_i -/
theorem g_Mo_boundAt_i (l : Launch) (G : va_G) (k : Nat → ClassId) (h0 : Nat) (s0 : Nat) (v9 : Nat) (sv9 : Nat) (bf : Nat) (rows : Nat) (ma : Nat → Nat) (iv : Nat → Int32) (co : Int64) (tk : Nat → Nat) (hbf : bf < 4) (hn : tk bf ≤ 3) (hro : rows ≤ 90) (hv : v9 < tk bf) : CI l y_Mo_boundAt c_Mo_boundAt 3 .int { frames := 1, cells := 0, slots := 0, locals := 21 } [.ref h0, .int (nI v9)] G k s0 [(h0, .inr (8, moL ma (va_up (va_up (va_up iv 26 (nI sv9)) 27 (nI bf)) 24 (nI rows)) co)), ((ma 0), .inl (k 0, 4, .inl (fun i => nI (tk i))))] (fun (r : Int32) (u : Unit) => r = nI (42 * (rows + 1 + v9) + 41) ∧ True) (fun u => [(h0, .inr (8, moL ma (va_up (va_up (va_up iv 26 (nI sv9)) 27 (nI bf)) 24 (nI rows)) co)), ((ma 0), .inl (k 0, 4, .inl (fun i => nI (tk i))))]) 0 0 := by
  refine met_start (by decide) (Nat.le_of_ble_eq_true rfl) ?_
  intro p e s m below meth c C K hA hsz S ls hl
  generalize va_A [(h0, .inr (8, moL ma (va_up (va_up (va_up iv 26 (nI sv9)) 27 (nI bf)) 24 (nI rows)) co)), ((ma 0), .inl (k 0, 4, .inl (fun i => nI (tk i))))] s0 = A at hA S ⊢
  have hx := C.1
  have hb := C.2.1
  have hl : lv_has ls 3 [(0, .ref h0), (1, .int (nI v9))] := hl
  refine lv_aload_n hx hb d_Mo_boundAt_0 rfl (lv_at hl 0 rfl) ?_
  refine r_get C K S 0 rfl rfl clOk_Mo 1 (by decide) wf_Mo_9 (v := .ref (ma 0)) rfl d_Mo_boundAt_1 ?_
  refine lv_aload_n hx hb d_Mo_boundAt_4 rfl (lv_at hl 0 rfl) ?_
  refine r_get C K S 0 rfl rfl clOk_Mo 58 (by decide) wf_Mo_392 (v := .int (nI bf)) rfl d_Mo_boundAt_5 ?_
  refine r_iald C K S 1 rfl (i := nI bf) (show vp_in (nI bf) _ from vp_in_nI (n := bf) (by omega) (by decide)) (v := nI (tk bf)) (by rw [nI_clamp (by omega)]) d_Mo_boundAt_8 ?_
  refine lv_istore_n (lv' := [(2, .int (nI (tk bf))), (0, .ref h0), (1, .int (nI v9))]) hx hb d_Mo_boundAt_9 rfl hl (by decide) rfl (fun ls hl => ?_)
  refine lv_iload_n hx hb d_Mo_boundAt_10 rfl (lv_at hl 2 rfl) ?_
  refine z_if_lt (a := v9) (tgt := 35) hx hb d_Mo_boundAt_11 (by decide) (by omega) ?_
  refine lv_iload_n hx hb d_Mo_boundAt_14 rfl (lv_at hl 2 rfl) ?_
  refine lv_iload_n hx hb d_Mo_boundAt_15 rfl (lv_at hl 0 rfl) ?_
  refine z_icmp_ge (a := v9) (b := (tk bf)) (tgt := 35) hx hb d_Mo_boundAt_16 (by decide) (by omega) (by omega) (fun hc1 => False.elim (by omega)) (fun hc1 => ?_)
  refine lv_aload_n hx hb d_Mo_boundAt_19 rfl (lv_at hl 1 rfl) ?_
  refine r_get C K S 0 rfl rfl clOk_Mo 53 (by decide) wf_Mo_333 (v := .int (nI rows)) rfl d_Mo_boundAt_20 ?_
  refine lv_iconst (v := 1) hx hb d_Mo_boundAt_23 (by decide) ?_
  refine z_iadd (x := nI rows) (y := 1) (v := nI (rows + 1)) hx hb d_Mo_boundAt_24 (nI_add rows 1) ?_
  refine lv_iload_n hx hb d_Mo_boundAt_25 rfl (lv_at hl 2 rfl) ?_
  refine z_iadd (x := nI (rows + 1)) (y := nI v9) (v := nI (rows + 1 + v9)) hx hb d_Mo_boundAt_26 (nI_add (rows + 1) v9) ?_
  refine lv_bipush (v := 41) hx hb d_Mo_boundAt_27 (by decide) ?_
  refine r_backi (wi := []) (wr := [(h0, .inr (8, moL ma (va_up (va_up (va_up iv 26 (nI sv9)) 27 (nI bf)) 24 (nI rows)) co)), ((ma 0), .inl (k 0, 4, .inl (fun i => nI (tk i))))]) S hA [] [0, 1] rfl rfl (by decide) (by decide) (va_runS (As := [.int (nI (rows + 1 + v9)), .int 41]) (rest := []) ⟨hx, hb, C.2.2.1, C.2.2.2.1, C.2.2.2.2.1⟩ (g_Mo_at l G k _ (rows + 1 + v9) 41) (k_stat (n := 2) C wc_Mo_at rfl rfl wz_Mo wm_Mo_328 wt_Mo_at (by decide +kernel) ⟨(Nat.le_of_ble_eq_true rfl), (Nat.le_of_ble_eq_true rfl)⟩) (pr_now K S [] (by decide) rfl) rfl rfl hl.1 rfl (lv_room (Nat.le_of_ble_eq_true rfl)) d_Mo_boundAt_29 ⟨(Nat.le_of_ble_eq_true rfl), (Nat.le_of_ble_eq_true rfl)⟩) (fun r4 u2 H locs hw3 S => ?_)
  have S : Sw G A s.heap _ _ [(h0, .inr (8, moL ma (va_up (va_up (va_up iv 26 (nI sv9)) 27 (nI bf)) 24 (nI rows)) co)), ((ma 0), .inl (k 0, 4, .inl (fun i => nI (tk i))))] := S
  obtain rfl : r4 = nI (42 * (rows + 1 + v9) + 41) := hw3
  refine lv_goto (tgt := 57) hx hb d_Mo_boundAt_32 (by decide) ?_
  exact r_iret C K rfl () ⟨rfl, trivial⟩ (S.sub [0, 1] (by decide) rfl) d_Mo_boundAt_57 (Nat.le_of_ble_eq_true rfl) (Nat.le_of_ble_eq_true rfl)
set_option maxRecDepth 100000 in
set_option maxHeartbeats 16000000 in
/-- Mo_boundAt_3 -/
theorem g_Mo_boundAt_3 (l : Launch) (G : va_G) (k : Nat → ClassId) (h0 : Nat) (s0 : Nat) (sv9 : Nat) (bf : Nat) (rows : Nat) (ma : Nat → Nat) (iv : Nat → Int32) (co : Int64) (tk : Nat → Nat) (hbf : bf < 4) (hn : tk bf ≤ 3) (hro : rows ≤ 90) : CI l y_Mo_boundAt c_Mo_boundAt 3 .int { frames := 1, cells := 0, slots := 0, locals := 21 } [.ref h0, .int 3] G k s0 [(h0, .inr (8, moL ma (va_up (va_up (va_up iv 26 (nI sv9)) 27 (nI bf)) 24 (nI rows)) co)), ((ma 0), .inl (k 0, 4, .inl (fun i => nI (tk i))))] (fun (r : Int32) (u : Unit) => r = nI (42 * (rows + 1 + tk bf) + 41) ∧ True) (fun u => [(h0, .inr (8, moL ma (va_up (va_up (va_up iv 26 (nI sv9)) 27 (nI bf)) 24 (nI rows)) co)), ((ma 0), .inl (k 0, 4, .inl (fun i => nI (tk i))))]) 0 0 := by
  refine met_start (by decide) (Nat.le_of_ble_eq_true rfl) ?_
  intro p e s m below meth c C K hA hsz S ls hl
  generalize va_A [(h0, .inr (8, moL ma (va_up (va_up (va_up iv 26 (nI sv9)) 27 (nI bf)) 24 (nI rows)) co)), ((ma 0), .inl (k 0, 4, .inl (fun i => nI (tk i))))] s0 = A at hA S ⊢
  have hx := C.1
  have hb := C.2.1
  have hl : lv_has ls 3 [(0, .ref h0), (1, .int 3)] := hl
  refine lv_aload_n hx hb d_Mo_boundAt_0 rfl (lv_at hl 0 rfl) ?_
  refine r_get C K S 0 rfl rfl clOk_Mo 1 (by decide) wf_Mo_9 (v := .ref (ma 0)) rfl d_Mo_boundAt_1 ?_
  refine lv_aload_n hx hb d_Mo_boundAt_4 rfl (lv_at hl 0 rfl) ?_
  refine r_get C K S 0 rfl rfl clOk_Mo 58 (by decide) wf_Mo_392 (v := .int (nI bf)) rfl d_Mo_boundAt_5 ?_
  refine r_iald C K S 1 rfl (i := nI bf) (show vp_in (nI bf) _ from vp_in_nI (n := bf) (by omega) (by decide)) (v := nI (tk bf)) (by rw [nI_clamp (by omega)]) d_Mo_boundAt_8 ?_
  refine lv_istore_n (lv' := [(2, .int (nI (tk bf))), (0, .ref h0), (1, .int 3)]) hx hb d_Mo_boundAt_9 rfl hl (by decide) rfl (fun ls hl => ?_)
  refine lv_iload_n hx hb d_Mo_boundAt_10 rfl (lv_at hl 2 rfl) ?_
  refine lv_if_lt (tgt := 35) hx hb d_Mo_boundAt_11 (by decide) (fun hq => absurd hq (by decide)) (fun _ => ?_)
  refine lv_iload_n hx hb d_Mo_boundAt_14 rfl (lv_at hl 2 rfl) ?_
  refine lv_iload_n hx hb d_Mo_boundAt_15 rfl (lv_at hl 0 rfl) ?_
  refine z_icmp_ge (a := 3) (b := (tk bf)) (tgt := 35) hx hb d_Mo_boundAt_16 (by decide) (by omega) (by omega) (fun hc1 => ?_) (fun hc1 => False.elim (by omega))
  refine lv_iload_n hx hb d_Mo_boundAt_35 rfl (lv_at hl 2 rfl) ?_
  refine lv_iconst (v := 3) hx hb d_Mo_boundAt_36 (by decide) ?_
  refine lv_icmp_ne (tgt := 56) hx hb d_Mo_boundAt_37 (by decide) (fun hq => absurd (by decide) hq) (fun _ => ?_)
  refine lv_aload_n hx hb d_Mo_boundAt_40 rfl (lv_at hl 1 rfl) ?_
  refine r_get C K S 0 rfl rfl clOk_Mo 53 (by decide) wf_Mo_333 (v := .int (nI rows)) rfl d_Mo_boundAt_41 ?_
  refine lv_iconst (v := 1) hx hb d_Mo_boundAt_44 (by decide) ?_
  refine z_iadd (x := nI rows) (y := 1) (v := nI (rows + 1)) hx hb d_Mo_boundAt_45 (nI_add rows 1) ?_
  refine lv_iload_n hx hb d_Mo_boundAt_46 rfl (lv_at hl 0 rfl) ?_
  refine z_iadd (x := nI (rows + 1)) (y := nI (tk bf)) (v := nI (rows + 1 + tk bf)) hx hb d_Mo_boundAt_47 (nI_add (rows + 1) (tk bf)) ?_
  refine lv_bipush (v := 41) hx hb d_Mo_boundAt_48 (by decide) ?_
  refine r_backi (wi := []) (wr := [(h0, .inr (8, moL ma (va_up (va_up (va_up iv 26 (nI sv9)) 27 (nI bf)) 24 (nI rows)) co)), ((ma 0), .inl (k 0, 4, .inl (fun i => nI (tk i))))]) S hA [] [0, 1] rfl rfl (by decide) (by decide) (va_runS (As := [.int (nI (rows + 1 + tk bf)), .int 41]) (rest := []) ⟨hx, hb, C.2.2.1, C.2.2.2.1, C.2.2.2.2.1⟩ (g_Mo_at l G k _ (rows + 1 + tk bf) 41) (k_stat (n := 2) C wc_Mo_at rfl rfl wz_Mo wm_Mo_328 wt_Mo_at (by decide +kernel) ⟨(Nat.le_of_ble_eq_true rfl), (Nat.le_of_ble_eq_true rfl)⟩) (pr_now K S [] (by decide) rfl) rfl rfl hl.1 rfl (lv_room (Nat.le_of_ble_eq_true rfl)) d_Mo_boundAt_50 ⟨(Nat.le_of_ble_eq_true rfl), (Nat.le_of_ble_eq_true rfl)⟩) (fun r4 u2 H locs hw3 S => ?_)
  have S : Sw G A s.heap _ _ [(h0, .inr (8, moL ma (va_up (va_up (va_up iv 26 (nI sv9)) 27 (nI bf)) 24 (nI rows)) co)), ((ma 0), .inl (k 0, 4, .inl (fun i => nI (tk i))))] := S
  obtain rfl : r4 = nI (42 * (rows + 1 + tk bf) + 41) := hw3
  refine lv_goto (tgt := 57) hx hb d_Mo_boundAt_53 (by decide) ?_
  exact r_iret C K rfl () ⟨rfl, trivial⟩ (S.sub [0, 1] (by decide) rfl) d_Mo_boundAt_57 (Nat.le_of_ble_eq_true rfl) (Nat.le_of_ble_eq_true rfl)
set_option maxRecDepth 100000 in
set_option maxHeartbeats 16000000 in
/-- Mo_boundAt_no -/
theorem g_Mo_boundAt_no (l : Launch) (G : va_G) (k : Nat → ClassId) (h0 : Nat) (s0 : Nat) (xi : Int32) (sv9 : Nat) (bf : Nat) (rows : Nat) (ma : Nat → Nat) (iv : Nat → Int32) (co : Int64) (tk : Nat → Nat) (hbf : bf < 4) (hn : tk bf ≤ 3) (hro : rows ≤ 90) (hv : (xi < 0 ∨ nI (tk bf) ≤ xi) ∧ xi ≠ 3) : CI l y_Mo_boundAt c_Mo_boundAt 3 .int { frames := 1, cells := 0, slots := 0, locals := 21 } [.ref h0, .int xi] G k s0 [(h0, .inr (8, moL ma (va_up (va_up (va_up iv 26 (nI sv9)) 27 (nI bf)) 24 (nI rows)) co)), ((ma 0), .inl (k 0, 4, .inl (fun i => nI (tk i))))] (fun (r : Int32) (u : Unit) => r = -1 ∧ True) (fun u => [(h0, .inr (8, moL ma (va_up (va_up (va_up iv 26 (nI sv9)) 27 (nI bf)) 24 (nI rows)) co)), ((ma 0), .inl (k 0, 4, .inl (fun i => nI (tk i))))]) 0 0 := by
  refine met_start (by decide) (Nat.le_of_ble_eq_true rfl) ?_
  intro p e s m below meth c C K hA hsz S ls hl
  generalize va_A [(h0, .inr (8, moL ma (va_up (va_up (va_up iv 26 (nI sv9)) 27 (nI bf)) 24 (nI rows)) co)), ((ma 0), .inl (k 0, 4, .inl (fun i => nI (tk i))))] s0 = A at hA S ⊢
  have hx := C.1
  have hb := C.2.1
  have hl : lv_has ls 3 [(0, .ref h0), (1, .int xi)] := hl
  refine lv_aload_n hx hb d_Mo_boundAt_0 rfl (lv_at hl 0 rfl) ?_
  refine r_get C K S 0 rfl rfl clOk_Mo 1 (by decide) wf_Mo_9 (v := .ref (ma 0)) rfl d_Mo_boundAt_1 ?_
  refine lv_aload_n hx hb d_Mo_boundAt_4 rfl (lv_at hl 0 rfl) ?_
  refine r_get C K S 0 rfl rfl clOk_Mo 58 (by decide) wf_Mo_392 (v := .int (nI bf)) rfl d_Mo_boundAt_5 ?_
  refine r_iald C K S 1 rfl (i := nI bf) (show vp_in (nI bf) _ from vp_in_nI (n := bf) (by omega) (by decide)) (v := nI (tk bf)) (by rw [nI_clamp (by omega)]) d_Mo_boundAt_8 ?_
  refine lv_istore_n (lv' := [(2, .int (nI (tk bf))), (0, .ref h0), (1, .int xi)]) hx hb d_Mo_boundAt_9 rfl hl (by decide) rfl (fun ls hl => ?_)
  refine lv_iload_n hx hb d_Mo_boundAt_10 rfl (lv_at hl 2 rfl) ?_
  refine lv_if_lt (tgt := 35) hx hb d_Mo_boundAt_11 (by decide) (fun hc1 => ?_) (fun hc1 => ?_)
  · refine lv_iload_n hx hb d_Mo_boundAt_35 rfl (lv_at hl 2 rfl) ?_
    refine lv_iconst (v := 3) hx hb d_Mo_boundAt_36 (by decide) ?_
    refine lv_icmp_ne (tgt := 56) hx hb d_Mo_boundAt_37 (by decide) (fun hc2 => ?_) (fun hc2 => ?_)
    · refine lv_iconst (v := (-1)) hx hb d_Mo_boundAt_56 (by decide) ?_
      exact r_iret C K rfl () ⟨rfl, trivial⟩ (S.sub [0, 1] (by decide) rfl) d_Mo_boundAt_57 (Nat.le_of_ble_eq_true rfl) (Nat.le_of_ble_eq_true rfl)
    · refine lv_aload_n hx hb d_Mo_boundAt_40 rfl (lv_at hl 1 rfl) ?_
      refine r_get C K S 0 rfl rfl clOk_Mo 53 (by decide) wf_Mo_333 (v := .int (nI rows)) rfl d_Mo_boundAt_41 ?_
      refine lv_iconst (v := 1) hx hb d_Mo_boundAt_44 (by decide) ?_
      refine z_iadd (x := nI rows) (y := 1) (v := nI (rows + 1)) hx hb d_Mo_boundAt_45 (nI_add rows 1) ?_
      refine lv_iload_n hx hb d_Mo_boundAt_46 rfl (lv_at hl 0 rfl) ?_
      refine z_iadd (x := nI (rows + 1)) (y := nI (tk bf)) (v := nI (rows + 1 + tk bf)) hx hb d_Mo_boundAt_47 (nI_add (rows + 1) (tk bf)) ?_
      refine lv_bipush (v := 41) hx hb d_Mo_boundAt_48 (by decide) ?_
      refine r_backi (wi := []) (wr := [(h0, .inr (8, moL ma (va_up (va_up (va_up iv 26 (nI sv9)) 27 (nI bf)) 24 (nI rows)) co)), ((ma 0), .inl (k 0, 4, .inl (fun i => nI (tk i))))]) S hA [] [0, 1] rfl rfl (by decide) (by decide) (va_runS (As := [.int (nI (rows + 1 + tk bf)), .int 41]) (rest := []) ⟨hx, hb, C.2.2.1, C.2.2.2.1, C.2.2.2.2.1⟩ (g_Mo_at l G k _ (rows + 1 + tk bf) 41) (k_stat (n := 2) C wc_Mo_at rfl rfl wz_Mo wm_Mo_328 wt_Mo_at (by decide +kernel) ⟨(Nat.le_of_ble_eq_true rfl), (Nat.le_of_ble_eq_true rfl)⟩) (pr_now K S [] (by decide) rfl) rfl rfl hl.1 rfl (lv_room (Nat.le_of_ble_eq_true rfl)) d_Mo_boundAt_50 ⟨(Nat.le_of_ble_eq_true rfl), (Nat.le_of_ble_eq_true rfl)⟩) (fun r5 u3 H locs hw4 S => ?_)
      have S : Sw G A s.heap _ _ [(h0, .inr (8, moL ma (va_up (va_up (va_up iv 26 (nI sv9)) 27 (nI bf)) 24 (nI rows)) co)), ((ma 0), .inl (k 0, 4, .inl (fun i => nI (tk i))))] := S
      obtain rfl : r5 = nI (42 * (rows + 1 + tk bf) + 41) := hw4
      refine lv_goto (tgt := 57) hx hb d_Mo_boundAt_53 (by decide) ?_
      exact absurd hc2 hv.2
  · refine lv_iload_n hx hb d_Mo_boundAt_14 rfl (lv_at hl 2 rfl) ?_
    refine lv_iload_n hx hb d_Mo_boundAt_15 rfl (lv_at hl 0 rfl) ?_
    refine lv_icmp_ge (tgt := 35) hx hb d_Mo_boundAt_16 (by decide) (fun hc7 => ?_) (fun hc7 => ?_)
    · refine lv_iload_n hx hb d_Mo_boundAt_35 rfl (lv_at hl 2 rfl) ?_
      refine lv_iconst (v := 3) hx hb d_Mo_boundAt_36 (by decide) ?_
      refine lv_icmp_ne (tgt := 56) hx hb d_Mo_boundAt_37 (by decide) (fun hc8 => ?_) (fun hc8 => ?_)
      · refine lv_iconst (v := (-1)) hx hb d_Mo_boundAt_56 (by decide) ?_
        exact r_iret C K rfl () ⟨rfl, trivial⟩ (S.sub [0, 1] (by decide) rfl) d_Mo_boundAt_57 (Nat.le_of_ble_eq_true rfl) (Nat.le_of_ble_eq_true rfl)
      · refine lv_aload_n hx hb d_Mo_boundAt_40 rfl (lv_at hl 1 rfl) ?_
        refine r_get C K S 0 rfl rfl clOk_Mo 53 (by decide) wf_Mo_333 (v := .int (nI rows)) rfl d_Mo_boundAt_41 ?_
        refine lv_iconst (v := 1) hx hb d_Mo_boundAt_44 (by decide) ?_
        refine z_iadd (x := nI rows) (y := 1) (v := nI (rows + 1)) hx hb d_Mo_boundAt_45 (nI_add rows 1) ?_
        refine lv_iload_n hx hb d_Mo_boundAt_46 rfl (lv_at hl 0 rfl) ?_
        refine z_iadd (x := nI (rows + 1)) (y := nI (tk bf)) (v := nI (rows + 1 + tk bf)) hx hb d_Mo_boundAt_47 (nI_add (rows + 1) (tk bf)) ?_
        refine lv_bipush (v := 41) hx hb d_Mo_boundAt_48 (by decide) ?_
        refine r_backi (wi := []) (wr := [(h0, .inr (8, moL ma (va_up (va_up (va_up iv 26 (nI sv9)) 27 (nI bf)) 24 (nI rows)) co)), ((ma 0), .inl (k 0, 4, .inl (fun i => nI (tk i))))]) S hA [] [0, 1] rfl rfl (by decide) (by decide) (va_runS (As := [.int (nI (rows + 1 + tk bf)), .int 41]) (rest := []) ⟨hx, hb, C.2.2.1, C.2.2.2.1, C.2.2.2.2.1⟩ (g_Mo_at l G k _ (rows + 1 + tk bf) 41) (k_stat (n := 2) C wc_Mo_at rfl rfl wz_Mo wm_Mo_328 wt_Mo_at (by decide +kernel) ⟨(Nat.le_of_ble_eq_true rfl), (Nat.le_of_ble_eq_true rfl)⟩) (pr_now K S [] (by decide) rfl) rfl rfl hl.1 rfl (lv_room (Nat.le_of_ble_eq_true rfl)) d_Mo_boundAt_50 ⟨(Nat.le_of_ble_eq_true rfl), (Nat.le_of_ble_eq_true rfl)⟩) (fun r11 u9 H locs hw10 S => ?_)
        have S : Sw G A s.heap _ _ [(h0, .inr (8, moL ma (va_up (va_up (va_up iv 26 (nI sv9)) 27 (nI bf)) 24 (nI rows)) co)), ((ma 0), .inl (k 0, 4, .inl (fun i => nI (tk i))))] := S
        obtain rfl : r11 = nI (42 * (rows + 1 + tk bf) + 41) := hw10
        refine lv_goto (tgt := 57) hx hb d_Mo_boundAt_53 (by decide) ?_
        exact absurd hc8 hv.2
    · exact hv.1.elim (fun q => absurd q hc1) (fun q => absurd q hc7)
theorem d_Mo_scaled_0 : decode c_Mo_scaled 0 = .ok (.aload_n 0, 1) := by decide +kernel
theorem d_Mo_scaled_1 : decode c_Mo_scaled 1 = .ok (.getfield 383, 3) := by decide +kernel
theorem d_Mo_scaled_4 : decode c_Mo_scaled 4 = .ok (.ifCond .eq 21, 3) := by decide +kernel
theorem d_Mo_scaled_7 : decode c_Mo_scaled 7 = .ok (.iload_n 2, 1) := by decide +kernel
theorem d_Mo_scaled_8 : decode c_Mo_scaled 8 = .ok (.ifCond .lt 17, 3) := by decide +kernel
theorem d_Mo_scaled_11 : decode c_Mo_scaled 11 = .ok (.iload_n 2, 1) := by decide +kernel
theorem d_Mo_scaled_12 : decode c_Mo_scaled 12 = .ok (.bipush 40, 2) := by decide +kernel
theorem d_Mo_scaled_14 : decode c_Mo_scaled 14 = .ok (.if_icmp .gt 11, 3) := by decide +kernel
theorem d_Mo_scaled_17 : decode c_Mo_scaled 17 = .ok (.aload_n 0, 1) := by decide +kernel
theorem d_Mo_scaled_18 : decode c_Mo_scaled 18 = .ok (.iload_n 1, 1) := by decide +kernel
theorem d_Mo_scaled_19 : decode c_Mo_scaled 19 = .ok (.invokevirtual 404, 3) := by decide +kernel
theorem d_Mo_scaled_22 : decode c_Mo_scaled 22 = .ok (.ifCond .ge 7, 3) := by decide +kernel
theorem d_Mo_scaled_25 : decode c_Mo_scaled 25 = .ok (.ldc2_w 407, 3) := by decide +kernel
theorem d_Mo_scaled_28 : decode c_Mo_scaled 28 = .ok (.lreturn, 1) := by decide +kernel
theorem d_Mo_scaled_29 : decode c_Mo_scaled 29 = .ok (.aload_n 0, 1) := by decide +kernel
theorem d_Mo_scaled_30 : decode c_Mo_scaled 30 = .ok (.sipush 3990, 3) := by decide +kernel
theorem d_Mo_scaled_33 : decode c_Mo_scaled 33 = .ok (.lconst 1, 1) := by decide +kernel
theorem d_Mo_scaled_34 : decode c_Mo_scaled 34 = .ok (.iload_n 2, 1) := by decide +kernel
theorem d_Mo_scaled_35 : decode c_Mo_scaled 35 = .ok (.lshl, 1) := by decide +kernel
theorem d_Mo_scaled_36 : decode c_Mo_scaled 36 = .ok (.invokevirtual 360, 3) := by decide +kernel
theorem d_Mo_scaled_39 : decode c_Mo_scaled 39 = .ok (.aload_n 0, 1) := by decide +kernel
theorem d_Mo_scaled_40 : decode c_Mo_scaled 40 = .ok (.sipush 3991, 3) := by decide +kernel
theorem d_Mo_scaled_43 : decode c_Mo_scaled 43 = .ok (.lconst 0, 1) := by decide +kernel
theorem d_Mo_scaled_44 : decode c_Mo_scaled 44 = .ok (.invokevirtual 360, 3) := by decide +kernel
theorem d_Mo_scaled_47 : decode c_Mo_scaled 47 = .ok (.aload_n 0, 1) := by decide +kernel
theorem d_Mo_scaled_48 : decode c_Mo_scaled 48 = .ok (.aload_n 0, 1) := by decide +kernel
theorem d_Mo_scaled_49 : decode c_Mo_scaled 49 = .ok (.iload_n 1, 1) := by decide +kernel
theorem d_Mo_scaled_50 : decode c_Mo_scaled 50 = .ok (.invokevirtual 404, 3) := by decide +kernel
theorem d_Mo_scaled_53 : decode c_Mo_scaled 53 = .ok (.sipush 3990, 3) := by decide +kernel
theorem d_Mo_scaled_56 : decode c_Mo_scaled 56 = .ok (.sipush 3991, 3) := by decide +kernel
theorem d_Mo_scaled_59 : decode c_Mo_scaled 59 = .ok (.sipush 3991, 3) := by decide +kernel
theorem d_Mo_scaled_62 : decode c_Mo_scaled 62 = .ok (.invokevirtual 351, 3) := by decide +kernel
theorem d_Mo_scaled_65 : decode c_Mo_scaled 65 = .ok (.aload_n 0, 1) := by decide +kernel
theorem d_Mo_scaled_66 : decode c_Mo_scaled 66 = .ok (.sipush 3997, 3) := by decide +kernel
theorem d_Mo_scaled_69 : decode c_Mo_scaled 69 = .ok (.invokevirtual 354, 3) := by decide +kernel
theorem d_Mo_scaled_72 : decode c_Mo_scaled 72 = .ok (.lconst 0, 1) := by decide +kernel
theorem d_Mo_scaled_73 : decode c_Mo_scaled 73 = .ok (.lstore_n 3, 1) := by decide +kernel
theorem d_Mo_scaled_74 : decode c_Mo_scaled 74 = .ok (.aload_n 0, 1) := by decide +kernel
theorem d_Mo_scaled_75 : decode c_Mo_scaled 75 = .ok (.getfield 313, 3) := by decide +kernel
theorem d_Mo_scaled_78 : decode c_Mo_scaled 78 = .ok (.iconst 4, 1) := by decide +kernel
theorem d_Mo_scaled_79 : decode c_Mo_scaled 79 = .ok (.if_icmp .le 7, 3) := by decide +kernel
theorem d_Mo_scaled_82 : decode c_Mo_scaled 82 = .ok (.iconst 3, 1) := by decide +kernel
theorem d_Mo_scaled_83 : decode c_Mo_scaled 83 = .ok (.goto 9, 3) := by decide +kernel
theorem d_Mo_scaled_86 : decode c_Mo_scaled 86 = .ok (.aload_n 0, 1) := by decide +kernel
theorem d_Mo_scaled_87 : decode c_Mo_scaled 87 = .ok (.getfield 313, 3) := by decide +kernel
theorem d_Mo_scaled_90 : decode c_Mo_scaled 90 = .ok (.iconst 1, 1) := by decide +kernel
theorem d_Mo_scaled_91 : decode c_Mo_scaled 91 = .ok (.isub, 1) := by decide +kernel
theorem d_Mo_scaled_92 : decode c_Mo_scaled 92 = .ok (.istore 5, 2) := by decide +kernel
theorem d_Mo_scaled_94 : decode c_Mo_scaled 94 = .ok (.iload 5, 2) := by decide +kernel
theorem d_Mo_scaled_96 : decode c_Mo_scaled 96 = .ok (.ifCond .lt 23, 3) := by decide +kernel
theorem d_Mo_scaled_99 : decode c_Mo_scaled 99 = .ok (.lload_n 3, 1) := by decide +kernel
theorem d_Mo_scaled_100 : decode c_Mo_scaled 100 = .ok (.bipush 16, 2) := by decide +kernel
theorem d_Mo_scaled_102 : decode c_Mo_scaled 102 = .ok (.lshl, 1) := by decide +kernel
theorem d_Mo_scaled_103 : decode c_Mo_scaled 103 = .ok (.aload_n 0, 1) := by decide +kernel
theorem d_Mo_scaled_104 : decode c_Mo_scaled 104 = .ok (.getfield 99, 3) := by decide +kernel
theorem d_Mo_scaled_107 : decode c_Mo_scaled 107 = .ok (.iload 5, 2) := by decide +kernel
theorem d_Mo_scaled_109 : decode c_Mo_scaled 109 = .ok (.iaload, 1) := by decide +kernel
theorem d_Mo_scaled_110 : decode c_Mo_scaled 110 = .ok (.i2l, 1) := by decide +kernel
theorem d_Mo_scaled_111 : decode c_Mo_scaled 111 = .ok (.lor, 1) := by decide +kernel
theorem d_Mo_scaled_112 : decode c_Mo_scaled 112 = .ok (.lstore_n 3, 1) := by decide +kernel
theorem d_Mo_scaled_113 : decode c_Mo_scaled 113 = .ok (.iinc 5 (-1), 3) := by decide +kernel
theorem d_Mo_scaled_116 : decode c_Mo_scaled 116 = .ok (.goto (-22), 3) := by decide +kernel
theorem d_Mo_scaled_119 : decode c_Mo_scaled 119 = .ok (.lload_n 3, 1) := by decide +kernel
theorem d_Mo_scaled_120 : decode c_Mo_scaled 120 = .ok (.lreturn, 1) := by decide +kernel
set_option maxRecDepth 100000 in
set_option maxHeartbeats 16000000 in
/-- scaled(xi, xk) -/
theorem g_Mo_scaled (l : Launch) (G : va_G) (k : Nat → ClassId) (h0 : Nat) (s0 : Nat) (xi : Int32) (xk : Int32) (sv9 : Nat) (bf : Nat) (rows : Nat) (ma : Nat → Nat) (iv : Nat → Int32) (co : Int64) (tk : Nat → Nat) (dg : Nat → Nat) (sz : Nat → Nat) (bl : Nat → Nat) (O : Nat → Nat) (T2 : Nat → Nat) (qt : Nat → Nat) (Dv : Nat → Nat) (T : Nat → Int) (hT : tbO dg sz bl T) (hsv : sv9 ≤ 1) (hbf : bf < 4) (hok : sv9 = 1 → solO (tk bf) rows T) (dO : ∀ i, i < 170 → O i < 65536) (d2 : ∀ i, i < 170 → T2 i < 65536) (dQ : ∀ i, i < 170 → qt i < 65536) (dD : ∀ i, i < 170 → Dv i < 65536) : CL l y_Mo_scaled c_Mo_scaled 6 { frames := 4, cells := 0, slots := 0, locals := 164 } [.ref h0, .int xi, .int xk] G k s0 [(h0, .inr (8, moL ma (va_up (va_up (va_up iv 26 (nI sv9)) 27 (nI bf)) 24 (nI rows)) co)), ((ma 0), .inl (k 0, 4, .inl (fun i => nI (tk i)))), ((ma 21), .inl (k 0, 319840, .inl (fun i => nI (dg i)))), ((ma 22), .inl (k 0, 3998, .inl (fun i => nI (sz i)))), ((ma 23), .inl (k 2, 3998, .inl (fun i => nI (bl i)))), ((ma 24), .inl (k 0, 170, .inl (fun i => nI (O i)))), ((ma 25), .inl (k 0, 170, .inl (fun i => nI (T2 i)))), ((ma 26), .inl (k 0, 170, .inl (fun i => nI (qt i)))), ((ma 27), .inl (k 0, 170, .inl (fun i => nI (Dv i))))] (fun (r : Int64) (u : (Nat → Nat → Nat) × (Nat → Int32)) => (∃ T9, tbO (u.1 0) (u.1 1) (u.1 2) T9 ∧ ∀ c, c < 3990 ∨ c = 3994 ∨ c = 3997 → T9 c = T c) ∧ (∀ i, i < 170 → u.1 3 i < 65536) ∧ (∀ i, i < 170 → u.1 4 i < 65536) ∧ (∀ i, i < 170 → u.1 5 i < 65536) ∧ (∀ i, i < 170 → u.1 6 i < 65536)) (fun u => [(h0, .inr (8, moL ma (va_up (va_up (va_up (va_up (va_up (va_up (va_up (va_up iv 26 (nI sv9)) 27 (nI bf)) 24 (nI rows)) 19 (u.2 0)) 20 (u.2 1)) 21 (u.2 2)) 22 (u.2 3)) 23 (u.2 4)) co)), ((ma 0), .inl (k 0, 4, .inl (fun i => nI (tk i)))), ((ma 21), .inl (k 0, 319840, .inl (fun i => nI (u.1 0 i)))), ((ma 22), .inl (k 0, 3998, .inl (fun i => nI (u.1 1 i)))), ((ma 23), .inl (k 2, 3998, .inl (fun i => nI (u.1 2 i)))), ((ma 24), .inl (k 0, 170, .inl (fun i => nI (u.1 3 i)))), ((ma 25), .inl (k 0, 170, .inl (fun i => nI (u.1 4 i)))), ((ma 26), .inl (k 0, 170, .inl (fun i => nI (u.1 5 i)))), ((ma 27), .inl (k 0, 170, .inl (fun i => nI (u.1 6 i))))]) 0 0 := by
  refine met_start (by decide) (Nat.le_of_ble_eq_true rfl) ?_
  intro p e s m below meth c C K hA hsz S ls hl
  generalize va_A [(h0, .inr (8, moL ma (va_up (va_up (va_up iv 26 (nI sv9)) 27 (nI bf)) 24 (nI rows)) co)), ((ma 0), .inl (k 0, 4, .inl (fun i => nI (tk i)))), ((ma 21), .inl (k 0, 319840, .inl (fun i => nI (dg i)))), ((ma 22), .inl (k 0, 3998, .inl (fun i => nI (sz i)))), ((ma 23), .inl (k 2, 3998, .inl (fun i => nI (bl i)))), ((ma 24), .inl (k 0, 170, .inl (fun i => nI (O i)))), ((ma 25), .inl (k 0, 170, .inl (fun i => nI (T2 i)))), ((ma 26), .inl (k 0, 170, .inl (fun i => nI (qt i)))), ((ma 27), .inl (k 0, 170, .inl (fun i => nI (Dv i))))] s0 = A at hA S ⊢
  have hx := C.1
  have hb := C.2.1
  have hl : lv_has ls 6 [(0, .ref h0), (1, .int xi), (2, .int xk)] := hl
  refine lv_aload_n hx hb d_Mo_scaled_0 rfl (lv_at hl 0 rfl) ?_
  refine r_get C K S 0 rfl rfl clOk_Mo 57 (by decide) wf_Mo_383 (v := .int (nI sv9)) rfl d_Mo_scaled_1 ?_
  refine z_if_eq (a := sv9) (tgt := 25) hx hb d_Mo_scaled_4 (by decide) (by omega) (fun hc1 => ?_) (fun hc1 => ?_)
  · refine lv_ldc2 (v := (-2)) hx hb C.2.2.2.1 (C.2.2.2.2.1 _ wk_Mo_407) d_Mo_scaled_25 ?_
    exact r_lret C K (uz [dg, sz, bl, O, T2, qt, Dv], fun j => iv (19 + j)) ⟨⟨T, hT, fun _ _ => rfl⟩, dO, d2, dQ, dD⟩ (S.sub [0, 1, 2, 3, 4, 5, 6, 7, 8] (by decide) rfl) d_Mo_scaled_28 (Nat.le_of_ble_eq_true rfl) (Nat.le_of_ble_eq_true rfl)
  · refine lv_iload_n hx hb d_Mo_scaled_7 rfl (lv_at hl 2 rfl) ?_
    refine lv_if_lt (tgt := 25) hx hb d_Mo_scaled_8 (by decide) (fun hc2 => ?_) (fun hc2 => ?_)
    · refine lv_ldc2 (v := (-2)) hx hb C.2.2.2.1 (C.2.2.2.2.1 _ wk_Mo_407) d_Mo_scaled_25 ?_
      exact r_lret C K (uz [dg, sz, bl, O, T2, qt, Dv], fun j => iv (19 + j)) ⟨⟨T, hT, fun _ _ => rfl⟩, dO, d2, dQ, dD⟩ (S.sub [0, 1, 2, 3, 4, 5, 6, 7, 8] (by decide) rfl) d_Mo_scaled_28 (Nat.le_of_ble_eq_true rfl) (Nat.le_of_ble_eq_true rfl)
    · refine lv_iload_n hx hb d_Mo_scaled_11 rfl (lv_at hl 2 rfl) ?_
      refine lv_bipush (v := 40) hx hb d_Mo_scaled_12 (by decide) ?_
      refine lv_icmp_gt (tgt := 25) hx hb d_Mo_scaled_14 (by decide) (fun hc3 => ?_) (fun hc3 => ?_)
      · refine lv_ldc2 (v := (-2)) hx hb C.2.2.2.1 (C.2.2.2.2.1 _ wk_Mo_407) d_Mo_scaled_25 ?_
        exact r_lret C K (uz [dg, sz, bl, O, T2, qt, Dv], fun j => iv (19 + j)) ⟨⟨T, hT, fun _ _ => rfl⟩, dO, d2, dQ, dD⟩ (S.sub [0, 1, 2, 3, 4, 5, 6, 7, 8] (by decide) rfl) d_Mo_scaled_28 (Nat.le_of_ble_eq_true rfl) (Nat.le_of_ble_eq_true rfl)
      · have hS := hok (by omega)
        have hn := hS.1
        have hro := hS.2.1
        obtain ⟨kk, hkk, hke⟩ := k_le40 hc2 hc3
        rcases ba_cases xi hn with ⟨v9, hv, hve⟩ | hve | hve
        · have hl : lv_has ls 6 [(0, .ref h0), (1, .int (nI v9)), (2, .int (nI kk))] := by rw [← hke, ← hve]; exact hl
          refine lv_aload_n hx hb d_Mo_scaled_17 rfl (lv_at hl 0 rfl) ?_
          refine lv_iload_n hx hb d_Mo_scaled_18 rfl (lv_at hl 1 rfl) ?_
          refine r_backi (wi := [(h0, .inr (8, moL ma (va_up (va_up (va_up iv 26 (nI sv9)) 27 (nI bf)) 24 (nI rows)) co)), ((ma 0), .inl (k 0, 4, .inl (fun i => nI (tk i))))]) (wr := [((ma 21), .inl (k 0, 319840, .inl (fun i => nI (dg i)))), ((ma 22), .inl (k 0, 3998, .inl (fun i => nI (sz i)))), ((ma 23), .inl (k 2, 3998, .inl (fun i => nI (bl i)))), ((ma 24), .inl (k 0, 170, .inl (fun i => nI (O i)))), ((ma 25), .inl (k 0, 170, .inl (fun i => nI (T2 i)))), ((ma 26), .inl (k 0, 170, .inl (fun i => nI (qt i)))), ((ma 27), .inl (k 0, 170, .inl (fun i => nI (Dv i))))]) S hA [0, 1] [2, 3, 4, 5, 6, 7, 8] rfl rfl (by decide) (by decide) (va_runV (As := [.int (nI v9)]) (rest := []) ⟨hx, hb, C.2.2.1, C.2.2.2.1, C.2.2.2.2.1⟩ (g_Mo_boundAt_i l G k h0 _ v9 sv9 bf rows ma iv co tk (by first | assumption | omega) (by first | assumption | omega) (by first | assumption | omega) hv) (k_virt (n := 1) C wc_Mo_boundAt rfl rfl wz_Mo wm_Mo_404 wn_Mo_boundAt ws_Mo_boundAt (by decide +kernel) ⟨(Nat.le_of_ble_eq_true rfl), (Nat.le_of_ble_eq_true rfl)⟩) (pr_nowV K S [0, 1] (by decide) rfl 0 rfl rfl) rfl rfl hl.1 rfl (lv_room (Nat.le_of_ble_eq_true rfl)) d_Mo_scaled_19 ⟨(Nat.le_of_ble_eq_true rfl), (Nat.le_of_ble_eq_true rfl)⟩) (fun r6 u4 H locs hw5 S => ?_)
          have S : Sw G A s.heap _ _ [((ma 21), .inl (k 0, 319840, .inl (fun i => nI (dg i)))), ((ma 22), .inl (k 0, 3998, .inl (fun i => nI (sz i)))), ((ma 23), .inl (k 2, 3998, .inl (fun i => nI (bl i)))), ((ma 24), .inl (k 0, 170, .inl (fun i => nI (O i)))), ((ma 25), .inl (k 0, 170, .inl (fun i => nI (T2 i)))), ((ma 26), .inl (k 0, 170, .inl (fun i => nI (qt i)))), ((ma 27), .inl (k 0, 170, .inl (fun i => nI (Dv i)))), (h0, .inr (8, moL ma (va_up (va_up (va_up iv 26 (nI sv9)) 27 (nI bf)) 24 (nI rows)) co)), ((ma 0), .inl (k 0, 4, .inl (fun i => nI (tk i))))] := S
          obtain ⟨hw50, hp7⟩ := hw5
          obtain rfl : r6 = nI (42 * (rows + 1 + v9) + 41) := hw50
          refine z_if_ge (a := (42 * (rows + 1 + v9) + 41)) (tgt := 29) hx hb d_Mo_scaled_22 (by decide) (by omega) ?_
          refine lv_aload_n hx hb d_Mo_scaled_29 rfl (lv_at hl 0 rfl) ?_
          refine lv_sipush (v := 3990) hx hb d_Mo_scaled_30 (by decide) ?_
          refine lv_lconst (v := 1) hx hb d_Mo_scaled_33 (by decide) ?_
          refine lv_iload_n hx hb d_Mo_scaled_34 rfl (lv_at hl 2 rfl) ?_
          refine lv_lshl (v := ((1 : Int64) <<< ((nI kk).toInt64 &&& 63))) hx hb d_Mo_scaled_35 rfl ?_
          refine r_backv (wi := [(h0, .inr (8, moL ma (va_up (va_up (va_up iv 26 (nI sv9)) 27 (nI bf)) 24 (nI rows)) co)), ((ma 21), .inl (k 0, 319840, .inl (fun i => nI (dg i)))), ((ma 22), .inl (k 0, 3998, .inl (fun i => nI (sz i)))), ((ma 23), .inl (k 2, 3998, .inl (fun i => nI (bl i))))]) (wr := [((ma 24), .inl (k 0, 170, .inl (fun i => nI (O i)))), ((ma 25), .inl (k 0, 170, .inl (fun i => nI (T2 i)))), ((ma 26), .inl (k 0, 170, .inl (fun i => nI (qt i)))), ((ma 27), .inl (k 0, 170, .inl (fun i => nI (Dv i)))), ((ma 0), .inl (k 0, 4, .inl (fun i => nI (tk i))))]) S hA [7, 0, 1, 2] [3, 4, 5, 6, 8] rfl rfl (by decide) (by decide) (va_runV (As := [.int 3990, .long ((1 : Int64) <<< ((nI kk).toInt64 &&& 63))]) (rest := []) ⟨hx, hb, C.2.2.1, C.2.2.2.1, C.2.2.2.2.1⟩ (g_Mo_putZ l G k h0 _ 3990 ((1 : Int64) <<< ((nI kk).toInt64 &&& 63)) ma (va_up (va_up (va_up iv 26 (nI sv9)) 27 (nI bf)) 24 (nI rows)) co dg sz bl T hT (by omega) (l1sh kk hkk).1) (k_virt (n := 2) C wc_Mo_put rfl rfl wz_Mo wm_Mo_360 wn_Mo_put ws_Mo_put (by decide +kernel) ⟨(Nat.le_of_ble_eq_true rfl), (Nat.le_of_ble_eq_true rfl)⟩) (pr_nowV K S [7, 0, 1, 2] (by decide) rfl 7 rfl rfl) rfl rfl hl.1 rfl (lv_room (Nat.le_of_ble_eq_true rfl)) d_Mo_scaled_36 ⟨(Nat.le_of_ble_eq_true rfl), (Nat.le_of_ble_eq_true rfl)⟩) (fun p10 H locs hw8 S => ?_)
          have S : Sw G A s.heap _ _ [((ma 24), .inl (k 0, 170, .inl (fun i => nI (O i)))), ((ma 25), .inl (k 0, 170, .inl (fun i => nI (T2 i)))), ((ma 26), .inl (k 0, 170, .inl (fun i => nI (qt i)))), ((ma 27), .inl (k 0, 170, .inl (fun i => nI (Dv i)))), ((ma 0), .inl (k 0, 4, .inl (fun i => nI (tk i)))), (h0, .inr (8, moL ma (va_up (va_up (va_up iv 26 (nI sv9)) 27 (nI bf)) 24 (nI rows)) co)), ((ma 21), .inl (k 0, 319840, .inl (fun i => nI (p10.1 i)))), ((ma 22), .inl (k 0, 3998, .inl (fun i => nI (p10.2.1 i)))), ((ma 23), .inl (k 2, 3998, .inl (fun i => nI (p10.2.2 i))))] := S
          have hT_p10 : tbO p10.1 p10.2.1 p10.2.2 (va_up T 3990 ((((1 : Int64) <<< ((nI kk).toInt64 &&& 63))).toInt)) := hw8
          refine lv_aload_n hx hb d_Mo_scaled_39 rfl (lv_at hl 0 rfl) ?_
          refine lv_sipush (v := 3991) hx hb d_Mo_scaled_40 (by decide) ?_
          refine lv_lconst (v := 0) hx hb d_Mo_scaled_43 (by decide) ?_
          refine r_backv (wi := [(h0, .inr (8, moL ma (va_up (va_up (va_up iv 26 (nI sv9)) 27 (nI bf)) 24 (nI rows)) co)), ((ma 21), .inl (k 0, 319840, .inl (fun i => nI (p10.1 i)))), ((ma 22), .inl (k 0, 3998, .inl (fun i => nI (p10.2.1 i)))), ((ma 23), .inl (k 2, 3998, .inl (fun i => nI (p10.2.2 i))))]) (wr := [((ma 24), .inl (k 0, 170, .inl (fun i => nI (O i)))), ((ma 25), .inl (k 0, 170, .inl (fun i => nI (T2 i)))), ((ma 26), .inl (k 0, 170, .inl (fun i => nI (qt i)))), ((ma 27), .inl (k 0, 170, .inl (fun i => nI (Dv i)))), ((ma 0), .inl (k 0, 4, .inl (fun i => nI (tk i))))]) S hA [5, 6, 7, 8] [0, 1, 2, 3, 4] rfl rfl (by decide) (by decide) (va_runV (As := [.int 3991, .long 0]) (rest := []) ⟨hx, hb, C.2.2.1, C.2.2.2.1, C.2.2.2.2.1⟩ (g_Mo_putZ l G k h0 _ 3991 0 ma (va_up (va_up (va_up iv 26 (nI sv9)) 27 (nI bf)) 24 (nI rows)) co p10.1 p10.2.1 p10.2.2 (va_up T 3990 ((((1 : Int64) <<< ((nI kk).toInt64 &&& 63))).toInt)) hT_p10 (by omega) (by decide)) (k_virt (n := 2) C wc_Mo_put rfl rfl wz_Mo wm_Mo_360 wn_Mo_put ws_Mo_put (by decide +kernel) ⟨(Nat.le_of_ble_eq_true rfl), (Nat.le_of_ble_eq_true rfl)⟩) (pr_nowV K S [5, 6, 7, 8] (by decide) rfl 5 rfl rfl) rfl rfl hl.1 rfl (lv_room (Nat.le_of_ble_eq_true rfl)) d_Mo_scaled_44 ⟨(Nat.le_of_ble_eq_true rfl), (Nat.le_of_ble_eq_true rfl)⟩) (fun p11 H locs hw9 S => ?_)
          have S : Sw G A s.heap _ _ [((ma 24), .inl (k 0, 170, .inl (fun i => nI (O i)))), ((ma 25), .inl (k 0, 170, .inl (fun i => nI (T2 i)))), ((ma 26), .inl (k 0, 170, .inl (fun i => nI (qt i)))), ((ma 27), .inl (k 0, 170, .inl (fun i => nI (Dv i)))), ((ma 0), .inl (k 0, 4, .inl (fun i => nI (tk i)))), (h0, .inr (8, moL ma (va_up (va_up (va_up iv 26 (nI sv9)) 27 (nI bf)) 24 (nI rows)) co)), ((ma 21), .inl (k 0, 319840, .inl (fun i => nI (p11.1 i)))), ((ma 22), .inl (k 0, 3998, .inl (fun i => nI (p11.2.1 i)))), ((ma 23), .inl (k 2, 3998, .inl (fun i => nI (p11.2.2 i))))] := S
          have hT_p11 : tbO p11.1 p11.2.1 p11.2.2 (va_up (va_up T 3990 ((((1 : Int64) <<< ((nI kk).toInt64 &&& 63))).toInt)) 3991 0) := by have h9 := hw9; rw [show (0 : Int64).toInt = 0 from by decide] at h9; exact h9
          refine lv_aload_n hx hb d_Mo_scaled_47 rfl (lv_at hl 0 rfl) ?_
          refine lv_aload_n hx hb d_Mo_scaled_48 rfl (lv_at hl 0 rfl) ?_
          refine lv_iload_n hx hb d_Mo_scaled_49 rfl (lv_at hl 1 rfl) ?_
          refine r_backi (wi := [(h0, .inr (8, moL ma (va_up (va_up (va_up iv 26 (nI sv9)) 27 (nI bf)) 24 (nI rows)) co)), ((ma 0), .inl (k 0, 4, .inl (fun i => nI (tk i))))]) (wr := [((ma 24), .inl (k 0, 170, .inl (fun i => nI (O i)))), ((ma 25), .inl (k 0, 170, .inl (fun i => nI (T2 i)))), ((ma 26), .inl (k 0, 170, .inl (fun i => nI (qt i)))), ((ma 27), .inl (k 0, 170, .inl (fun i => nI (Dv i)))), ((ma 21), .inl (k 0, 319840, .inl (fun i => nI (p11.1 i)))), ((ma 22), .inl (k 0, 3998, .inl (fun i => nI (p11.2.1 i)))), ((ma 23), .inl (k 2, 3998, .inl (fun i => nI (p11.2.2 i))))]) S hA [5, 4] [0, 1, 2, 3, 6, 7, 8] rfl rfl (by decide) (by decide) (va_runV (As := [.int (nI v9)]) (rest := [.ref h0]) ⟨hx, hb, C.2.2.1, C.2.2.2.1, C.2.2.2.2.1⟩ (g_Mo_boundAt_i l G k h0 _ v9 sv9 bf rows ma iv co tk (by first | assumption | omega) (by first | assumption | omega) (by first | assumption | omega) hv) (k_virt (n := 1) C wc_Mo_boundAt rfl rfl wz_Mo wm_Mo_404 wn_Mo_boundAt ws_Mo_boundAt (by decide +kernel) ⟨(Nat.le_of_ble_eq_true rfl), (Nat.le_of_ble_eq_true rfl)⟩) (pr_nowV K S [5, 4] (by decide) rfl 5 rfl rfl) rfl rfl hl.1 rfl (lv_room (Nat.le_of_ble_eq_true rfl)) d_Mo_scaled_50 ⟨(Nat.le_of_ble_eq_true rfl), (Nat.le_of_ble_eq_true rfl)⟩) (fun r12 u10 H locs hw11 S => ?_)
          have S : Sw G A s.heap _ _ [((ma 24), .inl (k 0, 170, .inl (fun i => nI (O i)))), ((ma 25), .inl (k 0, 170, .inl (fun i => nI (T2 i)))), ((ma 26), .inl (k 0, 170, .inl (fun i => nI (qt i)))), ((ma 27), .inl (k 0, 170, .inl (fun i => nI (Dv i)))), ((ma 21), .inl (k 0, 319840, .inl (fun i => nI (p11.1 i)))), ((ma 22), .inl (k 0, 3998, .inl (fun i => nI (p11.2.1 i)))), ((ma 23), .inl (k 2, 3998, .inl (fun i => nI (p11.2.2 i)))), (h0, .inr (8, moL ma (va_up (va_up (va_up iv 26 (nI sv9)) 27 (nI bf)) 24 (nI rows)) co)), ((ma 0), .inl (k 0, 4, .inl (fun i => nI (tk i))))] := S
          obtain ⟨hw110, hp13⟩ := hw11
          obtain rfl : r12 = nI (42 * (rows + 1 + v9) + 41) := hw110
          refine lv_sipush (v := 3990) hx hb d_Mo_scaled_53 (by decide) ?_
          refine lv_sipush (v := 3991) hx hb d_Mo_scaled_56 (by decide) ?_
          refine lv_sipush (v := 3991) hx hb d_Mo_scaled_59 (by decide) ?_
          refine r_backv (wi := [(h0, .inr (8, moL ma (va_up (va_up (va_up iv 26 (nI sv9)) 27 (nI bf)) 24 (nI rows)) co)), ((ma 21), .inl (k 0, 319840, .inl (fun i => nI (p11.1 i)))), ((ma 22), .inl (k 0, 3998, .inl (fun i => nI (p11.2.1 i)))), ((ma 23), .inl (k 2, 3998, .inl (fun i => nI (p11.2.2 i)))), ((ma 24), .inl (k 0, 170, .inl (fun i => nI (O i)))), ((ma 25), .inl (k 0, 170, .inl (fun i => nI (T2 i))))]) (wr := [((ma 26), .inl (k 0, 170, .inl (fun i => nI (qt i)))), ((ma 27), .inl (k 0, 170, .inl (fun i => nI (Dv i)))), ((ma 0), .inl (k 0, 4, .inl (fun i => nI (tk i))))]) S hA [7, 4, 5, 6, 0, 1] [2, 3, 8] rfl rfl (by decide) (by decide) (va_runV (As := [.int (nI (42 * (rows + 1 + v9) + 41)), .int 3990, .int 3991, .int 3991]) (rest := []) ⟨hx, hb, C.2.2.1, C.2.2.2.1, C.2.2.2.2.1⟩ (g_Mo_products l G k h0 _ (42 * (rows + 1 + v9) + 41) 3990 3991 3991 ma (va_up (va_up (va_up iv 26 (nI sv9)) 27 (nI bf)) 24 (nI rows)) co p11.1 p11.2.1 p11.2.2 O T2 (by omega) (by omega) (by omega) (by omega) (hT_p11.2 _ (by omega)).1 (hT_p11.2 _ (by omega)).1 (hT_p11.2 _ (by omega)).1 (hT_p11.2 _ (by omega)).1 (hT_p11.2 _ (by omega)).2.1 (hT_p11.2 _ (by omega)).2.1 (hT_p11.2 _ (by omega)).2.1 (hT_p11.2 _ (by omega)).2.1 hT_p11.1 dO d2) (k_virt (n := 4) C wc_Mo_products rfl rfl wz_Mo wm_Mo_351 wn_Mo_products ws_Mo_products (by decide +kernel) ⟨(Nat.le_of_ble_eq_true rfl), (Nat.le_of_ble_eq_true rfl)⟩) (pr_nowV K S [7, 4, 5, 6, 0, 1] (by decide) rfl 7 rfl rfl) rfl rfl hl.1 rfl (lv_room (Nat.le_of_ble_eq_true rfl)) d_Mo_scaled_62 ⟨(Nat.le_of_ble_eq_true rfl), (Nat.le_of_ble_eq_true rfl)⟩) (fun pu H locs hw14 S => ?_)
          have S : Sw G A s.heap _ _ [((ma 26), .inl (k 0, 170, .inl (fun i => nI (qt i)))), ((ma 27), .inl (k 0, 170, .inl (fun i => nI (Dv i)))), ((ma 0), .inl (k 0, 4, .inl (fun i => nI (tk i)))), (h0, .inr (8, moL ma (va_up (va_up (va_up (va_up (va_up (va_up (va_up iv 26 (nI sv9)) 27 (nI bf)) 24 (nI rows)) 21 (nI pu.2.2.2.1)) 22 (nI pu.2.2.2.2.2)) 20 (nI pu.2.2.2.2.1)) 19 (nI pu.2.2.1)) co)), ((ma 21), .inl (k 0, 319840, .inl (fun i => nI (p11.1 i)))), ((ma 22), .inl (k 0, 3998, .inl (fun i => nI (p11.2.1 i)))), ((ma 23), .inl (k 2, 3998, .inl (fun i => nI (p11.2.2 i)))), ((ma 24), .inl (k 0, 170, .inl (fun i => nI (pu.1 i)))), ((ma 25), .inl (k 0, 170, .inl (fun i => nI (pu.2.1 i))))] := S
          obtain ⟨hX, hn1, htr, dA, dB, hob⟩ := hw14
          refine lv_aload_n hx hb d_Mo_scaled_65 rfl (lv_at hl 0 rfl) ?_
          refine lv_sipush (v := 3997) hx hb d_Mo_scaled_66 (by decide) ?_
          have hV := hT_p11.2 3997 (by omega)
          rw [show (va_up (va_up T 3990 ((((1 : Int64) <<< ((nI kk).toInt64 &&& 63))).toInt)) 3991 0) 3997 = T 3997 by rw [va_up_ne _ _ (by omega), va_up_ne _ _ (by omega)]] at hV
          have hV3 := tbO_pos (T := T) hV hS.2.2.1
          refine r_backv (wi := [(h0, .inr (8, moL ma (va_up (va_up (va_up (va_up (va_up (va_up (va_up iv 26 (nI sv9)) 27 (nI bf)) 24 (nI rows)) 21 (nI pu.2.2.2.1)) 22 (nI pu.2.2.2.2.2)) 20 (nI pu.2.2.2.2.1)) 19 (nI pu.2.2.1)) co)), ((ma 21), .inl (k 0, 319840, .inl (fun i => nI (p11.1 i)))), ((ma 22), .inl (k 0, 3998, .inl (fun i => nI (p11.2.1 i)))), ((ma 24), .inl (k 0, 170, .inl (fun i => nI (pu.1 i)))), ((ma 26), .inl (k 0, 170, .inl (fun i => nI (qt i)))), ((ma 27), .inl (k 0, 170, .inl (fun i => nI (Dv i))))]) (wr := [((ma 0), .inl (k 0, 4, .inl (fun i => nI (tk i)))), ((ma 23), .inl (k 2, 3998, .inl (fun i => nI (p11.2.2 i)))), ((ma 25), .inl (k 0, 170, .inl (fun i => nI (pu.2.1 i))))]) S hA [3, 4, 5, 7, 0, 1] [2, 6, 8] rfl rfl (by decide) (by decide) (va_runV (As := [.int 3997]) (rest := []) ⟨hx, hb, C.2.2.1, C.2.2.2.1, C.2.2.2.2.1⟩ (g_Mo_divide l G k h0 _ 3997 pu.2.2.1 ma (va_up (va_up (va_up (va_up (va_up (va_up iv 26 (nI sv9)) 27 (nI bf)) 24 (nI rows)) 21 (nI pu.2.2.2.1)) 22 (nI pu.2.2.2.2.2)) 20 (nI pu.2.2.2.2.1)) co p11.1 p11.2.1 pu.1 qt Dv (by omega) hV.1 hV3.1 hV3.2 hn1 hT_p11.1 dA dQ dD) (k_virt (n := 1) C wc_Mo_divide rfl rfl wz_Mo wm_Mo_354 wn_Mo_divide ws_Mo_divide (by decide +kernel) ⟨(Nat.le_of_ble_eq_true rfl), (Nat.le_of_ble_eq_true rfl)⟩) (pr_nowV K S [3, 4, 5, 7, 0, 1] (by decide) rfl 3 rfl rfl) rfl rfl hl.1 rfl (lv_room (Nat.le_of_ble_eq_true rfl)) d_Mo_scaled_69 ⟨(Nat.le_of_ble_eq_true rfl), (Nat.le_of_ble_eq_true rfl)⟩) (fun du H locs hw15 S => ?_)
          have S : Sw G A s.heap _ _ [((ma 0), .inl (k 0, 4, .inl (fun i => nI (tk i)))), ((ma 23), .inl (k 2, 3998, .inl (fun i => nI (p11.2.2 i)))), ((ma 25), .inl (k 0, 170, .inl (fun i => nI (pu.2.1 i)))), (h0, .inr (8, moL ma (va_up (va_up (va_up (va_up (va_up (va_up (va_up (va_up iv 26 (nI sv9)) 27 (nI bf)) 24 (nI rows)) 21 (nI pu.2.2.2.1)) 22 (nI pu.2.2.2.2.2)) 20 (nI pu.2.2.2.2.1)) 19 (nI pu.2.2.1)) 23 (nI du.2.2.2)) co)), ((ma 21), .inl (k 0, 319840, .inl (fun i => nI (p11.1 i)))), ((ma 22), .inl (k 0, 3998, .inl (fun i => nI (p11.2.1 i)))), ((ma 24), .inl (k 0, 170, .inl (fun i => nI (du.1 i)))), ((ma 26), .inl (k 0, 170, .inl (fun i => nI (du.2.1 i)))), ((ma 27), .inl (k 0, 170, .inl (fun i => nI (du.2.2.1 i))))] := S
          obtain ⟨hD1, hD2, hD3, dA2, dQ9, dV9⟩ := hw15
          refine lv_lconst (v := 0) hx hb d_Mo_scaled_72 (by decide) ?_
          refine lv_lstore_n (lv' := [(3, .long 0), (0, .ref h0), (1, .int (nI v9)), (2, .int (nI kk))]) hx hb d_Mo_scaled_73 rfl hl (by decide) rfl (fun ls hl => ?_)
          refine lv_aload_n hx hb d_Mo_scaled_74 rfl (lv_at hl 1 rfl) ?_
          refine r_get C K S 3 rfl rfl clOk_Mo 52 (by decide) wf_Mo_313 (v := .int (nI du.2.2.2)) rfl d_Mo_scaled_75 ?_
          refine lv_iconst (v := 4) hx hb d_Mo_scaled_78 (by decide) ?_
          refine z_icmp_le (a := du.2.2.2) (b := 4) (tgt := 86) hx hb d_Mo_scaled_79 (by decide) (by omega) (by omega) (fun hc16 => ?_) (fun hc16 => ?_)
          · refine lv_aload_n hx hb d_Mo_scaled_86 rfl (lv_at hl 1 rfl) ?_
            refine r_get C K S 3 rfl rfl clOk_Mo 52 (by decide) wf_Mo_313 (v := .int (nI du.2.2.2)) rfl d_Mo_scaled_87 ?_
            refine lv_iconst (v := 1) hx hb d_Mo_scaled_90 (by decide) ?_
            rcases Nat.eq_zero_or_pos du.2.2.2 with hz | hz
            · refine z_isub (x := nI du.2.2.2) (y := 1) (v := (-1)) hx hb d_Mo_scaled_91 (by rw [hz]; decide) ?_
              refine lv_istore (lv' := [(5, .int (-1)), (3, .long 0), (0, .ref h0), (1, .int (nI v9)), (2, .int (nI kk))]) hx hb d_Mo_scaled_92 hl (by decide) rfl (fun ls hl => ?_)
              refine lv_iload hx hb d_Mo_scaled_94 (lv_at hl 0 rfl) ?_
              refine lv_if_lt (tgt := 119) hx hb d_Mo_scaled_96 (by decide) (fun _ => ?_) (fun hq => absurd (by decide) hq)
              refine lv_lload_n hx hb d_Mo_scaled_119 rfl (lv_at hl 1 rfl) ?_
              exact r_lret C K (uz [p11.1, p11.2.1, p11.2.2, du.1, pu.2.1, du.2.1, du.2.2.1], fz (nI pu.2.2.1) (nI pu.2.2.2.2.1) (nI pu.2.2.2.1) (nI pu.2.2.2.2.2) (nI du.2.2.2)) ⟨⟨_, hT_p11, fun c hc => by rw [va_up_ne _ _ (by omega), va_up_ne _ _ (by omega)]⟩, dA2, dB, dQ9, dV9⟩ (S.sub [3, 0, 4, 5, 1, 6, 2, 7, 8] (by decide) rfl) d_Mo_scaled_120 (Nat.le_of_ble_eq_true rfl) (Nat.le_of_ble_eq_true rfl)
            · refine z_isub (x := nI du.2.2.2) (y := 1) (v := nI (du.2.2.2 - 1)) hx hb d_Mo_scaled_91 (pk_sub (a := du.2.2.2) (b := 1) (by omega)) ?_
              refine lv_istore (lv' := [(5, .int (nI (du.2.2.2 - 1))), (3, .long 0), (0, .ref h0), (1, .int (nI v9)), (2, .int (nI kk))]) hx hb d_Mo_scaled_92 hl (by decide) rfl (fun ls hl => ?_)
              refine lv_iload hx hb d_Mo_scaled_94 (lv_at hl 0 rfl) ?_
              refine z_if_lt (a := (du.2.2.2 - 1)) (tgt := 119) hx hb d_Mo_scaled_96 (by decide) (by omega) ?_
              have lv : ∀ d9, ∀ (k9 : Nat), ∀ (x9 : Int64), k9 < d9 → (k9 ≤ 161) → ∀ (H : Heap) (locs : List Loc), Sw G A s.heap H locs [((ma 0), .inl (k 0, 4, .inl (fun i => nI (tk i)))), ((ma 23), .inl (k 2, 3998, .inl (fun i => nI (p11.2.2 i)))), ((ma 25), .inl (k 0, 170, .inl (fun i => nI (pu.2.1 i)))), (h0, .inr (8, moL ma (va_up (va_up (va_up (va_up (va_up (va_up (va_up (va_up iv 26 (nI sv9)) 27 (nI bf)) 24 (nI rows)) 21 (nI pu.2.2.2.1)) 22 (nI pu.2.2.2.2.2)) 20 (nI pu.2.2.2.2.1)) 19 (nI pu.2.2.1)) 23 (nI du.2.2.2)) co)), ((ma 21), .inl (k 0, 319840, .inl (fun i => nI (p11.1 i)))), ((ma 22), .inl (k 0, 3998, .inl (fun i => nI (p11.2.1 i)))), ((ma 24), .inl (k 0, 170, .inl (fun i => nI (du.1 i)))), ((ma 26), .inl (k 0, 170, .inl (fun i => nI (du.2.1 i)))), ((ma 27), .inl (k 0, 170, .inl (fun i => nI (du.2.2.1 i))))] → ∀ ls : Array Slot, lv_has ls 6 [(5, .int (nI k9)), (3, .long x9), (0, .ref h0), (1, .int (nI v9)), (2, .int (nI kk))] → W p l e { frames := 4, cells := 0, slots := 0, locals := 164 } s m [Value.ref h0, Value.int xi, Value.int xk].toArray below meth c H locs 0 0 (MQ below (va_Ql (fun (r : Int64) (u : (Nat → Nat → Nat) × (Nat → Int32)) => (∃ T9, tbO (u.1 0) (u.1 1) (u.1 2) T9 ∧ ∀ c, c < 3990 ∨ c = 3994 ∨ c = 3997 → T9 c = T c) ∧ (∀ i, i < 170 → u.1 3 i < 65536) ∧ (∀ i, i < 170 → u.1 4 i < 65536) ∧ (∀ i, i < 170 → u.1 5 i < 65536) ∧ (∀ i, i < 170 → u.1 6 i < 65536)) (Po G k A (fun u => [(h0, .inr (8, moL ma (va_up (va_up (va_up (va_up (va_up (va_up (va_up (va_up iv 26 (nI sv9)) 27 (nI bf)) 24 (nI rows)) 19 (u.2 0)) 20 (u.2 1)) 21 (u.2 2)) 22 (u.2 3)) 23 (u.2 4)) co)), ((ma 0), .inl (k 0, 4, .inl (fun i => nI (tk i)))), ((ma 21), .inl (k 0, 319840, .inl (fun i => nI (u.1 0 i)))), ((ma 22), .inl (k 0, 3998, .inl (fun i => nI (u.1 1 i)))), ((ma 23), .inl (k 2, 3998, .inl (fun i => nI (u.1 2 i)))), ((ma 24), .inl (k 0, 170, .inl (fun i => nI (u.1 3 i)))), ((ma 25), .inl (k 0, 170, .inl (fun i => nI (u.1 4 i)))), ((ma 26), .inl (k 0, 170, .inl (fun i => nI (u.1 5 i)))), ((ma 27), .inl (k 0, 170, .inl (fun i => nI (u.1 6 i))))])) A) [Value.ref h0, Value.int xi, Value.int xk].toArray s 0 0 A) (F0 m 99 ls []) := by
                intro d9
                induction d9 with
                | zero => intro k9 x9 hm; exact absurd hm (Nat.not_lt_zero _)
                | succ d9 ih_lv =>
                  intro k9 x9 hm hk H locs S ls hl
                  have q7 := dQ9 k9 (by omega)
                  refine lv_lload_n hx hb d_Mo_scaled_99 rfl (lv_at hl 1 rfl) ?_
                  refine lv_bipush (v := 16) hx hb d_Mo_scaled_100 (by decide) ?_
                  refine lv_lshl (v := (x9 <<< ((16 : Int32).toInt64 &&& 63))) hx hb d_Mo_scaled_102 rfl ?_
                  refine lv_aload_n hx hb d_Mo_scaled_103 rfl (lv_at hl 2 rfl) ?_
                  refine r_get C K S 3 rfl rfl clOk_Mo 46 (by decide) wf_Mo_99 (v := .ref (ma 26)) rfl d_Mo_scaled_104 ?_
                  refine lv_iload hx hb d_Mo_scaled_107 (lv_at hl 0 rfl) ?_
                  refine r_iald C K S 7 rfl (i := nI k9) (show vp_in (nI k9) _ from vp_in_nI (n := k9) (by omega) (by decide)) (v := nI (du.2.1 k9)) (by rw [nI_clamp (by omega)]) d_Mo_scaled_109 ?_
                  refine lv_i2l (v := lN (du.2.1 k9)) hx hb d_Mo_scaled_110 (show (nI (du.2.1 k9) : Int32).toInt64 = _ from nI_l (n := (du.2.1 k9)) (by omega)) ?_
                  refine lv_lor hx hb d_Mo_scaled_111 ?_
                  refine lv_lstore_n (lv' := [(3, .long ((x9 <<< ((16 : Int32).toInt64 &&& 63)) ||| (lN (du.2.1 k9)))), (5, .int (nI k9)), (0, .ref h0), (1, .int (nI v9)), (2, .int (nI kk))]) hx hb d_Mo_scaled_112 rfl hl (by decide) rfl (fun ls hl => ?_)
                  rcases Nat.eq_zero_or_pos k9 with hz9 | hz9
                  · refine lv_iinc (v := (-1)) (lv' := [(5, .int (-1)), (3, .long ((x9 <<< ((16 : Int32).toInt64 &&& 63)) ||| (lN (du.2.1 k9)))), (0, .ref h0), (1, .int (nI v9)), (2, .int (nI kk))]) hx hb d_Mo_scaled_113 hl (k := 1) rfl (by rw [hz9]; decide) (by decide) rfl (fun ls hl => ?_)
                    refine lv_goto (tgt := 94) hx hb d_Mo_scaled_116 (by decide) ?_
                    refine lv_iload hx hb d_Mo_scaled_94 (lv_at hl 0 rfl) ?_
                    refine lv_if_lt (tgt := 119) hx hb d_Mo_scaled_96 (by decide) (fun _ => ?_) (fun hq => absurd (by decide) hq)
                    refine lv_lload_n hx hb d_Mo_scaled_119 rfl (lv_at hl 1 rfl) ?_
                    exact r_lret C K (uz [p11.1, p11.2.1, p11.2.2, du.1, pu.2.1, du.2.1, du.2.2.1], fz (nI pu.2.2.1) (nI pu.2.2.2.2.1) (nI pu.2.2.2.1) (nI pu.2.2.2.2.2) (nI du.2.2.2)) ⟨⟨_, hT_p11, fun c hc => by rw [va_up_ne _ _ (by omega), va_up_ne _ _ (by omega)]⟩, dA2, dB, dQ9, dV9⟩ (S.sub [3, 0, 4, 5, 1, 6, 2, 7, 8] (by decide) rfl) d_Mo_scaled_120 (Nat.le_of_ble_eq_true rfl) (Nat.le_of_ble_eq_true rfl)
                  · refine lv_iinc (v := nI (k9 - 1)) (lv' := [(5, .int (nI (k9 - 1))), (3, .long ((x9 <<< ((16 : Int32).toInt64 &&& 63)) ||| (lN (du.2.1 k9)))), (0, .ref h0), (1, .int (nI v9)), (2, .int (nI kk))]) hx hb d_Mo_scaled_113 hl (k := 1) rfl (z_m1 (a := k9) (by omega)) (by decide) rfl (fun ls hl => ?_)
                    refine lv_goto (tgt := 94) hx hb d_Mo_scaled_116 (by decide) ?_
                    refine lv_iload hx hb d_Mo_scaled_94 (lv_at hl 0 rfl) ?_
                    refine z_if_lt (a := (k9 - 1)) (tgt := 119) hx hb d_Mo_scaled_96 (by decide) (by omega) ?_
                    exact ih_lv (k9 - 1) ((x9 <<< ((16 : Int32).toInt64 &&& 63)) ||| (lN (du.2.1 k9))) (by omega) (by omega) _ _ (S.sub [0, 1, 2, 3, 4, 5, 6, 7, 8] (by decide) rfl) ls (lv_sub hl [0, 1, 2, 3, 4] rfl)
              exact lv _ (du.2.2.2 - 1) 0 (Nat.lt_succ_self _) (by omega) _ _ (S.sub [0, 1, 2, 3, 4, 5, 6, 7, 8] (by decide) rfl) ls (lv_sub hl [0, 1, 2, 3, 4] rfl)
          · refine lv_iconst (v := 3) hx hb d_Mo_scaled_82 (by decide) ?_
            refine lv_goto (tgt := 92) hx hb d_Mo_scaled_83 (by decide) ?_
            refine lv_istore (lv' := [(5, .int 3), (3, .long 0), (0, .ref h0), (1, .int (nI v9)), (2, .int (nI kk))]) hx hb d_Mo_scaled_92 hl (by decide) rfl (fun ls hl => ?_)
            refine lv_iload hx hb d_Mo_scaled_94 (lv_at hl 0 rfl) ?_
            refine lv_if_lt (tgt := 119) hx hb d_Mo_scaled_96 (by decide) (fun hq => absurd hq (by decide)) (fun _ => ?_)
            have lv : ∀ d9, ∀ (k9 : Nat), ∀ (x9 : Int64), k9 < d9 → (k9 ≤ 161) → ∀ (H : Heap) (locs : List Loc), Sw G A s.heap H locs [((ma 0), .inl (k 0, 4, .inl (fun i => nI (tk i)))), ((ma 23), .inl (k 2, 3998, .inl (fun i => nI (p11.2.2 i)))), ((ma 25), .inl (k 0, 170, .inl (fun i => nI (pu.2.1 i)))), (h0, .inr (8, moL ma (va_up (va_up (va_up (va_up (va_up (va_up (va_up (va_up iv 26 (nI sv9)) 27 (nI bf)) 24 (nI rows)) 21 (nI pu.2.2.2.1)) 22 (nI pu.2.2.2.2.2)) 20 (nI pu.2.2.2.2.1)) 19 (nI pu.2.2.1)) 23 (nI du.2.2.2)) co)), ((ma 21), .inl (k 0, 319840, .inl (fun i => nI (p11.1 i)))), ((ma 22), .inl (k 0, 3998, .inl (fun i => nI (p11.2.1 i)))), ((ma 24), .inl (k 0, 170, .inl (fun i => nI (du.1 i)))), ((ma 26), .inl (k 0, 170, .inl (fun i => nI (du.2.1 i)))), ((ma 27), .inl (k 0, 170, .inl (fun i => nI (du.2.2.1 i))))] → ∀ ls : Array Slot, lv_has ls 6 [(5, .int (nI k9)), (3, .long x9), (0, .ref h0), (1, .int (nI v9)), (2, .int (nI kk))] → W p l e { frames := 4, cells := 0, slots := 0, locals := 164 } s m [Value.ref h0, Value.int xi, Value.int xk].toArray below meth c H locs 0 0 (MQ below (va_Ql (fun (r : Int64) (u : (Nat → Nat → Nat) × (Nat → Int32)) => (∃ T9, tbO (u.1 0) (u.1 1) (u.1 2) T9 ∧ ∀ c, c < 3990 ∨ c = 3994 ∨ c = 3997 → T9 c = T c) ∧ (∀ i, i < 170 → u.1 3 i < 65536) ∧ (∀ i, i < 170 → u.1 4 i < 65536) ∧ (∀ i, i < 170 → u.1 5 i < 65536) ∧ (∀ i, i < 170 → u.1 6 i < 65536)) (Po G k A (fun u => [(h0, .inr (8, moL ma (va_up (va_up (va_up (va_up (va_up (va_up (va_up (va_up iv 26 (nI sv9)) 27 (nI bf)) 24 (nI rows)) 19 (u.2 0)) 20 (u.2 1)) 21 (u.2 2)) 22 (u.2 3)) 23 (u.2 4)) co)), ((ma 0), .inl (k 0, 4, .inl (fun i => nI (tk i)))), ((ma 21), .inl (k 0, 319840, .inl (fun i => nI (u.1 0 i)))), ((ma 22), .inl (k 0, 3998, .inl (fun i => nI (u.1 1 i)))), ((ma 23), .inl (k 2, 3998, .inl (fun i => nI (u.1 2 i)))), ((ma 24), .inl (k 0, 170, .inl (fun i => nI (u.1 3 i)))), ((ma 25), .inl (k 0, 170, .inl (fun i => nI (u.1 4 i)))), ((ma 26), .inl (k 0, 170, .inl (fun i => nI (u.1 5 i)))), ((ma 27), .inl (k 0, 170, .inl (fun i => nI (u.1 6 i))))])) A) [Value.ref h0, Value.int xi, Value.int xk].toArray s 0 0 A) (F0 m 99 ls []) := by
              intro d9
              induction d9 with
              | zero => intro k9 x9 hm; exact absurd hm (Nat.not_lt_zero _)
              | succ d9 ih_lv =>
                intro k9 x9 hm hk H locs S ls hl
                have q7 := dQ9 k9 (by omega)
                refine lv_lload_n hx hb d_Mo_scaled_99 rfl (lv_at hl 1 rfl) ?_
                refine lv_bipush (v := 16) hx hb d_Mo_scaled_100 (by decide) ?_
                refine lv_lshl (v := (x9 <<< ((16 : Int32).toInt64 &&& 63))) hx hb d_Mo_scaled_102 rfl ?_
                refine lv_aload_n hx hb d_Mo_scaled_103 rfl (lv_at hl 2 rfl) ?_
                refine r_get C K S 3 rfl rfl clOk_Mo 46 (by decide) wf_Mo_99 (v := .ref (ma 26)) rfl d_Mo_scaled_104 ?_
                refine lv_iload hx hb d_Mo_scaled_107 (lv_at hl 0 rfl) ?_
                refine r_iald C K S 7 rfl (i := nI k9) (show vp_in (nI k9) _ from vp_in_nI (n := k9) (by omega) (by decide)) (v := nI (du.2.1 k9)) (by rw [nI_clamp (by omega)]) d_Mo_scaled_109 ?_
                refine lv_i2l (v := lN (du.2.1 k9)) hx hb d_Mo_scaled_110 (show (nI (du.2.1 k9) : Int32).toInt64 = _ from nI_l (n := (du.2.1 k9)) (by omega)) ?_
                refine lv_lor hx hb d_Mo_scaled_111 ?_
                refine lv_lstore_n (lv' := [(3, .long ((x9 <<< ((16 : Int32).toInt64 &&& 63)) ||| (lN (du.2.1 k9)))), (5, .int (nI k9)), (0, .ref h0), (1, .int (nI v9)), (2, .int (nI kk))]) hx hb d_Mo_scaled_112 rfl hl (by decide) rfl (fun ls hl => ?_)
                rcases Nat.eq_zero_or_pos k9 with hz9 | hz9
                · refine lv_iinc (v := (-1)) (lv' := [(5, .int (-1)), (3, .long ((x9 <<< ((16 : Int32).toInt64 &&& 63)) ||| (lN (du.2.1 k9)))), (0, .ref h0), (1, .int (nI v9)), (2, .int (nI kk))]) hx hb d_Mo_scaled_113 hl (k := 1) rfl (by rw [hz9]; decide) (by decide) rfl (fun ls hl => ?_)
                  refine lv_goto (tgt := 94) hx hb d_Mo_scaled_116 (by decide) ?_
                  refine lv_iload hx hb d_Mo_scaled_94 (lv_at hl 0 rfl) ?_
                  refine lv_if_lt (tgt := 119) hx hb d_Mo_scaled_96 (by decide) (fun _ => ?_) (fun hq => absurd (by decide) hq)
                  refine lv_lload_n hx hb d_Mo_scaled_119 rfl (lv_at hl 1 rfl) ?_
                  exact r_lret C K (uz [p11.1, p11.2.1, p11.2.2, du.1, pu.2.1, du.2.1, du.2.2.1], fz (nI pu.2.2.1) (nI pu.2.2.2.2.1) (nI pu.2.2.2.1) (nI pu.2.2.2.2.2) (nI du.2.2.2)) ⟨⟨_, hT_p11, fun c hc => by rw [va_up_ne _ _ (by omega), va_up_ne _ _ (by omega)]⟩, dA2, dB, dQ9, dV9⟩ (S.sub [3, 0, 4, 5, 1, 6, 2, 7, 8] (by decide) rfl) d_Mo_scaled_120 (Nat.le_of_ble_eq_true rfl) (Nat.le_of_ble_eq_true rfl)
                · refine lv_iinc (v := nI (k9 - 1)) (lv' := [(5, .int (nI (k9 - 1))), (3, .long ((x9 <<< ((16 : Int32).toInt64 &&& 63)) ||| (lN (du.2.1 k9)))), (0, .ref h0), (1, .int (nI v9)), (2, .int (nI kk))]) hx hb d_Mo_scaled_113 hl (k := 1) rfl (z_m1 (a := k9) (by omega)) (by decide) rfl (fun ls hl => ?_)
                  refine lv_goto (tgt := 94) hx hb d_Mo_scaled_116 (by decide) ?_
                  refine lv_iload hx hb d_Mo_scaled_94 (lv_at hl 0 rfl) ?_
                  refine z_if_lt (a := (k9 - 1)) (tgt := 119) hx hb d_Mo_scaled_96 (by decide) (by omega) ?_
                  exact ih_lv (k9 - 1) ((x9 <<< ((16 : Int32).toInt64 &&& 63)) ||| (lN (du.2.1 k9))) (by omega) (by omega) _ _ (S.sub [0, 1, 2, 3, 4, 5, 6, 7, 8] (by decide) rfl) ls (lv_sub hl [0, 1, 2, 3, 4] rfl)
            exact lv _ 3 0 (Nat.lt_succ_self _) (by omega) _ _ (S.sub [0, 1, 2, 3, 4, 5, 6, 7, 8] (by decide) rfl) ls (lv_sub hl [0, 1, 2, 3, 4] rfl)
        · have hl : lv_has ls 6 [(0, .ref h0), (1, .int 3), (2, .int (nI kk))] := by rw [← hke, ← hve]; exact hl
          refine lv_aload_n hx hb d_Mo_scaled_17 rfl (lv_at hl 0 rfl) ?_
          refine lv_iload_n hx hb d_Mo_scaled_18 rfl (lv_at hl 1 rfl) ?_
          refine r_backi (wi := [(h0, .inr (8, moL ma (va_up (va_up (va_up iv 26 (nI sv9)) 27 (nI bf)) 24 (nI rows)) co)), ((ma 0), .inl (k 0, 4, .inl (fun i => nI (tk i))))]) (wr := [((ma 21), .inl (k 0, 319840, .inl (fun i => nI (dg i)))), ((ma 22), .inl (k 0, 3998, .inl (fun i => nI (sz i)))), ((ma 23), .inl (k 2, 3998, .inl (fun i => nI (bl i)))), ((ma 24), .inl (k 0, 170, .inl (fun i => nI (O i)))), ((ma 25), .inl (k 0, 170, .inl (fun i => nI (T2 i)))), ((ma 26), .inl (k 0, 170, .inl (fun i => nI (qt i)))), ((ma 27), .inl (k 0, 170, .inl (fun i => nI (Dv i))))]) S hA [0, 1] [2, 3, 4, 5, 6, 7, 8] rfl rfl (by decide) (by decide) (va_runV (As := [.int 3]) (rest := []) ⟨hx, hb, C.2.2.1, C.2.2.2.1, C.2.2.2.2.1⟩ (g_Mo_boundAt_3 l G k h0 _ sv9 bf rows ma iv co tk (by first | assumption | omega) (by first | assumption | omega) (by first | assumption | omega)) (k_virt (n := 1) C wc_Mo_boundAt rfl rfl wz_Mo wm_Mo_404 wn_Mo_boundAt ws_Mo_boundAt (by decide +kernel) ⟨(Nat.le_of_ble_eq_true rfl), (Nat.le_of_ble_eq_true rfl)⟩) (pr_nowV K S [0, 1] (by decide) rfl 0 rfl rfl) rfl rfl hl.1 rfl (lv_room (Nat.le_of_ble_eq_true rfl)) d_Mo_scaled_19 ⟨(Nat.le_of_ble_eq_true rfl), (Nat.le_of_ble_eq_true rfl)⟩) (fun r19 u17 H locs hw18 S => ?_)
          have S : Sw G A s.heap _ _ [((ma 21), .inl (k 0, 319840, .inl (fun i => nI (dg i)))), ((ma 22), .inl (k 0, 3998, .inl (fun i => nI (sz i)))), ((ma 23), .inl (k 2, 3998, .inl (fun i => nI (bl i)))), ((ma 24), .inl (k 0, 170, .inl (fun i => nI (O i)))), ((ma 25), .inl (k 0, 170, .inl (fun i => nI (T2 i)))), ((ma 26), .inl (k 0, 170, .inl (fun i => nI (qt i)))), ((ma 27), .inl (k 0, 170, .inl (fun i => nI (Dv i)))), (h0, .inr (8, moL ma (va_up (va_up (va_up iv 26 (nI sv9)) 27 (nI bf)) 24 (nI rows)) co)), ((ma 0), .inl (k 0, 4, .inl (fun i => nI (tk i))))] := S
          obtain ⟨hw180, hp20⟩ := hw18
          obtain rfl : r19 = nI (42 * (rows + 1 + tk bf) + 41) := hw180
          refine z_if_ge (a := (42 * (rows + 1 + tk bf) + 41)) (tgt := 29) hx hb d_Mo_scaled_22 (by decide) (by omega) ?_
          refine lv_aload_n hx hb d_Mo_scaled_29 rfl (lv_at hl 0 rfl) ?_
          refine lv_sipush (v := 3990) hx hb d_Mo_scaled_30 (by decide) ?_
          refine lv_lconst (v := 1) hx hb d_Mo_scaled_33 (by decide) ?_
          refine lv_iload_n hx hb d_Mo_scaled_34 rfl (lv_at hl 2 rfl) ?_
          refine lv_lshl (v := ((1 : Int64) <<< ((nI kk).toInt64 &&& 63))) hx hb d_Mo_scaled_35 rfl ?_
          refine r_backv (wi := [(h0, .inr (8, moL ma (va_up (va_up (va_up iv 26 (nI sv9)) 27 (nI bf)) 24 (nI rows)) co)), ((ma 21), .inl (k 0, 319840, .inl (fun i => nI (dg i)))), ((ma 22), .inl (k 0, 3998, .inl (fun i => nI (sz i)))), ((ma 23), .inl (k 2, 3998, .inl (fun i => nI (bl i))))]) (wr := [((ma 24), .inl (k 0, 170, .inl (fun i => nI (O i)))), ((ma 25), .inl (k 0, 170, .inl (fun i => nI (T2 i)))), ((ma 26), .inl (k 0, 170, .inl (fun i => nI (qt i)))), ((ma 27), .inl (k 0, 170, .inl (fun i => nI (Dv i)))), ((ma 0), .inl (k 0, 4, .inl (fun i => nI (tk i))))]) S hA [7, 0, 1, 2] [3, 4, 5, 6, 8] rfl rfl (by decide) (by decide) (va_runV (As := [.int 3990, .long ((1 : Int64) <<< ((nI kk).toInt64 &&& 63))]) (rest := []) ⟨hx, hb, C.2.2.1, C.2.2.2.1, C.2.2.2.2.1⟩ (g_Mo_putZ l G k h0 _ 3990 ((1 : Int64) <<< ((nI kk).toInt64 &&& 63)) ma (va_up (va_up (va_up iv 26 (nI sv9)) 27 (nI bf)) 24 (nI rows)) co dg sz bl T hT (by omega) (l1sh kk hkk).1) (k_virt (n := 2) C wc_Mo_put rfl rfl wz_Mo wm_Mo_360 wn_Mo_put ws_Mo_put (by decide +kernel) ⟨(Nat.le_of_ble_eq_true rfl), (Nat.le_of_ble_eq_true rfl)⟩) (pr_nowV K S [7, 0, 1, 2] (by decide) rfl 7 rfl rfl) rfl rfl hl.1 rfl (lv_room (Nat.le_of_ble_eq_true rfl)) d_Mo_scaled_36 ⟨(Nat.le_of_ble_eq_true rfl), (Nat.le_of_ble_eq_true rfl)⟩) (fun p12 H locs hw21 S => ?_)
          have S : Sw G A s.heap _ _ [((ma 24), .inl (k 0, 170, .inl (fun i => nI (O i)))), ((ma 25), .inl (k 0, 170, .inl (fun i => nI (T2 i)))), ((ma 26), .inl (k 0, 170, .inl (fun i => nI (qt i)))), ((ma 27), .inl (k 0, 170, .inl (fun i => nI (Dv i)))), ((ma 0), .inl (k 0, 4, .inl (fun i => nI (tk i)))), (h0, .inr (8, moL ma (va_up (va_up (va_up iv 26 (nI sv9)) 27 (nI bf)) 24 (nI rows)) co)), ((ma 21), .inl (k 0, 319840, .inl (fun i => nI (p12.1 i)))), ((ma 22), .inl (k 0, 3998, .inl (fun i => nI (p12.2.1 i)))), ((ma 23), .inl (k 2, 3998, .inl (fun i => nI (p12.2.2 i))))] := S
          have hT_p12 : tbO p12.1 p12.2.1 p12.2.2 (va_up T 3990 ((((1 : Int64) <<< ((nI kk).toInt64 &&& 63))).toInt)) := hw21
          refine lv_aload_n hx hb d_Mo_scaled_39 rfl (lv_at hl 0 rfl) ?_
          refine lv_sipush (v := 3991) hx hb d_Mo_scaled_40 (by decide) ?_
          refine lv_lconst (v := 0) hx hb d_Mo_scaled_43 (by decide) ?_
          refine r_backv (wi := [(h0, .inr (8, moL ma (va_up (va_up (va_up iv 26 (nI sv9)) 27 (nI bf)) 24 (nI rows)) co)), ((ma 21), .inl (k 0, 319840, .inl (fun i => nI (p12.1 i)))), ((ma 22), .inl (k 0, 3998, .inl (fun i => nI (p12.2.1 i)))), ((ma 23), .inl (k 2, 3998, .inl (fun i => nI (p12.2.2 i))))]) (wr := [((ma 24), .inl (k 0, 170, .inl (fun i => nI (O i)))), ((ma 25), .inl (k 0, 170, .inl (fun i => nI (T2 i)))), ((ma 26), .inl (k 0, 170, .inl (fun i => nI (qt i)))), ((ma 27), .inl (k 0, 170, .inl (fun i => nI (Dv i)))), ((ma 0), .inl (k 0, 4, .inl (fun i => nI (tk i))))]) S hA [5, 6, 7, 8] [0, 1, 2, 3, 4] rfl rfl (by decide) (by decide) (va_runV (As := [.int 3991, .long 0]) (rest := []) ⟨hx, hb, C.2.2.1, C.2.2.2.1, C.2.2.2.2.1⟩ (g_Mo_putZ l G k h0 _ 3991 0 ma (va_up (va_up (va_up iv 26 (nI sv9)) 27 (nI bf)) 24 (nI rows)) co p12.1 p12.2.1 p12.2.2 (va_up T 3990 ((((1 : Int64) <<< ((nI kk).toInt64 &&& 63))).toInt)) hT_p12 (by omega) (by decide)) (k_virt (n := 2) C wc_Mo_put rfl rfl wz_Mo wm_Mo_360 wn_Mo_put ws_Mo_put (by decide +kernel) ⟨(Nat.le_of_ble_eq_true rfl), (Nat.le_of_ble_eq_true rfl)⟩) (pr_nowV K S [5, 6, 7, 8] (by decide) rfl 5 rfl rfl) rfl rfl hl.1 rfl (lv_room (Nat.le_of_ble_eq_true rfl)) d_Mo_scaled_44 ⟨(Nat.le_of_ble_eq_true rfl), (Nat.le_of_ble_eq_true rfl)⟩) (fun p13 H locs hw22 S => ?_)
          have S : Sw G A s.heap _ _ [((ma 24), .inl (k 0, 170, .inl (fun i => nI (O i)))), ((ma 25), .inl (k 0, 170, .inl (fun i => nI (T2 i)))), ((ma 26), .inl (k 0, 170, .inl (fun i => nI (qt i)))), ((ma 27), .inl (k 0, 170, .inl (fun i => nI (Dv i)))), ((ma 0), .inl (k 0, 4, .inl (fun i => nI (tk i)))), (h0, .inr (8, moL ma (va_up (va_up (va_up iv 26 (nI sv9)) 27 (nI bf)) 24 (nI rows)) co)), ((ma 21), .inl (k 0, 319840, .inl (fun i => nI (p13.1 i)))), ((ma 22), .inl (k 0, 3998, .inl (fun i => nI (p13.2.1 i)))), ((ma 23), .inl (k 2, 3998, .inl (fun i => nI (p13.2.2 i))))] := S
          have hT_p13 : tbO p13.1 p13.2.1 p13.2.2 (va_up (va_up T 3990 ((((1 : Int64) <<< ((nI kk).toInt64 &&& 63))).toInt)) 3991 0) := by have h9 := hw22; rw [show (0 : Int64).toInt = 0 from by decide] at h9; exact h9
          refine lv_aload_n hx hb d_Mo_scaled_47 rfl (lv_at hl 0 rfl) ?_
          refine lv_aload_n hx hb d_Mo_scaled_48 rfl (lv_at hl 0 rfl) ?_
          refine lv_iload_n hx hb d_Mo_scaled_49 rfl (lv_at hl 1 rfl) ?_
          refine r_backi (wi := [(h0, .inr (8, moL ma (va_up (va_up (va_up iv 26 (nI sv9)) 27 (nI bf)) 24 (nI rows)) co)), ((ma 0), .inl (k 0, 4, .inl (fun i => nI (tk i))))]) (wr := [((ma 24), .inl (k 0, 170, .inl (fun i => nI (O i)))), ((ma 25), .inl (k 0, 170, .inl (fun i => nI (T2 i)))), ((ma 26), .inl (k 0, 170, .inl (fun i => nI (qt i)))), ((ma 27), .inl (k 0, 170, .inl (fun i => nI (Dv i)))), ((ma 21), .inl (k 0, 319840, .inl (fun i => nI (p13.1 i)))), ((ma 22), .inl (k 0, 3998, .inl (fun i => nI (p13.2.1 i)))), ((ma 23), .inl (k 2, 3998, .inl (fun i => nI (p13.2.2 i))))]) S hA [5, 4] [0, 1, 2, 3, 6, 7, 8] rfl rfl (by decide) (by decide) (va_runV (As := [.int 3]) (rest := [.ref h0]) ⟨hx, hb, C.2.2.1, C.2.2.2.1, C.2.2.2.2.1⟩ (g_Mo_boundAt_3 l G k h0 _ sv9 bf rows ma iv co tk (by first | assumption | omega) (by first | assumption | omega) (by first | assumption | omega)) (k_virt (n := 1) C wc_Mo_boundAt rfl rfl wz_Mo wm_Mo_404 wn_Mo_boundAt ws_Mo_boundAt (by decide +kernel) ⟨(Nat.le_of_ble_eq_true rfl), (Nat.le_of_ble_eq_true rfl)⟩) (pr_nowV K S [5, 4] (by decide) rfl 5 rfl rfl) rfl rfl hl.1 rfl (lv_room (Nat.le_of_ble_eq_true rfl)) d_Mo_scaled_50 ⟨(Nat.le_of_ble_eq_true rfl), (Nat.le_of_ble_eq_true rfl)⟩) (fun r25 u23 H locs hw24 S => ?_)
          have S : Sw G A s.heap _ _ [((ma 24), .inl (k 0, 170, .inl (fun i => nI (O i)))), ((ma 25), .inl (k 0, 170, .inl (fun i => nI (T2 i)))), ((ma 26), .inl (k 0, 170, .inl (fun i => nI (qt i)))), ((ma 27), .inl (k 0, 170, .inl (fun i => nI (Dv i)))), ((ma 21), .inl (k 0, 319840, .inl (fun i => nI (p13.1 i)))), ((ma 22), .inl (k 0, 3998, .inl (fun i => nI (p13.2.1 i)))), ((ma 23), .inl (k 2, 3998, .inl (fun i => nI (p13.2.2 i)))), (h0, .inr (8, moL ma (va_up (va_up (va_up iv 26 (nI sv9)) 27 (nI bf)) 24 (nI rows)) co)), ((ma 0), .inl (k 0, 4, .inl (fun i => nI (tk i))))] := S
          obtain ⟨hw240, hp26⟩ := hw24
          obtain rfl : r25 = nI (42 * (rows + 1 + tk bf) + 41) := hw240
          refine lv_sipush (v := 3990) hx hb d_Mo_scaled_53 (by decide) ?_
          refine lv_sipush (v := 3991) hx hb d_Mo_scaled_56 (by decide) ?_
          refine lv_sipush (v := 3991) hx hb d_Mo_scaled_59 (by decide) ?_
          refine r_backv (wi := [(h0, .inr (8, moL ma (va_up (va_up (va_up iv 26 (nI sv9)) 27 (nI bf)) 24 (nI rows)) co)), ((ma 21), .inl (k 0, 319840, .inl (fun i => nI (p13.1 i)))), ((ma 22), .inl (k 0, 3998, .inl (fun i => nI (p13.2.1 i)))), ((ma 23), .inl (k 2, 3998, .inl (fun i => nI (p13.2.2 i)))), ((ma 24), .inl (k 0, 170, .inl (fun i => nI (O i)))), ((ma 25), .inl (k 0, 170, .inl (fun i => nI (T2 i))))]) (wr := [((ma 26), .inl (k 0, 170, .inl (fun i => nI (qt i)))), ((ma 27), .inl (k 0, 170, .inl (fun i => nI (Dv i)))), ((ma 0), .inl (k 0, 4, .inl (fun i => nI (tk i))))]) S hA [7, 4, 5, 6, 0, 1] [2, 3, 8] rfl rfl (by decide) (by decide) (va_runV (As := [.int (nI (42 * (rows + 1 + tk bf) + 41)), .int 3990, .int 3991, .int 3991]) (rest := []) ⟨hx, hb, C.2.2.1, C.2.2.2.1, C.2.2.2.2.1⟩ (g_Mo_products l G k h0 _ (42 * (rows + 1 + tk bf) + 41) 3990 3991 3991 ma (va_up (va_up (va_up iv 26 (nI sv9)) 27 (nI bf)) 24 (nI rows)) co p13.1 p13.2.1 p13.2.2 O T2 (by omega) (by omega) (by omega) (by omega) (hT_p13.2 _ (by omega)).1 (hT_p13.2 _ (by omega)).1 (hT_p13.2 _ (by omega)).1 (hT_p13.2 _ (by omega)).1 (hT_p13.2 _ (by omega)).2.1 (hT_p13.2 _ (by omega)).2.1 (hT_p13.2 _ (by omega)).2.1 (hT_p13.2 _ (by omega)).2.1 hT_p13.1 dO d2) (k_virt (n := 4) C wc_Mo_products rfl rfl wz_Mo wm_Mo_351 wn_Mo_products ws_Mo_products (by decide +kernel) ⟨(Nat.le_of_ble_eq_true rfl), (Nat.le_of_ble_eq_true rfl)⟩) (pr_nowV K S [7, 4, 5, 6, 0, 1] (by decide) rfl 7 rfl rfl) rfl rfl hl.1 rfl (lv_room (Nat.le_of_ble_eq_true rfl)) d_Mo_scaled_62 ⟨(Nat.le_of_ble_eq_true rfl), (Nat.le_of_ble_eq_true rfl)⟩) (fun pu H locs hw27 S => ?_)
          have S : Sw G A s.heap _ _ [((ma 26), .inl (k 0, 170, .inl (fun i => nI (qt i)))), ((ma 27), .inl (k 0, 170, .inl (fun i => nI (Dv i)))), ((ma 0), .inl (k 0, 4, .inl (fun i => nI (tk i)))), (h0, .inr (8, moL ma (va_up (va_up (va_up (va_up (va_up (va_up (va_up iv 26 (nI sv9)) 27 (nI bf)) 24 (nI rows)) 21 (nI pu.2.2.2.1)) 22 (nI pu.2.2.2.2.2)) 20 (nI pu.2.2.2.2.1)) 19 (nI pu.2.2.1)) co)), ((ma 21), .inl (k 0, 319840, .inl (fun i => nI (p13.1 i)))), ((ma 22), .inl (k 0, 3998, .inl (fun i => nI (p13.2.1 i)))), ((ma 23), .inl (k 2, 3998, .inl (fun i => nI (p13.2.2 i)))), ((ma 24), .inl (k 0, 170, .inl (fun i => nI (pu.1 i)))), ((ma 25), .inl (k 0, 170, .inl (fun i => nI (pu.2.1 i))))] := S
          obtain ⟨hX, hn1, htr, dA, dB, hob⟩ := hw27
          refine lv_aload_n hx hb d_Mo_scaled_65 rfl (lv_at hl 0 rfl) ?_
          refine lv_sipush (v := 3997) hx hb d_Mo_scaled_66 (by decide) ?_
          have hV := hT_p13.2 3997 (by omega)
          rw [show (va_up (va_up T 3990 ((((1 : Int64) <<< ((nI kk).toInt64 &&& 63))).toInt)) 3991 0) 3997 = T 3997 by rw [va_up_ne _ _ (by omega), va_up_ne _ _ (by omega)]] at hV
          have hV3 := tbO_pos (T := T) hV hS.2.2.1
          refine r_backv (wi := [(h0, .inr (8, moL ma (va_up (va_up (va_up (va_up (va_up (va_up (va_up iv 26 (nI sv9)) 27 (nI bf)) 24 (nI rows)) 21 (nI pu.2.2.2.1)) 22 (nI pu.2.2.2.2.2)) 20 (nI pu.2.2.2.2.1)) 19 (nI pu.2.2.1)) co)), ((ma 21), .inl (k 0, 319840, .inl (fun i => nI (p13.1 i)))), ((ma 22), .inl (k 0, 3998, .inl (fun i => nI (p13.2.1 i)))), ((ma 24), .inl (k 0, 170, .inl (fun i => nI (pu.1 i)))), ((ma 26), .inl (k 0, 170, .inl (fun i => nI (qt i)))), ((ma 27), .inl (k 0, 170, .inl (fun i => nI (Dv i))))]) (wr := [((ma 0), .inl (k 0, 4, .inl (fun i => nI (tk i)))), ((ma 23), .inl (k 2, 3998, .inl (fun i => nI (p13.2.2 i)))), ((ma 25), .inl (k 0, 170, .inl (fun i => nI (pu.2.1 i))))]) S hA [3, 4, 5, 7, 0, 1] [2, 6, 8] rfl rfl (by decide) (by decide) (va_runV (As := [.int 3997]) (rest := []) ⟨hx, hb, C.2.2.1, C.2.2.2.1, C.2.2.2.2.1⟩ (g_Mo_divide l G k h0 _ 3997 pu.2.2.1 ma (va_up (va_up (va_up (va_up (va_up (va_up iv 26 (nI sv9)) 27 (nI bf)) 24 (nI rows)) 21 (nI pu.2.2.2.1)) 22 (nI pu.2.2.2.2.2)) 20 (nI pu.2.2.2.2.1)) co p13.1 p13.2.1 pu.1 qt Dv (by omega) hV.1 hV3.1 hV3.2 hn1 hT_p13.1 dA dQ dD) (k_virt (n := 1) C wc_Mo_divide rfl rfl wz_Mo wm_Mo_354 wn_Mo_divide ws_Mo_divide (by decide +kernel) ⟨(Nat.le_of_ble_eq_true rfl), (Nat.le_of_ble_eq_true rfl)⟩) (pr_nowV K S [3, 4, 5, 7, 0, 1] (by decide) rfl 3 rfl rfl) rfl rfl hl.1 rfl (lv_room (Nat.le_of_ble_eq_true rfl)) d_Mo_scaled_69 ⟨(Nat.le_of_ble_eq_true rfl), (Nat.le_of_ble_eq_true rfl)⟩) (fun du H locs hw28 S => ?_)
          have S : Sw G A s.heap _ _ [((ma 0), .inl (k 0, 4, .inl (fun i => nI (tk i)))), ((ma 23), .inl (k 2, 3998, .inl (fun i => nI (p13.2.2 i)))), ((ma 25), .inl (k 0, 170, .inl (fun i => nI (pu.2.1 i)))), (h0, .inr (8, moL ma (va_up (va_up (va_up (va_up (va_up (va_up (va_up (va_up iv 26 (nI sv9)) 27 (nI bf)) 24 (nI rows)) 21 (nI pu.2.2.2.1)) 22 (nI pu.2.2.2.2.2)) 20 (nI pu.2.2.2.2.1)) 19 (nI pu.2.2.1)) 23 (nI du.2.2.2)) co)), ((ma 21), .inl (k 0, 319840, .inl (fun i => nI (p13.1 i)))), ((ma 22), .inl (k 0, 3998, .inl (fun i => nI (p13.2.1 i)))), ((ma 24), .inl (k 0, 170, .inl (fun i => nI (du.1 i)))), ((ma 26), .inl (k 0, 170, .inl (fun i => nI (du.2.1 i)))), ((ma 27), .inl (k 0, 170, .inl (fun i => nI (du.2.2.1 i))))] := S
          obtain ⟨hD1, hD2, hD3, dA2, dQ9, dV9⟩ := hw28
          refine lv_lconst (v := 0) hx hb d_Mo_scaled_72 (by decide) ?_
          refine lv_lstore_n (lv' := [(3, .long 0), (0, .ref h0), (1, .int 3), (2, .int (nI kk))]) hx hb d_Mo_scaled_73 rfl hl (by decide) rfl (fun ls hl => ?_)
          refine lv_aload_n hx hb d_Mo_scaled_74 rfl (lv_at hl 1 rfl) ?_
          refine r_get C K S 3 rfl rfl clOk_Mo 52 (by decide) wf_Mo_313 (v := .int (nI du.2.2.2)) rfl d_Mo_scaled_75 ?_
          refine lv_iconst (v := 4) hx hb d_Mo_scaled_78 (by decide) ?_
          refine z_icmp_le (a := du.2.2.2) (b := 4) (tgt := 86) hx hb d_Mo_scaled_79 (by decide) (by omega) (by omega) (fun hc29 => ?_) (fun hc29 => ?_)
          · refine lv_aload_n hx hb d_Mo_scaled_86 rfl (lv_at hl 1 rfl) ?_
            refine r_get C K S 3 rfl rfl clOk_Mo 52 (by decide) wf_Mo_313 (v := .int (nI du.2.2.2)) rfl d_Mo_scaled_87 ?_
            refine lv_iconst (v := 1) hx hb d_Mo_scaled_90 (by decide) ?_
            rcases Nat.eq_zero_or_pos du.2.2.2 with hz | hz
            · refine z_isub (x := nI du.2.2.2) (y := 1) (v := (-1)) hx hb d_Mo_scaled_91 (by rw [hz]; decide) ?_
              refine lv_istore (lv' := [(5, .int (-1)), (3, .long 0), (0, .ref h0), (1, .int 3), (2, .int (nI kk))]) hx hb d_Mo_scaled_92 hl (by decide) rfl (fun ls hl => ?_)
              refine lv_iload hx hb d_Mo_scaled_94 (lv_at hl 0 rfl) ?_
              refine lv_if_lt (tgt := 119) hx hb d_Mo_scaled_96 (by decide) (fun _ => ?_) (fun hq => absurd (by decide) hq)
              refine lv_lload_n hx hb d_Mo_scaled_119 rfl (lv_at hl 1 rfl) ?_
              exact r_lret C K (uz [p13.1, p13.2.1, p13.2.2, du.1, pu.2.1, du.2.1, du.2.2.1], fz (nI pu.2.2.1) (nI pu.2.2.2.2.1) (nI pu.2.2.2.1) (nI pu.2.2.2.2.2) (nI du.2.2.2)) ⟨⟨_, hT_p13, fun c hc => by rw [va_up_ne _ _ (by omega), va_up_ne _ _ (by omega)]⟩, dA2, dB, dQ9, dV9⟩ (S.sub [3, 0, 4, 5, 1, 6, 2, 7, 8] (by decide) rfl) d_Mo_scaled_120 (Nat.le_of_ble_eq_true rfl) (Nat.le_of_ble_eq_true rfl)
            · refine z_isub (x := nI du.2.2.2) (y := 1) (v := nI (du.2.2.2 - 1)) hx hb d_Mo_scaled_91 (pk_sub (a := du.2.2.2) (b := 1) (by omega)) ?_
              refine lv_istore (lv' := [(5, .int (nI (du.2.2.2 - 1))), (3, .long 0), (0, .ref h0), (1, .int 3), (2, .int (nI kk))]) hx hb d_Mo_scaled_92 hl (by decide) rfl (fun ls hl => ?_)
              refine lv_iload hx hb d_Mo_scaled_94 (lv_at hl 0 rfl) ?_
              refine z_if_lt (a := (du.2.2.2 - 1)) (tgt := 119) hx hb d_Mo_scaled_96 (by decide) (by omega) ?_
              have lv : ∀ d9, ∀ (k9 : Nat), ∀ (x9 : Int64), k9 < d9 → (k9 ≤ 161) → ∀ (H : Heap) (locs : List Loc), Sw G A s.heap H locs [((ma 0), .inl (k 0, 4, .inl (fun i => nI (tk i)))), ((ma 23), .inl (k 2, 3998, .inl (fun i => nI (p13.2.2 i)))), ((ma 25), .inl (k 0, 170, .inl (fun i => nI (pu.2.1 i)))), (h0, .inr (8, moL ma (va_up (va_up (va_up (va_up (va_up (va_up (va_up (va_up iv 26 (nI sv9)) 27 (nI bf)) 24 (nI rows)) 21 (nI pu.2.2.2.1)) 22 (nI pu.2.2.2.2.2)) 20 (nI pu.2.2.2.2.1)) 19 (nI pu.2.2.1)) 23 (nI du.2.2.2)) co)), ((ma 21), .inl (k 0, 319840, .inl (fun i => nI (p13.1 i)))), ((ma 22), .inl (k 0, 3998, .inl (fun i => nI (p13.2.1 i)))), ((ma 24), .inl (k 0, 170, .inl (fun i => nI (du.1 i)))), ((ma 26), .inl (k 0, 170, .inl (fun i => nI (du.2.1 i)))), ((ma 27), .inl (k 0, 170, .inl (fun i => nI (du.2.2.1 i))))] → ∀ ls : Array Slot, lv_has ls 6 [(5, .int (nI k9)), (3, .long x9), (0, .ref h0), (1, .int 3), (2, .int (nI kk))] → W p l e { frames := 4, cells := 0, slots := 0, locals := 164 } s m [Value.ref h0, Value.int xi, Value.int xk].toArray below meth c H locs 0 0 (MQ below (va_Ql (fun (r : Int64) (u : (Nat → Nat → Nat) × (Nat → Int32)) => (∃ T9, tbO (u.1 0) (u.1 1) (u.1 2) T9 ∧ ∀ c, c < 3990 ∨ c = 3994 ∨ c = 3997 → T9 c = T c) ∧ (∀ i, i < 170 → u.1 3 i < 65536) ∧ (∀ i, i < 170 → u.1 4 i < 65536) ∧ (∀ i, i < 170 → u.1 5 i < 65536) ∧ (∀ i, i < 170 → u.1 6 i < 65536)) (Po G k A (fun u => [(h0, .inr (8, moL ma (va_up (va_up (va_up (va_up (va_up (va_up (va_up (va_up iv 26 (nI sv9)) 27 (nI bf)) 24 (nI rows)) 19 (u.2 0)) 20 (u.2 1)) 21 (u.2 2)) 22 (u.2 3)) 23 (u.2 4)) co)), ((ma 0), .inl (k 0, 4, .inl (fun i => nI (tk i)))), ((ma 21), .inl (k 0, 319840, .inl (fun i => nI (u.1 0 i)))), ((ma 22), .inl (k 0, 3998, .inl (fun i => nI (u.1 1 i)))), ((ma 23), .inl (k 2, 3998, .inl (fun i => nI (u.1 2 i)))), ((ma 24), .inl (k 0, 170, .inl (fun i => nI (u.1 3 i)))), ((ma 25), .inl (k 0, 170, .inl (fun i => nI (u.1 4 i)))), ((ma 26), .inl (k 0, 170, .inl (fun i => nI (u.1 5 i)))), ((ma 27), .inl (k 0, 170, .inl (fun i => nI (u.1 6 i))))])) A) [Value.ref h0, Value.int xi, Value.int xk].toArray s 0 0 A) (F0 m 99 ls []) := by
                intro d9
                induction d9 with
                | zero => intro k9 x9 hm; exact absurd hm (Nat.not_lt_zero _)
                | succ d9 ih_lv =>
                  intro k9 x9 hm hk H locs S ls hl
                  have q7 := dQ9 k9 (by omega)
                  refine lv_lload_n hx hb d_Mo_scaled_99 rfl (lv_at hl 1 rfl) ?_
                  refine lv_bipush (v := 16) hx hb d_Mo_scaled_100 (by decide) ?_
                  refine lv_lshl (v := (x9 <<< ((16 : Int32).toInt64 &&& 63))) hx hb d_Mo_scaled_102 rfl ?_
                  refine lv_aload_n hx hb d_Mo_scaled_103 rfl (lv_at hl 2 rfl) ?_
                  refine r_get C K S 3 rfl rfl clOk_Mo 46 (by decide) wf_Mo_99 (v := .ref (ma 26)) rfl d_Mo_scaled_104 ?_
                  refine lv_iload hx hb d_Mo_scaled_107 (lv_at hl 0 rfl) ?_
                  refine r_iald C K S 7 rfl (i := nI k9) (show vp_in (nI k9) _ from vp_in_nI (n := k9) (by omega) (by decide)) (v := nI (du.2.1 k9)) (by rw [nI_clamp (by omega)]) d_Mo_scaled_109 ?_
                  refine lv_i2l (v := lN (du.2.1 k9)) hx hb d_Mo_scaled_110 (show (nI (du.2.1 k9) : Int32).toInt64 = _ from nI_l (n := (du.2.1 k9)) (by omega)) ?_
                  refine lv_lor hx hb d_Mo_scaled_111 ?_
                  refine lv_lstore_n (lv' := [(3, .long ((x9 <<< ((16 : Int32).toInt64 &&& 63)) ||| (lN (du.2.1 k9)))), (5, .int (nI k9)), (0, .ref h0), (1, .int 3), (2, .int (nI kk))]) hx hb d_Mo_scaled_112 rfl hl (by decide) rfl (fun ls hl => ?_)
                  rcases Nat.eq_zero_or_pos k9 with hz9 | hz9
                  · refine lv_iinc (v := (-1)) (lv' := [(5, .int (-1)), (3, .long ((x9 <<< ((16 : Int32).toInt64 &&& 63)) ||| (lN (du.2.1 k9)))), (0, .ref h0), (1, .int 3), (2, .int (nI kk))]) hx hb d_Mo_scaled_113 hl (k := 1) rfl (by rw [hz9]; decide) (by decide) rfl (fun ls hl => ?_)
                    refine lv_goto (tgt := 94) hx hb d_Mo_scaled_116 (by decide) ?_
                    refine lv_iload hx hb d_Mo_scaled_94 (lv_at hl 0 rfl) ?_
                    refine lv_if_lt (tgt := 119) hx hb d_Mo_scaled_96 (by decide) (fun _ => ?_) (fun hq => absurd (by decide) hq)
                    refine lv_lload_n hx hb d_Mo_scaled_119 rfl (lv_at hl 1 rfl) ?_
                    exact r_lret C K (uz [p13.1, p13.2.1, p13.2.2, du.1, pu.2.1, du.2.1, du.2.2.1], fz (nI pu.2.2.1) (nI pu.2.2.2.2.1) (nI pu.2.2.2.1) (nI pu.2.2.2.2.2) (nI du.2.2.2)) ⟨⟨_, hT_p13, fun c hc => by rw [va_up_ne _ _ (by omega), va_up_ne _ _ (by omega)]⟩, dA2, dB, dQ9, dV9⟩ (S.sub [3, 0, 4, 5, 1, 6, 2, 7, 8] (by decide) rfl) d_Mo_scaled_120 (Nat.le_of_ble_eq_true rfl) (Nat.le_of_ble_eq_true rfl)
                  · refine lv_iinc (v := nI (k9 - 1)) (lv' := [(5, .int (nI (k9 - 1))), (3, .long ((x9 <<< ((16 : Int32).toInt64 &&& 63)) ||| (lN (du.2.1 k9)))), (0, .ref h0), (1, .int 3), (2, .int (nI kk))]) hx hb d_Mo_scaled_113 hl (k := 1) rfl (z_m1 (a := k9) (by omega)) (by decide) rfl (fun ls hl => ?_)
                    refine lv_goto (tgt := 94) hx hb d_Mo_scaled_116 (by decide) ?_
                    refine lv_iload hx hb d_Mo_scaled_94 (lv_at hl 0 rfl) ?_
                    refine z_if_lt (a := (k9 - 1)) (tgt := 119) hx hb d_Mo_scaled_96 (by decide) (by omega) ?_
                    exact ih_lv (k9 - 1) ((x9 <<< ((16 : Int32).toInt64 &&& 63)) ||| (lN (du.2.1 k9))) (by omega) (by omega) _ _ (S.sub [0, 1, 2, 3, 4, 5, 6, 7, 8] (by decide) rfl) ls (lv_sub hl [0, 1, 2, 3, 4] rfl)
              exact lv _ (du.2.2.2 - 1) 0 (Nat.lt_succ_self _) (by omega) _ _ (S.sub [0, 1, 2, 3, 4, 5, 6, 7, 8] (by decide) rfl) ls (lv_sub hl [0, 1, 2, 3, 4] rfl)
          · refine lv_iconst (v := 3) hx hb d_Mo_scaled_82 (by decide) ?_
            refine lv_goto (tgt := 92) hx hb d_Mo_scaled_83 (by decide) ?_
            refine lv_istore (lv' := [(5, .int 3), (3, .long 0), (0, .ref h0), (1, .int 3), (2, .int (nI kk))]) hx hb d_Mo_scaled_92 hl (by decide) rfl (fun ls hl => ?_)
            refine lv_iload hx hb d_Mo_scaled_94 (lv_at hl 0 rfl) ?_
            refine lv_if_lt (tgt := 119) hx hb d_Mo_scaled_96 (by decide) (fun hq => absurd hq (by decide)) (fun _ => ?_)
            have lv : ∀ d9, ∀ (k9 : Nat), ∀ (x9 : Int64), k9 < d9 → (k9 ≤ 161) → ∀ (H : Heap) (locs : List Loc), Sw G A s.heap H locs [((ma 0), .inl (k 0, 4, .inl (fun i => nI (tk i)))), ((ma 23), .inl (k 2, 3998, .inl (fun i => nI (p13.2.2 i)))), ((ma 25), .inl (k 0, 170, .inl (fun i => nI (pu.2.1 i)))), (h0, .inr (8, moL ma (va_up (va_up (va_up (va_up (va_up (va_up (va_up (va_up iv 26 (nI sv9)) 27 (nI bf)) 24 (nI rows)) 21 (nI pu.2.2.2.1)) 22 (nI pu.2.2.2.2.2)) 20 (nI pu.2.2.2.2.1)) 19 (nI pu.2.2.1)) 23 (nI du.2.2.2)) co)), ((ma 21), .inl (k 0, 319840, .inl (fun i => nI (p13.1 i)))), ((ma 22), .inl (k 0, 3998, .inl (fun i => nI (p13.2.1 i)))), ((ma 24), .inl (k 0, 170, .inl (fun i => nI (du.1 i)))), ((ma 26), .inl (k 0, 170, .inl (fun i => nI (du.2.1 i)))), ((ma 27), .inl (k 0, 170, .inl (fun i => nI (du.2.2.1 i))))] → ∀ ls : Array Slot, lv_has ls 6 [(5, .int (nI k9)), (3, .long x9), (0, .ref h0), (1, .int 3), (2, .int (nI kk))] → W p l e { frames := 4, cells := 0, slots := 0, locals := 164 } s m [Value.ref h0, Value.int xi, Value.int xk].toArray below meth c H locs 0 0 (MQ below (va_Ql (fun (r : Int64) (u : (Nat → Nat → Nat) × (Nat → Int32)) => (∃ T9, tbO (u.1 0) (u.1 1) (u.1 2) T9 ∧ ∀ c, c < 3990 ∨ c = 3994 ∨ c = 3997 → T9 c = T c) ∧ (∀ i, i < 170 → u.1 3 i < 65536) ∧ (∀ i, i < 170 → u.1 4 i < 65536) ∧ (∀ i, i < 170 → u.1 5 i < 65536) ∧ (∀ i, i < 170 → u.1 6 i < 65536)) (Po G k A (fun u => [(h0, .inr (8, moL ma (va_up (va_up (va_up (va_up (va_up (va_up (va_up (va_up iv 26 (nI sv9)) 27 (nI bf)) 24 (nI rows)) 19 (u.2 0)) 20 (u.2 1)) 21 (u.2 2)) 22 (u.2 3)) 23 (u.2 4)) co)), ((ma 0), .inl (k 0, 4, .inl (fun i => nI (tk i)))), ((ma 21), .inl (k 0, 319840, .inl (fun i => nI (u.1 0 i)))), ((ma 22), .inl (k 0, 3998, .inl (fun i => nI (u.1 1 i)))), ((ma 23), .inl (k 2, 3998, .inl (fun i => nI (u.1 2 i)))), ((ma 24), .inl (k 0, 170, .inl (fun i => nI (u.1 3 i)))), ((ma 25), .inl (k 0, 170, .inl (fun i => nI (u.1 4 i)))), ((ma 26), .inl (k 0, 170, .inl (fun i => nI (u.1 5 i)))), ((ma 27), .inl (k 0, 170, .inl (fun i => nI (u.1 6 i))))])) A) [Value.ref h0, Value.int xi, Value.int xk].toArray s 0 0 A) (F0 m 99 ls []) := by
              intro d9
              induction d9 with
              | zero => intro k9 x9 hm; exact absurd hm (Nat.not_lt_zero _)
              | succ d9 ih_lv =>
                intro k9 x9 hm hk H locs S ls hl
                have q7 := dQ9 k9 (by omega)
                refine lv_lload_n hx hb d_Mo_scaled_99 rfl (lv_at hl 1 rfl) ?_
                refine lv_bipush (v := 16) hx hb d_Mo_scaled_100 (by decide) ?_
                refine lv_lshl (v := (x9 <<< ((16 : Int32).toInt64 &&& 63))) hx hb d_Mo_scaled_102 rfl ?_
                refine lv_aload_n hx hb d_Mo_scaled_103 rfl (lv_at hl 2 rfl) ?_
                refine r_get C K S 3 rfl rfl clOk_Mo 46 (by decide) wf_Mo_99 (v := .ref (ma 26)) rfl d_Mo_scaled_104 ?_
                refine lv_iload hx hb d_Mo_scaled_107 (lv_at hl 0 rfl) ?_
                refine r_iald C K S 7 rfl (i := nI k9) (show vp_in (nI k9) _ from vp_in_nI (n := k9) (by omega) (by decide)) (v := nI (du.2.1 k9)) (by rw [nI_clamp (by omega)]) d_Mo_scaled_109 ?_
                refine lv_i2l (v := lN (du.2.1 k9)) hx hb d_Mo_scaled_110 (show (nI (du.2.1 k9) : Int32).toInt64 = _ from nI_l (n := (du.2.1 k9)) (by omega)) ?_
                refine lv_lor hx hb d_Mo_scaled_111 ?_
                refine lv_lstore_n (lv' := [(3, .long ((x9 <<< ((16 : Int32).toInt64 &&& 63)) ||| (lN (du.2.1 k9)))), (5, .int (nI k9)), (0, .ref h0), (1, .int 3), (2, .int (nI kk))]) hx hb d_Mo_scaled_112 rfl hl (by decide) rfl (fun ls hl => ?_)
                rcases Nat.eq_zero_or_pos k9 with hz9 | hz9
                · refine lv_iinc (v := (-1)) (lv' := [(5, .int (-1)), (3, .long ((x9 <<< ((16 : Int32).toInt64 &&& 63)) ||| (lN (du.2.1 k9)))), (0, .ref h0), (1, .int 3), (2, .int (nI kk))]) hx hb d_Mo_scaled_113 hl (k := 1) rfl (by rw [hz9]; decide) (by decide) rfl (fun ls hl => ?_)
                  refine lv_goto (tgt := 94) hx hb d_Mo_scaled_116 (by decide) ?_
                  refine lv_iload hx hb d_Mo_scaled_94 (lv_at hl 0 rfl) ?_
                  refine lv_if_lt (tgt := 119) hx hb d_Mo_scaled_96 (by decide) (fun _ => ?_) (fun hq => absurd (by decide) hq)
                  refine lv_lload_n hx hb d_Mo_scaled_119 rfl (lv_at hl 1 rfl) ?_
                  exact r_lret C K (uz [p13.1, p13.2.1, p13.2.2, du.1, pu.2.1, du.2.1, du.2.2.1], fz (nI pu.2.2.1) (nI pu.2.2.2.2.1) (nI pu.2.2.2.1) (nI pu.2.2.2.2.2) (nI du.2.2.2)) ⟨⟨_, hT_p13, fun c hc => by rw [va_up_ne _ _ (by omega), va_up_ne _ _ (by omega)]⟩, dA2, dB, dQ9, dV9⟩ (S.sub [3, 0, 4, 5, 1, 6, 2, 7, 8] (by decide) rfl) d_Mo_scaled_120 (Nat.le_of_ble_eq_true rfl) (Nat.le_of_ble_eq_true rfl)
                · refine lv_iinc (v := nI (k9 - 1)) (lv' := [(5, .int (nI (k9 - 1))), (3, .long ((x9 <<< ((16 : Int32).toInt64 &&& 63)) ||| (lN (du.2.1 k9)))), (0, .ref h0), (1, .int 3), (2, .int (nI kk))]) hx hb d_Mo_scaled_113 hl (k := 1) rfl (z_m1 (a := k9) (by omega)) (by decide) rfl (fun ls hl => ?_)
                  refine lv_goto (tgt := 94) hx hb d_Mo_scaled_116 (by decide) ?_
                  refine lv_iload hx hb d_Mo_scaled_94 (lv_at hl 0 rfl) ?_
                  refine z_if_lt (a := (k9 - 1)) (tgt := 119) hx hb d_Mo_scaled_96 (by decide) (by omega) ?_
                  exact ih_lv (k9 - 1) ((x9 <<< ((16 : Int32).toInt64 &&& 63)) ||| (lN (du.2.1 k9))) (by omega) (by omega) _ _ (S.sub [0, 1, 2, 3, 4, 5, 6, 7, 8] (by decide) rfl) ls (lv_sub hl [0, 1, 2, 3, 4] rfl)
            exact lv _ 3 0 (Nat.lt_succ_self _) (by omega) _ _ (S.sub [0, 1, 2, 3, 4, 5, 6, 7, 8] (by decide) rfl) ls (lv_sub hl [0, 1, 2, 3, 4] rfl)
        · have hl : lv_has ls 6 [(0, .ref h0), (1, .int xi), (2, .int (nI kk))] := by rw [← hke]; exact hl
          refine lv_aload_n hx hb d_Mo_scaled_17 rfl (lv_at hl 0 rfl) ?_
          refine lv_iload_n hx hb d_Mo_scaled_18 rfl (lv_at hl 1 rfl) ?_
          refine r_backi (wi := [(h0, .inr (8, moL ma (va_up (va_up (va_up iv 26 (nI sv9)) 27 (nI bf)) 24 (nI rows)) co)), ((ma 0), .inl (k 0, 4, .inl (fun i => nI (tk i))))]) (wr := [((ma 21), .inl (k 0, 319840, .inl (fun i => nI (dg i)))), ((ma 22), .inl (k 0, 3998, .inl (fun i => nI (sz i)))), ((ma 23), .inl (k 2, 3998, .inl (fun i => nI (bl i)))), ((ma 24), .inl (k 0, 170, .inl (fun i => nI (O i)))), ((ma 25), .inl (k 0, 170, .inl (fun i => nI (T2 i)))), ((ma 26), .inl (k 0, 170, .inl (fun i => nI (qt i)))), ((ma 27), .inl (k 0, 170, .inl (fun i => nI (Dv i))))]) S hA [0, 1] [2, 3, 4, 5, 6, 7, 8] rfl rfl (by decide) (by decide) (va_runV (As := [.int xi]) (rest := []) ⟨hx, hb, C.2.2.1, C.2.2.2.1, C.2.2.2.2.1⟩ (g_Mo_boundAt_no l G k h0 _ xi sv9 bf rows ma iv co tk (by first | assumption | omega) (by first | assumption | omega) (by first | assumption | omega) hve) (k_virt (n := 1) C wc_Mo_boundAt rfl rfl wz_Mo wm_Mo_404 wn_Mo_boundAt ws_Mo_boundAt (by decide +kernel) ⟨(Nat.le_of_ble_eq_true rfl), (Nat.le_of_ble_eq_true rfl)⟩) (pr_nowV K S [0, 1] (by decide) rfl 0 rfl rfl) rfl rfl hl.1 rfl (lv_room (Nat.le_of_ble_eq_true rfl)) d_Mo_scaled_19 ⟨(Nat.le_of_ble_eq_true rfl), (Nat.le_of_ble_eq_true rfl)⟩) (fun r32 u30 H locs hw31 S => ?_)
          have S : Sw G A s.heap _ _ [((ma 21), .inl (k 0, 319840, .inl (fun i => nI (dg i)))), ((ma 22), .inl (k 0, 3998, .inl (fun i => nI (sz i)))), ((ma 23), .inl (k 2, 3998, .inl (fun i => nI (bl i)))), ((ma 24), .inl (k 0, 170, .inl (fun i => nI (O i)))), ((ma 25), .inl (k 0, 170, .inl (fun i => nI (T2 i)))), ((ma 26), .inl (k 0, 170, .inl (fun i => nI (qt i)))), ((ma 27), .inl (k 0, 170, .inl (fun i => nI (Dv i)))), (h0, .inr (8, moL ma (va_up (va_up (va_up iv 26 (nI sv9)) 27 (nI bf)) 24 (nI rows)) co)), ((ma 0), .inl (k 0, 4, .inl (fun i => nI (tk i))))] := S
          obtain ⟨hw310, hp33⟩ := hw31
          obtain rfl : r32 = -1 := hw310
          refine lv_if_ge (tgt := 29) hx hb d_Mo_scaled_22 (by decide) (fun hq => absurd hq (by decide)) (fun _ => ?_)
          refine lv_ldc2 (v := (-2)) hx hb C.2.2.2.1 (C.2.2.2.2.1 _ wk_Mo_407) d_Mo_scaled_25 ?_
          exact r_lret C K (uz [dg, sz, bl, O, T2, qt, Dv], fun j => iv (19 + j)) ⟨⟨T, hT, fun _ _ => rfl⟩, dO, d2, dQ, dD⟩ (S.sub [7, 8, 0, 1, 2, 3, 4, 5, 6] (by decide) rfl) d_Mo_scaled_28 (Nat.le_of_ble_eq_true rfl) (Nat.le_of_ble_eq_true rfl)
