section
/-- the cells that hold the best bounds are not large -/
def solO (n rows : Nat) (T : Nat → Int) : Prop := n ≤ 3 ∧ rows ≤ 90 ∧ 0 < T 3997 ∧ (T 3997).natAbs < 65536 ^ 42 ∧ ∀ i, i ≤ n → (T (42 * (rows + 1 + i) + 41)).natAbs < 65536 ^ 42
theorem ba_cases (xi : Int32) {n : Nat} (hn : n ≤ 3) : (∃ v, v < n ∧ xi = nI v) ∨ xi = 3 ∨ ((xi < 0 ∨ nI n ≤ xi) ∧ xi ≠ 3) := by
  by_cases q : xi = 3
  · exact Or.inr (Or.inl q)
  · by_cases q1 : xi < 0
    · exact Or.inr (Or.inr ⟨Or.inl q1, q⟩)
    · by_cases q2 : xi < nI n
      · exact Or.inl ⟨xi.toNatClampNeg, nn_lt q1 (by omega) q2, (nn_of q1).symm⟩
      · exact Or.inr (Or.inr ⟨Or.inr (Int32.not_lt.mp q2), q⟩)
theorem l1sh : ∀ kk, kk < 41 → -9223372036854775808 < ((1 : Int64) <<< ((nI kk).toInt64 &&& 63)).toInt ∧ ((1 : Int64) <<< ((nI kk).toInt64 &&& 63)).toInt.natAbs < 65536 ^ 4 := by decide +kernel
theorem k_le40 {k9 : Int32} (h1 : ¬ k9 < 0) (h2 : ¬ 40 < k9) : ∃ kk, kk < 41 ∧ k9 = nI kk := by
  refine ⟨k9.toNatClampNeg, ?_, (nn_of h1).symm⟩
  rw [Int32.lt_iff_toInt_lt, show (0 : Int32).toInt = 0 by decide] at h1
  rw [Int32.lt_iff_toInt_lt, show (40 : Int32).toInt = 40 by decide] at h2
  have h4 : k9.toNatClampNeg = k9.toInt.toNat := rfl
  omega
theorem d_Mo_boundAt_0 : decode c_Mo_boundAt 0 = .ok (.aload_n 0, 1) := by decide +kernel
theorem d_Mo_boundAt_1 : decode c_Mo_boundAt 1 = .ok (.getfield 9, 3) := by decide +kernel
theorem d_Mo_boundAt_4 : decode c_Mo_boundAt 4 = .ok (.aload_n 0, 1) := by decide +kernel
theorem d_Mo_boundAt_5 : decode c_Mo_boundAt 5 = .ok (.getfield 392, 3) := by decide +kernel
theorem d_Mo_boundAt_8 : decode c_Mo_boundAt 8 = .ok (.iaload, 1) := by decide +kernel
theorem d_Mo_boundAt_9 : decode c_Mo_boundAt 9 = .ok (.istore_n 2, 1) := by decide +kernel
theorem d_Mo_boundAt_10 : decode c_Mo_boundAt 10 = .ok (.iload_n 1, 1) := by decide +kernel
theorem d_Mo_boundAt_11 : decode c_Mo_boundAt 11 = .ok (.ifCond .lt 24, 3) := by decide +kernel
theorem d_Mo_boundAt_14 : decode c_Mo_boundAt 14 = .ok (.iload_n 1, 1) := by decide +kernel
theorem d_Mo_boundAt_15 : decode c_Mo_boundAt 15 = .ok (.iload_n 2, 1) := by decide +kernel
theorem d_Mo_boundAt_16 : decode c_Mo_boundAt 16 = .ok (.if_icmp .ge 19, 3) := by decide +kernel
theorem d_Mo_boundAt_19 : decode c_Mo_boundAt 19 = .ok (.aload_n 0, 1) := by decide +kernel
theorem d_Mo_boundAt_20 : decode c_Mo_boundAt 20 = .ok (.getfield 333, 3) := by decide +kernel
theorem d_Mo_boundAt_23 : decode c_Mo_boundAt 23 = .ok (.iconst 1, 1) := by decide +kernel
theorem d_Mo_boundAt_24 : decode c_Mo_boundAt 24 = .ok (.iadd, 1) := by decide +kernel
theorem d_Mo_boundAt_25 : decode c_Mo_boundAt 25 = .ok (.iload_n 1, 1) := by decide +kernel
theorem d_Mo_boundAt_26 : decode c_Mo_boundAt 26 = .ok (.iadd, 1) := by decide +kernel
theorem d_Mo_boundAt_27 : decode c_Mo_boundAt 27 = .ok (.bipush 41, 2) := by decide +kernel
theorem d_Mo_boundAt_29 : decode c_Mo_boundAt 29 = .ok (.invokestatic 328, 3) := by decide +kernel
theorem d_Mo_boundAt_32 : decode c_Mo_boundAt 32 = .ok (.goto 25, 3) := by decide +kernel
theorem d_Mo_boundAt_35 : decode c_Mo_boundAt 35 = .ok (.iload_n 1, 1) := by decide +kernel
theorem d_Mo_boundAt_36 : decode c_Mo_boundAt 36 = .ok (.iconst 3, 1) := by decide +kernel
theorem d_Mo_boundAt_37 : decode c_Mo_boundAt 37 = .ok (.if_icmp .ne 19, 3) := by decide +kernel
theorem d_Mo_boundAt_40 : decode c_Mo_boundAt 40 = .ok (.aload_n 0, 1) := by decide +kernel
theorem d_Mo_boundAt_41 : decode c_Mo_boundAt 41 = .ok (.getfield 333, 3) := by decide +kernel
theorem d_Mo_boundAt_44 : decode c_Mo_boundAt 44 = .ok (.iconst 1, 1) := by decide +kernel
theorem d_Mo_boundAt_45 : decode c_Mo_boundAt 45 = .ok (.iadd, 1) := by decide +kernel
theorem d_Mo_boundAt_46 : decode c_Mo_boundAt 46 = .ok (.iload_n 2, 1) := by decide +kernel
theorem d_Mo_boundAt_47 : decode c_Mo_boundAt 47 = .ok (.iadd, 1) := by decide +kernel
theorem d_Mo_boundAt_48 : decode c_Mo_boundAt 48 = .ok (.bipush 41, 2) := by decide +kernel
theorem d_Mo_boundAt_50 : decode c_Mo_boundAt 50 = .ok (.invokestatic 328, 3) := by decide +kernel
theorem d_Mo_boundAt_53 : decode c_Mo_boundAt 53 = .ok (.goto 4, 3) := by decide +kernel
theorem d_Mo_boundAt_56 : decode c_Mo_boundAt 56 = .ok (.iconst (-1), 1) := by decide +kernel
theorem d_Mo_boundAt_57 : decode c_Mo_boundAt 57 = .ok (.ireturn, 1) := by decide +kernel
set_option maxRecDepth 100000 in
set_option maxHeartbeats 16000000 in
/-- Mo_boundAt_i -/
theorem g_Mo_boundAt_i (l : Launch) (G : va_G) (k : Nat → ClassId) (h0 : Nat) (s0 : Nat) (v9 : Nat) (sv9 : Nat) (bf : Nat) (rows : Nat) (ma : Nat → Nat) (iv : Nat → Int32) (co : Int64) (tk : Nat → Nat) (hbf : bf < 4) (hn : tk bf ≤ 3) (hro : rows ≤ 90) (hv : v9 < tk bf) : CI l y_Mo_boundAt c_Mo_boundAt 3 .int { frames := 1, cells := 0, slots := 0, locals := 21 } [.ref h0, .int (nI v9)] G k s0 [(h0, .inr (8, moL ma (va_up (va_up (va_up iv 26 (nI sv9)) 27 (nI bf)) 24 (nI rows)) co)), ((ma 0), .inl (k 0, 4, .inl (fun i => nI (tk i))))] (fun (r : Int32) (u : Unit) => r = nI (42 * (rows + 1 + v9) + 41) ∧ True) (fun u => [(h0, .inr (8, moL ma (va_up (va_up (va_up iv 26 (nI sv9)) 27 (nI bf)) 24 (nI rows)) co)), ((ma 0), .inl (k 0, 4, .inl (fun i => nI (tk i))))]) 0 0 := by
  refine met_start (by decide) (Nat.le_of_ble_eq_true rfl) ?_
  intro p e s m below meth c C K hA hsz S ls hl
  generalize va_A [(h0, .inr (8, moL ma (va_up (va_up (va_up iv 26 (nI sv9)) 27 (nI bf)) 24 (nI rows)) co)), ((ma 0), .inl (k 0, 4, .inl (fun i => nI (tk i))))] s0 = A at hA S ⊢
  have hx := C.1
  have hb := C.2.1
  have hl : lv_has ls 3 [(0, .ref h0), (1, .int (nI v9))] := hl
  refine lv_aload_n hx hb d_Mo_boundAt_0 rfl (lv_at hl 0 rfl) ?_
  refine r_get C K S 0 rfl rfl clOk_Mo 1 (by decide) wf_Mo_9 (v := .ref (ma 0)) rfl d_Mo_boundAt_1 ?_
  refine lv_aload_n hx hb d_Mo_boundAt_4 rfl (lv_at hl 0 rfl) ?_
  refine r_get C K S 0 rfl rfl clOk_Mo 58 (by decide) wf_Mo_392 (v := .int (nI bf)) rfl d_Mo_boundAt_5 ?_
  refine r_iald C K S 1 rfl (i := nI bf) (show vp_in (nI bf) _ from vp_in_nI (n := bf) (by omega) (by decide)) (v := nI (tk bf)) (by rw [nI_clamp (by omega)]) d_Mo_boundAt_8 ?_
  refine lv_istore_n (lv' := [(2, .int (nI (tk bf))), (0, .ref h0), (1, .int (nI v9))]) hx hb d_Mo_boundAt_9 rfl hl (by decide) rfl (fun ls hl => ?_)
  refine lv_iload_n hx hb d_Mo_boundAt_10 rfl (lv_at hl 2 rfl) ?_
  refine z_if_lt (a := v9) (tgt := 35) hx hb d_Mo_boundAt_11 (by decide) (by omega) ?_
  refine lv_iload_n hx hb d_Mo_boundAt_14 rfl (lv_at hl 2 rfl) ?_
  refine lv_iload_n hx hb d_Mo_boundAt_15 rfl (lv_at hl 0 rfl) ?_
  refine z_icmp_ge (a := v9) (b := (tk bf)) (tgt := 35) hx hb d_Mo_boundAt_16 (by decide) (by omega) (by omega) (fun hc1 => False.elim (by omega)) (fun hc1 => ?_)
  refine lv_aload_n hx hb d_Mo_boundAt_19 rfl (lv_at hl 1 rfl) ?_
  refine r_get C K S 0 rfl rfl clOk_Mo 53 (by decide) wf_Mo_333 (v := .int (nI rows)) rfl d_Mo_boundAt_20 ?_
  refine lv_iconst (v := 1) hx hb d_Mo_boundAt_23 (by decide) ?_
  refine z_iadd (x := nI rows) (y := 1) (v := nI (rows + 1)) hx hb d_Mo_boundAt_24 (nI_add rows 1) ?_
  refine lv_iload_n hx hb d_Mo_boundAt_25 rfl (lv_at hl 2 rfl) ?_
  refine z_iadd (x := nI (rows + 1)) (y := nI v9) (v := nI (rows + 1 + v9)) hx hb d_Mo_boundAt_26 (nI_add (rows + 1) v9) ?_
  refine lv_bipush (v := 41) hx hb d_Mo_boundAt_27 (by decide) ?_
  refine r_backi (wi := []) (wr := [(h0, .inr (8, moL ma (va_up (va_up (va_up iv 26 (nI sv9)) 27 (nI bf)) 24 (nI rows)) co)), ((ma 0), .inl (k 0, 4, .inl (fun i => nI (tk i))))]) S hA [] [0, 1] rfl rfl (by decide) (by decide) (va_runS (As := [.int (nI (rows + 1 + v9)), .int 41]) (rest := []) ⟨hx, hb, C.2.2.1, C.2.2.2.1, C.2.2.2.2.1⟩ (g_Mo_at l G k _ (rows + 1 + v9) 41) (k_stat (n := 2) C wc_Mo_at rfl rfl wz_Mo wm_Mo_328 wt_Mo_at (by decide +kernel) ⟨(Nat.le_of_ble_eq_true rfl), (Nat.le_of_ble_eq_true rfl)⟩) (pr_now K S [] (by decide) rfl) rfl rfl hl.1 rfl (lv_room (Nat.le_of_ble_eq_true rfl)) d_Mo_boundAt_29 ⟨(Nat.le_of_ble_eq_true rfl), (Nat.le_of_ble_eq_true rfl)⟩) (fun r4 u2 H locs hw3 S => ?_)
  have S : Sw G A s.heap _ _ [(h0, .inr (8, moL ma (va_up (va_up (va_up iv 26 (nI sv9)) 27 (nI bf)) 24 (nI rows)) co)), ((ma 0), .inl (k 0, 4, .inl (fun i => nI (tk i))))] := S
  obtain rfl : r4 = nI (42 * (rows + 1 + v9) + 41) := hw3
  refine lv_goto (tgt := 57) hx hb d_Mo_boundAt_32 (by decide) ?_
  exact r_iret C K rfl () ⟨rfl, trivial⟩ (S.sub [0, 1] (by decide) rfl) d_Mo_boundAt_57 (Nat.le_of_ble_eq_true rfl) (Nat.le_of_ble_eq_true rfl)
set_option maxRecDepth 100000 in
set_option maxHeartbeats 16000000 in
/-- Mo_boundAt_3 -/
theorem g_Mo_boundAt_3 (l : Launch) (G : va_G) (k : Nat → ClassId) (h0 : Nat) (s0 : Nat) (sv9 : Nat) (bf : Nat) (rows : Nat) (ma : Nat → Nat) (iv : Nat → Int32) (co : Int64) (tk : Nat → Nat) (hbf : bf < 4) (hn : tk bf ≤ 3) (hro : rows ≤ 90) : CI l y_Mo_boundAt c_Mo_boundAt 3 .int { frames := 1, cells := 0, slots := 0, locals := 21 } [.ref h0, .int 3] G k s0 [(h0, .inr (8, moL ma (va_up (va_up (va_up iv 26 (nI sv9)) 27 (nI bf)) 24 (nI rows)) co)), ((ma 0), .inl (k 0, 4, .inl (fun i => nI (tk i))))] (fun (r : Int32) (u : Unit) => r = nI (42 * (rows + 1 + tk bf) + 41) ∧ True) (fun u => [(h0, .inr (8, moL ma (va_up (va_up (va_up iv 26 (nI sv9)) 27 (nI bf)) 24 (nI rows)) co)), ((ma 0), .inl (k 0, 4, .inl (fun i => nI (tk i))))]) 0 0 := by
  refine met_start (by decide) (Nat.le_of_ble_eq_true rfl) ?_
  intro p e s m below meth c C K hA hsz S ls hl
  generalize va_A [(h0, .inr (8, moL ma (va_up (va_up (va_up iv 26 (nI sv9)) 27 (nI bf)) 24 (nI rows)) co)), ((ma 0), .inl (k 0, 4, .inl (fun i => nI (tk i))))] s0 = A at hA S ⊢
  have hx := C.1
  have hb := C.2.1
  have hl : lv_has ls 3 [(0, .ref h0), (1, .int 3)] := hl
  refine lv_aload_n hx hb d_Mo_boundAt_0 rfl (lv_at hl 0 rfl) ?_
  refine r_get C K S 0 rfl rfl clOk_Mo 1 (by decide) wf_Mo_9 (v := .ref (ma 0)) rfl d_Mo_boundAt_1 ?_
  refine lv_aload_n hx hb d_Mo_boundAt_4 rfl (lv_at hl 0 rfl) ?_
  refine r_get C K S 0 rfl rfl clOk_Mo 58 (by decide) wf_Mo_392 (v := .int (nI bf)) rfl d_Mo_boundAt_5 ?_
  refine r_iald C K S 1 rfl (i := nI bf) (show vp_in (nI bf) _ from vp_in_nI (n := bf) (by omega) (by decide)) (v := nI (tk bf)) (by rw [nI_clamp (by omega)]) d_Mo_boundAt_8 ?_
  refine lv_istore_n (lv' := [(2, .int (nI (tk bf))), (0, .ref h0), (1, .int 3)]) hx hb d_Mo_boundAt_9 rfl hl (by decide) rfl (fun ls hl => ?_)
  refine lv_iload_n hx hb d_Mo_boundAt_10 rfl (lv_at hl 2 rfl) ?_
  refine lv_if_lt (tgt := 35) hx hb d_Mo_boundAt_11 (by decide) (fun hq => absurd hq (by decide)) (fun _ => ?_)
  refine lv_iload_n hx hb d_Mo_boundAt_14 rfl (lv_at hl 2 rfl) ?_
  refine lv_iload_n hx hb d_Mo_boundAt_15 rfl (lv_at hl 0 rfl) ?_
  refine z_icmp_ge (a := 3) (b := (tk bf)) (tgt := 35) hx hb d_Mo_boundAt_16 (by decide) (by omega) (by omega) (fun hc1 => ?_) (fun hc1 => False.elim (by omega))
  refine lv_iload_n hx hb d_Mo_boundAt_35 rfl (lv_at hl 2 rfl) ?_
  refine lv_iconst (v := 3) hx hb d_Mo_boundAt_36 (by decide) ?_
  refine lv_icmp_ne (tgt := 56) hx hb d_Mo_boundAt_37 (by decide) (fun hq => absurd (by decide) hq) (fun _ => ?_)
  refine lv_aload_n hx hb d_Mo_boundAt_40 rfl (lv_at hl 1 rfl) ?_
  refine r_get C K S 0 rfl rfl clOk_Mo 53 (by decide) wf_Mo_333 (v := .int (nI rows)) rfl d_Mo_boundAt_41 ?_
  refine lv_iconst (v := 1) hx hb d_Mo_boundAt_44 (by decide) ?_
  refine z_iadd (x := nI rows) (y := 1) (v := nI (rows + 1)) hx hb d_Mo_boundAt_45 (nI_add rows 1) ?_
  refine lv_iload_n hx hb d_Mo_boundAt_46 rfl (lv_at hl 0 rfl) ?_
  refine z_iadd (x := nI (rows + 1)) (y := nI (tk bf)) (v := nI (rows + 1 + tk bf)) hx hb d_Mo_boundAt_47 (nI_add (rows + 1) (tk bf)) ?_
  refine lv_bipush (v := 41) hx hb d_Mo_boundAt_48 (by decide) ?_
  refine r_backi (wi := []) (wr := [(h0, .inr (8, moL ma (va_up (va_up (va_up iv 26 (nI sv9)) 27 (nI bf)) 24 (nI rows)) co)), ((ma 0), .inl (k 0, 4, .inl (fun i => nI (tk i))))]) S hA [] [0, 1] rfl rfl (by decide) (by decide) (va_runS (As := [.int (nI (rows + 1 + tk bf)), .int 41]) (rest := []) ⟨hx, hb, C.2.2.1, C.2.2.2.1, C.2.2.2.2.1⟩ (g_Mo_at l G k _ (rows + 1 + tk bf) 41) (k_stat (n := 2) C wc_Mo_at rfl rfl wz_Mo wm_Mo_328 wt_Mo_at (by decide +kernel) ⟨(Nat.le_of_ble_eq_true rfl), (Nat.le_of_ble_eq_true rfl)⟩) (pr_now K S [] (by decide) rfl) rfl rfl hl.1 rfl (lv_room (Nat.le_of_ble_eq_true rfl)) d_Mo_boundAt_50 ⟨(Nat.le_of_ble_eq_true rfl), (Nat.le_of_ble_eq_true rfl)⟩) (fun r4 u2 H locs hw3 S => ?_)
  have S : Sw G A s.heap _ _ [(h0, .inr (8, moL ma (va_up (va_up (va_up iv 26 (nI sv9)) 27 (nI bf)) 24 (nI rows)) co)), ((ma 0), .inl (k 0, 4, .inl (fun i => nI (tk i))))] := S
  obtain rfl : r4 = nI (42 * (rows + 1 + tk bf) + 41) := hw3
  refine lv_goto (tgt := 57) hx hb d_Mo_boundAt_53 (by decide) ?_
  exact r_iret C K rfl () ⟨rfl, trivial⟩ (S.sub [0, 1] (by decide) rfl) d_Mo_boundAt_57 (Nat.le_of_ble_eq_true rfl) (Nat.le_of_ble_eq_true rfl)
set_option maxRecDepth 100000 in
set_option maxHeartbeats 16000000 in
/-- Mo_boundAt_no -/
theorem g_Mo_boundAt_no (l : Launch) (G : va_G) (k : Nat → ClassId) (h0 : Nat) (s0 : Nat) (xi : Int32) (sv9 : Nat) (bf : Nat) (rows : Nat) (ma : Nat → Nat) (iv : Nat → Int32) (co : Int64) (tk : Nat → Nat) (hbf : bf < 4) (hn : tk bf ≤ 3) (hro : rows ≤ 90) (hv : (xi < 0 ∨ nI (tk bf) ≤ xi) ∧ xi ≠ 3) : CI l y_Mo_boundAt c_Mo_boundAt 3 .int { frames := 1, cells := 0, slots := 0, locals := 21 } [.ref h0, .int xi] G k s0 [(h0, .inr (8, moL ma (va_up (va_up (va_up iv 26 (nI sv9)) 27 (nI bf)) 24 (nI rows)) co)), ((ma 0), .inl (k 0, 4, .inl (fun i => nI (tk i))))] (fun (r : Int32) (u : Unit) => r = -1 ∧ True) (fun u => [(h0, .inr (8, moL ma (va_up (va_up (va_up iv 26 (nI sv9)) 27 (nI bf)) 24 (nI rows)) co)), ((ma 0), .inl (k 0, 4, .inl (fun i => nI (tk i))))]) 0 0 := by
  refine met_start (by decide) (Nat.le_of_ble_eq_true rfl) ?_
  intro p e s m below meth c C K hA hsz S ls hl
  generalize va_A [(h0, .inr (8, moL ma (va_up (va_up (va_up iv 26 (nI sv9)) 27 (nI bf)) 24 (nI rows)) co)), ((ma 0), .inl (k 0, 4, .inl (fun i => nI (tk i))))] s0 = A at hA S ⊢
  have hx := C.1
  have hb := C.2.1
  have hl : lv_has ls 3 [(0, .ref h0), (1, .int xi)] := hl
  refine lv_aload_n hx hb d_Mo_boundAt_0 rfl (lv_at hl 0 rfl) ?_
  refine r_get C K S 0 rfl rfl clOk_Mo 1 (by decide) wf_Mo_9 (v := .ref (ma 0)) rfl d_Mo_boundAt_1 ?_
  refine lv_aload_n hx hb d_Mo_boundAt_4 rfl (lv_at hl 0 rfl) ?_
  refine r_get C K S 0 rfl rfl clOk_Mo 58 (by decide) wf_Mo_392 (v := .int (nI bf)) rfl d_Mo_boundAt_5 ?_
  refine r_iald C K S 1 rfl (i := nI bf) (show vp_in (nI bf) _ from vp_in_nI (n := bf) (by omega) (by decide)) (v := nI (tk bf)) (by rw [nI_clamp (by omega)]) d_Mo_boundAt_8 ?_
  refine lv_istore_n (lv' := [(2, .int (nI (tk bf))), (0, .ref h0), (1, .int xi)]) hx hb d_Mo_boundAt_9 rfl hl (by decide) rfl (fun ls hl => ?_)
  refine lv_iload_n hx hb d_Mo_boundAt_10 rfl (lv_at hl 2 rfl) ?_
  refine lv_if_lt (tgt := 35) hx hb d_Mo_boundAt_11 (by decide) (fun hc1 => ?_) (fun hc1 => ?_)
  · refine lv_iload_n hx hb d_Mo_boundAt_35 rfl (lv_at hl 2 rfl) ?_
    refine lv_iconst (v := 3) hx hb d_Mo_boundAt_36 (by decide) ?_
    refine lv_icmp_ne (tgt := 56) hx hb d_Mo_boundAt_37 (by decide) (fun hc2 => ?_) (fun hc2 => ?_)
    · refine lv_iconst (v := (-1)) hx hb d_Mo_boundAt_56 (by decide) ?_
      exact r_iret C K rfl () ⟨rfl, trivial⟩ (S.sub [0, 1] (by decide) rfl) d_Mo_boundAt_57 (Nat.le_of_ble_eq_true rfl) (Nat.le_of_ble_eq_true rfl)
    · refine lv_aload_n hx hb d_Mo_boundAt_40 rfl (lv_at hl 1 rfl) ?_
      refine r_get C K S 0 rfl rfl clOk_Mo 53 (by decide) wf_Mo_333 (v := .int (nI rows)) rfl d_Mo_boundAt_41 ?_
      refine lv_iconst (v := 1) hx hb d_Mo_boundAt_44 (by decide) ?_
      refine z_iadd (x := nI rows) (y := 1) (v := nI (rows + 1)) hx hb d_Mo_boundAt_45 (nI_add rows 1) ?_
      refine lv_iload_n hx hb d_Mo_boundAt_46 rfl (lv_at hl 0 rfl) ?_
      refine z_iadd (x := nI (rows + 1)) (y := nI (tk bf)) (v := nI (rows + 1 + tk bf)) hx hb d_Mo_boundAt_47 (nI_add (rows + 1) (tk bf)) ?_
      refine lv_bipush (v := 41) hx hb d_Mo_boundAt_48 (by decide) ?_
      refine r_backi (wi := []) (wr := [(h0, .inr (8, moL ma (va_up (va_up (va_up iv 26 (nI sv9)) 27 (nI bf)) 24 (nI rows)) co)), ((ma 0), .inl (k 0, 4, .inl (fun i => nI (tk i))))]) S hA [] [0, 1] rfl rfl (by decide) (by decide) (va_runS (As := [.int (nI (rows + 1 + tk bf)), .int 41]) (rest := []) ⟨hx, hb, C.2.2.1, C.2.2.2.1, C.2.2.2.2.1⟩ (g_Mo_at l G k _ (rows + 1 + tk bf) 41) (k_stat (n := 2) C wc_Mo_at rfl rfl wz_Mo wm_Mo_328 wt_Mo_at (by decide +kernel) ⟨(Nat.le_of_ble_eq_true rfl), (Nat.le_of_ble_eq_true rfl)⟩) (pr_now K S [] (by decide) rfl) rfl rfl hl.1 rfl (lv_room (Nat.le_of_ble_eq_true rfl)) d_Mo_boundAt_50 ⟨(Nat.le_of_ble_eq_true rfl), (Nat.le_of_ble_eq_true rfl)⟩) (fun r5 u3 H locs hw4 S => ?_)
      have S : Sw G A s.heap _ _ [(h0, .inr (8, moL ma (va_up (va_up (va_up iv 26 (nI sv9)) 27 (nI bf)) 24 (nI rows)) co)), ((ma 0), .inl (k 0, 4, .inl (fun i => nI (tk i))))] := S
      obtain rfl : r5 = nI (42 * (rows + 1 + tk bf) + 41) := hw4
      refine lv_goto (tgt := 57) hx hb d_Mo_boundAt_53 (by decide) ?_
      exact absurd hc2 hv.2
  · refine lv_iload_n hx hb d_Mo_boundAt_14 rfl (lv_at hl 2 rfl) ?_
    refine lv_iload_n hx hb d_Mo_boundAt_15 rfl (lv_at hl 0 rfl) ?_
    refine lv_icmp_ge (tgt := 35) hx hb d_Mo_boundAt_16 (by decide) (fun hc7 => ?_) (fun hc7 => ?_)
    · refine lv_iload_n hx hb d_Mo_boundAt_35 rfl (lv_at hl 2 rfl) ?_
      refine lv_iconst (v := 3) hx hb d_Mo_boundAt_36 (by decide) ?_
      refine lv_icmp_ne (tgt := 56) hx hb d_Mo_boundAt_37 (by decide) (fun hc8 => ?_) (fun hc8 => ?_)
      · refine lv_iconst (v := (-1)) hx hb d_Mo_boundAt_56 (by decide) ?_
        exact r_iret C K rfl () ⟨rfl, trivial⟩ (S.sub [0, 1] (by decide) rfl) d_Mo_boundAt_57 (Nat.le_of_ble_eq_true rfl) (Nat.le_of_ble_eq_true rfl)
      · refine lv_aload_n hx hb d_Mo_boundAt_40 rfl (lv_at hl 1 rfl) ?_
        refine r_get C K S 0 rfl rfl clOk_Mo 53 (by decide) wf_Mo_333 (v := .int (nI rows)) rfl d_Mo_boundAt_41 ?_
        refine lv_iconst (v := 1) hx hb d_Mo_boundAt_44 (by decide) ?_
        refine z_iadd (x := nI rows) (y := 1) (v := nI (rows + 1)) hx hb d_Mo_boundAt_45 (nI_add rows 1) ?_
        refine lv_iload_n hx hb d_Mo_boundAt_46 rfl (lv_at hl 0 rfl) ?_
        refine z_iadd (x := nI (rows + 1)) (y := nI (tk bf)) (v := nI (rows + 1 + tk bf)) hx hb d_Mo_boundAt_47 (nI_add (rows + 1) (tk bf)) ?_
        refine lv_bipush (v := 41) hx hb d_Mo_boundAt_48 (by decide) ?_
        refine r_backi (wi := []) (wr := [(h0, .inr (8, moL ma (va_up (va_up (va_up iv 26 (nI sv9)) 27 (nI bf)) 24 (nI rows)) co)), ((ma 0), .inl (k 0, 4, .inl (fun i => nI (tk i))))]) S hA [] [0, 1] rfl rfl (by decide) (by decide) (va_runS (As := [.int (nI (rows + 1 + tk bf)), .int 41]) (rest := []) ⟨hx, hb, C.2.2.1, C.2.2.2.1, C.2.2.2.2.1⟩ (g_Mo_at l G k _ (rows + 1 + tk bf) 41) (k_stat (n := 2) C wc_Mo_at rfl rfl wz_Mo wm_Mo_328 wt_Mo_at (by decide +kernel) ⟨(Nat.le_of_ble_eq_true rfl), (Nat.le_of_ble_eq_true rfl)⟩) (pr_now K S [] (by decide) rfl) rfl rfl hl.1 rfl (lv_room (Nat.le_of_ble_eq_true rfl)) d_Mo_boundAt_50 ⟨(Nat.le_of_ble_eq_true rfl), (Nat.le_of_ble_eq_true rfl)⟩) (fun r11 u9 H locs hw10 S => ?_)
        have S : Sw G A s.heap _ _ [(h0, .inr (8, moL ma (va_up (va_up (va_up iv 26 (nI sv9)) 27 (nI bf)) 24 (nI rows)) co)), ((ma 0), .inl (k 0, 4, .inl (fun i => nI (tk i))))] := S
        obtain rfl : r11 = nI (42 * (rows + 1 + tk bf) + 41) := hw10
        refine lv_goto (tgt := 57) hx hb d_Mo_boundAt_53 (by decide) ?_
        exact absurd hc8 hv.2
    · exact hv.1.elim (fun q => absurd q hc1) (fun q => absurd q hc7)
theorem d_Mo_scaled_0 : decode c_Mo_scaled 0 = .ok (.aload_n 0, 1) := by decide +kernel
theorem d_Mo_scaled_1 : decode c_Mo_scaled 1 = .ok (.getfield 383, 3) := by decide +kernel
theorem d_Mo_scaled_4 : decode c_Mo_scaled 4 = .ok (.ifCond .eq 21, 3) := by decide +kernel
theorem d_Mo_scaled_7 : decode c_Mo_scaled 7 = .ok (.iload_n 2, 1) := by decide +kernel
theorem d_Mo_scaled_8 : decode c_Mo_scaled 8 = .ok (.ifCond .lt 17, 3) := by decide +kernel
theorem d_Mo_scaled_11 : decode c_Mo_scaled 11 = .ok (.iload_n 2, 1) := by decide +kernel
theorem d_Mo_scaled_12 : decode c_Mo_scaled 12 = .ok (.bipush 40, 2) := by decide +kernel
theorem d_Mo_scaled_14 : decode c_Mo_scaled 14 = .ok (.if_icmp .gt 11, 3) := by decide +kernel
theorem d_Mo_scaled_17 : decode c_Mo_scaled 17 = .ok (.aload_n 0, 1) := by decide +kernel
theorem d_Mo_scaled_18 : decode c_Mo_scaled 18 = .ok (.iload_n 1, 1) := by decide +kernel
theorem d_Mo_scaled_19 : decode c_Mo_scaled 19 = .ok (.invokevirtual 404, 3) := by decide +kernel
theorem d_Mo_scaled_22 : decode c_Mo_scaled 22 = .ok (.ifCond .ge 7, 3) := by decide +kernel
theorem d_Mo_scaled_25 : decode c_Mo_scaled 25 = .ok (.ldc2_w 407, 3) := by decide +kernel
theorem d_Mo_scaled_28 : decode c_Mo_scaled 28 = .ok (.lreturn, 1) := by decide +kernel
theorem d_Mo_scaled_29 : decode c_Mo_scaled 29 = .ok (.aload_n 0, 1) := by decide +kernel
theorem d_Mo_scaled_30 : decode c_Mo_scaled 30 = .ok (.sipush 3990, 3) := by decide +kernel
theorem d_Mo_scaled_33 : decode c_Mo_scaled 33 = .ok (.lconst 1, 1) := by decide +kernel
theorem d_Mo_scaled_34 : decode c_Mo_scaled 34 = .ok (.iload_n 2, 1) := by decide +kernel
theorem d_Mo_scaled_35 : decode c_Mo_scaled 35 = .ok (.lshl, 1) := by decide +kernel
theorem d_Mo_scaled_36 : decode c_Mo_scaled 36 = .ok (.invokevirtual 360, 3) := by decide +kernel
theorem d_Mo_scaled_39 : decode c_Mo_scaled 39 = .ok (.aload_n 0, 1) := by decide +kernel
theorem d_Mo_scaled_40 : decode c_Mo_scaled 40 = .ok (.sipush 3991, 3) := by decide +kernel
theorem d_Mo_scaled_43 : decode c_Mo_scaled 43 = .ok (.lconst 0, 1) := by decide +kernel
theorem d_Mo_scaled_44 : decode c_Mo_scaled 44 = .ok (.invokevirtual 360, 3) := by decide +kernel
theorem d_Mo_scaled_47 : decode c_Mo_scaled 47 = .ok (.aload_n 0, 1) := by decide +kernel
theorem d_Mo_scaled_48 : decode c_Mo_scaled 48 = .ok (.aload_n 0, 1) := by decide +kernel
theorem d_Mo_scaled_49 : decode c_Mo_scaled 49 = .ok (.iload_n 1, 1) := by decide +kernel
theorem d_Mo_scaled_50 : decode c_Mo_scaled 50 = .ok (.invokevirtual 404, 3) := by decide +kernel
theorem d_Mo_scaled_53 : decode c_Mo_scaled 53 = .ok (.sipush 3990, 3) := by decide +kernel
theorem d_Mo_scaled_56 : decode c_Mo_scaled 56 = .ok (.sipush 3991, 3) := by decide +kernel
theorem d_Mo_scaled_59 : decode c_Mo_scaled 59 = .ok (.sipush 3991, 3) := by decide +kernel
theorem d_Mo_scaled_62 : decode c_Mo_scaled 62 = .ok (.invokevirtual 351, 3) := by decide +kernel
theorem d_Mo_scaled_65 : decode c_Mo_scaled 65 = .ok (.aload_n 0, 1) := by decide +kernel
theorem d_Mo_scaled_66 : decode c_Mo_scaled 66 = .ok (.sipush 3997, 3) := by decide +kernel
theorem d_Mo_scaled_69 : decode c_Mo_scaled 69 = .ok (.invokevirtual 354, 3) := by decide +kernel
theorem d_Mo_scaled_72 : decode c_Mo_scaled 72 = .ok (.lconst 0, 1) := by decide +kernel
theorem d_Mo_scaled_73 : decode c_Mo_scaled 73 = .ok (.lstore_n 3, 1) := by decide +kernel
theorem d_Mo_scaled_74 : decode c_Mo_scaled 74 = .ok (.aload_n 0, 1) := by decide +kernel
theorem d_Mo_scaled_75 : decode c_Mo_scaled 75 = .ok (.getfield 313, 3) := by decide +kernel
theorem d_Mo_scaled_78 : decode c_Mo_scaled 78 = .ok (.iconst 4, 1) := by decide +kernel
theorem d_Mo_scaled_79 : decode c_Mo_scaled 79 = .ok (.if_icmp .le 7, 3) := by decide +kernel
theorem d_Mo_scaled_82 : decode c_Mo_scaled 82 = .ok (.iconst 3, 1) := by decide +kernel
theorem d_Mo_scaled_83 : decode c_Mo_scaled 83 = .ok (.goto 9, 3) := by decide +kernel
theorem d_Mo_scaled_86 : decode c_Mo_scaled 86 = .ok (.aload_n 0, 1) := by decide +kernel
theorem d_Mo_scaled_87 : decode c_Mo_scaled 87 = .ok (.getfield 313, 3) := by decide +kernel
theorem d_Mo_scaled_90 : decode c_Mo_scaled 90 = .ok (.iconst 1, 1) := by decide +kernel
theorem d_Mo_scaled_91 : decode c_Mo_scaled 91 = .ok (.isub, 1) := by decide +kernel
theorem d_Mo_scaled_92 : decode c_Mo_scaled 92 = .ok (.istore 5, 2) := by decide +kernel
theorem d_Mo_scaled_94 : decode c_Mo_scaled 94 = .ok (.iload 5, 2) := by decide +kernel
theorem d_Mo_scaled_96 : decode c_Mo_scaled 96 = .ok (.ifCond .lt 23, 3) := by decide +kernel
theorem d_Mo_scaled_99 : decode c_Mo_scaled 99 = .ok (.lload_n 3, 1) := by decide +kernel
theorem d_Mo_scaled_100 : decode c_Mo_scaled 100 = .ok (.bipush 16, 2) := by decide +kernel
theorem d_Mo_scaled_102 : decode c_Mo_scaled 102 = .ok (.lshl, 1) := by decide +kernel
theorem d_Mo_scaled_103 : decode c_Mo_scaled 103 = .ok (.aload_n 0, 1) := by decide +kernel
theorem d_Mo_scaled_104 : decode c_Mo_scaled 104 = .ok (.getfield 99, 3) := by decide +kernel
theorem d_Mo_scaled_107 : decode c_Mo_scaled 107 = .ok (.iload 5, 2) := by decide +kernel
theorem d_Mo_scaled_109 : decode c_Mo_scaled 109 = .ok (.iaload, 1) := by decide +kernel
theorem d_Mo_scaled_110 : decode c_Mo_scaled 110 = .ok (.i2l, 1) := by decide +kernel
theorem d_Mo_scaled_111 : decode c_Mo_scaled 111 = .ok (.lor, 1) := by decide +kernel
theorem d_Mo_scaled_112 : decode c_Mo_scaled 112 = .ok (.lstore_n 3, 1) := by decide +kernel
theorem d_Mo_scaled_113 : decode c_Mo_scaled 113 = .ok (.iinc 5 (-1), 3) := by decide +kernel
theorem d_Mo_scaled_116 : decode c_Mo_scaled 116 = .ok (.goto (-22), 3) := by decide +kernel
theorem d_Mo_scaled_119 : decode c_Mo_scaled 119 = .ok (.lload_n 3, 1) := by decide +kernel
theorem d_Mo_scaled_120 : decode c_Mo_scaled 120 = .ok (.lreturn, 1) := by decide +kernel
set_option maxRecDepth 100000 in
set_option maxHeartbeats 16000000 in
/-- scaled(xi, xk) -/
theorem g_Mo_scaled (l : Launch) (G : va_G) (k : Nat → ClassId) (h0 : Nat) (s0 : Nat) (xi : Int32) (xk : Int32) (sv9 : Nat) (bf : Nat) (rows : Nat) (ma : Nat → Nat) (iv : Nat → Int32) (co : Int64) (tk : Nat → Nat) (dg : Nat → Nat) (sz : Nat → Nat) (bl : Nat → Nat) (O : Nat → Nat) (T2 : Nat → Nat) (qt : Nat → Nat) (Dv : Nat → Nat) (T : Nat → Int) (hT : tbO dg sz bl T) (hsv : sv9 ≤ 1) (hbf : bf < 4) (hok : sv9 = 1 → solO (tk bf) rows T) (dO : ∀ i, i < 170 → O i < 65536) (d2 : ∀ i, i < 170 → T2 i < 65536) (dQ : ∀ i, i < 170 → qt i < 65536) (dD : ∀ i, i < 170 → Dv i < 65536) : CL l y_Mo_scaled c_Mo_scaled 6 { frames := 4, cells := 0, slots := 0, locals := 164 } [.ref h0, .int xi, .int xk] G k s0 [(h0, .inr (8, moL ma (va_up (va_up (va_up iv 26 (nI sv9)) 27 (nI bf)) 24 (nI rows)) co)), ((ma 0), .inl (k 0, 4, .inl (fun i => nI (tk i)))), ((ma 21), .inl (k 0, 319840, .inl (fun i => nI (dg i)))), ((ma 22), .inl (k 0, 3998, .inl (fun i => nI (sz i)))), ((ma 23), .inl (k 2, 3998, .inl (fun i => nI (bl i)))), ((ma 24), .inl (k 0, 170, .inl (fun i => nI (O i)))), ((ma 25), .inl (k 0, 170, .inl (fun i => nI (T2 i)))), ((ma 26), .inl (k 0, 170, .inl (fun i => nI (qt i)))), ((ma 27), .inl (k 0, 170, .inl (fun i => nI (Dv i))))] (fun (r : Int64) (u : (Nat → Nat → Nat) × (Nat → Int32)) => (∃ T9, tbO (u.1 0) (u.1 1) (u.1 2) T9 ∧ ∀ c, c < 3990 ∨ c = 3994 ∨ c = 3997 → T9 c = T c) ∧ (∀ i, i < 170 → u.1 3 i < 65536) ∧ (∀ i, i < 170 → u.1 4 i < 65536) ∧ (∀ i, i < 170 → u.1 5 i < 65536) ∧ (∀ i, i < 170 → u.1 6 i < 65536)) (fun u => [(h0, .inr (8, moL ma (va_up (va_up (va_up (va_up (va_up (va_up (va_up (va_up iv 26 (nI sv9)) 27 (nI bf)) 24 (nI rows)) 19 (u.2 0)) 20 (u.2 1)) 21 (u.2 2)) 22 (u.2 3)) 23 (u.2 4)) co)), ((ma 0), .inl (k 0, 4, .inl (fun i => nI (tk i)))), ((ma 21), .inl (k 0, 319840, .inl (fun i => nI (u.1 0 i)))), ((ma 22), .inl (k 0, 3998, .inl (fun i => nI (u.1 1 i)))), ((ma 23), .inl (k 2, 3998, .inl (fun i => nI (u.1 2 i)))), ((ma 24), .inl (k 0, 170, .inl (fun i => nI (u.1 3 i)))), ((ma 25), .inl (k 0, 170, .inl (fun i => nI (u.1 4 i)))), ((ma 26), .inl (k 0, 170, .inl (fun i => nI (u.1 5 i)))), ((ma 27), .inl (k 0, 170, .inl (fun i => nI (u.1 6 i))))]) 0 0 := by
  refine met_start (by decide) (Nat.le_of_ble_eq_true rfl) ?_
  intro p e s m below meth c C K hA hsz S ls hl
  generalize va_A [(h0, .inr (8, moL ma (va_up (va_up (va_up iv 26 (nI sv9)) 27 (nI bf)) 24 (nI rows)) co)), ((ma 0), .inl (k 0, 4, .inl (fun i => nI (tk i)))), ((ma 21), .inl (k 0, 319840, .inl (fun i => nI (dg i)))), ((ma 22), .inl (k 0, 3998, .inl (fun i => nI (sz i)))), ((ma 23), .inl (k 2, 3998, .inl (fun i => nI (bl i)))), ((ma 24), .inl (k 0, 170, .inl (fun i => nI (O i)))), ((ma 25), .inl (k 0, 170, .inl (fun i => nI (T2 i)))), ((ma 26), .inl (k 0, 170, .inl (fun i => nI (qt i)))), ((ma 27), .inl (k 0, 170, .inl (fun i => nI (Dv i))))] s0 = A at hA S ⊢
  have hx := C.1
  have hb := C.2.1
  have hl : lv_has ls 6 [(0, .ref h0), (1, .int xi), (2, .int xk)] := hl
  refine lv_aload_n hx hb d_Mo_scaled_0 rfl (lv_at hl 0 rfl) ?_
  refine r_get C K S 0 rfl rfl clOk_Mo 57 (by decide) wf_Mo_383 (v := .int (nI sv9)) rfl d_Mo_scaled_1 ?_
  refine z_if_eq (a := sv9) (tgt := 25) hx hb d_Mo_scaled_4 (by decide) (by omega) (fun hc1 => ?_) (fun hc1 => ?_)
  · refine lv_ldc2 (v := (-2)) hx hb C.2.2.2.1 (C.2.2.2.2.1 _ wk_Mo_407) d_Mo_scaled_25 ?_
    exact r_lret C K (uz [dg, sz, bl, O, T2, qt, Dv], fun j => iv (19 + j)) ⟨⟨T, hT, fun _ _ => rfl⟩, dO, d2, dQ, dD⟩ (S.sub [0, 1, 2, 3, 4, 5, 6, 7, 8] (by decide) rfl) d_Mo_scaled_28 (Nat.le_of_ble_eq_true rfl) (Nat.le_of_ble_eq_true rfl)
  · refine lv_iload_n hx hb d_Mo_scaled_7 rfl (lv_at hl 2 rfl) ?_
    refine lv_if_lt (tgt := 25) hx hb d_Mo_scaled_8 (by decide) (fun hc2 => ?_) (fun hc2 => ?_)
    · refine lv_ldc2 (v := (-2)) hx hb C.2.2.2.1 (C.2.2.2.2.1 _ wk_Mo_407) d_Mo_scaled_25 ?_
      exact r_lret C K (uz [dg, sz, bl, O, T2, qt, Dv], fun j => iv (19 + j)) ⟨⟨T, hT, fun _ _ => rfl⟩, dO, d2, dQ, dD⟩ (S.sub [0, 1, 2, 3, 4, 5, 6, 7, 8] (by decide) rfl) d_Mo_scaled_28 (Nat.le_of_ble_eq_true rfl) (Nat.le_of_ble_eq_true rfl)
    · refine lv_iload_n hx hb d_Mo_scaled_11 rfl (lv_at hl 2 rfl) ?_
      refine lv_bipush (v := 40) hx hb d_Mo_scaled_12 (by decide) ?_
      refine lv_icmp_gt (tgt := 25) hx hb d_Mo_scaled_14 (by decide) (fun hc3 => ?_) (fun hc3 => ?_)
      · refine lv_ldc2 (v := (-2)) hx hb C.2.2.2.1 (C.2.2.2.2.1 _ wk_Mo_407) d_Mo_scaled_25 ?_
        exact r_lret C K (uz [dg, sz, bl, O, T2, qt, Dv], fun j => iv (19 + j)) ⟨⟨T, hT, fun _ _ => rfl⟩, dO, d2, dQ, dD⟩ (S.sub [0, 1, 2, 3, 4, 5, 6, 7, 8] (by decide) rfl) d_Mo_scaled_28 (Nat.le_of_ble_eq_true rfl) (Nat.le_of_ble_eq_true rfl)
      · have hS := hok (by omega)
        have hn := hS.1
        have hro := hS.2.1
        obtain ⟨kk, hkk, hke⟩ := k_le40 hc2 hc3
        rcases ba_cases xi hn with ⟨v9, hv, hve⟩ | hve | hve
        · have hl : lv_has ls 6 [(0, .ref h0), (1, .int (nI v9)), (2, .int (nI kk))] := by rw [← hke, ← hve]; exact hl
          refine lv_aload_n hx hb d_Mo_scaled_17 rfl (lv_at hl 0 rfl) ?_
          refine lv_iload_n hx hb d_Mo_scaled_18 rfl (lv_at hl 1 rfl) ?_
          refine r_backi (wi := [(h0, .inr (8, moL ma (va_up (va_up (va_up iv 26 (nI sv9)) 27 (nI bf)) 24 (nI rows)) co)), ((ma 0), .inl (k 0, 4, .inl (fun i => nI (tk i))))]) (wr := [((ma 21), .inl (k 0, 319840, .inl (fun i => nI (dg i)))), ((ma 22), .inl (k 0, 3998, .inl (fun i => nI (sz i)))), ((ma 23), .inl (k 2, 3998, .inl (fun i => nI (bl i)))), ((ma 24), .inl (k 0, 170, .inl (fun i => nI (O i)))), ((ma 25), .inl (k 0, 170, .inl (fun i => nI (T2 i)))), ((ma 26), .inl (k 0, 170, .inl (fun i => nI (qt i)))), ((ma 27), .inl (k 0, 170, .inl (fun i => nI (Dv i))))]) S hA [0, 1] [2, 3, 4, 5, 6, 7, 8] rfl rfl (by decide) (by decide) (va_runV (As := [.int (nI v9)]) (rest := []) ⟨hx, hb, C.2.2.1, C.2.2.2.1, C.2.2.2.2.1⟩ (g_Mo_boundAt_i l G k h0 _ v9 sv9 bf rows ma iv co tk (by first | assumption | omega) (by first | assumption | omega) (by first | assumption | omega) hv) (k_virt (n := 1) C wc_Mo_boundAt rfl rfl wz_Mo wm_Mo_404 wn_Mo_boundAt ws_Mo_boundAt (by decide +kernel) ⟨(Nat.le_of_ble_eq_true rfl), (Nat.le_of_ble_eq_true rfl)⟩) (pr_nowV K S [0, 1] (by decide) rfl 0 rfl rfl) rfl rfl hl.1 rfl (lv_room (Nat.le_of_ble_eq_true rfl)) d_Mo_scaled_19 ⟨(Nat.le_of_ble_eq_true rfl), (Nat.le_of_ble_eq_true rfl)⟩) (fun r6 u4 H locs hw5 S => ?_)
          have S : Sw G A s.heap _ _ [((ma 21), .inl (k 0, 319840, .inl (fun i => nI (dg i)))), ((ma 22), .inl (k 0, 3998, .inl (fun i => nI (sz i)))), ((ma 23), .inl (k 2, 3998, .inl (fun i => nI (bl i)))), ((ma 24), .inl (k 0, 170, .inl (fun i => nI (O i)))), ((ma 25), .inl (k 0, 170, .inl (fun i => nI (T2 i)))), ((ma 26), .inl (k 0, 170, .inl (fun i => nI (qt i)))), ((ma 27), .inl (k 0, 170, .inl (fun i => nI (Dv i)))), (h0, .inr (8, moL ma (va_up (va_up (va_up iv 26 (nI sv9)) 27 (nI bf)) 24 (nI rows)) co)), ((ma 0), .inl (k 0, 4, .inl (fun i => nI (tk i))))] := S
          obtain ⟨hw50, hp7⟩ := hw5
          obtain rfl : r6 = nI (42 * (rows + 1 + v9) + 41) := hw50
          refine z_if_ge (a := (42 * (rows + 1 + v9) + 41)) (tgt := 29) hx hb d_Mo_scaled_22 (by decide) (by omega) ?_
          refine lv_aload_n hx hb d_Mo_scaled_29 rfl (lv_at hl 0 rfl) ?_
          refine lv_sipush (v := 3990) hx hb d_Mo_scaled_30 (by decide) ?_
          refine lv_lconst (v := 1) hx hb d_Mo_scaled_33 (by decide) ?_
          refine lv_iload_n hx hb d_Mo_scaled_34 rfl (lv_at hl 2 rfl) ?_
          refine lv_lshl (v := ((1 : Int64) <<< ((nI kk).toInt64 &&& 63))) hx hb d_Mo_scaled_35 rfl ?_
          refine r_backv (wi := [(h0, .inr (8, moL ma (va_up (va_up (va_up iv 26 (nI sv9)) 27 (nI bf)) 24 (nI rows)) co)), ((ma 21), .inl (k 0, 319840, .inl (fun i => nI (dg i)))), ((ma 22), .inl (k 0, 3998, .inl (fun i => nI (sz i)))), ((ma 23), .inl (k 2, 3998, .inl (fun i => nI (bl i))))]) (wr := [((ma 24), .inl (k 0, 170, .inl (fun i => nI (O i)))), ((ma 25), .inl (k 0, 170, .inl (fun i => nI (T2 i)))), ((ma 26), .inl (k 0, 170, .inl (fun i => nI (qt i)))), ((ma 27), .inl (k 0, 170, .inl (fun i => nI (Dv i)))), ((ma 0), .inl (k 0, 4, .inl (fun i => nI (tk i))))]) S hA [7, 0, 1, 2] [3, 4, 5, 6, 8] rfl rfl (by decide) (by decide) (va_runV (As := [.int 3990, .long ((1 : Int64) <<< ((nI kk).toInt64 &&& 63))]) (rest := []) ⟨hx, hb, C.2.2.1, C.2.2.2.1, C.2.2.2.2.1⟩ (g_Mo_putZ l G k h0 _ 3990 ((1 : Int64) <<< ((nI kk).toInt64 &&& 63)) ma (va_up (va_up (va_up iv 26 (nI sv9)) 27 (nI bf)) 24 (nI rows)) co dg sz bl T hT (by omega) (l1sh kk hkk).1) (k_virt (n := 2) C wc_Mo_put rfl rfl wz_Mo wm_Mo_360 wn_Mo_put ws_Mo_put (by decide +kernel) ⟨(Nat.le_of_ble_eq_true rfl), (Nat.le_of_ble_eq_true rfl)⟩) (pr_nowV K S [7, 0, 1, 2] (by decide) rfl 7 rfl rfl) rfl rfl hl.1 rfl (lv_room (Nat.le_of_ble_eq_true rfl)) d_Mo_scaled_36 ⟨(Nat.le_of_ble_eq_true rfl), (Nat.le_of_ble_eq_true rfl)⟩) (fun p10 H locs hw8 S => ?_)
          have S : Sw G A s.heap _ _ [((ma 24), .inl (k 0, 170, .inl (fun i => nI (O i)))), ((ma 25), .inl (k 0, 170, .inl (fun i => nI (T2 i)))), ((ma 26), .inl (k 0, 170, .inl (fun i => nI (qt i)))), ((ma 27), .inl (k 0, 170, .inl (fun i => nI (Dv i)))), ((ma 0), .inl (k 0, 4, .inl (fun i => nI (tk i)))), (h0, .inr (8, moL ma (va_up (va_up (va_up iv 26 (nI sv9)) 27 (nI bf)) 24 (nI rows)) co)), ((ma 21), .inl (k 0, 319840, .inl (fun i => nI (p10.1 i)))), ((ma 22), .inl (k 0, 3998, .inl (fun i => nI (p10.2.1 i)))), ((ma 23), .inl (k 2, 3998, .inl (fun i => nI (p10.2.2 i))))] := S
          have hT_p10 : tbO p10.1 p10.2.1 p10.2.2 (va_up T 3990 ((((1 : Int64) <<< ((nI kk).toInt64 &&& 63))).toInt)) := hw8
          refine lv_aload_n hx hb d_Mo_scaled_39 rfl (lv_at hl 0 rfl) ?_
          refine lv_sipush (v := 3991) hx hb d_Mo_scaled_40 (by decide) ?_
          refine lv_lconst (v := 0) hx hb d_Mo_scaled_43 (by decide) ?_
          refine r_backv (wi := [(h0, .inr (8, moL ma (va_up (va_up (va_up iv 26 (nI sv9)) 27 (nI bf)) 24 (nI rows)) co)), ((ma 21), .inl (k 0, 319840, .inl (fun i => nI (p10.1 i)))), ((ma 22), .inl (k 0, 3998, .inl (fun i => nI (p10.2.1 i)))), ((ma 23), .inl (k 2, 3998, .inl (fun i => nI (p10.2.2 i))))]) (wr := [((ma 24), .inl (k 0, 170, .inl (fun i => nI (O i)))), ((ma 25), .inl (k 0, 170, .inl (fun i => nI (T2 i)))), ((ma 26), .inl (k 0, 170, .inl (fun i => nI (qt i)))), ((ma 27), .inl (k 0, 170, .inl (fun i => nI (Dv i)))), ((ma 0), .inl (k 0, 4, .inl (fun i => nI (tk i))))]) S hA [5, 6, 7, 8] [0, 1, 2, 3, 4] rfl rfl (by decide) (by decide) (va_runV (As := [.int 3991, .long 0]) (rest := []) ⟨hx, hb, C.2.2.1, C.2.2.2.1, C.2.2.2.2.1⟩ (g_Mo_putZ l G k h0 _ 3991 0 ma (va_up (va_up (va_up iv 26 (nI sv9)) 27 (nI bf)) 24 (nI rows)) co p10.1 p10.2.1 p10.2.2 (va_up T 3990 ((((1 : Int64) <<< ((nI kk).toInt64 &&& 63))).toInt)) hT_p10 (by omega) (by decide)) (k_virt (n := 2) C wc_Mo_put rfl rfl wz_Mo wm_Mo_360 wn_Mo_put ws_Mo_put (by decide +kernel) ⟨(Nat.le_of_ble_eq_true rfl), (Nat.le_of_ble_eq_true rfl)⟩) (pr_nowV K S [5, 6, 7, 8] (by decide) rfl 5 rfl rfl) rfl rfl hl.1 rfl (lv_room (Nat.le_of_ble_eq_true rfl)) d_Mo_scaled_44 ⟨(Nat.le_of_ble_eq_true rfl), (Nat.le_of_ble_eq_true rfl)⟩) (fun p11 H locs hw9 S => ?_)
          have S : Sw G A s.heap _ _ [((ma 24), .inl (k 0, 170, .inl (fun i => nI (O i)))), ((ma 25), .inl (k 0, 170, .inl (fun i => nI (T2 i)))), ((ma 26), .inl (k 0, 170, .inl (fun i => nI (qt i)))), ((ma 27), .inl (k 0, 170, .inl (fun i => nI (Dv i)))), ((ma 0), .inl (k 0, 4, .inl (fun i => nI (tk i)))), (h0, .inr (8, moL ma (va_up (va_up (va_up iv 26 (nI sv9)) 27 (nI bf)) 24 (nI rows)) co)), ((ma 21), .inl (k 0, 319840, .inl (fun i => nI (p11.1 i)))), ((ma 22), .inl (k 0, 3998, .inl (fun i => nI (p11.2.1 i)))), ((ma 23), .inl (k 2, 3998, .inl (fun i => nI (p11.2.2 i))))] := S
          have hT_p11 : tbO p11.1 p11.2.1 p11.2.2 (va_up (va_up T 3990 ((((1 : Int64) <<< ((nI kk).toInt64 &&& 63))).toInt)) 3991 0) := by have h9 := hw9; rw [show (0 : Int64).toInt = 0 from by decide] at h9; exact h9
          refine lv_aload_n hx hb d_Mo_scaled_47 rfl (lv_at hl 0 rfl) ?_
          refine lv_aload_n hx hb d_Mo_scaled_48 rfl (lv_at hl 0 rfl) ?_
          refine lv_iload_n hx hb d_Mo_scaled_49 rfl (lv_at hl 1 rfl) ?_
          refine r_backi (wi := [(h0, .inr (8, moL ma (va_up (va_up (va_up iv 26 (nI sv9)) 27 (nI bf)) 24 (nI rows)) co)), ((ma 0), .inl (k 0, 4, .inl (fun i => nI (tk i))))]) (wr := [((ma 24), .inl (k 0, 170, .inl (fun i => nI (O i)))), ((ma 25), .inl (k 0, 170, .inl (fun i => nI (T2 i)))), ((ma 26), .inl (k 0, 170, .inl (fun i => nI (qt i)))), ((ma 27), .inl (k 0, 170, .inl (fun i => nI (Dv i)))), ((ma 21), .inl (k 0, 319840, .inl (fun i => nI (p11.1 i)))), ((ma 22), .inl (k 0, 3998, .inl (fun i => nI (p11.2.1 i)))), ((ma 23), .inl (k 2, 3998, .inl (fun i => nI (p11.2.2 i))))]) S hA [5, 4] [0, 1, 2, 3, 6, 7, 8] rfl rfl (by decide) (by decide) (va_runV (As := [.int (nI v9)]) (rest := [.ref h0]) ⟨hx, hb, C.2.2.1, C.2.2.2.1, C.2.2.2.2.1⟩ (g_Mo_boundAt_i l G k h0 _ v9 sv9 bf rows ma iv co tk (by first | assumption | omega) (by first | assumption | omega) (by first | assumption | omega) hv) (k_virt (n := 1) C wc_Mo_boundAt rfl rfl wz_Mo wm_Mo_404 wn_Mo_boundAt ws_Mo_boundAt (by decide +kernel) ⟨(Nat.le_of_ble_eq_true rfl), (Nat.le_of_ble_eq_true rfl)⟩) (pr_nowV K S [5, 4] (by decide) rfl 5 rfl rfl) rfl rfl hl.1 rfl (lv_room (Nat.le_of_ble_eq_true rfl)) d_Mo_scaled_50 ⟨(Nat.le_of_ble_eq_true rfl), (Nat.le_of_ble_eq_true rfl)⟩) (fun r12 u10 H locs hw11 S => ?_)
          have S : Sw G A s.heap _ _ [((ma 24), .inl (k 0, 170, .inl (fun i => nI (O i)))), ((ma 25), .inl (k 0, 170, .inl (fun i => nI (T2 i)))), ((ma 26), .inl (k 0, 170, .inl (fun i => nI (qt i)))), ((ma 27), .inl (k 0, 170, .inl (fun i => nI (Dv i)))), ((ma 21), .inl (k 0, 319840, .inl (fun i => nI (p11.1 i)))), ((ma 22), .inl (k 0, 3998, .inl (fun i => nI (p11.2.1 i)))), ((ma 23), .inl (k 2, 3998, .inl (fun i => nI (p11.2.2 i)))), (h0, .inr (8, moL ma (va_up (va_up (va_up iv 26 (nI sv9)) 27 (nI bf)) 24 (nI rows)) co)), ((ma 0), .inl (k 0, 4, .inl (fun i => nI (tk i))))] := S
          obtain ⟨hw110, hp13⟩ := hw11
          obtain rfl : r12 = nI (42 * (rows + 1 + v9) + 41) := hw110
          refine lv_sipush (v := 3990) hx hb d_Mo_scaled_53 (by decide) ?_
          refine lv_sipush (v := 3991) hx hb d_Mo_scaled_56 (by decide) ?_
          refine lv_sipush (v := 3991) hx hb d_Mo_scaled_59 (by decide) ?_
          refine r_backv (wi := [(h0, .inr (8, moL ma (va_up (va_up (va_up iv 26 (nI sv9)) 27 (nI bf)) 24 (nI rows)) co)), ((ma 21), .inl (k 0, 319840, .inl (fun i => nI (p11.1 i)))), ((ma 22), .inl (k 0, 3998, .inl (fun i => nI (p11.2.1 i)))), ((ma 23), .inl (k 2, 3998, .inl (fun i => nI (p11.2.2 i)))), ((ma 24), .inl (k 0, 170, .inl (fun i => nI (O i)))), ((ma 25), .inl (k 0, 170, .inl (fun i => nI (T2 i))))]) (wr := [((ma 26), .inl (k 0, 170, .inl (fun i => nI (qt i)))), ((ma 27), .inl (k 0, 170, .inl (fun i => nI (Dv i)))), ((ma 0), .inl (k 0, 4, .inl (fun i => nI (tk i))))]) S hA [7, 4, 5, 6, 0, 1] [2, 3, 8] rfl rfl (by decide) (by decide) (va_runV (As := [.int (nI (42 * (rows + 1 + v9) + 41)), .int 3990, .int 3991, .int 3991]) (rest := []) ⟨hx, hb, C.2.2.1, C.2.2.2.1, C.2.2.2.2.1⟩ (g_Mo_products l G k h0 _ (42 * (rows + 1 + v9) + 41) 3990 3991 3991 ma (va_up (va_up (va_up iv 26 (nI sv9)) 27 (nI bf)) 24 (nI rows)) co p11.1 p11.2.1 p11.2.2 O T2 (by omega) (by omega) (by omega) (by omega) (hT_p11.2 _ (by omega)).1 (hT_p11.2 _ (by omega)).1 (hT_p11.2 _ (by omega)).1 (hT_p11.2 _ (by omega)).1 (hT_p11.2 _ (by omega)).2.1 (hT_p11.2 _ (by omega)).2.1 (hT_p11.2 _ (by omega)).2.1 (hT_p11.2 _ (by omega)).2.1 hT_p11.1 dO d2) (k_virt (n := 4) C wc_Mo_products rfl rfl wz_Mo wm_Mo_351 wn_Mo_products ws_Mo_products (by decide +kernel) ⟨(Nat.le_of_ble_eq_true rfl), (Nat.le_of_ble_eq_true rfl)⟩) (pr_nowV K S [7, 4, 5, 6, 0, 1] (by decide) rfl 7 rfl rfl) rfl rfl hl.1 rfl (lv_room (Nat.le_of_ble_eq_true rfl)) d_Mo_scaled_62 ⟨(Nat.le_of_ble_eq_true rfl), (Nat.le_of_ble_eq_true rfl)⟩) (fun pu H locs hw14 S => ?_)
          have S : Sw G A s.heap _ _ [((ma 26), .inl (k 0, 170, .inl (fun i => nI (qt i)))), ((ma 27), .inl (k 0, 170, .inl (fun i => nI (Dv i)))), ((ma 0), .inl (k 0, 4, .inl (fun i => nI (tk i)))), (h0, .inr (8, moL ma (va_up (va_up (va_up (va_up (va_up (va_up (va_up iv 26 (nI sv9)) 27 (nI bf)) 24 (nI rows)) 21 (nI pu.2.2.2.1)) 22 (nI pu.2.2.2.2.2)) 20 (nI pu.2.2.2.2.1)) 19 (nI pu.2.2.1)) co)), ((ma 21), .inl (k 0, 319840, .inl (fun i => nI (p11.1 i)))), ((ma 22), .inl (k 0, 3998, .inl (fun i => nI (p11.2.1 i)))), ((ma 23), .inl (k 2, 3998, .inl (fun i => nI (p11.2.2 i)))), ((ma 24), .inl (k 0, 170, .inl (fun i => nI (pu.1 i)))), ((ma 25), .inl (k 0, 170, .inl (fun i => nI (pu.2.1 i))))] := S
          obtain ⟨hX, hn1, htr, dA, dB, hob⟩ := hw14
          refine lv_aload_n hx hb d_Mo_scaled_65 rfl (lv_at hl 0 rfl) ?_
          refine lv_sipush (v := 3997) hx hb d_Mo_scaled_66 (by decide) ?_
          have hV := hT_p11.2 3997 (by omega)
          rw [show (va_up (va_up T 3990 ((((1 : Int64) <<< ((nI kk).toInt64 &&& 63))).toInt)) 3991 0) 3997 = T 3997 by rw [va_up_ne _ _ (by omega), va_up_ne _ _ (by omega)]] at hV
          have hV3 := tbO_pos (T := T) hV hS.2.2.1
          refine r_backv (wi := [(h0, .inr (8, moL ma (va_up (va_up (va_up (va_up (va_up (va_up (va_up iv 26 (nI sv9)) 27 (nI bf)) 24 (nI rows)) 21 (nI pu.2.2.2.1)) 22 (nI pu.2.2.2.2.2)) 20 (nI pu.2.2.2.2.1)) 19 (nI pu.2.2.1)) co)), ((ma 21), .inl (k 0, 319840, .inl (fun i => nI (p11.1 i)))), ((ma 22), .inl (k 0, 3998, .inl (fun i => nI (p11.2.1 i)))), ((ma 24), .inl (k 0, 170, .inl (fun i => nI (pu.1 i)))), ((ma 26), .inl (k 0, 170, .inl (fun i => nI (qt i)))), ((ma 27), .inl (k 0, 170, .inl (fun i => nI (Dv i))))]) (wr := [((ma 0), .inl (k 0, 4, .inl (fun i => nI (tk i)))), ((ma 23), .inl (k 2, 3998, .inl (fun i => nI (p11.2.2 i)))), ((ma 25), .inl (k 0, 170, .inl (fun i => nI (pu.2.1 i))))]) S hA [3, 4, 5, 7, 0, 1] [2, 6, 8] rfl rfl (by decide) (by decide) (va_runV (As := [.int 3997]) (rest := []) ⟨hx, hb, C.2.2.1, C.2.2.2.1, C.2.2.2.2.1⟩ (g_Mo_divide l G k h0 _ 3997 pu.2.2.1 ma (va_up (va_up (va_up (va_up (va_up (va_up iv 26 (nI sv9)) 27 (nI bf)) 24 (nI rows)) 21 (nI pu.2.2.2.1)) 22 (nI pu.2.2.2.2.2)) 20 (nI pu.2.2.2.2.1)) co p11.1 p11.2.1 pu.1 qt Dv (by omega) hV.1 hV3.1 hV3.2 hn1 hT_p11.1 dA dQ dD) (k_virt (n := 1) C wc_Mo_divide rfl rfl wz_Mo wm_Mo_354 wn_Mo_divide ws_Mo_divide (by decide +kernel) ⟨(Nat.le_of_ble_eq_true rfl), (Nat.le_of_ble_eq_true rfl)⟩) (pr_nowV K S [3, 4, 5, 7, 0, 1] (by decide) rfl 3 rfl rfl) rfl rfl hl.1 rfl (lv_room (Nat.le_of_ble_eq_true rfl)) d_Mo_scaled_69 ⟨(Nat.le_of_ble_eq_true rfl), (Nat.le_of_ble_eq_true rfl)⟩) (fun du H locs hw15 S => ?_)
          have S : Sw G A s.heap _ _ [((ma 0), .inl (k 0, 4, .inl (fun i => nI (tk i)))), ((ma 23), .inl (k 2, 3998, .inl (fun i => nI (p11.2.2 i)))), ((ma 25), .inl (k 0, 170, .inl (fun i => nI (pu.2.1 i)))), (h0, .inr (8, moL ma (va_up (va_up (va_up (va_up (va_up (va_up (va_up (va_up iv 26 (nI sv9)) 27 (nI bf)) 24 (nI rows)) 21 (nI pu.2.2.2.1)) 22 (nI pu.2.2.2.2.2)) 20 (nI pu.2.2.2.2.1)) 19 (nI pu.2.2.1)) 23 (nI du.2.2.2)) co)), ((ma 21), .inl (k 0, 319840, .inl (fun i => nI (p11.1 i)))), ((ma 22), .inl (k 0, 3998, .inl (fun i => nI (p11.2.1 i)))), ((ma 24), .inl (k 0, 170, .inl (fun i => nI (du.1 i)))), ((ma 26), .inl (k 0, 170, .inl (fun i => nI (du.2.1 i)))), ((ma 27), .inl (k 0, 170, .inl (fun i => nI (du.2.2.1 i))))] := S
          obtain ⟨hD1, hD2, hD3, dA2, dQ9, dV9⟩ := hw15
          refine lv_lconst (v := 0) hx hb d_Mo_scaled_72 (by decide) ?_
          refine lv_lstore_n (lv' := [(3, .long 0), (0, .ref h0), (1, .int (nI v9)), (2, .int (nI kk))]) hx hb d_Mo_scaled_73 rfl hl (by decide) rfl (fun ls hl => ?_)
          refine lv_aload_n hx hb d_Mo_scaled_74 rfl (lv_at hl 1 rfl) ?_
          refine r_get C K S 3 rfl rfl clOk_Mo 52 (by decide) wf_Mo_313 (v := .int (nI du.2.2.2)) rfl d_Mo_scaled_75 ?_
          refine lv_iconst (v := 4) hx hb d_Mo_scaled_78 (by decide) ?_
          refine z_icmp_le (a := du.2.2.2) (b := 4) (tgt := 86) hx hb d_Mo_scaled_79 (by decide) (by omega) (by omega) (fun hc16 => ?_) (fun hc16 => ?_)
          · refine lv_aload_n hx hb d_Mo_scaled_86 rfl (lv_at hl 1 rfl) ?_
            refine r_get C K S 3 rfl rfl clOk_Mo 52 (by decide) wf_Mo_313 (v := .int (nI du.2.2.2)) rfl d_Mo_scaled_87 ?_
            refine lv_iconst (v := 1) hx hb d_Mo_scaled_90 (by decide) ?_
            rcases Nat.eq_zero_or_pos du.2.2.2 with hz | hz
            · refine z_isub (x := nI du.2.2.2) (y := 1) (v := (-1)) hx hb d_Mo_scaled_91 (by rw [hz]; decide) ?_
              refine lv_istore (lv' := [(5, .int (-1)), (3, .long 0), (0, .ref h0), (1, .int (nI v9)), (2, .int (nI kk))]) hx hb d_Mo_scaled_92 hl (by decide) rfl (fun ls hl => ?_)
              refine lv_iload hx hb d_Mo_scaled_94 (lv_at hl 0 rfl) ?_
              refine lv_if_lt (tgt := 119) hx hb d_Mo_scaled_96 (by decide) (fun _ => ?_) (fun hq => absurd (by decide) hq)
              refine lv_lload_n hx hb d_Mo_scaled_119 rfl (lv_at hl 1 rfl) ?_
              exact r_lret C K (uz [p11.1, p11.2.1, p11.2.2, du.1, pu.2.1, du.2.1, du.2.2.1], fz (nI pu.2.2.1) (nI pu.2.2.2.2.1) (nI pu.2.2.2.1) (nI pu.2.2.2.2.2) (nI du.2.2.2)) ⟨⟨_, hT_p11, fun c hc => by rw [va_up_ne _ _ (by omega), va_up_ne _ _ (by omega)]⟩, dA2, dB, dQ9, dV9⟩ (S.sub [3, 0, 4, 5, 1, 6, 2, 7, 8] (by decide) rfl) d_Mo_scaled_120 (Nat.le_of_ble_eq_true rfl) (Nat.le_of_ble_eq_true rfl)
            · refine z_isub (x := nI du.2.2.2) (y := 1) (v := nI (du.2.2.2 - 1)) hx hb d_Mo_scaled_91 (pk_sub (a := du.2.2.2) (b := 1) (by omega)) ?_
              refine lv_istore (lv' := [(5, .int (nI (du.2.2.2 - 1))), (3, .long 0), (0, .ref h0), (1, .int (nI v9)), (2, .int (nI kk))]) hx hb d_Mo_scaled_92 hl (by decide) rfl (fun ls hl => ?_)
              refine lv_iload hx hb d_Mo_scaled_94 (lv_at hl 0 rfl) ?_
              refine z_if_lt (a := (du.2.2.2 - 1)) (tgt := 119) hx hb d_Mo_scaled_96 (by decide) (by omega) ?_
              have lv : ∀ d9, ∀ (k9 : Nat), ∀ (x9 : Int64), k9 < d9 → (k9 ≤ 161) → ∀ (H : Heap) (locs : List Loc), Sw G A s.heap H locs [((ma 0), .inl (k 0, 4, .inl (fun i => nI (tk i)))), ((ma 23), .inl (k 2, 3998, .inl (fun i => nI (p11.2.2 i)))), ((ma 25), .inl (k 0, 170, .inl (fun i => nI (pu.2.1 i)))), (h0, .inr (8, moL ma (va_up (va_up (va_up (va_up (va_up (va_up (va_up (va_up iv 26 (nI sv9)) 27 (nI bf)) 24 (nI rows)) 21 (nI pu.2.2.2.1)) 22 (nI pu.2.2.2.2.2)) 20 (nI pu.2.2.2.2.1)) 19 (nI pu.2.2.1)) 23 (nI du.2.2.2)) co)), ((ma 21), .inl (k 0, 319840, .inl (fun i => nI (p11.1 i)))), ((ma 22), .inl (k 0, 3998, .inl (fun i => nI (p11.2.1 i)))), ((ma 24), .inl (k 0, 170, .inl (fun i => nI (du.1 i)))), ((ma 26), .inl (k 0, 170, .inl (fun i => nI (du.2.1 i)))), ((ma 27), .inl (k 0, 170, .inl (fun i => nI (du.2.2.1 i))))] → ∀ ls : Array Slot, lv_has ls 6 [(5, .int (nI k9)), (3, .long x9), (0, .ref h0), (1, .int (nI v9)), (2, .int (nI kk))] → W p l e { frames := 4, cells := 0, slots := 0, locals := 164 } s m [Value.ref h0, Value.int xi, Value.int xk].toArray below meth c H locs 0 0 (MQ below (va_Ql (fun (r : Int64) (u : (Nat → Nat → Nat) × (Nat → Int32)) => (∃ T9, tbO (u.1 0) (u.1 1) (u.1 2) T9 ∧ ∀ c, c < 3990 ∨ c = 3994 ∨ c = 3997 → T9 c = T c) ∧ (∀ i, i < 170 → u.1 3 i < 65536) ∧ (∀ i, i < 170 → u.1 4 i < 65536) ∧ (∀ i, i < 170 → u.1 5 i < 65536) ∧ (∀ i, i < 170 → u.1 6 i < 65536)) (Po G k A (fun u => [(h0, .inr (8, moL ma (va_up (va_up (va_up (va_up (va_up (va_up (va_up (va_up iv 26 (nI sv9)) 27 (nI bf)) 24 (nI rows)) 19 (u.2 0)) 20 (u.2 1)) 21 (u.2 2)) 22 (u.2 3)) 23 (u.2 4)) co)), ((ma 0), .inl (k 0, 4, .inl (fun i => nI (tk i)))), ((ma 21), .inl (k 0, 319840, .inl (fun i => nI (u.1 0 i)))), ((ma 22), .inl (k 0, 3998, .inl (fun i => nI (u.1 1 i)))), ((ma 23), .inl (k 2, 3998, .inl (fun i => nI (u.1 2 i)))), ((ma 24), .inl (k 0, 170, .inl (fun i => nI (u.1 3 i)))), ((ma 25), .inl (k 0, 170, .inl (fun i => nI (u.1 4 i)))), ((ma 26), .inl (k 0, 170, .inl (fun i => nI (u.1 5 i)))), ((ma 27), .inl (k 0, 170, .inl (fun i => nI (u.1 6 i))))])) A) [Value.ref h0, Value.int xi, Value.int xk].toArray s 0 0 A) (F0 m 99 ls []) := by
                intro d9
                induction d9 with
                | zero => intro k9 x9 hm; exact absurd hm (Nat.not_lt_zero _)
                | succ d9 ih_lv =>
                  intro k9 x9 hm hk H locs S ls hl
                  have q7 := dQ9 k9 (by omega)
                  refine lv_lload_n hx hb d_Mo_scaled_99 rfl (lv_at hl 1 rfl) ?_
                  refine lv_bipush (v := 16) hx hb d_Mo_scaled_100 (by decide) ?_
                  refine lv_lshl (v := (x9 <<< ((16 : Int32).toInt64 &&& 63))) hx hb d_Mo_scaled_102 rfl ?_
                  refine lv_aload_n hx hb d_Mo_scaled_103 rfl (lv_at hl 2 rfl) ?_
                  refine r_get C K S 3 rfl rfl clOk_Mo 46 (by decide) wf_Mo_99 (v := .ref (ma 26)) rfl d_Mo_scaled_104 ?_
                  refine lv_iload hx hb d_Mo_scaled_107 (lv_at hl 0 rfl) ?_
                  refine r_iald C K S 7 rfl (i := nI k9) (show vp_in (nI k9) _ from vp_in_nI (n := k9) (by omega) (by decide)) (v := nI (du.2.1 k9)) (by rw [nI_clamp (by omega)]) d_Mo_scaled_109 ?_
                  refine lv_i2l (v := lN (du.2.1 k9)) hx hb d_Mo_scaled_110 (show (nI (du.2.1 k9) : Int32).toInt64 = _ from nI_l (n := (du.2.1 k9)) (by omega)) ?_
                  refine lv_lor hx hb d_Mo_scaled_111 ?_
                  refine lv_lstore_n (lv' := [(3, .long ((x9 <<< ((16 : Int32).toInt64 &&& 63)) ||| (lN (du.2.1 k9)))), (5, .int (nI k9)), (0, .ref h0), (1, .int (nI v9)), (2, .int (nI kk))]) hx hb d_Mo_scaled_112 rfl hl (by decide) rfl (fun ls hl => ?_)
                  rcases Nat.eq_zero_or_pos k9 with hz9 | hz9
                  · refine lv_iinc (v := (-1)) (lv' := [(5, .int (-1)), (3, .long ((x9 <<< ((16 : Int32).toInt64 &&& 63)) ||| (lN (du.2.1 k9)))), (0, .ref h0), (1, .int (nI v9)), (2, .int (nI kk))]) hx hb d_Mo_scaled_113 hl (k := 1) rfl (by rw [hz9]; decide) (by decide) rfl (fun ls hl => ?_)
                    refine lv_goto (tgt := 94) hx hb d_Mo_scaled_116 (by decide) ?_
                    refine lv_iload hx hb d_Mo_scaled_94 (lv_at hl 0 rfl) ?_
                    refine lv_if_lt (tgt := 119) hx hb d_Mo_scaled_96 (by decide) (fun _ => ?_) (fun hq => absurd (by decide) hq)
                    refine lv_lload_n hx hb d_Mo_scaled_119 rfl (lv_at hl 1 rfl) ?_
                    exact r_lret C K (uz [p11.1, p11.2.1, p11.2.2, du.1, pu.2.1, du.2.1, du.2.2.1], fz (nI pu.2.2.1) (nI pu.2.2.2.2.1) (nI pu.2.2.2.1) (nI pu.2.2.2.2.2) (nI du.2.2.2)) ⟨⟨_, hT_p11, fun c hc => by rw [va_up_ne _ _ (by omega), va_up_ne _ _ (by omega)]⟩, dA2, dB, dQ9, dV9⟩ (S.sub [3, 0, 4, 5, 1, 6, 2, 7, 8] (by decide) rfl) d_Mo_scaled_120 (Nat.le_of_ble_eq_true rfl) (Nat.le_of_ble_eq_true rfl)
                  · refine lv_iinc (v := nI (k9 - 1)) (lv' := [(5, .int (nI (k9 - 1))), (3, .long ((x9 <<< ((16 : Int32).toInt64 &&& 63)) ||| (lN (du.2.1 k9)))), (0, .ref h0), (1, .int (nI v9)), (2, .int (nI kk))]) hx hb d_Mo_scaled_113 hl (k := 1) rfl (z_m1 (a := k9) (by omega)) (by decide) rfl (fun ls hl => ?_)
                    refine lv_goto (tgt := 94) hx hb d_Mo_scaled_116 (by decide) ?_
                    refine lv_iload hx hb d_Mo_scaled_94 (lv_at hl 0 rfl) ?_
                    refine z_if_lt (a := (k9 - 1)) (tgt := 119) hx hb d_Mo_scaled_96 (by decide) (by omega) ?_
                    exact ih_lv (k9 - 1) ((x9 <<< ((16 : Int32).toInt64 &&& 63)) ||| (lN (du.2.1 k9))) (by omega) (by omega) _ _ (S.sub [0, 1, 2, 3, 4, 5, 6, 7, 8] (by decide) rfl) ls (lv_sub hl [0, 1, 2, 3, 4] rfl)
              exact lv _ (du.2.2.2 - 1) 0 (Nat.lt_succ_self _) (by omega) _ _ (S.sub [0, 1, 2, 3, 4, 5, 6, 7, 8] (by decide) rfl) ls (lv_sub hl [0, 1, 2, 3, 4] rfl)
          · refine lv_iconst (v := 3) hx hb d_Mo_scaled_82 (by decide) ?_
            refine lv_goto (tgt := 92) hx hb d_Mo_scaled_83 (by decide) ?_
            refine lv_istore (lv' := [(5, .int 3), (3, .long 0), (0, .ref h0), (1, .int (nI v9)), (2, .int (nI kk))]) hx hb d_Mo_scaled_92 hl (by decide) rfl (fun ls hl => ?_)
            refine lv_iload hx hb d_Mo_scaled_94 (lv_at hl 0 rfl) ?_
            refine lv_if_lt (tgt := 119) hx hb d_Mo_scaled_96 (by decide) (fun hq => absurd hq (by decide)) (fun _ => ?_)
            have lv : ∀ d9, ∀ (k9 : Nat), ∀ (x9 : Int64), k9 < d9 → (k9 ≤ 161) → ∀ (H : Heap) (locs : List Loc), Sw G A s.heap H locs [((ma 0), .inl (k 0, 4, .inl (fun i => nI (tk i)))), ((ma 23), .inl (k 2, 3998, .inl (fun i => nI (p11.2.2 i)))), ((ma 25), .inl (k 0, 170, .inl (fun i => nI (pu.2.1 i)))), (h0, .inr (8, moL ma (va_up (va_up (va_up (va_up (va_up (va_up (va_up (va_up iv 26 (nI sv9)) 27 (nI bf)) 24 (nI rows)) 21 (nI pu.2.2.2.1)) 22 (nI pu.2.2.2.2.2)) 20 (nI pu.2.2.2.2.1)) 19 (nI pu.2.2.1)) 23 (nI du.2.2.2)) co)), ((ma 21), .inl (k 0, 319840, .inl (fun i => nI (p11.1 i)))), ((ma 22), .inl (k 0, 3998, .inl (fun i => nI (p11.2.1 i)))), ((ma 24), .inl (k 0, 170, .inl (fun i => nI (du.1 i)))), ((ma 26), .inl (k 0, 170, .inl (fun i => nI (du.2.1 i)))), ((ma 27), .inl (k 0, 170, .inl (fun i => nI (du.2.2.1 i))))] → ∀ ls : Array Slot, lv_has ls 6 [(5, .int (nI k9)), (3, .long x9), (0, .ref h0), (1, .int (nI v9)), (2, .int (nI kk))] → W p l e { frames := 4, cells := 0, slots := 0, locals := 164 } s m [Value.ref h0, Value.int xi, Value.int xk].toArray below meth c H locs 0 0 (MQ below (va_Ql (fun (r : Int64) (u : (Nat → Nat → Nat) × (Nat → Int32)) => (∃ T9, tbO (u.1 0) (u.1 1) (u.1 2) T9 ∧ ∀ c, c < 3990 ∨ c = 3994 ∨ c = 3997 → T9 c = T c) ∧ (∀ i, i < 170 → u.1 3 i < 65536) ∧ (∀ i, i < 170 → u.1 4 i < 65536) ∧ (∀ i, i < 170 → u.1 5 i < 65536) ∧ (∀ i, i < 170 → u.1 6 i < 65536)) (Po G k A (fun u => [(h0, .inr (8, moL ma (va_up (va_up (va_up (va_up (va_up (va_up (va_up (va_up iv 26 (nI sv9)) 27 (nI bf)) 24 (nI rows)) 19 (u.2 0)) 20 (u.2 1)) 21 (u.2 2)) 22 (u.2 3)) 23 (u.2 4)) co)), ((ma 0), .inl (k 0, 4, .inl (fun i => nI (tk i)))), ((ma 21), .inl (k 0, 319840, .inl (fun i => nI (u.1 0 i)))), ((ma 22), .inl (k 0, 3998, .inl (fun i => nI (u.1 1 i)))), ((ma 23), .inl (k 2, 3998, .inl (fun i => nI (u.1 2 i)))), ((ma 24), .inl (k 0, 170, .inl (fun i => nI (u.1 3 i)))), ((ma 25), .inl (k 0, 170, .inl (fun i => nI (u.1 4 i)))), ((ma 26), .inl (k 0, 170, .inl (fun i => nI (u.1 5 i)))), ((ma 27), .inl (k 0, 170, .inl (fun i => nI (u.1 6 i))))])) A) [Value.ref h0, Value.int xi, Value.int xk].toArray s 0 0 A) (F0 m 99 ls []) := by
              intro d9
              induction d9 with
              | zero => intro k9 x9 hm; exact absurd hm (Nat.not_lt_zero _)
              | succ d9 ih_lv =>
                intro k9 x9 hm hk H locs S ls hl
                have q7 := dQ9 k9 (by omega)
                refine lv_lload_n hx hb d_Mo_scaled_99 rfl (lv_at hl 1 rfl) ?_
                refine lv_bipush (v := 16) hx hb d_Mo_scaled_100 (by decide) ?_
                refine lv_lshl (v := (x9 <<< ((16 : Int32).toInt64 &&& 63))) hx hb d_Mo_scaled_102 rfl ?_
                refine lv_aload_n hx hb d_Mo_scaled_103 rfl (lv_at hl 2 rfl) ?_
                refine r_get C K S 3 rfl rfl clOk_Mo 46 (by decide) wf_Mo_99 (v := .ref (ma 26)) rfl d_Mo_scaled_104 ?_
                refine lv_iload hx hb d_Mo_scaled_107 (lv_at hl 0 rfl) ?_
                refine r_iald C K S 7 rfl (i := nI k9) (show vp_in (nI k9) _ from vp_in_nI (n := k9) (by omega) (by decide)) (v := nI (du.2.1 k9)) (by rw [nI_clamp (by omega)]) d_Mo_scaled_109 ?_
                refine lv_i2l (v := lN (du.2.1 k9)) hx hb d_Mo_scaled_110 (show (nI (du.2.1 k9) : Int32).toInt64 = _ from nI_l (n := (du.2.1 k9)) (by omega)) ?_
                refine lv_lor hx hb d_Mo_scaled_111 ?_
                refine lv_lstore_n (lv' := [(3, .long ((x9 <<< ((16 : Int32).toInt64 &&& 63)) ||| (lN (du.2.1 k9)))), (5, .int (nI k9)), (0, .ref h0), (1, .int (nI v9)), (2, .int (nI kk))]) hx hb d_Mo_scaled_112 rfl hl (by decide) rfl (fun ls hl => ?_)
                rcases Nat.eq_zero_or_pos k9 with hz9 | hz9
                · refine lv_iinc (v := (-1)) (lv' := [(5, .int (-1)), (3, .long ((x9 <<< ((16 : Int32).toInt64 &&& 63)) ||| (lN (du.2.1 k9)))), (0, .ref h0), (1, .int (nI v9)), (2, .int (nI kk))]) hx hb d_Mo_scaled_113 hl (k := 1) rfl (by rw [hz9]; decide) (by decide) rfl (fun ls hl => ?_)
                  refine lv_goto (tgt := 94) hx hb d_Mo_scaled_116 (by decide) ?_
                  refine lv_iload hx hb d_Mo_scaled_94 (lv_at hl 0 rfl) ?_
                  refine lv_if_lt (tgt := 119) hx hb d_Mo_scaled_96 (by decide) (fun _ => ?_) (fun hq => absurd (by decide) hq)
                  refine lv_lload_n hx hb d_Mo_scaled_119 rfl (lv_at hl 1 rfl) ?_
                  exact r_lret C K (uz [p11.1, p11.2.1, p11.2.2, du.1, pu.2.1, du.2.1, du.2.2.1], fz (nI pu.2.2.1) (nI pu.2.2.2.2.1) (nI pu.2.2.2.1) (nI pu.2.2.2.2.2) (nI du.2.2.2)) ⟨⟨_, hT_p11, fun c hc => by rw [va_up_ne _ _ (by omega), va_up_ne _ _ (by omega)]⟩, dA2, dB, dQ9, dV9⟩ (S.sub [3, 0, 4, 5, 1, 6, 2, 7, 8] (by decide) rfl) d_Mo_scaled_120 (Nat.le_of_ble_eq_true rfl) (Nat.le_of_ble_eq_true rfl)
                · refine lv_iinc (v := nI (k9 - 1)) (lv' := [(5, .int (nI (k9 - 1))), (3, .long ((x9 <<< ((16 : Int32).toInt64 &&& 63)) ||| (lN (du.2.1 k9)))), (0, .ref h0), (1, .int (nI v9)), (2, .int (nI kk))]) hx hb d_Mo_scaled_113 hl (k := 1) rfl (z_m1 (a := k9) (by omega)) (by decide) rfl (fun ls hl => ?_)
                  refine lv_goto (tgt := 94) hx hb d_Mo_scaled_116 (by decide) ?_
                  refine lv_iload hx hb d_Mo_scaled_94 (lv_at hl 0 rfl) ?_
                  refine z_if_lt (a := (k9 - 1)) (tgt := 119) hx hb d_Mo_scaled_96 (by decide) (by omega) ?_
                  exact ih_lv (k9 - 1) ((x9 <<< ((16 : Int32).toInt64 &&& 63)) ||| (lN (du.2.1 k9))) (by omega) (by omega) _ _ (S.sub [0, 1, 2, 3, 4, 5, 6, 7, 8] (by decide) rfl) ls (lv_sub hl [0, 1, 2, 3, 4] rfl)
            exact lv _ 3 0 (Nat.lt_succ_self _) (by omega) _ _ (S.sub [0, 1, 2, 3, 4, 5, 6, 7, 8] (by decide) rfl) ls (lv_sub hl [0, 1, 2, 3, 4] rfl)
        · have hl : lv_has ls 6 [(0, .ref h0), (1, .int 3), (2, .int (nI kk))] := by rw [← hke, ← hve]; exact hl
          refine lv_aload_n hx hb d_Mo_scaled_17 rfl (lv_at hl 0 rfl) ?_
          refine lv_iload_n hx hb d_Mo_scaled_18 rfl (lv_at hl 1 rfl) ?_
          refine r_backi (wi := [(h0, .inr (8, moL ma (va_up (va_up (va_up iv 26 (nI sv9)) 27 (nI bf)) 24 (nI rows)) co)), ((ma 0), .inl (k 0, 4, .inl (fun i => nI (tk i))))]) (wr := [((ma 21), .inl (k 0, 319840, .inl (fun i => nI (dg i)))), ((ma 22), .inl (k 0, 3998, .inl (fun i => nI (sz i)))), ((ma 23), .inl (k 2, 3998, .inl (fun i => nI (bl i)))), ((ma 24), .inl (k 0, 170, .inl (fun i => nI (O i)))), ((ma 25), .inl (k 0, 170, .inl (fun i => nI (T2 i)))), ((ma 26), .inl (k 0, 170, .inl (fun i => nI (qt i)))), ((ma 27), .inl (k 0, 170, .inl (fun i => nI (Dv i))))]) S hA [0, 1] [2, 3, 4, 5, 6, 7, 8] rfl rfl (by decide) (by decide) (va_runV (As := [.int 3]) (rest := []) ⟨hx, hb, C.2.2.1, C.2.2.2.1, C.2.2.2.2.1⟩ (g_Mo_boundAt_3 l G k h0 _ sv9 bf rows ma iv co tk (by first | assumption | omega) (by first | assumption | omega) (by first | assumption | omega)) (k_virt (n := 1) C wc_Mo_boundAt rfl rfl wz_Mo wm_Mo_404 wn_Mo_boundAt ws_Mo_boundAt (by decide +kernel) ⟨(Nat.le_of_ble_eq_true rfl), (Nat.le_of_ble_eq_true rfl)⟩) (pr_nowV K S [0, 1] (by decide) rfl 0 rfl rfl) rfl rfl hl.1 rfl (lv_room (Nat.le_of_ble_eq_true rfl)) d_Mo_scaled_19 ⟨(Nat.le_of_ble_eq_true rfl), (Nat.le_of_ble_eq_true rfl)⟩) (fun r19 u17 H locs hw18 S => ?_)
          have S : Sw G A s.heap _ _ [((ma 21), .inl (k 0, 319840, .inl (fun i => nI (dg i)))), ((ma 22), .inl (k 0, 3998, .inl (fun i => nI (sz i)))), ((ma 23), .inl (k 2, 3998, .inl (fun i => nI (bl i)))), ((ma 24), .inl (k 0, 170, .inl (fun i => nI (O i)))), ((ma 25), .inl (k 0, 170, .inl (fun i => nI (T2 i)))), ((ma 26), .inl (k 0, 170, .inl (fun i => nI (qt i)))), ((ma 27), .inl (k 0, 170, .inl (fun i => nI (Dv i)))), (h0, .inr (8, moL ma (va_up (va_up (va_up iv 26 (nI sv9)) 27 (nI bf)) 24 (nI rows)) co)), ((ma 0), .inl (k 0, 4, .inl (fun i => nI (tk i))))] := S
          obtain ⟨hw180, hp20⟩ := hw18
          obtain rfl : r19 = nI (42 * (rows + 1 + tk bf) + 41) := hw180
          refine z_if_ge (a := (42 * (rows + 1 + tk bf) + 41)) (tgt := 29) hx hb d_Mo_scaled_22 (by decide) (by omega) ?_
          refine lv_aload_n hx hb d_Mo_scaled_29 rfl (lv_at hl 0 rfl) ?_
          refine lv_sipush (v := 3990) hx hb d_Mo_scaled_30 (by decide) ?_
          refine lv_lconst (v := 1) hx hb d_Mo_scaled_33 (by decide) ?_
          refine lv_iload_n hx hb d_Mo_scaled_34 rfl (lv_at hl 2 rfl) ?_
          refine lv_lshl (v := ((1 : Int64) <<< ((nI kk).toInt64 &&& 63))) hx hb d_Mo_scaled_35 rfl ?_
          refine r_backv (wi := [(h0, .inr (8, moL ma (va_up (va_up (va_up iv 26 (nI sv9)) 27 (nI bf)) 24 (nI rows)) co)), ((ma 21), .inl (k 0, 319840, .inl (fun i => nI (dg i)))), ((ma 22), .inl (k 0, 3998, .inl (fun i => nI (sz i)))), ((ma 23), .inl (k 2, 3998, .inl (fun i => nI (bl i))))]) (wr := [((ma 24), .inl (k 0, 170, .inl (fun i => nI (O i)))), ((ma 25), .inl (k 0, 170, .inl (fun i => nI (T2 i)))), ((ma 26), .inl (k 0, 170, .inl (fun i => nI (qt i)))), ((ma 27), .inl (k 0, 170, .inl (fun i => nI (Dv i)))), ((ma 0), .inl (k 0, 4, .inl (fun i => nI (tk i))))]) S hA [7, 0, 1, 2] [3, 4, 5, 6, 8] rfl rfl (by decide) (by decide) (va_runV (As := [.int 3990, .long ((1 : Int64) <<< ((nI kk).toInt64 &&& 63))]) (rest := []) ⟨hx, hb, C.2.2.1, C.2.2.2.1, C.2.2.2.2.1⟩ (g_Mo_putZ l G k h0 _ 3990 ((1 : Int64) <<< ((nI kk).toInt64 &&& 63)) ma (va_up (va_up (va_up iv 26 (nI sv9)) 27 (nI bf)) 24 (nI rows)) co dg sz bl T hT (by omega) (l1sh kk hkk).1) (k_virt (n := 2) C wc_Mo_put rfl rfl wz_Mo wm_Mo_360 wn_Mo_put ws_Mo_put (by decide +kernel) ⟨(Nat.le_of_ble_eq_true rfl), (Nat.le_of_ble_eq_true rfl)⟩) (pr_nowV K S [7, 0, 1, 2] (by decide) rfl 7 rfl rfl) rfl rfl hl.1 rfl (lv_room (Nat.le_of_ble_eq_true rfl)) d_Mo_scaled_36 ⟨(Nat.le_of_ble_eq_true rfl), (Nat.le_of_ble_eq_true rfl)⟩) (fun p12 H locs hw21 S => ?_)
          have S : Sw G A s.heap _ _ [((ma 24), .inl (k 0, 170, .inl (fun i => nI (O i)))), ((ma 25), .inl (k 0, 170, .inl (fun i => nI (T2 i)))), ((ma 26), .inl (k 0, 170, .inl (fun i => nI (qt i)))), ((ma 27), .inl (k 0, 170, .inl (fun i => nI (Dv i)))), ((ma 0), .inl (k 0, 4, .inl (fun i => nI (tk i)))), (h0, .inr (8, moL ma (va_up (va_up (va_up iv 26 (nI sv9)) 27 (nI bf)) 24 (nI rows)) co)), ((ma 21), .inl (k 0, 319840, .inl (fun i => nI (p12.1 i)))), ((ma 22), .inl (k 0, 3998, .inl (fun i => nI (p12.2.1 i)))), ((ma 23), .inl (k 2, 3998, .inl (fun i => nI (p12.2.2 i))))] := S
          have hT_p12 : tbO p12.1 p12.2.1 p12.2.2 (va_up T 3990 ((((1 : Int64) <<< ((nI kk).toInt64 &&& 63))).toInt)) := hw21
          refine lv_aload_n hx hb d_Mo_scaled_39 rfl (lv_at hl 0 rfl) ?_
          refine lv_sipush (v := 3991) hx hb d_Mo_scaled_40 (by decide) ?_
          refine lv_lconst (v := 0) hx hb d_Mo_scaled_43 (by decide) ?_
          refine r_backv (wi := [(h0, .inr (8, moL ma (va_up (va_up (va_up iv 26 (nI sv9)) 27 (nI bf)) 24 (nI rows)) co)), ((ma 21), .inl (k 0, 319840, .inl (fun i => nI (p12.1 i)))), ((ma 22), .inl (k 0, 3998, .inl (fun i => nI (p12.2.1 i)))), ((ma 23), .inl (k 2, 3998, .inl (fun i => nI (p12.2.2 i))))]) (wr := [((ma 24), .inl (k 0, 170, .inl (fun i => nI (O i)))), ((ma 25), .inl (k 0, 170, .inl (fun i => nI (T2 i)))), ((ma 26), .inl (k 0, 170, .inl (fun i => nI (qt i)))), ((ma 27), .inl (k 0, 170, .inl (fun i => nI (Dv i)))), ((ma 0), .inl (k 0, 4, .inl (fun i => nI (tk i))))]) S hA [5, 6, 7, 8] [0, 1, 2, 3, 4] rfl rfl (by decide) (by decide) (va_runV (As := [.int 3991, .long 0]) (rest := []) ⟨hx, hb, C.2.2.1, C.2.2.2.1, C.2.2.2.2.1⟩ (g_Mo_putZ l G k h0 _ 3991 0 ma (va_up (va_up (va_up iv 26 (nI sv9)) 27 (nI bf)) 24 (nI rows)) co p12.1 p12.2.1 p12.2.2 (va_up T 3990 ((((1 : Int64) <<< ((nI kk).toInt64 &&& 63))).toInt)) hT_p12 (by omega) (by decide)) (k_virt (n := 2) C wc_Mo_put rfl rfl wz_Mo wm_Mo_360 wn_Mo_put ws_Mo_put (by decide +kernel) ⟨(Nat.le_of_ble_eq_true rfl), (Nat.le_of_ble_eq_true rfl)⟩) (pr_nowV K S [5, 6, 7, 8] (by decide) rfl 5 rfl rfl) rfl rfl hl.1 rfl (lv_room (Nat.le_of_ble_eq_true rfl)) d_Mo_scaled_44 ⟨(Nat.le_of_ble_eq_true rfl), (Nat.le_of_ble_eq_true rfl)⟩) (fun p13 H locs hw22 S => ?_)
          have S : Sw G A s.heap _ _ [((ma 24), .inl (k 0, 170, .inl (fun i => nI (O i)))), ((ma 25), .inl (k 0, 170, .inl (fun i => nI (T2 i)))), ((ma 26), .inl (k 0, 170, .inl (fun i => nI (qt i)))), ((ma 27), .inl (k 0, 170, .inl (fun i => nI (Dv i)))), ((ma 0), .inl (k 0, 4, .inl (fun i => nI (tk i)))), (h0, .inr (8, moL ma (va_up (va_up (va_up iv 26 (nI sv9)) 27 (nI bf)) 24 (nI rows)) co)), ((ma 21), .inl (k 0, 319840, .inl (fun i => nI (p13.1 i)))), ((ma 22), .inl (k 0, 3998, .inl (fun i => nI (p13.2.1 i)))), ((ma 23), .inl (k 2, 3998, .inl (fun i => nI (p13.2.2 i))))] := S
          have hT_p13 : tbO p13.1 p13.2.1 p13.2.2 (va_up (va_up T 3990 ((((1 : Int64) <<< ((nI kk).toInt64 &&& 63))).toInt)) 3991 0) := by have h9 := hw22; rw [show (0 : Int64).toInt = 0 from by decide] at h9; exact h9
          refine lv_aload_n hx hb d_Mo_scaled_47 rfl (lv_at hl 0 rfl) ?_
          refine lv_aload_n hx hb d_Mo_scaled_48 rfl (lv_at hl 0 rfl) ?_
          refine lv_iload_n hx hb d_Mo_scaled_49 rfl (lv_at hl 1 rfl) ?_
          refine r_backi (wi := [(h0, .inr (8, moL ma (va_up (va_up (va_up iv 26 (nI sv9)) 27 (nI bf)) 24 (nI rows)) co)), ((ma 0), .inl (k 0, 4, .inl (fun i => nI (tk i))))]) (wr := [((ma 24), .inl (k 0, 170, .inl (fun i => nI (O i)))), ((ma 25), .inl (k 0, 170, .inl (fun i => nI (T2 i)))), ((ma 26), .inl (k 0, 170, .inl (fun i => nI (qt i)))), ((ma 27), .inl (k 0, 170, .inl (fun i => nI (Dv i)))), ((ma 21), .inl (k 0, 319840, .inl (fun i => nI (p13.1 i)))), ((ma 22), .inl (k 0, 3998, .inl (fun i => nI (p13.2.1 i)))), ((ma 23), .inl (k 2, 3998, .inl (fun i => nI (p13.2.2 i))))]) S hA [5, 4] [0, 1, 2, 3, 6, 7, 8] rfl rfl (by decide) (by decide) (va_runV (As := [.int 3]) (rest := [.ref h0]) ⟨hx, hb, C.2.2.1, C.2.2.2.1, C.2.2.2.2.1⟩ (g_Mo_boundAt_3 l G k h0 _ sv9 bf rows ma iv co tk (by first | assumption | omega) (by first | assumption | omega) (by first | assumption | omega)) (k_virt (n := 1) C wc_Mo_boundAt rfl rfl wz_Mo wm_Mo_404 wn_Mo_boundAt ws_Mo_boundAt (by decide +kernel) ⟨(Nat.le_of_ble_eq_true rfl), (Nat.le_of_ble_eq_true rfl)⟩) (pr_nowV K S [5, 4] (by decide) rfl 5 rfl rfl) rfl rfl hl.1 rfl (lv_room (Nat.le_of_ble_eq_true rfl)) d_Mo_scaled_50 ⟨(Nat.le_of_ble_eq_true rfl), (Nat.le_of_ble_eq_true rfl)⟩) (fun r25 u23 H locs hw24 S => ?_)
          have S : Sw G A s.heap _ _ [((ma 24), .inl (k 0, 170, .inl (fun i => nI (O i)))), ((ma 25), .inl (k 0, 170, .inl (fun i => nI (T2 i)))), ((ma 26), .inl (k 0, 170, .inl (fun i => nI (qt i)))), ((ma 27), .inl (k 0, 170, .inl (fun i => nI (Dv i)))), ((ma 21), .inl (k 0, 319840, .inl (fun i => nI (p13.1 i)))), ((ma 22), .inl (k 0, 3998, .inl (fun i => nI (p13.2.1 i)))), ((ma 23), .inl (k 2, 3998, .inl (fun i => nI (p13.2.2 i)))), (h0, .inr (8, moL ma (va_up (va_up (va_up iv 26 (nI sv9)) 27 (nI bf)) 24 (nI rows)) co)), ((ma 0), .inl (k 0, 4, .inl (fun i => nI (tk i))))] := S
          obtain ⟨hw240, hp26⟩ := hw24
          obtain rfl : r25 = nI (42 * (rows + 1 + tk bf) + 41) := hw240
          refine lv_sipush (v := 3990) hx hb d_Mo_scaled_53 (by decide) ?_
          refine lv_sipush (v := 3991) hx hb d_Mo_scaled_56 (by decide) ?_
          refine lv_sipush (v := 3991) hx hb d_Mo_scaled_59 (by decide) ?_
          refine r_backv (wi := [(h0, .inr (8, moL ma (va_up (va_up (va_up iv 26 (nI sv9)) 27 (nI bf)) 24 (nI rows)) co)), ((ma 21), .inl (k 0, 319840, .inl (fun i => nI (p13.1 i)))), ((ma 22), .inl (k 0, 3998, .inl (fun i => nI (p13.2.1 i)))), ((ma 23), .inl (k 2, 3998, .inl (fun i => nI (p13.2.2 i)))), ((ma 24), .inl (k 0, 170, .inl (fun i => nI (O i)))), ((ma 25), .inl (k 0, 170, .inl (fun i => nI (T2 i))))]) (wr := [((ma 26), .inl (k 0, 170, .inl (fun i => nI (qt i)))), ((ma 27), .inl (k 0, 170, .inl (fun i => nI (Dv i)))), ((ma 0), .inl (k 0, 4, .inl (fun i => nI (tk i))))]) S hA [7, 4, 5, 6, 0, 1] [2, 3, 8] rfl rfl (by decide) (by decide) (va_runV (As := [.int (nI (42 * (rows + 1 + tk bf) + 41)), .int 3990, .int 3991, .int 3991]) (rest := []) ⟨hx, hb, C.2.2.1, C.2.2.2.1, C.2.2.2.2.1⟩ (g_Mo_products l G k h0 _ (42 * (rows + 1 + tk bf) + 41) 3990 3991 3991 ma (va_up (va_up (va_up iv 26 (nI sv9)) 27 (nI bf)) 24 (nI rows)) co p13.1 p13.2.1 p13.2.2 O T2 (by omega) (by omega) (by omega) (by omega) (hT_p13.2 _ (by omega)).1 (hT_p13.2 _ (by omega)).1 (hT_p13.2 _ (by omega)).1 (hT_p13.2 _ (by omega)).1 (hT_p13.2 _ (by omega)).2.1 (hT_p13.2 _ (by omega)).2.1 (hT_p13.2 _ (by omega)).2.1 (hT_p13.2 _ (by omega)).2.1 hT_p13.1 dO d2) (k_virt (n := 4) C wc_Mo_products rfl rfl wz_Mo wm_Mo_351 wn_Mo_products ws_Mo_products (by decide +kernel) ⟨(Nat.le_of_ble_eq_true rfl), (Nat.le_of_ble_eq_true rfl)⟩) (pr_nowV K S [7, 4, 5, 6, 0, 1] (by decide) rfl 7 rfl rfl) rfl rfl hl.1 rfl (lv_room (Nat.le_of_ble_eq_true rfl)) d_Mo_scaled_62 ⟨(Nat.le_of_ble_eq_true rfl), (Nat.le_of_ble_eq_true rfl)⟩) (fun pu H locs hw27 S => ?_)
          have S : Sw G A s.heap _ _ [((ma 26), .inl (k 0, 170, .inl (fun i => nI (qt i)))), ((ma 27), .inl (k 0, 170, .inl (fun i => nI (Dv i)))), ((ma 0), .inl (k 0, 4, .inl (fun i => nI (tk i)))), (h0, .inr (8, moL ma (va_up (va_up (va_up (va_up (va_up (va_up (va_up iv 26 (nI sv9)) 27 (nI bf)) 24 (nI rows)) 21 (nI pu.2.2.2.1)) 22 (nI pu.2.2.2.2.2)) 20 (nI pu.2.2.2.2.1)) 19 (nI pu.2.2.1)) co)), ((ma 21), .inl (k 0, 319840, .inl (fun i => nI (p13.1 i)))), ((ma 22), .inl (k 0, 3998, .inl (fun i => nI (p13.2.1 i)))), ((ma 23), .inl (k 2, 3998, .inl (fun i => nI (p13.2.2 i)))), ((ma 24), .inl (k 0, 170, .inl (fun i => nI (pu.1 i)))), ((ma 25), .inl (k 0, 170, .inl (fun i => nI (pu.2.1 i))))] := S
          obtain ⟨hX, hn1, htr, dA, dB, hob⟩ := hw27
          refine lv_aload_n hx hb d_Mo_scaled_65 rfl (lv_at hl 0 rfl) ?_
          refine lv_sipush (v := 3997) hx hb d_Mo_scaled_66 (by decide) ?_
          have hV := hT_p13.2 3997 (by omega)
          rw [show (va_up (va_up T 3990 ((((1 : Int64) <<< ((nI kk).toInt64 &&& 63))).toInt)) 3991 0) 3997 = T 3997 by rw [va_up_ne _ _ (by omega), va_up_ne _ _ (by omega)]] at hV
          have hV3 := tbO_pos (T := T) hV hS.2.2.1
          refine r_backv (wi := [(h0, .inr (8, moL ma (va_up (va_up (va_up (va_up (va_up (va_up (va_up iv 26 (nI sv9)) 27 (nI bf)) 24 (nI rows)) 21 (nI pu.2.2.2.1)) 22 (nI pu.2.2.2.2.2)) 20 (nI pu.2.2.2.2.1)) 19 (nI pu.2.2.1)) co)), ((ma 21), .inl (k 0, 319840, .inl (fun i => nI (p13.1 i)))), ((ma 22), .inl (k 0, 3998, .inl (fun i => nI (p13.2.1 i)))), ((ma 24), .inl (k 0, 170, .inl (fun i => nI (pu.1 i)))), ((ma 26), .inl (k 0, 170, .inl (fun i => nI (qt i)))), ((ma 27), .inl (k 0, 170, .inl (fun i => nI (Dv i))))]) (wr := [((ma 0), .inl (k 0, 4, .inl (fun i => nI (tk i)))), ((ma 23), .inl (k 2, 3998, .inl (fun i => nI (p13.2.2 i)))), ((ma 25), .inl (k 0, 170, .inl (fun i => nI (pu.2.1 i))))]) S hA [3, 4, 5, 7, 0, 1] [2, 6, 8] rfl rfl (by decide) (by decide) (va_runV (As := [.int 3997]) (rest := []) ⟨hx, hb, C.2.2.1, C.2.2.2.1, C.2.2.2.2.1⟩ (g_Mo_divide l G k h0 _ 3997 pu.2.2.1 ma (va_up (va_up (va_up (va_up (va_up (va_up iv 26 (nI sv9)) 27 (nI bf)) 24 (nI rows)) 21 (nI pu.2.2.2.1)) 22 (nI pu.2.2.2.2.2)) 20 (nI pu.2.2.2.2.1)) co p13.1 p13.2.1 pu.1 qt Dv (by omega) hV.1 hV3.1 hV3.2 hn1 hT_p13.1 dA dQ dD) (k_virt (n := 1) C wc_Mo_divide rfl rfl wz_Mo wm_Mo_354 wn_Mo_divide ws_Mo_divide (by decide +kernel) ⟨(Nat.le_of_ble_eq_true rfl), (Nat.le_of_ble_eq_true rfl)⟩) (pr_nowV K S [3, 4, 5, 7, 0, 1] (by decide) rfl 3 rfl rfl) rfl rfl hl.1 rfl (lv_room (Nat.le_of_ble_eq_true rfl)) d_Mo_scaled_69 ⟨(Nat.le_of_ble_eq_true rfl), (Nat.le_of_ble_eq_true rfl)⟩) (fun du H locs hw28 S => ?_)
          have S : Sw G A s.heap _ _ [((ma 0), .inl (k 0, 4, .inl (fun i => nI (tk i)))), ((ma 23), .inl (k 2, 3998, .inl (fun i => nI (p13.2.2 i)))), ((ma 25), .inl (k 0, 170, .inl (fun i => nI (pu.2.1 i)))), (h0, .inr (8, moL ma (va_up (va_up (va_up (va_up (va_up (va_up (va_up (va_up iv 26 (nI sv9)) 27 (nI bf)) 24 (nI rows)) 21 (nI pu.2.2.2.1)) 22 (nI pu.2.2.2.2.2)) 20 (nI pu.2.2.2.2.1)) 19 (nI pu.2.2.1)) 23 (nI du.2.2.2)) co)), ((ma 21), .inl (k 0, 319840, .inl (fun i => nI (p13.1 i)))), ((ma 22), .inl (k 0, 3998, .inl (fun i => nI (p13.2.1 i)))), ((ma 24), .inl (k 0, 170, .inl (fun i => nI (du.1 i)))), ((ma 26), .inl (k 0, 170, .inl (fun i => nI (du.2.1 i)))), ((ma 27), .inl (k 0, 170, .inl (fun i => nI (du.2.2.1 i))))] := S
          obtain ⟨hD1, hD2, hD3, dA2, dQ9, dV9⟩ := hw28
          refine lv_lconst (v := 0) hx hb d_Mo_scaled_72 (by decide) ?_
          refine lv_lstore_n (lv' := [(3, .long 0), (0, .ref h0), (1, .int 3), (2, .int (nI kk))]) hx hb d_Mo_scaled_73 rfl hl (by decide) rfl (fun ls hl => ?_)
          refine lv_aload_n hx hb d_Mo_scaled_74 rfl (lv_at hl 1 rfl) ?_
          refine r_get C K S 3 rfl rfl clOk_Mo 52 (by decide) wf_Mo_313 (v := .int (nI du.2.2.2)) rfl d_Mo_scaled_75 ?_
          refine lv_iconst (v := 4) hx hb d_Mo_scaled_78 (by decide) ?_
          refine z_icmp_le (a := du.2.2.2) (b := 4) (tgt := 86) hx hb d_Mo_scaled_79 (by decide) (by omega) (by omega) (fun hc29 => ?_) (fun hc29 => ?_)
          · refine lv_aload_n hx hb d_Mo_scaled_86 rfl (lv_at hl 1 rfl) ?_
            refine r_get C K S 3 rfl rfl clOk_Mo 52 (by decide) wf_Mo_313 (v := .int (nI du.2.2.2)) rfl d_Mo_scaled_87 ?_
            refine lv_iconst (v := 1) hx hb d_Mo_scaled_90 (by decide) ?_
            rcases Nat.eq_zero_or_pos du.2.2.2 with hz | hz
            · refine z_isub (x := nI du.2.2.2) (y := 1) (v := (-1)) hx hb d_Mo_scaled_91 (by rw [hz]; decide) ?_
              refine lv_istore (lv' := [(5, .int (-1)), (3, .long 0), (0, .ref h0), (1, .int 3), (2, .int (nI kk))]) hx hb d_Mo_scaled_92 hl (by decide) rfl (fun ls hl => ?_)
              refine lv_iload hx hb d_Mo_scaled_94 (lv_at hl 0 rfl) ?_
              refine lv_if_lt (tgt := 119) hx hb d_Mo_scaled_96 (by decide) (fun _ => ?_) (fun hq => absurd (by decide) hq)
              refine lv_lload_n hx hb d_Mo_scaled_119 rfl (lv_at hl 1 rfl) ?_
              exact r_lret C K (uz [p13.1, p13.2.1, p13.2.2, du.1, pu.2.1, du.2.1, du.2.2.1], fz (nI pu.2.2.1) (nI pu.2.2.2.2.1) (nI pu.2.2.2.1) (nI pu.2.2.2.2.2) (nI du.2.2.2)) ⟨⟨_, hT_p13, fun c hc => by rw [va_up_ne _ _ (by omega), va_up_ne _ _ (by omega)]⟩, dA2, dB, dQ9, dV9⟩ (S.sub [3, 0, 4, 5, 1, 6, 2, 7, 8] (by decide) rfl) d_Mo_scaled_120 (Nat.le_of_ble_eq_true rfl) (Nat.le_of_ble_eq_true rfl)
            · refine z_isub (x := nI du.2.2.2) (y := 1) (v := nI (du.2.2.2 - 1)) hx hb d_Mo_scaled_91 (pk_sub (a := du.2.2.2) (b := 1) (by omega)) ?_
              refine lv_istore (lv' := [(5, .int (nI (du.2.2.2 - 1))), (3, .long 0), (0, .ref h0), (1, .int 3), (2, .int (nI kk))]) hx hb d_Mo_scaled_92 hl (by decide) rfl (fun ls hl => ?_)
              refine lv_iload hx hb d_Mo_scaled_94 (lv_at hl 0 rfl) ?_
              refine z_if_lt (a := (du.2.2.2 - 1)) (tgt := 119) hx hb d_Mo_scaled_96 (by decide) (by omega) ?_
              have lv : ∀ d9, ∀ (k9 : Nat), ∀ (x9 : Int64), k9 < d9 → (k9 ≤ 161) → ∀ (H : Heap) (locs : List Loc), Sw G A s.heap H locs [((ma 0), .inl (k 0, 4, .inl (fun i => nI (tk i)))), ((ma 23), .inl (k 2, 3998, .inl (fun i => nI (p13.2.2 i)))), ((ma 25), .inl (k 0, 170, .inl (fun i => nI (pu.2.1 i)))), (h0, .inr (8, moL ma (va_up (va_up (va_up (va_up (va_up (va_up (va_up (va_up iv 26 (nI sv9)) 27 (nI bf)) 24 (nI rows)) 21 (nI pu.2.2.2.1)) 22 (nI pu.2.2.2.2.2)) 20 (nI pu.2.2.2.2.1)) 19 (nI pu.2.2.1)) 23 (nI du.2.2.2)) co)), ((ma 21), .inl (k 0, 319840, .inl (fun i => nI (p13.1 i)))), ((ma 22), .inl (k 0, 3998, .inl (fun i => nI (p13.2.1 i)))), ((ma 24), .inl (k 0, 170, .inl (fun i => nI (du.1 i)))), ((ma 26), .inl (k 0, 170, .inl (fun i => nI (du.2.1 i)))), ((ma 27), .inl (k 0, 170, .inl (fun i => nI (du.2.2.1 i))))] → ∀ ls : Array Slot, lv_has ls 6 [(5, .int (nI k9)), (3, .long x9), (0, .ref h0), (1, .int 3), (2, .int (nI kk))] → W p l e { frames := 4, cells := 0, slots := 0, locals := 164 } s m [Value.ref h0, Value.int xi, Value.int xk].toArray below meth c H locs 0 0 (MQ below (va_Ql (fun (r : Int64) (u : (Nat → Nat → Nat) × (Nat → Int32)) => (∃ T9, tbO (u.1 0) (u.1 1) (u.1 2) T9 ∧ ∀ c, c < 3990 ∨ c = 3994 ∨ c = 3997 → T9 c = T c) ∧ (∀ i, i < 170 → u.1 3 i < 65536) ∧ (∀ i, i < 170 → u.1 4 i < 65536) ∧ (∀ i, i < 170 → u.1 5 i < 65536) ∧ (∀ i, i < 170 → u.1 6 i < 65536)) (Po G k A (fun u => [(h0, .inr (8, moL ma (va_up (va_up (va_up (va_up (va_up (va_up (va_up (va_up iv 26 (nI sv9)) 27 (nI bf)) 24 (nI rows)) 19 (u.2 0)) 20 (u.2 1)) 21 (u.2 2)) 22 (u.2 3)) 23 (u.2 4)) co)), ((ma 0), .inl (k 0, 4, .inl (fun i => nI (tk i)))), ((ma 21), .inl (k 0, 319840, .inl (fun i => nI (u.1 0 i)))), ((ma 22), .inl (k 0, 3998, .inl (fun i => nI (u.1 1 i)))), ((ma 23), .inl (k 2, 3998, .inl (fun i => nI (u.1 2 i)))), ((ma 24), .inl (k 0, 170, .inl (fun i => nI (u.1 3 i)))), ((ma 25), .inl (k 0, 170, .inl (fun i => nI (u.1 4 i)))), ((ma 26), .inl (k 0, 170, .inl (fun i => nI (u.1 5 i)))), ((ma 27), .inl (k 0, 170, .inl (fun i => nI (u.1 6 i))))])) A) [Value.ref h0, Value.int xi, Value.int xk].toArray s 0 0 A) (F0 m 99 ls []) := by
                intro d9
                induction d9 with
                | zero => intro k9 x9 hm; exact absurd hm (Nat.not_lt_zero _)
                | succ d9 ih_lv =>
                  intro k9 x9 hm hk H locs S ls hl
                  have q7 := dQ9 k9 (by omega)
                  refine lv_lload_n hx hb d_Mo_scaled_99 rfl (lv_at hl 1 rfl) ?_
                  refine lv_bipush (v := 16) hx hb d_Mo_scaled_100 (by decide) ?_
                  refine lv_lshl (v := (x9 <<< ((16 : Int32).toInt64 &&& 63))) hx hb d_Mo_scaled_102 rfl ?_
                  refine lv_aload_n hx hb d_Mo_scaled_103 rfl (lv_at hl 2 rfl) ?_
                  refine r_get C K S 3 rfl rfl clOk_Mo 46 (by decide) wf_Mo_99 (v := .ref (ma 26)) rfl d_Mo_scaled_104 ?_
                  refine lv_iload hx hb d_Mo_scaled_107 (lv_at hl 0 rfl) ?_
                  refine r_iald C K S 7 rfl (i := nI k9) (show vp_in (nI k9) _ from vp_in_nI (n := k9) (by omega) (by decide)) (v := nI (du.2.1 k9)) (by rw [nI_clamp (by omega)]) d_Mo_scaled_109 ?_
                  refine lv_i2l (v := lN (du.2.1 k9)) hx hb d_Mo_scaled_110 (show (nI (du.2.1 k9) : Int32).toInt64 = _ from nI_l (n := (du.2.1 k9)) (by omega)) ?_
                  refine lv_lor hx hb d_Mo_scaled_111 ?_
                  refine lv_lstore_n (lv' := [(3, .long ((x9 <<< ((16 : Int32).toInt64 &&& 63)) ||| (lN (du.2.1 k9)))), (5, .int (nI k9)), (0, .ref h0), (1, .int 3), (2, .int (nI kk))]) hx hb d_Mo_scaled_112 rfl hl (by decide) rfl (fun ls hl => ?_)
                  rcases Nat.eq_zero_or_pos k9 with hz9 | hz9
                  · refine lv_iinc (v := (-1)) (lv' := [(5, .int (-1)), (3, .long ((x9 <<< ((16 : Int32).toInt64 &&& 63)) ||| (lN (du.2.1 k9)))), (0, .ref h0), (1, .int 3), (2, .int (nI kk))]) hx hb d_Mo_scaled_113 hl (k := 1) rfl (by rw [hz9]; decide) (by decide) rfl (fun ls hl => ?_)
                    refine lv_goto (tgt := 94) hx hb d_Mo_scaled_116 (by decide) ?_
                    refine lv_iload hx hb d_Mo_scaled_94 (lv_at hl 0 rfl) ?_
                    refine lv_if_lt (tgt := 119) hx hb d_Mo_scaled_96 (by decide) (fun _ => ?_) (fun hq => absurd (by decide) hq)
                    refine lv_lload_n hx hb d_Mo_scaled_119 rfl (lv_at hl 1 rfl) ?_
                    exact r_lret C K (uz [p13.1, p13.2.1, p13.2.2, du.1, pu.2.1, du.2.1, du.2.2.1], fz (nI pu.2.2.1) (nI pu.2.2.2.2.1) (nI pu.2.2.2.1) (nI pu.2.2.2.2.2) (nI du.2.2.2)) ⟨⟨_, hT_p13, fun c hc => by rw [va_up_ne _ _ (by omega), va_up_ne _ _ (by omega)]⟩, dA2, dB, dQ9, dV9⟩ (S.sub [3, 0, 4, 5, 1, 6, 2, 7, 8] (by decide) rfl) d_Mo_scaled_120 (Nat.le_of_ble_eq_true rfl) (Nat.le_of_ble_eq_true rfl)
                  · refine lv_iinc (v := nI (k9 - 1)) (lv' := [(5, .int (nI (k9 - 1))), (3, .long ((x9 <<< ((16 : Int32).toInt64 &&& 63)) ||| (lN (du.2.1 k9)))), (0, .ref h0), (1, .int 3), (2, .int (nI kk))]) hx hb d_Mo_scaled_113 hl (k := 1) rfl (z_m1 (a := k9) (by omega)) (by decide) rfl (fun ls hl => ?_)
                    refine lv_goto (tgt := 94) hx hb d_Mo_scaled_116 (by decide) ?_
                    refine lv_iload hx hb d_Mo_scaled_94 (lv_at hl 0 rfl) ?_
                    refine z_if_lt (a := (k9 - 1)) (tgt := 119) hx hb d_Mo_scaled_96 (by decide) (by omega) ?_
                    exact ih_lv (k9 - 1) ((x9 <<< ((16 : Int32).toInt64 &&& 63)) ||| (lN (du.2.1 k9))) (by omega) (by omega) _ _ (S.sub [0, 1, 2, 3, 4, 5, 6, 7, 8] (by decide) rfl) ls (lv_sub hl [0, 1, 2, 3, 4] rfl)
              exact lv _ (du.2.2.2 - 1) 0 (Nat.lt_succ_self _) (by omega) _ _ (S.sub [0, 1, 2, 3, 4, 5, 6, 7, 8] (by decide) rfl) ls (lv_sub hl [0, 1, 2, 3, 4] rfl)
          · refine lv_iconst (v := 3) hx hb d_Mo_scaled_82 (by decide) ?_
            refine lv_goto (tgt := 92) hx hb d_Mo_scaled_83 (by decide) ?_
            refine lv_istore (lv' := [(5, .int 3), (3, .long 0), (0, .ref h0), (1, .int 3), (2, .int (nI kk))]) hx hb d_Mo_scaled_92 hl (by decide) rfl (fun ls hl => ?_)
            refine lv_iload hx hb d_Mo_scaled_94 (lv_at hl 0 rfl) ?_
            refine lv_if_lt (tgt := 119) hx hb d_Mo_scaled_96 (by decide) (fun hq => absurd hq (by decide)) (fun _ => ?_)
            have lv : ∀ d9, ∀ (k9 : Nat), ∀ (x9 : Int64), k9 < d9 → (k9 ≤ 161) → ∀ (H : Heap) (locs : List Loc), Sw G A s.heap H locs [((ma 0), .inl (k 0, 4, .inl (fun i => nI (tk i)))), ((ma 23), .inl (k 2, 3998, .inl (fun i => nI (p13.2.2 i)))), ((ma 25), .inl (k 0, 170, .inl (fun i => nI (pu.2.1 i)))), (h0, .inr (8, moL ma (va_up (va_up (va_up (va_up (va_up (va_up (va_up (va_up iv 26 (nI sv9)) 27 (nI bf)) 24 (nI rows)) 21 (nI pu.2.2.2.1)) 22 (nI pu.2.2.2.2.2)) 20 (nI pu.2.2.2.2.1)) 19 (nI pu.2.2.1)) 23 (nI du.2.2.2)) co)), ((ma 21), .inl (k 0, 319840, .inl (fun i => nI (p13.1 i)))), ((ma 22), .inl (k 0, 3998, .inl (fun i => nI (p13.2.1 i)))), ((ma 24), .inl (k 0, 170, .inl (fun i => nI (du.1 i)))), ((ma 26), .inl (k 0, 170, .inl (fun i => nI (du.2.1 i)))), ((ma 27), .inl (k 0, 170, .inl (fun i => nI (du.2.2.1 i))))] → ∀ ls : Array Slot, lv_has ls 6 [(5, .int (nI k9)), (3, .long x9), (0, .ref h0), (1, .int 3), (2, .int (nI kk))] → W p l e { frames := 4, cells := 0, slots := 0, locals := 164 } s m [Value.ref h0, Value.int xi, Value.int xk].toArray below meth c H locs 0 0 (MQ below (va_Ql (fun (r : Int64) (u : (Nat → Nat → Nat) × (Nat → Int32)) => (∃ T9, tbO (u.1 0) (u.1 1) (u.1 2) T9 ∧ ∀ c, c < 3990 ∨ c = 3994 ∨ c = 3997 → T9 c = T c) ∧ (∀ i, i < 170 → u.1 3 i < 65536) ∧ (∀ i, i < 170 → u.1 4 i < 65536) ∧ (∀ i, i < 170 → u.1 5 i < 65536) ∧ (∀ i, i < 170 → u.1 6 i < 65536)) (Po G k A (fun u => [(h0, .inr (8, moL ma (va_up (va_up (va_up (va_up (va_up (va_up (va_up (va_up iv 26 (nI sv9)) 27 (nI bf)) 24 (nI rows)) 19 (u.2 0)) 20 (u.2 1)) 21 (u.2 2)) 22 (u.2 3)) 23 (u.2 4)) co)), ((ma 0), .inl (k 0, 4, .inl (fun i => nI (tk i)))), ((ma 21), .inl (k 0, 319840, .inl (fun i => nI (u.1 0 i)))), ((ma 22), .inl (k 0, 3998, .inl (fun i => nI (u.1 1 i)))), ((ma 23), .inl (k 2, 3998, .inl (fun i => nI (u.1 2 i)))), ((ma 24), .inl (k 0, 170, .inl (fun i => nI (u.1 3 i)))), ((ma 25), .inl (k 0, 170, .inl (fun i => nI (u.1 4 i)))), ((ma 26), .inl (k 0, 170, .inl (fun i => nI (u.1 5 i)))), ((ma 27), .inl (k 0, 170, .inl (fun i => nI (u.1 6 i))))])) A) [Value.ref h0, Value.int xi, Value.int xk].toArray s 0 0 A) (F0 m 99 ls []) := by
              intro d9
              induction d9 with
              | zero => intro k9 x9 hm; exact absurd hm (Nat.not_lt_zero _)
              | succ d9 ih_lv =>
                intro k9 x9 hm hk H locs S ls hl
                have q7 := dQ9 k9 (by omega)
                refine lv_lload_n hx hb d_Mo_scaled_99 rfl (lv_at hl 1 rfl) ?_
                refine lv_bipush (v := 16) hx hb d_Mo_scaled_100 (by decide) ?_
                refine lv_lshl (v := (x9 <<< ((16 : Int32).toInt64 &&& 63))) hx hb d_Mo_scaled_102 rfl ?_
                refine lv_aload_n hx hb d_Mo_scaled_103 rfl (lv_at hl 2 rfl) ?_
                refine r_get C K S 3 rfl rfl clOk_Mo 46 (by decide) wf_Mo_99 (v := .ref (ma 26)) rfl d_Mo_scaled_104 ?_
                refine lv_iload hx hb d_Mo_scaled_107 (lv_at hl 0 rfl) ?_
                refine r_iald C K S 7 rfl (i := nI k9) (show vp_in (nI k9) _ from vp_in_nI (n := k9) (by omega) (by decide)) (v := nI (du.2.1 k9)) (by rw [nI_clamp (by omega)]) d_Mo_scaled_109 ?_
                refine lv_i2l (v := lN (du.2.1 k9)) hx hb d_Mo_scaled_110 (show (nI (du.2.1 k9) : Int32).toInt64 = _ from nI_l (n := (du.2.1 k9)) (by omega)) ?_
                refine lv_lor hx hb d_Mo_scaled_111 ?_
                refine lv_lstore_n (lv' := [(3, .long ((x9 <<< ((16 : Int32).toInt64 &&& 63)) ||| (lN (du.2.1 k9)))), (5, .int (nI k9)), (0, .ref h0), (1, .int 3), (2, .int (nI kk))]) hx hb d_Mo_scaled_112 rfl hl (by decide) rfl (fun ls hl => ?_)
                rcases Nat.eq_zero_or_pos k9 with hz9 | hz9
                · refine lv_iinc (v := (-1)) (lv' := [(5, .int (-1)), (3, .long ((x9 <<< ((16 : Int32).toInt64 &&& 63)) ||| (lN (du.2.1 k9)))), (0, .ref h0), (1, .int 3), (2, .int (nI kk))]) hx hb d_Mo_scaled_113 hl (k := 1) rfl (by rw [hz9]; decide) (by decide) rfl (fun ls hl => ?_)
                  refine lv_goto (tgt := 94) hx hb d_Mo_scaled_116 (by decide) ?_
                  refine lv_iload hx hb d_Mo_scaled_94 (lv_at hl 0 rfl) ?_
                  refine lv_if_lt (tgt := 119) hx hb d_Mo_scaled_96 (by decide) (fun _ => ?_) (fun hq => absurd (by decide) hq)
                  refine lv_lload_n hx hb d_Mo_scaled_119 rfl (lv_at hl 1 rfl) ?_
                  exact r_lret C K (uz [p13.1, p13.2.1, p13.2.2, du.1, pu.2.1, du.2.1, du.2.2.1], fz (nI pu.2.2.1) (nI pu.2.2.2.2.1) (nI pu.2.2.2.1) (nI pu.2.2.2.2.2) (nI du.2.2.2)) ⟨⟨_, hT_p13, fun c hc => by rw [va_up_ne _ _ (by omega), va_up_ne _ _ (by omega)]⟩, dA2, dB, dQ9, dV9⟩ (S.sub [3, 0, 4, 5, 1, 6, 2, 7, 8] (by decide) rfl) d_Mo_scaled_120 (Nat.le_of_ble_eq_true rfl) (Nat.le_of_ble_eq_true rfl)
                · refine lv_iinc (v := nI (k9 - 1)) (lv' := [(5, .int (nI (k9 - 1))), (3, .long ((x9 <<< ((16 : Int32).toInt64 &&& 63)) ||| (lN (du.2.1 k9)))), (0, .ref h0), (1, .int 3), (2, .int (nI kk))]) hx hb d_Mo_scaled_113 hl (k := 1) rfl (z_m1 (a := k9) (by omega)) (by decide) rfl (fun ls hl => ?_)
                  refine lv_goto (tgt := 94) hx hb d_Mo_scaled_116 (by decide) ?_
                  refine lv_iload hx hb d_Mo_scaled_94 (lv_at hl 0 rfl) ?_
                  refine z_if_lt (a := (k9 - 1)) (tgt := 119) hx hb d_Mo_scaled_96 (by decide) (by omega) ?_
                  exact ih_lv (k9 - 1) ((x9 <<< ((16 : Int32).toInt64 &&& 63)) ||| (lN (du.2.1 k9))) (by omega) (by omega) _ _ (S.sub [0, 1, 2, 3, 4, 5, 6, 7, 8] (by decide) rfl) ls (lv_sub hl [0, 1, 2, 3, 4] rfl)
            exact lv _ 3 0 (Nat.lt_succ_self _) (by omega) _ _ (S.sub [0, 1, 2, 3, 4, 5, 6, 7, 8] (by decide) rfl) ls (lv_sub hl [0, 1, 2, 3, 4] rfl)
        · have hl : lv_has ls 6 [(0, .ref h0), (1, .int xi), (2, .int (nI kk))] := by rw [← hke]; exact hl
          refine lv_aload_n hx hb d_Mo_scaled_17 rfl (lv_at hl 0 rfl) ?_
          refine lv_iload_n hx hb d_Mo_scaled_18 rfl (lv_at hl 1 rfl) ?_
          refine r_backi (wi := [(h0, .inr (8, moL ma (va_up (va_up (va_up iv 26 (nI sv9)) 27 (nI bf)) 24 (nI rows)) co)), ((ma 0), .inl (k 0, 4, .inl (fun i => nI (tk i))))]) (wr := [((ma 21), .inl (k 0, 319840, .inl (fun i => nI (dg i)))), ((ma 22), .inl (k 0, 3998, .inl (fun i => nI (sz i)))), ((ma 23), .inl (k 2, 3998, .inl (fun i => nI (bl i)))), ((ma 24), .inl (k 0, 170, .inl (fun i => nI (O i)))), ((ma 25), .inl (k 0, 170, .inl (fun i => nI (T2 i)))), ((ma 26), .inl (k 0, 170, .inl (fun i => nI (qt i)))), ((ma 27), .inl (k 0, 170, .inl (fun i => nI (Dv i))))]) S hA [0, 1] [2, 3, 4, 5, 6, 7, 8] rfl rfl (by decide) (by decide) (va_runV (As := [.int xi]) (rest := []) ⟨hx, hb, C.2.2.1, C.2.2.2.1, C.2.2.2.2.1⟩ (g_Mo_boundAt_no l G k h0 _ xi sv9 bf rows ma iv co tk (by first | assumption | omega) (by first | assumption | omega) (by first | assumption | omega) hve) (k_virt (n := 1) C wc_Mo_boundAt rfl rfl wz_Mo wm_Mo_404 wn_Mo_boundAt ws_Mo_boundAt (by decide +kernel) ⟨(Nat.le_of_ble_eq_true rfl), (Nat.le_of_ble_eq_true rfl)⟩) (pr_nowV K S [0, 1] (by decide) rfl 0 rfl rfl) rfl rfl hl.1 rfl (lv_room (Nat.le_of_ble_eq_true rfl)) d_Mo_scaled_19 ⟨(Nat.le_of_ble_eq_true rfl), (Nat.le_of_ble_eq_true rfl)⟩) (fun r32 u30 H locs hw31 S => ?_)
          have S : Sw G A s.heap _ _ [((ma 21), .inl (k 0, 319840, .inl (fun i => nI (dg i)))), ((ma 22), .inl (k 0, 3998, .inl (fun i => nI (sz i)))), ((ma 23), .inl (k 2, 3998, .inl (fun i => nI (bl i)))), ((ma 24), .inl (k 0, 170, .inl (fun i => nI (O i)))), ((ma 25), .inl (k 0, 170, .inl (fun i => nI (T2 i)))), ((ma 26), .inl (k 0, 170, .inl (fun i => nI (qt i)))), ((ma 27), .inl (k 0, 170, .inl (fun i => nI (Dv i)))), (h0, .inr (8, moL ma (va_up (va_up (va_up iv 26 (nI sv9)) 27 (nI bf)) 24 (nI rows)) co)), ((ma 0), .inl (k 0, 4, .inl (fun i => nI (tk i))))] := S
          obtain ⟨hw310, hp33⟩ := hw31
          obtain rfl : r32 = -1 := hw310
          refine lv_if_ge (tgt := 29) hx hb d_Mo_scaled_22 (by decide) (fun hq => absurd hq (by decide)) (fun _ => ?_)
          refine lv_ldc2 (v := (-2)) hx hb C.2.2.2.1 (C.2.2.2.2.1 _ wk_Mo_407) d_Mo_scaled_25 ?_
          exact r_lret C K (uz [dg, sz, bl, O, T2, qt, Dv], fun j => iv (19 + j)) ⟨⟨T, hT, fun _ _ => rfl⟩, dO, d2, dQ, dD⟩ (S.sub [7, 8, 0, 1, 2, 3, 4, 5, 6] (by decide) rfl) d_Mo_scaled_28 (Nat.le_of_ble_eq_true rfl) (Nat.le_of_ble_eq_true rfl)
end
section
theorem ln_neg {x : Int64} (h : 0 < x.toInt) : (-x).toInt = - x.toInt := by
  rw [Int64.toInt_neg]
  exact Int.bmod_eq_of_le (by have := x.toInt_lt; omega) (by omega)
theorem lcg_gt {a b : Int64} (h : 0 < lg_cmp a b) : b.toInt < a.toInt := lz_lt.mp ((lg_cmp_gt _ _).mp h)
theorem p46 : (65536 : Nat) ^ 42 * 9223372036854775808 + 65536 ^ 42 < 65536 ^ 46 ∧ (65536 : Nat) ^ 42 * 2147483648 < 65536 ^ 46 ∧ 5 * (65536 : Nat) ^ 46 < 65536 ^ 80 := by decide +kernel
theorem cv_first0 {b o x : Int} {P Q : Nat} (hPQ : P * 9223372036854775808 + P < Q) (hb : b.natAbs < P) (ho : o.natAbs < P) (hx : x.natAbs ≤ 9223372036854775808) : (b * 1 + x * o).natAbs ≤ 1 * Q := by
  have h2 := Int.natAbs_add_le (b * 1) (x * o)
  rw [Int.natAbs_mul x o] at h2
  rw [Int.mul_one] at h2 ⊢
  have h3 : x.natAbs * o.natAbs ≤ 9223372036854775808 * P := Nat.mul_le_mul hx (Nat.le_of_lt ho)
  omega
theorem cv_first {b o x : Int} (hb : b.natAbs < 65536 ^ 42) (ho : o.natAbs < 65536 ^ 42) (hx : x.natAbs ≤ 9223372036854775808) : (b * 1 + x * o).natAbs ≤ 1 * 65536 ^ 46 := cv_first0 p46.1 hb ho hx
theorem cv_next0 {s b x : Int} {i P Q : Nat} (hPQ : P * 2147483648 < Q) (hs : s.natAbs ≤ (i + 1) * Q) (hb : b.natAbs < P) (hx : x.natAbs ≤ 2147483648) : (s * 1 + b * x).natAbs ≤ (i + 1 + 1) * Q := by
  have h2 := Int.natAbs_add_le (s * 1) (b * x)
  rw [Int.natAbs_mul b x] at h2
  rw [Int.mul_one] at h2 ⊢
  have h3 : b.natAbs * x.natAbs ≤ P * 2147483648 := Nat.mul_le_mul (Nat.le_of_lt hb) hx
  rw [Nat.add_mul (i + 1) 1, Nat.one_mul]
  omega
theorem cv_next {s b x : Int} {i : Nat} (hs : s.natAbs ≤ (i + 1) * 65536 ^ 46) (hb : b.natAbs < 65536 ^ 42) (hx : x.natAbs ≤ 2147483648) : (s * 1 + b * x).natAbs ≤ (i + 1 + 1) * 65536 ^ 46 := cv_next0 p46.2.1 hs hb hx
theorem cv_800 {n i Q R : Nat} (hQR : 5 * Q < R) (h : n ≤ (i + 1) * Q) (hi : i ≤ 4) : n < R := by
  have h2 : (i + 1) * Q ≤ 5 * Q := Nat.mul_le_mul_right _ (by omega)
  omega
theorem cv_80 {n i : Nat} (h : n ≤ (i + 1) * 65536 ^ 46) (hi : i ≤ 4) : n < 65536 ^ 80 := cv_800 p46.2.2 h hi
theorem i64_abs (x : Int32) : x.toInt64.toInt.natAbs ≤ 2147483648 ∧ -9223372036854775808 < x.toInt64.toInt := by
  rw [Int32.toInt_toInt64]
  have h1 := x.toInt_lt
  have h2 := x.le_toInt
  constructor <;> omega
theorem d_Mo_covers_0 : decode c_Mo_covers 0 = .ok (.aload_n 0, 1) := by decide +kernel
theorem d_Mo_covers_1 : decode c_Mo_covers 1 = .ok (.getfield 383, 3) := by decide +kernel
theorem d_Mo_covers_4 : decode c_Mo_covers 4 = .ok (.ifCond .ne 6, 3) := by decide +kernel
theorem d_Mo_covers_7 : decode c_Mo_covers 7 = .ok (.bipush (-2), 2) := by decide +kernel
theorem d_Mo_covers_9 : decode c_Mo_covers 9 = .ok (.ireturn, 1) := by decide +kernel
theorem d_Mo_covers_10 : decode c_Mo_covers 10 = .ok (.aload_n 0, 1) := by decide +kernel
theorem d_Mo_covers_11 : decode c_Mo_covers 11 = .ok (.getfield 9, 3) := by decide +kernel
theorem d_Mo_covers_14 : decode c_Mo_covers 14 = .ok (.aload_n 0, 1) := by decide +kernel
theorem d_Mo_covers_15 : decode c_Mo_covers 15 = .ok (.getfield 392, 3) := by decide +kernel
theorem d_Mo_covers_18 : decode c_Mo_covers 18 = .ok (.iaload, 1) := by decide +kernel
theorem d_Mo_covers_19 : decode c_Mo_covers 19 = .ok (.istore 6, 2) := by decide +kernel
theorem d_Mo_covers_21 : decode c_Mo_covers 21 = .ok (.iload_n 1, 1) := by decide +kernel
theorem d_Mo_covers_22 : decode c_Mo_covers 22 = .ok (.ifCond .lt 11, 3) := by decide +kernel
theorem d_Mo_covers_25 : decode c_Mo_covers 25 = .ok (.iload_n 2, 1) := by decide +kernel
theorem d_Mo_covers_26 : decode c_Mo_covers 26 = .ok (.ifCond .lt 7, 3) := by decide +kernel
theorem d_Mo_covers_29 : decode c_Mo_covers 29 = .ok (.iload_n 3, 1) := by decide +kernel
theorem d_Mo_covers_30 : decode c_Mo_covers 30 = .ok (.ifCond .ge 6, 3) := by decide +kernel
theorem d_Mo_covers_33 : decode c_Mo_covers 33 = .ok (.bipush (-2), 2) := by decide +kernel
theorem d_Mo_covers_35 : decode c_Mo_covers 35 = .ok (.ireturn, 1) := by decide +kernel
theorem d_Mo_covers_36 : decode c_Mo_covers 36 = .ok (.lload 4, 2) := by decide +kernel
theorem d_Mo_covers_38 : decode c_Mo_covers 38 = .ok (.lconst 0, 1) := by decide +kernel
theorem d_Mo_covers_39 : decode c_Mo_covers 39 = .ok (.lcmp, 1) := by decide +kernel
theorem d_Mo_covers_40 : decode c_Mo_covers 40 = .ok (.ifCond .gt 5, 3) := by decide +kernel
theorem d_Mo_covers_43 : decode c_Mo_covers 43 = .ok (.iconst 1, 1) := by decide +kernel
theorem d_Mo_covers_44 : decode c_Mo_covers 44 = .ok (.ireturn, 1) := by decide +kernel
theorem d_Mo_covers_45 : decode c_Mo_covers 45 = .ok (.aload_n 0, 1) := by decide +kernel
theorem d_Mo_covers_46 : decode c_Mo_covers 46 = .ok (.sipush 3990, 3) := by decide +kernel
theorem d_Mo_covers_49 : decode c_Mo_covers 49 = .ok (.lconst 1, 1) := by decide +kernel
theorem d_Mo_covers_50 : decode c_Mo_covers 50 = .ok (.invokevirtual 360, 3) := by decide +kernel
theorem d_Mo_covers_53 : decode c_Mo_covers 53 = .ok (.aload_n 0, 1) := by decide +kernel
theorem d_Mo_covers_54 : decode c_Mo_covers 54 = .ok (.sipush 3991, 3) := by decide +kernel
theorem d_Mo_covers_57 : decode c_Mo_covers 57 = .ok (.lload 4, 2) := by decide +kernel
theorem d_Mo_covers_59 : decode c_Mo_covers 59 = .ok (.lneg, 1) := by decide +kernel
theorem d_Mo_covers_60 : decode c_Mo_covers 60 = .ok (.invokevirtual 360, 3) := by decide +kernel
theorem d_Mo_covers_63 : decode c_Mo_covers 63 = .ok (.aload_n 0, 1) := by decide +kernel
theorem d_Mo_covers_64 : decode c_Mo_covers 64 = .ok (.sipush 3992, 3) := by decide +kernel
theorem d_Mo_covers_67 : decode c_Mo_covers 67 = .ok (.aload_n 0, 1) := by decide +kernel
theorem d_Mo_covers_68 : decode c_Mo_covers 68 = .ok (.iconst 3, 1) := by decide +kernel
theorem d_Mo_covers_69 : decode c_Mo_covers 69 = .ok (.invokevirtual 404, 3) := by decide +kernel
theorem d_Mo_covers_72 : decode c_Mo_covers 72 = .ok (.sipush 3990, 3) := by decide +kernel
theorem d_Mo_covers_75 : decode c_Mo_covers 75 = .ok (.sipush 3991, 3) := by decide +kernel
theorem d_Mo_covers_78 : decode c_Mo_covers 78 = .ok (.sipush 3997, 3) := by decide +kernel
theorem d_Mo_covers_81 : decode c_Mo_covers 81 = .ok (.invokevirtual 409, 3) := by decide +kernel
theorem d_Mo_covers_84 : decode c_Mo_covers 84 = .ok (.iconst 0, 1) := by decide +kernel
theorem d_Mo_covers_85 : decode c_Mo_covers 85 = .ok (.istore 7, 2) := by decide +kernel
theorem d_Mo_covers_87 : decode c_Mo_covers 87 = .ok (.iload 7, 2) := by decide +kernel
theorem d_Mo_covers_89 : decode c_Mo_covers 89 = .ok (.iload 6, 2) := by decide +kernel
theorem d_Mo_covers_91 : decode c_Mo_covers 91 = .ok (.if_icmp .ge 80, 3) := by decide +kernel
theorem d_Mo_covers_94 : decode c_Mo_covers 94 = .ok (.aload_n 0, 1) := by decide +kernel
theorem d_Mo_covers_95 : decode c_Mo_covers 95 = .ok (.sipush 3991, 3) := by decide +kernel
theorem d_Mo_covers_98 : decode c_Mo_covers 98 = .ok (.iload 7, 2) := by decide +kernel
theorem d_Mo_covers_100 : decode c_Mo_covers 100 = .ok (.ifCond .ne 8, 3) := by decide +kernel
theorem d_Mo_covers_103 : decode c_Mo_covers 103 = .ok (.iload_n 1, 1) := by decide +kernel
theorem d_Mo_covers_104 : decode c_Mo_covers 104 = .ok (.i2l, 1) := by decide +kernel
theorem d_Mo_covers_105 : decode c_Mo_covers 105 = .ok (.goto 16, 3) := by decide +kernel
theorem d_Mo_covers_108 : decode c_Mo_covers 108 = .ok (.iload 7, 2) := by decide +kernel
theorem d_Mo_covers_110 : decode c_Mo_covers 110 = .ok (.iconst 1, 1) := by decide +kernel
theorem d_Mo_covers_111 : decode c_Mo_covers 111 = .ok (.if_icmp .ne 8, 3) := by decide +kernel
theorem d_Mo_covers_114 : decode c_Mo_covers 114 = .ok (.iload_n 2, 1) := by decide +kernel
theorem d_Mo_covers_115 : decode c_Mo_covers 115 = .ok (.i2l, 1) := by decide +kernel
theorem d_Mo_covers_116 : decode c_Mo_covers 116 = .ok (.goto 5, 3) := by decide +kernel
theorem d_Mo_covers_119 : decode c_Mo_covers 119 = .ok (.iload_n 3, 1) := by decide +kernel
theorem d_Mo_covers_120 : decode c_Mo_covers 120 = .ok (.i2l, 1) := by decide +kernel
theorem d_Mo_covers_121 : decode c_Mo_covers 121 = .ok (.invokevirtual 360, 3) := by decide +kernel
theorem d_Mo_covers_124 : decode c_Mo_covers 124 = .ok (.aload_n 0, 1) := by decide +kernel
theorem d_Mo_covers_125 : decode c_Mo_covers 125 = .ok (.sipush 3993, 3) := by decide +kernel
theorem d_Mo_covers_128 : decode c_Mo_covers 128 = .ok (.sipush 3992, 3) := by decide +kernel
theorem d_Mo_covers_131 : decode c_Mo_covers 131 = .ok (.sipush 3990, 3) := by decide +kernel
theorem d_Mo_covers_134 : decode c_Mo_covers 134 = .ok (.aload_n 0, 1) := by decide +kernel
theorem d_Mo_covers_135 : decode c_Mo_covers 135 = .ok (.iload 7, 2) := by decide +kernel
theorem d_Mo_covers_137 : decode c_Mo_covers 137 = .ok (.invokevirtual 404, 3) := by decide +kernel
theorem d_Mo_covers_140 : decode c_Mo_covers 140 = .ok (.sipush 3991, 3) := by decide +kernel
theorem d_Mo_covers_143 : decode c_Mo_covers 143 = .ok (.invokevirtual 409, 3) := by decide +kernel
theorem d_Mo_covers_146 : decode c_Mo_covers 146 = .ok (.aload_n 0, 1) := by decide +kernel
theorem d_Mo_covers_147 : decode c_Mo_covers 147 = .ok (.sipush 3992, 3) := by decide +kernel
theorem d_Mo_covers_150 : decode c_Mo_covers 150 = .ok (.sipush 3993, 3) := by decide +kernel
theorem d_Mo_covers_153 : decode c_Mo_covers 153 = .ok (.sipush 3990, 3) := by decide +kernel
theorem d_Mo_covers_156 : decode c_Mo_covers 156 = .ok (.sipush 3994, 3) := by decide +kernel
theorem d_Mo_covers_159 : decode c_Mo_covers 159 = .ok (.sipush 3994, 3) := by decide +kernel
theorem d_Mo_covers_162 : decode c_Mo_covers 162 = .ok (.invokevirtual 409, 3) := by decide +kernel
theorem d_Mo_covers_165 : decode c_Mo_covers 165 = .ok (.iinc 7 1, 3) := by decide +kernel
theorem d_Mo_covers_168 : decode c_Mo_covers 168 = .ok (.goto (-81), 3) := by decide +kernel
theorem d_Mo_covers_171 : decode c_Mo_covers 171 = .ok (.aload_n 0, 1) := by decide +kernel
theorem d_Mo_covers_172 : decode c_Mo_covers 172 = .ok (.sipush 3992, 3) := by decide +kernel
theorem d_Mo_covers_175 : decode c_Mo_covers 175 = .ok (.invokevirtual 330, 3) := by decide +kernel
theorem d_Mo_covers_178 : decode c_Mo_covers 178 = .ok (.ifCond .lt 7, 3) := by decide +kernel
theorem d_Mo_covers_181 : decode c_Mo_covers 181 = .ok (.iconst 1, 1) := by decide +kernel
theorem d_Mo_covers_182 : decode c_Mo_covers 182 = .ok (.goto 4, 3) := by decide +kernel
theorem d_Mo_covers_185 : decode c_Mo_covers 185 = .ok (.iconst 0, 1) := by decide +kernel
theorem d_Mo_covers_186 : decode c_Mo_covers 186 = .ok (.ireturn, 1) := by decide +kernel
set_option maxRecDepth 100000 in
set_option maxHeartbeats 16000000 in
/-- covers(xa, xb, xc, xn) -/
theorem g_Mo_covers (l : Launch) (G : va_G) (k : Nat → ClassId) (h0 : Nat) (s0 : Nat) (xa : Int32) (xb : Int32) (xc : Int32) (xn : Int64) (sv9 : Nat) (bf : Nat) (rows : Nat) (ma : Nat → Nat) (iv : Nat → Int32) (co : Int64) (tk : Nat → Nat) (dg : Nat → Nat) (sz : Nat → Nat) (bl : Nat → Nat) (O : Nat → Nat) (T2 : Nat → Nat) (qt : Nat → Nat) (Dv : Nat → Nat) (T : Nat → Int) (hT : tbO dg sz bl T) (hsv : sv9 ≤ 1) (hbf : bf < 4) (hok : sv9 = 1 → solO (tk bf) rows T) (dO : ∀ i, i < 170 → O i < 65536) (d2 : ∀ i, i < 170 → T2 i < 65536) (dQ : ∀ i, i < 170 → qt i < 65536) (dD : ∀ i, i < 170 → Dv i < 65536) (h94 : T 3994 = 0) : CI l y_Mo_covers c_Mo_covers 8 .int { frames := 5, cells := 0, slots := 0, locals := 190 } [.ref h0, .int xa, .int xb, .int xc, .long xn] G k s0 [(h0, .inr (8, moL ma (va_up (va_up (va_up iv 26 (nI sv9)) 27 (nI bf)) 24 (nI rows)) co)), ((ma 0), .inl (k 0, 4, .inl (fun i => nI (tk i)))), ((ma 21), .inl (k 0, 319840, .inl (fun i => nI (dg i)))), ((ma 22), .inl (k 0, 3998, .inl (fun i => nI (sz i)))), ((ma 23), .inl (k 2, 3998, .inl (fun i => nI (bl i)))), ((ma 24), .inl (k 0, 170, .inl (fun i => nI (O i)))), ((ma 25), .inl (k 0, 170, .inl (fun i => nI (T2 i)))), ((ma 26), .inl (k 0, 170, .inl (fun i => nI (qt i)))), ((ma 27), .inl (k 0, 170, .inl (fun i => nI (Dv i))))] (fun (r : Int32) (u : (Nat → Nat → Nat) × (Nat → Int32)) => (∃ T9, tbO (u.1 0) (u.1 1) (u.1 2) T9 ∧ ∀ c, c < 3990 ∨ c = 3994 ∨ c = 3997 → T9 c = T c) ∧ (∀ i, i < 170 → u.1 3 i < 65536) ∧ (∀ i, i < 170 → u.1 4 i < 65536) ∧ (∀ i, i < 170 → u.1 5 i < 65536) ∧ (∀ i, i < 170 → u.1 6 i < 65536)) (fun u => [(h0, .inr (8, moL ma (va_up (va_up (va_up (va_up (va_up (va_up (va_up (va_up iv 26 (nI sv9)) 27 (nI bf)) 24 (nI rows)) 19 (u.2 0)) 20 (u.2 1)) 21 (u.2 2)) 22 (u.2 3)) 23 (u.2 4)) co)), ((ma 0), .inl (k 0, 4, .inl (fun i => nI (tk i)))), ((ma 21), .inl (k 0, 319840, .inl (fun i => nI (u.1 0 i)))), ((ma 22), .inl (k 0, 3998, .inl (fun i => nI (u.1 1 i)))), ((ma 23), .inl (k 2, 3998, .inl (fun i => nI (u.1 2 i)))), ((ma 24), .inl (k 0, 170, .inl (fun i => nI (u.1 3 i)))), ((ma 25), .inl (k 0, 170, .inl (fun i => nI (u.1 4 i)))), ((ma 26), .inl (k 0, 170, .inl (fun i => nI (u.1 5 i)))), ((ma 27), .inl (k 0, 170, .inl (fun i => nI (u.1 6 i))))]) 0 0 := by
  refine met_start (by decide) (Nat.le_of_ble_eq_true rfl) ?_
  intro p e s m below meth c C K hA hsz S ls hl
  generalize va_A [(h0, .inr (8, moL ma (va_up (va_up (va_up iv 26 (nI sv9)) 27 (nI bf)) 24 (nI rows)) co)), ((ma 0), .inl (k 0, 4, .inl (fun i => nI (tk i)))), ((ma 21), .inl (k 0, 319840, .inl (fun i => nI (dg i)))), ((ma 22), .inl (k 0, 3998, .inl (fun i => nI (sz i)))), ((ma 23), .inl (k 2, 3998, .inl (fun i => nI (bl i)))), ((ma 24), .inl (k 0, 170, .inl (fun i => nI (O i)))), ((ma 25), .inl (k 0, 170, .inl (fun i => nI (T2 i)))), ((ma 26), .inl (k 0, 170, .inl (fun i => nI (qt i)))), ((ma 27), .inl (k 0, 170, .inl (fun i => nI (Dv i))))] s0 = A at hA S ⊢
  have hx := C.1
  have hb := C.2.1
  have hl : lv_has ls 8 [(0, .ref h0), (1, .int xa), (2, .int xb), (3, .int xc), (4, .long xn)] := hl
  refine lv_aload_n hx hb d_Mo_covers_0 rfl (lv_at hl 0 rfl) ?_
  refine r_get C K S 0 rfl rfl clOk_Mo 57 (by decide) wf_Mo_383 (v := .int (nI sv9)) rfl d_Mo_covers_1 ?_
  refine z_if_ne (a := sv9) (tgt := 10) hx hb d_Mo_covers_4 (by decide) (by omega) (fun hc1 => ?_) (fun hc1 => ?_)
  · have hs1 : sv9 = 1 := by omega
    have hS0 := hok (by omega)
    have hn0 := hS0.1
    refine lv_aload_n hx hb d_Mo_covers_10 rfl (lv_at hl 0 rfl) ?_
    refine r_get C K S 0 rfl rfl clOk_Mo 1 (by decide) wf_Mo_9 (v := .ref (ma 0)) rfl d_Mo_covers_11 ?_
    refine lv_aload_n hx hb d_Mo_covers_14 rfl (lv_at hl 0 rfl) ?_
    refine r_get C K S 0 rfl rfl clOk_Mo 58 (by decide) wf_Mo_392 (v := .int (nI bf)) rfl d_Mo_covers_15 ?_
    refine r_iald C K S 1 rfl (i := nI bf) (show vp_in (nI bf) _ from vp_in_nI (n := bf) (by omega) (by decide)) (v := nI (tk bf)) (by rw [nI_clamp (by omega)]) d_Mo_covers_18 ?_
    refine lv_istore (lv' := [(6, .int (nI (tk bf))), (0, .ref h0), (1, .int xa), (2, .int xb), (3, .int xc), (4, .long xn)]) hx hb d_Mo_covers_19 hl (by decide) rfl (fun ls hl => ?_)
    refine lv_iload_n hx hb d_Mo_covers_21 rfl (lv_at hl 2 rfl) ?_
    refine lv_if_lt (tgt := 33) hx hb d_Mo_covers_22 (by decide) (fun hc2 => ?_) (fun hc2 => ?_)
    · refine lv_bipush (v := (-2)) hx hb d_Mo_covers_33 (by decide) ?_
      exact r_iret C K rfl (uz [dg, sz, bl, O, T2, qt, Dv], fun j => iv (19 + j)) ⟨⟨T, hT, fun _ _ => rfl⟩, dO, d2, dQ, dD⟩ (S.sub [0, 1, 2, 3, 4, 5, 6, 7, 8] (by decide) rfl) d_Mo_covers_35 (Nat.le_of_ble_eq_true rfl) (Nat.le_of_ble_eq_true rfl)
    · refine lv_iload_n hx hb d_Mo_covers_25 rfl (lv_at hl 3 rfl) ?_
      refine lv_if_lt (tgt := 33) hx hb d_Mo_covers_26 (by decide) (fun hc3 => ?_) (fun hc3 => ?_)
      · refine lv_bipush (v := (-2)) hx hb d_Mo_covers_33 (by decide) ?_
        exact r_iret C K rfl (uz [dg, sz, bl, O, T2, qt, Dv], fun j => iv (19 + j)) ⟨⟨T, hT, fun _ _ => rfl⟩, dO, d2, dQ, dD⟩ (S.sub [0, 1, 2, 3, 4, 5, 6, 7, 8] (by decide) rfl) d_Mo_covers_35 (Nat.le_of_ble_eq_true rfl) (Nat.le_of_ble_eq_true rfl)
      · refine lv_iload_n hx hb d_Mo_covers_29 rfl (lv_at hl 4 rfl) ?_
        refine lv_if_ge (tgt := 36) hx hb d_Mo_covers_30 (by decide) (fun hc4 => ?_) (fun hc4 => ?_)
        · refine lv_lload hx hb d_Mo_covers_36 (lv_at hl 5 rfl) ?_
          refine lv_lconst (v := 0) hx hb d_Mo_covers_38 (by decide) ?_
          refine W.lcmp hx hb d_Mo_covers_39 ?_
          refine lv_if_gt (tgt := 45) hx hb d_Mo_covers_40 (by decide) (fun hc5 => ?_) (fun hc5 => ?_)
          · have hS := hok (by omega)
            have hn := hS.1
            have hro := hS.2.1
            have hxn := lcg_gt hc5
            have hx0 : (0 : Int64).toInt = 0 := by decide
            rw [hx0] at hxn
            have hng := ln_neg hxn
            refine lv_aload_n hx hb d_Mo_covers_45 rfl (lv_at hl 1 rfl) ?_
            refine lv_sipush (v := 3990) hx hb d_Mo_covers_46 (by decide) ?_
            refine lv_lconst (v := 1) hx hb d_Mo_covers_49 (by decide) ?_
            refine r_backv (wi := [(h0, .inr (8, moL ma (va_up (va_up (va_up iv 26 (nI sv9)) 27 (nI bf)) 24 (nI rows)) co)), ((ma 21), .inl (k 0, 319840, .inl (fun i => nI (dg i)))), ((ma 22), .inl (k 0, 3998, .inl (fun i => nI (sz i)))), ((ma 23), .inl (k 2, 3998, .inl (fun i => nI (bl i))))]) (wr := [((ma 0), .inl (k 0, 4, .inl (fun i => nI (tk i)))), ((ma 24), .inl (k 0, 170, .inl (fun i => nI (O i)))), ((ma 25), .inl (k 0, 170, .inl (fun i => nI (T2 i)))), ((ma 26), .inl (k 0, 170, .inl (fun i => nI (qt i)))), ((ma 27), .inl (k 0, 170, .inl (fun i => nI (Dv i))))]) S hA [0, 2, 3, 4] [1, 5, 6, 7, 8] rfl rfl (by decide) (by decide) (va_runV (As := [.int 3990, .long 1]) (rest := []) ⟨hx, hb, C.2.2.1, C.2.2.2.1, C.2.2.2.2.1⟩ (g_Mo_putZ l G k h0 _ 3990 1 ma (va_up (va_up (va_up iv 26 (nI sv9)) 27 (nI bf)) 24 (nI rows)) co dg sz bl T hT (by omega) (by decide)) (k_virt (n := 2) C wc_Mo_put rfl rfl wz_Mo wm_Mo_360 wn_Mo_put ws_Mo_put (by decide +kernel) ⟨(Nat.le_of_ble_eq_true rfl), (Nat.le_of_ble_eq_true rfl)⟩) (pr_nowV K S [0, 2, 3, 4] (by decide) rfl 0 rfl rfl) rfl rfl hl.1 rfl (lv_room (Nat.le_of_ble_eq_true rfl)) d_Mo_covers_50 ⟨(Nat.le_of_ble_eq_true rfl), (Nat.le_of_ble_eq_true rfl)⟩) (fun p14 H locs hw6 S => ?_)
            have S : Sw G A s.heap _ _ [((ma 0), .inl (k 0, 4, .inl (fun i => nI (tk i)))), ((ma 24), .inl (k 0, 170, .inl (fun i => nI (O i)))), ((ma 25), .inl (k 0, 170, .inl (fun i => nI (T2 i)))), ((ma 26), .inl (k 0, 170, .inl (fun i => nI (qt i)))), ((ma 27), .inl (k 0, 170, .inl (fun i => nI (Dv i)))), (h0, .inr (8, moL ma (va_up (va_up (va_up iv 26 (nI sv9)) 27 (nI bf)) 24 (nI rows)) co)), ((ma 21), .inl (k 0, 319840, .inl (fun i => nI (p14.1 i)))), ((ma 22), .inl (k 0, 3998, .inl (fun i => nI (p14.2.1 i)))), ((ma 23), .inl (k 2, 3998, .inl (fun i => nI (p14.2.2 i))))] := S
            have hT_p14 : tbO p14.1 p14.2.1 p14.2.2 (va_up T 3990 1) := by have h9 := hw6; rw [show (1 : Int64).toInt = 1 from by decide] at h9; exact h9
            refine lv_aload_n hx hb d_Mo_covers_53 rfl (lv_at hl 1 rfl) ?_
            refine lv_sipush (v := 3991) hx hb d_Mo_covers_54 (by decide) ?_
            refine lv_lload hx hb d_Mo_covers_57 (lv_at hl 5 rfl) ?_
            refine lv_lneg hx hb d_Mo_covers_59 ?_
            refine r_backv (wi := [(h0, .inr (8, moL ma (va_up (va_up (va_up iv 26 (nI sv9)) 27 (nI bf)) 24 (nI rows)) co)), ((ma 21), .inl (k 0, 319840, .inl (fun i => nI (p14.1 i)))), ((ma 22), .inl (k 0, 3998, .inl (fun i => nI (p14.2.1 i)))), ((ma 23), .inl (k 2, 3998, .inl (fun i => nI (p14.2.2 i))))]) (wr := [((ma 0), .inl (k 0, 4, .inl (fun i => nI (tk i)))), ((ma 24), .inl (k 0, 170, .inl (fun i => nI (O i)))), ((ma 25), .inl (k 0, 170, .inl (fun i => nI (T2 i)))), ((ma 26), .inl (k 0, 170, .inl (fun i => nI (qt i)))), ((ma 27), .inl (k 0, 170, .inl (fun i => nI (Dv i))))]) S hA [5, 6, 7, 8] [0, 1, 2, 3, 4] rfl rfl (by decide) (by decide) (va_runV (As := [.int 3991, .long (-xn)]) (rest := []) ⟨hx, hb, C.2.2.1, C.2.2.2.1, C.2.2.2.2.1⟩ (g_Mo_putZ l G k h0 _ 3991 (-xn) ma (va_up (va_up (va_up iv 26 (nI sv9)) 27 (nI bf)) 24 (nI rows)) co p14.1 p14.2.1 p14.2.2 (va_up T 3990 1) hT_p14 (by omega) (by rw [hng]; have := xn.toInt_lt; omega)) (k_virt (n := 2) C wc_Mo_put rfl rfl wz_Mo wm_Mo_360 wn_Mo_put ws_Mo_put (by decide +kernel) ⟨(Nat.le_of_ble_eq_true rfl), (Nat.le_of_ble_eq_true rfl)⟩) (pr_nowV K S [5, 6, 7, 8] (by decide) rfl 5 rfl rfl) rfl rfl hl.1 rfl (lv_room (Nat.le_of_ble_eq_true rfl)) d_Mo_covers_60 ⟨(Nat.le_of_ble_eq_true rfl), (Nat.le_of_ble_eq_true rfl)⟩) (fun p15 H locs hw7 S => ?_)
            have S : Sw G A s.heap _ _ [((ma 0), .inl (k 0, 4, .inl (fun i => nI (tk i)))), ((ma 24), .inl (k 0, 170, .inl (fun i => nI (O i)))), ((ma 25), .inl (k 0, 170, .inl (fun i => nI (T2 i)))), ((ma 26), .inl (k 0, 170, .inl (fun i => nI (qt i)))), ((ma 27), .inl (k 0, 170, .inl (fun i => nI (Dv i)))), (h0, .inr (8, moL ma (va_up (va_up (va_up iv 26 (nI sv9)) 27 (nI bf)) 24 (nI rows)) co)), ((ma 21), .inl (k 0, 319840, .inl (fun i => nI (p15.1 i)))), ((ma 22), .inl (k 0, 3998, .inl (fun i => nI (p15.2.1 i)))), ((ma 23), .inl (k 2, 3998, .inl (fun i => nI (p15.2.2 i))))] := S
            have hT_p15 : tbO p15.1 p15.2.1 p15.2.2 (va_up (va_up T 3990 1) 3991 ((-xn).toInt)) := hw7
            refine lv_aload_n hx hb d_Mo_covers_63 rfl (lv_at hl 1 rfl) ?_
            refine lv_sipush (v := 3992) hx hb d_Mo_covers_64 (by decide) ?_
            refine lv_aload_n hx hb d_Mo_covers_67 rfl (lv_at hl 1 rfl) ?_
            refine lv_iconst (v := 3) hx hb d_Mo_covers_68 (by decide) ?_
            refine r_backi (wi := [(h0, .inr (8, moL ma (va_up (va_up (va_up iv 26 (nI sv9)) 27 (nI bf)) 24 (nI rows)) co)), ((ma 0), .inl (k 0, 4, .inl (fun i => nI (tk i))))]) (wr := [((ma 24), .inl (k 0, 170, .inl (fun i => nI (O i)))), ((ma 25), .inl (k 0, 170, .inl (fun i => nI (T2 i)))), ((ma 26), .inl (k 0, 170, .inl (fun i => nI (qt i)))), ((ma 27), .inl (k 0, 170, .inl (fun i => nI (Dv i)))), ((ma 21), .inl (k 0, 319840, .inl (fun i => nI (p15.1 i)))), ((ma 22), .inl (k 0, 3998, .inl (fun i => nI (p15.2.1 i)))), ((ma 23), .inl (k 2, 3998, .inl (fun i => nI (p15.2.2 i))))]) S hA [5, 0] [1, 2, 3, 4, 6, 7, 8] rfl rfl (by decide) (by decide) (va_runV (As := [.int 3]) (rest := [.int 3992, .ref h0]) ⟨hx, hb, C.2.2.1, C.2.2.2.1, C.2.2.2.2.1⟩ (g_Mo_boundAt_3 l G k h0 _ sv9 bf rows ma iv co tk (by first | assumption | omega) (by first | assumption | omega) (by first | assumption | omega)) (k_virt (n := 1) C wc_Mo_boundAt rfl rfl wz_Mo wm_Mo_404 wn_Mo_boundAt ws_Mo_boundAt (by decide +kernel) ⟨(Nat.le_of_ble_eq_true rfl), (Nat.le_of_ble_eq_true rfl)⟩) (pr_nowV K S [5, 0] (by decide) rfl 5 rfl rfl) rfl rfl hl.1 rfl (lv_room (Nat.le_of_ble_eq_true rfl)) d_Mo_covers_69 ⟨(Nat.le_of_ble_eq_true rfl), (Nat.le_of_ble_eq_true rfl)⟩) (fun r10 u8 H locs hw9 S => ?_)
            have S : Sw G A s.heap _ _ [((ma 24), .inl (k 0, 170, .inl (fun i => nI (O i)))), ((ma 25), .inl (k 0, 170, .inl (fun i => nI (T2 i)))), ((ma 26), .inl (k 0, 170, .inl (fun i => nI (qt i)))), ((ma 27), .inl (k 0, 170, .inl (fun i => nI (Dv i)))), ((ma 21), .inl (k 0, 319840, .inl (fun i => nI (p15.1 i)))), ((ma 22), .inl (k 0, 3998, .inl (fun i => nI (p15.2.1 i)))), ((ma 23), .inl (k 2, 3998, .inl (fun i => nI (p15.2.2 i)))), (h0, .inr (8, moL ma (va_up (va_up (va_up iv 26 (nI sv9)) 27 (nI bf)) 24 (nI rows)) co)), ((ma 0), .inl (k 0, 4, .inl (fun i => nI (tk i))))] := S
            obtain ⟨hw90, hp11⟩ := hw9
            obtain rfl : r10 = nI (42 * (rows + 1 + tk bf) + 41) := hw90
            refine lv_sipush (v := 3990) hx hb d_Mo_covers_72 (by decide) ?_
            refine lv_sipush (v := 3991) hx hb d_Mo_covers_75 (by decide) ?_
            refine lv_sipush (v := 3997) hx hb d_Mo_covers_78 (by decide) ?_
            have v1 : (va_up (va_up T 3990 1) 3991 ((-xn).toInt)) (42 * (rows + 1 + tk bf) + 41) = T (42 * (rows + 1 + tk bf) + 41) := by rw [va_up_ne _ _ (by omega), va_up_ne _ _ (by omega)]
            have v2 : (va_up (va_up T 3990 1) 3991 ((-xn).toInt)) 3990 = 1 := by rw [va_up_ne _ _ (by omega), va_up_self]
            have v3 : (va_up (va_up T 3990 1) 3991 ((-xn).toInt)) 3991 = - xn.toInt := by rw [va_up_self, hng]
            have v4 : (va_up (va_up T 3990 1) 3991 ((-xn).toInt)) 3997 = T 3997 := by rw [va_up_ne _ _ (by omega), va_up_ne _ _ (by omega)]
            have hb1 := cv_first (b := T (42 * (rows + 1 + tk bf) + 41)) (o := T 3997) (x := - xn.toInt) (hS.2.2.2.2 _ (Nat.le_refl _)) hS.2.2.2.1 (by have := xn.toInt_lt; omega)
            refine r_backv (wi := [(h0, .inr (8, moL ma (va_up (va_up (va_up iv 26 (nI sv9)) 27 (nI bf)) 24 (nI rows)) co)), ((ma 21), .inl (k 0, 319840, .inl (fun i => nI (p15.1 i)))), ((ma 22), .inl (k 0, 3998, .inl (fun i => nI (p15.2.1 i)))), ((ma 23), .inl (k 2, 3998, .inl (fun i => nI (p15.2.2 i)))), ((ma 24), .inl (k 0, 170, .inl (fun i => nI (O i)))), ((ma 25), .inl (k 0, 170, .inl (fun i => nI (T2 i))))]) (wr := [((ma 26), .inl (k 0, 170, .inl (fun i => nI (qt i)))), ((ma 27), .inl (k 0, 170, .inl (fun i => nI (Dv i)))), ((ma 0), .inl (k 0, 4, .inl (fun i => nI (tk i))))]) S hA [7, 4, 5, 6, 0, 1] [2, 3, 8] rfl rfl (by decide) (by decide) (va_runV (As := [.int 3992, .int (nI (42 * (rows + 1 + tk bf) + 41)), .int 3990, .int 3991, .int 3997]) (rest := []) ⟨hx, hb, C.2.2.1, C.2.2.2.1, C.2.2.2.2.1⟩ (g_Mo_sum l G k h0 _ 3992 (42 * (rows + 1 + tk bf) + 41) 3990 3991 3997 ma (va_up (va_up (va_up iv 26 (nI sv9)) 27 (nI bf)) 24 (nI rows)) co p15.1 p15.2.1 p15.2.2 O T2 (va_up (va_up T 3990 1) 3991 ((-xn).toInt)) hT_p15 (by omega) (by omega) (by omega) (by omega) (by omega) dO d2 (by rw [v1, v2, v3, v4]; exact cv_80 (i := 0) hb1 (by omega))) (k_virt (n := 5) C wc_Mo_sum rfl rfl wz_Mo wm_Mo_409 wn_Mo_sum ws_Mo_sum (by decide +kernel) ⟨(Nat.le_of_ble_eq_true rfl), (Nat.le_of_ble_eq_true rfl)⟩) (pr_nowV K S [7, 4, 5, 6, 0, 1] (by decide) rfl 7 rfl rfl) rfl rfl hl.1 rfl (lv_room (Nat.le_of_ble_eq_true rfl)) d_Mo_covers_81 ⟨(Nat.le_of_ble_eq_true rfl), (Nat.le_of_ble_eq_true rfl)⟩) (fun s1 H locs hw12 S => ?_)
            have S : Sw G A s.heap _ _ [((ma 26), .inl (k 0, 170, .inl (fun i => nI (qt i)))), ((ma 27), .inl (k 0, 170, .inl (fun i => nI (Dv i)))), ((ma 0), .inl (k 0, 4, .inl (fun i => nI (tk i)))), (h0, .inr (8, moL ma (va_up (va_up (va_up (va_up (va_up (va_up (va_up iv 26 (nI sv9)) 27 (nI bf)) 24 (nI rows)) 19 (s1.2 0)) 20 (s1.2 1)) 21 (s1.2 2)) 22 (s1.2 3)) co)), ((ma 21), .inl (k 0, 319840, .inl (fun i => nI (s1.1 0 i)))), ((ma 22), .inl (k 0, 3998, .inl (fun i => nI (s1.1 1 i)))), ((ma 23), .inl (k 2, 3998, .inl (fun i => nI (s1.1 2 i)))), ((ma 24), .inl (k 0, 170, .inl (fun i => nI (s1.1 3 i)))), ((ma 25), .inl (k 0, 170, .inl (fun i => nI (s1.1 4 i))))] := S
            obtain ⟨hs1, hs1a, hs1b⟩ := hw12
            refine lv_iconst (v := 0) hx hb d_Mo_covers_84 (by decide) ?_
            refine lv_istore (lv' := [(7, .int 0), (6, .int (nI (tk bf))), (0, .ref h0), (1, .int xa), (2, .int xb), (3, .int xc), (4, .long xn)]) hx hb d_Mo_covers_85 hl (by decide) rfl (fun ls hl => ?_)
            rw [v1, v2, v3, v4] at hs1
            have lp : ∀ d9, ∀ (i9 : Nat), ∀ (D : Nat → Nat), ∀ (Z : Nat → Nat), ∀ (B : Nat → Nat), ∀ (O9 : Nat → Nat), ∀ (T9a : Nat → Nat), ∀ (w : Nat → Int32), ∀ (T9 : Nat → Int), (tk bf - i9) < d9 → (i9 ≤ tk bf) → (tbO D Z B T9) → (∀ c, c < 3990 ∨ c = 3994 ∨ c = 3997 → T9 c = T c) → (T9 3990 = 1) → ((T9 3992).natAbs ≤ (i9 + 1) * 65536 ^ 46) → (∀ i, i < 170 → O9 i < 65536) → (∀ i, i < 170 → T9a i < 65536) → ∀ (H : Heap) (locs : List Loc), Sw G A s.heap H locs [(h0, .inr (8, moL ma (va_up (va_up (va_up (va_up (va_up (va_up (va_up iv 26 (nI sv9)) 27 (nI bf)) 24 (nI rows)) 19 (w 0)) 20 (w 1)) 21 (w 2)) 22 (w 3)) co)), ((ma 0), .inl (k 0, 4, .inl (fun i => nI (tk i)))), ((ma 21), .inl (k 0, 319840, .inl (fun i => nI (D i)))), ((ma 22), .inl (k 0, 3998, .inl (fun i => nI (Z i)))), ((ma 23), .inl (k 2, 3998, .inl (fun i => nI (B i)))), ((ma 24), .inl (k 0, 170, .inl (fun i => nI (O9 i)))), ((ma 25), .inl (k 0, 170, .inl (fun i => nI (T9a i)))), ((ma 26), .inl (k 0, 170, .inl (fun i => nI (qt i)))), ((ma 27), .inl (k 0, 170, .inl (fun i => nI (Dv i))))] → ∀ ls : Array Slot, lv_has ls 8 [(7, .int (nI i9)), (6, .int (nI (tk bf))), (0, .ref h0), (1, .int xa), (2, .int xb), (3, .int xc), (4, .long xn)] → W p l e { frames := 5, cells := 0, slots := 0, locals := 190 } s m [Value.ref h0, Value.int xa, Value.int xb, Value.int xc, Value.long xn].toArray below meth c H locs 0 0 (MQ below (va_Qi (fun (r : Int32) (u : (Nat → Nat → Nat) × (Nat → Int32)) => (∃ T9, tbO (u.1 0) (u.1 1) (u.1 2) T9 ∧ ∀ c, c < 3990 ∨ c = 3994 ∨ c = 3997 → T9 c = T c) ∧ (∀ i, i < 170 → u.1 3 i < 65536) ∧ (∀ i, i < 170 → u.1 4 i < 65536) ∧ (∀ i, i < 170 → u.1 5 i < 65536) ∧ (∀ i, i < 170 → u.1 6 i < 65536)) (Po G k A (fun u => [(h0, .inr (8, moL ma (va_up (va_up (va_up (va_up (va_up (va_up (va_up (va_up iv 26 (nI sv9)) 27 (nI bf)) 24 (nI rows)) 19 (u.2 0)) 20 (u.2 1)) 21 (u.2 2)) 22 (u.2 3)) 23 (u.2 4)) co)), ((ma 0), .inl (k 0, 4, .inl (fun i => nI (tk i)))), ((ma 21), .inl (k 0, 319840, .inl (fun i => nI (u.1 0 i)))), ((ma 22), .inl (k 0, 3998, .inl (fun i => nI (u.1 1 i)))), ((ma 23), .inl (k 2, 3998, .inl (fun i => nI (u.1 2 i)))), ((ma 24), .inl (k 0, 170, .inl (fun i => nI (u.1 3 i)))), ((ma 25), .inl (k 0, 170, .inl (fun i => nI (u.1 4 i)))), ((ma 26), .inl (k 0, 170, .inl (fun i => nI (u.1 5 i)))), ((ma 27), .inl (k 0, 170, .inl (fun i => nI (u.1 6 i))))])) A) [Value.ref h0, Value.int xa, Value.int xb, Value.int xc, Value.long xn].toArray s 0 0 A) (F0 m 87 ls []) := by
              intro d9
              induction d9 with
              | zero => intro i9 D Z B O9 T9a w T9 hm; exact absurd hm (Nat.not_lt_zero _)
              | succ d9 ih_lp =>
                intro i9 D Z B O9 T9a w T9 hm hi9 hT2 hfr ho hs e1 e2 H locs S ls hl
                refine lv_iload hx hb d_Mo_covers_87 (lv_at hl 0 rfl) ?_
                refine lv_iload hx hb d_Mo_covers_89 (lv_at hl 1 rfl) ?_
                refine z_icmp_ge (a := i9) (b := (tk bf)) (tgt := 171) hx hb d_Mo_covers_91 (by decide) (by omega) (by omega) (fun hc13 => ?_) (fun hc13 => ?_)
                · refine lv_aload_n hx hb d_Mo_covers_171 rfl (lv_at hl 2 rfl) ?_
                  refine lv_sipush (v := 3992) hx hb d_Mo_covers_172 (by decide) ?_
                  refine r_backi (wi := [(h0, .inr (8, moL ma (va_up (va_up (va_up (va_up (va_up (va_up (va_up iv 26 (nI sv9)) 27 (nI bf)) 24 (nI rows)) 19 (w 0)) 20 (w 1)) 21 (w 2)) 22 (w 3)) co)), ((ma 22), .inl (k 0, 3998, .inl (fun i => nI (Z i)))), ((ma 23), .inl (k 2, 3998, .inl (fun i => nI (B i))))]) (wr := [((ma 0), .inl (k 0, 4, .inl (fun i => nI (tk i)))), ((ma 21), .inl (k 0, 319840, .inl (fun i => nI (D i)))), ((ma 24), .inl (k 0, 170, .inl (fun i => nI (O9 i)))), ((ma 25), .inl (k 0, 170, .inl (fun i => nI (T9a i)))), ((ma 26), .inl (k 0, 170, .inl (fun i => nI (qt i)))), ((ma 27), .inl (k 0, 170, .inl (fun i => nI (Dv i))))]) S hA [0, 3, 4] [1, 2, 5, 6, 7, 8] rfl rfl (by decide) (by decide) (va_runV (As := [.int 3992]) (rest := []) ⟨hx, hb, C.2.2.1, C.2.2.2.1, C.2.2.2.2.1⟩ (g_Mo_signOf l G k h0 _ ma (va_up (va_up (va_up (va_up (va_up (va_up (va_up iv 26 (nI sv9)) 27 (nI bf)) 24 (nI rows)) 19 (w 0)) 20 (w 1)) 21 (w 2)) 22 (w 3)) co Z B 3992 (by omega) (hT2.2 _ (by omega)).1 (hT2.2 _ (by omega)).2.1) (k_virt (n := 1) C wc_Mo_signOf rfl rfl wz_Mo wm_Mo_330 wn_Mo_signOf ws_Mo_signOf (by decide +kernel) ⟨(Nat.le_of_ble_eq_true rfl), (Nat.le_of_ble_eq_true rfl)⟩) (pr_nowV K S [0, 3, 4] (by decide) rfl 0 rfl rfl) rfl rfl hl.1 rfl (lv_room (Nat.le_of_ble_eq_true rfl)) d_Mo_covers_175 ⟨(Nat.le_of_ble_eq_true rfl), (Nat.le_of_ble_eq_true rfl)⟩) (fun r16 u14 H locs hw15 S => ?_)
                  have S : Sw G A s.heap _ _ [((ma 0), .inl (k 0, 4, .inl (fun i => nI (tk i)))), ((ma 21), .inl (k 0, 319840, .inl (fun i => nI (D i)))), ((ma 24), .inl (k 0, 170, .inl (fun i => nI (O9 i)))), ((ma 25), .inl (k 0, 170, .inl (fun i => nI (T9a i)))), ((ma 26), .inl (k 0, 170, .inl (fun i => nI (qt i)))), ((ma 27), .inl (k 0, 170, .inl (fun i => nI (Dv i)))), (h0, .inr (8, moL ma (va_up (va_up (va_up (va_up (va_up (va_up (va_up iv 26 (nI sv9)) 27 (nI bf)) 24 (nI rows)) 19 (w 0)) 20 (w 1)) 21 (w 2)) 22 (w 3)) co)), ((ma 22), .inl (k 0, 3998, .inl (fun i => nI (Z i)))), ((ma 23), .inl (k 2, 3998, .inl (fun i => nI (B i))))] := S
                  obtain rfl : r16 = sgN (Z 3992) (B 3992) := hw15
                  refine lv_if_lt (tgt := 185) hx hb d_Mo_covers_178 (by decide) (fun hc18 => ?_) (fun hc18 => ?_)
                  · refine lv_iconst (v := 0) hx hb d_Mo_covers_185 (by decide) ?_
                    exact r_iret C K rfl (uz [D, Z, B, O9, T9a, qt, Dv], fz (w 0) (w 1) (w 2) (w 3) (iv 23)) ⟨⟨T9, hT2, hfr⟩, e1, e2, dQ, dD⟩ (S.sub [6, 0, 1, 7, 8, 2, 3, 4, 5] (by decide) rfl) d_Mo_covers_186 (Nat.le_of_ble_eq_true rfl) (Nat.le_of_ble_eq_true rfl)
                  · refine lv_iconst (v := 1) hx hb d_Mo_covers_181 (by decide) ?_
                    refine lv_goto (tgt := 186) hx hb d_Mo_covers_182 (by decide) ?_
                    exact r_iret C K rfl (uz [D, Z, B, O9, T9a, qt, Dv], fz (w 0) (w 1) (w 2) (w 3) (iv 23)) ⟨⟨T9, hT2, hfr⟩, e1, e2, dQ, dD⟩ (S.sub [6, 0, 1, 7, 8, 2, 3, 4, 5] (by decide) rfl) d_Mo_covers_186 (Nat.le_of_ble_eq_true rfl) (Nat.le_of_ble_eq_true rfl)
                · refine lv_aload_n hx hb d_Mo_covers_94 rfl (lv_at hl 2 rfl) ?_
                  refine lv_sipush (v := 3991) hx hb d_Mo_covers_95 (by decide) ?_
                  have pt : ∀ (x9 : Int64), (x9.toInt.natAbs ≤ 2147483648 ∧ -9223372036854775808 < x9.toInt) → ∀ (H : Heap) (locs : List Loc), Sw G A s.heap H locs [(h0, .inr (8, moL ma (va_up (va_up (va_up (va_up (va_up (va_up (va_up iv 26 (nI sv9)) 27 (nI bf)) 24 (nI rows)) 19 (w 0)) 20 (w 1)) 21 (w 2)) 22 (w 3)) co)), ((ma 0), .inl (k 0, 4, .inl (fun i => nI (tk i)))), ((ma 21), .inl (k 0, 319840, .inl (fun i => nI (D i)))), ((ma 22), .inl (k 0, 3998, .inl (fun i => nI (Z i)))), ((ma 23), .inl (k 2, 3998, .inl (fun i => nI (B i)))), ((ma 24), .inl (k 0, 170, .inl (fun i => nI (O9 i)))), ((ma 25), .inl (k 0, 170, .inl (fun i => nI (T9a i)))), ((ma 26), .inl (k 0, 170, .inl (fun i => nI (qt i)))), ((ma 27), .inl (k 0, 170, .inl (fun i => nI (Dv i))))] → ∀ ls : Array Slot, lv_has ls 8 [(7, .int (nI i9)), (6, .int (nI (tk bf))), (0, .ref h0), (1, .int xa), (2, .int xb), (3, .int xc), (4, .long xn)] → W p l e { frames := 5, cells := 0, slots := 0, locals := 190 } s m [Value.ref h0, Value.int xa, Value.int xb, Value.int xc, Value.long xn].toArray below meth c H locs 0 0 (MQ below (va_Qi (fun (r : Int32) (u : (Nat → Nat → Nat) × (Nat → Int32)) => (∃ T9, tbO (u.1 0) (u.1 1) (u.1 2) T9 ∧ ∀ c, c < 3990 ∨ c = 3994 ∨ c = 3997 → T9 c = T c) ∧ (∀ i, i < 170 → u.1 3 i < 65536) ∧ (∀ i, i < 170 → u.1 4 i < 65536) ∧ (∀ i, i < 170 → u.1 5 i < 65536) ∧ (∀ i, i < 170 → u.1 6 i < 65536)) (Po G k A (fun u => [(h0, .inr (8, moL ma (va_up (va_up (va_up (va_up (va_up (va_up (va_up (va_up iv 26 (nI sv9)) 27 (nI bf)) 24 (nI rows)) 19 (u.2 0)) 20 (u.2 1)) 21 (u.2 2)) 22 (u.2 3)) 23 (u.2 4)) co)), ((ma 0), .inl (k 0, 4, .inl (fun i => nI (tk i)))), ((ma 21), .inl (k 0, 319840, .inl (fun i => nI (u.1 0 i)))), ((ma 22), .inl (k 0, 3998, .inl (fun i => nI (u.1 1 i)))), ((ma 23), .inl (k 2, 3998, .inl (fun i => nI (u.1 2 i)))), ((ma 24), .inl (k 0, 170, .inl (fun i => nI (u.1 3 i)))), ((ma 25), .inl (k 0, 170, .inl (fun i => nI (u.1 4 i)))), ((ma 26), .inl (k 0, 170, .inl (fun i => nI (u.1 5 i)))), ((ma 27), .inl (k 0, 170, .inl (fun i => nI (u.1 6 i))))])) A) [Value.ref h0, Value.int xa, Value.int xb, Value.int xc, Value.long xn].toArray s 0 0 A) (F0 m 121 ls [.long x9, .int 3991, .ref h0]) := by
                    intro x9 hx9 H locs S ls hl
                    refine r_backv (wi := [(h0, .inr (8, moL ma (va_up (va_up (va_up (va_up (va_up (va_up (va_up iv 26 (nI sv9)) 27 (nI bf)) 24 (nI rows)) 19 (w 0)) 20 (w 1)) 21 (w 2)) 22 (w 3)) co)), ((ma 21), .inl (k 0, 319840, .inl (fun i => nI (D i)))), ((ma 22), .inl (k 0, 3998, .inl (fun i => nI (Z i)))), ((ma 23), .inl (k 2, 3998, .inl (fun i => nI (B i))))]) (wr := [((ma 0), .inl (k 0, 4, .inl (fun i => nI (tk i)))), ((ma 24), .inl (k 0, 170, .inl (fun i => nI (O9 i)))), ((ma 25), .inl (k 0, 170, .inl (fun i => nI (T9a i)))), ((ma 26), .inl (k 0, 170, .inl (fun i => nI (qt i)))), ((ma 27), .inl (k 0, 170, .inl (fun i => nI (Dv i))))]) S hA [0, 2, 3, 4] [1, 5, 6, 7, 8] rfl rfl (by decide) (by decide) (va_runV (As := [.int 3991, .long x9]) (rest := []) ⟨hx, hb, C.2.2.1, C.2.2.2.1, C.2.2.2.2.1⟩ (g_Mo_putZ l G k h0 _ 3991 x9 ma (va_up (va_up (va_up (va_up (va_up (va_up (va_up iv 26 (nI sv9)) 27 (nI bf)) 24 (nI rows)) 19 (w 0)) 20 (w 1)) 21 (w 2)) 22 (w 3)) co D Z B T9 hT2 (by omega) hx9.2) (k_virt (n := 2) C wc_Mo_put rfl rfl wz_Mo wm_Mo_360 wn_Mo_put ws_Mo_put (by decide +kernel) ⟨(Nat.le_of_ble_eq_true rfl), (Nat.le_of_ble_eq_true rfl)⟩) (pr_nowV K S [0, 2, 3, 4] (by decide) rfl 0 rfl rfl) rfl rfl hl.1 rfl (lv_room (Nat.le_of_ble_eq_true rfl)) d_Mo_covers_121 ⟨(Nat.le_of_ble_eq_true rfl), (Nat.le_of_ble_eq_true rfl)⟩) (fun p16 H locs hw19 S => ?_)
                    have S : Sw G A s.heap _ _ [((ma 0), .inl (k 0, 4, .inl (fun i => nI (tk i)))), ((ma 24), .inl (k 0, 170, .inl (fun i => nI (O9 i)))), ((ma 25), .inl (k 0, 170, .inl (fun i => nI (T9a i)))), ((ma 26), .inl (k 0, 170, .inl (fun i => nI (qt i)))), ((ma 27), .inl (k 0, 170, .inl (fun i => nI (Dv i)))), (h0, .inr (8, moL ma (va_up (va_up (va_up (va_up (va_up (va_up (va_up iv 26 (nI sv9)) 27 (nI bf)) 24 (nI rows)) 19 (w 0)) 20 (w 1)) 21 (w 2)) 22 (w 3)) co)), ((ma 21), .inl (k 0, 319840, .inl (fun i => nI (p16.1 i)))), ((ma 22), .inl (k 0, 3998, .inl (fun i => nI (p16.2.1 i)))), ((ma 23), .inl (k 2, 3998, .inl (fun i => nI (p16.2.2 i))))] := S
                    have hT_p16 : tbO p16.1 p16.2.1 p16.2.2 (va_up T9 3991 ((x9).toInt)) := hw19
                    refine lv_aload_n hx hb d_Mo_covers_124 rfl (lv_at hl 2 rfl) ?_
                    refine lv_sipush (v := 3993) hx hb d_Mo_covers_125 (by decide) ?_
                    refine lv_sipush (v := 3992) hx hb d_Mo_covers_128 (by decide) ?_
                    refine lv_sipush (v := 3990) hx hb d_Mo_covers_131 (by decide) ?_
                    refine lv_aload_n hx hb d_Mo_covers_134 rfl (lv_at hl 2 rfl) ?_
                    refine lv_iload hx hb d_Mo_covers_135 (lv_at hl 0 rfl) ?_
                    refine r_backi (wi := [(h0, .inr (8, moL ma (va_up (va_up (va_up (va_up (va_up (va_up (va_up iv 19 (w 0)) 20 (w 1)) 21 (w 2)) 22 (w 3)) 26 (nI sv9)) 27 (nI bf)) 24 (nI rows)) co)), ((ma 0), .inl (k 0, 4, .inl (fun i => nI (tk i))))]) (wr := [((ma 24), .inl (k 0, 170, .inl (fun i => nI (O9 i)))), ((ma 25), .inl (k 0, 170, .inl (fun i => nI (T9a i)))), ((ma 26), .inl (k 0, 170, .inl (fun i => nI (qt i)))), ((ma 27), .inl (k 0, 170, .inl (fun i => nI (Dv i)))), ((ma 21), .inl (k 0, 319840, .inl (fun i => nI (p16.1 i)))), ((ma 22), .inl (k 0, 3998, .inl (fun i => nI (p16.2.1 i)))), ((ma 23), .inl (k 2, 3998, .inl (fun i => nI (p16.2.2 i))))]) S hA [5, 0] [1, 2, 3, 4, 6, 7, 8] rfl rfl (by decide) (by decide) (va_runV (As := [.int (nI i9)]) (rest := [.int 3990, .int 3992, .int 3993, .ref h0]) ⟨hx, hb, C.2.2.1, C.2.2.2.1, C.2.2.2.2.1⟩ (g_Mo_boundAt_i l G k h0 _ i9 sv9 bf rows ma (va_up (va_up (va_up (va_up iv 19 (w 0)) 20 (w 1)) 21 (w 2)) 22 (w 3)) co tk (by first | assumption | omega) (by first | assumption | omega) (by first | assumption | omega) (by omega)) (k_virt (n := 1) C wc_Mo_boundAt rfl rfl wz_Mo wm_Mo_404 wn_Mo_boundAt ws_Mo_boundAt (by decide +kernel) ⟨(Nat.le_of_ble_eq_true rfl), (Nat.le_of_ble_eq_true rfl)⟩) (pr_nowV K S [5, 0] (by decide) rfl 5 rfl rfl) rfl rfl hl.1 rfl (lv_room (Nat.le_of_ble_eq_true rfl)) d_Mo_covers_137 ⟨(Nat.le_of_ble_eq_true rfl), (Nat.le_of_ble_eq_true rfl)⟩) (fun r22 u20 H locs hw21 S => ?_)
                    have S : Sw G A s.heap _ _ [((ma 24), .inl (k 0, 170, .inl (fun i => nI (O9 i)))), ((ma 25), .inl (k 0, 170, .inl (fun i => nI (T9a i)))), ((ma 26), .inl (k 0, 170, .inl (fun i => nI (qt i)))), ((ma 27), .inl (k 0, 170, .inl (fun i => nI (Dv i)))), ((ma 21), .inl (k 0, 319840, .inl (fun i => nI (p16.1 i)))), ((ma 22), .inl (k 0, 3998, .inl (fun i => nI (p16.2.1 i)))), ((ma 23), .inl (k 2, 3998, .inl (fun i => nI (p16.2.2 i)))), (h0, .inr (8, moL ma (va_up (va_up (va_up (va_up (va_up (va_up (va_up iv 19 (w 0)) 20 (w 1)) 21 (w 2)) 22 (w 3)) 26 (nI sv9)) 27 (nI bf)) 24 (nI rows)) co)), ((ma 0), .inl (k 0, 4, .inl (fun i => nI (tk i))))] := S
                    obtain ⟨hw210, hp23⟩ := hw21
                    obtain rfl : r22 = nI (42 * (rows + 1 + i9) + 41) := hw210
                    refine lv_sipush (v := 3991) hx hb d_Mo_covers_140 (by decide) ?_
                    have y1 : (va_up T9 3991 ((x9).toInt)) 3992 = T9 3992 := va_up_ne _ _ (by omega)
                    have y2 : (va_up T9 3991 ((x9).toInt)) 3990 = 1 := by rw [va_up_ne _ _ (by omega)]; exact ho
                    have y3 : (va_up T9 3991 ((x9).toInt)) (42 * (rows + 1 + i9) + 41) = T (42 * (rows + 1 + i9) + 41) := by rw [va_up_ne _ _ (by omega)]; exact hfr _ (by omega)
                    have y4 : (va_up T9 3991 ((x9).toInt)) 3991 = x9.toInt := va_up_self _ _ _
                    have hb2 := cv_next (x := x9.toInt) hs (hS.2.2.2.2 i9 (by omega)) hx9.1
                    refine r_backv (wi := [(h0, .inr (8, moL ma (va_up (va_up (va_up (va_up (va_up (va_up (va_up iv 19 (w 0)) 20 (w 1)) 21 (w 2)) 22 (w 3)) 26 (nI sv9)) 27 (nI bf)) 24 (nI rows)) co)), ((ma 21), .inl (k 0, 319840, .inl (fun i => nI (p16.1 i)))), ((ma 22), .inl (k 0, 3998, .inl (fun i => nI (p16.2.1 i)))), ((ma 23), .inl (k 2, 3998, .inl (fun i => nI (p16.2.2 i)))), ((ma 24), .inl (k 0, 170, .inl (fun i => nI (O9 i)))), ((ma 25), .inl (k 0, 170, .inl (fun i => nI (T9a i))))]) (wr := [((ma 26), .inl (k 0, 170, .inl (fun i => nI (qt i)))), ((ma 27), .inl (k 0, 170, .inl (fun i => nI (Dv i)))), ((ma 0), .inl (k 0, 4, .inl (fun i => nI (tk i))))]) S hA [7, 4, 5, 6, 0, 1] [2, 3, 8] rfl rfl (by decide) (by decide) (va_runV (As := [.int 3993, .int 3992, .int 3990, .int (nI (42 * (rows + 1 + i9) + 41)), .int 3991]) (rest := []) ⟨hx, hb, C.2.2.1, C.2.2.2.1, C.2.2.2.2.1⟩ (g_Mo_sum l G k h0 _ 3993 3992 3990 (42 * (rows + 1 + i9) + 41) 3991 ma (va_up (va_up (va_up (va_up (va_up (va_up (va_up iv 19 (w 0)) 20 (w 1)) 21 (w 2)) 22 (w 3)) 26 (nI sv9)) 27 (nI bf)) 24 (nI rows)) co p16.1 p16.2.1 p16.2.2 O9 T9a (va_up T9 3991 ((x9).toInt)) hT_p16 (by omega) (by omega) (by omega) (by omega) (by omega) e1 e2 (by rw [y1, y2, y3, y4]; exact cv_80 (i := i9 + 1) hb2 (by omega))) (k_virt (n := 5) C wc_Mo_sum rfl rfl wz_Mo wm_Mo_409 wn_Mo_sum ws_Mo_sum (by decide +kernel) ⟨(Nat.le_of_ble_eq_true rfl), (Nat.le_of_ble_eq_true rfl)⟩) (pr_nowV K S [7, 4, 5, 6, 0, 1] (by decide) rfl 7 rfl rfl) rfl rfl hl.1 rfl (lv_room (Nat.le_of_ble_eq_true rfl)) d_Mo_covers_143 ⟨(Nat.le_of_ble_eq_true rfl), (Nat.le_of_ble_eq_true rfl)⟩) (fun s2 H locs hw24 S => ?_)
                    have S : Sw G A s.heap _ _ [((ma 26), .inl (k 0, 170, .inl (fun i => nI (qt i)))), ((ma 27), .inl (k 0, 170, .inl (fun i => nI (Dv i)))), ((ma 0), .inl (k 0, 4, .inl (fun i => nI (tk i)))), (h0, .inr (8, moL ma (va_up (va_up (va_up (va_up (va_up (va_up (va_up iv 26 (nI sv9)) 27 (nI bf)) 24 (nI rows)) 19 (s2.2 0)) 20 (s2.2 1)) 21 (s2.2 2)) 22 (s2.2 3)) co)), ((ma 21), .inl (k 0, 319840, .inl (fun i => nI (s2.1 0 i)))), ((ma 22), .inl (k 0, 3998, .inl (fun i => nI (s2.1 1 i)))), ((ma 23), .inl (k 2, 3998, .inl (fun i => nI (s2.1 2 i)))), ((ma 24), .inl (k 0, 170, .inl (fun i => nI (s2.1 3 i)))), ((ma 25), .inl (k 0, 170, .inl (fun i => nI (s2.1 4 i))))] := S
                    obtain ⟨hs2, hs2a, hs2b⟩ := hw24
                    refine lv_aload_n hx hb d_Mo_covers_146 rfl (lv_at hl 2 rfl) ?_
                    refine lv_sipush (v := 3992) hx hb d_Mo_covers_147 (by decide) ?_
                    refine lv_sipush (v := 3993) hx hb d_Mo_covers_150 (by decide) ?_
                    refine lv_sipush (v := 3990) hx hb d_Mo_covers_153 (by decide) ?_
                    refine lv_sipush (v := 3994) hx hb d_Mo_covers_156 (by decide) ?_
                    refine lv_sipush (v := 3994) hx hb d_Mo_covers_159 (by decide) ?_
                    rw [y1, y2, y3, y4] at hs2
                    have w1 : (va_up (va_up T9 3991 ((x9).toInt)) 3993 (T9 3992 * 1 + T (42 * (rows + 1 + i9) + 41) * x9.toInt)) 3993 = T9 3992 * 1 + T (42 * (rows + 1 + i9) + 41) * x9.toInt := va_up_self _ _ _
                    have w2 : (va_up (va_up T9 3991 ((x9).toInt)) 3993 (T9 3992 * 1 + T (42 * (rows + 1 + i9) + 41) * x9.toInt)) 3990 = 1 := by rw [va_up_ne _ _ (by omega)]; exact y2
                    have w3 : (va_up (va_up T9 3991 ((x9).toInt)) 3993 (T9 3992 * 1 + T (42 * (rows + 1 + i9) + 41) * x9.toInt)) 3994 = 0 := by rw [va_up_ne _ _ (by omega), va_up_ne _ _ (by omega), hfr _ (by omega)]; exact h94
                    refine r_backv (wi := [(h0, .inr (8, moL ma (va_up (va_up (va_up (va_up (va_up (va_up (va_up iv 26 (nI sv9)) 27 (nI bf)) 24 (nI rows)) 19 (s2.2 0)) 20 (s2.2 1)) 21 (s2.2 2)) 22 (s2.2 3)) co)), ((ma 21), .inl (k 0, 319840, .inl (fun i => nI (s2.1 0 i)))), ((ma 22), .inl (k 0, 3998, .inl (fun i => nI (s2.1 1 i)))), ((ma 23), .inl (k 2, 3998, .inl (fun i => nI (s2.1 2 i)))), ((ma 24), .inl (k 0, 170, .inl (fun i => nI (s2.1 3 i)))), ((ma 25), .inl (k 0, 170, .inl (fun i => nI (s2.1 4 i))))]) (wr := [((ma 26), .inl (k 0, 170, .inl (fun i => nI (qt i)))), ((ma 27), .inl (k 0, 170, .inl (fun i => nI (Dv i)))), ((ma 0), .inl (k 0, 4, .inl (fun i => nI (tk i))))]) S hA [3, 4, 5, 6, 7, 8] [0, 1, 2] rfl rfl (by decide) (by decide) (va_runV (As := [.int 3992, .int 3993, .int 3990, .int 3994, .int 3994]) (rest := []) ⟨hx, hb, C.2.2.1, C.2.2.2.1, C.2.2.2.2.1⟩ (g_Mo_sum l G k h0 _ 3992 3993 3990 3994 3994 ma (va_up (va_up (va_up (va_up (va_up (va_up (va_up iv 26 (nI sv9)) 27 (nI bf)) 24 (nI rows)) 19 (s2.2 0)) 20 (s2.2 1)) 21 (s2.2 2)) 22 (s2.2 3)) co (s2.1 0) (s2.1 1) (s2.1 2) (s2.1 3) (s2.1 4) (va_up (va_up T9 3991 ((x9).toInt)) 3993 (T9 3992 * 1 + T (42 * (rows + 1 + i9) + 41) * x9.toInt)) hs2 (by omega) (by omega) (by omega) (by omega) (by omega) hs2a hs2b (by rw [w1, w2, w3, Int.mul_zero, Int.add_zero, Int.mul_one]; exact cv_80 (i := i9 + 1) hb2 (by omega))) (k_virt (n := 5) C wc_Mo_sum rfl rfl wz_Mo wm_Mo_409 wn_Mo_sum ws_Mo_sum (by decide +kernel) ⟨(Nat.le_of_ble_eq_true rfl), (Nat.le_of_ble_eq_true rfl)⟩) (pr_nowV K S [3, 4, 5, 6, 7, 8] (by decide) rfl 3 rfl rfl) rfl rfl hl.1 rfl (lv_room (Nat.le_of_ble_eq_true rfl)) d_Mo_covers_162 ⟨(Nat.le_of_ble_eq_true rfl), (Nat.le_of_ble_eq_true rfl)⟩) (fun s3 H locs hw25 S => ?_)
                    have S : Sw G A s.heap _ _ [((ma 26), .inl (k 0, 170, .inl (fun i => nI (qt i)))), ((ma 27), .inl (k 0, 170, .inl (fun i => nI (Dv i)))), ((ma 0), .inl (k 0, 4, .inl (fun i => nI (tk i)))), (h0, .inr (8, moL ma (va_up (va_up (va_up (va_up (va_up (va_up (va_up iv 26 (nI sv9)) 27 (nI bf)) 24 (nI rows)) 19 (s3.2 0)) 20 (s3.2 1)) 21 (s3.2 2)) 22 (s3.2 3)) co)), ((ma 21), .inl (k 0, 319840, .inl (fun i => nI (s3.1 0 i)))), ((ma 22), .inl (k 0, 3998, .inl (fun i => nI (s3.1 1 i)))), ((ma 23), .inl (k 2, 3998, .inl (fun i => nI (s3.1 2 i)))), ((ma 24), .inl (k 0, 170, .inl (fun i => nI (s3.1 3 i)))), ((ma 25), .inl (k 0, 170, .inl (fun i => nI (s3.1 4 i))))] := S
                    obtain ⟨hs3, hs3a, hs3b⟩ := hw25
                    refine lv_iinc (v := nI (i9 + 1)) (lv' := [(7, .int (nI (i9 + 1))), (6, .int (nI (tk bf))), (0, .ref h0), (1, .int xa), (2, .int xb), (3, .int xc), (4, .long xn)]) hx hb d_Mo_covers_165 hl (k := 0) rfl (show nI i9 + Int32.ofInt 1 = nI (i9 + 1) from (nI_add i9 1).trans (congrArg nI (by omega))) (by decide) rfl (fun ls hl => ?_)
                    refine lv_goto (tgt := 87) hx hb d_Mo_covers_168 (by decide) ?_
                    rw [w1, w2, w3, Int.mul_zero, Int.add_zero, Int.mul_one (T9 3992 * 1 + T (42 * (rows + 1 + i9) + 41) * x9.toInt)] at hs3
                    exact ih_lp (i9 + 1) (s3.1 0) (s3.1 1) (s3.1 2) (s3.1 3) (s3.1 4) (fz (s3.2 0) (s3.2 1) (s3.2 2) (s3.2 3) 0) (va_up (va_up (va_up T9 3991 ((x9).toInt)) 3993 (T9 3992 * 1 + T (42 * (rows + 1 + i9) + 41) * x9.toInt)) 3992 (T9 3992 * 1 + T (42 * (rows + 1 + i9) + 41) * x9.toInt)) (by omega) (by omega) hs3 (fun c hc => by rw [va_up_ne _ _ (by omega), va_up_ne _ _ (by omega), va_up_ne _ _ (by omega)]; exact hfr c hc) (by rw [va_up_ne _ _ (by omega)]; exact w2) (by rw [va_up_self]; exact hb2) hs3a hs3b _ _ (S.sub [3, 2, 4, 5, 6, 7, 8, 0, 1] (by decide) rfl) ls (lv_sub hl [0, 1, 2, 3, 4, 5, 6] rfl)
                  refine lv_iload hx hb d_Mo_covers_98 (lv_at hl 0 rfl) ?_
                  refine z_if_ne (a := i9) (tgt := 108) hx hb d_Mo_covers_100 (by decide) (by omega) (fun hc26 => ?_) (fun hc26 => ?_)
                  · refine lv_iload hx hb d_Mo_covers_108 (lv_at hl 0 rfl) ?_
                    refine lv_iconst (v := 1) hx hb d_Mo_covers_110 (by decide) ?_
                    refine z_icmp_ne (a := i9) (b := 1) (tgt := 119) hx hb d_Mo_covers_111 (by decide) (by omega) (by omega) (fun hc27 => ?_) (fun hc27 => ?_)
                    · refine lv_iload_n hx hb d_Mo_covers_119 rfl (lv_at hl 5 rfl) ?_
                      refine lv_i2l (v := xc.toInt64) hx hb d_Mo_covers_120 rfl ?_
                      exact pt xc.toInt64 (i64_abs _) _ _ (S.sub [0, 1, 2, 3, 4, 5, 6, 7, 8] (by decide) rfl) ls (lv_sub hl [0, 1, 2, 3, 4, 5, 6] rfl)
                    · refine lv_iload_n hx hb d_Mo_covers_114 rfl (lv_at hl 4 rfl) ?_
                      refine lv_i2l (v := xb.toInt64) hx hb d_Mo_covers_115 rfl ?_
                      refine lv_goto (tgt := 121) hx hb d_Mo_covers_116 (by decide) ?_
                      exact pt xb.toInt64 (i64_abs _) _ _ (S.sub [0, 1, 2, 3, 4, 5, 6, 7, 8] (by decide) rfl) ls (lv_sub hl [0, 1, 2, 3, 4, 5, 6] rfl)
                  · refine lv_iload_n hx hb d_Mo_covers_103 rfl (lv_at hl 3 rfl) ?_
                    refine lv_i2l (v := xa.toInt64) hx hb d_Mo_covers_104 rfl ?_
                    refine lv_goto (tgt := 121) hx hb d_Mo_covers_105 (by decide) ?_
                    exact pt xa.toInt64 (i64_abs _) _ _ (S.sub [0, 1, 2, 3, 4, 5, 6, 7, 8] (by decide) rfl) ls (lv_sub hl [0, 1, 2, 3, 4, 5, 6] rfl)
            exact lp _ 0 (s1.1 0) (s1.1 1) (s1.1 2) (s1.1 3) (s1.1 4) (fz (s1.2 0) (s1.2 1) (s1.2 2) (s1.2 3) 0) (va_up (va_up (va_up T 3990 1) 3991 ((-xn).toInt)) 3992 (T (42 * (rows + 1 + tk bf) + 41) * 1 + - xn.toInt * T 3997)) (Nat.lt_succ_self _) (by omega) hs1 (fun c hc => by rw [va_up_ne _ _ (by omega), va_up_ne _ _ (by omega), va_up_ne _ _ (by omega)]) (by rw [va_up_ne _ _ (by omega)]; exact v2) (by rw [va_up_self]; exact hb1) hs1a hs1b _ _ (S.sub [3, 2, 4, 5, 6, 7, 8, 0, 1] (by decide) rfl) ls (lv_sub hl [0, 1, 2, 3, 4, 5, 6] rfl)
          · refine lv_iconst (v := 1) hx hb d_Mo_covers_43 (by decide) ?_
            exact r_iret C K rfl (uz [dg, sz, bl, O, T2, qt, Dv], fun j => iv (19 + j)) ⟨⟨T, hT, fun _ _ => rfl⟩, dO, d2, dQ, dD⟩ (S.sub [0, 1, 2, 3, 4, 5, 6, 7, 8] (by decide) rfl) d_Mo_covers_44 (Nat.le_of_ble_eq_true rfl) (Nat.le_of_ble_eq_true rfl)
        · refine lv_bipush (v := (-2)) hx hb d_Mo_covers_33 (by decide) ?_
          exact r_iret C K rfl (uz [dg, sz, bl, O, T2, qt, Dv], fun j => iv (19 + j)) ⟨⟨T, hT, fun _ _ => rfl⟩, dO, d2, dQ, dD⟩ (S.sub [0, 1, 2, 3, 4, 5, 6, 7, 8] (by decide) rfl) d_Mo_covers_35 (Nat.le_of_ble_eq_true rfl) (Nat.le_of_ble_eq_true rfl)
  · refine lv_bipush (v := (-2)) hx hb d_Mo_covers_7 (by decide) ?_
    exact r_iret C K rfl (uz [dg, sz, bl, O, T2, qt, Dv], fun j => iv (19 + j)) ⟨⟨T, hT, fun _ _ => rfl⟩, dO, d2, dQ, dD⟩ (S.sub [0, 1, 2, 3, 4, 5, 6, 7, 8] (by decide) rfl) d_Mo_covers_9 (Nat.le_of_ble_eq_true rfl) (Nat.le_of_ble_eq_true rfl)
end
section
/-- the words of one function; where its expressions end -/
def wdF (wd : Nat → Int32) (f : Nat) : Nat → Int32 := fun p => wd (200 * f + p)
def enF (en : Nat → Nat) (f : Nat) : Nat → Nat := fun p => en (200 * f + p)
theorem hdN_1 {W : Nat → Int32} {tk : Nat → Nat} {p : Nat} (h : W p = 0 ∨ W p = 2 ∨ W p = 6) : hdN W tk p = 1 := if_pos h
theorem hdN_5 {W : Nat → Int32} {tk : Nat → Nat} {p g : Nat} (h : W p = 5) (h2 : W (p + 1) = nI g) (hg : g < 4) : hdN W tk p = 2 + tk g := by
  unfold hdN
  rw [if_neg (by rw [h]; decide), if_pos h, h2, nI_clamp (by omega)]
theorem hdN_2 {W : Nat → Int32} {tk : Nat → Nat} {p : Nat} (h0 : ¬ W p = 0) (h2 : ¬ W p = 2) (h6 : ¬ W p = 6) (h5 : ¬ W p = 5) : hdN W tk p = 2 := by
  unfold hdN
  rw [if_neg (by intro q; rcases q with q | q | q; exact h0 q; exact h2 q; exact h6 q), if_neg h5]
theorem pt_2 {o : Int32} (h : o = 3 ∨ o = 6) : ptN o = 2 := if_pos h
theorem pt_1 {o : Int32} (h3 : ¬ o = 3) (h6 : ¬ o = 6) (h : o = 2 ∨ o = 4) : ptN o = 1 := by
  unfold ptN
  rw [if_neg (by intro q; rcases q with q | q; exact h3 q; exact h6 q), if_pos h]
theorem pt_0 {o : Int32} (h3 : ¬ o = 3) (h6 : ¬ o = 6) (h2 : ¬ o = 2) (h4 : ¬ o = 4) : ptN o = 0 := by
  unfold ptN
  rw [if_neg (by intro q; rcases q with q | q; exact h3 q; exact h6 q), if_neg (by intro q; rcases q with q | q; exact h2 q; exact h4 q)]
section WH
variable {W : Nat → Int32} {tk : Nat → Nat} {nf cnt p kn : Nat}
theorem wh_a (h : W p < 0 ∨ 6 < W p) : wh W tk nf cnt p kn = some p := if_pos h
theorem wh_b (h0 : ¬ W p < 0) (h1 : ¬ 6 < W p) (h : W p = 0 ∨ W p = 2 ∨ W p = 6) : wh W tk nf cnt p kn = none := by
  unfold wh
  rw [if_neg (fun q => q.elim h0 h1), if_pos h]
def wh0 (W : Nat → Int32) (p : Nat) : Prop := ¬ W p < 0 ∧ ¬ 6 < W p ∧ ¬ W p = 0 ∧ ¬ W p = 2 ∧ ¬ W p = 6
theorem wh_c (h : wh0 W p) (h1 : p + 1 = cnt) : wh W tk nf cnt p kn = some cnt := by
  unfold wh
  rw [if_neg (fun q => q.elim h.1 h.2.1), if_neg (fun q => by rcases q with q | q | q; exact h.2.2.1 q; exact h.2.2.2.1 q; exact h.2.2.2.2 q), if_pos h1]
theorem wh_d (h : wh0 W p) (h1 : ¬ p + 1 = cnt) (h4 : W p = 4) : wh W tk nf cnt p kn = if W (p + 1) < 0 ∨ 1000 < W (p + 1) then some (p + 1) else none := by
  unfold wh
  rw [if_neg (fun q => q.elim h.1 h.2.1), if_neg (fun q => by rcases q with q | q | q; exact h.2.2.1 q; exact h.2.2.2.1 q; exact h.2.2.2.2 q), if_neg h1, if_pos h4]
theorem wh_e (h : wh0 W p) (h1 : ¬ p + 1 = cnt) (h4 : ¬ W p = 4) (h5 : ¬ W p = 5) : wh W tk nf cnt p kn = if W (p + 1) < 0 ∨ ¬ W (p + 1) < nI kn then some (p + 1) else none := by
  unfold wh
  rw [if_neg (fun q => q.elim h.1 h.2.1), if_neg (fun q => by rcases q with q | q | q; exact h.2.2.1 q; exact h.2.2.2.1 q; exact h.2.2.2.2 q), if_neg h1, if_neg h4, if_pos h5]
theorem wh_f (h : wh0 W p) (h1 : ¬ p + 1 = cnt) (h5 : W p = 5) : wh W tk nf cnt p kn = if ¬ (0 ≤ W (p + 1) ∧ W (p + 1) < nI nf) then some (p + 1) else whV W cnt kn p (tk (W (p + 1)).toNatClampNeg) := by
  unfold wh
  rw [if_neg (fun q => q.elim h.1 h.2.1), if_neg (fun q => by rcases q with q | q | q; exact h.2.2.1 q; exact h.2.2.2.1 q; exact h.2.2.2.2 q), if_neg h1, if_neg (by rw [h5]; decide), if_neg (fun q => q h5)]
theorem whV_some {k b : Nat} (h : whV W cnt kn p k = some b) : ∀ d, whV W cnt kn p (k + d) = some b
  | 0 => h
  | d + 1 => by rw [← Nat.add_assoc, whV, whV_some h d]
theorem whV_end {k n : Nat} (h : whV W cnt kn p k = none) (hk : k < n) (he : p + 2 + k = cnt) : whV W cnt kn p n = some cnt := by
  obtain ⟨d, rfl⟩ : ∃ d, n = k + 1 + d := ⟨n - (k + 1), by omega⟩
  refine whV_some ?_ d
  rw [whV, h]
  exact if_pos he
theorem whV_bad {k n : Nat} (h : whV W cnt kn p k = none) (hk : k < n) (he : ¬ p + 2 + k = cnt) (hb : W (p + 2 + k) < 0 ∨ ¬ W (p + 2 + k) < nI kn) : whV W cnt kn p n = some (p + 2 + k) := by
  obtain ⟨d, rfl⟩ : ∃ d, n = k + 1 + d := ⟨n - (k + 1), by omega⟩
  refine whV_some ?_ d
  rw [whV, h]
  exact (if_neg he).trans (if_pos hb)
theorem whV_ok {k : Nat} (h : whV W cnt kn p k = none) (he : ¬ p + 2 + k = cnt) (h1 : ¬ W (p + 2 + k) < 0) (h2 : W (p + 2 + k) < nI kn) : whV W cnt kn p (k + 1) = none := by
  rw [whV, h]
  exact (if_neg he).trans (if_neg (fun q => q.elim h1 (fun w => w h2)))
end WH
theorem isF_of {nf : Nat} {v : Int32} (hnf : nf ≤ 4) (h : ¬ isF (nI nf) v = 0) : ∃ g, g < nf ∧ v = nI g ∧ 0 ≤ v ∧ v < nI nf := by
  unfold isF at h
  by_cases q : v < 0
  · rw [if_pos q] at h; exact absurd rfl h
  · rw [if_neg q] at h
    by_cases w : nI nf ≤ v
    · rw [if_pos w] at h; exact absurd rfl h
    · exact ⟨v.toNatClampNeg, nn_lt q (by omega) (Int32.not_le.mp w), (nn_of q).symm, Int32.not_lt.mp q, Int32.not_le.mp w⟩
theorem isF_no {nf : Nat} {v : Int32} (h : isF (nI nf) v = 0) : ¬ (0 ≤ v ∧ v < nI nf) := by
  intro ⟨q1, q2⟩
  unfold isF at h
  rw [if_neg (Int32.not_lt.mpr q1), if_neg (Int32.not_le.mpr q2)] at h
  exact absurd h (by decide)
theorem d_Mo_headOf_0 : decode c_Mo_headOf 0 = .ok (.aload_n 0, 1) := by decide +kernel
theorem d_Mo_headOf_1 : decode c_Mo_headOf 1 = .ok (.getfield 13, 3) := by decide +kernel
theorem d_Mo_headOf_4 : decode c_Mo_headOf 4 = .ok (.sipush 200, 3) := by decide +kernel
theorem d_Mo_headOf_7 : decode c_Mo_headOf 7 = .ok (.iload_n 1, 1) := by decide +kernel
theorem d_Mo_headOf_8 : decode c_Mo_headOf 8 = .ok (.imul, 1) := by decide +kernel
theorem d_Mo_headOf_9 : decode c_Mo_headOf 9 = .ok (.iload_n 2, 1) := by decide +kernel
theorem d_Mo_headOf_10 : decode c_Mo_headOf 10 = .ok (.iadd, 1) := by decide +kernel
theorem d_Mo_headOf_11 : decode c_Mo_headOf 11 = .ok (.iaload, 1) := by decide +kernel
theorem d_Mo_headOf_12 : decode c_Mo_headOf 12 = .ok (.istore_n 3, 1) := by decide +kernel
theorem d_Mo_headOf_13 : decode c_Mo_headOf 13 = .ok (.iload_n 3, 1) := by decide +kernel
theorem d_Mo_headOf_14 : decode c_Mo_headOf 14 = .ok (.ifCond .eq 14, 3) := by decide +kernel
theorem d_Mo_headOf_17 : decode c_Mo_headOf 17 = .ok (.iload_n 3, 1) := by decide +kernel
theorem d_Mo_headOf_18 : decode c_Mo_headOf 18 = .ok (.iconst 2, 1) := by decide +kernel
theorem d_Mo_headOf_19 : decode c_Mo_headOf 19 = .ok (.if_icmp .eq 9, 3) := by decide +kernel
theorem d_Mo_headOf_22 : decode c_Mo_headOf 22 = .ok (.iload_n 3, 1) := by decide +kernel
theorem d_Mo_headOf_23 : decode c_Mo_headOf 23 = .ok (.bipush 6, 2) := by decide +kernel
theorem d_Mo_headOf_25 : decode c_Mo_headOf 25 = .ok (.if_icmp .ne 7, 3) := by decide +kernel
theorem d_Mo_headOf_28 : decode c_Mo_headOf 28 = .ok (.iconst 1, 1) := by decide +kernel
theorem d_Mo_headOf_29 : decode c_Mo_headOf 29 = .ok (.goto 33, 3) := by decide +kernel
theorem d_Mo_headOf_32 : decode c_Mo_headOf 32 = .ok (.iload_n 3, 1) := by decide +kernel
theorem d_Mo_headOf_33 : decode c_Mo_headOf 33 = .ok (.iconst 5, 1) := by decide +kernel
theorem d_Mo_headOf_34 : decode c_Mo_headOf 34 = .ok (.if_icmp .ne 27, 3) := by decide +kernel
theorem d_Mo_headOf_37 : decode c_Mo_headOf 37 = .ok (.iconst 2, 1) := by decide +kernel
theorem d_Mo_headOf_38 : decode c_Mo_headOf 38 = .ok (.aload_n 0, 1) := by decide +kernel
theorem d_Mo_headOf_39 : decode c_Mo_headOf 39 = .ok (.getfield 9, 3) := by decide +kernel
theorem d_Mo_headOf_42 : decode c_Mo_headOf 42 = .ok (.aload_n 0, 1) := by decide +kernel
theorem d_Mo_headOf_43 : decode c_Mo_headOf 43 = .ok (.getfield 13, 3) := by decide +kernel
theorem d_Mo_headOf_46 : decode c_Mo_headOf 46 = .ok (.sipush 200, 3) := by decide +kernel
theorem d_Mo_headOf_49 : decode c_Mo_headOf 49 = .ok (.iload_n 1, 1) := by decide +kernel
theorem d_Mo_headOf_50 : decode c_Mo_headOf 50 = .ok (.imul, 1) := by decide +kernel
theorem d_Mo_headOf_51 : decode c_Mo_headOf 51 = .ok (.iload_n 2, 1) := by decide +kernel
theorem d_Mo_headOf_52 : decode c_Mo_headOf 52 = .ok (.iadd, 1) := by decide +kernel
theorem d_Mo_headOf_53 : decode c_Mo_headOf 53 = .ok (.iconst 1, 1) := by decide +kernel
theorem d_Mo_headOf_54 : decode c_Mo_headOf 54 = .ok (.iadd, 1) := by decide +kernel
theorem d_Mo_headOf_55 : decode c_Mo_headOf 55 = .ok (.iaload, 1) := by decide +kernel
theorem d_Mo_headOf_56 : decode c_Mo_headOf 56 = .ok (.iaload, 1) := by decide +kernel
theorem d_Mo_headOf_57 : decode c_Mo_headOf 57 = .ok (.iadd, 1) := by decide +kernel
theorem d_Mo_headOf_58 : decode c_Mo_headOf 58 = .ok (.goto 4, 3) := by decide +kernel
theorem d_Mo_headOf_61 : decode c_Mo_headOf 61 = .ok (.iconst 2, 1) := by decide +kernel
theorem d_Mo_headOf_62 : decode c_Mo_headOf 62 = .ok (.ireturn, 1) := by decide +kernel
set_option maxRecDepth 100000 in
set_option maxHeartbeats 16000000 in
/-- headOf(f9, at9) -/
theorem g_Mo_headOf (l : Launch) (G : va_G) (k : Nat → ClassId) (h0 : Nat) (s0 : Nat) (f9 : Nat) (at9 : Nat) (ma : Nat → Nat) (iv : Nat → Int32) (co : Int64) (tk : Nat → Nat) (wd : Nat → Int32) (hf : f9 < 4) (hat : at9 < 200) (h5 : wdF wd f9 at9 = 5 → at9 + 1 < 200 ∧ ∃ g, wdF wd f9 (at9 + 1) = nI g ∧ g < 4) (htk : ∀ g, g < 4 → tk g ≤ 3) : CI l y_Mo_headOf c_Mo_headOf 4 .int { frames := 0, cells := 0, slots := 0, locals := 0 } [.ref h0, .int (nI f9), .int (nI at9)] G k s0 [(h0, .inr (8, moL ma iv co)), ((ma 0), .inl (k 0, 4, .inl (fun i => nI (tk i)))), ((ma 1), .inl (k 0, 800, .inl wd))] (fun (r : Int32) (u : Unit) => r = nI (hdN (wdF wd f9) tk at9) ∧ True) (fun u => [(h0, .inr (8, moL ma iv co)), ((ma 0), .inl (k 0, 4, .inl (fun i => nI (tk i)))), ((ma 1), .inl (k 0, 800, .inl wd))]) 0 0 := by
  refine met_start (by decide) (Nat.le_of_ble_eq_true rfl) ?_
  intro p e s m below meth c C K hA hsz S ls hl
  generalize va_A [(h0, .inr (8, moL ma iv co)), ((ma 0), .inl (k 0, 4, .inl (fun i => nI (tk i)))), ((ma 1), .inl (k 0, 800, .inl wd))] s0 = A at hA S ⊢
  have hx := C.1
  have hb := C.2.1
  have hl : lv_has ls 4 [(0, .ref h0), (1, .int (nI f9)), (2, .int (nI at9))] := hl
  refine lv_aload_n hx hb d_Mo_headOf_0 rfl (lv_at hl 0 rfl) ?_
  refine r_get C K S 0 rfl rfl clOk_Mo 2 (by decide) wf_Mo_13 (v := .ref (ma 1)) rfl d_Mo_headOf_1 ?_
  refine lv_sipush (v := 200) hx hb d_Mo_headOf_4 (by decide) ?_
  refine lv_iload_n hx hb d_Mo_headOf_7 rfl (lv_at hl 1 rfl) ?_
  refine z_imul (x := 200) (y := nI f9) (v := nI (200 * f9)) hx hb d_Mo_headOf_8 (pk_mul 200 f9) ?_
  refine lv_iload_n hx hb d_Mo_headOf_9 rfl (lv_at hl 2 rfl) ?_
  refine z_iadd (x := nI (200 * f9)) (y := nI at9) (v := nI (200 * f9 + at9)) hx hb d_Mo_headOf_10 (nI_add (200 * f9) at9) ?_
  refine r_iald C K S 2 rfl (i := nI (200 * f9 + at9)) (show vp_in (nI (200 * f9 + at9)) _ from vp_in_nI (n := (200 * f9 + at9)) (by omega) (by decide)) (v := wdF wd f9 at9) (by rw [nI_clamp (by omega)]; exact (show wd (200 * f9 + at9) = wd (200 * f9 + at9) from congrArg wd (by omega))) d_Mo_headOf_11 ?_
  refine lv_istore_n (lv' := [(3, .int (wdF wd f9 at9)), (0, .ref h0), (1, .int (nI f9)), (2, .int (nI at9))]) hx hb d_Mo_headOf_12 rfl hl (by decide) rfl (fun ls hl => ?_)
  refine lv_iload_n hx hb d_Mo_headOf_13 rfl (lv_at hl 0 rfl) ?_
  refine lv_if_eq (tgt := 28) hx hb d_Mo_headOf_14 (by decide) (fun hc1 => ?_) (fun hc1 => ?_)
  · refine lv_iconst (v := 1) hx hb d_Mo_headOf_28 (by decide) ?_
    refine lv_goto (tgt := 62) hx hb d_Mo_headOf_29 (by decide) ?_
    exact r_iret C K rfl () ⟨congrArg nI (hdN_1 (Or.inl hc1)).symm, trivial⟩ (S.sub [0, 1, 2] (by decide) rfl) d_Mo_headOf_62 (Nat.le_of_ble_eq_true rfl) (Nat.le_of_ble_eq_true rfl)
  · refine lv_iload_n hx hb d_Mo_headOf_17 rfl (lv_at hl 0 rfl) ?_
    refine lv_iconst (v := 2) hx hb d_Mo_headOf_18 (by decide) ?_
    refine lv_icmp_eq (tgt := 28) hx hb d_Mo_headOf_19 (by decide) (fun hc2 => ?_) (fun hc2 => ?_)
    · refine lv_iconst (v := 1) hx hb d_Mo_headOf_28 (by decide) ?_
      refine lv_goto (tgt := 62) hx hb d_Mo_headOf_29 (by decide) ?_
      exact r_iret C K rfl () ⟨congrArg nI (hdN_1 (Or.inr (Or.inl hc2))).symm, trivial⟩ (S.sub [0, 1, 2] (by decide) rfl) d_Mo_headOf_62 (Nat.le_of_ble_eq_true rfl) (Nat.le_of_ble_eq_true rfl)
    · refine lv_iload_n hx hb d_Mo_headOf_22 rfl (lv_at hl 0 rfl) ?_
      refine lv_bipush (v := 6) hx hb d_Mo_headOf_23 (by decide) ?_
      refine lv_icmp_ne (tgt := 32) hx hb d_Mo_headOf_25 (by decide) (fun hc3 => ?_) (fun hc3 => ?_)
      · refine lv_iload_n hx hb d_Mo_headOf_32 rfl (lv_at hl 0 rfl) ?_
        refine lv_iconst (v := 5) hx hb d_Mo_headOf_33 (by decide) ?_
        refine lv_icmp_ne (tgt := 61) hx hb d_Mo_headOf_34 (by decide) (fun hc4 => ?_) (fun hc4 => ?_)
        · refine lv_iconst (v := 2) hx hb d_Mo_headOf_61 (by decide) ?_
          exact r_iret C K rfl () ⟨congrArg nI (hdN_2 hc1 hc2 hc3 hc4).symm, trivial⟩ (S.sub [0, 1, 2] (by decide) rfl) d_Mo_headOf_62 (Nat.le_of_ble_eq_true rfl) (Nat.le_of_ble_eq_true rfl)
        · obtain ⟨hq1, g9, hq2, hq3⟩ := h5 hc4
          have hq4 := htk g9 hq3
          refine lv_iconst (v := 2) hx hb d_Mo_headOf_37 (by decide) ?_
          refine lv_aload_n hx hb d_Mo_headOf_38 rfl (lv_at hl 1 rfl) ?_
          refine r_get C K S 0 rfl rfl clOk_Mo 1 (by decide) wf_Mo_9 (v := .ref (ma 0)) rfl d_Mo_headOf_39 ?_
          refine lv_aload_n hx hb d_Mo_headOf_42 rfl (lv_at hl 1 rfl) ?_
          refine r_get C K S 0 rfl rfl clOk_Mo 2 (by decide) wf_Mo_13 (v := .ref (ma 1)) rfl d_Mo_headOf_43 ?_
          refine lv_sipush (v := 200) hx hb d_Mo_headOf_46 (by decide) ?_
          refine lv_iload_n hx hb d_Mo_headOf_49 rfl (lv_at hl 2 rfl) ?_
          refine z_imul (x := 200) (y := nI f9) (v := nI (200 * f9)) hx hb d_Mo_headOf_50 (pk_mul 200 f9) ?_
          refine lv_iload_n hx hb d_Mo_headOf_51 rfl (lv_at hl 3 rfl) ?_
          refine z_iadd (x := nI (200 * f9)) (y := nI at9) (v := nI (200 * f9 + at9)) hx hb d_Mo_headOf_52 (nI_add (200 * f9) at9) ?_
          refine lv_iconst (v := 1) hx hb d_Mo_headOf_53 (by decide) ?_
          refine z_iadd (x := nI (200 * f9 + at9)) (y := 1) (v := nI (200 * f9 + at9 + 1)) hx hb d_Mo_headOf_54 (nI_add (200 * f9 + at9) 1) ?_
          refine r_iald C K S 2 rfl (i := nI (200 * f9 + at9 + 1)) (show vp_in (nI (200 * f9 + at9 + 1)) _ from vp_in_nI (n := (200 * f9 + at9 + 1)) (by omega) (by decide)) (v := wdF wd f9 (at9 + 1)) (by rw [nI_clamp (by omega)]; exact (show wd (200 * f9 + at9 + 1) = wd (200 * f9 + (at9 + 1)) from congrArg wd (by omega))) d_Mo_headOf_55 ?_
          rw [hq2]
          refine r_iald C K S 1 rfl (i := nI g9) (show vp_in (nI g9) _ from vp_in_nI (n := g9) (by omega) (by decide)) (v := nI (tk g9)) (by rw [nI_clamp (by omega)]) d_Mo_headOf_56 ?_
          refine z_iadd (x := 2) (y := nI (tk g9)) (v := nI (2 + tk g9)) hx hb d_Mo_headOf_57 (nI_add 2 (tk g9)) ?_
          refine lv_goto (tgt := 62) hx hb d_Mo_headOf_58 (by decide) ?_
          exact r_iret C K rfl () ⟨congrArg nI (hdN_5 hc4 hq2 hq3).symm, trivial⟩ (S.sub [0, 1, 2] (by decide) rfl) d_Mo_headOf_62 (Nat.le_of_ble_eq_true rfl) (Nat.le_of_ble_eq_true rfl)
      · refine lv_iconst (v := 1) hx hb d_Mo_headOf_28 (by decide) ?_
        refine lv_goto (tgt := 62) hx hb d_Mo_headOf_29 (by decide) ?_
        exact r_iret C K rfl () ⟨congrArg nI (hdN_1 (Or.inr (Or.inr hc3))).symm, trivial⟩ (S.sub [0, 1, 2] (by decide) rfl) d_Mo_headOf_62 (Nat.le_of_ble_eq_true rfl) (Nat.le_of_ble_eq_true rfl)
theorem d_Mo_partsOf_0 : decode c_Mo_partsOf 0 = .ok (.iload_n 0, 1) := by decide +kernel
theorem d_Mo_partsOf_1 : decode c_Mo_partsOf 1 = .ok (.iconst 3, 1) := by decide +kernel
theorem d_Mo_partsOf_2 : decode c_Mo_partsOf 2 = .ok (.if_icmp .eq 9, 3) := by decide +kernel
theorem d_Mo_partsOf_5 : decode c_Mo_partsOf 5 = .ok (.iload_n 0, 1) := by decide +kernel
theorem d_Mo_partsOf_6 : decode c_Mo_partsOf 6 = .ok (.bipush 6, 2) := by decide +kernel
theorem d_Mo_partsOf_8 : decode c_Mo_partsOf 8 = .ok (.if_icmp .ne 7, 3) := by decide +kernel
theorem d_Mo_partsOf_11 : decode c_Mo_partsOf 11 = .ok (.iconst 2, 1) := by decide +kernel
theorem d_Mo_partsOf_12 : decode c_Mo_partsOf 12 = .ok (.goto 18, 3) := by decide +kernel
theorem d_Mo_partsOf_15 : decode c_Mo_partsOf 15 = .ok (.iload_n 0, 1) := by decide +kernel
theorem d_Mo_partsOf_16 : decode c_Mo_partsOf 16 = .ok (.iconst 2, 1) := by decide +kernel
theorem d_Mo_partsOf_17 : decode c_Mo_partsOf 17 = .ok (.if_icmp .eq 8, 3) := by decide +kernel
theorem d_Mo_partsOf_20 : decode c_Mo_partsOf 20 = .ok (.iload_n 0, 1) := by decide +kernel
theorem d_Mo_partsOf_21 : decode c_Mo_partsOf 21 = .ok (.iconst 4, 1) := by decide +kernel
theorem d_Mo_partsOf_22 : decode c_Mo_partsOf 22 = .ok (.if_icmp .ne 7, 3) := by decide +kernel
theorem d_Mo_partsOf_25 : decode c_Mo_partsOf 25 = .ok (.iconst 1, 1) := by decide +kernel
theorem d_Mo_partsOf_26 : decode c_Mo_partsOf 26 = .ok (.goto 4, 3) := by decide +kernel
theorem d_Mo_partsOf_29 : decode c_Mo_partsOf 29 = .ok (.iconst 0, 1) := by decide +kernel
theorem d_Mo_partsOf_30 : decode c_Mo_partsOf 30 = .ok (.ireturn, 1) := by decide +kernel
set_option maxRecDepth 100000 in
set_option maxHeartbeats 16000000 in
/-- partsOf(o9) -/
theorem g_Mo_partsOf (l : Launch) (G : va_G) (k : Nat → ClassId) (s0 : Nat) (o9 : Int32) : CI l y_Mo_partsOf c_Mo_partsOf 1 .int { frames := 0, cells := 0, slots := 0, locals := 0 } [.int o9] G k s0 [] (fun (r : Int32) (u : Unit) => r = nI (ptN o9) ∧ True) (fun u => []) 0 0 := by
  refine met_start (by decide) (Nat.le_of_ble_eq_true rfl) ?_
  intro p e s m below meth c C K hA hsz S ls hl
  generalize va_A [] s0 = A at hA S ⊢
  have hx := C.1
  have hb := C.2.1
  have hl : lv_has ls 1 [(0, .int o9)] := hl
  refine lv_iload_n hx hb d_Mo_partsOf_0 rfl (lv_at hl 0 rfl) ?_
  refine lv_iconst (v := 3) hx hb d_Mo_partsOf_1 (by decide) ?_
  refine lv_icmp_eq (tgt := 11) hx hb d_Mo_partsOf_2 (by decide) (fun hc1 => ?_) (fun hc1 => ?_)
  · refine lv_iconst (v := 2) hx hb d_Mo_partsOf_11 (by decide) ?_
    refine lv_goto (tgt := 30) hx hb d_Mo_partsOf_12 (by decide) ?_
    exact r_iret C K rfl () ⟨congrArg nI (pt_2 (Or.inl hc1)).symm, trivial⟩ (S.sub [] (by decide) rfl) d_Mo_partsOf_30 (Nat.le_of_ble_eq_true rfl) (Nat.le_of_ble_eq_true rfl)
  · refine lv_iload_n hx hb d_Mo_partsOf_5 rfl (lv_at hl 0 rfl) ?_
    refine lv_bipush (v := 6) hx hb d_Mo_partsOf_6 (by decide) ?_
    refine lv_icmp_ne (tgt := 15) hx hb d_Mo_partsOf_8 (by decide) (fun hc2 => ?_) (fun hc2 => ?_)
    · refine lv_iload_n hx hb d_Mo_partsOf_15 rfl (lv_at hl 0 rfl) ?_
      refine lv_iconst (v := 2) hx hb d_Mo_partsOf_16 (by decide) ?_
      refine lv_icmp_eq (tgt := 25) hx hb d_Mo_partsOf_17 (by decide) (fun hc3 => ?_) (fun hc3 => ?_)
      · refine lv_iconst (v := 1) hx hb d_Mo_partsOf_25 (by decide) ?_
        refine lv_goto (tgt := 30) hx hb d_Mo_partsOf_26 (by decide) ?_
        exact r_iret C K rfl () ⟨congrArg nI (pt_1 hc1 hc2 (Or.inl hc3)).symm, trivial⟩ (S.sub [] (by decide) rfl) d_Mo_partsOf_30 (Nat.le_of_ble_eq_true rfl) (Nat.le_of_ble_eq_true rfl)
      · refine lv_iload_n hx hb d_Mo_partsOf_20 rfl (lv_at hl 0 rfl) ?_
        refine lv_iconst (v := 4) hx hb d_Mo_partsOf_21 (by decide) ?_
        refine lv_icmp_ne (tgt := 29) hx hb d_Mo_partsOf_22 (by decide) (fun hc4 => ?_) (fun hc4 => ?_)
        · refine lv_iconst (v := 0) hx hb d_Mo_partsOf_29 (by decide) ?_
          exact r_iret C K rfl () ⟨congrArg nI (pt_0 hc1 hc2 hc3 hc4).symm, trivial⟩ (S.sub [] (by decide) rfl) d_Mo_partsOf_30 (Nat.le_of_ble_eq_true rfl) (Nat.le_of_ble_eq_true rfl)
        · refine lv_iconst (v := 1) hx hb d_Mo_partsOf_25 (by decide) ?_
          refine lv_goto (tgt := 30) hx hb d_Mo_partsOf_26 (by decide) ?_
          exact r_iret C K rfl () ⟨congrArg nI (pt_1 hc1 hc2 (Or.inr hc4)).symm, trivial⟩ (S.sub [] (by decide) rfl) d_Mo_partsOf_30 (Nat.le_of_ble_eq_true rfl) (Nat.le_of_ble_eq_true rfl)
    · refine lv_iconst (v := 2) hx hb d_Mo_partsOf_11 (by decide) ?_
      refine lv_goto (tgt := 30) hx hb d_Mo_partsOf_12 (by decide) ?_
      exact r_iret C K rfl () ⟨congrArg nI (pt_2 (Or.inr hc2)).symm, trivial⟩ (S.sub [] (by decide) rfl) d_Mo_partsOf_30 (Nat.le_of_ble_eq_true rfl) (Nat.le_of_ble_eq_true rfl)
theorem d_Mo_wrongHead_0 : decode c_Mo_wrongHead 0 = .ok (.sipush 200, 3) := by decide +kernel
theorem d_Mo_wrongHead_3 : decode c_Mo_wrongHead 3 = .ok (.iload_n 1, 1) := by decide +kernel
theorem d_Mo_wrongHead_4 : decode c_Mo_wrongHead 4 = .ok (.imul, 1) := by decide +kernel
theorem d_Mo_wrongHead_5 : decode c_Mo_wrongHead 5 = .ok (.istore 4, 2) := by decide +kernel
theorem d_Mo_wrongHead_7 : decode c_Mo_wrongHead 7 = .ok (.aload_n 0, 1) := by decide +kernel
theorem d_Mo_wrongHead_8 : decode c_Mo_wrongHead 8 = .ok (.getfield 13, 3) := by decide +kernel
theorem d_Mo_wrongHead_11 : decode c_Mo_wrongHead 11 = .ok (.iload 4, 2) := by decide +kernel
theorem d_Mo_wrongHead_13 : decode c_Mo_wrongHead 13 = .ok (.iload_n 2, 1) := by decide +kernel
theorem d_Mo_wrongHead_14 : decode c_Mo_wrongHead 14 = .ok (.iadd, 1) := by decide +kernel
theorem d_Mo_wrongHead_15 : decode c_Mo_wrongHead 15 = .ok (.iaload, 1) := by decide +kernel
theorem d_Mo_wrongHead_16 : decode c_Mo_wrongHead 16 = .ok (.istore 5, 2) := by decide +kernel
theorem d_Mo_wrongHead_18 : decode c_Mo_wrongHead 18 = .ok (.iload 5, 2) := by decide +kernel
theorem d_Mo_wrongHead_20 : decode c_Mo_wrongHead 20 = .ok (.ifCond .lt 10, 3) := by decide +kernel
theorem d_Mo_wrongHead_23 : decode c_Mo_wrongHead 23 = .ok (.iload 5, 2) := by decide +kernel
theorem d_Mo_wrongHead_25 : decode c_Mo_wrongHead 25 = .ok (.bipush 6, 2) := by decide +kernel
theorem d_Mo_wrongHead_27 : decode c_Mo_wrongHead 27 = .ok (.if_icmp .le 5, 3) := by decide +kernel
theorem d_Mo_wrongHead_30 : decode c_Mo_wrongHead 30 = .ok (.iload_n 2, 1) := by decide +kernel
theorem d_Mo_wrongHead_31 : decode c_Mo_wrongHead 31 = .ok (.ireturn, 1) := by decide +kernel
theorem d_Mo_wrongHead_32 : decode c_Mo_wrongHead 32 = .ok (.iload 5, 2) := by decide +kernel
theorem d_Mo_wrongHead_34 : decode c_Mo_wrongHead 34 = .ok (.ifCond .eq 16, 3) := by decide +kernel
theorem d_Mo_wrongHead_37 : decode c_Mo_wrongHead 37 = .ok (.iload 5, 2) := by decide +kernel
theorem d_Mo_wrongHead_39 : decode c_Mo_wrongHead 39 = .ok (.iconst 2, 1) := by decide +kernel
theorem d_Mo_wrongHead_40 : decode c_Mo_wrongHead 40 = .ok (.if_icmp .eq 10, 3) := by decide +kernel
theorem d_Mo_wrongHead_43 : decode c_Mo_wrongHead 43 = .ok (.iload 5, 2) := by decide +kernel
theorem d_Mo_wrongHead_45 : decode c_Mo_wrongHead 45 = .ok (.bipush 6, 2) := by decide +kernel
theorem d_Mo_wrongHead_47 : decode c_Mo_wrongHead 47 = .ok (.if_icmp .ne 5, 3) := by decide +kernel
theorem d_Mo_wrongHead_50 : decode c_Mo_wrongHead 50 = .ok (.iconst (-1), 1) := by decide +kernel
theorem d_Mo_wrongHead_51 : decode c_Mo_wrongHead 51 = .ok (.ireturn, 1) := by decide +kernel
theorem d_Mo_wrongHead_52 : decode c_Mo_wrongHead 52 = .ok (.iload_n 2, 1) := by decide +kernel
theorem d_Mo_wrongHead_53 : decode c_Mo_wrongHead 53 = .ok (.iconst 1, 1) := by decide +kernel
theorem d_Mo_wrongHead_54 : decode c_Mo_wrongHead 54 = .ok (.iadd, 1) := by decide +kernel
theorem d_Mo_wrongHead_55 : decode c_Mo_wrongHead 55 = .ok (.aload_n 0, 1) := by decide +kernel
theorem d_Mo_wrongHead_56 : decode c_Mo_wrongHead 56 = .ok (.getfield 16, 3) := by decide +kernel
theorem d_Mo_wrongHead_59 : decode c_Mo_wrongHead 59 = .ok (.iload_n 1, 1) := by decide +kernel
theorem d_Mo_wrongHead_60 : decode c_Mo_wrongHead 60 = .ok (.iaload, 1) := by decide +kernel
theorem d_Mo_wrongHead_61 : decode c_Mo_wrongHead 61 = .ok (.if_icmp .ne 10, 3) := by decide +kernel
theorem d_Mo_wrongHead_64 : decode c_Mo_wrongHead 64 = .ok (.aload_n 0, 1) := by decide +kernel
theorem d_Mo_wrongHead_65 : decode c_Mo_wrongHead 65 = .ok (.getfield 16, 3) := by decide +kernel
theorem d_Mo_wrongHead_68 : decode c_Mo_wrongHead 68 = .ok (.iload_n 1, 1) := by decide +kernel
theorem d_Mo_wrongHead_69 : decode c_Mo_wrongHead 69 = .ok (.iaload, 1) := by decide +kernel
theorem d_Mo_wrongHead_70 : decode c_Mo_wrongHead 70 = .ok (.ireturn, 1) := by decide +kernel
theorem d_Mo_wrongHead_71 : decode c_Mo_wrongHead 71 = .ok (.aload_n 0, 1) := by decide +kernel
theorem d_Mo_wrongHead_72 : decode c_Mo_wrongHead 72 = .ok (.getfield 13, 3) := by decide +kernel
theorem d_Mo_wrongHead_75 : decode c_Mo_wrongHead 75 = .ok (.iload 4, 2) := by decide +kernel
theorem d_Mo_wrongHead_77 : decode c_Mo_wrongHead 77 = .ok (.iload_n 2, 1) := by decide +kernel
theorem d_Mo_wrongHead_78 : decode c_Mo_wrongHead 78 = .ok (.iadd, 1) := by decide +kernel
theorem d_Mo_wrongHead_79 : decode c_Mo_wrongHead 79 = .ok (.iconst 1, 1) := by decide +kernel
theorem d_Mo_wrongHead_80 : decode c_Mo_wrongHead 80 = .ok (.iadd, 1) := by decide +kernel
theorem d_Mo_wrongHead_81 : decode c_Mo_wrongHead 81 = .ok (.iaload, 1) := by decide +kernel
theorem d_Mo_wrongHead_82 : decode c_Mo_wrongHead 82 = .ok (.istore 6, 2) := by decide +kernel
theorem d_Mo_wrongHead_84 : decode c_Mo_wrongHead 84 = .ok (.iload 5, 2) := by decide +kernel
theorem d_Mo_wrongHead_86 : decode c_Mo_wrongHead 86 = .ok (.iconst 4, 1) := by decide +kernel
theorem d_Mo_wrongHead_87 : decode c_Mo_wrongHead 87 = .ok (.if_icmp .ne 24, 3) := by decide +kernel
theorem d_Mo_wrongHead_90 : decode c_Mo_wrongHead 90 = .ok (.iload 6, 2) := by decide +kernel
theorem d_Mo_wrongHead_92 : decode c_Mo_wrongHead 92 = .ok (.ifCond .lt 11, 3) := by decide +kernel
theorem d_Mo_wrongHead_95 : decode c_Mo_wrongHead 95 = .ok (.iload 6, 2) := by decide +kernel
theorem d_Mo_wrongHead_97 : decode c_Mo_wrongHead 97 = .ok (.sipush 1000, 3) := by decide +kernel
theorem d_Mo_wrongHead_100 : decode c_Mo_wrongHead 100 = .ok (.if_icmp .le 9, 3) := by decide +kernel
theorem d_Mo_wrongHead_103 : decode c_Mo_wrongHead 103 = .ok (.iload_n 2, 1) := by decide +kernel
theorem d_Mo_wrongHead_104 : decode c_Mo_wrongHead 104 = .ok (.iconst 1, 1) := by decide +kernel
theorem d_Mo_wrongHead_105 : decode c_Mo_wrongHead 105 = .ok (.iadd, 1) := by decide +kernel
theorem d_Mo_wrongHead_106 : decode c_Mo_wrongHead 106 = .ok (.goto 4, 3) := by decide +kernel
theorem d_Mo_wrongHead_109 : decode c_Mo_wrongHead 109 = .ok (.iconst (-1), 1) := by decide +kernel
theorem d_Mo_wrongHead_110 : decode c_Mo_wrongHead 110 = .ok (.ireturn, 1) := by decide +kernel
theorem d_Mo_wrongHead_111 : decode c_Mo_wrongHead 111 = .ok (.iload 5, 2) := by decide +kernel
theorem d_Mo_wrongHead_113 : decode c_Mo_wrongHead 113 = .ok (.iconst 5, 1) := by decide +kernel
theorem d_Mo_wrongHead_114 : decode c_Mo_wrongHead 114 = .ok (.if_icmp .eq 22, 3) := by decide +kernel
theorem d_Mo_wrongHead_117 : decode c_Mo_wrongHead 117 = .ok (.iload 6, 2) := by decide +kernel
theorem d_Mo_wrongHead_119 : decode c_Mo_wrongHead 119 = .ok (.ifCond .lt 9, 3) := by decide +kernel
theorem d_Mo_wrongHead_122 : decode c_Mo_wrongHead 122 = .ok (.iload 6, 2) := by decide +kernel
theorem d_Mo_wrongHead_124 : decode c_Mo_wrongHead 124 = .ok (.iload_n 3, 1) := by decide +kernel
theorem d_Mo_wrongHead_125 : decode c_Mo_wrongHead 125 = .ok (.if_icmp .lt 9, 3) := by decide +kernel
theorem d_Mo_wrongHead_128 : decode c_Mo_wrongHead 128 = .ok (.iload_n 2, 1) := by decide +kernel
theorem d_Mo_wrongHead_129 : decode c_Mo_wrongHead 129 = .ok (.iconst 1, 1) := by decide +kernel
theorem d_Mo_wrongHead_130 : decode c_Mo_wrongHead 130 = .ok (.iadd, 1) := by decide +kernel
theorem d_Mo_wrongHead_131 : decode c_Mo_wrongHead 131 = .ok (.goto 4, 3) := by decide +kernel
theorem d_Mo_wrongHead_134 : decode c_Mo_wrongHead 134 = .ok (.iconst (-1), 1) := by decide +kernel
theorem d_Mo_wrongHead_135 : decode c_Mo_wrongHead 135 = .ok (.ireturn, 1) := by decide +kernel
theorem d_Mo_wrongHead_136 : decode c_Mo_wrongHead 136 = .ok (.aload_n 0, 1) := by decide +kernel
theorem d_Mo_wrongHead_137 : decode c_Mo_wrongHead 137 = .ok (.iload 6, 2) := by decide +kernel
theorem d_Mo_wrongHead_139 : decode c_Mo_wrongHead 139 = .ok (.invokevirtual 114, 3) := by decide +kernel
theorem d_Mo_wrongHead_142 : decode c_Mo_wrongHead 142 = .ok (.ifCond .ne 7, 3) := by decide +kernel
theorem d_Mo_wrongHead_145 : decode c_Mo_wrongHead 145 = .ok (.iload_n 2, 1) := by decide +kernel
theorem d_Mo_wrongHead_146 : decode c_Mo_wrongHead 146 = .ok (.iconst 1, 1) := by decide +kernel
theorem d_Mo_wrongHead_147 : decode c_Mo_wrongHead 147 = .ok (.iadd, 1) := by decide +kernel
theorem d_Mo_wrongHead_148 : decode c_Mo_wrongHead 148 = .ok (.ireturn, 1) := by decide +kernel
theorem d_Mo_wrongHead_149 : decode c_Mo_wrongHead 149 = .ok (.iconst 0, 1) := by decide +kernel
theorem d_Mo_wrongHead_150 : decode c_Mo_wrongHead 150 = .ok (.istore 7, 2) := by decide +kernel
theorem d_Mo_wrongHead_152 : decode c_Mo_wrongHead 152 = .ok (.iload 7, 2) := by decide +kernel
theorem d_Mo_wrongHead_154 : decode c_Mo_wrongHead 154 = .ok (.aload_n 0, 1) := by decide +kernel
theorem d_Mo_wrongHead_155 : decode c_Mo_wrongHead 155 = .ok (.getfield 9, 3) := by decide +kernel
theorem d_Mo_wrongHead_158 : decode c_Mo_wrongHead 158 = .ok (.iload 6, 2) := by decide +kernel
theorem d_Mo_wrongHead_160 : decode c_Mo_wrongHead 160 = .ok (.iaload, 1) := by decide +kernel
theorem d_Mo_wrongHead_161 : decode c_Mo_wrongHead 161 = .ok (.if_icmp .ge 65, 3) := by decide +kernel
theorem d_Mo_wrongHead_164 : decode c_Mo_wrongHead 164 = .ok (.iload_n 2, 1) := by decide +kernel
theorem d_Mo_wrongHead_165 : decode c_Mo_wrongHead 165 = .ok (.iconst 2, 1) := by decide +kernel
theorem d_Mo_wrongHead_166 : decode c_Mo_wrongHead 166 = .ok (.iadd, 1) := by decide +kernel
theorem d_Mo_wrongHead_167 : decode c_Mo_wrongHead 167 = .ok (.iload 7, 2) := by decide +kernel
theorem d_Mo_wrongHead_169 : decode c_Mo_wrongHead 169 = .ok (.iadd, 1) := by decide +kernel
theorem d_Mo_wrongHead_170 : decode c_Mo_wrongHead 170 = .ok (.aload_n 0, 1) := by decide +kernel
theorem d_Mo_wrongHead_171 : decode c_Mo_wrongHead 171 = .ok (.getfield 16, 3) := by decide +kernel
theorem d_Mo_wrongHead_174 : decode c_Mo_wrongHead 174 = .ok (.iload_n 1, 1) := by decide +kernel
theorem d_Mo_wrongHead_175 : decode c_Mo_wrongHead 175 = .ok (.iaload, 1) := by decide +kernel
theorem d_Mo_wrongHead_176 : decode c_Mo_wrongHead 176 = .ok (.if_icmp .ne 10, 3) := by decide +kernel
theorem d_Mo_wrongHead_179 : decode c_Mo_wrongHead 179 = .ok (.aload_n 0, 1) := by decide +kernel
theorem d_Mo_wrongHead_180 : decode c_Mo_wrongHead 180 = .ok (.getfield 16, 3) := by decide +kernel
theorem d_Mo_wrongHead_183 : decode c_Mo_wrongHead 183 = .ok (.iload_n 1, 1) := by decide +kernel
theorem d_Mo_wrongHead_184 : decode c_Mo_wrongHead 184 = .ok (.iaload, 1) := by decide +kernel
theorem d_Mo_wrongHead_185 : decode c_Mo_wrongHead 185 = .ok (.ireturn, 1) := by decide +kernel
theorem d_Mo_wrongHead_186 : decode c_Mo_wrongHead 186 = .ok (.aload_n 0, 1) := by decide +kernel
theorem d_Mo_wrongHead_187 : decode c_Mo_wrongHead 187 = .ok (.getfield 13, 3) := by decide +kernel
theorem d_Mo_wrongHead_190 : decode c_Mo_wrongHead 190 = .ok (.iload 4, 2) := by decide +kernel
theorem d_Mo_wrongHead_192 : decode c_Mo_wrongHead 192 = .ok (.iload_n 2, 1) := by decide +kernel
theorem d_Mo_wrongHead_193 : decode c_Mo_wrongHead 193 = .ok (.iadd, 1) := by decide +kernel
theorem d_Mo_wrongHead_194 : decode c_Mo_wrongHead 194 = .ok (.iconst 2, 1) := by decide +kernel
theorem d_Mo_wrongHead_195 : decode c_Mo_wrongHead 195 = .ok (.iadd, 1) := by decide +kernel
theorem d_Mo_wrongHead_196 : decode c_Mo_wrongHead 196 = .ok (.iload 7, 2) := by decide +kernel
theorem d_Mo_wrongHead_198 : decode c_Mo_wrongHead 198 = .ok (.iadd, 1) := by decide +kernel
theorem d_Mo_wrongHead_199 : decode c_Mo_wrongHead 199 = .ok (.iaload, 1) := by decide +kernel
theorem d_Mo_wrongHead_200 : decode c_Mo_wrongHead 200 = .ok (.istore 8, 2) := by decide +kernel
theorem d_Mo_wrongHead_202 : decode c_Mo_wrongHead 202 = .ok (.iload 8, 2) := by decide +kernel
theorem d_Mo_wrongHead_204 : decode c_Mo_wrongHead 204 = .ok (.ifCond .lt 9, 3) := by decide +kernel
theorem d_Mo_wrongHead_207 : decode c_Mo_wrongHead 207 = .ok (.iload 8, 2) := by decide +kernel
theorem d_Mo_wrongHead_209 : decode c_Mo_wrongHead 209 = .ok (.iload_n 3, 1) := by decide +kernel
theorem d_Mo_wrongHead_210 : decode c_Mo_wrongHead 210 = .ok (.if_icmp .lt 10, 3) := by decide +kernel
theorem d_Mo_wrongHead_213 : decode c_Mo_wrongHead 213 = .ok (.iload_n 2, 1) := by decide +kernel
theorem d_Mo_wrongHead_214 : decode c_Mo_wrongHead 214 = .ok (.iconst 2, 1) := by decide +kernel
theorem d_Mo_wrongHead_215 : decode c_Mo_wrongHead 215 = .ok (.iadd, 1) := by decide +kernel
theorem d_Mo_wrongHead_216 : decode c_Mo_wrongHead 216 = .ok (.iload 7, 2) := by decide +kernel
theorem d_Mo_wrongHead_218 : decode c_Mo_wrongHead 218 = .ok (.iadd, 1) := by decide +kernel
theorem d_Mo_wrongHead_219 : decode c_Mo_wrongHead 219 = .ok (.ireturn, 1) := by decide +kernel
theorem d_Mo_wrongHead_220 : decode c_Mo_wrongHead 220 = .ok (.iinc 7 1, 3) := by decide +kernel
theorem d_Mo_wrongHead_223 : decode c_Mo_wrongHead 223 = .ok (.goto (-71), 3) := by decide +kernel
theorem d_Mo_wrongHead_226 : decode c_Mo_wrongHead 226 = .ok (.iconst (-1), 1) := by decide +kernel
theorem d_Mo_wrongHead_227 : decode c_Mo_wrongHead 227 = .ok (.ireturn, 1) := by decide +kernel
set_option maxRecDepth 100000 in
set_option maxHeartbeats 16000000 in
/-- wrongHead(f9, at9, kn) -/
theorem g_Mo_wrongHead (l : Launch) (G : va_G) (k : Nat → ClassId) (h0 : Nat) (s0 : Nat) (f9 : Nat) (at9 : Nat) (kn : Nat) (nf : Nat) (ma : Nat → Nat) (iv : Nat → Int32) (co : Int64) (tk : Nat → Nat) (ct : Nat → Nat) (wd : Nat → Int32) (hf : f9 < 4) (hat : at9 < ct f9) (hct : ct f9 ≤ 200) (hnf : nf ≤ 4) (htk : ∀ g, g < 4 → tk g ≤ 3) : CI l y_Mo_wrongHead c_Mo_wrongHead 9 .int { frames := 2, cells := 0, slots := 0, locals := 41 } [.ref h0, .int (nI f9), .int (nI at9), .int (nI kn)] G k s0 [(h0, .inr (8, moL ma (va_up iv 0 (nI nf)) co)), ((ma 0), .inl (k 0, 4, .inl (fun i => nI (tk i)))), ((ma 1), .inl (k 0, 800, .inl wd)), ((ma 2), .inl (k 0, 4, .inl (fun i => nI (ct i))))] (fun (r : Int32) (u : Unit) => r = bI (wh (wdF wd f9) tk nf (ct f9) at9 kn) ∧ True) (fun u => [(h0, .inr (8, moL ma (va_up iv 0 (nI nf)) co)), ((ma 0), .inl (k 0, 4, .inl (fun i => nI (tk i)))), ((ma 1), .inl (k 0, 800, .inl wd)), ((ma 2), .inl (k 0, 4, .inl (fun i => nI (ct i))))]) 0 0 := by
  refine met_start (by decide) (Nat.le_of_ble_eq_true rfl) ?_
  intro p e s m below meth c C K hA hsz S ls hl
  generalize va_A [(h0, .inr (8, moL ma (va_up iv 0 (nI nf)) co)), ((ma 0), .inl (k 0, 4, .inl (fun i => nI (tk i)))), ((ma 1), .inl (k 0, 800, .inl wd)), ((ma 2), .inl (k 0, 4, .inl (fun i => nI (ct i))))] s0 = A at hA S ⊢
  have hx := C.1
  have hb := C.2.1
  have hl : lv_has ls 9 [(0, .ref h0), (1, .int (nI f9)), (2, .int (nI at9)), (3, .int (nI kn))] := hl
  refine lv_sipush (v := 200) hx hb d_Mo_wrongHead_0 (by decide) ?_
  refine lv_iload_n hx hb d_Mo_wrongHead_3 rfl (lv_at hl 1 rfl) ?_
  refine z_imul (x := 200) (y := nI f9) (v := nI (200 * f9)) hx hb d_Mo_wrongHead_4 (pk_mul 200 f9) ?_
  refine lv_istore (lv' := [(4, .int (nI (200 * f9))), (0, .ref h0), (1, .int (nI f9)), (2, .int (nI at9)), (3, .int (nI kn))]) hx hb d_Mo_wrongHead_5 hl (by decide) rfl (fun ls hl => ?_)
  refine lv_aload_n hx hb d_Mo_wrongHead_7 rfl (lv_at hl 1 rfl) ?_
  refine r_get C K S 0 rfl rfl clOk_Mo 2 (by decide) wf_Mo_13 (v := .ref (ma 1)) rfl d_Mo_wrongHead_8 ?_
  refine lv_iload hx hb d_Mo_wrongHead_11 (lv_at hl 0 rfl) ?_
  refine lv_iload_n hx hb d_Mo_wrongHead_13 rfl (lv_at hl 3 rfl) ?_
  refine z_iadd (x := nI (200 * f9)) (y := nI at9) (v := nI (200 * f9 + at9)) hx hb d_Mo_wrongHead_14 (nI_add (200 * f9) at9) ?_
  refine r_iald C K S 2 rfl (i := nI (200 * f9 + at9)) (show vp_in (nI (200 * f9 + at9)) _ from vp_in_nI (n := (200 * f9 + at9)) (by omega) (by decide)) (v := wdF wd f9 at9) (by rw [nI_clamp (by omega)]; exact (show wd (200 * f9 + at9) = wd (200 * f9 + at9) from congrArg wd (by omega))) d_Mo_wrongHead_15 ?_
  refine lv_istore (lv' := [(5, .int (wdF wd f9 at9)), (4, .int (nI (200 * f9))), (0, .ref h0), (1, .int (nI f9)), (2, .int (nI at9)), (3, .int (nI kn))]) hx hb d_Mo_wrongHead_16 hl (by decide) rfl (fun ls hl => ?_)
  refine lv_iload hx hb d_Mo_wrongHead_18 (lv_at hl 0 rfl) ?_
  refine lv_if_lt (tgt := 30) hx hb d_Mo_wrongHead_20 (by decide) (fun hc1 => ?_) (fun hc1 => ?_)
  · refine lv_iload_n hx hb d_Mo_wrongHead_30 rfl (lv_at hl 4 rfl) ?_
    exact r_iret C K rfl () ⟨(congrArg bI (show wh (wdF wd f9) tk nf (ct f9) at9 kn = some (at9) from wh_a (Or.inl hc1))).symm, trivial⟩ (S.sub [0, 1, 2, 3] (by decide) rfl) d_Mo_wrongHead_31 (Nat.le_of_ble_eq_true rfl) (Nat.le_of_ble_eq_true rfl)
  · refine lv_iload hx hb d_Mo_wrongHead_23 (lv_at hl 0 rfl) ?_
    refine lv_bipush (v := 6) hx hb d_Mo_wrongHead_25 (by decide) ?_
    refine lv_icmp_le (tgt := 32) hx hb d_Mo_wrongHead_27 (by decide) (fun hc2 => ?_) (fun hc2 => ?_)
    · refine lv_iload hx hb d_Mo_wrongHead_32 (lv_at hl 0 rfl) ?_
      refine lv_if_eq (tgt := 50) hx hb d_Mo_wrongHead_34 (by decide) (fun hc3 => ?_) (fun hc3 => ?_)
      · refine lv_iconst (v := (-1)) hx hb d_Mo_wrongHead_50 (by decide) ?_
        exact r_iret C K rfl () ⟨(congrArg bI (show wh (wdF wd f9) tk nf (ct f9) at9 kn = none from wh_b hc1 (Int32.not_lt.mpr hc2) (Or.inl hc3))).symm, trivial⟩ (S.sub [0, 1, 2, 3] (by decide) rfl) d_Mo_wrongHead_51 (Nat.le_of_ble_eq_true rfl) (Nat.le_of_ble_eq_true rfl)
      · refine lv_iload hx hb d_Mo_wrongHead_37 (lv_at hl 0 rfl) ?_
        refine lv_iconst (v := 2) hx hb d_Mo_wrongHead_39 (by decide) ?_
        refine lv_icmp_eq (tgt := 50) hx hb d_Mo_wrongHead_40 (by decide) (fun hc4 => ?_) (fun hc4 => ?_)
        · refine lv_iconst (v := (-1)) hx hb d_Mo_wrongHead_50 (by decide) ?_
          exact r_iret C K rfl () ⟨(congrArg bI (show wh (wdF wd f9) tk nf (ct f9) at9 kn = none from wh_b hc1 (Int32.not_lt.mpr hc2) (Or.inr (Or.inl hc4)))).symm, trivial⟩ (S.sub [0, 1, 2, 3] (by decide) rfl) d_Mo_wrongHead_51 (Nat.le_of_ble_eq_true rfl) (Nat.le_of_ble_eq_true rfl)
        · refine lv_iload hx hb d_Mo_wrongHead_43 (lv_at hl 0 rfl) ?_
          refine lv_bipush (v := 6) hx hb d_Mo_wrongHead_45 (by decide) ?_
          refine lv_icmp_ne (tgt := 52) hx hb d_Mo_wrongHead_47 (by decide) (fun hc5 => ?_) (fun hc5 => ?_)
          · refine lv_iload_n hx hb d_Mo_wrongHead_52 rfl (lv_at hl 4 rfl) ?_
            refine lv_iconst (v := 1) hx hb d_Mo_wrongHead_53 (by decide) ?_
            refine z_iadd (x := nI at9) (y := 1) (v := nI (at9 + 1)) hx hb d_Mo_wrongHead_54 (nI_add at9 1) ?_
            refine lv_aload_n hx hb d_Mo_wrongHead_55 rfl (lv_at hl 2 rfl) ?_
            refine r_get C K S 0 rfl rfl clOk_Mo 3 (by decide) wf_Mo_16 (v := .ref (ma 2)) rfl d_Mo_wrongHead_56 ?_
            refine lv_iload_n hx hb d_Mo_wrongHead_59 rfl (lv_at hl 3 rfl) ?_
            refine r_iald C K S 3 rfl (i := nI f9) (show vp_in (nI f9) _ from vp_in_nI (n := f9) (by omega) (by decide)) (v := nI (ct f9)) (by rw [nI_clamp (by omega)]) d_Mo_wrongHead_60 ?_
            refine z_icmp_ne (a := (at9 + 1)) (b := (ct f9)) (tgt := 71) hx hb d_Mo_wrongHead_61 (by decide) (by omega) (by omega) (fun hc6 => ?_) (fun hc6 => ?_)
            · refine lv_aload_n hx hb d_Mo_wrongHead_71 rfl (lv_at hl 2 rfl) ?_
              refine r_get C K S 0 rfl rfl clOk_Mo 2 (by decide) wf_Mo_13 (v := .ref (ma 1)) rfl d_Mo_wrongHead_72 ?_
              refine lv_iload hx hb d_Mo_wrongHead_75 (lv_at hl 1 rfl) ?_
              refine lv_iload_n hx hb d_Mo_wrongHead_77 rfl (lv_at hl 4 rfl) ?_
              refine z_iadd (x := nI (200 * f9)) (y := nI at9) (v := nI (200 * f9 + at9)) hx hb d_Mo_wrongHead_78 (nI_add (200 * f9) at9) ?_
              refine lv_iconst (v := 1) hx hb d_Mo_wrongHead_79 (by decide) ?_
              refine z_iadd (x := nI (200 * f9 + at9)) (y := 1) (v := nI (200 * f9 + at9 + 1)) hx hb d_Mo_wrongHead_80 (nI_add (200 * f9 + at9) 1) ?_
              refine r_iald C K S 2 rfl (i := nI (200 * f9 + at9 + 1)) (show vp_in (nI (200 * f9 + at9 + 1)) _ from vp_in_nI (n := (200 * f9 + at9 + 1)) (by omega) (by decide)) (v := wdF wd f9 (at9 + 1)) (by rw [nI_clamp (by omega)]; exact (show wd (200 * f9 + at9 + 1) = wd (200 * f9 + (at9 + 1)) from congrArg wd (by omega))) d_Mo_wrongHead_81 ?_
              refine lv_istore (lv' := [(6, .int (wdF wd f9 (at9 + 1))), (5, .int (wdF wd f9 at9)), (4, .int (nI (200 * f9))), (0, .ref h0), (1, .int (nI f9)), (2, .int (nI at9)), (3, .int (nI kn))]) hx hb d_Mo_wrongHead_82 hl (by decide) rfl (fun ls hl => ?_)
              refine lv_iload hx hb d_Mo_wrongHead_84 (lv_at hl 1 rfl) ?_
              refine lv_iconst (v := 4) hx hb d_Mo_wrongHead_86 (by decide) ?_
              refine lv_icmp_ne (tgt := 111) hx hb d_Mo_wrongHead_87 (by decide) (fun hc7 => ?_) (fun hc7 => ?_)
              · refine lv_iload hx hb d_Mo_wrongHead_111 (lv_at hl 1 rfl) ?_
                refine lv_iconst (v := 5) hx hb d_Mo_wrongHead_113 (by decide) ?_
                refine lv_icmp_eq (tgt := 136) hx hb d_Mo_wrongHead_114 (by decide) (fun hc8 => ?_) (fun hc8 => ?_)
                · refine lv_aload_n hx hb d_Mo_wrongHead_136 rfl (lv_at hl 3 rfl) ?_
                  refine lv_iload hx hb d_Mo_wrongHead_137 (lv_at hl 0 rfl) ?_
                  refine r_backi (wi := [(h0, .inr (8, moL ma (va_up iv 0 (nI nf)) co))]) (wr := [((ma 0), .inl (k 0, 4, .inl (fun i => nI (tk i)))), ((ma 1), .inl (k 0, 800, .inl wd)), ((ma 2), .inl (k 0, 4, .inl (fun i => nI (ct i))))]) S hA [0] [1, 2, 3] rfl rfl (by decide) (by decide) (va_runV (As := [.int (wdF wd f9 (at9 + 1))]) (rest := []) ⟨hx, hb, C.2.2.1, C.2.2.2.1, C.2.2.2.2.1⟩ (g_Mo_isFunction l G k h0 _ ma (va_up iv 0 (nI nf)) co (wdF wd f9 (at9 + 1))) (k_virt (n := 1) C wc_Mo_isFunction rfl rfl wz_Mo wm_Mo_114 wn_Mo_isFunction ws_Mo_isFunction (by decide +kernel) ⟨(Nat.le_of_ble_eq_true rfl), (Nat.le_of_ble_eq_true rfl)⟩) (pr_nowV K S [0] (by decide) rfl 0 rfl rfl) rfl rfl hl.1 rfl (lv_room (Nat.le_of_ble_eq_true rfl)) d_Mo_wrongHead_139 ⟨(Nat.le_of_ble_eq_true rfl), (Nat.le_of_ble_eq_true rfl)⟩) (fun r11 u9 H locs hw10 S => ?_)
                  have S : Sw G A s.heap _ _ [((ma 0), .inl (k 0, 4, .inl (fun i => nI (tk i)))), ((ma 1), .inl (k 0, 800, .inl wd)), ((ma 2), .inl (k 0, 4, .inl (fun i => nI (ct i)))), (h0, .inr (8, moL ma (va_up iv 0 (nI nf)) co))] := S
                  obtain rfl : r11 = isF ((va_up iv 0 (nI nf)) 0) (wdF wd f9 (at9 + 1)) := hw10
                  refine lv_if_ne (tgt := 149) hx hb d_Mo_wrongHead_142 (by decide) (fun hc13 => ?_) (fun hc13 => ?_)
                  · refine lv_iconst (v := 0) hx hb d_Mo_wrongHead_149 (by decide) ?_
                    refine lv_istore (lv' := [(7, .int 0), (6, .int (wdF wd f9 (at9 + 1))), (5, .int (wdF wd f9 at9)), (4, .int (nI (200 * f9))), (0, .ref h0), (1, .int (nI f9)), (2, .int (nI at9)), (3, .int (nI kn))]) hx hb d_Mo_wrongHead_150 hl (by decide) rfl (fun ls hl => ?_)
                    obtain ⟨g9, hg1, hg2, hg3, hg4⟩ := isF_of hnf hc13
                    have hg5 := htk g9 (by omega)
                    have hl : lv_has ls 9 [(7, .int 0), (6, .int (nI g9)), (5, .int (wdF wd f9 at9)), (4, .int (nI (200 * f9))), (0, .ref h0), (1, .int (nI f9)), (2, .int (nI at9)), (3, .int (nI kn))] := by rw [← hg2]; exact hl
                    have lk : ∀ d9, ∀ (k9 : Nat), (tk g9 - k9) < d9 → (k9 ≤ tk g9) → (at9 + 2 + k9 ≤ ct f9) → (whV (wdF wd f9) (ct f9) kn at9 k9 = none) → ∀ (H : Heap) (locs : List Loc), Sw G A s.heap H locs [((ma 0), .inl (k 0, 4, .inl (fun i => nI (tk i)))), ((ma 1), .inl (k 0, 800, .inl wd)), ((ma 2), .inl (k 0, 4, .inl (fun i => nI (ct i)))), (h0, .inr (8, moL ma (va_up iv 0 (nI nf)) co))] → ∀ ls : Array Slot, lv_has ls 9 [(7, .int (nI k9)), (6, .int (nI g9)), (5, .int (wdF wd f9 at9)), (4, .int (nI (200 * f9))), (0, .ref h0), (1, .int (nI f9)), (2, .int (nI at9)), (3, .int (nI kn))] → W p l e { frames := 2, cells := 0, slots := 0, locals := 41 } s m [Value.ref h0, Value.int (nI f9), Value.int (nI at9), Value.int (nI kn)].toArray below meth c H locs 0 0 (MQ below (va_Qi (fun (r : Int32) (u : Unit) => r = bI (wh (wdF wd f9) tk nf (ct f9) at9 kn) ∧ True) (Po G k A (fun u => [(h0, .inr (8, moL ma (va_up iv 0 (nI nf)) co)), ((ma 0), .inl (k 0, 4, .inl (fun i => nI (tk i)))), ((ma 1), .inl (k 0, 800, .inl wd)), ((ma 2), .inl (k 0, 4, .inl (fun i => nI (ct i))))])) A) [Value.ref h0, Value.int (nI f9), Value.int (nI at9), Value.int (nI kn)].toArray s 0 0 A) (F0 m 152 ls []) := by
                      intro d9
                      induction d9 with
                      | zero => intro k9 hm; exact absurd hm (Nat.not_lt_zero _)
                      | succ d9 ih_lk =>
                        intro k9 hm hk hq hV H locs S ls hl
                        refine lv_iload hx hb d_Mo_wrongHead_152 (lv_at hl 0 rfl) ?_
                        refine lv_aload_n hx hb d_Mo_wrongHead_154 rfl (lv_at hl 4 rfl) ?_
                        refine r_get C K S 3 rfl rfl clOk_Mo 1 (by decide) wf_Mo_9 (v := .ref (ma 0)) rfl d_Mo_wrongHead_155 ?_
                        refine lv_iload hx hb d_Mo_wrongHead_158 (lv_at hl 1 rfl) ?_
                        refine r_iald C K S 0 rfl (i := nI g9) (show vp_in (nI g9) _ from vp_in_nI (n := g9) (by omega) (by decide)) (v := nI (tk g9)) (by rw [nI_clamp (by omega)]) d_Mo_wrongHead_160 ?_
                        refine z_icmp_ge (a := k9) (b := (tk g9)) (tgt := 226) hx hb d_Mo_wrongHead_161 (by decide) (by omega) (by omega) (fun hc14 => ?_) (fun hc14 => ?_)
                        · refine lv_iconst (v := (-1)) hx hb d_Mo_wrongHead_226 (by decide) ?_
                          exact r_iret C K rfl () ⟨(congrArg bI (show wh (wdF wd f9) tk nf (ct f9) at9 kn = none from (wh_f ⟨hc1, fun q => absurd q (Int32.not_lt.mpr hc2), hc3, hc4, hc5⟩ (by omega) hc8).trans ((if_neg (fun q => q ⟨hg3, hg4⟩)).trans (by rw [hg2, nI_clamp (by omega)]; exact (show whV _ _ _ _ (tk g9) = none from (show k9 = tk g9 by omega) ▸ hV))))).symm, trivial⟩ (S.sub [3, 0, 1, 2] (by decide) rfl) d_Mo_wrongHead_227 (Nat.le_of_ble_eq_true rfl) (Nat.le_of_ble_eq_true rfl)
                        · refine lv_iload_n hx hb d_Mo_wrongHead_164 rfl (lv_at hl 6 rfl) ?_
                          refine lv_iconst (v := 2) hx hb d_Mo_wrongHead_165 (by decide) ?_
                          refine z_iadd (x := nI at9) (y := 2) (v := nI (at9 + 2)) hx hb d_Mo_wrongHead_166 (nI_add at9 2) ?_
                          refine lv_iload hx hb d_Mo_wrongHead_167 (lv_at hl 0 rfl) ?_
                          refine z_iadd (x := nI (at9 + 2)) (y := nI k9) (v := nI (at9 + 2 + k9)) hx hb d_Mo_wrongHead_169 (nI_add (at9 + 2) k9) ?_
                          refine lv_aload_n hx hb d_Mo_wrongHead_170 rfl (lv_at hl 4 rfl) ?_
                          refine r_get C K S 3 rfl rfl clOk_Mo 3 (by decide) wf_Mo_16 (v := .ref (ma 2)) rfl d_Mo_wrongHead_171 ?_
                          refine lv_iload_n hx hb d_Mo_wrongHead_174 rfl (lv_at hl 5 rfl) ?_
                          refine r_iald C K S 2 rfl (i := nI f9) (show vp_in (nI f9) _ from vp_in_nI (n := f9) (by omega) (by decide)) (v := nI (ct f9)) (by rw [nI_clamp (by omega)]) d_Mo_wrongHead_175 ?_
                          refine z_icmp_ne (a := (at9 + 2 + k9)) (b := (ct f9)) (tgt := 186) hx hb d_Mo_wrongHead_176 (by decide) (by omega) (by omega) (fun hc15 => ?_) (fun hc15 => ?_)
                          · refine lv_aload_n hx hb d_Mo_wrongHead_186 rfl (lv_at hl 4 rfl) ?_
                            refine r_get C K S 3 rfl rfl clOk_Mo 2 (by decide) wf_Mo_13 (v := .ref (ma 1)) rfl d_Mo_wrongHead_187 ?_
                            refine lv_iload hx hb d_Mo_wrongHead_190 (lv_at hl 3 rfl) ?_
                            refine lv_iload_n hx hb d_Mo_wrongHead_192 rfl (lv_at hl 6 rfl) ?_
                            refine z_iadd (x := nI (200 * f9)) (y := nI at9) (v := nI (200 * f9 + at9)) hx hb d_Mo_wrongHead_193 (nI_add (200 * f9) at9) ?_
                            refine lv_iconst (v := 2) hx hb d_Mo_wrongHead_194 (by decide) ?_
                            refine z_iadd (x := nI (200 * f9 + at9)) (y := 2) (v := nI (200 * f9 + at9 + 2)) hx hb d_Mo_wrongHead_195 (nI_add (200 * f9 + at9) 2) ?_
                            refine lv_iload hx hb d_Mo_wrongHead_196 (lv_at hl 0 rfl) ?_
                            refine z_iadd (x := nI (200 * f9 + at9 + 2)) (y := nI k9) (v := nI (200 * f9 + at9 + 2 + k9)) hx hb d_Mo_wrongHead_198 (nI_add (200 * f9 + at9 + 2) k9) ?_
                            refine r_iald C K S 1 rfl (i := nI (200 * f9 + at9 + 2 + k9)) (show vp_in (nI (200 * f9 + at9 + 2 + k9)) _ from vp_in_nI (n := (200 * f9 + at9 + 2 + k9)) (by omega) (by decide)) (v := wdF wd f9 (at9 + 2 + k9)) (by rw [nI_clamp (by omega)]; exact (show wd (200 * f9 + at9 + 2 + k9) = wd (200 * f9 + (at9 + 2 + k9)) from congrArg wd (by omega))) d_Mo_wrongHead_199 ?_
                            refine lv_istore (lv' := [(8, .int (wdF wd f9 (at9 + 2 + k9))), (7, .int (nI k9)), (6, .int (nI g9)), (5, .int (wdF wd f9 at9)), (4, .int (nI (200 * f9))), (0, .ref h0), (1, .int (nI f9)), (2, .int (nI at9)), (3, .int (nI kn))]) hx hb d_Mo_wrongHead_200 hl (by decide) rfl (fun ls hl => ?_)
                            refine lv_iload hx hb d_Mo_wrongHead_202 (lv_at hl 0 rfl) ?_
                            refine lv_if_lt (tgt := 213) hx hb d_Mo_wrongHead_204 (by decide) (fun hc16 => ?_) (fun hc16 => ?_)
                            · refine lv_iload_n hx hb d_Mo_wrongHead_213 rfl (lv_at hl 7 rfl) ?_
                              refine lv_iconst (v := 2) hx hb d_Mo_wrongHead_214 (by decide) ?_
                              refine z_iadd (x := nI at9) (y := 2) (v := nI (at9 + 2)) hx hb d_Mo_wrongHead_215 (nI_add at9 2) ?_
                              refine lv_iload hx hb d_Mo_wrongHead_216 (lv_at hl 1 rfl) ?_
                              refine z_iadd (x := nI (at9 + 2)) (y := nI k9) (v := nI (at9 + 2 + k9)) hx hb d_Mo_wrongHead_218 (nI_add (at9 + 2) k9) ?_
                              exact r_iret C K rfl () ⟨(congrArg bI (show wh (wdF wd f9) tk nf (ct f9) at9 kn = some (at9 + 2 + k9) from (wh_f ⟨hc1, fun q => absurd q (Int32.not_lt.mpr hc2), hc3, hc4, hc5⟩ (by omega) hc8).trans ((if_neg (fun q => q ⟨hg3, hg4⟩)).trans (by rw [hg2, nI_clamp (by omega)]; exact (whV_bad hV (by omega) (by omega) (Or.inl hc16)))))).symm, trivial⟩ (S.sub [3, 0, 1, 2] (by decide) rfl) d_Mo_wrongHead_219 (Nat.le_of_ble_eq_true rfl) (Nat.le_of_ble_eq_true rfl)
                            · refine lv_iload hx hb d_Mo_wrongHead_207 (lv_at hl 0 rfl) ?_
                              refine lv_iload_n hx hb d_Mo_wrongHead_209 rfl (lv_at hl 8 rfl) ?_
                              refine lv_icmp_lt (tgt := 220) hx hb d_Mo_wrongHead_210 (by decide) (fun hc17 => ?_) (fun hc17 => ?_)
                              · refine lv_iinc (v := nI (k9 + 1)) (lv' := [(7, .int (nI (k9 + 1))), (8, .int (wdF wd f9 (at9 + 2 + k9))), (6, .int (nI g9)), (5, .int (wdF wd f9 at9)), (4, .int (nI (200 * f9))), (0, .ref h0), (1, .int (nI f9)), (2, .int (nI at9)), (3, .int (nI kn))]) hx hb d_Mo_wrongHead_220 hl (k := 1) rfl (show nI k9 + Int32.ofInt 1 = nI (k9 + 1) from (nI_add k9 1).trans (congrArg nI (by omega))) (by decide) rfl (fun ls hl => ?_)
                                refine lv_goto (tgt := 152) hx hb d_Mo_wrongHead_223 (by decide) ?_
                                exact ih_lk (k9 + 1) (by omega) (by omega) (by omega) (whV_ok hV (by omega) hc16 hc17) _ _ (S.sub [0, 1, 2, 3] (by decide) rfl) ls (lv_sub hl [0, 2, 3, 4, 5, 6, 7, 8] rfl)
                              · refine lv_iload_n hx hb d_Mo_wrongHead_213 rfl (lv_at hl 7 rfl) ?_
                                refine lv_iconst (v := 2) hx hb d_Mo_wrongHead_214 (by decide) ?_
                                refine z_iadd (x := nI at9) (y := 2) (v := nI (at9 + 2)) hx hb d_Mo_wrongHead_215 (nI_add at9 2) ?_
                                refine lv_iload hx hb d_Mo_wrongHead_216 (lv_at hl 1 rfl) ?_
                                refine z_iadd (x := nI (at9 + 2)) (y := nI k9) (v := nI (at9 + 2 + k9)) hx hb d_Mo_wrongHead_218 (nI_add (at9 + 2) k9) ?_
                                exact r_iret C K rfl () ⟨(congrArg bI (show wh (wdF wd f9) tk nf (ct f9) at9 kn = some (at9 + 2 + k9) from (wh_f ⟨hc1, fun q => absurd q (Int32.not_lt.mpr hc2), hc3, hc4, hc5⟩ (by omega) hc8).trans ((if_neg (fun q => q ⟨hg3, hg4⟩)).trans (by rw [hg2, nI_clamp (by omega)]; exact (whV_bad hV (by omega) (by omega) (Or.inr hc17)))))).symm, trivial⟩ (S.sub [3, 0, 1, 2] (by decide) rfl) d_Mo_wrongHead_219 (Nat.le_of_ble_eq_true rfl) (Nat.le_of_ble_eq_true rfl)
                          · refine lv_aload_n hx hb d_Mo_wrongHead_179 rfl (lv_at hl 4 rfl) ?_
                            refine r_get C K S 3 rfl rfl clOk_Mo 3 (by decide) wf_Mo_16 (v := .ref (ma 2)) rfl d_Mo_wrongHead_180 ?_
                            refine lv_iload_n hx hb d_Mo_wrongHead_183 rfl (lv_at hl 5 rfl) ?_
                            refine r_iald C K S 2 rfl (i := nI f9) (show vp_in (nI f9) _ from vp_in_nI (n := f9) (by omega) (by decide)) (v := nI (ct f9)) (by rw [nI_clamp (by omega)]) d_Mo_wrongHead_184 ?_
                            exact r_iret C K rfl () ⟨(congrArg bI (show wh (wdF wd f9) tk nf (ct f9) at9 kn = some (ct f9) from (wh_f ⟨hc1, fun q => absurd q (Int32.not_lt.mpr hc2), hc3, hc4, hc5⟩ (by omega) hc8).trans ((if_neg (fun q => q ⟨hg3, hg4⟩)).trans (by rw [hg2, nI_clamp (by omega)]; exact (whV_end hV (by omega) (by omega)))))).symm, trivial⟩ (S.sub [3, 0, 1, 2] (by decide) rfl) d_Mo_wrongHead_185 (Nat.le_of_ble_eq_true rfl) (Nat.le_of_ble_eq_true rfl)
                    exact lk _ 0 (Nat.lt_succ_self _) (by omega) (by omega) rfl _ _ (S.sub [0, 1, 2, 3] (by decide) rfl) ls (lv_sub hl [0, 1, 2, 3, 4, 5, 6, 7] rfl)
                  · refine lv_iload_n hx hb d_Mo_wrongHead_145 rfl (lv_at hl 5 rfl) ?_
                    refine lv_iconst (v := 1) hx hb d_Mo_wrongHead_146 (by decide) ?_
                    refine z_iadd (x := nI at9) (y := 1) (v := nI (at9 + 1)) hx hb d_Mo_wrongHead_147 (nI_add at9 1) ?_
                    exact r_iret C K rfl () ⟨(congrArg bI (show wh (wdF wd f9) tk nf (ct f9) at9 kn = some (at9 + 1) from (wh_f ⟨hc1, fun q => absurd q (Int32.not_lt.mpr hc2), hc3, hc4, hc5⟩ (by omega) hc8).trans (if_pos (isF_no hc13)))).symm, trivial⟩ (S.sub [3, 0, 1, 2] (by decide) rfl) d_Mo_wrongHead_148 (Nat.le_of_ble_eq_true rfl) (Nat.le_of_ble_eq_true rfl)
                · refine lv_iload hx hb d_Mo_wrongHead_117 (lv_at hl 0 rfl) ?_
                  refine lv_if_lt (tgt := 128) hx hb d_Mo_wrongHead_119 (by decide) (fun hc18 => ?_) (fun hc18 => ?_)
                  · refine lv_iload_n hx hb d_Mo_wrongHead_128 rfl (lv_at hl 5 rfl) ?_
                    refine lv_iconst (v := 1) hx hb d_Mo_wrongHead_129 (by decide) ?_
                    refine z_iadd (x := nI at9) (y := 1) (v := nI (at9 + 1)) hx hb d_Mo_wrongHead_130 (nI_add at9 1) ?_
                    refine lv_goto (tgt := 135) hx hb d_Mo_wrongHead_131 (by decide) ?_
                    exact r_iret C K rfl () ⟨(congrArg bI (show wh (wdF wd f9) tk nf (ct f9) at9 kn = some (at9 + 1) from (wh_e ⟨hc1, fun q => absurd q (Int32.not_lt.mpr hc2), hc3, hc4, hc5⟩ (by omega) hc7 hc8).trans (if_pos (Or.inl hc18)))).symm, trivial⟩ (S.sub [0, 1, 2, 3] (by decide) rfl) d_Mo_wrongHead_135 (Nat.le_of_ble_eq_true rfl) (Nat.le_of_ble_eq_true rfl)
                  · refine lv_iload hx hb d_Mo_wrongHead_122 (lv_at hl 0 rfl) ?_
                    refine lv_iload_n hx hb d_Mo_wrongHead_124 rfl (lv_at hl 6 rfl) ?_
                    refine lv_icmp_lt (tgt := 134) hx hb d_Mo_wrongHead_125 (by decide) (fun hc19 => ?_) (fun hc19 => ?_)
                    · refine lv_iconst (v := (-1)) hx hb d_Mo_wrongHead_134 (by decide) ?_
                      exact r_iret C K rfl () ⟨(congrArg bI (show wh (wdF wd f9) tk nf (ct f9) at9 kn = none from (wh_e ⟨hc1, fun q => absurd q (Int32.not_lt.mpr hc2), hc3, hc4, hc5⟩ (by omega) hc7 hc8).trans (if_neg (fun q => q.elim hc18 (fun z => z hc19))))).symm, trivial⟩ (S.sub [0, 1, 2, 3] (by decide) rfl) d_Mo_wrongHead_135 (Nat.le_of_ble_eq_true rfl) (Nat.le_of_ble_eq_true rfl)
                    · refine lv_iload_n hx hb d_Mo_wrongHead_128 rfl (lv_at hl 5 rfl) ?_
                      refine lv_iconst (v := 1) hx hb d_Mo_wrongHead_129 (by decide) ?_
                      refine z_iadd (x := nI at9) (y := 1) (v := nI (at9 + 1)) hx hb d_Mo_wrongHead_130 (nI_add at9 1) ?_
                      refine lv_goto (tgt := 135) hx hb d_Mo_wrongHead_131 (by decide) ?_
                      exact r_iret C K rfl () ⟨(congrArg bI (show wh (wdF wd f9) tk nf (ct f9) at9 kn = some (at9 + 1) from (wh_e ⟨hc1, fun q => absurd q (Int32.not_lt.mpr hc2), hc3, hc4, hc5⟩ (by omega) hc7 hc8).trans (if_pos (Or.inr hc19)))).symm, trivial⟩ (S.sub [0, 1, 2, 3] (by decide) rfl) d_Mo_wrongHead_135 (Nat.le_of_ble_eq_true rfl) (Nat.le_of_ble_eq_true rfl)
              · refine lv_iload hx hb d_Mo_wrongHead_90 (lv_at hl 0 rfl) ?_
                refine lv_if_lt (tgt := 103) hx hb d_Mo_wrongHead_92 (by decide) (fun hc20 => ?_) (fun hc20 => ?_)
                · refine lv_iload_n hx hb d_Mo_wrongHead_103 rfl (lv_at hl 5 rfl) ?_
                  refine lv_iconst (v := 1) hx hb d_Mo_wrongHead_104 (by decide) ?_
                  refine z_iadd (x := nI at9) (y := 1) (v := nI (at9 + 1)) hx hb d_Mo_wrongHead_105 (nI_add at9 1) ?_
                  refine lv_goto (tgt := 110) hx hb d_Mo_wrongHead_106 (by decide) ?_
                  exact r_iret C K rfl () ⟨(congrArg bI (show wh (wdF wd f9) tk nf (ct f9) at9 kn = some (at9 + 1) from (wh_d ⟨hc1, fun q => absurd q (Int32.not_lt.mpr hc2), hc3, hc4, hc5⟩ (by omega) hc7).trans (if_pos (Or.inl hc20)))).symm, trivial⟩ (S.sub [0, 1, 2, 3] (by decide) rfl) d_Mo_wrongHead_110 (Nat.le_of_ble_eq_true rfl) (Nat.le_of_ble_eq_true rfl)
                · refine lv_iload hx hb d_Mo_wrongHead_95 (lv_at hl 0 rfl) ?_
                  refine lv_sipush (v := 1000) hx hb d_Mo_wrongHead_97 (by decide) ?_
                  refine lv_icmp_le (tgt := 109) hx hb d_Mo_wrongHead_100 (by decide) (fun hc21 => ?_) (fun hc21 => ?_)
                  · refine lv_iconst (v := (-1)) hx hb d_Mo_wrongHead_109 (by decide) ?_
                    exact r_iret C K rfl () ⟨(congrArg bI (show wh (wdF wd f9) tk nf (ct f9) at9 kn = none from (wh_d ⟨hc1, fun q => absurd q (Int32.not_lt.mpr hc2), hc3, hc4, hc5⟩ (by omega) hc7).trans (if_neg (fun q => q.elim hc20 (fun z => absurd z (Int32.not_lt.mpr hc21)))))).symm, trivial⟩ (S.sub [0, 1, 2, 3] (by decide) rfl) d_Mo_wrongHead_110 (Nat.le_of_ble_eq_true rfl) (Nat.le_of_ble_eq_true rfl)
                  · refine lv_iload_n hx hb d_Mo_wrongHead_103 rfl (lv_at hl 5 rfl) ?_
                    refine lv_iconst (v := 1) hx hb d_Mo_wrongHead_104 (by decide) ?_
                    refine z_iadd (x := nI at9) (y := 1) (v := nI (at9 + 1)) hx hb d_Mo_wrongHead_105 (nI_add at9 1) ?_
                    refine lv_goto (tgt := 110) hx hb d_Mo_wrongHead_106 (by decide) ?_
                    exact r_iret C K rfl () ⟨(congrArg bI (show wh (wdF wd f9) tk nf (ct f9) at9 kn = some (at9 + 1) from (wh_d ⟨hc1, fun q => absurd q (Int32.not_lt.mpr hc2), hc3, hc4, hc5⟩ (by omega) hc7).trans (if_pos (Or.inr (Int32.not_le.mp hc21))))).symm, trivial⟩ (S.sub [0, 1, 2, 3] (by decide) rfl) d_Mo_wrongHead_110 (Nat.le_of_ble_eq_true rfl) (Nat.le_of_ble_eq_true rfl)
            · refine lv_aload_n hx hb d_Mo_wrongHead_64 rfl (lv_at hl 2 rfl) ?_
              refine r_get C K S 0 rfl rfl clOk_Mo 3 (by decide) wf_Mo_16 (v := .ref (ma 2)) rfl d_Mo_wrongHead_65 ?_
              refine lv_iload_n hx hb d_Mo_wrongHead_68 rfl (lv_at hl 3 rfl) ?_
              refine r_iald C K S 3 rfl (i := nI f9) (show vp_in (nI f9) _ from vp_in_nI (n := f9) (by omega) (by decide)) (v := nI (ct f9)) (by rw [nI_clamp (by omega)]) d_Mo_wrongHead_69 ?_
              exact r_iret C K rfl () ⟨(congrArg bI (show wh (wdF wd f9) tk nf (ct f9) at9 kn = some (ct f9) from wh_c ⟨hc1, fun q => absurd q (Int32.not_lt.mpr hc2), hc3, hc4, hc5⟩ (by omega))).symm, trivial⟩ (S.sub [0, 1, 2, 3] (by decide) rfl) d_Mo_wrongHead_70 (Nat.le_of_ble_eq_true rfl) (Nat.le_of_ble_eq_true rfl)
          · refine lv_iconst (v := (-1)) hx hb d_Mo_wrongHead_50 (by decide) ?_
            exact r_iret C K rfl () ⟨(congrArg bI (show wh (wdF wd f9) tk nf (ct f9) at9 kn = none from wh_b hc1 (Int32.not_lt.mpr hc2) (Or.inr (Or.inr hc5)))).symm, trivial⟩ (S.sub [0, 1, 2, 3] (by decide) rfl) d_Mo_wrongHead_51 (Nat.le_of_ble_eq_true rfl) (Nat.le_of_ble_eq_true rfl)
    · refine lv_iload_n hx hb d_Mo_wrongHead_30 rfl (lv_at hl 4 rfl) ?_
      exact r_iret C K rfl () ⟨(congrArg bI (show wh (wdF wd f9) tk nf (ct f9) at9 kn = some (at9) from wh_a (Or.inr (Int32.not_le.mp hc2)))).symm, trivial⟩ (S.sub [0, 1, 2, 3] (by decide) rfl) d_Mo_wrongHead_31 (Nat.le_of_ble_eq_true rfl) (Nat.le_of_ble_eq_true rfl)
end
section
/-- the nodes that wait, in the arrays -/
def stO : Stk → (Nat → Nat) → (Nat → Nat) → (Nat → Nat) → Prop
  | [], _, _, _ => True
  | (a, p, kn) :: st, OA, OP, OK => OA st.length = a ∧ OP st.length = p ∧ OK st.length = kn ∧ stO st OA OP OK
def stB (B : Nat) : Stk → Prop
  | [] => True
  | (a, p, _) :: st => a < 200 ∧ p ≤ B ∧ stB B st
def stT (B : Nat) : Stk → Prop
  | [] => True
  | (a, p, _) :: st => a < 200 ∧ p ≤ B + 1 ∧ stB B st
theorem stB_up {B C : Nat} (h : B ≤ C) : ∀ {st : Stk}, stB B st → stB C st
  | [], _ => trivial
  | (_, _, _) :: _, h2 => ⟨h2.1, Nat.le_trans h2.2.1 h, stB_up h h2.2.2⟩
theorem stT_of {B : Nat} : ∀ {st : Stk}, stB B st → stT B st
  | [], _ => trivial
  | (_, _, _) :: _, h2 => ⟨h2.1, by have := h2.2.1; omega, h2.2.2⟩
theorem stB_of {B : Nat} : ∀ {st : Stk}, stT B st → stB (B + 1) st
  | [], _ => trivial
  | (_, _, _) :: _, h2 => ⟨h2.1, h2.2.1, stB_up (Nat.le_succ _) h2.2.2⟩
def incS : Stk → Stk
  | [] => []
  | (a, p, kn) :: st => (a, p + 1, kn) :: st
theorem stO_congr {OA OP OK OA2 OP2 OK2 : Nat → Nat} : ∀ {st : Stk}, (∀ i, i < st.length → OA2 i = OA i ∧ OP2 i = OP i ∧ OK2 i = OK i) → stO st OA OP OK → stO st OA2 OP2 OK2
  | [], _, _ => trivial
  | (a, p, kn) :: st, h, h2 => by
    have h0 := h st.length (by simp)
    exact ⟨h0.1.trans h2.1, h0.2.1.trans h2.2.1, h0.2.2.trans h2.2.2.1, stO_congr (fun i hi => h i (by simp only [List.length_cons]; omega)) h2.2.2.2⟩
theorem ptN_le (o : Int32) : ptN o ≤ 2 := by
  unfold ptN
  split
  · omega
  · split <;> omega
theorem clo_step {W : Nat → Int32} {at9 a p kn : Nat} {st : Stk} {E : Nat → Nat} (h : p = ptN (W a)) : clo W at9 0 ((a, p, kn) :: st) E = clo W at9 0 (incS st) (va_up E a at9) := by
  rw [clo, Nat.add_zero, if_pos h]
  cases st with
  | nil => rfl
  | cons x r =>
    obtain ⟨a2, p2, k2⟩ := x
    rw [incS, clo, clo]
theorem clo_stop {W : Nat → Int32} {at9 a p kn : Nat} {st : Stk} {E : Nat → Nat} (h : ¬ p = ptN (W a)) : clo W at9 0 ((a, p, kn) :: st) E = ((a, p, kn) :: st, E) := by
  rw [clo, Nat.add_zero, if_neg h]
theorem enF_up (en : Nat → Nat) (f a v : Nat) : enF (va_up en (200 * f + a) v) f = va_up (enF en f) a v := by
  funext i
  unfold enF
  by_cases q : i = a
  · rw [q, va_up_self, va_up_self]
  · rw [va_up_ne _ _ q, va_up_ne _ _ (by omega)]
theorem d_Mo_close_0 : decode c_Mo_close 0 = .ok (.aload_n 0, 1) := by decide +kernel
theorem d_Mo_close_1 : decode c_Mo_close 1 = .ok (.getfield 118, 3) := by decide +kernel
theorem d_Mo_close_4 : decode c_Mo_close 4 = .ok (.ifCond .le 98, 3) := by decide +kernel
theorem d_Mo_close_7 : decode c_Mo_close 7 = .ok (.aload_n 0, 1) := by decide +kernel
theorem d_Mo_close_8 : decode c_Mo_close 8 = .ok (.getfield 29, 3) := by decide +kernel
theorem d_Mo_close_11 : decode c_Mo_close 11 = .ok (.aload_n 0, 1) := by decide +kernel
theorem d_Mo_close_12 : decode c_Mo_close 12 = .ok (.getfield 118, 3) := by decide +kernel
theorem d_Mo_close_15 : decode c_Mo_close 15 = .ok (.iconst 1, 1) := by decide +kernel
theorem d_Mo_close_16 : decode c_Mo_close 16 = .ok (.isub, 1) := by decide +kernel
theorem d_Mo_close_17 : decode c_Mo_close 17 = .ok (.iaload, 1) := by decide +kernel
theorem d_Mo_close_18 : decode c_Mo_close 18 = .ok (.aload_n 0, 1) := by decide +kernel
theorem d_Mo_close_19 : decode c_Mo_close 19 = .ok (.getfield 13, 3) := by decide +kernel
theorem d_Mo_close_22 : decode c_Mo_close 22 = .ok (.sipush 200, 3) := by decide +kernel
theorem d_Mo_close_25 : decode c_Mo_close 25 = .ok (.iload_n 1, 1) := by decide +kernel
theorem d_Mo_close_26 : decode c_Mo_close 26 = .ok (.imul, 1) := by decide +kernel
theorem d_Mo_close_27 : decode c_Mo_close 27 = .ok (.aload_n 0, 1) := by decide +kernel
theorem d_Mo_close_28 : decode c_Mo_close 28 = .ok (.getfield 26, 3) := by decide +kernel
theorem d_Mo_close_31 : decode c_Mo_close 31 = .ok (.aload_n 0, 1) := by decide +kernel
theorem d_Mo_close_32 : decode c_Mo_close 32 = .ok (.getfield 118, 3) := by decide +kernel
theorem d_Mo_close_35 : decode c_Mo_close 35 = .ok (.iconst 1, 1) := by decide +kernel
theorem d_Mo_close_36 : decode c_Mo_close 36 = .ok (.isub, 1) := by decide +kernel
theorem d_Mo_close_37 : decode c_Mo_close 37 = .ok (.iaload, 1) := by decide +kernel
theorem d_Mo_close_38 : decode c_Mo_close 38 = .ok (.iadd, 1) := by decide +kernel
theorem d_Mo_close_39 : decode c_Mo_close 39 = .ok (.iaload, 1) := by decide +kernel
theorem d_Mo_close_40 : decode c_Mo_close 40 = .ok (.invokestatic 137, 3) := by decide +kernel
theorem d_Mo_close_43 : decode c_Mo_close 43 = .ok (.if_icmp .ne 59, 3) := by decide +kernel
theorem d_Mo_close_46 : decode c_Mo_close 46 = .ok (.aload_n 0, 1) := by decide +kernel
theorem d_Mo_close_47 : decode c_Mo_close 47 = .ok (.dup, 1) := by decide +kernel
theorem d_Mo_close_48 : decode c_Mo_close 48 = .ok (.getfield 118, 3) := by decide +kernel
theorem d_Mo_close_51 : decode c_Mo_close 51 = .ok (.iconst 1, 1) := by decide +kernel
theorem d_Mo_close_52 : decode c_Mo_close 52 = .ok (.isub, 1) := by decide +kernel
theorem d_Mo_close_53 : decode c_Mo_close 53 = .ok (.putfield 118, 3) := by decide +kernel
theorem d_Mo_close_56 : decode c_Mo_close 56 = .ok (.aload_n 0, 1) := by decide +kernel
theorem d_Mo_close_57 : decode c_Mo_close 57 = .ok (.getfield 23, 3) := by decide +kernel
theorem d_Mo_close_60 : decode c_Mo_close 60 = .ok (.sipush 200, 3) := by decide +kernel
theorem d_Mo_close_63 : decode c_Mo_close 63 = .ok (.iload_n 1, 1) := by decide +kernel
theorem d_Mo_close_64 : decode c_Mo_close 64 = .ok (.imul, 1) := by decide +kernel
theorem d_Mo_close_65 : decode c_Mo_close 65 = .ok (.aload_n 0, 1) := by decide +kernel
theorem d_Mo_close_66 : decode c_Mo_close 66 = .ok (.getfield 26, 3) := by decide +kernel
theorem d_Mo_close_69 : decode c_Mo_close 69 = .ok (.aload_n 0, 1) := by decide +kernel
theorem d_Mo_close_70 : decode c_Mo_close 70 = .ok (.getfield 118, 3) := by decide +kernel
theorem d_Mo_close_73 : decode c_Mo_close 73 = .ok (.iaload, 1) := by decide +kernel
theorem d_Mo_close_74 : decode c_Mo_close 74 = .ok (.iadd, 1) := by decide +kernel
theorem d_Mo_close_75 : decode c_Mo_close 75 = .ok (.iload_n 2, 1) := by decide +kernel
theorem d_Mo_close_76 : decode c_Mo_close 76 = .ok (.iastore, 1) := by decide +kernel
theorem d_Mo_close_77 : decode c_Mo_close 77 = .ok (.aload_n 0, 1) := by decide +kernel
theorem d_Mo_close_78 : decode c_Mo_close 78 = .ok (.getfield 118, 3) := by decide +kernel
theorem d_Mo_close_81 : decode c_Mo_close 81 = .ok (.ifCond .le (-81), 3) := by decide +kernel
theorem d_Mo_close_84 : decode c_Mo_close 84 = .ok (.aload_n 0, 1) := by decide +kernel
theorem d_Mo_close_85 : decode c_Mo_close 85 = .ok (.getfield 29, 3) := by decide +kernel
theorem d_Mo_close_88 : decode c_Mo_close 88 = .ok (.aload_n 0, 1) := by decide +kernel
theorem d_Mo_close_89 : decode c_Mo_close 89 = .ok (.getfield 118, 3) := by decide +kernel
theorem d_Mo_close_92 : decode c_Mo_close 92 = .ok (.iconst 1, 1) := by decide +kernel
theorem d_Mo_close_93 : decode c_Mo_close 93 = .ok (.isub, 1) := by decide +kernel
theorem d_Mo_close_94 : decode c_Mo_close 94 = .ok (.dup2, 1) := by decide +kernel
theorem d_Mo_close_95 : decode c_Mo_close 95 = .ok (.iaload, 1) := by decide +kernel
theorem d_Mo_close_96 : decode c_Mo_close 96 = .ok (.iconst 1, 1) := by decide +kernel
theorem d_Mo_close_97 : decode c_Mo_close 97 = .ok (.iadd, 1) := by decide +kernel
theorem d_Mo_close_98 : decode c_Mo_close 98 = .ok (.iastore, 1) := by decide +kernel
theorem d_Mo_close_99 : decode c_Mo_close 99 = .ok (.goto (-99), 3) := by decide +kernel
theorem d_Mo_close_102 : decode c_Mo_close 102 = .ok (.aload_n 0, 1) := by decide +kernel
theorem d_Mo_close_103 : decode c_Mo_close 103 = .ok (.getfield 118, 3) := by decide +kernel
theorem d_Mo_close_106 : decode c_Mo_close 106 = .ok (.ifCond .ne 7, 3) := by decide +kernel
theorem d_Mo_close_109 : decode c_Mo_close 109 = .ok (.iconst 1, 1) := by decide +kernel
theorem d_Mo_close_110 : decode c_Mo_close 110 = .ok (.goto 4, 3) := by decide +kernel
theorem d_Mo_close_113 : decode c_Mo_close 113 = .ok (.iconst 0, 1) := by decide +kernel
theorem d_Mo_close_114 : decode c_Mo_close 114 = .ok (.ireturn, 1) := by decide +kernel
set_option maxRecDepth 100000 in
set_option maxHeartbeats 16000000 in
/-- close(f9, at9) -/
theorem g_Mo_close (l : Launch) (G : va_G) (k : Nat → ClassId) (h0 : Nat) (s0 : Nat) (f9 : Nat) (at9 : Nat) (B9 : Nat) (st : Stk) (ma : Nat → Nat) (iv : Nat → Int32) (co : Int64) (wd : Nat → Int32) (OA : Nat → Nat) (OP : Nat → Nat) (OK : Nat → Nat) (En : Nat → Nat) (hf : f9 < 4) (hat : at9 ≤ 200) (hst : stO st OA OP OK) (hsB : stB B9 st) (hB9 : B9 ≤ 100) (hln : st.length ≤ 18) : CI l y_Mo_close c_Mo_close 3 .boolean { frames := 1, cells := 0, slots := 0, locals := 20 } [.ref h0, .int (nI f9), .int (nI at9)] G k s0 [(h0, .inr (8, moL ma (va_up iv 2 (nI st.length)) co)), ((ma 1), .inl (k 0, 800, .inl wd)), ((ma 4), .inl (k 0, 20, .inl (fun i => nI (OA i)))), ((ma 5), .inl (k 0, 20, .inl (fun i => nI (OP i)))), ((ma 6), .inl (k 0, 20, .inl (fun i => nI (OK i)))), ((ma 3), .inl (k 0, 800, .inl (fun i => nI (En i))))] (fun (r : Int32) (u : (Nat → Nat) × (Nat → Nat) × Stk) => r = nI (if u.2.2 = [] then 1 else 0) ∧ clo (wdF wd f9) at9 0 st (enF En f9) = (u.2.2, enF u.2.1 f9) ∧ stO u.2.2 OA u.1 OK ∧ stB (B9 + 1) u.2.2 ∧ u.2.2.length ≤ st.length ∧ ∀ i, i < 200 * f9 ∨ 200 * f9 + 200 ≤ i → u.2.1 i = En i) (fun u => [(h0, .inr (8, moL ma (va_up iv 2 (nI u.2.2.length)) co)), ((ma 1), .inl (k 0, 800, .inl wd)), ((ma 4), .inl (k 0, 20, .inl (fun i => nI (OA i)))), ((ma 5), .inl (k 0, 20, .inl (fun i => nI (u.1 i)))), ((ma 6), .inl (k 0, 20, .inl (fun i => nI (OK i)))), ((ma 3), .inl (k 0, 800, .inl (fun i => nI (u.2.1 i))))]) 0 0 := by
  refine met_start (by decide) (Nat.le_of_ble_eq_true rfl) ?_
  intro p e s m below meth c C K hA hsz S ls hl
  generalize va_A [(h0, .inr (8, moL ma (va_up iv 2 (nI st.length)) co)), ((ma 1), .inl (k 0, 800, .inl wd)), ((ma 4), .inl (k 0, 20, .inl (fun i => nI (OA i)))), ((ma 5), .inl (k 0, 20, .inl (fun i => nI (OP i)))), ((ma 6), .inl (k 0, 20, .inl (fun i => nI (OK i)))), ((ma 3), .inl (k 0, 800, .inl (fun i => nI (En i))))] s0 = A at hA S ⊢
  have hx := C.1
  have hb := C.2.1
  have hl : lv_has ls 3 [(0, .ref h0), (1, .int (nI f9)), (2, .int (nI at9))] := hl
  have lp : ∀ d9, ∀ (st9 : Stk), ∀ (OP9 : Nat → Nat), ∀ (En9 : Nat → Nat), st9.length < d9 → (clo (wdF wd f9) at9 0 st9 (enF En9 f9) = clo (wdF wd f9) at9 0 st (enF En f9)) → (stO st9 OA OP9 OK) → (stT B9 st9) → (st9.length ≤ st.length) → (∀ i, i < 200 * f9 ∨ 200 * f9 + 200 ≤ i → En9 i = En i) → ∀ (H : Heap) (locs : List Loc), Sw G A s.heap H locs [(h0, .inr (8, moL ma (va_up iv 2 (nI st9.length)) co)), ((ma 1), .inl (k 0, 800, .inl wd)), ((ma 4), .inl (k 0, 20, .inl (fun i => nI (OA i)))), ((ma 5), .inl (k 0, 20, .inl (fun i => nI (OP9 i)))), ((ma 6), .inl (k 0, 20, .inl (fun i => nI (OK i)))), ((ma 3), .inl (k 0, 800, .inl (fun i => nI (En9 i))))] → ∀ ls : Array Slot, lv_has ls 3 [(0, .ref h0), (1, .int (nI f9)), (2, .int (nI at9))] → W p l e { frames := 1, cells := 0, slots := 0, locals := 20 } s m [Value.ref h0, Value.int (nI f9), Value.int (nI at9)].toArray below meth c H locs 0 0 (MQ below (va_Qi (fun (r : Int32) (u : (Nat → Nat) × (Nat → Nat) × Stk) => r = nI (if u.2.2 = [] then 1 else 0) ∧ clo (wdF wd f9) at9 0 st (enF En f9) = (u.2.2, enF u.2.1 f9) ∧ stO u.2.2 OA u.1 OK ∧ stB (B9 + 1) u.2.2 ∧ u.2.2.length ≤ st.length ∧ ∀ i, i < 200 * f9 ∨ 200 * f9 + 200 ≤ i → u.2.1 i = En i) (Po G k A (fun u => [(h0, .inr (8, moL ma (va_up iv 2 (nI u.2.2.length)) co)), ((ma 1), .inl (k 0, 800, .inl wd)), ((ma 4), .inl (k 0, 20, .inl (fun i => nI (OA i)))), ((ma 5), .inl (k 0, 20, .inl (fun i => nI (u.1 i)))), ((ma 6), .inl (k 0, 20, .inl (fun i => nI (OK i)))), ((ma 3), .inl (k 0, 800, .inl (fun i => nI (u.2.1 i))))])) A) [Value.ref h0, Value.int (nI f9), Value.int (nI at9)].toArray s 0 0 A) (F0 m 0 ls []) := by
    intro d9
    induction d9 with
    | zero => intro st9 OP9 En9 hm; exact absurd hm (Nat.not_lt_zero _)
    | succ d9 ih_lp =>
      intro st9 OP9 En9 hm hc9 hs9 hb9 hl9 ho9 H locs S ls hl
      refine lv_aload_n hx hb d_Mo_close_0 rfl (lv_at hl 0 rfl) ?_
      cases st9 with
      | nil =>
        have S : Sw G A s.heap H locs [(h0, .inr (8, moL ma (va_up iv 2 0) co)), ((ma 1), .inl (k 0, 800, .inl wd)), ((ma 4), .inl (k 0, 20, .inl (fun i => nI (OA i)))), ((ma 5), .inl (k 0, 20, .inl (fun i => nI (OP9 i)))), ((ma 6), .inl (k 0, 20, .inl (fun i => nI (OK i)))), ((ma 3), .inl (k 0, 800, .inl (fun i => nI (En9 i))))] := S
        refine r_get C K S 0 rfl rfl clOk_Mo 9 (by decide) wf_Mo_118 (v := .int 0) rfl d_Mo_close_1 ?_
        refine lv_if_le (tgt := 102) hx hb d_Mo_close_4 (by decide) (fun _ => ?_) (fun hq => absurd (by decide) hq)
        refine lv_aload_n hx hb d_Mo_close_102 rfl (lv_at hl 0 rfl) ?_
        refine r_get C K S 0 rfl rfl clOk_Mo 9 (by decide) wf_Mo_118 (v := .int 0) rfl d_Mo_close_103 ?_
        refine lv_if_ne (tgt := 113) hx hb d_Mo_close_106 (by decide) (fun hq => absurd (by decide) hq) (fun _ => ?_)
        refine lv_iconst (v := 1) hx hb d_Mo_close_109 (by decide) ?_
        refine lv_goto (tgt := 114) hx hb d_Mo_close_110 (by decide) ?_
        exact r_iret C K rfl (OP9, En9, []) ⟨rfl, by rw [← hc9]; rfl, trivial, trivial, Nat.zero_le _, ho9⟩ (S.sub [0, 1, 2, 3, 4, 5] (by decide) rfl) d_Mo_close_114 (Nat.le_of_ble_eq_true rfl) (Nat.le_of_ble_eq_true rfl)
      | cons x9 rs =>
        obtain ⟨a9, p9, kn9⟩ := x9
        have S : Sw G A s.heap H locs [(h0, .inr (8, moL ma (va_up iv 2 (nI (rs.length + 1))) co)), ((ma 1), .inl (k 0, 800, .inl wd)), ((ma 4), .inl (k 0, 20, .inl (fun i => nI (OA i)))), ((ma 5), .inl (k 0, 20, .inl (fun i => nI (OP9 i)))), ((ma 6), .inl (k 0, 20, .inl (fun i => nI (OK i)))), ((ma 3), .inl (k 0, 800, .inl (fun i => nI (En9 i))))] := S
        have hln9 : rs.length + 1 ≤ st.length := hl9
        obtain ⟨b1, b2, b4⟩ := hb9
        obtain ⟨t1, t2, t3, t4⟩ := hs9
        have hpt := ptN_le (wdF wd f9 a9)
        refine r_get C K S 0 rfl rfl clOk_Mo 9 (by decide) wf_Mo_118 (v := .int (nI (rs.length + 1))) rfl d_Mo_close_1 ?_
        refine z_if_le (a := (rs.length + 1)) (tgt := 102) hx hb d_Mo_close_4 (by decide) (by omega) (fun hc1 => ?_) (fun hc1 => ?_)
        · refine lv_aload_n hx hb d_Mo_close_102 rfl (lv_at hl 0 rfl) ?_
          refine r_get C K S 0 rfl rfl clOk_Mo 9 (by decide) wf_Mo_118 (v := .int (nI (rs.length + 1))) rfl d_Mo_close_103 ?_
          refine z_if_ne (a := (rs.length + 1)) (tgt := 113) hx hb d_Mo_close_106 (by decide) (by omega) (fun hc2 => ?_) (fun hc2 => False.elim (by omega))
          refine lv_iconst (v := 0) hx hb d_Mo_close_113 (by decide) ?_
          exact r_iret C K rfl (OP9, En9, (a9, p9, kn9) :: rs) ⟨rfl, by rw [← hc9]; exact clo_stop (by omega), ⟨t1, t2, t3, t4⟩, stB_of (B := B9) (st := (a9, p9, kn9) :: rs) ⟨b1, b2, b4⟩, hln9, ho9⟩ (S.sub [0, 1, 2, 3, 4, 5] (by decide) rfl) d_Mo_close_114 (Nat.le_of_ble_eq_true rfl) (Nat.le_of_ble_eq_true rfl)
        · refine lv_aload_n hx hb d_Mo_close_7 rfl (lv_at hl 0 rfl) ?_
          refine r_get C K S 0 rfl rfl clOk_Mo 7 (by decide) wf_Mo_29 (v := .ref (ma 5)) rfl d_Mo_close_8 ?_
          refine lv_aload_n hx hb d_Mo_close_11 rfl (lv_at hl 0 rfl) ?_
          refine r_get C K S 0 rfl rfl clOk_Mo 9 (by decide) wf_Mo_118 (v := .int (nI (rs.length + 1))) rfl d_Mo_close_12 ?_
          refine lv_iconst (v := 1) hx hb d_Mo_close_15 (by decide) ?_
          refine z_isub (x := nI (rs.length + 1)) (y := 1) (v := nI (rs.length + 1 - 1)) hx hb d_Mo_close_16 (pk_sub (a := (rs.length + 1)) (b := 1) (by omega)) ?_
          refine r_iald C K S 3 rfl (i := nI (rs.length + 1 - 1)) (show vp_in (nI (rs.length + 1 - 1)) _ from vp_in_nI (n := (rs.length + 1 - 1)) (by omega) (by decide)) (v := nI (OP9 (rs.length + 1 - 1))) (by rw [nI_clamp (by omega)]) d_Mo_close_17 ?_
          rw [show OP9 (rs.length + 1 - 1) = p9 from t2]
          refine lv_aload_n hx hb d_Mo_close_18 rfl (lv_at hl 0 rfl) ?_
          refine r_get C K S 0 rfl rfl clOk_Mo 2 (by decide) wf_Mo_13 (v := .ref (ma 1)) rfl d_Mo_close_19 ?_
          refine lv_sipush (v := 200) hx hb d_Mo_close_22 (by decide) ?_
          refine lv_iload_n hx hb d_Mo_close_25 rfl (lv_at hl 1 rfl) ?_
          refine z_imul (x := 200) (y := nI f9) (v := nI (200 * f9)) hx hb d_Mo_close_26 (pk_mul 200 f9) ?_
          refine lv_aload_n hx hb d_Mo_close_27 rfl (lv_at hl 0 rfl) ?_
          refine r_get C K S 0 rfl rfl clOk_Mo 6 (by decide) wf_Mo_26 (v := .ref (ma 4)) rfl d_Mo_close_28 ?_
          refine lv_aload_n hx hb d_Mo_close_31 rfl (lv_at hl 0 rfl) ?_
          refine r_get C K S 0 rfl rfl clOk_Mo 9 (by decide) wf_Mo_118 (v := .int (nI (rs.length + 1))) rfl d_Mo_close_32 ?_
          refine lv_iconst (v := 1) hx hb d_Mo_close_35 (by decide) ?_
          refine z_isub (x := nI (rs.length + 1)) (y := 1) (v := nI (rs.length + 1 - 1)) hx hb d_Mo_close_36 (pk_sub (a := (rs.length + 1)) (b := 1) (by omega)) ?_
          refine r_iald C K S 2 rfl (i := nI (rs.length + 1 - 1)) (show vp_in (nI (rs.length + 1 - 1)) _ from vp_in_nI (n := (rs.length + 1 - 1)) (by omega) (by decide)) (v := nI (OA (rs.length + 1 - 1))) (by rw [nI_clamp (by omega)]) d_Mo_close_37 ?_
          rw [show OA (rs.length + 1 - 1) = a9 from t1]
          refine z_iadd (x := nI (200 * f9)) (y := nI a9) (v := nI (200 * f9 + a9)) hx hb d_Mo_close_38 (nI_add (200 * f9) a9) ?_
          refine r_iald C K S 1 rfl (i := nI (200 * f9 + a9)) (show vp_in (nI (200 * f9 + a9)) _ from vp_in_nI (n := (200 * f9 + a9)) (by omega) (by decide)) (v := wdF wd f9 a9) (by rw [nI_clamp (by omega)]; exact (show wd (200 * f9 + a9) = wd (200 * f9 + a9) from congrArg wd (by omega))) d_Mo_close_39 ?_
          refine r_backi (wi := []) (wr := [(h0, .inr (8, moL ma (va_up iv 2 (nI (rs.length + 1))) co)), ((ma 1), .inl (k 0, 800, .inl wd)), ((ma 4), .inl (k 0, 20, .inl (fun i => nI (OA i)))), ((ma 5), .inl (k 0, 20, .inl (fun i => nI (OP9 i)))), ((ma 6), .inl (k 0, 20, .inl (fun i => nI (OK i)))), ((ma 3), .inl (k 0, 800, .inl (fun i => nI (En9 i))))]) S hA [] [0, 1, 2, 3, 4, 5] rfl rfl (by decide) (by decide) (va_runS (As := [.int (wdF wd f9 a9)]) (rest := [.int (nI p9)]) ⟨hx, hb, C.2.2.1, C.2.2.2.1, C.2.2.2.2.1⟩ (g_Mo_partsOf l G k _ (wdF wd f9 a9)) (k_stat (n := 1) C wc_Mo_partsOf rfl rfl wz_Mo wm_Mo_137 wt_Mo_partsOf (by decide +kernel) ⟨(Nat.le_of_ble_eq_true rfl), (Nat.le_of_ble_eq_true rfl)⟩) (pr_now K S [] (by decide) rfl) rfl rfl hl.1 rfl (lv_room (Nat.le_of_ble_eq_true rfl)) d_Mo_close_40 ⟨(Nat.le_of_ble_eq_true rfl), (Nat.le_of_ble_eq_true rfl)⟩) (fun r5 u3 H locs hw4 S => ?_)
          have S : Sw G A s.heap _ _ [(h0, .inr (8, moL ma (va_up iv 2 (nI (rs.length + 1))) co)), ((ma 1), .inl (k 0, 800, .inl wd)), ((ma 4), .inl (k 0, 20, .inl (fun i => nI (OA i)))), ((ma 5), .inl (k 0, 20, .inl (fun i => nI (OP9 i)))), ((ma 6), .inl (k 0, 20, .inl (fun i => nI (OK i)))), ((ma 3), .inl (k 0, 800, .inl (fun i => nI (En9 i))))] := S
          obtain ⟨hw40, hp6⟩ := hw4
          obtain rfl : r5 = nI (ptN (wdF wd f9 a9)) := hw40
          refine z_icmp_ne (a := p9) (b := (ptN (wdF wd f9 a9))) (tgt := 102) hx hb d_Mo_close_43 (by decide) (by omega) (by omega) (fun hc7 => ?_) (fun hc7 => ?_)
          · refine lv_aload_n hx hb d_Mo_close_102 rfl (lv_at hl 0 rfl) ?_
            refine r_get C K S 0 rfl rfl clOk_Mo 9 (by decide) wf_Mo_118 (v := .int (nI (rs.length + 1))) rfl d_Mo_close_103 ?_
            refine z_if_ne (a := (rs.length + 1)) (tgt := 113) hx hb d_Mo_close_106 (by decide) (by omega) (fun hc8 => ?_) (fun hc8 => False.elim (by omega))
            refine lv_iconst (v := 0) hx hb d_Mo_close_113 (by decide) ?_
            exact r_iret C K rfl (OP9, En9, (a9, p9, kn9) :: rs) ⟨rfl, by rw [← hc9]; exact clo_stop (by omega), ⟨t1, t2, t3, t4⟩, stB_of (B := B9) (st := (a9, p9, kn9) :: rs) ⟨b1, b2, b4⟩, hln9, ho9⟩ (S.sub [0, 1, 2, 3, 4, 5] (by decide) rfl) d_Mo_close_114 (Nat.le_of_ble_eq_true rfl) (Nat.le_of_ble_eq_true rfl)
          · refine lv_aload_n hx hb d_Mo_close_46 rfl (lv_at hl 0 rfl) ?_
            refine lv_dup hx hb d_Mo_close_47 rfl ?_
            refine r_get C K S 0 rfl rfl clOk_Mo 9 (by decide) wf_Mo_118 (v := .int (nI (rs.length + 1))) rfl d_Mo_close_48 ?_
            refine lv_iconst (v := 1) hx hb d_Mo_close_51 (by decide) ?_
            refine z_isub (x := nI (rs.length + 1)) (y := 1) (v := nI (rs.length + 1 - 1)) hx hb d_Mo_close_52 (pk_sub (a := (rs.length + 1)) (b := 1) (by omega)) ?_
            refine r_put C K S 0 rfl rfl clOk_Mo 9 (by decide) wf_Mo_118 rfl (ty := .int) (v := .int (nI (rs.length + 1 - 1))) (by decide +kernel) rfl rfl (Nat.le_of_ble_eq_true rfl) (fs' := moL ma (va_up iv 2 (nI (rs.length + 1 - 1))) co) (ws' := [(h0, .inr (8, moL ma (va_up iv 2 (nI (rs.length + 1 - 1))) co)), ((ma 1), .inl (k 0, 800, .inl wd)), ((ma 4), .inl (k 0, 20, .inl (fun i => nI (OA i)))), ((ma 5), .inl (k 0, 20, .inl (fun i => nI (OP9 i)))), ((ma 6), .inl (k 0, 20, .inl (fun i => nI (OK i)))), ((ma 3), .inl (k 0, 800, .inl (fun i => nI (En9 i))))]) rfl rfl d_Mo_close_53 (fun H locs S => ?_)
            have S : Sw G A s.heap H locs [(h0, .inr (8, moL ma (va_up iv 2 (nI rs.length)) co)), ((ma 1), .inl (k 0, 800, .inl wd)), ((ma 4), .inl (k 0, 20, .inl (fun i => nI (OA i)))), ((ma 5), .inl (k 0, 20, .inl (fun i => nI (OP9 i)))), ((ma 6), .inl (k 0, 20, .inl (fun i => nI (OK i)))), ((ma 3), .inl (k 0, 800, .inl (fun i => nI (En9 i))))] := S
            refine lv_aload_n hx hb d_Mo_close_56 rfl (lv_at hl 0 rfl) ?_
            refine r_get C K S 0 rfl rfl clOk_Mo 5 (by decide) wf_Mo_23 (v := .ref (ma 3)) rfl d_Mo_close_57 ?_
            refine lv_sipush (v := 200) hx hb d_Mo_close_60 (by decide) ?_
            refine lv_iload_n hx hb d_Mo_close_63 rfl (lv_at hl 1 rfl) ?_
            refine z_imul (x := 200) (y := nI f9) (v := nI (200 * f9)) hx hb d_Mo_close_64 (pk_mul 200 f9) ?_
            refine lv_aload_n hx hb d_Mo_close_65 rfl (lv_at hl 0 rfl) ?_
            refine r_get C K S 0 rfl rfl clOk_Mo 6 (by decide) wf_Mo_26 (v := .ref (ma 4)) rfl d_Mo_close_66 ?_
            refine lv_aload_n hx hb d_Mo_close_69 rfl (lv_at hl 0 rfl) ?_
            refine r_get C K S 0 rfl rfl clOk_Mo 9 (by decide) wf_Mo_118 (v := .int (nI rs.length)) rfl d_Mo_close_70 ?_
            refine r_iald C K S 2 rfl (i := nI rs.length) (show vp_in (nI rs.length) _ from vp_in_nI (n := rs.length) (by omega) (by decide)) (v := nI (OA rs.length)) (by rw [nI_clamp (by omega)]) d_Mo_close_73 ?_
            rw [show OA rs.length = a9 from t1]
            refine z_iadd (x := nI (200 * f9)) (y := nI a9) (v := nI (200 * f9 + a9)) hx hb d_Mo_close_74 (nI_add (200 * f9) a9) ?_
            refine lv_iload_n hx hb d_Mo_close_75 rfl (lv_at hl 2 rfl) ?_
            refine r_iast C K S 5 rfl (i := nI (200 * f9 + a9)) (x := nI at9) (show vp_in (nI (200 * f9 + a9)) _ from vp_in_nI (n := (200 * f9 + a9)) (by omega) (by decide)) (f' := fun i => nI (va_up En9 (200 * f9 + a9) at9 i)) (ws' := [(h0, .inr (8, moL ma (va_up iv 2 (nI rs.length)) co)), ((ma 1), .inl (k 0, 800, .inl wd)), ((ma 4), .inl (k 0, 20, .inl (fun i => nI (OA i)))), ((ma 5), .inl (k 0, 20, .inl (fun i => nI (OP9 i)))), ((ma 6), .inl (k 0, 20, .inl (fun i => nI (OK i)))), ((ma 3), .inl (k 0, 800, .inl (fun i => nI (va_up En9 (200 * f9 + a9) at9 i))))]) (show upd _ (nI (200 * f9 + a9) : Int32).toNatClampNeg (nI at9) = _ from upd_nI En9 (j := (200 * f9 + a9)) (by omega) at9) rfl d_Mo_close_76 (fun H locs S => ?_)
            have hc8 := (clo_step (W := (wdF wd f9)) (at9 := at9) (kn := kn9) (st := rs) (E := enF En9 f9) (show p9 = _ by omega)).symm.trans hc9
            rw [← enF_up] at hc8
            have ho8 : ∀ i, i < 200 * f9 ∨ 200 * f9 + 200 ≤ i → va_up En9 (200 * f9 + a9) at9 i = En i := fun i hi => by rw [va_up_ne _ _ (by omega)]; exact ho9 i hi
            cases rs with
            | nil =>
              have S : Sw G A s.heap H locs [(h0, .inr (8, moL ma (va_up iv 2 0) co)), ((ma 1), .inl (k 0, 800, .inl wd)), ((ma 4), .inl (k 0, 20, .inl (fun i => nI (OA i)))), ((ma 5), .inl (k 0, 20, .inl (fun i => nI (OP9 i)))), ((ma 6), .inl (k 0, 20, .inl (fun i => nI (OK i)))), ((ma 3), .inl (k 0, 800, .inl (fun i => nI (va_up En9 (200 * f9 + a9) at9 i))))] := S
              refine lv_aload_n hx hb d_Mo_close_77 rfl (lv_at hl 0 rfl) ?_
              refine r_get C K S 0 rfl rfl clOk_Mo 9 (by decide) wf_Mo_118 (v := .int 0) rfl d_Mo_close_78 ?_
              refine lv_if_le (tgt := 0) hx hb d_Mo_close_81 (by decide) (fun _ => ?_) (fun hq => absurd (by decide) hq)
              exact ih_lp ([]) OP9 (va_up En9 (200 * f9 + a9) at9) (by show 0 < d9; have : 0 + 1 < d9 + 1 := hm; omega) hc8 trivial trivial (Nat.zero_le _) ho8 _ _ (S.sub [0, 1, 2, 3, 4, 5] (by decide) rfl) ls (lv_sub hl [0, 1, 2] rfl)
            | cons x8 r2 =>
              obtain ⟨a8, p8, kn8⟩ := x8
              obtain ⟨d1, d2, d4⟩ := b4
              obtain ⟨v1, v2, v3, v4⟩ := t4
              have hln8 : r2.length + 1 + 1 ≤ st.length := hln9
              have S : Sw G A s.heap H locs [(h0, .inr (8, moL ma (va_up iv 2 (nI (r2.length + 1))) co)), ((ma 1), .inl (k 0, 800, .inl wd)), ((ma 4), .inl (k 0, 20, .inl (fun i => nI (OA i)))), ((ma 5), .inl (k 0, 20, .inl (fun i => nI (OP9 i)))), ((ma 6), .inl (k 0, 20, .inl (fun i => nI (OK i)))), ((ma 3), .inl (k 0, 800, .inl (fun i => nI (va_up En9 (200 * f9 + a9) at9 i))))] := S
              refine lv_aload_n hx hb d_Mo_close_77 rfl (lv_at hl 0 rfl) ?_
              refine r_get C K S 0 rfl rfl clOk_Mo 9 (by decide) wf_Mo_118 (v := .int (nI (r2.length + 1))) rfl d_Mo_close_78 ?_
              refine z_if_le (a := (r2.length + 1)) (tgt := 0) hx hb d_Mo_close_81 (by decide) (by omega) (fun hc9 => False.elim (by omega)) (fun hc9 => ?_)
              refine lv_aload_n hx hb d_Mo_close_84 rfl (lv_at hl 0 rfl) ?_
              refine r_get C K S 0 rfl rfl clOk_Mo 7 (by decide) wf_Mo_29 (v := .ref (ma 5)) rfl d_Mo_close_85 ?_
              refine lv_aload_n hx hb d_Mo_close_88 rfl (lv_at hl 0 rfl) ?_
              refine r_get C K S 0 rfl rfl clOk_Mo 9 (by decide) wf_Mo_118 (v := .int (nI (r2.length + 1))) rfl d_Mo_close_89 ?_
              refine lv_iconst (v := 1) hx hb d_Mo_close_92 (by decide) ?_
              refine z_isub (x := nI (r2.length + 1)) (y := 1) (v := nI (r2.length + 1 - 1)) hx hb d_Mo_close_93 (pk_sub (a := (r2.length + 1)) (b := 1) (by omega)) ?_
              refine lv_dup2_11 hx hb d_Mo_close_94 rfl rfl ?_
              refine r_iald C K S 3 rfl (i := nI (r2.length + 1 - 1)) (show vp_in (nI (r2.length + 1 - 1)) _ from vp_in_nI (n := (r2.length + 1 - 1)) (by omega) (by decide)) (v := nI (OP9 (r2.length + 1 - 1))) (by rw [nI_clamp (by omega)]) d_Mo_close_95 ?_
              rw [show OP9 (r2.length + 1 - 1) = p8 from v2]
              refine lv_iconst (v := 1) hx hb d_Mo_close_96 (by decide) ?_
              refine z_iadd (x := nI p8) (y := 1) (v := nI (p8 + 1)) hx hb d_Mo_close_97 (nI_add p8 1) ?_
              refine r_iast C K S 3 rfl (i := nI (r2.length + 1 - 1)) (x := nI (p8 + 1)) (show vp_in (nI (r2.length + 1 - 1)) _ from vp_in_nI (n := (r2.length + 1 - 1)) (by omega) (by decide)) (f' := fun i => nI (va_up OP9 (r2.length + 1 - 1) (p8 + 1) i)) (ws' := [(h0, .inr (8, moL ma (va_up iv 2 (nI (r2.length + 1))) co)), ((ma 1), .inl (k 0, 800, .inl wd)), ((ma 4), .inl (k 0, 20, .inl (fun i => nI (OA i)))), ((ma 5), .inl (k 0, 20, .inl (fun i => nI (va_up OP9 (r2.length + 1 - 1) (p8 + 1) i)))), ((ma 6), .inl (k 0, 20, .inl (fun i => nI (OK i)))), ((ma 3), .inl (k 0, 800, .inl (fun i => nI (va_up En9 (200 * f9 + a9) at9 i))))]) (show upd _ (nI (r2.length + 1 - 1) : Int32).toNatClampNeg (nI (p8 + 1)) = _ from upd_nI OP9 (j := (r2.length + 1 - 1)) (by omega) (p8 + 1)) rfl d_Mo_close_98 (fun H locs S => ?_)
              refine lv_goto (tgt := 0) hx hb d_Mo_close_99 (by decide) ?_
              exact ih_lp ((a8, p8 + 1, kn8) :: r2) (va_up OP9 (r2.length + 1 - 1) (p8 + 1)) (va_up En9 (200 * f9 + a9) at9) (by show r2.length + 1 < d9; have : r2.length + 1 + 1 < d9 + 1 := hm; omega) hc8 ⟨v1, va_up_self _ _ _, v3, stO_congr (fun i hi => ⟨rfl, va_up_ne _ _ (show i ≠ r2.length by omega), rfl⟩) v4⟩ ⟨d1, by omega, d4⟩ (show r2.length + 1 ≤ st.length by omega) ho8 _ _ (S.sub [0, 1, 2, 3, 4, 5] (by decide) rfl) ls (lv_sub hl [0, 1, 2] rfl)
  exact lp _ st OP En (Nat.lt_succ_self _) rfl hst (stT_of hsB) (Nat.le_refl _) (fun _ _ => rfl) _ _ (S.sub [0, 1, 2, 3, 4, 5] (by decide) rfl) ls (lv_sub hl [0, 1, 2] rfl)
end
