/-- the words of one function; where its expressions end -/
def wdF (wd : Nat → Int32) (f : Nat) : Nat → Int32 := fun p => wd (200 * f + p)
def enF (en : Nat → Nat) (f : Nat) : Nat → Nat := fun p => en (200 * f + p)
theorem hdN_1 {W : Nat → Int32} {tk : Nat → Nat} {p : Nat} (h : W p = 0 ∨ W p = 2 ∨ W p = 6) : hdN W tk p = 1 := if_pos h
theorem hdN_5 {W : Nat → Int32} {tk : Nat → Nat} {p g : Nat} (h : W p = 5) (h2 : W (p + 1) = nI g) (hg : g < 4) : hdN W tk p = 2 + tk g := by
  unfold hdN
  rw [if_neg (by rw [h]; decide), if_pos h, h2, nI_clamp (by omega)]
theorem hdN_2 {W : Nat → Int32} {tk : Nat → Nat} {p : Nat} (h0 : ¬ W p = 0) (h2 : ¬ W p = 2) (h6 : ¬ W p = 6) (h5 : ¬ W p = 5) : hdN W tk p = 2 := by
  unfold hdN
  rw [if_neg (by intro q; rcases q with q | q | q; exact h0 q; exact h2 q; exact h6 q), if_neg h5]
theorem pt_2 {o : Int32} (h : o = 3 ∨ o = 6) : ptN o = 2 := if_pos h
theorem pt_1 {o : Int32} (h3 : ¬ o = 3) (h6 : ¬ o = 6) (h : o = 2 ∨ o = 4) : ptN o = 1 := by
  unfold ptN
  rw [if_neg (by intro q; rcases q with q | q; exact h3 q; exact h6 q), if_pos h]
theorem pt_0 {o : Int32} (h3 : ¬ o = 3) (h6 : ¬ o = 6) (h2 : ¬ o = 2) (h4 : ¬ o = 4) : ptN o = 0 := by
  unfold ptN
  rw [if_neg (by intro q; rcases q with q | q; exact h3 q; exact h6 q), if_neg (by intro q; rcases q with q | q; exact h2 q; exact h4 q)]
section WH
variable {W : Nat → Int32} {tk : Nat → Nat} {nf cnt p kn : Nat}
theorem wh_a (h : W p < 0 ∨ 6 < W p) : wh W tk nf cnt p kn = some p := if_pos h
theorem wh_b (h0 : ¬ W p < 0) (h1 : ¬ 6 < W p) (h : W p = 0 ∨ W p = 2 ∨ W p = 6) : wh W tk nf cnt p kn = none := by
  unfold wh
  rw [if_neg (fun q => q.elim h0 h1), if_pos h]
def wh0 (W : Nat → Int32) (p : Nat) : Prop := ¬ W p < 0 ∧ ¬ 6 < W p ∧ ¬ W p = 0 ∧ ¬ W p = 2 ∧ ¬ W p = 6
theorem wh_c (h : wh0 W p) (h1 : p + 1 = cnt) : wh W tk nf cnt p kn = some cnt := by
  unfold wh
  rw [if_neg (fun q => q.elim h.1 h.2.1), if_neg (fun q => by rcases q with q | q | q; exact h.2.2.1 q; exact h.2.2.2.1 q; exact h.2.2.2.2 q), if_pos h1]
theorem wh_d (h : wh0 W p) (h1 : ¬ p + 1 = cnt) (h4 : W p = 4) : wh W tk nf cnt p kn = if W (p + 1) < 0 ∨ 1000 < W (p + 1) then some (p + 1) else none := by
  unfold wh
  rw [if_neg (fun q => q.elim h.1 h.2.1), if_neg (fun q => by rcases q with q | q | q; exact h.2.2.1 q; exact h.2.2.2.1 q; exact h.2.2.2.2 q), if_neg h1, if_pos h4]
theorem wh_e (h : wh0 W p) (h1 : ¬ p + 1 = cnt) (h4 : ¬ W p = 4) (h5 : ¬ W p = 5) : wh W tk nf cnt p kn = if W (p + 1) < 0 ∨ ¬ W (p + 1) < nI kn then some (p + 1) else none := by
  unfold wh
  rw [if_neg (fun q => q.elim h.1 h.2.1), if_neg (fun q => by rcases q with q | q | q; exact h.2.2.1 q; exact h.2.2.2.1 q; exact h.2.2.2.2 q), if_neg h1, if_neg h4, if_pos h5]
theorem wh_f (h : wh0 W p) (h1 : ¬ p + 1 = cnt) (h5 : W p = 5) : wh W tk nf cnt p kn = if ¬ (0 ≤ W (p + 1) ∧ W (p + 1) < nI nf) then some (p + 1) else whV W cnt kn p (tk (W (p + 1)).toNatClampNeg) := by
  unfold wh
  rw [if_neg (fun q => q.elim h.1 h.2.1), if_neg (fun q => by rcases q with q | q | q; exact h.2.2.1 q; exact h.2.2.2.1 q; exact h.2.2.2.2 q), if_neg h1, if_neg (by rw [h5]; decide), if_neg (fun q => q h5)]
theorem whV_some {k b : Nat} (h : whV W cnt kn p k = some b) : ∀ d, whV W cnt kn p (k + d) = some b
  | 0 => h
  | d + 1 => by rw [← Nat.add_assoc, whV, whV_some h d]
theorem whV_end {k n : Nat} (h : whV W cnt kn p k = none) (hk : k < n) (he : p + 2 + k = cnt) : whV W cnt kn p n = some cnt := by
  obtain ⟨d, rfl⟩ : ∃ d, n = k + 1 + d := ⟨n - (k + 1), by omega⟩
  refine whV_some ?_ d
  rw [whV, h]
  exact if_pos he
theorem whV_bad {k n : Nat} (h : whV W cnt kn p k = none) (hk : k < n) (he : ¬ p + 2 + k = cnt) (hb : W (p + 2 + k) < 0 ∨ ¬ W (p + 2 + k) < nI kn) : whV W cnt kn p n = some (p + 2 + k) := by
  obtain ⟨d, rfl⟩ : ∃ d, n = k + 1 + d := ⟨n - (k + 1), by omega⟩
  refine whV_some ?_ d
  rw [whV, h]
  exact (if_neg he).trans (if_pos hb)
theorem whV_ok {k : Nat} (h : whV W cnt kn p k = none) (he : ¬ p + 2 + k = cnt) (h1 : ¬ W (p + 2 + k) < 0) (h2 : W (p + 2 + k) < nI kn) : whV W cnt kn p (k + 1) = none := by
  rw [whV, h]
  exact (if_neg he).trans (if_neg (fun q => q.elim h1 (fun w => w h2)))
end WH
theorem isF_of {nf : Nat} {v : Int32} (hnf : nf ≤ 4) (h : ¬ isF (nI nf) v = 0) : ∃ g, g < nf ∧ v = nI g ∧ 0 ≤ v ∧ v < nI nf := by
  unfold isF at h
  by_cases q : v < 0
  · rw [if_pos q] at h; exact absurd rfl h
  · rw [if_neg q] at h
    by_cases w : nI nf ≤ v
    · rw [if_pos w] at h; exact absurd rfl h
    · exact ⟨v.toNatClampNeg, nn_lt q (by omega) (Int32.not_le.mp w), (nn_of q).symm, Int32.not_lt.mp q, Int32.not_le.mp w⟩
theorem isF_no {nf : Nat} {v : Int32} (h : isF (nI nf) v = 0) : ¬ (0 ≤ v ∧ v < nI nf) := by
  intro ⟨q1, q2⟩
  unfold isF at h
  rw [if_neg (Int32.not_lt.mpr q1), if_neg (Int32.not_le.mpr q2)] at h
  exact absurd h (by decide)
theorem d_Mo_headOf_0 : decode c_Mo_headOf 0 = .ok (.aload_n 0, 1) := by decide +kernel
theorem d_Mo_headOf_1 : decode c_Mo_headOf 1 = .ok (.getfield 13, 3) := by decide +kernel
theorem d_Mo_headOf_4 : decode c_Mo_headOf 4 = .ok (.sipush 200, 3) := by decide +kernel
theorem d_Mo_headOf_7 : decode c_Mo_headOf 7 = .ok (.iload_n 1, 1) := by decide +kernel
theorem d_Mo_headOf_8 : decode c_Mo_headOf 8 = .ok (.imul, 1) := by decide +kernel
theorem d_Mo_headOf_9 : decode c_Mo_headOf 9 = .ok (.iload_n 2, 1) := by decide +kernel
theorem d_Mo_headOf_10 : decode c_Mo_headOf 10 = .ok (.iadd, 1) := by decide +kernel
theorem d_Mo_headOf_11 : decode c_Mo_headOf 11 = .ok (.iaload, 1) := by decide +kernel
theorem d_Mo_headOf_12 : decode c_Mo_headOf 12 = .ok (.istore_n 3, 1) := by decide +kernel
theorem d_Mo_headOf_13 : decode c_Mo_headOf 13 = .ok (.iload_n 3, 1) := by decide +kernel
theorem d_Mo_headOf_14 : decode c_Mo_headOf 14 = .ok (.ifCond .eq 14, 3) := by decide +kernel
theorem d_Mo_headOf_17 : decode c_Mo_headOf 17 = .ok (.iload_n 3, 1) := by decide +kernel
theorem d_Mo_headOf_18 : decode c_Mo_headOf 18 = .ok (.iconst 2, 1) := by decide +kernel
theorem d_Mo_headOf_19 : decode c_Mo_headOf 19 = .ok (.if_icmp .eq 9, 3) := by decide +kernel
theorem d_Mo_headOf_22 : decode c_Mo_headOf 22 = .ok (.iload_n 3, 1) := by decide +kernel
theorem d_Mo_headOf_23 : decode c_Mo_headOf 23 = .ok (.bipush 6, 2) := by decide +kernel
theorem d_Mo_headOf_25 : decode c_Mo_headOf 25 = .ok (.if_icmp .ne 7, 3) := by decide +kernel
theorem d_Mo_headOf_28 : decode c_Mo_headOf 28 = .ok (.iconst 1, 1) := by decide +kernel
theorem d_Mo_headOf_29 : decode c_Mo_headOf 29 = .ok (.goto 33, 3) := by decide +kernel
theorem d_Mo_headOf_32 : decode c_Mo_headOf 32 = .ok (.iload_n 3, 1) := by decide +kernel
theorem d_Mo_headOf_33 : decode c_Mo_headOf 33 = .ok (.iconst 5, 1) := by decide +kernel
theorem d_Mo_headOf_34 : decode c_Mo_headOf 34 = .ok (.if_icmp .ne 27, 3) := by decide +kernel
theorem d_Mo_headOf_37 : decode c_Mo_headOf 37 = .ok (.iconst 2, 1) := by decide +kernel
theorem d_Mo_headOf_38 : decode c_Mo_headOf 38 = .ok (.aload_n 0, 1) := by decide +kernel
theorem d_Mo_headOf_39 : decode c_Mo_headOf 39 = .ok (.getfield 9, 3) := by decide +kernel
theorem d_Mo_headOf_42 : decode c_Mo_headOf 42 = .ok (.aload_n 0, 1) := by decide +kernel
theorem d_Mo_headOf_43 : decode c_Mo_headOf 43 = .ok (.getfield 13, 3) := by decide +kernel
theorem d_Mo_headOf_46 : decode c_Mo_headOf 46 = .ok (.sipush 200, 3) := by decide +kernel
theorem d_Mo_headOf_49 : decode c_Mo_headOf 49 = .ok (.iload_n 1, 1) := by decide +kernel
theorem d_Mo_headOf_50 : decode c_Mo_headOf 50 = .ok (.imul, 1) := by decide +kernel
theorem d_Mo_headOf_51 : decode c_Mo_headOf 51 = .ok (.iload_n 2, 1) := by decide +kernel
theorem d_Mo_headOf_52 : decode c_Mo_headOf 52 = .ok (.iadd, 1) := by decide +kernel
theorem d_Mo_headOf_53 : decode c_Mo_headOf 53 = .ok (.iconst 1, 1) := by decide +kernel
theorem d_Mo_headOf_54 : decode c_Mo_headOf 54 = .ok (.iadd, 1) := by decide +kernel
theorem d_Mo_headOf_55 : decode c_Mo_headOf 55 = .ok (.iaload, 1) := by decide +kernel
theorem d_Mo_headOf_56 : decode c_Mo_headOf 56 = .ok (.iaload, 1) := by decide +kernel
theorem d_Mo_headOf_57 : decode c_Mo_headOf 57 = .ok (.iadd, 1) := by decide +kernel
theorem d_Mo_headOf_58 : decode c_Mo_headOf 58 = .ok (.goto 4, 3) := by decide +kernel
theorem d_Mo_headOf_61 : decode c_Mo_headOf 61 = .ok (.iconst 2, 1) := by decide +kernel
theorem d_Mo_headOf_62 : decode c_Mo_headOf 62 = .ok (.ireturn, 1) := by decide +kernel
set_option maxRecDepth 100000 in
set_option maxHeartbeats 16000000 in
/-- headOf(f9, at9) -/
theorem g_Mo_headOf (l : Launch) (G : va_G) (k : Nat → ClassId) (h0 : Nat) (s0 : Nat) (f9 : Nat) (at9 : Nat) (ma : Nat → Nat) (iv : Nat → Int32) (co : Int64) (tk : Nat → Nat) (wd : Nat → Int32) (hf : f9 < 4) (hat : at9 < 200) (h5 : wdF wd f9 at9 = 5 → at9 + 1 < 200 ∧ ∃ g, wdF wd f9 (at9 + 1) = nI g ∧ g < 4) (htk : ∀ g, g < 4 → tk g ≤ 3) : CI l y_Mo_headOf c_Mo_headOf 4 .int { frames := 0, cells := 0, slots := 0, locals := 0 } [.ref h0, .int (nI f9), .int (nI at9)] G k s0 [(h0, .inr (8, moL ma iv co)), ((ma 0), .inl (k 0, 4, .inl (fun i => nI (tk i)))), ((ma 1), .inl (k 0, 800, .inl wd))] (fun (r : Int32) (u : Unit) => r = nI (hdN (wdF wd f9) tk at9) ∧ True) (fun u => [(h0, .inr (8, moL ma iv co)), ((ma 0), .inl (k 0, 4, .inl (fun i => nI (tk i)))), ((ma 1), .inl (k 0, 800, .inl wd))]) 0 0 := by
  refine met_start (by decide) (Nat.le_of_ble_eq_true rfl) ?_
  intro p e s m below meth c C K hA hsz S ls hl
  generalize va_A [(h0, .inr (8, moL ma iv co)), ((ma 0), .inl (k 0, 4, .inl (fun i => nI (tk i)))), ((ma 1), .inl (k 0, 800, .inl wd))] s0 = A at hA S ⊢
  have hx := C.1
  have hb := C.2.1
  have hl : lv_has ls 4 [(0, .ref h0), (1, .int (nI f9)), (2, .int (nI at9))] := hl
  refine lv_aload_n hx hb d_Mo_headOf_0 rfl (lv_at hl 0 rfl) ?_
  refine r_get C K S 0 rfl rfl clOk_Mo 2 (by decide) wf_Mo_13 (v := .ref (ma 1)) rfl d_Mo_headOf_1 ?_
  refine lv_sipush (v := 200) hx hb d_Mo_headOf_4 (by decide) ?_
  refine lv_iload_n hx hb d_Mo_headOf_7 rfl (lv_at hl 1 rfl) ?_
  refine z_imul (x := 200) (y := nI f9) (v := nI (200 * f9)) hx hb d_Mo_headOf_8 (pk_mul 200 f9) ?_
  refine lv_iload_n hx hb d_Mo_headOf_9 rfl (lv_at hl 2 rfl) ?_
  refine z_iadd (x := nI (200 * f9)) (y := nI at9) (v := nI (200 * f9 + at9)) hx hb d_Mo_headOf_10 (nI_add (200 * f9) at9) ?_
  refine r_iald C K S 2 rfl (i := nI (200 * f9 + at9)) (show vp_in (nI (200 * f9 + at9)) _ from vp_in_nI (n := (200 * f9 + at9)) (by omega) (by decide)) (v := wdF wd f9 at9) (by rw [nI_clamp (by omega)]; exact (show wd (200 * f9 + at9) = wd (200 * f9 + at9) from congrArg wd (by omega))) d_Mo_headOf_11 ?_
  refine lv_istore_n (lv' := [(3, .int (wdF wd f9 at9)), (0, .ref h0), (1, .int (nI f9)), (2, .int (nI at9))]) hx hb d_Mo_headOf_12 rfl hl (by decide) rfl (fun ls hl => ?_)
  refine lv_iload_n hx hb d_Mo_headOf_13 rfl (lv_at hl 0 rfl) ?_
  refine lv_if_eq (tgt := 28) hx hb d_Mo_headOf_14 (by decide) (fun hc1 => ?_) (fun hc1 => ?_)
  · refine lv_iconst (v := 1) hx hb d_Mo_headOf_28 (by decide) ?_
    refine lv_goto (tgt := 62) hx hb d_Mo_headOf_29 (by decide) ?_
    exact r_iret C K rfl () ⟨congrArg nI (hdN_1 (Or.inl hc1)).symm, trivial⟩ (S.sub [0, 1, 2] (by decide) rfl) d_Mo_headOf_62 (Nat.le_of_ble_eq_true rfl) (Nat.le_of_ble_eq_true rfl)
  · refine lv_iload_n hx hb d_Mo_headOf_17 rfl (lv_at hl 0 rfl) ?_
    refine lv_iconst (v := 2) hx hb d_Mo_headOf_18 (by decide) ?_
    refine lv_icmp_eq (tgt := 28) hx hb d_Mo_headOf_19 (by decide) (fun hc2 => ?_) (fun hc2 => ?_)
    · refine lv_iconst (v := 1) hx hb d_Mo_headOf_28 (by decide) ?_
      refine lv_goto (tgt := 62) hx hb d_Mo_headOf_29 (by decide) ?_
      exact r_iret C K rfl () ⟨congrArg nI (hdN_1 (Or.inr (Or.inl hc2))).symm, trivial⟩ (S.sub [0, 1, 2] (by decide) rfl) d_Mo_headOf_62 (Nat.le_of_ble_eq_true rfl) (Nat.le_of_ble_eq_true rfl)
    · refine lv_iload_n hx hb d_Mo_headOf_22 rfl (lv_at hl 0 rfl) ?_
      refine lv_bipush (v := 6) hx hb d_Mo_headOf_23 (by decide) ?_
      refine lv_icmp_ne (tgt := 32) hx hb d_Mo_headOf_25 (by decide) (fun hc3 => ?_) (fun hc3 => ?_)
      · refine lv_iload_n hx hb d_Mo_headOf_32 rfl (lv_at hl 0 rfl) ?_
        refine lv_iconst (v := 5) hx hb d_Mo_headOf_33 (by decide) ?_
        refine lv_icmp_ne (tgt := 61) hx hb d_Mo_headOf_34 (by decide) (fun hc4 => ?_) (fun hc4 => ?_)
        · refine lv_iconst (v := 2) hx hb d_Mo_headOf_61 (by decide) ?_
          exact r_iret C K rfl () ⟨congrArg nI (hdN_2 hc1 hc2 hc3 hc4).symm, trivial⟩ (S.sub [0, 1, 2] (by decide) rfl) d_Mo_headOf_62 (Nat.le_of_ble_eq_true rfl) (Nat.le_of_ble_eq_true rfl)
        · obtain ⟨hq1, g9, hq2, hq3⟩ := h5 hc4
          have hq4 := htk g9 hq3
          refine lv_iconst (v := 2) hx hb d_Mo_headOf_37 (by decide) ?_
          refine lv_aload_n hx hb d_Mo_headOf_38 rfl (lv_at hl 1 rfl) ?_
          refine r_get C K S 0 rfl rfl clOk_Mo 1 (by decide) wf_Mo_9 (v := .ref (ma 0)) rfl d_Mo_headOf_39 ?_
          refine lv_aload_n hx hb d_Mo_headOf_42 rfl (lv_at hl 1 rfl) ?_
          refine r_get C K S 0 rfl rfl clOk_Mo 2 (by decide) wf_Mo_13 (v := .ref (ma 1)) rfl d_Mo_headOf_43 ?_
          refine lv_sipush (v := 200) hx hb d_Mo_headOf_46 (by decide) ?_
          refine lv_iload_n hx hb d_Mo_headOf_49 rfl (lv_at hl 2 rfl) ?_
          refine z_imul (x := 200) (y := nI f9) (v := nI (200 * f9)) hx hb d_Mo_headOf_50 (pk_mul 200 f9) ?_
          refine lv_iload_n hx hb d_Mo_headOf_51 rfl (lv_at hl 3 rfl) ?_
          refine z_iadd (x := nI (200 * f9)) (y := nI at9) (v := nI (200 * f9 + at9)) hx hb d_Mo_headOf_52 (nI_add (200 * f9) at9) ?_
          refine lv_iconst (v := 1) hx hb d_Mo_headOf_53 (by decide) ?_
          refine z_iadd (x := nI (200 * f9 + at9)) (y := 1) (v := nI (200 * f9 + at9 + 1)) hx hb d_Mo_headOf_54 (nI_add (200 * f9 + at9) 1) ?_
          refine r_iald C K S 2 rfl (i := nI (200 * f9 + at9 + 1)) (show vp_in (nI (200 * f9 + at9 + 1)) _ from vp_in_nI (n := (200 * f9 + at9 + 1)) (by omega) (by decide)) (v := wdF wd f9 (at9 + 1)) (by rw [nI_clamp (by omega)]; exact (show wd (200 * f9 + at9 + 1) = wd (200 * f9 + (at9 + 1)) from congrArg wd (by omega))) d_Mo_headOf_55 ?_
          rw [hq2]
          refine r_iald C K S 1 rfl (i := nI g9) (show vp_in (nI g9) _ from vp_in_nI (n := g9) (by omega) (by decide)) (v := nI (tk g9)) (by rw [nI_clamp (by omega)]) d_Mo_headOf_56 ?_
          refine z_iadd (x := 2) (y := nI (tk g9)) (v := nI (2 + tk g9)) hx hb d_Mo_headOf_57 (nI_add 2 (tk g9)) ?_
          refine lv_goto (tgt := 62) hx hb d_Mo_headOf_58 (by decide) ?_
          exact r_iret C K rfl () ⟨congrArg nI (hdN_5 hc4 hq2 hq3).symm, trivial⟩ (S.sub [0, 1, 2] (by decide) rfl) d_Mo_headOf_62 (Nat.le_of_ble_eq_true rfl) (Nat.le_of_ble_eq_true rfl)
      · refine lv_iconst (v := 1) hx hb d_Mo_headOf_28 (by decide) ?_
        refine lv_goto (tgt := 62) hx hb d_Mo_headOf_29 (by decide) ?_
        exact r_iret C K rfl () ⟨congrArg nI (hdN_1 (Or.inr (Or.inr hc3))).symm, trivial⟩ (S.sub [0, 1, 2] (by decide) rfl) d_Mo_headOf_62 (Nat.le_of_ble_eq_true rfl) (Nat.le_of_ble_eq_true rfl)
theorem d_Mo_partsOf_0 : decode c_Mo_partsOf 0 = .ok (.iload_n 0, 1) := by decide +kernel
theorem d_Mo_partsOf_1 : decode c_Mo_partsOf 1 = .ok (.iconst 3, 1) := by decide +kernel
theorem d_Mo_partsOf_2 : decode c_Mo_partsOf 2 = .ok (.if_icmp .eq 9, 3) := by decide +kernel
theorem d_Mo_partsOf_5 : decode c_Mo_partsOf 5 = .ok (.iload_n 0, 1) := by decide +kernel
theorem d_Mo_partsOf_6 : decode c_Mo_partsOf 6 = .ok (.bipush 6, 2) := by decide +kernel
theorem d_Mo_partsOf_8 : decode c_Mo_partsOf 8 = .ok (.if_icmp .ne 7, 3) := by decide +kernel
theorem d_Mo_partsOf_11 : decode c_Mo_partsOf 11 = .ok (.iconst 2, 1) := by decide +kernel
theorem d_Mo_partsOf_12 : decode c_Mo_partsOf 12 = .ok (.goto 18, 3) := by decide +kernel
theorem d_Mo_partsOf_15 : decode c_Mo_partsOf 15 = .ok (.iload_n 0, 1) := by decide +kernel
theorem d_Mo_partsOf_16 : decode c_Mo_partsOf 16 = .ok (.iconst 2, 1) := by decide +kernel
theorem d_Mo_partsOf_17 : decode c_Mo_partsOf 17 = .ok (.if_icmp .eq 8, 3) := by decide +kernel
theorem d_Mo_partsOf_20 : decode c_Mo_partsOf 20 = .ok (.iload_n 0, 1) := by decide +kernel
theorem d_Mo_partsOf_21 : decode c_Mo_partsOf 21 = .ok (.iconst 4, 1) := by decide +kernel
theorem d_Mo_partsOf_22 : decode c_Mo_partsOf 22 = .ok (.if_icmp .ne 7, 3) := by decide +kernel
theorem d_Mo_partsOf_25 : decode c_Mo_partsOf 25 = .ok (.iconst 1, 1) := by decide +kernel
theorem d_Mo_partsOf_26 : decode c_Mo_partsOf 26 = .ok (.goto 4, 3) := by decide +kernel
theorem d_Mo_partsOf_29 : decode c_Mo_partsOf 29 = .ok (.iconst 0, 1) := by decide +kernel
theorem d_Mo_partsOf_30 : decode c_Mo_partsOf 30 = .ok (.ireturn, 1) := by decide +kernel
set_option maxRecDepth 100000 in
set_option maxHeartbeats 16000000 in
/-- partsOf(o9) -/
theorem g_Mo_partsOf (l : Launch) (G : va_G) (k : Nat → ClassId) (s0 : Nat) (o9 : Int32) : CI l y_Mo_partsOf c_Mo_partsOf 1 .int { frames := 0, cells := 0, slots := 0, locals := 0 } [.int o9] G k s0 [] (fun (r : Int32) (u : Unit) => r = nI (ptN o9) ∧ True) (fun u => []) 0 0 := by
  refine met_start (by decide) (Nat.le_of_ble_eq_true rfl) ?_
  intro p e s m below meth c C K hA hsz S ls hl
  generalize va_A [] s0 = A at hA S ⊢
  have hx := C.1
  have hb := C.2.1
  have hl : lv_has ls 1 [(0, .int o9)] := hl
  refine lv_iload_n hx hb d_Mo_partsOf_0 rfl (lv_at hl 0 rfl) ?_
  refine lv_iconst (v := 3) hx hb d_Mo_partsOf_1 (by decide) ?_
  refine lv_icmp_eq (tgt := 11) hx hb d_Mo_partsOf_2 (by decide) (fun hc1 => ?_) (fun hc1 => ?_)
  · refine lv_iconst (v := 2) hx hb d_Mo_partsOf_11 (by decide) ?_
    refine lv_goto (tgt := 30) hx hb d_Mo_partsOf_12 (by decide) ?_
    exact r_iret C K rfl () ⟨congrArg nI (pt_2 (Or.inl hc1)).symm, trivial⟩ (S.sub [] (by decide) rfl) d_Mo_partsOf_30 (Nat.le_of_ble_eq_true rfl) (Nat.le_of_ble_eq_true rfl)
  · refine lv_iload_n hx hb d_Mo_partsOf_5 rfl (lv_at hl 0 rfl) ?_
    refine lv_bipush (v := 6) hx hb d_Mo_partsOf_6 (by decide) ?_
    refine lv_icmp_ne (tgt := 15) hx hb d_Mo_partsOf_8 (by decide) (fun hc2 => ?_) (fun hc2 => ?_)
    · refine lv_iload_n hx hb d_Mo_partsOf_15 rfl (lv_at hl 0 rfl) ?_
      refine lv_iconst (v := 2) hx hb d_Mo_partsOf_16 (by decide) ?_
      refine lv_icmp_eq (tgt := 25) hx hb d_Mo_partsOf_17 (by decide) (fun hc3 => ?_) (fun hc3 => ?_)
      · refine lv_iconst (v := 1) hx hb d_Mo_partsOf_25 (by decide) ?_
        refine lv_goto (tgt := 30) hx hb d_Mo_partsOf_26 (by decide) ?_
        exact r_iret C K rfl () ⟨congrArg nI (pt_1 hc1 hc2 (Or.inl hc3)).symm, trivial⟩ (S.sub [] (by decide) rfl) d_Mo_partsOf_30 (Nat.le_of_ble_eq_true rfl) (Nat.le_of_ble_eq_true rfl)
      · refine lv_iload_n hx hb d_Mo_partsOf_20 rfl (lv_at hl 0 rfl) ?_
        refine lv_iconst (v := 4) hx hb d_Mo_partsOf_21 (by decide) ?_
        refine lv_icmp_ne (tgt := 29) hx hb d_Mo_partsOf_22 (by decide) (fun hc4 => ?_) (fun hc4 => ?_)
        · refine lv_iconst (v := 0) hx hb d_Mo_partsOf_29 (by decide) ?_
          exact r_iret C K rfl () ⟨congrArg nI (pt_0 hc1 hc2 hc3 hc4).symm, trivial⟩ (S.sub [] (by decide) rfl) d_Mo_partsOf_30 (Nat.le_of_ble_eq_true rfl) (Nat.le_of_ble_eq_true rfl)
        · refine lv_iconst (v := 1) hx hb d_Mo_partsOf_25 (by decide) ?_
          refine lv_goto (tgt := 30) hx hb d_Mo_partsOf_26 (by decide) ?_
          exact r_iret C K rfl () ⟨congrArg nI (pt_1 hc1 hc2 (Or.inr hc4)).symm, trivial⟩ (S.sub [] (by decide) rfl) d_Mo_partsOf_30 (Nat.le_of_ble_eq_true rfl) (Nat.le_of_ble_eq_true rfl)
    · refine lv_iconst (v := 2) hx hb d_Mo_partsOf_11 (by decide) ?_
      refine lv_goto (tgt := 30) hx hb d_Mo_partsOf_12 (by decide) ?_
      exact r_iret C K rfl () ⟨congrArg nI (pt_2 (Or.inr hc2)).symm, trivial⟩ (S.sub [] (by decide) rfl) d_Mo_partsOf_30 (Nat.le_of_ble_eq_true rfl) (Nat.le_of_ble_eq_true rfl)
theorem d_Mo_wrongHead_0 : decode c_Mo_wrongHead 0 = .ok (.sipush 200, 3) := by decide +kernel
theorem d_Mo_wrongHead_3 : decode c_Mo_wrongHead 3 = .ok (.iload_n 1, 1) := by decide +kernel
theorem d_Mo_wrongHead_4 : decode c_Mo_wrongHead 4 = .ok (.imul, 1) := by decide +kernel
theorem d_Mo_wrongHead_5 : decode c_Mo_wrongHead 5 = .ok (.istore 4, 2) := by decide +kernel
theorem d_Mo_wrongHead_7 : decode c_Mo_wrongHead 7 = .ok (.aload_n 0, 1) := by decide +kernel
theorem d_Mo_wrongHead_8 : decode c_Mo_wrongHead 8 = .ok (.getfield 13, 3) := by decide +kernel
theorem d_Mo_wrongHead_11 : decode c_Mo_wrongHead 11 = .ok (.iload 4, 2) := by decide +kernel
theorem d_Mo_wrongHead_13 : decode c_Mo_wrongHead 13 = .ok (.iload_n 2, 1) := by decide +kernel
theorem d_Mo_wrongHead_14 : decode c_Mo_wrongHead 14 = .ok (.iadd, 1) := by decide +kernel
theorem d_Mo_wrongHead_15 : decode c_Mo_wrongHead 15 = .ok (.iaload, 1) := by decide +kernel
theorem d_Mo_wrongHead_16 : decode c_Mo_wrongHead 16 = .ok (.istore 5, 2) := by decide +kernel
theorem d_Mo_wrongHead_18 : decode c_Mo_wrongHead 18 = .ok (.iload 5, 2) := by decide +kernel
theorem d_Mo_wrongHead_20 : decode c_Mo_wrongHead 20 = .ok (.ifCond .lt 10, 3) := by decide +kernel
theorem d_Mo_wrongHead_23 : decode c_Mo_wrongHead 23 = .ok (.iload 5, 2) := by decide +kernel
theorem d_Mo_wrongHead_25 : decode c_Mo_wrongHead 25 = .ok (.bipush 6, 2) := by decide +kernel
theorem d_Mo_wrongHead_27 : decode c_Mo_wrongHead 27 = .ok (.if_icmp .le 5, 3) := by decide +kernel
theorem d_Mo_wrongHead_30 : decode c_Mo_wrongHead 30 = .ok (.iload_n 2, 1) := by decide +kernel
theorem d_Mo_wrongHead_31 : decode c_Mo_wrongHead 31 = .ok (.ireturn, 1) := by decide +kernel
theorem d_Mo_wrongHead_32 : decode c_Mo_wrongHead 32 = .ok (.iload 5, 2) := by decide +kernel
theorem d_Mo_wrongHead_34 : decode c_Mo_wrongHead 34 = .ok (.ifCond .eq 16, 3) := by decide +kernel
theorem d_Mo_wrongHead_37 : decode c_Mo_wrongHead 37 = .ok (.iload 5, 2) := by decide +kernel
theorem d_Mo_wrongHead_39 : decode c_Mo_wrongHead 39 = .ok (.iconst 2, 1) := by decide +kernel
theorem d_Mo_wrongHead_40 : decode c_Mo_wrongHead 40 = .ok (.if_icmp .eq 10, 3) := by decide +kernel
theorem d_Mo_wrongHead_43 : decode c_Mo_wrongHead 43 = .ok (.iload 5, 2) := by decide +kernel
theorem d_Mo_wrongHead_45 : decode c_Mo_wrongHead 45 = .ok (.bipush 6, 2) := by decide +kernel
theorem d_Mo_wrongHead_47 : decode c_Mo_wrongHead 47 = .ok (.if_icmp .ne 5, 3) := by decide +kernel
theorem d_Mo_wrongHead_50 : decode c_Mo_wrongHead 50 = .ok (.iconst (-1), 1) := by decide +kernel
theorem d_Mo_wrongHead_51 : decode c_Mo_wrongHead 51 = .ok (.ireturn, 1) := by decide +kernel
theorem d_Mo_wrongHead_52 : decode c_Mo_wrongHead 52 = .ok (.iload_n 2, 1) := by decide +kernel
theorem d_Mo_wrongHead_53 : decode c_Mo_wrongHead 53 = .ok (.iconst 1, 1) := by decide +kernel
theorem d_Mo_wrongHead_54 : decode c_Mo_wrongHead 54 = .ok (.iadd, 1) := by decide +kernel
theorem d_Mo_wrongHead_55 : decode c_Mo_wrongHead 55 = .ok (.aload_n 0, 1) := by decide +kernel
theorem d_Mo_wrongHead_56 : decode c_Mo_wrongHead 56 = .ok (.getfield 16, 3) := by decide +kernel
theorem d_Mo_wrongHead_59 : decode c_Mo_wrongHead 59 = .ok (.iload_n 1, 1) := by decide +kernel
theorem d_Mo_wrongHead_60 : decode c_Mo_wrongHead 60 = .ok (.iaload, 1) := by decide +kernel
theorem d_Mo_wrongHead_61 : decode c_Mo_wrongHead 61 = .ok (.if_icmp .ne 10, 3) := by decide +kernel
theorem d_Mo_wrongHead_64 : decode c_Mo_wrongHead 64 = .ok (.aload_n 0, 1) := by decide +kernel
theorem d_Mo_wrongHead_65 : decode c_Mo_wrongHead 65 = .ok (.getfield 16, 3) := by decide +kernel
theorem d_Mo_wrongHead_68 : decode c_Mo_wrongHead 68 = .ok (.iload_n 1, 1) := by decide +kernel
theorem d_Mo_wrongHead_69 : decode c_Mo_wrongHead 69 = .ok (.iaload, 1) := by decide +kernel
theorem d_Mo_wrongHead_70 : decode c_Mo_wrongHead 70 = .ok (.ireturn, 1) := by decide +kernel
theorem d_Mo_wrongHead_71 : decode c_Mo_wrongHead 71 = .ok (.aload_n 0, 1) := by decide +kernel
theorem d_Mo_wrongHead_72 : decode c_Mo_wrongHead 72 = .ok (.getfield 13, 3) := by decide +kernel
theorem d_Mo_wrongHead_75 : decode c_Mo_wrongHead 75 = .ok (.iload 4, 2) := by decide +kernel
theorem d_Mo_wrongHead_77 : decode c_Mo_wrongHead 77 = .ok (.iload_n 2, 1) := by decide +kernel
theorem d_Mo_wrongHead_78 : decode c_Mo_wrongHead 78 = .ok (.iadd, 1) := by decide +kernel
theorem d_Mo_wrongHead_79 : decode c_Mo_wrongHead 79 = .ok (.iconst 1, 1) := by decide +kernel
theorem d_Mo_wrongHead_80 : decode c_Mo_wrongHead 80 = .ok (.iadd, 1) := by decide +kernel
theorem d_Mo_wrongHead_81 : decode c_Mo_wrongHead 81 = .ok (.iaload, 1) := by decide +kernel
theorem d_Mo_wrongHead_82 : decode c_Mo_wrongHead 82 = .ok (.istore 6, 2) := by decide +kernel
theorem d_Mo_wrongHead_84 : decode c_Mo_wrongHead 84 = .ok (.iload 5, 2) := by decide +kernel
theorem d_Mo_wrongHead_86 : decode c_Mo_wrongHead 86 = .ok (.iconst 4, 1) := by decide +kernel
theorem d_Mo_wrongHead_87 : decode c_Mo_wrongHead 87 = .ok (.if_icmp .ne 24, 3) := by decide +kernel
theorem d_Mo_wrongHead_90 : decode c_Mo_wrongHead 90 = .ok (.iload 6, 2) := by decide +kernel
theorem d_Mo_wrongHead_92 : decode c_Mo_wrongHead 92 = .ok (.ifCond .lt 11, 3) := by decide +kernel
theorem d_Mo_wrongHead_95 : decode c_Mo_wrongHead 95 = .ok (.iload 6, 2) := by decide +kernel
theorem d_Mo_wrongHead_97 : decode c_Mo_wrongHead 97 = .ok (.sipush 1000, 3) := by decide +kernel
theorem d_Mo_wrongHead_100 : decode c_Mo_wrongHead 100 = .ok (.if_icmp .le 9, 3) := by decide +kernel
theorem d_Mo_wrongHead_103 : decode c_Mo_wrongHead 103 = .ok (.iload_n 2, 1) := by decide +kernel
theorem d_Mo_wrongHead_104 : decode c_Mo_wrongHead 104 = .ok (.iconst 1, 1) := by decide +kernel
theorem d_Mo_wrongHead_105 : decode c_Mo_wrongHead 105 = .ok (.iadd, 1) := by decide +kernel
theorem d_Mo_wrongHead_106 : decode c_Mo_wrongHead 106 = .ok (.goto 4, 3) := by decide +kernel
theorem d_Mo_wrongHead_109 : decode c_Mo_wrongHead 109 = .ok (.iconst (-1), 1) := by decide +kernel
theorem d_Mo_wrongHead_110 : decode c_Mo_wrongHead 110 = .ok (.ireturn, 1) := by decide +kernel
theorem d_Mo_wrongHead_111 : decode c_Mo_wrongHead 111 = .ok (.iload 5, 2) := by decide +kernel
theorem d_Mo_wrongHead_113 : decode c_Mo_wrongHead 113 = .ok (.iconst 5, 1) := by decide +kernel
theorem d_Mo_wrongHead_114 : decode c_Mo_wrongHead 114 = .ok (.if_icmp .eq 22, 3) := by decide +kernel
theorem d_Mo_wrongHead_117 : decode c_Mo_wrongHead 117 = .ok (.iload 6, 2) := by decide +kernel
theorem d_Mo_wrongHead_119 : decode c_Mo_wrongHead 119 = .ok (.ifCond .lt 9, 3) := by decide +kernel
theorem d_Mo_wrongHead_122 : decode c_Mo_wrongHead 122 = .ok (.iload 6, 2) := by decide +kernel
theorem d_Mo_wrongHead_124 : decode c_Mo_wrongHead 124 = .ok (.iload_n 3, 1) := by decide +kernel
theorem d_Mo_wrongHead_125 : decode c_Mo_wrongHead 125 = .ok (.if_icmp .lt 9, 3) := by decide +kernel
theorem d_Mo_wrongHead_128 : decode c_Mo_wrongHead 128 = .ok (.iload_n 2, 1) := by decide +kernel
theorem d_Mo_wrongHead_129 : decode c_Mo_wrongHead 129 = .ok (.iconst 1, 1) := by decide +kernel
theorem d_Mo_wrongHead_130 : decode c_Mo_wrongHead 130 = .ok (.iadd, 1) := by decide +kernel
theorem d_Mo_wrongHead_131 : decode c_Mo_wrongHead 131 = .ok (.goto 4, 3) := by decide +kernel
theorem d_Mo_wrongHead_134 : decode c_Mo_wrongHead 134 = .ok (.iconst (-1), 1) := by decide +kernel
theorem d_Mo_wrongHead_135 : decode c_Mo_wrongHead 135 = .ok (.ireturn, 1) := by decide +kernel
theorem d_Mo_wrongHead_136 : decode c_Mo_wrongHead 136 = .ok (.aload_n 0, 1) := by decide +kernel
theorem d_Mo_wrongHead_137 : decode c_Mo_wrongHead 137 = .ok (.iload 6, 2) := by decide +kernel
theorem d_Mo_wrongHead_139 : decode c_Mo_wrongHead 139 = .ok (.invokevirtual 114, 3) := by decide +kernel
theorem d_Mo_wrongHead_142 : decode c_Mo_wrongHead 142 = .ok (.ifCond .ne 7, 3) := by decide +kernel
theorem d_Mo_wrongHead_145 : decode c_Mo_wrongHead 145 = .ok (.iload_n 2, 1) := by decide +kernel
theorem d_Mo_wrongHead_146 : decode c_Mo_wrongHead 146 = .ok (.iconst 1, 1) := by decide +kernel
theorem d_Mo_wrongHead_147 : decode c_Mo_wrongHead 147 = .ok (.iadd, 1) := by decide +kernel
theorem d_Mo_wrongHead_148 : decode c_Mo_wrongHead 148 = .ok (.ireturn, 1) := by decide +kernel
theorem d_Mo_wrongHead_149 : decode c_Mo_wrongHead 149 = .ok (.iconst 0, 1) := by decide +kernel
theorem d_Mo_wrongHead_150 : decode c_Mo_wrongHead 150 = .ok (.istore 7, 2) := by decide +kernel
theorem d_Mo_wrongHead_152 : decode c_Mo_wrongHead 152 = .ok (.iload 7, 2) := by decide +kernel
theorem d_Mo_wrongHead_154 : decode c_Mo_wrongHead 154 = .ok (.aload_n 0, 1) := by decide +kernel
theorem d_Mo_wrongHead_155 : decode c_Mo_wrongHead 155 = .ok (.getfield 9, 3) := by decide +kernel
theorem d_Mo_wrongHead_158 : decode c_Mo_wrongHead 158 = .ok (.iload 6, 2) := by decide +kernel
theorem d_Mo_wrongHead_160 : decode c_Mo_wrongHead 160 = .ok (.iaload, 1) := by decide +kernel
theorem d_Mo_wrongHead_161 : decode c_Mo_wrongHead 161 = .ok (.if_icmp .ge 65, 3) := by decide +kernel
theorem d_Mo_wrongHead_164 : decode c_Mo_wrongHead 164 = .ok (.iload_n 2, 1) := by decide +kernel
theorem d_Mo_wrongHead_165 : decode c_Mo_wrongHead 165 = .ok (.iconst 2, 1) := by decide +kernel
theorem d_Mo_wrongHead_166 : decode c_Mo_wrongHead 166 = .ok (.iadd, 1) := by decide +kernel
theorem d_Mo_wrongHead_167 : decode c_Mo_wrongHead 167 = .ok (.iload 7, 2) := by decide +kernel
theorem d_Mo_wrongHead_169 : decode c_Mo_wrongHead 169 = .ok (.iadd, 1) := by decide +kernel
theorem d_Mo_wrongHead_170 : decode c_Mo_wrongHead 170 = .ok (.aload_n 0, 1) := by decide +kernel
theorem d_Mo_wrongHead_171 : decode c_Mo_wrongHead 171 = .ok (.getfield 16, 3) := by decide +kernel
theorem d_Mo_wrongHead_174 : decode c_Mo_wrongHead 174 = .ok (.iload_n 1, 1) := by decide +kernel
theorem d_Mo_wrongHead_175 : decode c_Mo_wrongHead 175 = .ok (.iaload, 1) := by decide +kernel
theorem d_Mo_wrongHead_176 : decode c_Mo_wrongHead 176 = .ok (.if_icmp .ne 10, 3) := by decide +kernel
theorem d_Mo_wrongHead_179 : decode c_Mo_wrongHead 179 = .ok (.aload_n 0, 1) := by decide +kernel
theorem d_Mo_wrongHead_180 : decode c_Mo_wrongHead 180 = .ok (.getfield 16, 3) := by decide +kernel
theorem d_Mo_wrongHead_183 : decode c_Mo_wrongHead 183 = .ok (.iload_n 1, 1) := by decide +kernel
theorem d_Mo_wrongHead_184 : decode c_Mo_wrongHead 184 = .ok (.iaload, 1) := by decide +kernel
theorem d_Mo_wrongHead_185 : decode c_Mo_wrongHead 185 = .ok (.ireturn, 1) := by decide +kernel
theorem d_Mo_wrongHead_186 : decode c_Mo_wrongHead 186 = .ok (.aload_n 0, 1) := by decide +kernel
theorem d_Mo_wrongHead_187 : decode c_Mo_wrongHead 187 = .ok (.getfield 13, 3) := by decide +kernel
theorem d_Mo_wrongHead_190 : decode c_Mo_wrongHead 190 = .ok (.iload 4, 2) := by decide +kernel
theorem d_Mo_wrongHead_192 : decode c_Mo_wrongHead 192 = .ok (.iload_n 2, 1) := by decide +kernel
theorem d_Mo_wrongHead_193 : decode c_Mo_wrongHead 193 = .ok (.iadd, 1) := by decide +kernel
theorem d_Mo_wrongHead_194 : decode c_Mo_wrongHead 194 = .ok (.iconst 2, 1) := by decide +kernel
theorem d_Mo_wrongHead_195 : decode c_Mo_wrongHead 195 = .ok (.iadd, 1) := by decide +kernel
theorem d_Mo_wrongHead_196 : decode c_Mo_wrongHead 196 = .ok (.iload 7, 2) := by decide +kernel
theorem d_Mo_wrongHead_198 : decode c_Mo_wrongHead 198 = .ok (.iadd, 1) := by decide +kernel
theorem d_Mo_wrongHead_199 : decode c_Mo_wrongHead 199 = .ok (.iaload, 1) := by decide +kernel
theorem d_Mo_wrongHead_200 : decode c_Mo_wrongHead 200 = .ok (.istore 8, 2) := by decide +kernel
theorem d_Mo_wrongHead_202 : decode c_Mo_wrongHead 202 = .ok (.iload 8, 2) := by decide +kernel
theorem d_Mo_wrongHead_204 : decode c_Mo_wrongHead 204 = .ok (.ifCond .lt 9, 3) := by decide +kernel
theorem d_Mo_wrongHead_207 : decode c_Mo_wrongHead 207 = .ok (.iload 8, 2) := by decide +kernel
theorem d_Mo_wrongHead_209 : decode c_Mo_wrongHead 209 = .ok (.iload_n 3, 1) := by decide +kernel
theorem d_Mo_wrongHead_210 : decode c_Mo_wrongHead 210 = .ok (.if_icmp .lt 10, 3) := by decide +kernel
theorem d_Mo_wrongHead_213 : decode c_Mo_wrongHead 213 = .ok (.iload_n 2, 1) := by decide +kernel
theorem d_Mo_wrongHead_214 : decode c_Mo_wrongHead 214 = .ok (.iconst 2, 1) := by decide +kernel
theorem d_Mo_wrongHead_215 : decode c_Mo_wrongHead 215 = .ok (.iadd, 1) := by decide +kernel
theorem d_Mo_wrongHead_216 : decode c_Mo_wrongHead 216 = .ok (.iload 7, 2) := by decide +kernel
theorem d_Mo_wrongHead_218 : decode c_Mo_wrongHead 218 = .ok (.iadd, 1) := by decide +kernel
theorem d_Mo_wrongHead_219 : decode c_Mo_wrongHead 219 = .ok (.ireturn, 1) := by decide +kernel
theorem d_Mo_wrongHead_220 : decode c_Mo_wrongHead 220 = .ok (.iinc 7 1, 3) := by decide +kernel
theorem d_Mo_wrongHead_223 : decode c_Mo_wrongHead 223 = .ok (.goto (-71), 3) := by decide +kernel
theorem d_Mo_wrongHead_226 : decode c_Mo_wrongHead 226 = .ok (.iconst (-1), 1) := by decide +kernel
theorem d_Mo_wrongHead_227 : decode c_Mo_wrongHead 227 = .ok (.ireturn, 1) := by decide +kernel
set_option maxRecDepth 100000 in
set_option maxHeartbeats 16000000 in
/-- wrongHead(f9, at9, kn) -/
theorem g_Mo_wrongHead (l : Launch) (G : va_G) (k : Nat → ClassId) (h0 : Nat) (s0 : Nat) (f9 : Nat) (at9 : Nat) (kn : Nat) (nf : Nat) (ma : Nat → Nat) (iv : Nat → Int32) (co : Int64) (tk : Nat → Nat) (ct : Nat → Nat) (wd : Nat → Int32) (hf : f9 < 4) (hat : at9 < ct f9) (hct : ct f9 ≤ 200) (hnf : nf ≤ 4) (htk : ∀ g, g < 4 → tk g ≤ 3) : CI l y_Mo_wrongHead c_Mo_wrongHead 9 .int { frames := 2, cells := 0, slots := 0, locals := 41 } [.ref h0, .int (nI f9), .int (nI at9), .int (nI kn)] G k s0 [(h0, .inr (8, moL ma (va_up iv 0 (nI nf)) co)), ((ma 0), .inl (k 0, 4, .inl (fun i => nI (tk i)))), ((ma 1), .inl (k 0, 800, .inl wd)), ((ma 2), .inl (k 0, 4, .inl (fun i => nI (ct i))))] (fun (r : Int32) (u : Unit) => r = bI (wh (wdF wd f9) tk nf (ct f9) at9 kn) ∧ True) (fun u => [(h0, .inr (8, moL ma (va_up iv 0 (nI nf)) co)), ((ma 0), .inl (k 0, 4, .inl (fun i => nI (tk i)))), ((ma 1), .inl (k 0, 800, .inl wd)), ((ma 2), .inl (k 0, 4, .inl (fun i => nI (ct i))))]) 0 0 := by
  refine met_start (by decide) (Nat.le_of_ble_eq_true rfl) ?_
  intro p e s m below meth c C K hA hsz S ls hl
  generalize va_A [(h0, .inr (8, moL ma (va_up iv 0 (nI nf)) co)), ((ma 0), .inl (k 0, 4, .inl (fun i => nI (tk i)))), ((ma 1), .inl (k 0, 800, .inl wd)), ((ma 2), .inl (k 0, 4, .inl (fun i => nI (ct i))))] s0 = A at hA S ⊢
  have hx := C.1
  have hb := C.2.1
  have hl : lv_has ls 9 [(0, .ref h0), (1, .int (nI f9)), (2, .int (nI at9)), (3, .int (nI kn))] := hl
  refine lv_sipush (v := 200) hx hb d_Mo_wrongHead_0 (by decide) ?_
  refine lv_iload_n hx hb d_Mo_wrongHead_3 rfl (lv_at hl 1 rfl) ?_
  refine z_imul (x := 200) (y := nI f9) (v := nI (200 * f9)) hx hb d_Mo_wrongHead_4 (pk_mul 200 f9) ?_
  refine lv_istore (lv' := [(4, .int (nI (200 * f9))), (0, .ref h0), (1, .int (nI f9)), (2, .int (nI at9)), (3, .int (nI kn))]) hx hb d_Mo_wrongHead_5 hl (by decide) rfl (fun ls hl => ?_)
  refine lv_aload_n hx hb d_Mo_wrongHead_7 rfl (lv_at hl 1 rfl) ?_
  refine r_get C K S 0 rfl rfl clOk_Mo 2 (by decide) wf_Mo_13 (v := .ref (ma 1)) rfl d_Mo_wrongHead_8 ?_
  refine lv_iload hx hb d_Mo_wrongHead_11 (lv_at hl 0 rfl) ?_
  refine lv_iload_n hx hb d_Mo_wrongHead_13 rfl (lv_at hl 3 rfl) ?_
  refine z_iadd (x := nI (200 * f9)) (y := nI at9) (v := nI (200 * f9 + at9)) hx hb d_Mo_wrongHead_14 (nI_add (200 * f9) at9) ?_
  refine r_iald C K S 2 rfl (i := nI (200 * f9 + at9)) (show vp_in (nI (200 * f9 + at9)) _ from vp_in_nI (n := (200 * f9 + at9)) (by omega) (by decide)) (v := wdF wd f9 at9) (by rw [nI_clamp (by omega)]; exact (show wd (200 * f9 + at9) = wd (200 * f9 + at9) from congrArg wd (by omega))) d_Mo_wrongHead_15 ?_
  refine lv_istore (lv' := [(5, .int (wdF wd f9 at9)), (4, .int (nI (200 * f9))), (0, .ref h0), (1, .int (nI f9)), (2, .int (nI at9)), (3, .int (nI kn))]) hx hb d_Mo_wrongHead_16 hl (by decide) rfl (fun ls hl => ?_)
  refine lv_iload hx hb d_Mo_wrongHead_18 (lv_at hl 0 rfl) ?_
  refine lv_if_lt (tgt := 30) hx hb d_Mo_wrongHead_20 (by decide) (fun hc1 => ?_) (fun hc1 => ?_)
  · refine lv_iload_n hx hb d_Mo_wrongHead_30 rfl (lv_at hl 4 rfl) ?_
    exact r_iret C K rfl () ⟨(congrArg bI (show wh (wdF wd f9) tk nf (ct f9) at9 kn = some (at9) from wh_a (Or.inl hc1))).symm, trivial⟩ (S.sub [0, 1, 2, 3] (by decide) rfl) d_Mo_wrongHead_31 (Nat.le_of_ble_eq_true rfl) (Nat.le_of_ble_eq_true rfl)
  · refine lv_iload hx hb d_Mo_wrongHead_23 (lv_at hl 0 rfl) ?_
    refine lv_bipush (v := 6) hx hb d_Mo_wrongHead_25 (by decide) ?_
    refine lv_icmp_le (tgt := 32) hx hb d_Mo_wrongHead_27 (by decide) (fun hc2 => ?_) (fun hc2 => ?_)
    · refine lv_iload hx hb d_Mo_wrongHead_32 (lv_at hl 0 rfl) ?_
      refine lv_if_eq (tgt := 50) hx hb d_Mo_wrongHead_34 (by decide) (fun hc3 => ?_) (fun hc3 => ?_)
      · refine lv_iconst (v := (-1)) hx hb d_Mo_wrongHead_50 (by decide) ?_
        exact r_iret C K rfl () ⟨(congrArg bI (show wh (wdF wd f9) tk nf (ct f9) at9 kn = none from wh_b hc1 (Int32.not_lt.mpr hc2) (Or.inl hc3))).symm, trivial⟩ (S.sub [0, 1, 2, 3] (by decide) rfl) d_Mo_wrongHead_51 (Nat.le_of_ble_eq_true rfl) (Nat.le_of_ble_eq_true rfl)
      · refine lv_iload hx hb d_Mo_wrongHead_37 (lv_at hl 0 rfl) ?_
        refine lv_iconst (v := 2) hx hb d_Mo_wrongHead_39 (by decide) ?_
        refine lv_icmp_eq (tgt := 50) hx hb d_Mo_wrongHead_40 (by decide) (fun hc4 => ?_) (fun hc4 => ?_)
        · refine lv_iconst (v := (-1)) hx hb d_Mo_wrongHead_50 (by decide) ?_
          exact r_iret C K rfl () ⟨(congrArg bI (show wh (wdF wd f9) tk nf (ct f9) at9 kn = none from wh_b hc1 (Int32.not_lt.mpr hc2) (Or.inr (Or.inl hc4)))).symm, trivial⟩ (S.sub [0, 1, 2, 3] (by decide) rfl) d_Mo_wrongHead_51 (Nat.le_of_ble_eq_true rfl) (Nat.le_of_ble_eq_true rfl)
        · refine lv_iload hx hb d_Mo_wrongHead_43 (lv_at hl 0 rfl) ?_
          refine lv_bipush (v := 6) hx hb d_Mo_wrongHead_45 (by decide) ?_
          refine lv_icmp_ne (tgt := 52) hx hb d_Mo_wrongHead_47 (by decide) (fun hc5 => ?_) (fun hc5 => ?_)
          · refine lv_iload_n hx hb d_Mo_wrongHead_52 rfl (lv_at hl 4 rfl) ?_
            refine lv_iconst (v := 1) hx hb d_Mo_wrongHead_53 (by decide) ?_
            refine z_iadd (x := nI at9) (y := 1) (v := nI (at9 + 1)) hx hb d_Mo_wrongHead_54 (nI_add at9 1) ?_
            refine lv_aload_n hx hb d_Mo_wrongHead_55 rfl (lv_at hl 2 rfl) ?_
            refine r_get C K S 0 rfl rfl clOk_Mo 3 (by decide) wf_Mo_16 (v := .ref (ma 2)) rfl d_Mo_wrongHead_56 ?_
            refine lv_iload_n hx hb d_Mo_wrongHead_59 rfl (lv_at hl 3 rfl) ?_
            refine r_iald C K S 3 rfl (i := nI f9) (show vp_in (nI f9) _ from vp_in_nI (n := f9) (by omega) (by decide)) (v := nI (ct f9)) (by rw [nI_clamp (by omega)]) d_Mo_wrongHead_60 ?_
            refine z_icmp_ne (a := (at9 + 1)) (b := (ct f9)) (tgt := 71) hx hb d_Mo_wrongHead_61 (by decide) (by omega) (by omega) (fun hc6 => ?_) (fun hc6 => ?_)
            · refine lv_aload_n hx hb d_Mo_wrongHead_71 rfl (lv_at hl 2 rfl) ?_
              refine r_get C K S 0 rfl rfl clOk_Mo 2 (by decide) wf_Mo_13 (v := .ref (ma 1)) rfl d_Mo_wrongHead_72 ?_
              refine lv_iload hx hb d_Mo_wrongHead_75 (lv_at hl 1 rfl) ?_
              refine lv_iload_n hx hb d_Mo_wrongHead_77 rfl (lv_at hl 4 rfl) ?_
              refine z_iadd (x := nI (200 * f9)) (y := nI at9) (v := nI (200 * f9 + at9)) hx hb d_Mo_wrongHead_78 (nI_add (200 * f9) at9) ?_
              refine lv_iconst (v := 1) hx hb d_Mo_wrongHead_79 (by decide) ?_
              refine z_iadd (x := nI (200 * f9 + at9)) (y := 1) (v := nI (200 * f9 + at9 + 1)) hx hb d_Mo_wrongHead_80 (nI_add (200 * f9 + at9) 1) ?_
              refine r_iald C K S 2 rfl (i := nI (200 * f9 + at9 + 1)) (show vp_in (nI (200 * f9 + at9 + 1)) _ from vp_in_nI (n := (200 * f9 + at9 + 1)) (by omega) (by decide)) (v := wdF wd f9 (at9 + 1)) (by rw [nI_clamp (by omega)]; exact (show wd (200 * f9 + at9 + 1) = wd (200 * f9 + (at9 + 1)) from congrArg wd (by omega))) d_Mo_wrongHead_81 ?_
              refine lv_istore (lv' := [(6, .int (wdF wd f9 (at9 + 1))), (5, .int (wdF wd f9 at9)), (4, .int (nI (200 * f9))), (0, .ref h0), (1, .int (nI f9)), (2, .int (nI at9)), (3, .int (nI kn))]) hx hb d_Mo_wrongHead_82 hl (by decide) rfl (fun ls hl => ?_)
              refine lv_iload hx hb d_Mo_wrongHead_84 (lv_at hl 1 rfl) ?_
              refine lv_iconst (v := 4) hx hb d_Mo_wrongHead_86 (by decide) ?_
              refine lv_icmp_ne (tgt := 111) hx hb d_Mo_wrongHead_87 (by decide) (fun hc7 => ?_) (fun hc7 => ?_)
              · refine lv_iload hx hb d_Mo_wrongHead_111 (lv_at hl 1 rfl) ?_
                refine lv_iconst (v := 5) hx hb d_Mo_wrongHead_113 (by decide) ?_
                refine lv_icmp_eq (tgt := 136) hx hb d_Mo_wrongHead_114 (by decide) (fun hc8 => ?_) (fun hc8 => ?_)
                · refine lv_aload_n hx hb d_Mo_wrongHead_136 rfl (lv_at hl 3 rfl) ?_
                  refine lv_iload hx hb d_Mo_wrongHead_137 (lv_at hl 0 rfl) ?_
                  refine r_backi (wi := [(h0, .inr (8, moL ma (va_up iv 0 (nI nf)) co))]) (wr := [((ma 0), .inl (k 0, 4, .inl (fun i => nI (tk i)))), ((ma 1), .inl (k 0, 800, .inl wd)), ((ma 2), .inl (k 0, 4, .inl (fun i => nI (ct i))))]) S hA [0] [1, 2, 3] rfl rfl (by decide) (by decide) (va_runV (As := [.int (wdF wd f9 (at9 + 1))]) (rest := []) ⟨hx, hb, C.2.2.1, C.2.2.2.1, C.2.2.2.2.1⟩ (g_Mo_isFunction l G k h0 _ ma (va_up iv 0 (nI nf)) co (wdF wd f9 (at9 + 1))) (k_virt (n := 1) C wc_Mo_isFunction rfl rfl wz_Mo wm_Mo_114 wn_Mo_isFunction ws_Mo_isFunction (by decide +kernel) ⟨(Nat.le_of_ble_eq_true rfl), (Nat.le_of_ble_eq_true rfl)⟩) (pr_nowV K S [0] (by decide) rfl 0 rfl rfl) rfl rfl hl.1 rfl (lv_room (Nat.le_of_ble_eq_true rfl)) d_Mo_wrongHead_139 ⟨(Nat.le_of_ble_eq_true rfl), (Nat.le_of_ble_eq_true rfl)⟩) (fun r11 u9 H locs hw10 S => ?_)
                  have S : Sw G A s.heap _ _ [((ma 0), .inl (k 0, 4, .inl (fun i => nI (tk i)))), ((ma 1), .inl (k 0, 800, .inl wd)), ((ma 2), .inl (k 0, 4, .inl (fun i => nI (ct i)))), (h0, .inr (8, moL ma (va_up iv 0 (nI nf)) co))] := S
                  obtain rfl : r11 = isF ((va_up iv 0 (nI nf)) 0) (wdF wd f9 (at9 + 1)) := hw10
                  refine lv_if_ne (tgt := 149) hx hb d_Mo_wrongHead_142 (by decide) (fun hc13 => ?_) (fun hc13 => ?_)
                  · refine lv_iconst (v := 0) hx hb d_Mo_wrongHead_149 (by decide) ?_
                    refine lv_istore (lv' := [(7, .int 0), (6, .int (wdF wd f9 (at9 + 1))), (5, .int (wdF wd f9 at9)), (4, .int (nI (200 * f9))), (0, .ref h0), (1, .int (nI f9)), (2, .int (nI at9)), (3, .int (nI kn))]) hx hb d_Mo_wrongHead_150 hl (by decide) rfl (fun ls hl => ?_)
                    obtain ⟨g9, hg1, hg2, hg3, hg4⟩ := isF_of hnf hc13
                    have hg5 := htk g9 (by omega)
                    have hl : lv_has ls 9 [(7, .int 0), (6, .int (nI g9)), (5, .int (wdF wd f9 at9)), (4, .int (nI (200 * f9))), (0, .ref h0), (1, .int (nI f9)), (2, .int (nI at9)), (3, .int (nI kn))] := by rw [← hg2]; exact hl
                    have lk : ∀ d9, ∀ (k9 : Nat), (tk g9 - k9) < d9 → (k9 ≤ tk g9) → (at9 + 2 + k9 ≤ ct f9) → (whV (wdF wd f9) (ct f9) kn at9 k9 = none) → ∀ (H : Heap) (locs : List Loc), Sw G A s.heap H locs [((ma 0), .inl (k 0, 4, .inl (fun i => nI (tk i)))), ((ma 1), .inl (k 0, 800, .inl wd)), ((ma 2), .inl (k 0, 4, .inl (fun i => nI (ct i)))), (h0, .inr (8, moL ma (va_up iv 0 (nI nf)) co))] → ∀ ls : Array Slot, lv_has ls 9 [(7, .int (nI k9)), (6, .int (nI g9)), (5, .int (wdF wd f9 at9)), (4, .int (nI (200 * f9))), (0, .ref h0), (1, .int (nI f9)), (2, .int (nI at9)), (3, .int (nI kn))] → W p l e { frames := 2, cells := 0, slots := 0, locals := 41 } s m [Value.ref h0, Value.int (nI f9), Value.int (nI at9), Value.int (nI kn)].toArray below meth c H locs 0 0 (MQ below (va_Qi (fun (r : Int32) (u : Unit) => r = bI (wh (wdF wd f9) tk nf (ct f9) at9 kn) ∧ True) (Po G k A (fun u => [(h0, .inr (8, moL ma (va_up iv 0 (nI nf)) co)), ((ma 0), .inl (k 0, 4, .inl (fun i => nI (tk i)))), ((ma 1), .inl (k 0, 800, .inl wd)), ((ma 2), .inl (k 0, 4, .inl (fun i => nI (ct i))))])) A) [Value.ref h0, Value.int (nI f9), Value.int (nI at9), Value.int (nI kn)].toArray s 0 0 A) (F0 m 152 ls []) := by
                      intro d9
                      induction d9 with
                      | zero => intro k9 hm; exact absurd hm (Nat.not_lt_zero _)
                      | succ d9 ih_lk =>
                        intro k9 hm hk hq hV H locs S ls hl
                        refine lv_iload hx hb d_Mo_wrongHead_152 (lv_at hl 0 rfl) ?_
                        refine lv_aload_n hx hb d_Mo_wrongHead_154 rfl (lv_at hl 4 rfl) ?_
                        refine r_get C K S 3 rfl rfl clOk_Mo 1 (by decide) wf_Mo_9 (v := .ref (ma 0)) rfl d_Mo_wrongHead_155 ?_
                        refine lv_iload hx hb d_Mo_wrongHead_158 (lv_at hl 1 rfl) ?_
                        refine r_iald C K S 0 rfl (i := nI g9) (show vp_in (nI g9) _ from vp_in_nI (n := g9) (by omega) (by decide)) (v := nI (tk g9)) (by rw [nI_clamp (by omega)]) d_Mo_wrongHead_160 ?_
                        refine z_icmp_ge (a := k9) (b := (tk g9)) (tgt := 226) hx hb d_Mo_wrongHead_161 (by decide) (by omega) (by omega) (fun hc14 => ?_) (fun hc14 => ?_)
                        · refine lv_iconst (v := (-1)) hx hb d_Mo_wrongHead_226 (by decide) ?_
                          exact r_iret C K rfl () ⟨(congrArg bI (show wh (wdF wd f9) tk nf (ct f9) at9 kn = none from (wh_f ⟨hc1, fun q => absurd q (Int32.not_lt.mpr hc2), hc3, hc4, hc5⟩ (by omega) hc8).trans ((if_neg (fun q => q ⟨hg3, hg4⟩)).trans (by rw [hg2, nI_clamp (by omega)]; exact (show whV _ _ _ _ (tk g9) = none from (show k9 = tk g9 by omega) ▸ hV))))).symm, trivial⟩ (S.sub [3, 0, 1, 2] (by decide) rfl) d_Mo_wrongHead_227 (Nat.le_of_ble_eq_true rfl) (Nat.le_of_ble_eq_true rfl)
                        · refine lv_iload_n hx hb d_Mo_wrongHead_164 rfl (lv_at hl 6 rfl) ?_
                          refine lv_iconst (v := 2) hx hb d_Mo_wrongHead_165 (by decide) ?_
                          refine z_iadd (x := nI at9) (y := 2) (v := nI (at9 + 2)) hx hb d_Mo_wrongHead_166 (nI_add at9 2) ?_
                          refine lv_iload hx hb d_Mo_wrongHead_167 (lv_at hl 0 rfl) ?_
                          refine z_iadd (x := nI (at9 + 2)) (y := nI k9) (v := nI (at9 + 2 + k9)) hx hb d_Mo_wrongHead_169 (nI_add (at9 + 2) k9) ?_
                          refine lv_aload_n hx hb d_Mo_wrongHead_170 rfl (lv_at hl 4 rfl) ?_
                          refine r_get C K S 3 rfl rfl clOk_Mo 3 (by decide) wf_Mo_16 (v := .ref (ma 2)) rfl d_Mo_wrongHead_171 ?_
                          refine lv_iload_n hx hb d_Mo_wrongHead_174 rfl (lv_at hl 5 rfl) ?_
                          refine r_iald C K S 2 rfl (i := nI f9) (show vp_in (nI f9) _ from vp_in_nI (n := f9) (by omega) (by decide)) (v := nI (ct f9)) (by rw [nI_clamp (by omega)]) d_Mo_wrongHead_175 ?_
                          refine z_icmp_ne (a := (at9 + 2 + k9)) (b := (ct f9)) (tgt := 186) hx hb d_Mo_wrongHead_176 (by decide) (by omega) (by omega) (fun hc15 => ?_) (fun hc15 => ?_)
                          · refine lv_aload_n hx hb d_Mo_wrongHead_186 rfl (lv_at hl 4 rfl) ?_
                            refine r_get C K S 3 rfl rfl clOk_Mo 2 (by decide) wf_Mo_13 (v := .ref (ma 1)) rfl d_Mo_wrongHead_187 ?_
                            refine lv_iload hx hb d_Mo_wrongHead_190 (lv_at hl 3 rfl) ?_
                            refine lv_iload_n hx hb d_Mo_wrongHead_192 rfl (lv_at hl 6 rfl) ?_
                            refine z_iadd (x := nI (200 * f9)) (y := nI at9) (v := nI (200 * f9 + at9)) hx hb d_Mo_wrongHead_193 (nI_add (200 * f9) at9) ?_
                            refine lv_iconst (v := 2) hx hb d_Mo_wrongHead_194 (by decide) ?_
                            refine z_iadd (x := nI (200 * f9 + at9)) (y := 2) (v := nI (200 * f9 + at9 + 2)) hx hb d_Mo_wrongHead_195 (nI_add (200 * f9 + at9) 2) ?_
                            refine lv_iload hx hb d_Mo_wrongHead_196 (lv_at hl 0 rfl) ?_
                            refine z_iadd (x := nI (200 * f9 + at9 + 2)) (y := nI k9) (v := nI (200 * f9 + at9 + 2 + k9)) hx hb d_Mo_wrongHead_198 (nI_add (200 * f9 + at9 + 2) k9) ?_
                            refine r_iald C K S 1 rfl (i := nI (200 * f9 + at9 + 2 + k9)) (show vp_in (nI (200 * f9 + at9 + 2 + k9)) _ from vp_in_nI (n := (200 * f9 + at9 + 2 + k9)) (by omega) (by decide)) (v := wdF wd f9 (at9 + 2 + k9)) (by rw [nI_clamp (by omega)]; exact (show wd (200 * f9 + at9 + 2 + k9) = wd (200 * f9 + (at9 + 2 + k9)) from congrArg wd (by omega))) d_Mo_wrongHead_199 ?_
                            refine lv_istore (lv' := [(8, .int (wdF wd f9 (at9 + 2 + k9))), (7, .int (nI k9)), (6, .int (nI g9)), (5, .int (wdF wd f9 at9)), (4, .int (nI (200 * f9))), (0, .ref h0), (1, .int (nI f9)), (2, .int (nI at9)), (3, .int (nI kn))]) hx hb d_Mo_wrongHead_200 hl (by decide) rfl (fun ls hl => ?_)
                            refine lv_iload hx hb d_Mo_wrongHead_202 (lv_at hl 0 rfl) ?_
                            refine lv_if_lt (tgt := 213) hx hb d_Mo_wrongHead_204 (by decide) (fun hc16 => ?_) (fun hc16 => ?_)
                            · refine lv_iload_n hx hb d_Mo_wrongHead_213 rfl (lv_at hl 7 rfl) ?_
                              refine lv_iconst (v := 2) hx hb d_Mo_wrongHead_214 (by decide) ?_
                              refine z_iadd (x := nI at9) (y := 2) (v := nI (at9 + 2)) hx hb d_Mo_wrongHead_215 (nI_add at9 2) ?_
                              refine lv_iload hx hb d_Mo_wrongHead_216 (lv_at hl 1 rfl) ?_
                              refine z_iadd (x := nI (at9 + 2)) (y := nI k9) (v := nI (at9 + 2 + k9)) hx hb d_Mo_wrongHead_218 (nI_add (at9 + 2) k9) ?_
                              exact r_iret C K rfl () ⟨(congrArg bI (show wh (wdF wd f9) tk nf (ct f9) at9 kn = some (at9 + 2 + k9) from (wh_f ⟨hc1, fun q => absurd q (Int32.not_lt.mpr hc2), hc3, hc4, hc5⟩ (by omega) hc8).trans ((if_neg (fun q => q ⟨hg3, hg4⟩)).trans (by rw [hg2, nI_clamp (by omega)]; exact (whV_bad hV (by omega) (by omega) (Or.inl hc16)))))).symm, trivial⟩ (S.sub [3, 0, 1, 2] (by decide) rfl) d_Mo_wrongHead_219 (Nat.le_of_ble_eq_true rfl) (Nat.le_of_ble_eq_true rfl)
                            · refine lv_iload hx hb d_Mo_wrongHead_207 (lv_at hl 0 rfl) ?_
                              refine lv_iload_n hx hb d_Mo_wrongHead_209 rfl (lv_at hl 8 rfl) ?_
                              refine lv_icmp_lt (tgt := 220) hx hb d_Mo_wrongHead_210 (by decide) (fun hc17 => ?_) (fun hc17 => ?_)
                              · refine lv_iinc (v := nI (k9 + 1)) (lv' := [(7, .int (nI (k9 + 1))), (8, .int (wdF wd f9 (at9 + 2 + k9))), (6, .int (nI g9)), (5, .int (wdF wd f9 at9)), (4, .int (nI (200 * f9))), (0, .ref h0), (1, .int (nI f9)), (2, .int (nI at9)), (3, .int (nI kn))]) hx hb d_Mo_wrongHead_220 hl (k := 1) rfl (show nI k9 + Int32.ofInt 1 = nI (k9 + 1) from (nI_add k9 1).trans (congrArg nI (by omega))) (by decide) rfl (fun ls hl => ?_)
                                refine lv_goto (tgt := 152) hx hb d_Mo_wrongHead_223 (by decide) ?_
                                exact ih_lk (k9 + 1) (by omega) (by omega) (by omega) (whV_ok hV (by omega) hc16 hc17) _ _ (S.sub [0, 1, 2, 3] (by decide) rfl) ls (lv_sub hl [0, 2, 3, 4, 5, 6, 7, 8] rfl)
                              · refine lv_iload_n hx hb d_Mo_wrongHead_213 rfl (lv_at hl 7 rfl) ?_
                                refine lv_iconst (v := 2) hx hb d_Mo_wrongHead_214 (by decide) ?_
                                refine z_iadd (x := nI at9) (y := 2) (v := nI (at9 + 2)) hx hb d_Mo_wrongHead_215 (nI_add at9 2) ?_
                                refine lv_iload hx hb d_Mo_wrongHead_216 (lv_at hl 1 rfl) ?_
                                refine z_iadd (x := nI (at9 + 2)) (y := nI k9) (v := nI (at9 + 2 + k9)) hx hb d_Mo_wrongHead_218 (nI_add (at9 + 2) k9) ?_
                                exact r_iret C K rfl () ⟨(congrArg bI (show wh (wdF wd f9) tk nf (ct f9) at9 kn = some (at9 + 2 + k9) from (wh_f ⟨hc1, fun q => absurd q (Int32.not_lt.mpr hc2), hc3, hc4, hc5⟩ (by omega) hc8).trans ((if_neg (fun q => q ⟨hg3, hg4⟩)).trans (by rw [hg2, nI_clamp (by omega)]; exact (whV_bad hV (by omega) (by omega) (Or.inr hc17)))))).symm, trivial⟩ (S.sub [3, 0, 1, 2] (by decide) rfl) d_Mo_wrongHead_219 (Nat.le_of_ble_eq_true rfl) (Nat.le_of_ble_eq_true rfl)
                          · refine lv_aload_n hx hb d_Mo_wrongHead_179 rfl (lv_at hl 4 rfl) ?_
                            refine r_get C K S 3 rfl rfl clOk_Mo 3 (by decide) wf_Mo_16 (v := .ref (ma 2)) rfl d_Mo_wrongHead_180 ?_
                            refine lv_iload_n hx hb d_Mo_wrongHead_183 rfl (lv_at hl 5 rfl) ?_
                            refine r_iald C K S 2 rfl (i := nI f9) (show vp_in (nI f9) _ from vp_in_nI (n := f9) (by omega) (by decide)) (v := nI (ct f9)) (by rw [nI_clamp (by omega)]) d_Mo_wrongHead_184 ?_
                            exact r_iret C K rfl () ⟨(congrArg bI (show wh (wdF wd f9) tk nf (ct f9) at9 kn = some (ct f9) from (wh_f ⟨hc1, fun q => absurd q (Int32.not_lt.mpr hc2), hc3, hc4, hc5⟩ (by omega) hc8).trans ((if_neg (fun q => q ⟨hg3, hg4⟩)).trans (by rw [hg2, nI_clamp (by omega)]; exact (whV_end hV (by omega) (by omega)))))).symm, trivial⟩ (S.sub [3, 0, 1, 2] (by decide) rfl) d_Mo_wrongHead_185 (Nat.le_of_ble_eq_true rfl) (Nat.le_of_ble_eq_true rfl)
                    exact lk _ 0 (Nat.lt_succ_self _) (by omega) (by omega) rfl _ _ (S.sub [0, 1, 2, 3] (by decide) rfl) ls (lv_sub hl [0, 1, 2, 3, 4, 5, 6, 7] rfl)
                  · refine lv_iload_n hx hb d_Mo_wrongHead_145 rfl (lv_at hl 5 rfl) ?_
                    refine lv_iconst (v := 1) hx hb d_Mo_wrongHead_146 (by decide) ?_
                    refine z_iadd (x := nI at9) (y := 1) (v := nI (at9 + 1)) hx hb d_Mo_wrongHead_147 (nI_add at9 1) ?_
                    exact r_iret C K rfl () ⟨(congrArg bI (show wh (wdF wd f9) tk nf (ct f9) at9 kn = some (at9 + 1) from (wh_f ⟨hc1, fun q => absurd q (Int32.not_lt.mpr hc2), hc3, hc4, hc5⟩ (by omega) hc8).trans (if_pos (isF_no hc13)))).symm, trivial⟩ (S.sub [3, 0, 1, 2] (by decide) rfl) d_Mo_wrongHead_148 (Nat.le_of_ble_eq_true rfl) (Nat.le_of_ble_eq_true rfl)
                · refine lv_iload hx hb d_Mo_wrongHead_117 (lv_at hl 0 rfl) ?_
                  refine lv_if_lt (tgt := 128) hx hb d_Mo_wrongHead_119 (by decide) (fun hc18 => ?_) (fun hc18 => ?_)
                  · refine lv_iload_n hx hb d_Mo_wrongHead_128 rfl (lv_at hl 5 rfl) ?_
                    refine lv_iconst (v := 1) hx hb d_Mo_wrongHead_129 (by decide) ?_
                    refine z_iadd (x := nI at9) (y := 1) (v := nI (at9 + 1)) hx hb d_Mo_wrongHead_130 (nI_add at9 1) ?_
                    refine lv_goto (tgt := 135) hx hb d_Mo_wrongHead_131 (by decide) ?_
                    exact r_iret C K rfl () ⟨(congrArg bI (show wh (wdF wd f9) tk nf (ct f9) at9 kn = some (at9 + 1) from (wh_e ⟨hc1, fun q => absurd q (Int32.not_lt.mpr hc2), hc3, hc4, hc5⟩ (by omega) hc7 hc8).trans (if_pos (Or.inl hc18)))).symm, trivial⟩ (S.sub [0, 1, 2, 3] (by decide) rfl) d_Mo_wrongHead_135 (Nat.le_of_ble_eq_true rfl) (Nat.le_of_ble_eq_true rfl)
                  · refine lv_iload hx hb d_Mo_wrongHead_122 (lv_at hl 0 rfl) ?_
                    refine lv_iload_n hx hb d_Mo_wrongHead_124 rfl (lv_at hl 6 rfl) ?_
                    refine lv_icmp_lt (tgt := 134) hx hb d_Mo_wrongHead_125 (by decide) (fun hc19 => ?_) (fun hc19 => ?_)
                    · refine lv_iconst (v := (-1)) hx hb d_Mo_wrongHead_134 (by decide) ?_
                      exact r_iret C K rfl () ⟨(congrArg bI (show wh (wdF wd f9) tk nf (ct f9) at9 kn = none from (wh_e ⟨hc1, fun q => absurd q (Int32.not_lt.mpr hc2), hc3, hc4, hc5⟩ (by omega) hc7 hc8).trans (if_neg (fun q => q.elim hc18 (fun z => z hc19))))).symm, trivial⟩ (S.sub [0, 1, 2, 3] (by decide) rfl) d_Mo_wrongHead_135 (Nat.le_of_ble_eq_true rfl) (Nat.le_of_ble_eq_true rfl)
                    · refine lv_iload_n hx hb d_Mo_wrongHead_128 rfl (lv_at hl 5 rfl) ?_
                      refine lv_iconst (v := 1) hx hb d_Mo_wrongHead_129 (by decide) ?_
                      refine z_iadd (x := nI at9) (y := 1) (v := nI (at9 + 1)) hx hb d_Mo_wrongHead_130 (nI_add at9 1) ?_
                      refine lv_goto (tgt := 135) hx hb d_Mo_wrongHead_131 (by decide) ?_
                      exact r_iret C K rfl () ⟨(congrArg bI (show wh (wdF wd f9) tk nf (ct f9) at9 kn = some (at9 + 1) from (wh_e ⟨hc1, fun q => absurd q (Int32.not_lt.mpr hc2), hc3, hc4, hc5⟩ (by omega) hc7 hc8).trans (if_pos (Or.inr hc19)))).symm, trivial⟩ (S.sub [0, 1, 2, 3] (by decide) rfl) d_Mo_wrongHead_135 (Nat.le_of_ble_eq_true rfl) (Nat.le_of_ble_eq_true rfl)
              · refine lv_iload hx hb d_Mo_wrongHead_90 (lv_at hl 0 rfl) ?_
                refine lv_if_lt (tgt := 103) hx hb d_Mo_wrongHead_92 (by decide) (fun hc20 => ?_) (fun hc20 => ?_)
                · refine lv_iload_n hx hb d_Mo_wrongHead_103 rfl (lv_at hl 5 rfl) ?_
                  refine lv_iconst (v := 1) hx hb d_Mo_wrongHead_104 (by decide) ?_
                  refine z_iadd (x := nI at9) (y := 1) (v := nI (at9 + 1)) hx hb d_Mo_wrongHead_105 (nI_add at9 1) ?_
                  refine lv_goto (tgt := 110) hx hb d_Mo_wrongHead_106 (by decide) ?_
                  exact r_iret C K rfl () ⟨(congrArg bI (show wh (wdF wd f9) tk nf (ct f9) at9 kn = some (at9 + 1) from (wh_d ⟨hc1, fun q => absurd q (Int32.not_lt.mpr hc2), hc3, hc4, hc5⟩ (by omega) hc7).trans (if_pos (Or.inl hc20)))).symm, trivial⟩ (S.sub [0, 1, 2, 3] (by decide) rfl) d_Mo_wrongHead_110 (Nat.le_of_ble_eq_true rfl) (Nat.le_of_ble_eq_true rfl)
                · refine lv_iload hx hb d_Mo_wrongHead_95 (lv_at hl 0 rfl) ?_
                  refine lv_sipush (v := 1000) hx hb d_Mo_wrongHead_97 (by decide) ?_
                  refine lv_icmp_le (tgt := 109) hx hb d_Mo_wrongHead_100 (by decide) (fun hc21 => ?_) (fun hc21 => ?_)
                  · refine lv_iconst (v := (-1)) hx hb d_Mo_wrongHead_109 (by decide) ?_
                    exact r_iret C K rfl () ⟨(congrArg bI (show wh (wdF wd f9) tk nf (ct f9) at9 kn = none from (wh_d ⟨hc1, fun q => absurd q (Int32.not_lt.mpr hc2), hc3, hc4, hc5⟩ (by omega) hc7).trans (if_neg (fun q => q.elim hc20 (fun z => absurd z (Int32.not_lt.mpr hc21)))))).symm, trivial⟩ (S.sub [0, 1, 2, 3] (by decide) rfl) d_Mo_wrongHead_110 (Nat.le_of_ble_eq_true rfl) (Nat.le_of_ble_eq_true rfl)
                  · refine lv_iload_n hx hb d_Mo_wrongHead_103 rfl (lv_at hl 5 rfl) ?_
                    refine lv_iconst (v := 1) hx hb d_Mo_wrongHead_104 (by decide) ?_
                    refine z_iadd (x := nI at9) (y := 1) (v := nI (at9 + 1)) hx hb d_Mo_wrongHead_105 (nI_add at9 1) ?_
                    refine lv_goto (tgt := 110) hx hb d_Mo_wrongHead_106 (by decide) ?_
                    exact r_iret C K rfl () ⟨(congrArg bI (show wh (wdF wd f9) tk nf (ct f9) at9 kn = some (at9 + 1) from (wh_d ⟨hc1, fun q => absurd q (Int32.not_lt.mpr hc2), hc3, hc4, hc5⟩ (by omega) hc7).trans (if_pos (Or.inr (Int32.not_le.mp hc21))))).symm, trivial⟩ (S.sub [0, 1, 2, 3] (by decide) rfl) d_Mo_wrongHead_110 (Nat.le_of_ble_eq_true rfl) (Nat.le_of_ble_eq_true rfl)
            · refine lv_aload_n hx hb d_Mo_wrongHead_64 rfl (lv_at hl 2 rfl) ?_
              refine r_get C K S 0 rfl rfl clOk_Mo 3 (by decide) wf_Mo_16 (v := .ref (ma 2)) rfl d_Mo_wrongHead_65 ?_
              refine lv_iload_n hx hb d_Mo_wrongHead_68 rfl (lv_at hl 3 rfl) ?_
              refine r_iald C K S 3 rfl (i := nI f9) (show vp_in (nI f9) _ from vp_in_nI (n := f9) (by omega) (by decide)) (v := nI (ct f9)) (by rw [nI_clamp (by omega)]) d_Mo_wrongHead_69 ?_
              exact r_iret C K rfl () ⟨(congrArg bI (show wh (wdF wd f9) tk nf (ct f9) at9 kn = some (ct f9) from wh_c ⟨hc1, fun q => absurd q (Int32.not_lt.mpr hc2), hc3, hc4, hc5⟩ (by omega))).symm, trivial⟩ (S.sub [0, 1, 2, 3] (by decide) rfl) d_Mo_wrongHead_70 (Nat.le_of_ble_eq_true rfl) (Nat.le_of_ble_eq_true rfl)
          · refine lv_iconst (v := (-1)) hx hb d_Mo_wrongHead_50 (by decide) ?_
            exact r_iret C K rfl () ⟨(congrArg bI (show wh (wdF wd f9) tk nf (ct f9) at9 kn = none from wh_b hc1 (Int32.not_lt.mpr hc2) (Or.inr (Or.inr hc5)))).symm, trivial⟩ (S.sub [0, 1, 2, 3] (by decide) rfl) d_Mo_wrongHead_51 (Nat.le_of_ble_eq_true rfl) (Nat.le_of_ble_eq_true rfl)
    · refine lv_iload_n hx hb d_Mo_wrongHead_30 rfl (lv_at hl 4 rfl) ?_
      exact r_iret C K rfl () ⟨(congrArg bI (show wh (wdF wd f9) tk nf (ct f9) at9 kn = some (at9) from wh_a (Or.inr (Int32.not_le.mp hc2)))).symm, trivial⟩ (S.sub [0, 1, 2, 3] (by decide) rfl) d_Mo_wrongHead_31 (Nat.le_of_ble_eq_true rfl) (Nat.le_of_ble_eq_true rfl)
