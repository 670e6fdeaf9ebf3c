/-! the reference's choices: which column comes, which row gives; a table with its names, and an exchange of it -/
def shL (rn : Nat → Nat) (a p : Nat → Int) (i x : Nat) : Prop := a i * p x < a x * p i ∨ (a i * p x = a x * p i ∧ rn i ≤ rn x)
theorem shr_le {a b c p q r : Int} (hp : 0 < p) (hq : 0 < q) (hr : 0 < r) (h1 : a * q ≤ b * p) (h2 : b * r ≤ c * q) : a * r ≤ c * p := by
  have e1 : a * q * r ≤ b * p * r := Int.mul_le_mul_of_nonneg_right h1 (by omega)
  have e2 : b * r * p ≤ c * q * p := Int.mul_le_mul_of_nonneg_right h2 (by omega)
  have e3 : b * p * r = b * r * p := by rw [Int.mul_assoc, Int.mul_comm p r, ← Int.mul_assoc]
  have e4 : (a * r) * q = a * q * r := by rw [Int.mul_assoc, Int.mul_comm r q, ← Int.mul_assoc]
  have e5 : (c * p) * q = c * q * p := by rw [Int.mul_assoc, Int.mul_comm p q, ← Int.mul_assoc]
  exact Int.le_of_mul_le_mul_right (by rw [e4, e5]; omega) hq
theorem shr_lt {a b c p q r : Int} (hp : 0 < p) (hq : 0 < q) (hr : 0 < r) (h : (a * q < b * p ∧ b * r ≤ c * q) ∨ (a * q ≤ b * p ∧ b * r < c * q)) : a * r < c * p := by
  have e3 : b * p * r = b * r * p := by rw [Int.mul_assoc, Int.mul_comm p r, ← Int.mul_assoc]
  have e4 : (a * r) * q = a * q * r := by rw [Int.mul_assoc, Int.mul_comm r q, ← Int.mul_assoc]
  have e5 : (c * p) * q = c * q * p := by rw [Int.mul_assoc, Int.mul_comm p q, ← Int.mul_assoc]
  rcases h with ⟨h1, h2⟩ | ⟨h1, h2⟩
  · have e1 : a * q * r < b * p * r := Int.mul_lt_mul_of_pos_right h1 hr
    have e2 : b * r * p ≤ c * q * p := Int.mul_le_mul_of_nonneg_right h2 (by omega)
    exact Int.lt_of_mul_lt_mul_right (by rw [e4, e5]; omega) (Int.le_of_lt hq)
  · have e1 : a * q * r ≤ b * p * r := Int.mul_le_mul_of_nonneg_right h1 (by omega)
    have e2 : b * r * p < c * q * p := Int.mul_lt_mul_of_pos_right h2 hp
    exact Int.lt_of_mul_lt_mul_right (by rw [e4, e5]; omega) (Int.le_of_lt hq)
theorem shL_trans {rn : Nat → Nat} {a p : Nat → Int} {i x y : Nat} (hi : 0 < p i) (hx : 0 < p x) (hy : 0 < p y) (h1 : shL rn a p i x) (h2 : shL rn a p x y) : shL rn a p i y := by
  unfold shL at *
  rcases h1 with h1 | ⟨h1, n1⟩
  · rcases h2 with h2 | ⟨h2, n2⟩
    · exact Or.inl (shr_lt hi hx hy (Or.inl ⟨h1, by omega⟩))
    · exact Or.inl (shr_lt hi hx hy (Or.inl ⟨h1, by omega⟩))
  · rcases h2 with h2 | ⟨h2, n2⟩
    · exact Or.inl (shr_lt hi hx hy (Or.inr ⟨by omega, h2⟩))
    · refine Or.inr ⟨?_, by omega⟩
      have e1 := shr_le hi hx hy (Int.le_of_eq h1) (Int.le_of_eq h2)
      have e2 := shr_le hy hx hi (Int.le_of_eq h2.symm) (Int.le_of_eq h1.symm)
      omega
/-- the row of the first k that gives -/
def gvO (T : Nat → Int) (rn : Nat → Nat) (s k : Nat) : Option Nat → Prop
  | none => ∀ i, i < k → ¬ T (42 * i + s) < 0
  | some r => r < k ∧ T (42 * r + s) < 0 ∧ ∀ i, i < k → T (42 * i + s) < 0 → shL rn (fun i => T (42 * i + 41)) (fun i => - T (42 * i + s)) r i
theorem gvO_0 (T : Nat → Int) (rn : Nat → Nat) (s : Nat) : gvO T rn s 0 none := fun _ h => absurd h (Nat.not_lt_zero _)
theorem gvO_no {T : Nat → Int} {rn : Nat → Nat} {s k : Nat} {b : Option Nat} (h : gvO T rn s k b) (hk : ¬ T (42 * k + s) < 0) : gvO T rn s (k + 1) b := by
  cases b with
  | none =>
    intro i hi
    by_cases q : i = k
    · subst q; exact hk
    · exact h i (by omega)
  | some r =>
    refine ⟨by have := h.1; omega, h.2.1, fun i hi hi2 => ?_⟩
    by_cases q : i = k
    · subst q; exact absurd hi2 hk
    · exact h.2.2 i (by omega) hi2
theorem gvO_first {T : Nat → Int} {rn : Nat → Nat} {s k : Nat} (h : gvO T rn s k none) (hk : T (42 * k + s) < 0) : gvO T rn s (k + 1) (some k) := by
  refine ⟨by omega, hk, fun i hi hi2 => ?_⟩
  by_cases q : i = k
  · subst q; exact Or.inr ⟨rfl, Nat.le_refl _⟩
  · exact absurd hi2 (h i (by omega))
theorem gvO_new {T : Nat → Int} {rn : Nat → Nat} {s k r : Nat} (h : gvO T rn s k (some r)) (hk : T (42 * k + s) < 0) (hn : shL rn (fun i => T (42 * i + 41)) (fun i => - T (42 * i + s)) k r) : gvO T rn s (k + 1) (some k) := by
  refine ⟨by omega, hk, fun i hi hi2 => ?_⟩
  by_cases q : i = k
  · subst q; exact Or.inr ⟨rfl, Nat.le_refl _⟩
  · exact shL_trans (by show 0 < - _; omega) (by show 0 < - _; have := h.2.1; omega) (by show 0 < - _; omega) hn (h.2.2 i (by omega) hi2)
theorem gvO_old {T : Nat → Int} {rn : Nat → Nat} {s k r : Nat} (h : gvO T rn s k (some r)) (hn : shL rn (fun i => T (42 * i + 41)) (fun i => - T (42 * i + s)) r k) : gvO T rn s (k + 1) (some r) := by
  refine ⟨by have := h.1; omega, h.2.1, fun i hi hi2 => ?_⟩
  by_cases q : i = k
  · subst q; exact hn
  · exact h.2.2 i (by omega) hi2
/-- the column of the first k that comes -/
def cmO (T : Nat → Int) (cn : Nat → Nat) (from9 many gone k : Nat) : Option Nat → Prop
  | none => ∀ j, j < k → j ≠ gone → ¬ sxN many (fun q => T (42 * (from9 + q) + j))
  | some s => s < k ∧ s ≠ gone ∧ sxN many (fun q => T (42 * (from9 + q) + s)) ∧ ∀ j, j < k → j ≠ gone → sxN many (fun q => T (42 * (from9 + q) + j)) → cn s ≤ cn j
theorem cmO_0 (T : Nat → Int) (cn : Nat → Nat) (a b c : Nat) : cmO T cn a b c 0 none := fun _ h => absurd h (Nat.not_lt_zero _)
theorem cmO_no {T : Nat → Int} {cn : Nat → Nat} {a m g k : Nat} {b : Option Nat} (h : cmO T cn a m g k b) (hk : k = g ∨ ¬ sxN m (fun q => T (42 * (a + q) + k))) : cmO T cn a m g (k + 1) b := by
  cases b with
  | none =>
    intro i hi hg
    by_cases q : i = k
    · subst q; exact hk.resolve_left hg
    · exact h i (by omega) hg
  | some r =>
    refine ⟨by have := h.1; omega, h.2.1, h.2.2.1, fun i hi hg hi2 => ?_⟩
    by_cases q : i = k
    · subst q; exact absurd hi2 (hk.resolve_left hg)
    · exact h.2.2.2 i (by omega) hg hi2
theorem cmO_first {T : Nat → Int} {cn : Nat → Nat} {a m g k : Nat} (h : cmO T cn a m g k none) (hg : k ≠ g) (hk : sxN m (fun q => T (42 * (a + q) + k))) : cmO T cn a m g (k + 1) (some k) := by
  refine ⟨by omega, hg, hk, fun i hi hig hi2 => ?_⟩
  by_cases q : i = k
  · subst q; exact Nat.le_refl _
  · exact absurd hi2 (h i (by omega) hig)
theorem cmO_new {T : Nat → Int} {cn : Nat → Nat} {a m g k s : Nat} (h : cmO T cn a m g k (some s)) (hg : k ≠ g) (hk : sxN m (fun q => T (42 * (a + q) + k))) (hn : cn k < cn s) : cmO T cn a m g (k + 1) (some k) := by
  refine ⟨by omega, hg, hk, fun i hi hig hi2 => ?_⟩
  by_cases q : i = k
  · subst q; exact Nat.le_refl _
  · have := h.2.2.2 i (by omega) hig hi2; omega
theorem cmO_old {T : Nat → Int} {cn : Nat → Nat} {a m g k s : Nat} (h : cmO T cn a m g k (some s)) (hn : ¬ cn k < cn s) : cmO T cn a m g (k + 1) (some s) := by
  refine ⟨by have := h.1; omega, h.2.1, h.2.2.1, fun i hi hig hi2 => ?_⟩
  by_cases q : i = k
  · subst q; omega
  · exact h.2.2.2 i (by omega) hig hi2
/-- a table with its names, all rows at 0 or above -/
def nmR (un rows : Nat) (rn : Nat → Nat) : Nat → Nat := fun i => if i < rows then rn i else un + 1 + i
def tabJ (un rows M : Nat) (F : Nat → Nat → Int) (cn rn : Nat → Nat) (T : Nat → Int) : Prop := (∃ e, sxT (un + 1) F M (nmR un rows rn) cn e (tC un T) (T 3997)) ∧ bl_apart (un + 1) rows cn rn ∧ sxAll (un + 1) rows (un + 1 + rows) cn rn
def tabI (un rows M : Nat) (F : Nat → Nat → Int) (cn rn : Nat → Nat) (T : Nat → Int) : Prop := tabJ un rows M F cn rn T ∧ ∀ i, i < rows → 0 ≤ T (42 * i + 41)
theorem tabJ_next {un rows M r s : Nat} {F : Nat → Nat → Int} {cn rn : Nat → Nat} {T W : Nat → Int} (hu : un ≤ 40) (hs : s ≤ un) (hr : r < rows) (hM : rows ≤ M) (h : tabJ un rows M F cn rn T) (hp : T (42 * r + s) ≠ 0) (hW : exOK un M r s T W) : tabJ un rows M F (va_up cn s (rn r)) (va_up rn r (cn s)) W ∧ bl_next (un + 1) rows cn rn (va_up cn s (rn r)) (va_up rn r (cn s)) s r := by
  obtain ⟨⟨e, h1⟩, h2, h3⟩ := h
  have nx : bl_next (un + 1) rows cn rn (va_up cn s (rn r)) (va_up rn r (cn s)) s r := by
    refine ⟨fun j hj => ?_, fun i hi => ?_⟩
    · by_cases q : j = s
      · rw [if_pos q, q, va_up_self]
      · rw [if_neg q, va_up_ne _ _ q]
    · by_cases q : i = r
      · rw [if_pos q, q, va_up_self]
      · rw [if_neg q, va_up_ne _ _ q]
  refine ⟨⟨⟨_, tC_next hu hs (by omega) h1 hp hW (fun i hi => ?_) (fun j hj => ?_)⟩, sx_apart (by omega) hr h2 nx, sx_all (by omega) hr h2 nx h3⟩, nx⟩
  · unfold nmR
    by_cases q : i < rows
    · rw [if_pos q, if_pos q]
      exact nx.2 i q
    · rw [if_neg q, if_neg q, if_neg (by omega)]
  · unfold nmR
    rw [if_pos hr]
    exact nx.1 j hj
theorem tabI_next {un rows M r s : Nat} {F : Nat → Nat → Int} {cn rn : Nat → Nat} {T W : Nat → Int} (hu : un ≤ 40) (hs : s ≤ un) (hr : r < rows) (hM : rows ≤ M) (h : tabI un rows M F cn rn T) (hg : gvO T rn s rows (some r)) (hW : exOK un M r s T W) : tabI un rows M F (va_up cn s (rn r)) (va_up rn r (cn s)) W := by
  have hp := hg.2.1
  refine ⟨(tabJ_next hu hs hr hM h.1 (by omega) hW).1, ?_⟩
  obtain ⟨e, h1⟩ := h.1.1
  have e41 : ∀ (X : Nat → Int) i, tC un X i (un + 1) = X (42 * i + 41) := fun X i => by unfold tC; rw [cj_n]
  have es : ∀ (X : Nat → Int) i, tC un X i s = X (42 * i + s) := fun X i => by unfold tC; rw [cj_s hs]
  have := sx_feas (n := un + 1) (R := rows) (t := tC un T) (t' := tC un W) (one := T 3997) (r := r) (s := s) h1.2.2.1 hr (fun i hi => by rw [e41]; exact h.2 i hi) (by rw [es]; exact hp)
    (fun i hi hi2 => by
      rw [es] at hi2
      rw [e41, e41, es, es]
      rcases hg.2.2 i hi hi2 with q | q
      · exact Int.le_of_lt q
      · exact Int.le_of_eq q.1)
    (fun i hi hir => by
      rw [e41, e41, e41, es, es]
      exact hW.1 i (by omega) hir 41 (Or.inr rfl) (by omega))
    (by
      rw [e41, e41, es]
      exact hW.2.2.1 41 (Or.inr rfl) (by omega))
  intro i hi
  have h5 := this i hi
  rw [e41] at h5
  exact h5
/-- one step of the rule -/
theorem tabI_run {un rows M r s K A gone m from9 : Nat} {F : Nat → Nat → Int} {cn rn : Nat → Nat} {T W : Nat → Int} (hu : un ≤ 40) (hs : s ≤ un) (hr : r < rows) (hM : rows ≤ M) (h : tabI un rows M F cn rn T) (hg : gvO T rn s rows (some r)) (hc : cmO T cn from9 K gone (un + 1) (some s)) (hA : ∀ q, q < K → from9 + q < M ∧ nmR un rows rn (from9 + q) = A + q) (hW : exOK un M r s T W) (hrun : sxRun (un + 1) F rows K A gone (un + 1 + rows) m cn rn) : sxRun (un + 1) F rows K A gone (un + 1 + rows) (m + 1) (va_up cn s (rn r)) (va_up rn r (cn s)) := by
  have hp := hg.2.1
  have hn := tabI_next hu hs hr hM h hg hW
  have nx := (tabJ_next hu hs hr hM h.1 (by omega) hW).2
  obtain ⟨e, h1⟩ := h.1.1
  obtain ⟨e', h1'⟩ := hn.1.1
  have e41 : ∀ (X : Nat → Int) i, tC un X i (un + 1) = X (42 * i + 41) := fun X i => by unfold tC; rw [cj_n]
  have ej : ∀ (X : Nat → Int) i j, j ≤ un → tC un X i j = X (42 * i + j) := fun X i j hj => by unfold tC; rw [cj_s hj]
  refine sxRun_s hrun h1 hM (fun i hi => if_pos hi) (fun q => from9 + q) hA (by omega) hc.2.1 hr ?_ (fun j hj hjg hn => ?_) (by rw [ej T r s hs]; exact hp) (fun i hi hi2 hb1 hb2 => ?_) h1' (fun i hi => if_pos hi) nx hn.1.2.1 (fun i hi => by rw [e41]; exact hn.2 i hi) (fun j hj => hn.1.2.2.2.1 j hj)
  · have := hc.2.2.1
    have e0 : (fun q => tC un T (from9 + q) s) = fun q => T (42 * (from9 + q) + s) := by funext q; exact ej T _ s hs
    rw [e0]; exact this
  · have e0 : (fun q => tC un T (from9 + q) j) = fun q => T (42 * (from9 + q) + j) := by funext q; exact ej T _ j (by omega)
    rw [e0] at hn
    exact hc.2.2.2 j hj hjg hn
  · rw [ej T i s hs] at hi2
    rw [e41] at hb1 hb2
    rcases hg.2.2 i hi hi2 with q | q
    · have q : T (42 * r + 41) * - T (42 * i + s) < T (42 * i + 41) * - T (42 * r + s) := q
      rw [hb1, hb2, Int.zero_mul, Int.zero_mul] at q
      exact absurd q (Int.lt_irrefl _)
    · exact q.2
theorem tabI_start {un rows M K A gone : Nat} {F : Nat → Nat → Int} {cn rn : Nat → Nat} {T : Nat → Int} (hM : rows ≤ M) (h : tabI un rows M F cn rn T) : sxRun (un + 1) F rows K A gone (un + 1 + rows) 0 cn rn := by
  obtain ⟨e, h1⟩ := h.1.1
  exact sxRun_0 h1 hM (fun i hi => if_pos hi) h.1.2.1 (fun i hi => by unfold tC; rw [cj_n]; exact h.2 i hi) (fun j hj => h.1.2.2.2.1 j hj)
/-- in the second phase some row gives -/
theorem tabI_gives {un rows M K gone s : Nat} {F : Nat → Nat → Int} {cn rn : Nat → Nat} {T : Nat → Int} (hM : rows + K ≤ M) (h : tabI un rows M F cn rn T) (hF : ∀ v, v < un + 1 → ∀ c, c < un + 2 → F v c = if v = c then 1 else 0) (hpos : ∀ q, q < K → ∀ c, c < un + 2 → 0 ≤ F (un + 1 + rows + q) c) (hc : cmO T cn rows K gone (un + 1) (some s)) : ∃ i, i < rows ∧ T (42 * i + s) < 0 := by
  obtain ⟨e, h1⟩ := h.1.1
  have hs : s ≤ un := by have := hc.1; omega
  have ej : ∀ (X : Nat → Int) i j, j ≤ un → tC un X i j = X (42 * i + j) := fun X i j hj => by unfold tC; rw [cj_s hj]
  have := sx_gives (n := un + 1) (R := rows) (K := K) (A := un + 1 + rows) (V := un + 1 + rows) (rn := rn) h1 (by omega) (fun i hi => if_pos hi) (fun q => rows + q) (fun q hq => ⟨by omega, by unfold nmR; rw [if_neg (by omega)]; omega⟩) (fun i hi => by unfold tC; rw [cj_n]; exact h.2 i hi) hF hpos (by omega) h.1.2.2 (s := s) (by omega) (by
    have e0 : (fun q => tC un T (rows + q) s) = fun q => T (42 * (rows + q) + s) := by funext q; exact ej T _ s hs
    rw [e0]; exact hc.2.2.1)
  obtain ⟨i, hi, h2⟩ := this
  rw [ej T i s hs] at h2
  exact ⟨i, hi, h2⟩
/-- the first exchange of the first phase -/
theorem tabI_enter {un rows M r : Nat} {F : Nat → Nat → Int} {cn rn : Nat → Nat} {T W : Nat → Int} (hu : un ≤ 40) (hr : r < rows) (hM : rows ≤ M) (h : tabJ un rows M F cn rn T) (h1 : T 3997 = 1) (hone : ∀ i, i < rows → T (42 * i) = 1) (hworst : T (42 * r + 41) < 0 ∧ ∀ i, i < rows → T (42 * r + 41) ≤ T (42 * i + 41)) (hW : exOK un M r 0 T W) : tabI un rows M F (va_up cn 0 (rn r)) (va_up rn r (cn 0)) W := by
  have e0 : T (42 * r + 0) = 1 := hone r hr
  refine ⟨(tabJ_next hu (by omega) hr hM h (by rw [e0]; decide) hW).1, fun i hi => ?_⟩
  have hS : sxS (T (42 * r + 0)) = 1 := by rw [e0]; rfl
  by_cases q : i = r
  · subst q
    rw [hW.2.2.1 41 (Or.inr rfl) (by omega), hS]
    omega
  · rw [hW.1 i (by omega) q 41 (Or.inr rfl) (by omega), hS, e0, h1, Int.ediv_one, Int.one_mul, Int.one_mul, show 42 * i + 0 = 42 * i from rfl, hone i hi, Int.one_mul]
    have := hworst.2 i hi
    omega
