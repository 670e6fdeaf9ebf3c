/-! what the cells hold while the table is laid -/
def lyB (un i : Nat) (sm T : Nat → Int) : Prop := T 3997 = 1 ∧ ∀ x, x < i → T (42 * x) = 0 ∧ (∀ j, j < un → T (42 * x + (j + 1)) = sm (41 * x + j)) ∧ T (42 * x + 41) = sm (41 * x + 40)
theorem lyB_keep {un i c : Nat} {sm T : Nat → Int} {v : Int} (h : lyB un i sm T) (hu : un ≤ 40) (h1 : 42 * i ≤ c) (h2 : c < 3990) : lyB un i sm (va_up T c v) := by
  refine ⟨by rw [va_up_ne _ _ (by omega)]; exact h.1, fun x hx => ?_⟩
  obtain ⟨a, b, d⟩ := h.2 x hx
  refine ⟨by rw [va_up_ne _ _ (by omega)]; exact a, fun j hj => ?_, by rw [va_up_ne _ _ (by omega)]; exact d⟩
  rw [va_up_ne _ _ (by omega)]
  exact b j hj
def lyR (un i j : Nat) (sm T : Nat → Int) : Prop := T (42 * i) = 0 ∧ ∀ x, x < j → T (42 * i + (x + 1)) = sm (41 * i + x)
theorem lyR_0 {un i : Nat} {sm T : Nat → Int} : lyR un i 0 sm (va_up T (42 * i + 0) 0) := ⟨va_up_self _ _ _, fun _ h => absurd h (Nat.not_lt_zero _)⟩
theorem lyR_s {un i j : Nat} {sm T : Nat → Int} (h : lyR un i j sm T) : lyR un i (j + 1) sm (va_up T (42 * i + (j + 1)) (sm (41 * i + j))) := by
  refine ⟨by rw [va_up_ne _ _ (by omega)]; exact h.1, fun x hx => ?_⟩
  by_cases q : x = j
  · rw [q, va_up_self]
  · rw [va_up_ne _ _ (by omega)]; exact h.2 x (by omega)
theorem lyB_s {un i : Nat} {sm T : Nat → Int} (h : lyB un i sm T) (hr : lyR un i un sm T) (hu : un ≤ 40) (hi : 42 * i + 41 < 3990) : lyB un (i + 1) sm (va_up T (42 * i + 41) (sm (41 * i + 40))) := by
  have hk := lyB_keep (c := 42 * i + 41) (v := sm (41 * i + 40)) h hu (by omega) (by omega)
  refine ⟨hk.1, fun x hx => ?_⟩
  by_cases q : x = i
  · subst q
    refine ⟨by rw [va_up_ne _ _ (by omega)]; exact hr.1, fun j hj => ?_, va_up_self _ _ _⟩
    rw [va_up_ne _ _ (by omega)]
    exact hr.2 j hj
  · exact hk.2 x (by omega)
/-- q rows of aims are empty, and k9 cells of the next -/
def lyC (un rows q k9 : Nat) (T : Nat → Int) : Prop := (∀ x, x < q → ∀ j, isC un j → T (42 * (rows + x) + j) = 0) ∧ ∀ j, j < k9 → T (42 * (rows + q) + j) = 0
theorem lyC_0 {un rows : Nat} {T : Nat → Int} : lyC un rows 0 0 T := ⟨fun _ h => absurd h (Nat.not_lt_zero _), fun _ h => absurd h (Nat.not_lt_zero _)⟩
theorem lyC_s {un rows q k9 : Nat} {T : Nat → Int} (h : lyC un rows q k9 T) (hu : un ≤ 40) : lyC un rows q (k9 + 1) (va_up T (42 * (rows + q) + k9) 0) := by
  refine ⟨fun x hx j hj => ?_, fun j hj => ?_⟩
  · have := isC_lt hu hj
    rw [va_up_ne _ _ (by omega)]
    exact h.1 x hx j hj
  · by_cases w : j = k9
    · rw [w, va_up_self]
    · rw [va_up_ne _ _ (by omega)]; exact h.2 j (by omega)
theorem lyC_n {un rows q : Nat} {T : Nat → Int} (h : lyC un rows q (un + 1) T) (hu : un ≤ 40) : lyC un rows (q + 1) 0 (va_up T (42 * (rows + q) + 41) 0) := by
  refine ⟨fun x hx j hj => ?_, fun _ h => absurd h (Nat.not_lt_zero _)⟩
  have hj2 := isC_lt hu hj
  by_cases w : x = q
  · subst w
    rcases hj with hj | hj
    · rw [va_up_ne _ _ (by omega)]; exact h.2 j (by omega)
    · rw [hj, va_up_self]
  · rw [va_up_ne _ _ (by omega)]; exact h.1 x (by omega) j hj
/-- the aims, for the first k9 unknowns that are sought -/
def lyD (un rows fst tk k9 : Nat) (T : Nat → Int) : Prop := ∀ q, q < tk + 2 → ∀ j, isC un j → T (42 * (rows + q) + j) = if q = 0 then (if fst + 1 ≤ j ∧ j ≤ fst + k9 ∧ j ≤ un then 1 else 0) else if j = fst + q ∧ q ≤ k9 then 1 else 0
theorem lyD_0 {un rows fst tk : Nat} {T : Nat → Int} (h : lyC un rows (tk + 2) 0 T) : lyD un rows fst tk 0 T := by
  intro q hq j hj
  rw [h.1 q hq j hj]
  by_cases w : q = 0
  · rw [if_pos w, if_neg (by omega)]
  · rw [if_neg w, if_neg (by omega)]
theorem lyD_s {un rows fst tk k9 : Nat} {T : Nat → Int} (h : lyD un rows fst tk k9 T) (hu : un ≤ 40) (hk : k9 ≤ tk) (hf : fst + tk + 1 ≤ un) : lyD un rows fst tk (k9 + 1) (va_up (va_up T (42 * rows + (fst + k9 + 1)) 1) (42 * (rows + 1 + k9) + (fst + k9 + 1)) 1) := by
  intro q hq j hj
  have hj2 := isC_lt hu hj
  have h0 := h q hq j hj
  by_cases w : q = 0
  · subst w
    rw [va_up_ne _ _ (by omega), if_pos rfl]
    rw [if_pos rfl] at h0
    by_cases w2 : j = fst + k9 + 1
    · rw [w2, show rows + 0 = rows from rfl, va_up_self, if_pos (by omega)]
    · rw [va_up_ne _ _ (by omega), h0]
      by_cases w3 : fst + 1 ≤ j ∧ j ≤ fst + k9 ∧ j ≤ un
      · rw [if_pos w3, if_pos (by omega)]
      · rw [if_neg w3, if_neg (by omega)]
  · rw [if_neg w] at h0 ⊢
    by_cases w2 : q = k9 + 1 ∧ j = fst + k9 + 1
    · obtain ⟨rfl, rfl⟩ := w2
      rw [show rows + (k9 + 1) = rows + 1 + k9 by omega, va_up_self, if_pos (by omega)]
    · rw [va_up_ne _ _ (by omega), va_up_ne _ _ (by omega), h0]
      by_cases w3 : j = fst + q ∧ q ≤ k9
      · rw [if_pos w3, if_pos (by omega)]
      · rw [if_neg w3, if_neg (by omega)]
theorem ly_done {un rows fst tk : Nat} {sm T : Nat → Int} (hB : lyB un rows sm T) (hD : lyD un rows fst tk (tk + 1) T) : layO un rows 0 fst tk sm T := by
  refine ⟨hB.1, fun i hi => ⟨(hB.2 i hi).1, (hB.2 i hi).2.1, (hB.2 i hi).2.2⟩, fun q hq j hj => ?_⟩
  rw [hD q hq j hj]
  by_cases w : q = 0
  · rw [if_pos w, if_pos w]
    rfl
  · rw [if_neg w, if_neg w]
    by_cases w3 : j = fst + q
    · rw [if_pos ⟨w3, by omega⟩, if_pos w3]
    · rw [if_neg (fun x => w3 x.1), if_neg w3]
