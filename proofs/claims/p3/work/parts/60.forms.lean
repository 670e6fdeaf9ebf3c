/-! the forms that the reference lays: unknowns, conditions, aims -/
def rfF (un rows h fst tk : Nat) (sm : Nat → Int) : Nat → Nat → Int := fun v c =>
  if v < un + 1 then (if v = c then 1 else 0)
  else if v < un + 1 + rows then (if c = 0 then (h : Int) else if c = un + 1 then sm (41 * (v - (un + 1)) + 40) else if c ≤ un then sm (41 * (v - (un + 1)) + (c - 1)) else 0)
  else if v = un + 1 + rows then (if fst + 1 ≤ c ∧ c ≤ fst + tk + 1 then 1 else 0)
  else if v ≤ un + 1 + rows + tk + 1 then (if c = fst + (v - (un + 1 + rows)) then 1 else 0) else 0
theorem rfF_unit {un rows h fst tk : Nat} {sm : Nat → Int} : ∀ v, v < un + 1 → ∀ c, c < un + 2 → rfF un rows h fst tk sm v c = if v = c then 1 else 0 := fun v hv c _ => if_pos hv
theorem rfF_pos {un rows h fst tk : Nat} {sm : Nat → Int} (q : Nat) (c : Nat) : 0 ≤ rfF un rows h fst tk sm (un + 1 + rows + q) c := by
  unfold rfF
  rw [if_neg (by omega), if_neg (by omega)]
  split
  · split <;> decide
  · split
    · split <;> decide
    · decide
theorem dt_nm_le {n : Nat} {f : Nat → Int} {B : Nat} (h : ∀ i, i < n → (f i).natAbs ≤ B) : dt_nm n f ≤ n * B := by
  induction n with
  | zero => show 0 ≤ _; omega
  | succ n ih =>
    rw [dt_nm_s, Nat.succ_mul]
    have := ih (fun i hi => h i (by omega))
    have := h n (by omega)
    omega
theorem dt_nm_congr {n : Nat} {f g : Nat → Int} (h : ∀ i, i < n → f i = g i) : dt_nm n f = dt_nm n g := by
  induction n with
  | zero => rfl
  | succ n ih => rw [dt_nm_s, dt_nm_s, ih (fun i hi => h i (by omega)), h n (by omega)]
theorem dt_nm_up {m n : Nat} (h : m ≤ n) (f : Nat → Int) : dt_nm m f ≤ dt_nm n f := by
  obtain ⟨d, rfl⟩ : ∃ d, n = m + d := ⟨n - m, by omega⟩
  clear h
  induction d with
  | zero => exact Nat.le_refl _
  | succ d ih => rw [← Nat.add_assoc, dt_nm_s]; omega
theorem rfF_nm {un rows h fst tk : Nat} {sm : Nat → Int} (hu : un ≤ 40) (hh : h ≤ 1) (hs : ∀ i, i < rows → dt_nm 41 (fun j => sm (41 * i + j)) ≤ 65000) (v : Nat) : dt_nm (un + 2) (rfF un rows h fst tk sm v) ≤ 65535 := by
  by_cases q1 : v < un + 1
  · have := dt_nm_le (n := un + 2) (f := rfF un rows h fst tk sm v) (B := 1) (fun c _ => by
      unfold rfF
      rw [if_pos q1]
      split <;> decide)
    omega
  · by_cases q2 : v < un + 1 + rows
    · have e : ∀ c, rfF un rows h fst tk sm v c = (if c = 0 then (h : Int) else if c = un + 1 then sm (41 * (v - (un + 1)) + 40) else if c ≤ un then sm (41 * (v - (un + 1)) + (c - 1)) else 0) := fun c => by
        unfold rfF; rw [if_neg q1, if_pos q2]
      have h1 := hs (v - (un + 1)) (by omega)
      generalize v - (un + 1) = i at *
      rw [dt_nm_s, dt_nm_first, e, e, if_pos rfl, if_neg (by omega), if_pos rfl]
      rw [dt_nm_s] at h1
      have h2 : dt_nm un (fun i9 => rfF un rows h fst tk sm v (i9 + 1)) = dt_nm un (fun j => sm (41 * i + j)) := dt_nm_congr (fun j hj => by
        rw [e, if_neg (by omega), if_neg (by omega), if_pos (by omega), Nat.add_sub_cancel])
      have h3 := dt_nm_up hu (fun j => sm (41 * i + j))
      rw [h2]
      have h4 : ((h : Int)).natAbs = h := by omega
      rw [h4]
      omega
    · have := dt_nm_le (n := un + 2) (f := rfF un rows h fst tk sm v) (B := 1) (fun c _ => by
        unfold rfF
        rw [if_neg q1, if_neg q2]
        split
        · split <;> decide
        · split
          · split <;> decide
          · decide)
      omega
/-- the cells as they are laid -/
def layO (un rows h fst tk : Nat) (sm T : Nat → Int) : Prop := T 3997 = 1 ∧ (∀ i, i < rows → T (42 * i) = h ∧ (∀ j, j < un → T (42 * i + (j + 1)) = sm (41 * i + j)) ∧ T (42 * i + 41) = sm (41 * i + 40)) ∧ ∀ q, q < tk + 2 → ∀ j, isC un j → T (42 * (rows + q) + j) = if q = 0 then (if fst + 1 ≤ j ∧ j ≤ fst + tk + 1 ∧ j ≤ un then 1 else 0) else if j = fst + q then 1 else 0
theorem tabJ_first {un rows h fst tk : Nat} {sm T : Nat → Int} {cn rn : Nat → Nat} (hu : un ≤ 40) (hf : fst + tk + 1 ≤ un) (h0 : layO un rows h fst tk sm T) (hc : ∀ j, j < un + 1 → cn j = j) (hr : ∀ i, i < rows → rn i = un + 1 + i) : tabJ un rows (rows + (tk + 2)) (rfF un rows h fst tk sm) cn rn T := by
  obtain ⟨g1, g2, g3⟩ := h0
  refine ⟨⟨1, ?_⟩, ⟨fun i j hi hj q => ?_, fun i j hi hj q => ?_, fun i j hi hj q => ?_⟩, fun v hv => ?_, fun j hj => ?_, fun i hi => ?_⟩
  · rw [g1]
    refine sx_first rfF_unit (fun i hi j hj => ?_) hc
    unfold tC
    by_cases q : i < rows
    · have h1 := g2 i q
      have e : nmR un rows rn i = un + 1 + i := by unfold nmR; rw [if_pos q, hr i q]
      rw [e]
      unfold rfF
      rw [if_neg (by omega), if_pos (by omega), show un + 1 + i - (un + 1) = i by omega]
      by_cases q1 : j = 0
      · subst q1
        rw [if_pos rfl, cj_s (Nat.zero_le _)]
        exact h1.1
      · rw [if_neg q1]
        by_cases q2 : j = un + 1
        · subst q2
          rw [if_pos rfl, cj_n]
          exact h1.2.2
        · rw [if_neg q2, if_pos (by omega), cj_s (by omega)]
          have := h1.2.1 (j - 1) (by omega)
          rw [show j - 1 + 1 = j by omega] at this
          exact this
    · obtain ⟨p, rfl⟩ : ∃ p, i = rows + p := ⟨i - rows, by omega⟩
      have h1 := g3 p (by omega) (cj un j) (cj_is un j)
      have e : nmR un rows rn (rows + p) = un + 1 + rows + p := by unfold nmR; rw [if_neg q]; omega
      have eF : rfF un rows h fst tk sm (un + 1 + rows + p) j = if p = 0 then (if fst + 1 ≤ j ∧ j ≤ fst + tk + 1 then 1 else 0) else if j = fst + p then 1 else 0 := by
        unfold rfF
        rw [if_neg (by omega), if_neg (by omega)]
        by_cases q0 : p = 0
        · rw [if_pos (by omega), if_pos q0]
        · rw [if_neg (by omega), if_pos (by omega), if_neg q0, show un + 1 + rows + p - (un + 1 + rows) = p by omega]
      rw [e, h1, eF]
      by_cases q0 : p = 0
      · rw [if_pos q0, if_pos q0]
        by_cases q1 : j ≤ un
        · rw [cj_s q1]
          by_cases q2 : fst + 1 ≤ j ∧ j ≤ fst + tk + 1
          · rw [if_pos ⟨q2.1, q2.2, q1⟩, if_pos q2]
          · rw [if_neg (fun w => q2 ⟨w.1, w.2.1⟩), if_neg q2]
        · have : cj un j = 41 := if_neg q1
          rw [this, if_neg (by omega), if_neg (by omega)]
      · rw [if_neg q0, if_neg q0]
        by_cases q1 : j ≤ un
        · rw [cj_s q1]
        · have : cj un j = 41 := if_neg q1
          rw [this, if_neg (by omega), if_neg (by omega)]
  · rw [hc i hi, hc j hj] at q; exact q
  · rw [hr i hi, hr j hj] at q; omega
  · rw [hr i hi, hc j hj] at q; omega
  · by_cases q : v < un + 1
    · exact Or.inl ⟨v, q, hc v q⟩
    · exact Or.inr ⟨v - (un + 1), by omega, by rw [hr _ (by omega)]; omega⟩
  · rw [hc j hj]; omega
  · rw [hr i hi]; omega
