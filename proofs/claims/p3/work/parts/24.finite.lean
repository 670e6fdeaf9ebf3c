/-! a run of Bland's rule is finite: the columns' names are finitely many -/
theorem ph : ∀ (N : Nat) (f : Nat → Nat), (∀ k, k ≤ N → f k < N) → ∃ i j, i < j ∧ j ≤ N ∧ f i = f j
  | 0, f, h => absurd (h 0 (Nat.le_refl 0)) (by omega)
  | N + 1, f, h => by
    by_cases w : ∃ i, i ≤ N ∧ f i = f (N + 1)
    · obtain ⟨i, hi, e⟩ := w
      exact ⟨i, N + 1, by omega, Nat.le_refl _, e⟩
    · have nv : ∀ i, i ≤ N → f i ≠ f (N + 1) := fun i hi q => w ⟨i, hi, q⟩
      have hv := h (N + 1) (Nat.le_refl _)
      obtain ⟨i, j, hij, hj, e⟩ := ph N (fun k => if f k = N then f (N + 1) else f k) (fun k hk => by
        have h1 := h k (by omega)
        have h2 := nv k hk
        show (if f k = N then f (N + 1) else f k) < N
        split <;> omega)
      refine ⟨i, j, hij, by omega, ?_⟩
      have e : (if f i = N then f (N + 1) else f i) = (if f j = N then f (N + 1) else f j) := e
      have n1 := nv i (by omega)
      have n2 := nv j hj
      by_cases q1 : f i = N
      · by_cases q2 : f j = N
        · rw [q1, q2]
        · rw [if_pos q1, if_neg q2] at e
          exact absurd e.symm n2
      · by_cases q2 : f j = N
        · rw [if_neg q1, if_pos q2] at e
          exact absurd e n1
        · rw [if_neg q1, if_neg q2] at e
          exact e
def cd (V : Nat) : Nat → (Nat → Nat) → Nat
  | 0, _ => 0
  | n + 1, f => cd V n f + f n * V ^ n
theorem cd_lt {V : Nat} : ∀ (n : Nat) (f : Nat → Nat), (∀ j, j < n → f j < V) → cd V n f < V ^ n
  | 0, _, _ => by simp [cd]
  | n + 1, f, h => by
    have h1 := cd_lt n f (fun j hj => h j (by omega))
    have h2 : (f n + 1) * V ^ n ≤ V * V ^ n := Nat.mul_le_mul_right _ (h n (by omega))
    rw [cd, Nat.pow_succ, Nat.mul_comm (V ^ n) V]
    rw [Nat.add_mul, Nat.one_mul] at h2
    omega
theorem cd_inj {V : Nat} : ∀ (n : Nat) (f g : Nat → Nat), (∀ j, j < n → f j < V) → (∀ j, j < n → g j < V) → cd V n f = cd V n g → ∀ j, j < n → f j = g j
  | 0, _, _, _, _, _ => fun j hj => by omega
  | n + 1, f, g, hf, hg, e => by
    have h1 := cd_lt n f (fun j hj => hf j (by omega))
    have h2 := cd_lt n g (fun j hj => hg j (by omega))
    rw [cd, cd] at e
    have hp : 0 < V ^ n := by omega
    have e1 : f n = g n := by
      have a1 : (cd V n f + f n * V ^ n) / V ^ n = f n := by rw [Nat.add_mul_div_right _ _ hp, Nat.div_eq_of_lt h1, Nat.zero_add]
      have a2 : (cd V n g + g n * V ^ n) / V ^ n = g n := by rw [Nat.add_mul_div_right _ _ hp, Nat.div_eq_of_lt h2, Nat.zero_add]
      rw [← a1, ← a2, e]
    have e2 : cd V n f = cd V n g := by rw [e1] at e; omega
    intro j hj
    by_cases q : j = n
    · rw [q]; exact e1
    · exact cd_inj n f g (fun j hj => hf j (by omega)) (fun j hj => hg j (by omega)) e2 j (by omega)
/-- a run of m steps of the rule -/
def bl_run (X : (Nat → Rat) → Prop) (obj : Nat → (Nat → Rat) → Rat) (n R K gone V m : Nat) (cn rn : Nat → Nat → Nat) (a : Nat → Nat → Nat → Rat) (b : Nat → Nat → Rat) (c : Nat → Nat → Nat → Rat) (z : Nat → Nat → Rat) (s r : Nat → Nat) : Prop :=
  (∀ k, k ≤ m → bl_says X obj n R K (cn k) (rn k) (a k) (b k) (c k) (z k)) ∧ (∀ k, k ≤ m → bl_apart n R (cn k) (rn k)) ∧ (∀ k, k ≤ m → ∀ i, i < R → 0 ≤ b k i) ∧ (∀ k, k < m → bl_rule n R K gone (cn k) (rn k) (a k) (b k) (c k) (s k) (r k)) ∧ (∀ k, k < m → bl_next n R (cn k) (rn k) (cn (k + 1)) (rn (k + 1)) (s k) (r k)) ∧ ∀ k, k ≤ m → ∀ j, j < n → cn k j < V
theorem bl_finite {X : (Nat → Rat) → Prop} {obj : Nat → (Nat → Rat) → Rat} {n R K gone V m : Nat} {cn rn : Nat → Nat → Nat} {a : Nat → Nat → Nat → Rat} {b : Nat → Nat → Rat} {c : Nat → Nat → Nat → Rat} {z : Nat → Nat → Rat} {s r : Nat → Nat} (h : bl_run X obj n R K gone V m cn rn a b c z s r) : m < V ^ n := by
  obtain ⟨h1, h2, h3, h4, h5, h6⟩ := h
  rcases Nat.lt_or_ge m (V ^ n) with q | q
  · exact q
  · obtain ⟨i, j, hij, hj, e⟩ := ph (V ^ n) (fun k => if k ≤ m then cd V n (cn k) else 0) (fun k hk => by
      show (if k ≤ m then cd V n (cn k) else 0) < V ^ n
      rw [if_pos (by omega)]
      exact cd_lt n _ (h6 k (by omega)))
    have e : (if i ≤ m then cd V n (cn i) else 0) = (if j ≤ m then cd V n (cn j) else 0) := e
    rw [if_pos (by omega), if_pos (by omega)] at e
    have e2 := cd_inj n (cn i) (cn j) (h6 i (by omega)) (h6 j (by omega)) e
    exact (bl_no_cycle (m := j - i) (cn := fun k => cn (i + k)) (rn := fun k => rn (i + k)) (a := fun k => a (i + k)) (b := fun k => b (i + k)) (c := fun k => c (i + k)) (z := fun k => z (i + k)) (s := fun k => s (i + k)) (r := fun k => r (i + k)) (gone := gone) (by omega) (fun k hk => h1 (i + k) (by omega)) (fun k hk => h2 (i + k) (by omega)) (fun k hk => h3 (i + k) (by omega)) (fun k hk => h4 (i + k) (by omega)) (fun k hk => h5 (i + k) (by omega)) (fun p hp => by
      show cn (i + (j - i)) p = cn (i + 0) p
      rw [show i + (j - i) = j by omega, Nat.add_zero]
      exact (e2 p hp).symm)).elim
/-- one step more -/
theorem bl_run_s {X : (Nat → Rat) → Prop} {obj : Nat → (Nat → Rat) → Rat} {n R K gone V m : Nat} {cn rn : Nat → Nat → Nat} {a : Nat → Nat → Nat → Rat} {b : Nat → Nat → Rat} {c : Nat → Nat → Nat → Rat} {z : Nat → Nat → Rat} {s r : Nat → Nat} (h : bl_run X obj n R K gone V m cn rn a b c z s r) {cn' rn' : Nat → Nat} {a' : Nat → Nat → Rat} {b' : Nat → Rat} {c' : Nat → Nat → Rat} {z' : Nat → Rat} {s' r' : Nat} (h1 : bl_says X obj n R K cn' rn' a' b' c' z') (h2 : bl_apart n R cn' rn') (h3 : ∀ i, i < R → 0 ≤ b' i) (h4 : bl_rule n R K gone (cn m) (rn m) (a m) (b m) (c m) s' r') (h5 : bl_next n R (cn m) (rn m) cn' rn' s' r') (h6 : ∀ j, j < n → cn' j < V) :
    bl_run X obj n R K gone V (m + 1) (fun k => if k ≤ m then cn k else cn') (fun k => if k ≤ m then rn k else rn') (fun k => if k ≤ m then a k else a') (fun k => if k ≤ m then b k else b') (fun k => if k ≤ m then c k else c') (fun k => if k ≤ m then z k else z') (fun k => if k < m then s k else s') (fun k => if k < m then r k else r') := by
  obtain ⟨g1, g2, g3, g4, g5, g6⟩ := h
  refine ⟨fun k hk => ?_, fun k hk => ?_, fun k hk => ?_, fun k hk => ?_, fun k hk => ?_, fun k hk => ?_⟩
  · by_cases q : k ≤ m
    · simp only [if_pos q]; exact g1 k q
    · simp only [if_neg q]; exact h1
  · by_cases q : k ≤ m
    · simp only [if_pos q]; exact g2 k q
    · simp only [if_neg q]; exact h2
  · by_cases q : k ≤ m
    · simp only [if_pos q]; exact g3 k q
    · simp only [if_neg q]; exact h3
  · have q : k ≤ m := by omega
    by_cases q2 : k < m
    · simp only [if_pos q, if_pos q2]; exact g4 k q2
    · have : k = m := by omega
      subst this
      simp only [if_pos q, if_neg q2]; exact h4
  · have q : k ≤ m := by omega
    by_cases q2 : k < m
    · have q3 : k + 1 ≤ m := by omega
      simp only [if_pos q, if_pos q2, if_pos q3]; exact g5 k q2
    · have : k = m := by omega
      subst this
      have q3 : ¬ k + 1 ≤ k := by omega
      simp only [if_pos q, if_neg q2, if_neg q3]; exact h5
  · by_cases q : k ≤ m
    · simp only [if_pos q]; exact g6 k q
    · simp only [if_neg q]; exact h6
