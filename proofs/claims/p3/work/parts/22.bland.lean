/-! Bland's rule, with aims in their order (the first that isn't 0 decides), over fractions: no table comes again. Pure: a table is known by what it says of the solutions. -/
def bl_sum : Nat → (Nat → Rat) → Rat
  | 0, _ => 0
  | n + 1, f => bl_sum n f + f n
theorem bl_sum_s (n : Nat) (f : Nat → Rat) : bl_sum (n + 1) f = bl_sum n f + f n := rfl
theorem bl_sum_congr {n : Nat} {f g : Nat → Rat} (h : ∀ i, i < n → f i = g i) : bl_sum n f = bl_sum n g := by
  induction n with
  | zero => rfl
  | succ n ih => rw [bl_sum_s, bl_sum_s, ih (fun i hi => h i (by omega)), h n (by omega)]
theorem bl_sum_0 {n : Nat} {f : Nat → Rat} (h : ∀ i, i < n → f i = 0) : bl_sum n f = 0 := by
  induction n with
  | zero => rfl
  | succ n ih => rw [bl_sum_s, ih (fun i hi => h i (by omega)), h n (by omega)]; grind
theorem bl_sum_one {n s : Nat} (hs : s < n) {f : Nat → Rat} (h : ∀ i, i < n → i ≠ s → f i = 0) : bl_sum n f = f s := by
  induction n with
  | zero => omega
  | succ n ih =>
    rw [bl_sum_s]
    by_cases h1 : s = n
    · subst h1
      rw [bl_sum_0 (fun i hi => h i (by omega) (by omega))]
      grind
    · rw [ih (by omega) (fun i hi => h i (by omega)), h n (by omega) (fun e => h1 e.symm)]
      grind
theorem bl_sum_sub (n : Nat) (f g : Nat → Rat) : bl_sum n f - bl_sum n g = bl_sum n (fun i => f i - g i) := by
  induction n with
  | zero => simp only [bl_sum]; grind
  | succ n ih => rw [bl_sum_s, bl_sum_s, bl_sum_s, ← ih]; grind
/-- the first that isn't 0 is below 0 -/
def bl_neg : Nat → (Nat → Rat) → Prop
  | 0, _ => False
  | K + 1, v => v 0 < 0 ∨ (v 0 = 0 ∧ bl_neg K (fun q => v (q + 1)))
theorem bl_neg_congr : ∀ (K : Nat) {u v : Nat → Rat}, (∀ q, q < K → u q = v q) → bl_neg K u → bl_neg K v
  | 0, _, _, _, h => h
  | K + 1, u, v, e, h => by
    have e0 := e 0 (by omega)
    rcases h with h | ⟨h1, h2⟩
    · exact Or.inl (by rw [← e0]; exact h)
    · exact Or.inr ⟨by rw [← e0]; exact h1, bl_neg_congr K (fun q hq => e (q + 1) (by omega)) h2⟩
theorem bl_neg_0 : ∀ K, ¬ bl_neg K (fun _ => 0)
  | 0, h => h
  | K + 1, h => by
    rcases h with h | ⟨h1, h2⟩
    · exact absurd h (by grind)
    · exact bl_neg_0 K h2
/-- what is not below 0 adds up -/
theorem bl_nn_add : ∀ (K : Nat) {u v : Nat → Rat}, ¬ bl_neg K u → ¬ bl_neg K v → ¬ bl_neg K (fun q => u q + v q)
  | 0, _, _, h, _, _ => h (by assumption)
  | K + 1, u, v, hu, hv, h => by
    have u0 : ¬ u 0 < 0 := fun q => hu (Or.inl q)
    have v0 : ¬ v 0 < 0 := fun q => hv (Or.inl q)
    rcases h with h | ⟨h1, h2⟩
    · have h : u 0 + v 0 < 0 := h
      grind
    · have h1 : u 0 + v 0 = 0 := h1
      have e1 : u 0 = 0 := by grind
      have e2 : v 0 = 0 := by grind
      exact bl_nn_add K (fun q => hu (Or.inr ⟨e1, q⟩)) (fun q => hv (Or.inr ⟨e2, q⟩)) h2
theorem bl_nn_scale : ∀ (K : Nat) {u : Nat → Rat} {x : Rat}, ¬ bl_neg K u → 0 ≤ x → ¬ bl_neg K (fun q => u q * x)
  | 0, _, _, h, _, _ => h (by assumption)
  | K + 1, u, x, hu, hx, h => by
    have u0 : ¬ u 0 < 0 := fun q => hu (Or.inl q)
    have u1 : 0 ≤ u 0 := by grind
    have p := Rat.mul_nonneg u1 hx
    rcases h with h | ⟨h1, h2⟩
    · have h : u 0 * x < 0 := h
      grind
    · by_cases hz : x = 0
      · subst hz
        exact bl_neg_0 K (bl_neg_congr K (fun q _ => by show u (q + 1) * 0 = 0; grind) h2)
      · have h1 : u 0 * x = 0 := h1
        have e1 : u 0 = 0 := by
          rcases Rat.mul_eq_zero.mp h1 with e | e
          · exact e
          · exact absurd e hz
        exact bl_nn_scale K (fun q => hu (Or.inr ⟨e1, q⟩)) hx h2
/-- below 0, times what is below 0 -/
theorem bl_neg_turn : ∀ (K : Nat) {u : Nat → Rat} {x : Rat}, bl_neg K u → x ≤ 0 → ¬ bl_neg K (fun q => u q * x)
  | 0, _, _, h, _, _ => h
  | K + 1, u, x, hu, hx, h => by
    have nx : 0 ≤ - x := by grind
    rcases hu with h0 | ⟨h0, h1⟩
    · have p := Rat.mul_nonneg (show 0 ≤ - u 0 by grind) nx
      have p : 0 ≤ u 0 * x := by grind
      rcases h with h | ⟨h3, h4⟩
      · have h : u 0 * x < 0 := h
        grind
      · have h3 : u 0 * x = 0 := h3
        have e : x = 0 := by
          rcases Rat.mul_eq_zero.mp h3 with e | e
          · grind
          · exact e
        subst e
        exact bl_neg_0 K (bl_neg_congr K (fun q _ => by show u (q + 1) * 0 = 0; grind) h4)
    · rcases h with h | ⟨h3, h4⟩
      · have h : u 0 * x < 0 := h
        rw [h0] at h
        grind
      · exact bl_neg_turn K h1 hx h4
theorem bl_nn_sum (K : Nat) : ∀ (n : Nat) (f : Nat → Nat → Rat), (∀ j, j < n → ¬ bl_neg K (fun q => f q j)) → ¬ bl_neg K (fun q => bl_sum n (f q))
  | 0, f, _, h => bl_neg_0 K h
  | n + 1, f, hf, h => bl_nn_add K (bl_nn_sum K n f (fun j hj => hf j (by omega))) (hf n (by omega)) h
/-- above 0: adds to what is not below 0; it never is 0 -/
theorem bl_pos_add : ∀ (K : Nat) {u v : Nat → Rat}, bl_neg K (fun q => - u q) → ¬ bl_neg K v → bl_neg K (fun q => - (u q + v q))
  | 0, _, _, h, _ => h
  | K + 1, u, v, hu, hv => by
    have v0 : ¬ v 0 < 0 := fun q => hv (Or.inl q)
    rcases hu with h | ⟨h1, h2⟩
    · refine Or.inl ?_
      have h : - u 0 < 0 := h
      show - (u 0 + v 0) < 0
      grind
    · have h1 : - u 0 = 0 := h1
      by_cases e : v 0 = 0
      · refine Or.inr ⟨by show - (u 0 + v 0) = 0; grind, bl_pos_add K h2 (fun q => hv (Or.inr ⟨e, q⟩))⟩
      · refine Or.inl ?_
        show - (u 0 + v 0) < 0
        grind
theorem bl_pos_scale : ∀ (K : Nat) {u : Nat → Rat} {x : Rat}, bl_neg K u → 0 < x → bl_neg K (fun q => - (- (u q * x)))
  | 0, _, _, h, _ => h
  | K + 1, u, x, hu, hx => by
    rcases hu with h | ⟨h1, h2⟩
    · refine Or.inl ?_
      have p := Rat.mul_pos (show 0 < - u 0 by grind) hx
      show - (- (u 0 * x)) < 0
      grind
    · refine Or.inr ⟨?_, bl_pos_scale K h2 hx⟩
      show - (- (u 0 * x)) = 0
      rw [h1]
      grind
