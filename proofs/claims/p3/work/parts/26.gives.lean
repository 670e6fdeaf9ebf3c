/-- a column that makes the aims fall has a row that stops it, where the aims can't fall below 0 -/
theorem bl_first : ∀ (K : Nat) (v : Nat → Rat), bl_neg K v → ∃ q, q < K ∧ v q < 0
  | 0, _, h => h.elim
  | K + 1, v, h => by
    rcases h with h | ⟨-, h⟩
    · exact ⟨0, by omega, h⟩
    · obtain ⟨q, hq, e⟩ := bl_first K _ h
      exact ⟨q + 1, by omega, e⟩
theorem bl_gives {X : (Nat → Rat) → Prop} {obj : Nat → (Nat → Rat) → Rat} {n R K : Nat} {cn rn : Nat → Nat} {a : Nat → Nat → Rat} {b : Nat → Rat} {c : Nat → Nat → Rat} {z : Nat → Rat} {s : Nat} (hS : bl_says X obj n R K cn rn a b c z) (hb : ∀ i, i < R → 0 ≤ b i) (hpos : ∀ x, X x → (∀ j, j < n → 0 ≤ x (cn j)) → (∀ i, i < R → 0 ≤ x (rn i)) → ∀ q, q < K → 0 ≤ obj q x) (hs : s < n) (hc : bl_neg K (fun q => c q s)) : ∃ i, i < R ∧ a i s < 0 := by
  by_cases w : ∃ i, i < R ∧ a i s < 0
  · exact w
  · have na : ∀ i, i < R → 0 ≤ a i s := fun i hi => by
      by_cases q : a i s < 0
      · exact absurd ⟨i, hi, q⟩ w
      · grind
    obtain ⟨q, hq, hn⟩ := bl_first K _ hc
    have hn : c q s < 0 := hn
    have ray : ∀ t : Rat, 0 ≤ t → 0 ≤ z q + c q s * t := by
      intro t ht
      obtain ⟨x, hx, hy⟩ := hS.2 (fun j => if j = s then t else 0)
      have h1 := hpos x hx (fun j hj => by
        rw [hy j hj]
        show 0 ≤ (if j = s then t else 0)
        split
        · exact ht
        · exact Rat.le_refl) (fun i hi => by
        rw [(hS.1 x hx).1 i hi, bl_sum_one hs (fun j hj e => by rw [hy j hj, if_neg e]; grind), hy s hs, if_pos rfl]
        have h2 := Rat.mul_nonneg (na i hi) ht
        have h3 := hb i hi
        grind) q hq
      rw [(hS.1 x hx).2 q hq, bl_sum_one hs (fun j hj e => by rw [hy j hj, if_neg e]; grind), hy s hs, if_pos rfl] at h1
      exact h1
    have z0 : 0 ≤ z q := by have := ray 0 (by grind); grind
    have hi : c q s * (c q s)⁻¹ = 1 := Rat.mul_inv_cancel _ (by grind)
    have ni : (c q s)⁻¹ < 0 := by
      by_cases p : (c q s)⁻¹ < 0
      · exact p
      · have := Rat.mul_nonneg (show 0 ≤ - c q s by grind) (show 0 ≤ (c q s)⁻¹ by grind)
        grind
    have h4 := Rat.mul_nonneg (show 0 ≤ - (c q s)⁻¹ by grind) (show 0 ≤ z q + 1 by grind)
    have h5 := ray ((- (c q s)⁻¹) * (z q + 1)) h4
    have h6 : c q s * ((- (c q s)⁻¹) * (z q + 1)) = - (z q + 1) := by
      rw [← Rat.mul_assoc, Rat.mul_neg, hi, Rat.neg_mul, Rat.one_mul]
    rw [h6] at h5
    clear ray h4 h6 ni hi
    have h7 : z q + -(z q + 1) = -1 := by grind
    rw [h7] at h5
    exact absurd h5 (by decide)
