/-! tables in whole numbers: what both solvers hold, up to a sign; Bland's rule over them -/
theorem dt_unit : ∀ n, dt n (fun i j => if i = j then 1 else 0) = 1
  | 0 => rfl
  | n + 1 => by
    show dt_sum (n + 1) (fun i => dt_sg i * (if i = 0 then 1 else 0) * dt n (fun a b => if dt_sk i a = b + 1 then 1 else 0)) = 1
    rw [dt_sum_one (s := 0) (by omega) (fun i hi q => by rw [if_neg q, Int.mul_zero, Int.zero_mul])]
    have e : dt n (fun a b => if dt_sk 0 a = b + 1 then (1 : Int) else 0) = dt n (fun i j => if i = j then 1 else 0) := dt_congr (fun a _ b _ => by
      show (if (if a < 0 then a else a + 1) = b + 1 then (1 : Int) else 0) = _
      rw [if_neg (Nat.not_lt_zero a)]
      by_cases q : a = b
      · rw [if_pos (by omega), if_pos q]
      · rw [if_neg (by omega), if_neg q])
    rw [e, dt_unit n]
    rfl
def sxS (p : Int) : Int := if 0 < p then 1 else -1
theorem sxS_q (p : Int) : sxS p = 1 ∨ sxS p = -1 := by
  unfold sxS; split
  · exact Or.inl rfl
  · exact Or.inr rfl
theorem sxS_abs {p : Int} (h : p ≠ 0) : (p.natAbs : Int) = sxS p * p := by
  unfold sxS; split <;> omega
/-- a table: rows' names nm, columns' names cn, all cells and the common number up to the sign e -/
def sxT (n : Nat) (F : Nat → Nat → Int) (M : Nat) (nm cn : Nat → Nat) (e : Int) (t : Nat → Nat → Int) (one : Int) : Prop :=
  (e = 1 ∨ e = -1) ∧ one = e * tD n F cn ∧ 0 < one ∧ ∀ i, i < M → ∀ j, j < n + 1 → t i j = e * tT n F cn (nm i) j
section SX
variable {n : Nat} {F : Nat → Nat → Int} {M : Nat} {nm cn : Nat → Nat} {e : Int} {t : Nat → Nat → Int} {one : Int}
theorem sx_e (h : e = 1 ∨ e = -1) (a b : Int) : (e * a) * (e * b) = a * b := by
  rcases h with h | h <;> subst h
  · rw [Int.one_mul, Int.one_mul]
  · rw [Int.neg_one_mul, Int.neg_one_mul, Int.neg_mul_neg]
theorem sx_exact (h : sxT n F M nm cn e t one) {r s i j : Nat} (hr : r < M) (hs : s < n) (hi : i < M) (hj : j < n + 1) (hne : j ≠ s) {cn' : Nat → Nat} (hc : ∀ j, j < n → cn' j = if j = s then nm r else cn j) :
    t r s * t i j - t i s * t r j = one * (e * tT n F cn' (nm i) j) := by
  obtain ⟨he, h1, -, h2⟩ := h
  rw [h2 r hr s (by omega), h2 i hi j hj, h2 i hi s (by omega), h2 r hr j hj, h1, sx_e he, sx_e he, sx_e he]
  exact (tT_next hs hc (nm i) hj hne).symm
theorem sx_div (h : sxT n F M nm cn e t one) {r s i j : Nat} (hr : r < M) (hs : s < n) (hi : i < M) (hj : j < n + 1) (hne : j ≠ s) {cn' : Nat → Nat} (hc : ∀ j, j < n → cn' j = if j = s then nm r else cn j) :
    (t r s * t i j - t i s * t r j) / one = e * tT n F cn' (nm i) j := by
  rw [sx_exact h hr hs hi hj hne hc]
  exact Int.mul_ediv_cancel_left _ (by have := h.2.2.1; omega)
theorem sx_next (h : sxT n F M nm cn e t one) {r s : Nat} (hr : r < M) (hs : s < n) (hp : t r s ≠ 0) {nm' cn' : Nat → Nat} (hn : ∀ i, i < M → nm' i = if i = r then cn s else nm i) (hc : ∀ j, j < n → cn' j = if j = s then nm r else cn j) {t' : Nat → Nat → Int}
    (h1 : ∀ i, i < M → i ≠ r → ∀ j, j < n + 1 → j ≠ s → t' i j = sxS (t r s) * ((t r s * t i j - t i s * t r j) / one))
    (h2 : ∀ i, i < M → i ≠ r → t' i s = sxS (t r s) * t i s) (h3 : ∀ j, j < n + 1 → j ≠ s → t' r j = - (sxS (t r s) * t r j)) (h4 : t' r s = sxS (t r s) * one) :
    sxT n F M nm' cn' (sxS (t r s) * e) t' (t r s).natAbs := by
  have g1 := h.2.1
  have g2 := h.2.2.1
  have g3 := h.2.2.2
  have hD : tD n F cn ≠ 0 := by
    intro q
    rw [q, Int.mul_zero] at g1
    omega
  refine ⟨?_, ?_, ?_, fun i hi j hj => ?_⟩
  · rcases sxS_q (t r s) with q | q <;> rcases h.1 with w | w <;> rw [q, w]
    · exact Or.inl rfl
    · exact Or.inr rfl
    · exact Or.inr rfl
    · exact Or.inl rfl
  · rw [sxS_abs hp, tD_next hs hc, Int.mul_assoc, ← g3 r hr s (by omega)]
  · omega
  · by_cases qi : i = r
    · subst qi
      rw [hn i hi, if_pos rfl]
      by_cases qj : j = s
      · subst qj
        rw [h4, tT_old_s hs hc, Int.mul_assoc, ← g1]
      · rw [h3 j hj qj, tT_old hD hs hc hj qj, g3 i hi j hj, Int.mul_neg, Int.mul_assoc]
    · rw [hn i hi, if_neg qi]
      by_cases qj : j = s
      · subst qj
        rw [h2 i hi qi, tT_next_s hs hc, g3 i hi j hj, Int.mul_assoc]
      · rw [h1 i hi qi j hj qj, sx_div h hr hs hi hj qj hc, Int.mul_assoc]
theorem dt_nm_unit (n : Nat) : dt_nm (n + 1) (fun c => if c = n then 1 else 0) = 1 := by
  have h : ∀ m, m ≤ n → dt_nm m (fun c => if c = n then (1 : Int) else 0) = 0 := by
    intro m
    induction m with
    | zero => intro _; rfl
    | succ m ih =>
      intro hm
      rw [dt_nm_s, ih (by omega)]
      simp only [if_neg (show ¬ m = n by omega)]
      rfl
  rw [dt_nm_s, h n (Nat.le_refl _)]
  simp only [if_pos]
  rfl
theorem tb_nm {B : Nat} (hB : 1 ≤ B) (hF : ∀ v, dt_nm (n + 1) (F v) ≤ B) (i : Nat) : dt_nm (n + 1) (tb n F cn i) ≤ B := by
  unfold tb
  by_cases q : i < n
  · simp only [if_pos q]
    exact hF _
  · simp only [if_neg q]
    rw [dt_nm_unit]
    exact hB
theorem tT_le {B : Nat} (hB : 1 ≤ B) (hF : ∀ v, dt_nm (n + 1) (F v) ≤ B) (v j : Nat) : (tT n F cn v j).natAbs ≤ B ^ (n + 1) := by
  refine Nat.le_trans (dt_le _ _) (dt_pr_pow (fun i _ => ?_))
  by_cases q : i = j
  · have e : dt_put (tb n F cn) j (F v) i = F v := by funext c; exact dt_put_s _ _ q c
    rw [e]; exact hF v
  · have e : dt_put (tb n F cn) j (F v) i = tb n F cn i := by funext c; exact dt_put_n _ _ q c
    rw [e]; exact tb_nm hB hF i
theorem tD_le {B : Nat} (hB : 1 ≤ B) (hF : ∀ v, dt_nm (n + 1) (F v) ≤ B) : (tD n F cn).natAbs ≤ B ^ (n + 1) :=
  Nat.le_trans (dt_le _ _) (dt_pr_pow (fun i _ => tb_nm hB hF i))
theorem sx_abs (h : e = 1 ∨ e = -1) (a : Int) : (e * a).natAbs = a.natAbs := by
  rcases h with h | h <;> subst h
  · rw [Int.one_mul]
  · rw [Int.neg_one_mul, Int.natAbs_neg]
/-- no cell is large -/
theorem sx_le (h : sxT n F M nm cn e t one) {B : Nat} (hB : 1 ≤ B) (hF : ∀ v, dt_nm (n + 1) (F v) ≤ B) : one.natAbs ≤ B ^ (n + 1) ∧ ∀ i, i < M → ∀ j, j < n + 1 → (t i j).natAbs ≤ B ^ (n + 1) := by
  obtain ⟨he, h1, -, h2⟩ := h
  refine ⟨?_, fun i hi j hj => ?_⟩
  · rw [h1, sx_abs he]; exact tD_le hB hF
  · rw [h2 i hi j hj, sx_abs he]; exact tT_le hB hF _ _
/-- the table of the forms themselves -/
theorem sx_first (hF : ∀ v, v < n → ∀ c, c < n + 1 → F v c = if v = c then 1 else 0) (ht : ∀ i, i < M → ∀ j, j < n + 1 → t i j = F (nm i) j) (hc : ∀ j, j < n → cn j = j) : sxT n F M nm cn 1 t 1 := by
  have e0 : ∀ a, a < n + 1 → ∀ b, b < n + 1 → tb n F cn a b = if a = b then 1 else 0 := by
    intro a ha b hb
    unfold tb
    by_cases q : a < n
    · rw [if_pos q, hc a q, hF a q b hb]
    · rw [if_neg q]
      by_cases w : b = n
      · rw [if_pos w, if_pos (by omega)]
      · rw [if_neg w, if_neg (by omega)]
  have eD : tD n F cn = 1 := (dt_congr (fun a ha b hb => e0 a ha b hb)).trans (dt_unit (n + 1))
  refine ⟨Or.inl rfl, by rw [eD]; rfl, by decide, fun i hi j hj => ?_⟩
  rw [ht i hi j hj, Int.one_mul]
  have h := dt_cramer (n + 1) (tb n F cn) (F (nm i)) j hj
  have h2 : dt (n + 1) (tb n F cn) = 1 := eD
  rw [h2, Int.mul_one, dt_sum_one hj (fun a ha q => by rw [e0 a ha j hj, if_neg q, Int.zero_mul]), e0 j hj j hj, if_pos rfl, Int.one_mul] at h
  exact h
/-! over the rationals -/
theorem ra_pos {y : Int} (hy : 0 < y) : (0 : Rat) < (y : Rat) := by
  rw [← Rat.intCast_zero]; exact Rat.intCast_lt_intCast.mpr hy
theorem ra_mul {x y : Int} (hy : 0 < y) : (x : Rat) / (y : Rat) * (y : Rat) = (x : Rat) := by
  have h := ra_pos hy
  rw [Rat.div_def, Rat.mul_assoc, Rat.inv_mul_cancel _ (by grind), Rat.mul_one]
theorem ra_eq {x y : Int} (hy : 0 < y) : (x : Rat) / (y : Rat) = 0 ↔ x = 0 := by
  have h := ra_mul (x := x) hy
  constructor
  · intro q
    rw [q, Rat.zero_mul] at h
    exact Rat.intCast_eq_zero_iff.mp h.symm
  · intro q
    rw [q, Rat.intCast_zero, Rat.div_def, Rat.zero_mul]
theorem ra_lt {x y : Int} (hy : 0 < y) : (x : Rat) / (y : Rat) < 0 ↔ x < 0 := by
  have h := ra_mul (x := x) hy
  have h1 := ra_pos hy
  generalize (x : Rat) / (y : Rat) = z at *
  have h2 : x < 0 ↔ (x : Rat) < 0 := by rw [← Rat.intCast_zero]; exact Rat.intCast_lt_intCast.symm
  rw [h2, ← h]
  constructor
  · intro q
    have := Rat.mul_lt_mul_of_pos_right q h1
    rw [Rat.zero_mul] at this
    exact this
  · intro q
    apply Classical.byContradiction
    intro w
    have w2 : 0 ≤ z := Rat.not_lt.mp w
    have := Rat.mul_nonneg w2 (Rat.le_of_lt h1)
    grind
theorem ra_le {x y : Int} (hy : 0 < y) : 0 ≤ (x : Rat) / (y : Rat) ↔ 0 ≤ x := by
  have h := ra_lt (x := x) hy
  constructor
  · intro q
    apply Int.not_lt.mp
    intro w
    have := h.mpr w
    grind
  · intro q
    apply Rat.not_lt.mp
    intro w
    have := h.mp w
    omega
theorem sx_tD (h : sxT n F M nm cn e t one) : tD n F cn ≠ 0 := by
  intro q
  have h1 := h.2.1
  have h2 := h.2.2.1
  rw [q, Int.mul_zero] at h1
  omega
theorem sx_rat (h : sxT n F M nm cn e t one) {i j : Nat} (hi : i < M) (hj : j < n + 1) : (tT n F cn (nm i) j : Rat) / (tD n F cn : Rat) = (t i j : Rat) / (one : Rat) := by
  have h1 := h.2.1
  rw [h.2.2.2 i hi j hj, h1]
  rcases h.1 with q | q <;> rw [q]
  · rw [Int.one_mul, Int.one_mul]
  · rw [Int.neg_one_mul, Int.neg_one_mul, Rat.intCast_neg, Rat.intCast_neg, Rat.div_def, Rat.div_def]
    have hD : (tD n F cn : Rat) ≠ 0 := fun q => sx_tD h (Rat.intCast_eq_zero_iff.mp q)
    generalize (tD n F cn : Rat) = b at *
    generalize (tT n F cn (nm i) j : Rat) = a at *
    have w1 := Rat.mul_inv_cancel b hD
    have w2 := Rat.mul_inv_cancel (-b) (by grind)
    grind
/-- the first that isn't 0 is below 0 -/
def sxN (K : Nat) (f : Nat → Int) : Prop := ∃ q, q < K ∧ (∀ p, p < q → f p = 0) ∧ f q < 0
theorem sxN_s {K : Nat} {f : Nat → Int} : sxN (K + 1) f ↔ f 0 < 0 ∨ (f 0 = 0 ∧ sxN K (fun q => f (q + 1))) := by
  constructor
  · rintro ⟨q, h1, h2, h3⟩
    rcases Nat.eq_zero_or_pos q with w | w
    · subst w; exact Or.inl h3
    · refine Or.inr ⟨h2 0 w, q - 1, by omega, fun p hp => h2 (p + 1) (by omega), ?_⟩
      show f (q - 1 + 1) < 0
      rw [Nat.sub_add_cancel w]; exact h3
  · rintro (h | ⟨h0, q, h1, h2, h3⟩)
    · exact ⟨0, by omega, fun p hp => absurd hp (Nat.not_lt_zero _), h⟩
    · refine ⟨q + 1, by omega, fun p hp => ?_, h3⟩
      rcases Nat.eq_zero_or_pos p with w | w
      · subst w; exact h0
      · have : f (p - 1 + 1) = 0 := h2 (p - 1) (by omega)
        rw [show p - 1 + 1 = p by omega] at this
        exact this
theorem sxN_neg {y : Int} (hy : 0 < y) : ∀ (K : Nat) (f : Nat → Int), bl_neg K (fun q => (f q : Rat) / (y : Rat)) ↔ sxN K f
  | 0, f => ⟨fun h => h.elim, fun ⟨q, h, _⟩ => absurd h (Nat.not_lt_zero _)⟩
  | K + 1, f => by
    rw [sxN_s]
    show ((f 0 : Rat) / (y : Rat) < 0 ∨ ((f 0 : Rat) / (y : Rat) = 0 ∧ bl_neg K (fun q => (f (q + 1) : Rat) / (y : Rat)))) ↔ _
    rw [ra_lt hy, ra_eq hy, sxN_neg hy K (fun q => f (q + 1))]
end SX
