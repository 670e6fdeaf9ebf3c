/-! a digit of a quotient, guessed from the highest digits (both solvers divide so): V = (v1 * B + v2) * P + w over R = (h * B + u) * P + z -/
theorem kn_lower0 {B v1 v2 P w h u z : Nat} (hv : 0 < v1) (hP : 0 < P) (hB : 0 < B) (hu : u < B) (hz : z < P) : ((h * B + u) * P + z) / ((v1 * B + v2) * P + w) ≤ h / v1 := by
  generalize hQ : ((h * B + u) * P + z) / ((v1 * B + v2) * P + w) = Q
  have h1 : Q * ((v1 * B + v2) * P + w) ≤ (h * B + u) * P + z := by rw [← hQ]; exact Nat.div_mul_le_self _ _
  have h2 : Q * (v1 * (B * P)) ≤ Q * ((v1 * B + v2) * P + w) := by
    refine Nat.mul_le_mul_left _ ?_
    rw [← Nat.mul_assoc, Nat.add_mul]
    omega
  have h3 : (h * B + u) * P + z < (h + 1) * (B * P) := by
    have a1 : (u + 1) * P ≤ B * P := Nat.mul_le_mul_right _ hu
    rw [Nat.add_mul, Nat.one_mul] at a1
    rw [Nat.add_mul, Nat.add_mul, Nat.one_mul, Nat.mul_assoc]
    omega
  have h4 : Q * v1 * (B * P) < (h + 1) * (B * P) := by rw [Nat.mul_assoc]; omega
  have h5 : Q * v1 < h + 1 := Nat.lt_of_mul_lt_mul_right h4
  exact (Nat.le_div_iff_mul_le hv).mpr (by omega)
/-- too much at the highest three against two digits: one too many at least -/
theorem kn_down {B v1 v2 P w h u z q : Nat} (hP : 0 < P) (hz : z < P) (hq : h * B + u < q * (v1 * B + v2)) : ((h * B + u) * P + z) / ((v1 * B + v2) * P + w) < q := by
  by_cases c : ((h * B + u) * P + z) / ((v1 * B + v2) * P + w) < q
  · exact c
  · have h1 : q * ((v1 * B + v2) * P + w) ≤ (h * B + u) * P + z := Nat.le_trans (Nat.mul_le_mul_right _ (Nat.le_of_not_lt c)) (Nat.div_mul_le_self _ _)
    have h2 : q * ((v1 * B + v2) * P) ≤ q * ((v1 * B + v2) * P + w) := Nat.mul_le_mul_left _ (by omega)
    have h3 : (h * B + u + 1) * P ≤ q * (v1 * B + v2) * P := Nat.mul_le_mul_right _ hq
    rw [Nat.add_mul, Nat.one_mul] at h3
    rw [← Nat.mul_assoc] at h2
    omega
/-- not too much there: one too many at most -/
theorem kn_upper {B v1 v2 P w h u z q : Nat} (hv : 0 < v1) (hw : w < P) (hqB : q ≤ B) (hq : q * (v1 * B + v2) ≤ h * B + u) : q * ((v1 * B + v2) * P + w) ≤ (h * B + u) * P + z + ((v1 * B + v2) * P + w) := by
  have h1 : q * (v1 * B + v2) * P ≤ (h * B + u) * P := Nat.mul_le_mul_right _ hq
  have h2 : q * w ≤ B * P := Nat.mul_le_mul hqB (by omega)
  have h3 : B * P ≤ (v1 * B + v2) * P := by
    refine Nat.mul_le_mul_right _ ?_
    have : 1 * B ≤ v1 * B := Nat.mul_le_mul_right _ hv
    omega
  rw [Nat.mul_add, ← Nat.mul_assoc]
  omega
theorem kn_one {R V q : Nat} (hV : 0 < V) (h1 : R / V ≤ q) (h2 : q * V ≤ R + V) : q = R / V ∨ q = R / V + 1 := by
  have h3 : R < (R / V + 1) * V := by
    have := Nat.lt_div_mul_add (a := R) hV
    rw [Nat.add_mul, Nat.one_mul]
    omega
  by_cases c : q ≤ R / V + 1
  · omega
  · have h4 : (R / V + 2) * V ≤ q * V := Nat.mul_le_mul_right _ (by omega)
    rw [show R / V + 2 = R / V + 1 + 1 from rfl, Nat.add_mul (R / V + 1), Nat.one_mul] at h4
    omega
