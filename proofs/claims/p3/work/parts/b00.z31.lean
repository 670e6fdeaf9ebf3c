/-! longs as whole numbers; digits of 31 bits; guessing a digit of a quotient -/
abbrev lZ (z : Int) : Int64 := Int64.ofInt z
theorem lZ_toInt {z : Int} (h1 : -9223372036854775808 ≤ z) (h2 : z < 9223372036854775808) : (lZ z).toInt = z := by
  rw [show (lZ z).toInt = (Int64.ofInt z).toInt from rfl, Int64.toInt_ofInt]
  exact Int.bmod_eq_of_le (by show -(((2 ^ 64 : Nat) : Int) / 2) ≤ z; omega) (by show z < (((2 ^ 64 : Nat) : Int) + 1) / 2; omega)
theorem lZ_add (a b : Int) : lZ a + lZ b = lZ (a + b) := (Int64.ofInt_add a b).symm
theorem lZ_sub (a b : Int) : lZ a - lZ b = lZ (a - b) := (Int64.ofInt_sub a b).symm
theorem lZ_mul (a b : Int) : lZ a * lZ b = lZ (a * b) := (Int64.ofInt_mul a b).symm
theorem lZ_neg (a : Int) : - lZ a = lZ (- a) := (Int64.ofInt_neg a).symm
theorem lZ_and (z : Int) : lZ z &&& 2147483647 = lZ (z % 2147483648) := by
  apply Int64.toBitVec_inj.mp
  apply BitVec.eq_of_toNat_eq
  rw [Int64.toBitVec_and, BitVec.toNat_and, show (2147483647 : Int64).toBitVec.toNat = 2 ^ 31 - 1 by decide, Nat.and_two_pow_sub_one_eq_mod, Int64.toBitVec_ofInt, Int64.toBitVec_ofInt, BitVec.toNat_ofInt, BitVec.toNat_ofInt]
  omega
theorem lZ_shr {z : Int} (h1 : -9223372036854775808 ≤ z) (h2 : z < 9223372036854775808) {D : Int64} (hD : (D.toBitVec.smod 64).toNat = 31) : lZ z >>> D = lZ (z / 2147483648) := by
  apply Int64.toInt_inj.mp
  rw [lZ_toInt (by omega) (by omega)]
  rw [← Int64.toInt_toBitVec, Int64.toBitVec_shiftRight, BitVec.sshiftRight_eq', BitVec.toInt_sshiftRight, hD, Int64.toInt_toBitVec, lZ_toInt h1 h2, Int.shiftRight_eq_div_pow]
  rfl
/-- one digit of a sum with a carry, whatever its sign -/
theorem cz_step {V c P T a B : Int} (hI : V + c * P = T) : V + ((c + a) % B) * P + ((c + a) / B) * (B * P) = T + a * P := by
  have h := Int.emod_add_mul_ediv (c + a) B
  have e : ((c + a) % B) * P + ((c + a) / B) * (B * P) = (c + a) * P := by
    rw [← Int.mul_assoc, Int.mul_comm ((c + a) / B) B, ← Int.add_mul, h]
  rw [Int.add_assoc, e, Int.add_mul, ← Int.add_assoc, hI]
theorem cz_lo {x : Int} : 0 ≤ x % 2147483648 ∧ x % 2147483648 < 2147483648 := by omega
/-- a guess of a quotient's digit is at most two too large -/
theorem kg_top {B v1 h q t : Nat} (h2 : B ≤ 2 * v1) (hq : q < B) (h3 : h < (q + 1) * (v1 + 1)) (h4 : t * v1 ≤ h) : t ≤ q + 2 := by
  apply Classical.byContradiction
  intro hn
  have h5 : (q + 3) * v1 ≤ t * v1 := Nat.mul_le_mul_right _ (by omega)
  rw [Nat.add_mul] at h5
  have h6 : (q + 1) * (v1 + 1) = q * v1 + q + v1 + 1 := by rw [Nat.add_mul, Nat.mul_add, Nat.mul_one, Nat.one_mul]; omega
  omega
/-- how large the first guess is -/
theorem kg_max {B v1 h t : Nat} (h2 : B ≤ 2 * v1) (hv : 0 < v1) (h3 : h < B * (v1 + 1)) (h4 : t * v1 ≤ h) : t ≤ B + 1 := by
  apply Classical.byContradiction
  intro hn
  have h5 : (B + 2) * v1 ≤ t * v1 := Nat.mul_le_mul_right _ (by omega)
  rw [Nat.add_mul] at h5
  rw [Nat.mul_add, Nat.mul_one] at h3
  omega
/-- the window's highest digits, when the window is below B times the unit -/
theorem kg_win {B v1 v2 P w h u z : Nat} (hP : 0 < P) (hw : w < P) (hv2 : v2 < B) (hR : (h * B + u) * P + z < B * ((v1 * B + v2) * P + w)) : h < B * (v1 + 1) := by
  apply Classical.byContradiction
  intro hn
  have hn : B * (v1 + 1) ≤ h := Nat.le_of_not_lt hn
  have h1 : B * (v1 + 1) * B * P ≤ h * B * P := Nat.mul_le_mul_right _ (Nat.mul_le_mul_right _ hn)
  have h2 : (v1 * B + v2) * P + w < (v1 + 1) * B * P := by
    have : v1 * B + v2 + 1 ≤ (v1 + 1) * B := by rw [Nat.add_mul, Nat.one_mul]; omega
    have h3 := Nat.mul_le_mul_right P this
    rw [Nat.add_mul _ 1 P, Nat.one_mul] at h3
    omega
  have h4 : B * ((v1 * B + v2) * P + w) ≤ B * ((v1 + 1) * B * P) := Nat.mul_le_mul_left _ (Nat.le_of_lt h2)
  have h5 : B * (v1 + 1) * B * P = B * ((v1 + 1) * B * P) := by rw [Nat.mul_assoc, Nat.mul_assoc, Nat.mul_assoc]
  have h6 : h * B * P ≤ (h * B + u) * P + z := by
    have := Nat.mul_le_mul_right P (Nat.le_add_right (h * B) u)
    omega
  omega
theorem kg_low {B v1 v2 P w h u z q : Nat} (hP : 0 < P) (hw : w < P) (hv2 : v2 < B) (hq : (h * B + u) * P + z < (q + 1) * ((v1 * B + v2) * P + w)) (hB : 0 < B) : h < (q + 1) * (v1 + 1) := by
  apply Classical.byContradiction
  intro hn
  have hn : (q + 1) * (v1 + 1) ≤ h := Nat.le_of_not_lt hn
  have h1 : (q + 1) * (v1 + 1) * B * P ≤ h * B * P := Nat.mul_le_mul_right _ (Nat.mul_le_mul_right _ hn)
  have h2 : (v1 * B + v2) * P + w < (v1 + 1) * B * P := by
    have : v1 * B + v2 + 1 ≤ (v1 + 1) * B := by rw [Nat.add_mul, Nat.one_mul]; omega
    have h3 := Nat.mul_le_mul_right P this
    rw [Nat.add_mul _ 1 P, Nat.one_mul] at h3
    omega
  have h4 : (q + 1) * ((v1 * B + v2) * P + w) ≤ (q + 1) * ((v1 + 1) * B * P) := Nat.mul_le_mul_left _ (Nat.le_of_lt h2)
  have h5 : (q + 1) * (v1 + 1) * B * P = (q + 1) * ((v1 + 1) * B * P) := by rw [Nat.mul_assoc, Nat.mul_assoc, Nat.mul_assoc]
  have h6 : h * B * P ≤ (h * B + u) * P + z := by
    have := Nat.mul_le_mul_right P (Nat.le_add_right (h * B) u)
    omega
  omega
