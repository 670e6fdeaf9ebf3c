/-! sums, differences and products of digits of 31 bits -/
theorem vl_put {B : Nat} {T : Nat → Nat} {i v : Nat} : vl B (va_up T i v) (i + 1) = vl B T i + v * B ^ i := by
  rw [vl_s, va_up_self, vl_congr (h := T) i (fun j hj => va_up_ne T _ (by omega))]
theorem cn_step {T : Nat → Nat} {i c a R : Nat} (hI : vl 2147483648 T i + c * 2147483648 ^ i = R) : vl 2147483648 (va_up T i ((c + a) % 2147483648)) (i + 1) + (c + a) / 2147483648 * 2147483648 ^ (i + 1) = R + a * 2147483648 ^ i := by
  rw [vl_put, ← hI, Nat.pow_succ]
  have h := Nat.mod_add_div (c + a) 2147483648
  generalize hP : 2147483648 ^ i = P
  generalize (c + a) % 2147483648 = x at h ⊢
  generalize (c + a) / 2147483648 = y at h ⊢
  have e : x * P + y * (P * 2147483648) = (x + 2147483648 * y) * P := by
    rw [Nat.add_mul, Nat.mul_comm P, ← Nat.mul_assoc, Nat.mul_comm y]
  rw [Nat.add_assoc, e, h, Nat.add_mul, Nat.add_assoc]
theorem add_step {T a b : Nat → Nat} {i c : Nat} (hI : vl 2147483648 T i + c * 2147483648 ^ i = vl 2147483648 a i + vl 2147483648 b i) : vl 2147483648 (va_up T i ((c + (a i + b i)) % 2147483648)) (i + 1) + (c + (a i + b i)) / 2147483648 * 2147483648 ^ (i + 1) = vl 2147483648 a (i + 1) + vl 2147483648 b (i + 1) := by
  rw [cn_step hI, vl_s, vl_s, Nat.add_mul]
  omega
theorem dz_step {T : Nat → Nat} {i : Nat} {b a R : Int} (hI : (vl 2147483648 T i : Int) + b * (2147483648 : Int) ^ i = R) : (vl 2147483648 (va_up T i ((b + a) % 2147483648).toNat) (i + 1) : Int) + ((b + a) / 2147483648) * (2147483648 : Int) ^ (i + 1) = R + a * (2147483648 : Int) ^ i := by
  have h := cz_step (B := 2147483648) (a := a) hI
  rw [vl_put]
  have e1 : (((b + a) % 2147483648).toNat : Int) = (b + a) % 2147483648 := Int.toNat_of_nonneg (by omega)
  rw [Int.natCast_add, Int.natCast_mul, e1, Int.natCast_pow, Int.pow_succ, Int.mul_comm ((2147483648 : Int) ^ i)]
  exact h
theorem sub_step {T a b : Nat → Nat} {i : Nat} {c : Int} (hI : (vl 2147483648 T i : Int) + c * (2147483648 : Int) ^ i = (vl 2147483648 a i : Int) - vl 2147483648 b i) : (vl 2147483648 (va_up T i ((c + ((a i : Int) - b i)) % 2147483648).toNat) (i + 1) : Int) + ((c + ((a i : Int) - b i)) / 2147483648) * (2147483648 : Int) ^ (i + 1) = (vl 2147483648 a (i + 1) : Int) - vl 2147483648 b (i + 1) := by
  rw [dz_step hI, vl_s, vl_s, Int.natCast_add, Int.natCast_add, Int.natCast_mul, Int.natCast_mul, Int.natCast_pow, Int.sub_mul]
  show _ + ((a i : Int) * (2147483648 : Int) ^ i - b i * (2147483648 : Int) ^ i) = (_ + (a i : Int) * (2147483648 : Int) ^ i) - (_ + (b i : Int) * (2147483648 : Int) ^ i)
  omega
/-- no borrow is left -/
theorem sub_end {V A B n : Nat} {c : Int} (hI : (V : Int) + c * (2147483648 : Int) ^ n = (A : Int) - B) (hB : B ≤ A) (hA : A < 2147483648 ^ n) (hV : V < 2147483648 ^ n) (h1 : -1 ≤ c) (h2 : c ≤ 0) : V = A - B := by
  have e : (2147483648 : Int) ^ n = ((2147483648 ^ n : Nat) : Int) := by rw [Int.natCast_pow]; rfl
  rw [e] at hI
  generalize 2147483648 ^ n = P at hI hA hV
  rcases (show c = -1 ∨ c = 0 by omega) with q | q
  · subst q; omega
  · subst q; omega
theorem add_end {V A B n c m1 m2 : Nat} (hI : V + c * 2147483648 ^ n = A + B) (h1 : A < 2147483648 ^ m1) (h2 : B < 2147483648 ^ m2) (k1 : m1 < n) (k2 : m2 < n) : c = 0 ∧ V = A + B := by
  apply no_carry hI
  have e1 : 2147483648 ^ m1 ≤ 2147483648 ^ (n - 1) := Nat.pow_le_pow_right (by decide) (by omega)
  have e2 : 2147483648 ^ m2 ≤ 2147483648 ^ (n - 1) := Nat.pow_le_pow_right (by decide) (by omega)
  have e3 : 2147483648 ^ n = 2147483648 ^ (n - 1) * 2147483648 := by rw [← Nat.pow_succ]; congr 1; omega
  omega
theorem dg_eq2 {n i : Nat} {g g2 : Nat → Nat} (h : i < n → g i = g2 i) : dgN n g i = dgN n g2 i := by
  unfold dgN
  split
  · exact h (by assumption)
  · rfl
/-- a whole number by its amount -/
theorem wh_of {L n : Nat} {g : Nat → Nat} {a : Nat} {z : Int} (h1 : n ≤ L) (h2 : raO L g) (h3 : n = 0 ∨ g (n - 1) ≠ 0) (h4 : vl 2147483648 g n = a) (h5 : z.natAbs = a) : whO L n g z := ⟨h1, h2.1, h2.2.1, h2.2.2, h3, by rw [h4, h5]⟩
/-- one row of a product: its inner step, its end -/
theorem mul_in {T x y : Nat → Nat} {N i j c R : Nat} (hp : i + j < N) (hI : vl 2147483648 T N + c * 2147483648 ^ (i + j) = R + x i * vl 2147483648 y j * 2147483648 ^ i) : vl 2147483648 (va_up T (i + j) ((c + (T (i + j) + x i * y j)) % 2147483648)) N + (c + (T (i + j) + x i * y j)) / 2147483648 * 2147483648 ^ (i + (j + 1)) = R + x i * vl 2147483648 y (j + 1) * 2147483648 ^ i := by
  have h := vl_mul_step (B := 2147483648) (T := T) (N := N) (p := i + j) (d := x i) (y := y j) (c := c) hp hI
  rw [show x i * y j + T (i + j) + c = c + (T (i + j) + x i * y j) by omega] at h
  rw [show i + (j + 1) = i + j + 1 by omega, h, vl_s, Nat.mul_add, Nat.add_mul, Nat.pow_add, Nat.add_assoc]
  congr 2
  rw [Nat.mul_assoc (x i), Nat.mul_assoc (x i), Nat.mul_assoc (y j), Nat.mul_comm (2147483648 ^ i)]
theorem mul_out {T x y : Nat → Nat} {N i n c : Nat} (hp : i + n < N) (hz : T (i + n) = 0) (hI : vl 2147483648 T N + c * 2147483648 ^ (i + n) = vl 2147483648 x i * vl 2147483648 y n + x i * vl 2147483648 y n * 2147483648 ^ i) : vl 2147483648 (va_up T (i + n) c) N = vl 2147483648 x (i + 1) * vl 2147483648 y n := by
  have h := vl_up (B := 2147483648) (g := T) (j := i + n) (v := c) N hp
  rw [hz, Nat.zero_mul, Nat.add_zero, hI] at h
  rw [h, vl_s, Nat.add_mul]
  congr 1
  rw [Nat.mul_assoc, Nat.mul_assoc, Nat.mul_comm (vl 2147483648 y n)]
theorem mul_cb {x y t c : Nat} (h1 : x < 2147483648) (h2 : y < 2147483648) (h3 : t < 2147483648) (h4 : c < 2147483648) : c + (t + x * y) < 4611686018427387904 ∧ (c + (t + x * y)) / 2147483648 < 2147483648 := by
  have : x * y ≤ 2147483647 * 2147483647 := Nat.mul_le_mul (by omega) (by omega)
  omega
theorem sg_pick {z z2 : Int} {n : Nat} {w : Int} (hw : n = 0 ↔ w = 0) (h1 : w = 0 → z = 0) (h2 : w ≠ 0 → sgI z2 = sgI z) : (if n = 0 then 0 else sgI z2) = sgI z := by
  by_cases q : n = 0
  · rw [if_pos q, h1 (hw.mp q)]; rfl
  · rw [if_neg q, h2 (fun t => q (hw.mpr t))]
theorem sgn_eq {z z2 : Int} (h1 : z < 0 ↔ z2 < 0) (h2 : z = 0 ↔ z2 = 0) : sgI z = sgI z2 := by
  unfold sgI
  by_cases q : z < 0
  · rw [if_pos q, if_pos (h1.mp q)]
  · rw [if_neg q, if_neg (fun t => q (h1.mpr t))]
    by_cases w : z = 0
    · rw [if_pos w, if_pos (h2.mp w)]
    · rw [if_neg w, if_neg (fun t => w (h2.mpr t))]
theorem sgn_same {z z2 : Int} (h : sgI z = sgI z2) : (z < 0 ↔ z2 < 0) ∧ (z = 0 ↔ z2 = 0) := ⟨by rw [← sgn_lt, h, sgn_lt], by rw [← sgn_0, h, sgn_0]⟩
