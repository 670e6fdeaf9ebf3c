/-! how many bits are set, the JDK's way -/
theorem land_split {r q s t : Nat} (hr : r < 256) (hs : s < 256) : (256 * q + r) &&& (256 * t + s) = 256 * (q &&& t) + (r &&& s) := by
  have h8 : (r &&& s) < 2 ^ 8 := Nat.and_lt_two_pow _ hs
  apply Nat.eq_of_testBit_eq
  intro j
  rw [Nat.testBit_and, show (256 : Nat) = 2 ^ 8 from rfl, Nat.testBit_two_pow_mul_add q hr, Nat.testBit_two_pow_mul_add t hs, Nat.testBit_two_pow_mul_add (q &&& t) h8]
  split
  · rw [Nat.testBit_and]
  · rw [Nat.testBit_and]
def pc8 (n : Nat) : Nat := n % 2 + n / 2 % 2 + n / 4 % 2 + n / 8 % 2 + n / 16 % 2 + n / 32 % 2 + n / 64 % 2 + n / 128 % 2
def t8 (x : Nat) : Nat := (x / 2) &&& 85
def b8 (x : Nat) : Nat := x - t8 x
def c8 (b : Nat) : Nat := (b &&& 51) + ((b / 4) &&& 51)
def d8 (c : Nat) : Nat := (c + c / 16) &&& 15
set_option maxRecDepth 20000 in
theorem q1 : ∀ x, x < 256 → ∀ e, e < 2 → (x / 2 + 128 * e) &&& 85 = t8 x := by decide +kernel
set_option maxRecDepth 20000 in
theorem q1b : ∀ x, x < 256 → t8 x ≤ x := by decide +kernel
set_option maxRecDepth 20000 in
theorem q2 : ∀ b, b < 256 → ∀ e, e < 4 → (b / 4 + 64 * e) &&& 51 = (b / 4) &&& 51 := by decide +kernel
set_option maxRecDepth 20000 in
theorem q2b : ∀ x, x < 256 → c8 (b8 x) ≤ 68 ∧ c8 (b8 x) % 16 ≤ 4 := by decide +kernel
set_option maxRecDepth 20000 in
theorem q3 : ∀ c, c < 69 → ∀ e, e < 5 → (c + c / 16 + 16 * e) &&& 15 = d8 c := by decide +kernel
set_option maxRecDepth 20000 in
theorem q4 : ∀ x, x < 256 → d8 (c8 (b8 x)) = pc8 x ∧ pc8 x ≤ 8 := by decide +kernel
theorem s1_step {x Y M : Nat} (hx : x < 256) : ((x + 256 * Y) / 2) &&& (85 + 256 * M) = t8 x + 256 * ((Y / 2) &&& M) := by
  rw [show (x + 256 * Y) / 2 = 256 * (Y / 2) + (x / 2 + 128 * (Y % 2)) by omega, Nat.add_comm 85, land_split (by omega) (by decide), q1 x hx _ (by omega), Nat.add_comm]
theorem s2_step {b B M : Nat} (hb : b < 256) : ((b + 256 * B) / 4) &&& (51 + 256 * M) = ((b / 4) &&& 51) + 256 * ((B / 4) &&& M) := by
  rw [show (b + 256 * B) / 4 = 256 * (B / 4) + (b / 4 + 64 * (B % 4)) by omega, Nat.add_comm 51, land_split (by omega) (by decide), q2 b hb _ (by omega), Nat.add_comm]
theorem s2_low {b B M : Nat} (hb : b < 256) : (b + 256 * B) &&& (51 + 256 * M) = (b &&& 51) + 256 * (B &&& M) := by
  rw [Nat.add_comm b, Nat.add_comm 51, land_split hb (by decide), Nat.add_comm]
theorem s3_step {c C M : Nat} (hc : c < 69) (hC : C % 16 < 5) : ((c + 256 * C) + (c + 256 * C) / 16) &&& (15 + 256 * M) = d8 c + 256 * ((C + C / 16) &&& M) := by
  rw [show (c + 256 * C) + (c + 256 * C) / 16 = 256 * (C + C / 16) + (c + c / 16 + 16 * (C % 16)) by omega, Nat.add_comm 15, land_split (by omega) (by decide), q3 c hc _ hC, Nat.add_comm]
def bcN (a : Nat) : Nat :=
  let b := a - ((a / 2) &&& 1431655765)
  let c := (b &&& 858993459) + ((b / 4) &&& 858993459)
  let d := (c + c / 16) &&& 252645135
  let e := d + d / 256
  let f := e + e / 65536
  f &&& 63
theorem bcN_eq {x y z : Nat} (hx : x < 256) (hy : y < 256) (hz : z < 256) : bcN (x + 256 * (y + 256 * z)) = pc8 x + pc8 y + pc8 z := by
  have e1 : ((x + 256 * (y + 256 * z)) / 2) &&& 1431655765 = t8 x + 256 * (t8 y + 256 * t8 z) := by
    rw [show (1431655765 : Nat) = 85 + 256 * (85 + 256 * (85 + 256 * 85)) from rfl, s1_step hx, s1_step hy, show z / 2 = (z + 256 * 0) / 2 by omega, s1_step hz]
    rfl
  have l1 := q1b x hx
  have l2 := q1b y hy
  have l3 := q1b z hz
  have e2 : x + 256 * (y + 256 * z) - (t8 x + 256 * (t8 y + 256 * t8 z)) = b8 x + 256 * (b8 y + 256 * b8 z) := by unfold b8; omega
  have bx : b8 x < 256 := by unfold b8; omega
  have by' : b8 y < 256 := by unfold b8; omega
  have bz : b8 z < 256 := by unfold b8; omega
  have e3 : ((b8 x + 256 * (b8 y + 256 * b8 z)) &&& 858993459) + (((b8 x + 256 * (b8 y + 256 * b8 z)) / 4) &&& 858993459) = c8 (b8 x) + 256 * (c8 (b8 y) + 256 * c8 (b8 z)) := by
    have h1 : (b8 x + 256 * (b8 y + 256 * b8 z)) &&& 858993459 = (b8 x &&& 51) + 256 * ((b8 y &&& 51) + 256 * (b8 z &&& 51)) := by
      rw [show (858993459 : Nat) = 51 + 256 * (51 + 256 * (51 + 256 * 51)) from rfl, s2_low bx, s2_low by']
      have := s2_low (b := b8 z) (B := 0) (M := 51) bz
      rw [Nat.mul_zero, Nat.add_zero, Nat.zero_and, Nat.mul_zero, Nat.add_zero] at this
      rw [this, Nat.add_zero]
    have h2 : ((b8 x + 256 * (b8 y + 256 * b8 z)) / 4) &&& 858993459 = ((b8 x / 4) &&& 51) + 256 * (((b8 y / 4) &&& 51) + 256 * ((b8 z / 4) &&& 51)) := by
      rw [show (858993459 : Nat) = 51 + 256 * (51 + 256 * (51 + 256 * 51)) from rfl, s2_step bx, s2_step by']
      have := s2_step (b := b8 z) (B := 0) (M := 51) bz
      rw [Nat.mul_zero, Nat.add_zero, Nat.zero_div, Nat.zero_and, Nat.mul_zero, Nat.add_zero] at this
      rw [this, Nat.add_zero]
    rw [h1, h2]
    unfold c8
    omega
  have c1 := q2b x hx
  have c2 := q2b y hy
  have c3 := q2b z hz
  have e4 : ((c8 (b8 x) + 256 * (c8 (b8 y) + 256 * c8 (b8 z))) + (c8 (b8 x) + 256 * (c8 (b8 y) + 256 * c8 (b8 z))) / 16) &&& 252645135 = pc8 x + 256 * (pc8 y + 256 * pc8 z) := by
    rw [show (252645135 : Nat) = 15 + 256 * (15 + 256 * (15 + 256 * 15)) from rfl, s3_step (by omega) (by omega), s3_step (by omega) (by omega)]
    have := s3_step (c := c8 (b8 z)) (C := 0) (M := 15) (by omega) (by decide)
    rw [Nat.mul_zero, Nat.add_zero, Nat.zero_div, Nat.add_zero, Nat.zero_and, Nat.mul_zero, Nat.add_zero] at this
    rw [this, Nat.add_zero, (q4 x hx).1, (q4 y hy).1, (q4 z hz).1]
  have p1 := (q4 x hx).2
  have p2 := (q4 y hy).2
  have p3 := (q4 z hz).2
  unfold bcN
  simp only []
  rw [e1, e2, e3, e4]
  generalize pc8 x = P at *
  generalize pc8 y = R at *
  generalize pc8 z = T at *
  clear e1 e2 e3 e4 c1 c2 c3 l1 l2 l3 bx by' bz hx hy hz
  rw [show (P + 256 * (R + 256 * T)) / 256 = R + 256 * T by omega, show (63 : Nat) = 2 ^ 6 - 1 from rfl, Nat.and_two_pow_sub_one_eq_mod, show (P + 256 * (R + 256 * T) + (R + 256 * T)) / 65536 = T by omega]
  show (P + 256 * (R + 256 * T) + (R + 256 * T) + T) % 64 = P + R + T
  omega
/-- how many of the bits below v are set -/
def pcK (o : Nat) : Nat → Nat
  | 0 => 0
  | v + 1 => pcK o v + (o / 2 ^ v) % 2
theorem pcK_add (o a : Nat) : ∀ b, pcK o (a + b) = pcK o a + pcK (o / 2 ^ a) b
  | 0 => rfl
  | b + 1 => by
    rw [← Nat.add_assoc, pcK, pcK, pcK_add o a b, Nat.div_div_eq_div_mul, ← Nat.pow_add, Nat.add_assoc]
theorem pcK_mod (o k : Nat) : ∀ b, b ≤ k → pcK (o % 2 ^ k) b = pcK o b
  | 0, _ => rfl
  | b + 1, h => by
    rw [pcK, pcK, pcK_mod o k b (by omega)]
    congr 1
    obtain ⟨d, rfl⟩ : ∃ d, k = b + 1 + d := ⟨k - (b + 1), by omega⟩
    rw [Nat.add_assoc, Nat.pow_add, Nat.mod_mul_right_div_self, Nat.pow_add, Nat.pow_one, Nat.mod_mul_right_mod]
theorem pc8_eq (n : Nat) : pc8 n = pcK n 8 := by
  unfold pc8
  simp only [pcK, Nat.zero_add, Nat.pow_zero, Nat.div_one]
theorem pcK_small : ∀ (b n : Nat), n < 4 → 2 ≤ b → pcK n b = pcK n 2
  | 0, n, _, h => absurd h (by decide)
  | 1, n, _, h => absurd h (by decide)
  | 2, n, _, _ => rfl
  | b + 3, n, hn, _ => by
    rw [pcK, pcK_small (b + 2) n hn (by omega)]
    have h1 : 4 ≤ 2 ^ (b + 2) := by
      have := Nat.pow_le_pow_right (show 1 ≤ 2 by decide) (show 2 ≤ b + 2 by omega)
      omega
    rw [Nat.div_eq_of_lt (by omega)]
    rfl
theorem bc_eq {o : Nat} (h : o < 262144) : bcN o = pcK o 18 := by
  have e := bcN_eq (x := o % 256) (y := o / 256 % 256) (z := o / 65536) (by omega) (by omega) (by omega)
  have h0 : o % 256 + 256 * (o / 256 % 256 + 256 * (o / 65536)) = o := by omega
  rw [h0] at e
  have e1 : pcK (o % 256) 8 = pcK o 8 := pcK_mod o 8 8 (by decide)
  have e2 : pcK (o / 256 % 256) 8 = pcK (o / 256) 8 := pcK_mod (o / 256) 8 8 (by decide)
  have e3 : pcK (o / 65536) 8 = pcK (o / 65536) 2 := pcK_small 8 _ (by omega) (by decide)
  have e4 : pcK o 18 = pcK o 8 + pcK (o / 256) 10 := pcK_add o 8 10
  have e5 : pcK (o / 256) 10 = pcK (o / 256) 8 + pcK (o / 256 / 256) 2 := pcK_add (o / 256) 8 2
  have e6 : o / 256 / 256 = o / 65536 := by rw [Nat.div_div_eq_div_mul]
  rw [e, pc8_eq, pc8_eq, pc8_eq, e1, e2, e3, e4, e5, e6, Nat.add_assoc]
