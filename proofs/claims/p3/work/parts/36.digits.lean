/-! numbers by digits (base B: 65536 in the reference, 2^31 in the class) -/
def vl (B : Nat) (g : Nat → Nat) : Nat → Nat
  | 0 => 0
  | n + 1 => vl B g n + g n * B ^ n
theorem vl_s (B : Nat) (g : Nat → Nat) (n : Nat) : vl B g (n + 1) = vl B g n + g n * B ^ n := rfl
theorem vl_congr {B : Nat} {g h : Nat → Nat} : ∀ n, (∀ i, i < n → g i = h i) → vl B g n = vl B h n
  | 0, _ => rfl
  | n + 1, e => by rw [vl_s, vl_s, vl_congr n (fun i hi => e i (by omega)), e n (by omega)]
theorem vl_lt {B : Nat} {g : Nat → Nat} : ∀ n, (∀ i, i < n → g i < B) → vl B g n < B ^ n
  | 0, _ => by simp [vl]
  | n + 1, h => by
    have h1 := vl_lt n (fun i hi => h i (by omega))
    have h2 : (g n + 1) * B ^ n ≤ B * B ^ n := Nat.mul_le_mul_right _ (h n (by omega))
    rw [vl_s, Nat.pow_succ, Nat.mul_comm (B ^ n) B]
    rw [Nat.add_mul, Nat.one_mul] at h2
    omega
theorem vl_zeros {B : Nat} {g : Nat → Nat} {n : Nat} : ∀ m, n ≤ m → (∀ i, n ≤ i → i < m → g i = 0) → vl B g m = vl B g n
  | 0, h, _ => by rw [show n = 0 by omega]
  | m + 1, h, hz => by
    by_cases q : n = m + 1
    · rw [q]
    · rw [vl_s, hz m (by omega) (by omega), Nat.zero_mul, Nat.add_zero]
      exact vl_zeros m (by omega) (fun i h1 h2 => hz i h1 (by omega))
theorem vl_up {B : Nat} {g : Nat → Nat} {j v : Nat} : ∀ n, j < n → vl B (va_up g j v) n + g j * B ^ j = vl B g n + v * B ^ j
  | 0, h => by omega
  | n + 1, h => by
    rw [vl_s, vl_s]
    by_cases q : j = n
    · subst q
      rw [va_up_self, vl_congr (h := g) j (fun i hi => va_up_ne g v (by omega))]
      omega
    · have ih := vl_up (B := B) (g := g) (j := j) (v := v) n (by omega)
      rw [va_up_ne g v (fun e => q e.symm)]
      omega
/-- the highest digits that are 0 are cut off -/
theorem vl_cut {B : Nat} (g : Nat → Nat) (f : Nat → Int32) (hf : ∀ i, f i = nI (g i)) : ∀ n, (∀ i, i < n → g i < 2 ^ 31) → vl B g n = vl B g (cutN f n) ∧ cutN f n ≤ n ∧ (cutN f n = 0 ∨ g (cutN f n - 1) ≠ 0)
  | 0, _ => ⟨rfl, Nat.le_refl _, Or.inl rfl⟩
  | n + 1, h => by
    have ih := vl_cut (B := B) g f hf n (fun i hi => h i (by omega))
    rw [cutN]
    by_cases q : f n = 0
    · rw [if_pos q]
      have e : g n = 0 := (nI_eq (h n (by omega)) (by decide)).mp ((hf n).symm.trans q)
      refine ⟨?_, by omega, ih.2.2⟩
      rw [vl_s, e, Nat.zero_mul, Nat.add_zero]
      exact ih.1
    · rw [if_neg q]
      exact ⟨rfl, Nat.le_refl _, Or.inr (fun e => q (by rw [hf n]; rw [Nat.add_sub_cancel] at e; rw [e]; rfl))⟩
/-- a number whose highest digit isn't 0 -/
theorem vl_ge {B : Nat} {g : Nat → Nat} {n : Nat} (hn : 0 < n) (h : g (n - 1) ≠ 0) : B ^ (n - 1) ≤ vl B g n := by
  obtain ⟨m, rfl⟩ : ∃ m, n = m + 1 := ⟨n - 1, by omega⟩
  rw [vl_s, Nat.add_sub_cancel] at *
  have : 1 * B ^ m ≤ g m * B ^ m := Nat.mul_le_mul_right _ (by omega)
  omega
/-- compare by digits is compare by value -/
theorem cmpD_val {B : Nat} {ga gb : Nat → Nat} : ∀ n, (∀ i, i < n → ga i < B) → (∀ i, i < n → gb i < B) → cmpD ga gb n = (if vl B ga n = vl B gb n then 0 else if vl B ga n < vl B gb n then -1 else 1)
  | 0, _, _ => rfl
  | n + 1, ha, hb => by
    have ih := cmpD_val n (fun i hi => ha i (by omega)) (fun i hi => hb i (by omega))
    have la := vl_lt n (fun i hi => ha i (by omega))
    have lb := vl_lt n (fun i hi => hb i (by omega))
    rw [cmpD, vl_s, vl_s]
    by_cases q : ga n = gb n
    · rw [if_pos q, ih, q]
      have e1 : (vl B ga n + gb n * B ^ n = vl B gb n + gb n * B ^ n) ↔ vl B ga n = vl B gb n := by omega
      have e2 : (vl B ga n + gb n * B ^ n < vl B gb n + gb n * B ^ n) ↔ vl B ga n < vl B gb n := by omega
      simp only [e1, e2]
    · rw [if_neg q]
      by_cases q2 : ga n < gb n
      · have : (ga n + 1) * B ^ n ≤ gb n * B ^ n := Nat.mul_le_mul_right _ q2
        rw [Nat.add_mul, Nat.one_mul] at this
        rw [if_pos q2, if_neg (by omega), if_pos (by omega)]
      · have : (gb n + 1) * B ^ n ≤ ga n * B ^ n := Nat.mul_le_mul_right _ (by omega)
        rw [Nat.add_mul, Nat.one_mul] at this
        rw [if_neg q2, if_neg (by omega), if_neg (by omega)]
theorem cmpN_val {B : Nat} {ga gb : Nat → Nat} {na nb : Nat} (hB : 0 < B) (ha : ∀ i, i < na → ga i < B) (hb : ∀ i, i < nb → gb i < B) (ta : na = 0 ∨ ga (na - 1) ≠ 0) (tb : nb = 0 ∨ gb (nb - 1) ≠ 0) : cmpN ga gb na nb = (if vl B ga na = vl B gb nb then 0 else if vl B ga na < vl B gb nb then -1 else 1) := by
  unfold cmpN
  by_cases q : na = nb
  · subst q
    rw [if_pos rfl]
    exact cmpD_val na ha hb
  · rw [if_neg q]
    have la := vl_lt na ha
    have lb := vl_lt nb hb
    by_cases q2 : na < nb
    · have h1 := vl_ge (B := B) (g := gb) (n := nb) (by omega) (tb.resolve_left (by omega))
      have h2 : B ^ na ≤ B ^ (nb - 1) := Nat.pow_le_pow_right hB (by omega)
      rw [if_pos q2, if_neg (by omega), if_pos (by omega)]
    · have h1 := vl_ge (B := B) (g := ga) (n := na) (by omega) (ta.resolve_left (by omega))
      have h2 : B ^ nb ≤ B ^ (na - 1) := Nat.pow_le_pow_right hB (by omega)
      rw [if_neg q2, if_neg (by omega), if_neg (by omega)]
/-- one step of a product by digits: the carry c at place p -/
theorem vl_mul_step {B : Nat} {T : Nat → Nat} {N p d y c X : Nat} (hp : p < N) (hv : vl B T N + c * B ^ p = X) : vl B (va_up T p ((d * y + T p + c) % B)) N + (d * y + T p + c) / B * B ^ (p + 1) = X + d * y * B ^ p := by
  have h1 := vl_up (B := B) (g := T) (j := p) (v := (d * y + T p + c) % B) N hp
  have h2 := Nat.mod_add_div (d * y + T p + c) B
  have h3 : (d * y + T p + c) / B * B ^ (p + 1) = B * ((d * y + T p + c) / B) * B ^ p := by
    rw [Nat.pow_succ, Nat.mul_comm (B ^ p) B, ← Nat.mul_assoc, Nat.mul_comm ((d * y + T p + c) / B) B]
  have h4 : ((d * y + T p + c) % B) * B ^ p + B * ((d * y + T p + c) / B) * B ^ p = d * y * B ^ p + T p * B ^ p + c * B ^ p := by
    rw [← Nat.add_mul, h2, Nat.add_mul, Nat.add_mul]
  rw [h3]
  omega
theorem vl_mul_lt {B d y t c : Nat} (hd : d < B) (hy : y < B) (ht : t < B) (hc : c < B) : (d * y + t + c) / B < B := by
  have h1 : d * y ≤ (B - 1) * (B - 1) := Nat.mul_le_mul (by omega) (by omega)
  have h2 : (B - 1) * (B - 1) + (B - 1) + (B - 1) < B * B := by
    obtain ⟨b, rfl⟩ : ∃ b, B = b + 1 := ⟨B - 1, by omega⟩
    rw [Nat.add_sub_cancel, Nat.add_mul, Nat.mul_add, Nat.mul_one, Nat.one_mul]
    omega
  exact (Nat.div_lt_iff_lt_mul (by omega)).mpr (by omega)
