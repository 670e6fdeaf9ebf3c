/-! numbers of the table: what a cell holds -/
theorem vl_split {B : Nat} (g : Nat → Nat) (a : Nat) : ∀ b, vl B g (a + b) = vl B g a + vl B (fun i => g (a + i)) b * B ^ a
  | 0 => by simp [vl]
  | b + 1 => by
    rw [← Nat.add_assoc, vl_s, vl_s, vl_split g a b, Nat.add_mul, Nat.pow_add, ← Nat.add_assoc, Nat.mul_comm (B ^ a) (B ^ b), Nat.mul_assoc]
/-- one step of a long division: digit k9 of the quotient is found -/
theorem dv_step {V X Q R Lo K1 : Nat} {k9 : Nat} (hLo : Lo < 65536 ^ k9) (hX : Lo + R * 65536 ^ k9 + Q * (65536 ^ (k9 + 1) * V) = X) (hV : 0 < V) (hK : K1 = Lo + R % V * 65536 ^ k9) :
    K1 + (R / V + Q * 65536) * (65536 ^ k9 * V) = X ∧ K1 < 65536 ^ k9 * V := by
  have h1 : R = V * (R / V) + R % V := (Nat.div_add_mod R V).symm
  have h2 : R % V < V := Nat.mod_lt _ hV
  generalize R / V = r at *
  generalize R % V = t at *
  subst h1
  subst hK
  rw [Nat.pow_succ] at hX
  generalize 65536 ^ k9 = P at *
  refine ⟨?_, ?_⟩
  · rw [← hX]
    have e1 : (V * r + t) * P = r * (P * V) + t * P := by rw [Nat.add_mul]; congr 1; rw [Nat.mul_comm V r, Nat.mul_assoc, Nat.mul_comm V P]
    have e2 : Q * (P * 65536 * V) = Q * 65536 * (P * V) := by rw [Nat.mul_assoc Q, Nat.mul_comm P 65536, Nat.mul_assoc 65536]
    rw [e1, e2, Nat.add_mul]
    omega
  · have e3 : (t + 1) * P ≤ V * P := Nat.mul_le_mul_right _ h2
    rw [Nat.add_mul, Nat.one_mul] at e3
    rw [Nat.mul_comm P V]
    omega
theorem dv_R {V X Lo P : Nat} {R : Nat} (h : Lo + R * P < P * 65536 * V) (hP : 0 < P) : R < 65536 * V := by
  apply Nat.lt_of_not_le
  intro q
  have h2 : 65536 * V * P ≤ R * P := Nat.mul_le_mul_right P q
  have h3 : 65536 * V * P = P * 65536 * V := by rw [Nat.mul_comm (65536 * V) P, Nat.mul_assoc]
  omega
/-- the divisor is shifted so that its highest digit is large: nothing is carried out -/
theorem dv_shift {g : Nat → Nat} {n j : Nat} (hn : 1 ≤ n) (hg : ∀ i, i < n → g i < 65536) (ht : g (n - 1) * 2 ^ j < 65536) (hj : j ≤ 16) : vl 65536 g n * 2 ^ j < 65536 ^ n := by
  obtain ⟨m, rfl⟩ : ∃ m, n = m + 1 := ⟨n - 1, by omega⟩
  have ht : g m * 2 ^ j < 65536 := ht
  have h1 := vl_lt (B := 65536) m (fun i hi => hg i (by omega))
  have h2 : (2 : Nat) ^ (16 - j) * 2 ^ j = 65536 := by rw [← Nat.pow_add, Nat.sub_add_cancel hj]
  have h3 : g m < 2 ^ (16 - j) := by
    apply Nat.lt_of_not_le
    intro q
    have := Nat.mul_le_mul_right (2 ^ j) q
    omega
  have h4 : (g m + 1) * 65536 ^ m * 2 ^ j ≤ 2 ^ (16 - j) * 65536 ^ m * 2 ^ j := Nat.mul_le_mul_right _ (Nat.mul_le_mul_right _ h3)
  have h5 : 2 ^ (16 - j) * 65536 ^ m * 2 ^ j = 65536 ^ (m + 1) := by rw [Nat.mul_right_comm, h2, Nat.pow_succ, Nat.mul_comm]
  have h6 : vl 65536 g (m + 1) < (g m + 1) * 65536 ^ m := by rw [vl_s, Nat.add_mul, Nat.one_mul]; omega
  have h7 := Nat.mul_lt_mul_of_pos_right h6 (Nat.two_pow_pos j)
  omega
theorem no_carry {a b c P : Nat} (h : a + c * P = b) (hb : b < P) : c = 0 ∧ a = b := by
  rcases Nat.eq_zero_or_pos c with q | q
  · subst q; omega
  · have := Nat.mul_le_mul_right P q
    omega
theorem vl_top {g : Nat → Nat} {n : Nat} (hn : 1 ≤ n) (hg : ∀ i, i < n → g i < 65536) (h : 65536 ^ (n - 1) ≤ vl 65536 g n) : 0 < g (n - 1) := by
  obtain ⟨m, rfl⟩ : ∃ m, n = m + 1 := ⟨n - 1, by omega⟩
  show 0 < g m
  have h : 65536 ^ m ≤ vl 65536 g (m + 1) := h
  apply Nat.pos_of_ne_zero
  intro q
  have h1 := vl_lt (B := 65536) m (fun i hi => hg i (by omega))
  rw [vl_s, q] at h
  omega
/-- what a cell holds; what all cells hold -/
def nmO (dg sz bl : Nat → Nat) (c : Nat) (z : Int) : Prop := sz c ≤ 80 ∧ bl c ≤ 1 ∧ (sz c = 0 ∨ dg (c * 80 + (sz c - 1)) ≠ 0) ∧ (sz c = 0 → bl c = 0) ∧ sv (bl c) (vl 65536 (fun i => dg (c * 80 + i)) (sz c)) = z
def tbO (dg sz bl : Nat → Nat) (T : Nat → Int) : Prop := (∀ i, i < 319840 → dg i < 65536) ∧ ∀ c, c < 3998 → nmO dg sz bl c (T c)
theorem sv_abs {b n : Nat} : (sv b n).natAbs = n := by
  unfold sv
  split <;> omega
theorem nmO_abs {dg sz bl : Nat → Nat} {c : Nat} {z : Int} (h : nmO dg sz bl c z) : vl 65536 (fun i => dg (c * 80 + i)) (sz c) = z.natAbs := by
  rw [← h.2.2.2.2, sv_abs]
/-- a small number has few digits -/
theorem nmO_size {dg sz bl : Nat → Nat} {c n : Nat} {z : Int} (h : nmO dg sz bl c z) (hz : z.natAbs < 65536 ^ n) : sz c ≤ n := by
  apply Nat.le_of_not_lt
  intro q
  have h1 := vl_ge (B := 65536) (g := fun i => dg (c * 80 + i)) (n := sz c) (by omega) (h.2.2.1.resolve_left (by omega))
  rw [nmO_abs h] at h1
  have h2 : 65536 ^ n ≤ 65536 ^ (sz c - 1) := Nat.pow_le_pow_right (by decide) (by omega)
  omega
theorem nmO_zero {dg sz bl : Nat → Nat} {c : Nat} {z : Int} (h : nmO dg sz bl c z) : sz c = 0 ↔ z = 0 := by
  constructor
  · intro q
    have h1 := nmO_abs h
    rw [q] at h1
    have h1 : 0 = z.natAbs := h1
    omega
  · intro q
    have := nmO_size (n := 0) h (by rw [q]; decide)
    omega
theorem nmO_neg {dg sz bl : Nat → Nat} {c : Nat} {z : Int} (h : nmO dg sz bl c z) : bl c = 1 ↔ z < 0 := by
  have h0 := h.2.2.2.2
  have h1 := h.2.2.2.1
  have h2 := nmO_zero h
  have h3 := h.2.1
  unfold sv at h0
  constructor
  · intro q
    rw [if_pos q] at h0
    omega
  · intro q
    apply Classical.byContradiction
    intro q2
    rw [if_neg q2] at h0
    omega
theorem sgN_val {dg sz bl : Nat → Nat} {c : Nat} {z : Int} (h : nmO dg sz bl c z) : sgN (sz c) (bl c) = (if z = 0 then 0 else if z < 0 then -1 else 1) := by
  unfold sgN
  have h2 := nmO_zero h
  have h3 := nmO_neg h
  have h4 := h.2.1
  by_cases q : z = 0
  · rw [if_pos (h2.mpr q), if_pos q]
  · rw [if_neg (fun e => q (h2.mp e)), if_neg q]
    by_cases q2 : z < 0
    · have := h3.mpr q2
      rw [if_neg (by omega), if_pos q2]
    · rw [if_pos (by have := mt h3.mp q2; omega), if_neg q2]
/-- a number is put into a cell: the others stay -/
theorem tbO_up {dg sz bl dg' : Nat → Nat} {T : Nat → Int} {c n b : Nat} {z : Int} (h : tbO dg sz bl T) (hd : ∀ i, i < 319840 → dg' i < 65536) (ho : ∀ i, i < c * 80 ∨ c * 80 + 80 ≤ i → dg' i = dg i) (hn : n ≤ 80) (hb : b ≤ 1) (ht : n = 0 ∨ dg' (c * 80 + (n - 1)) ≠ 0) (hz : n = 0 → b = 0) (hv : sv b (vl 65536 (fun i => dg' (c * 80 + i)) n) = z) :
    tbO dg' (va_up sz c n) (va_up bl c b) (va_up T c z) := by
  refine ⟨hd, fun x hx => ?_⟩
  by_cases q : x = c
  · subst q
    unfold nmO
    rw [va_up_self, va_up_self, va_up_self]
    exact ⟨hn, hb, ht, hz, hv⟩
  · have h1 := h.2 x hx
    unfold nmO at h1 ⊢
    rw [va_up_ne _ _ q, va_up_ne _ _ q, va_up_ne _ _ q]
    refine ⟨h1.1, h1.2.1, ?_, h1.2.2.2.1, ?_⟩
    · rcases h1.2.2.1 with w | w
      · exact Or.inl w
      · right
        rw [ho _ (by omega)]
        exact w
    · rw [vl_congr (h := fun i => dg (x * 80 + i)) (sz x) (fun i hi => ho _ (by omega))]
      exact h1.2.2.2.2
theorem tbO_turn {dg sz bl : Nat → Nat} {T : Nat → Int} {c : Nat} (h : tbO dg sz bl T) (hc : c < 3998) : tbO dg sz (va_up bl c (tnB (sz c) (bl c))) (va_up T c (- T c)) := by
  refine ⟨h.1, fun x hx => ?_⟩
  have h1 := h.2 x hx
  by_cases q : x = c
  · subst q
    unfold nmO at h1 ⊢
    rw [va_up_self, va_up_self]
    refine ⟨h1.1, ?_, h1.2.2.1, ?_, ?_⟩
    · unfold tnB; split
      · omega
      · split <;> omega
    · intro w; unfold tnB; rw [if_pos w]
    · have h2 := h1.2.2.2.2
      have h3 := h1.2.2.2.1
      have h4 := h1.2.1
      unfold sv at h2 ⊢
      unfold tnB
      by_cases w : sz x = 0
      · rw [if_pos w, if_neg (by decide)]
        rw [h3 w, if_neg (by decide)] at h2
        rw [w] at h2 ⊢
        have h2 : (0 : Int) = T x := h2
        show (0 : Int) = _
        omega
      · rw [if_neg w]
        by_cases w2 : bl x = 0
        · rw [if_pos w2, if_pos rfl]
          rw [w2, if_neg (by decide)] at h2
          rw [h2]
        · rw [if_neg w2, if_neg (by decide)]
          rw [if_pos (by omega)] at h2
          omega
  · unfold nmO at h1 ⊢
    rw [va_up_ne _ _ q, va_up_ne _ _ q]
    exact h1
