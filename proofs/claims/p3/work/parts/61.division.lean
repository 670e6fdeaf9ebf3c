/-! a long division: the loop over the quotient's digits -/
theorem dv_first {O : Nat → Nat} {n k9 V : Nat} (hlt : vl 65536 O (k9 + 1 + n) < 65536 ^ (k9 + 1) * V) : vl 65536 (fun i => O (k9 + i)) (n + 1) < 65536 * V := by
  have e : k9 + 1 + n = k9 + (n + 1) := by omega
  rw [e, vl_split, Nat.pow_succ] at hlt
  exact dv_R (X := 0) hlt (Nat.pow_pos (by decide))
theorem dv_next {O U qt : Nat → Nat} {n N k9 A V : Nat} (hk : k9 ≤ N) (hI : vl 65536 O (k9 + 1 + n) + vl 65536 (fun i => qt (k9 + 1 + i)) (N - k9) * (65536 ^ (k9 + 1) * V) = A) (hV : 0 < V) (hVn : V ≤ 65536 ^ n) (dO : ∀ i, i < k9 → O i < 65536) (hU : vl 65536 (fun i => U (k9 + i)) (n + 1) = vl 65536 (fun i => O (k9 + i)) (n + 1) % V) (hUo : ∀ i, i < k9 → U i = O i) :
    vl 65536 U (k9 + n) + vl 65536 (fun i => va_up qt k9 (vl 65536 (fun i => O (k9 + i)) (n + 1) / V) (k9 + i)) (N + 1 - k9) * (65536 ^ k9 * V) = A ∧ vl 65536 U (k9 + n) < 65536 ^ k9 * V := by
  have e : k9 + 1 + n = k9 + (n + 1) := by omega
  rw [e, vl_split] at hI
  have hLo : vl 65536 O k9 < 65536 ^ k9 := vl_lt k9 dO
  have hK : vl 65536 U (k9 + (n + 1)) = vl 65536 O k9 + vl 65536 (fun i => O (k9 + i)) (n + 1) % V * 65536 ^ k9 := by
    rw [vl_split, hU, vl_congr (h := O) k9 hUo]
  have hz : U (k9 + n) = 0 := by
    have h1 : vl 65536 (fun i => U (k9 + i)) (n + 1) < 65536 ^ n := by
      rw [hU]
      exact Nat.lt_of_lt_of_le (Nat.mod_lt _ hV) hVn
    rw [vl_s] at h1
    rcases Nat.eq_zero_or_pos (U (k9 + n)) with q | q
    · exact q
    · have := Nat.mul_le_mul_right (65536 ^ n) q
      omega
  have hK2 : vl 65536 U (k9 + (n + 1)) = vl 65536 U (k9 + n) := by
    rw [← Nat.add_assoc, vl_s, hz, Nat.zero_mul, Nat.add_zero]
  obtain ⟨g1, g2⟩ := dv_step (K1 := vl 65536 U (k9 + n)) hLo hI hV (by rw [← hK2]; exact hK)
  refine ⟨?_, g2⟩
  have e2 : N + 1 - k9 = 1 + (N - k9) := by omega
  have e3 : vl 65536 (fun i => va_up qt k9 (vl 65536 (fun i => O (k9 + i)) (n + 1) / V) (k9 + i)) (N + 1 - k9) = vl 65536 (fun i => O (k9 + i)) (n + 1) / V + vl 65536 (fun i => qt (k9 + 1 + i)) (N - k9) * 65536 := by
    generalize vl 65536 (fun i => O (k9 + i)) (n + 1) / V = x
    have e4 : vl 65536 (fun i => va_up qt k9 x (k9 + i)) 1 = x := by
      rw [show (1 : Nat) = 0 + 1 from rfl, vl_s, show vl 65536 (fun i => va_up qt k9 x (k9 + i)) 0 = 0 from rfl, Nat.add_zero, va_up_self, Nat.pow_zero]
      omega
    have e5 : vl 65536 (fun i => va_up qt k9 x (k9 + (1 + i))) (N - k9) = vl 65536 (fun i => qt (k9 + 1 + i)) (N - k9) := vl_congr _ (fun i _ => by
      rw [va_up_ne _ _ (by omega), Nat.add_assoc])
    rw [e2, vl_split, e4, e5, Nat.pow_one]
  rw [e3]
  exact g1
theorem dv_start {n N V j A : Nat} (hA : A < 65536 ^ (N + n)) (hV : 65536 ^ (n - 1) ≤ V) (hn : 1 ≤ n) : A * 2 ^ j < 65536 ^ (N + 1) * (V * 2 ^ j) := by
  have h1 : 65536 ^ (N + 1) * 65536 ^ (n - 1) ≤ 65536 ^ (N + 1) * V := Nat.mul_le_mul_left _ hV
  have h2 : 65536 ^ (N + 1) * 65536 ^ (n - 1) = 65536 ^ (N + n) := by rw [← Nat.pow_add]; congr 1; omega
  rw [← Nat.mul_assoc]
  exact Nat.mul_lt_mul_of_pos_right (by omega) (Nat.two_pow_pos j)
theorem dv_end {X Y A V j : Nat} (h : X + Y * (V * 2 ^ j) = A * 2 ^ j) (hX : X < V * 2 ^ j) : Y = A / V := by
  have h1 : A * 2 ^ j / (V * 2 ^ j) = A / V := Nat.mul_div_mul_right _ _ (Nat.two_pow_pos j)
  rw [← h1, ← h, Nat.add_mul_div_right _ _ (by omega), Nat.div_eq_of_lt hX, Nat.zero_add]
