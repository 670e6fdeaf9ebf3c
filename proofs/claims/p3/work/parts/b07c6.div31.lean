/-! division of digits of 31 bits -/
theorem s_64 : ∀ n, n < 32 → ((nI n).toInt64 &&& 63).toBitVec.smod 64 = BitVec.ofNat 64 n := by decide +kernel
theorem lN_shlj {a j : Nat} (hj : j < 32) (h : a < 18446744073709551616) : lN a <<< ((nI j).toInt64 &&& 63) = lN (a * 2 ^ j) := g_shl (k := j) (s_64 j hj) (by omega) rfl h
theorem lN_orj {c d j : Nat} (hc : c < 2 ^ j) (h : d * 2 ^ j + c < 18446744073709551616) : lN c ||| lN (d * 2 ^ j) = lN (c + d * 2 ^ j) := by
  rw [Int64.or_comm, g_or (k := j) rfl hc h, Nat.add_comm]
theorem du_step {V X Q R Lo K1 : Nat} {k9 : Nat} (hLo : Lo < 2147483648 ^ k9) (hX : Lo + R * 2147483648 ^ k9 + Q * (2147483648 ^ (k9 + 1) * V) = X) (hV : 0 < V) (hK : K1 = Lo + R % V * 2147483648 ^ k9) :
    K1 + (R / V + Q * 2147483648) * (2147483648 ^ k9 * V) = X ∧ K1 < 2147483648 ^ k9 * V := by
  have h1 : R = V * (R / V) + R % V := (Nat.div_add_mod R V).symm
  have h2 : R % V < V := Nat.mod_lt _ hV
  generalize R / V = r at *
  generalize R % V = t at *
  subst h1
  subst hK
  rw [Nat.pow_succ] at hX
  generalize 2147483648 ^ k9 = P at *
  refine ⟨?_, ?_⟩
  · rw [← hX]
    have e1 : (V * r + t) * P = r * (P * V) + t * P := by rw [Nat.add_mul]; congr 1; rw [Nat.mul_comm V r, Nat.mul_assoc, Nat.mul_comm V P]
    have e2 : Q * (P * 2147483648 * V) = Q * 2147483648 * (P * V) := by rw [Nat.mul_assoc Q, Nat.mul_comm P 2147483648, Nat.mul_assoc 2147483648]
    rw [e1, e2, Nat.add_mul]
    omega
  · have e3 : (t + 1) * P ≤ V * P := Nat.mul_le_mul_right _ h2
    rw [Nat.add_mul, Nat.one_mul] at e3
    rw [Nat.mul_comm P V]
    omega
theorem du_R {V Lo P : Nat} {R : Nat} (h : Lo + R * P < P * 2147483648 * V) : R < 2147483648 * V := by
  apply Nat.lt_of_not_le
  intro q
  have h2 : 2147483648 * V * P ≤ R * P := Nat.mul_le_mul_right P q
  have h3 : 2147483648 * V * P = P * 2147483648 * V := by rw [Nat.mul_comm (2147483648 * V) P, Nat.mul_assoc]
  omega
theorem du_first {O : Nat → Nat} {n k9 V : Nat} (hlt : vl 2147483648 O (k9 + 1 + n) < 2147483648 ^ (k9 + 1) * V) : vl 2147483648 (fun i => O (k9 + i)) (n + 1) < 2147483648 * V := by
  have e : k9 + 1 + n = k9 + (n + 1) := by omega
  rw [e, vl_split, Nat.pow_succ] at hlt
  exact du_R hlt
theorem du_next {O U qt : Nat → Nat} {n N k9 A V : Nat} (hk : k9 ≤ N) (hI : vl 2147483648 O (k9 + 1 + n) + vl 2147483648 (fun i => qt (k9 + 1 + i)) (N + 1 - (k9 + 1)) * (2147483648 ^ (k9 + 1) * V) = A) (hV : 0 < V) (dO : ∀ i, O i < 2147483648) (hU : vl 2147483648 (fun i => U (k9 + i)) n = vl 2147483648 (fun i => O (k9 + i)) (n + 1) % V) (hUo : ∀ i, i < k9 → U i = O i) {x : Nat} (hx : x = vl 2147483648 (fun i => O (k9 + i)) (n + 1) / V) :
    vl 2147483648 U (k9 + n) + vl 2147483648 (fun i => va_up qt k9 x (k9 + i)) (N + 1 - k9) * (2147483648 ^ k9 * V) = A ∧ vl 2147483648 U (k9 + n) < 2147483648 ^ k9 * V := by
  have e : k9 + 1 + n = k9 + (n + 1) := by omega
  rw [e, vl_split, show N + 1 - (k9 + 1) = N - k9 by omega] at hI
  have hLo : vl 2147483648 O k9 < 2147483648 ^ k9 := vl_lt k9 (fun i _ => dO i)
  have hK : vl 2147483648 U (k9 + n) = vl 2147483648 O k9 + vl 2147483648 (fun i => O (k9 + i)) (n + 1) % V * 2147483648 ^ k9 := by
    rw [vl_split, hU, vl_congr (h := O) k9 hUo]
  obtain ⟨g1, g2⟩ := du_step (K1 := vl 2147483648 U (k9 + n)) hLo hI hV hK
  refine ⟨?_, g2⟩
  have e2 : N + 1 - k9 = 1 + (N - k9) := by omega
  have e3 : vl 2147483648 (fun i => va_up qt k9 x (k9 + i)) (N + 1 - k9) = x + vl 2147483648 (fun i => qt (k9 + 1 + i)) (N - k9) * 2147483648 := by
    have e4 : vl 2147483648 (fun i => va_up qt k9 x (k9 + i)) 1 = x := by
      rw [show (1 : Nat) = 0 + 1 from rfl, vl_s, show vl 2147483648 (fun i => va_up qt k9 x (k9 + i)) 0 = 0 from rfl, Nat.add_zero, va_up_self, Nat.pow_zero]
      omega
    have e5 : vl 2147483648 (fun i => va_up qt k9 x (k9 + (1 + i))) (N - k9) = vl 2147483648 (fun i => qt (k9 + 1 + i)) (N - k9) := vl_congr _ (fun i _ => by
      rw [va_up_ne _ _ (by omega), Nat.add_assoc])
    rw [e2, vl_split, e4, e5, Nat.pow_one]
  rw [e3, hx]
  exact g1
theorem du_start {n N V j A : Nat} (hA : A < 2147483648 ^ (N + n)) (hV : 2147483648 ^ (n - 1) ≤ V) (hn : 1 ≤ n) : A * 2 ^ j < 2147483648 ^ (N + 1) * (V * 2 ^ j) := by
  have h1 : 2147483648 ^ (N + 1) * 2147483648 ^ (n - 1) ≤ 2147483648 ^ (N + 1) * V := Nat.mul_le_mul_left _ hV
  have h2 : 2147483648 ^ (N + 1) * 2147483648 ^ (n - 1) = 2147483648 ^ (N + n) := by rw [← Nat.pow_add]; congr 1; omega
  rw [← Nat.mul_assoc]
  exact Nat.mul_lt_mul_of_pos_right (by omega) (Nat.two_pow_pos j)
/-- guessing a digit: where the guess stands -/
def gsO (v1 v2 h u q i t l : Nat) : Prop := t * v1 + l = h ∧ q ≤ t ∧ t ≤ 2147483649 ∧ ((t ≤ q + (2 - i) ∧ (l < 2147483648 ∨ t ≤ 2147483648)) ∨ (t ≤ 2147483648 ∧ t * (v1 * 2147483648 + v2) ≤ h * 2147483648 + u))
theorem gs_x {v1 v2 h u t l : Nat} (e : t * v1 + l = h) : t * (v1 * 2147483648 + v2) ≤ h * 2147483648 + u ↔ t * v2 ≤ l * 2147483648 + u := by
  subst e
  have e1 : t * (v1 * 2147483648 + v2) = t * v1 * 2147483648 + t * v2 := by rw [Nat.mul_add, Nat.mul_assoc]
  have e2 : (t * v1 + l) * 2147483648 = t * v1 * 2147483648 + l * 2147483648 := Nat.add_mul _ _ _
  rw [e1, e2]
  omega
section GS
variable {v1 v2 P w h u z q : Nat}
theorem gs_0 (hv : 2147483648 ≤ 2 * v1) (hv1 : v1 < 2147483648) (hv2 : v2 < 2147483648) (hP : 0 < P) (hw : w < P) (hu : u < 2147483648) (hz : z < P) (hR : (h * 2147483648 + u) * P + z < 2147483648 * ((v1 * 2147483648 + v2) * P + w)) (hq : q = ((h * 2147483648 + u) * P + z) / ((v1 * 2147483648 + v2) * P + w)) : gsO v1 v2 h u q 0 (h / v1) (h % v1) := by
  have hpos : 0 < v1 := by omega
  have hV : 0 < (v1 * 2147483648 + v2) * P + w := by
    have : 0 < (v1 * 2147483648 + v2) * P := Nat.mul_pos (by omega) hP
    omega
  have h4 : h / v1 * v1 ≤ h := Nat.div_mul_le_self _ _
  have hR2 := hR
  rw [Nat.mul_comm 2147483648] at hR2
  have hqB : q < 2147483648 := by rw [hq]; exact Nat.div_lt_of_lt_mul hR2
  have hlow : (h * 2147483648 + u) * P + z < (q + 1) * ((v1 * 2147483648 + v2) * P + w) := by
    have := Nat.lt_div_mul_add (a := (h * 2147483648 + u) * P + z) hV
    rw [← hq] at this
    rw [Nat.add_mul q 1, Nat.one_mul]
    exact this
  refine ⟨?_, ?_, ?_, Or.inl ⟨?_, Or.inl ?_⟩⟩
  · rw [Nat.mul_comm]; exact Nat.div_add_mod h v1
  · rw [hq]; exact kn_lower0 hpos hP (by decide) hu hz
  · exact kg_max hv hpos (kg_win hP hw hv2 hR) h4
  · exact kg_top hv hqB (kg_low hP hw hv2 hlow (by decide)) h4
  · exact Nat.lt_trans (Nat.mod_lt _ hpos) hv1
theorem gs_dec {i t l : Nat} (hP : 0 < P) (hz : z < P) (hq : q = ((h * 2147483648 + u) * P + z) / ((v1 * 2147483648 + v2) * P + w)) (hqB : q < 2147483648) (g : gsO v1 v2 h u q i t l) (hi : i < 2) (hd : 2147483648 ≤ t ∨ l * 2147483648 + u < t * v2) : gsO v1 v2 h u q (i + 1) (t - 1) (l + v1) ∧ 1 ≤ t := by
  obtain ⟨g1, g2, g3, g4⟩ := g
  have ht : q < t := by
    rcases hd with hd | hd
    · omega
    · have : h * 2147483648 + u < t * (v1 * 2147483648 + v2) := by
        apply Nat.lt_of_not_le
        intro hn
        have := (gs_x g1).mp hn
        omega
      rw [hq]
      exact kn_down hP hz this
  have e1 : (t - 1) * v1 + (l + v1) = h := by
    obtain ⟨y, rfl⟩ : ∃ y, t = y + 1 := ⟨t - 1, by omega⟩
    rw [Nat.add_mul] at g1
    rw [Nat.add_sub_cancel]
    omega
  refine ⟨⟨e1, by omega, by omega, ?_⟩, by omega⟩
  rcases g4 with ⟨a, b⟩ | ⟨a, b⟩
  · exact Or.inl ⟨by omega, Or.inr (by omega)⟩
  · refine Or.inr ⟨by omega, Nat.le_trans (Nat.mul_le_mul_right _ (by omega)) b⟩
theorem gs_skip {i t l : Nat} (g : gsO v1 v2 h u q i t l) (h1 : t < 2147483648) (h2 : t * v2 ≤ l * 2147483648 + u) : gsO v1 v2 h u q (i + 1) t l :=
  ⟨g.1, g.2.1, g.2.2.1, Or.inr ⟨by omega, (gs_x g.1).mpr h2⟩⟩
theorem gs_end {i t l : Nat} (hv : 0 < v1) (hv2 : v2 < 2147483648) (hw : w < P) (hq : q = ((h * 2147483648 + u) * P + z) / ((v1 * 2147483648 + v2) * P + w)) (hqB : q < 2147483648) (hP : 0 < P) (g : gsO v1 v2 h u q i t l) (he : i = 2 ∨ 2147483648 ≤ l) : q ≤ t ∧ t ≤ q + 1 ∧ t ≤ 2147483648 := by
  obtain ⟨g1, g2, g3, g4⟩ := g
  have hV : 0 < (v1 * 2147483648 + v2) * P + w := by
    have : 0 < (v1 * 2147483648 + v2) * P := Nat.mul_pos (by omega) hP
    omega
  have fin : t ≤ 2147483648 → t * (v1 * 2147483648 + v2) ≤ h * 2147483648 + u → q ≤ t ∧ t ≤ q + 1 ∧ t ≤ 2147483648 := by
    intro a b
    have h1 := kn_upper (z := z) hv hw a b
    rw [hq] at g2
    rcases kn_one hV g2 h1 with k | k
    · rw [hq, ← k]; omega
    · rw [hq]; omega
  rcases g4 with ⟨a, b⟩ | ⟨a, b⟩
  · rcases he with he | he
    · subst he; omega
    · have hB : t ≤ 2147483648 := by omega
      refine fin hB ((gs_x g1).mpr ?_)
      have k1 : t * v2 ≤ 2147483648 * 2147483647 := Nat.mul_le_mul hB (by omega)
      omega
  · exact fin a b
end GS
/-- a number's three highest parts -/
theorem vl_hi {g : Nat → Nat} {n : Nat} (hn : 2 ≤ n) : vl 2147483648 g n = (g (n - 1) * 2147483648 + g (n - 2)) * 2147483648 ^ (n - 2) + vl 2147483648 g (n - 2) := by
  obtain ⟨y, rfl⟩ : ∃ y, n = y + 2 := ⟨n - 2, by omega⟩
  rw [show y + 2 - 1 = y + 1 by omega, show y + 2 - 2 = y by omega, show y + 2 = y + 1 + 1 by omega, vl_s, vl_s, Nat.pow_succ, Nat.add_mul, Nat.mul_assoc, Nat.mul_comm (2147483648 ^ y)]
  omega
theorem vl_hi3 {g : Nat → Nat} {n : Nat} (hn : 2 ≤ n) : vl 2147483648 g (n + 1) = ((g n * 2147483648 + g (n - 1)) * 2147483648 + g (n - 2)) * 2147483648 ^ (n - 2) + vl 2147483648 g (n - 2) := by
  rw [vl_s, vl_hi hn]
  obtain ⟨y, rfl⟩ : ∃ y, n = y + 2 := ⟨n - 2, by omega⟩
  rw [show y + 2 - 1 = y + 1 by omega, show y + 2 - 2 = y by omega]
  generalize vl 2147483648 g y = a
  rw [Nat.pow_succ, Nat.pow_succ]
  generalize 2147483648 ^ y = P
  rw [Nat.add_mul (g (y + 2) * 2147483648) _ 2147483648, Nat.add_assoc (g (y + 2) * 2147483648 * 2147483648), Nat.add_mul _ (_ + _) P]
  have e : g (y + 2) * (P * 2147483648 * 2147483648) = g (y + 2) * 2147483648 * 2147483648 * P := by
    rw [Nat.mul_assoc (g (y + 2)), Nat.mul_assoc (g (y + 2)), Nat.mul_comm (2147483648 * 2147483648) P, Nat.mul_assoc P]
  rw [e]
  omega
/-- what is taken off -/
theorem tm_b {t : Int} {g : Nat} (h1 : -1 ≤ t) (h2 : t ≤ 2147483648) (hg : g < 2147483648) : -2147483647 ≤ t * (g : Int) ∧ t * (g : Int) ≤ 4611686016279904256 := by
  have a1 : 0 ≤ (t + 1) * (g : Int) := Int.mul_nonneg (by omega) (by omega)
  have a2 : 0 ≤ (2147483648 - t) * (g : Int) := Int.mul_nonneg (by omega) (by omega)
  rw [Int.add_mul] at a1
  rw [Int.sub_mul] at a2
  omega
theorem to_step {T g u : Nat → Nat} {b i : Nat} {c t : Int} (hT : T (b + i) = g (b + i)) (hI : (vl 2147483648 (fun j => T (b + j)) i : Int) + c * (2147483648 : Int) ^ i = (vl 2147483648 (fun j => g (b + j)) i : Int) - t * (vl 2147483648 u i : Int)) :
    (vl 2147483648 (fun j => va_up T (b + i) (((c + ((T (b + i) : Int) - t * (u i : Int))) % 2147483648).toNat) (b + j)) (i + 1) : Int) + ((c + ((T (b + i) : Int) - t * (u i : Int))) / 2147483648) * (2147483648 : Int) ^ (i + 1) = (vl 2147483648 (fun j => g (b + j)) (i + 1) : Int) - t * (vl 2147483648 u (i + 1) : Int) := by
  have e : (fun j => va_up T (b + i) (((c + ((T (b + i) : Int) - t * (u i : Int))) % 2147483648).toNat) (b + j)) = va_up (fun j => T (b + j)) i (((c + ((T (b + i) : Int) - t * (u i : Int))) % 2147483648).toNat) := by
    funext j
    by_cases q : j = i
    · subst q; rw [va_up_self, va_up_self]
    · rw [va_up_ne _ _ q, va_up_ne _ _ (by omega)]
  rw [e, dz_step hI, vl_s, vl_s, hT, Int.natCast_add, Int.natCast_add, Int.natCast_mul, Int.natCast_mul, Int.natCast_pow, Int.mul_add, Int.sub_mul]
  show _ = _ + (g (b + i) : Int) * (2147483648 : Int) ^ i - (_ + t * ((u i : Int) * (2147483648 : Int) ^ i))
  rw [Int.mul_assoc]
  omega
/-- what is left behind a digit: rightly guessed, or one too many -/
theorem to_end {W V Lo Tp L1 n : Nat} {c t : Int} (hW : W = Lo + Tp * 2147483648 ^ n) (hVn : V ≤ 2147483648 ^ n) (hV : 0 < V) (hL : L1 < 2147483648 ^ n) (hI : (L1 : Int) + c * (2147483648 : Int) ^ n = (Lo : Int) - t * (V : Int)) (h1 : ((W / V : Nat) : Int) ≤ t) (h2 : t ≤ ((W / V : Nat) : Int) + 1) :
    (c + Tp < 0 ↔ t = ((W / V : Nat) : Int) + 1) ∧ (t = ((W / V : Nat) : Int) → L1 = W % V) ∧ (t = ((W / V : Nat) : Int) + 1 → L1 + V = W % V + 2147483648 ^ n) := by
  have e : (2147483648 : Int) ^ n = ((2147483648 ^ n : Nat) : Int) := by rw [Int.natCast_pow]; rfl
  rw [e] at hI
  have hm := Nat.div_add_mod W V
  have hr := Nat.mod_lt W hV
  generalize hP : 2147483648 ^ n = P at *
  generalize hq : W / V = Q at *
  generalize W % V = r at *
  have hP0 : 0 < P := by omega
  rcases (show t = Q ∨ t = (Q : Int) + 1 by omega) with k | k
  · subst k
    have e1 : (L1 : Int) + (c + Tp) * (P : Int) = r := by
      rw [Int.add_mul]
      have : (W : Int) = Lo + Tp * (P : Int) := by rw [hW]; push_cast; rfl
      have h5 : (W : Int) = V * Q + r := by rw [← hm]; push_cast; rfl
      rw [Int.mul_comm (V : Int)] at h5
      omega
    have e2 : c + Tp = 0 := by
      rcases Int.lt_trichotomy (c + Tp) 0 with a | a | a
      · have : (c + Tp) * (P : Int) ≤ (-1) * (P : Int) := Int.mul_le_mul_of_nonneg_right (by omega) (by omega)
        omega
      · exact a
      · have : 1 * (P : Int) ≤ (c + Tp) * (P : Int) := Int.mul_le_mul_of_nonneg_right (by omega) (by omega)
        omega
    rw [e2, Int.zero_mul] at e1
    exact ⟨by omega, fun _ => by omega, fun a => by omega⟩
  · subst k
    have e1 : (L1 : Int) + (c + Tp) * (P : Int) = (r : Int) - V := by
      rw [Int.add_mul]
      have : (W : Int) = Lo + Tp * (P : Int) := by rw [hW]; push_cast; rfl
      have h5 : (W : Int) = V * Q + r := by rw [← hm]; push_cast; rfl
      rw [Int.mul_comm (V : Int)] at h5
      rw [Int.add_mul, Int.one_mul] at hI
      omega
    have e2 : c + Tp = -1 := by
      rcases Int.lt_trichotomy (c + Tp) (-1) with a | a | a
      · have : (c + Tp) * (P : Int) ≤ (-2) * (P : Int) := Int.mul_le_mul_of_nonneg_right (by omega) (by omega)
        omega
      · exact a
      · have : 0 * (P : Int) ≤ (c + Tp) * (P : Int) := Int.mul_le_mul_of_nonneg_right (by omega) (by omega)
        omega
    rw [e2] at e1
    exact ⟨by omega, fun a => by omega, fun _ => by omega⟩
theorem to_back {L1 L2 V r n : Nat} {c : Int} (hVn : V ≤ 2147483648 ^ n) (hr : r < V) (hL2 : L2 < 2147483648 ^ n) (hI : (L2 : Int) + c * (2147483648 : Int) ^ n = (L1 : Int) - (-1) * (V : Int)) (h : L1 + V = r + 2147483648 ^ n) : L2 = r := by
  have e : (2147483648 : Int) ^ n = ((2147483648 ^ n : Nat) : Int) := by rw [Int.natCast_pow]; rfl
  rw [e] at hI
  generalize 2147483648 ^ n = P at *
  have e1 : (L2 : Int) + c * (P : Int) = (r : Int) + P := by omega
  have e2 : c = 1 := by
    rcases Int.lt_trichotomy c 1 with a | a | a
    · have : c * (P : Int) ≤ 0 * (P : Int) := Int.mul_le_mul_of_nonneg_right (by omega) (by omega)
      omega
    · exact a
    · have : 2 * (P : Int) ≤ c * (P : Int) := Int.mul_le_mul_of_nonneg_right (by omega) (by omega)
      omega
  rw [e2] at e1
  omega
/-- dividing by one digit, from the top -/
theorem dd_step {g T : Nat → Nat} {n y b l : Nat} (hy : y < n) (hI : vl 2147483648 (fun j => g (y + 1 + j)) (n - (y + 1)) = vl 2147483648 (fun j => T (y + 1 + j)) (n - (y + 1)) * b + l) (hb : 0 < b) (hl : l < b) (hT : T y = g y) :
    vl 2147483648 (fun j => g (y + j)) (n - y) = vl 2147483648 (fun j => va_up T y ((l * 2147483648 + T y) / b) (y + j)) (n - y) * b + (l * 2147483648 + T y) % b := by
  have e0 : n - y = 1 + (n - (y + 1)) := by omega
  have one : ∀ f : Nat → Nat, vl 2147483648 f 1 = f 0 := by
    intro f
    rw [show (1 : Nat) = 0 + 1 from rfl, vl_s, show vl 2147483648 f 0 = 0 from rfl, Nat.pow_zero]; omega
  rw [e0, vl_split, vl_split, one, one]
  have e1 : vl 2147483648 (fun i => (fun j => va_up T y ((l * 2147483648 + T y) / b) (y + j)) (1 + i)) (n - (y + 1)) = vl 2147483648 (fun j => T (y + 1 + j)) (n - (y + 1)) := vl_congr _ (fun i _ => by
    show va_up T y _ (y + (1 + i)) = _
    rw [va_up_ne _ _ (by omega), Nat.add_assoc])
  have e2 : vl 2147483648 (fun i => (fun j => g (y + j)) (1 + i)) (n - (y + 1)) = vl 2147483648 (fun j => g (y + 1 + j)) (n - (y + 1)) := vl_congr _ (fun i _ => by
    show g (y + (1 + i)) = _
    rw [Nat.add_assoc])
  rw [e1, e2, hI]
  show g (y + 0) + _ = (va_up T y _ (y + 0) + _) * b + _
  rw [Nat.add_zero, va_up_self, ← hT, Nat.pow_one]
  have h := Nat.div_add_mod (l * 2147483648 + T y) b
  generalize (l * 2147483648 + T y) / b = x at *
  generalize (l * 2147483648 + T y) % b = r at *
  generalize vl 2147483648 (fun j => T (y + 1 + j)) (n - (y + 1)) = a at *
  have e3 : (a * b + l) * 2147483648 = a * 2147483648 * b + l * 2147483648 := by rw [Nat.add_mul, Nat.mul_assoc, Nat.mul_comm b, Nat.mul_assoc]
  have e4 : (x + a * 2147483648) * b = b * x + a * 2147483648 * b := by rw [Nat.add_mul, Nat.mul_comm x]
  rw [e3, e4]
  omega
theorem dd_end {A Q b l : Nat} (h : A = Q * b + l) (hl : l < b) : Q = A / b := by
  rw [h, Nat.add_comm, Nat.add_mul_div_right _ _ (by omega), Nat.div_eq_of_lt hl, Nat.zero_add]
theorem dd_lt {l b d : Nat} (hl : l < b) (hb : b < 2147483648) (hd : d < 2147483648) : (l * 2147483648 + d) / b < 2147483648 ∧ l * 2147483648 + d < 4611686018427387904 := by
  refine ⟨Nat.div_lt_of_lt_mul ?_, by omega⟩
  have : (l + 1) * 2147483648 ≤ b * 2147483648 := Nat.mul_le_mul_right _ hl
  omega
/-- a shift to the left -/
theorem sf_lt {d c j : Nat} (hd : d < 2147483648) (hj : j ≤ 30) (hc : c < 2 ^ j) : (c + d * 2 ^ j) / 2147483648 < 2 ^ j ∧ c + d * 2 ^ j < 4611686018427387904 ∧ d * 2 ^ j < 4611686018427387904 := by
  have h1 : 2 ^ j ≤ 2 ^ 30 := Nat.pow_le_pow_right (by decide) hj
  have h2 : (d + 1) * 2 ^ j ≤ 2147483648 * 2 ^ j := Nat.mul_le_mul_right _ hd
  have h3 : (d + 1) * 2 ^ j ≤ 2147483648 * 2 ^ 30 := Nat.mul_le_mul (by omega) h1
  rw [Nat.add_mul, Nat.one_mul] at h2 h3
  refine ⟨Nat.div_lt_of_lt_mul (by omega), by omega, by omega⟩
theorem sf_step {T g : Nat → Nat} {i c j : Nat} (hI : vl 2147483648 T i + c * 2147483648 ^ i = vl 2147483648 g i * 2 ^ j) : vl 2147483648 (va_up T i ((c + g i * 2 ^ j) % 2147483648)) (i + 1) + (c + g i * 2 ^ j) / 2147483648 * 2147483648 ^ (i + 1) = vl 2147483648 g (i + 1) * 2 ^ j := by
  rw [cn_step hI, vl_s, Nat.add_mul]
  congr 1
  rw [Nat.mul_assoc, Nat.mul_assoc, Nat.mul_comm (2 ^ j)]
/-- the divisor is shifted so that its highest digit is large: nothing is carried out -/
theorem su_fit {g : Nat → Nat} {n j : Nat} (hn : 1 ≤ n) (hg : ∀ i, g i < 2147483648) (ht : g (n - 1) * 2 ^ j < 2147483648) (hj : j ≤ 30) : vl 2147483648 g n * 2 ^ j < 2147483648 ^ n := by
  obtain ⟨y, rfl⟩ : ∃ y, n = y + 1 := ⟨n - 1, by omega⟩
  rw [show y + 1 - 1 = y by omega] at ht
  have h1 : vl 2147483648 g y < 2147483648 ^ y := vl_lt y (fun i _ => hg i)
  have h2 : vl 2147483648 g (y + 1) + 1 ≤ (g y + 1) * 2147483648 ^ y := by rw [vl_s, Nat.add_mul, Nat.one_mul]; omega
  have e31 : 2147483648 = 2 ^ (31 - j) * 2 ^ j := by rw [← Nat.pow_add, show 31 - j + j = 31 by omega]
  have h3 : g y + 1 ≤ 2 ^ (31 - j) := by
    apply Classical.byContradiction
    intro hn
    have : 2 ^ (31 - j) * 2 ^ j ≤ g y * 2 ^ j := Nat.mul_le_mul_right _ (by omega)
    rw [← e31] at this
    omega
  have h4 : (g y + 1) * 2 ^ j ≤ 2147483648 := by
    rw [e31]; exact Nat.mul_le_mul_right _ h3
  have h5 : vl 2147483648 g (y + 1) * 2 ^ j < (g y + 1) * 2147483648 ^ y * 2 ^ j := Nat.mul_lt_mul_of_pos_right (by omega) (Nat.two_pow_pos j)
  have h6 : (g y + 1) * 2147483648 ^ y * 2 ^ j = (g y + 1) * 2 ^ j * 2147483648 ^ y := by rw [Nat.mul_assoc, Nat.mul_comm (2147483648 ^ y), ← Nat.mul_assoc]
  have h7 : (g y + 1) * 2 ^ j * 2147483648 ^ y ≤ 2147483648 * 2147483648 ^ y := Nat.mul_le_mul_right _ h4
  rw [Nat.pow_succ, Nat.mul_comm (2147483648 ^ y)]
  omega
theorem su_lo {g : Nat → Nat} {n j : Nat} (hn : 1 ≤ n) (ht : 1073741824 ≤ g (n - 1) * 2 ^ j) : 1073741824 * 2147483648 ^ (n - 1) ≤ vl 2147483648 g n * 2 ^ j := by
  obtain ⟨y, rfl⟩ : ∃ y, n = y + 1 := ⟨n - 1, by omega⟩
  rw [show y + 1 - 1 = y by omega] at ht ⊢
  have h1 : g y * 2147483648 ^ y ≤ vl 2147483648 g (y + 1) := by rw [vl_s]; omega
  have h2 : g y * 2147483648 ^ y * 2 ^ j ≤ vl 2147483648 g (y + 1) * 2 ^ j := Nat.mul_le_mul_right _ h1
  have h3 : g y * 2147483648 ^ y * 2 ^ j = g y * 2 ^ j * 2147483648 ^ y := by rw [Nat.mul_assoc, Nat.mul_comm (2147483648 ^ y), ← Nat.mul_assoc]
  have h4 : 1073741824 * 2147483648 ^ y ≤ g y * 2 ^ j * 2147483648 ^ y := Nat.mul_le_mul_right _ ht
  omega
theorem su_top {G : Nat → Nat} {n X : Nat} (hn : 1 ≤ n) (hG : ∀ i, G i < 2147483648) (hv : vl 2147483648 G (n + 1) = X) (hX : X < 2147483648 ^ n) (hlo : 1073741824 * 2147483648 ^ (n - 1) ≤ X) : vl 2147483648 G n = X ∧ 1073741824 ≤ G (n - 1) := by
  rw [vl_s] at hv
  have h0 : G n = 0 := by
    rcases Nat.eq_zero_or_pos (G n) with q | q
    · exact q
    · have := Nat.mul_le_mul_right (2147483648 ^ n) q
      omega
  have h1 : vl 2147483648 G n = X := by rw [h0, Nat.zero_mul] at hv; omega
  refine ⟨h1, ?_⟩
  obtain ⟨y, rfl⟩ : ∃ y, n = y + 1 := ⟨n - 1, by omega⟩
  rw [show y + 1 - 1 = y by omega] at hlo ⊢
  have h2 : vl 2147483648 G y < 2147483648 ^ y := vl_lt y (fun i _ => hG i)
  rw [vl_s] at h1
  apply Classical.byContradiction
  intro hn
  have h3 : (G y + 1) * 2147483648 ^ y ≤ 1073741824 * 2147483648 ^ y := Nat.mul_le_mul_right _ (by omega)
  rw [Nat.add_mul, Nat.one_mul] at h3
  omega
theorem sg_div {z w : Int} (h : w.natAbs ≤ z.natAbs) (hw : w ≠ 0) : sgI (z.tdiv w) = sgI z * sgI w := by
  rw [sg_mul]
  have hq : z.natAbs / w.natAbs ≠ 0 := by
    have : 0 < z.natAbs / w.natAbs := Nat.div_pos h (by omega)
    omega
  have hn : (z.tdiv w).natAbs = z.natAbs / w.natAbs := Int.natAbs_tdiv z w
  have key : ∀ a b : Nat, b ≠ 0 → a / b ≠ 0 → (0 : Int) < (a : Int).tdiv (b : Int) := by
    intro a b hb h
    rw [← Int.ofNat_tdiv]
    exact Int.natCast_pos.mpr (Nat.pos_of_ne_zero h)
  rcases Int.lt_trichotomy z 0 with p | p | p <;> rcases Int.lt_trichotomy w 0 with q | q | q
  · obtain ⟨a, rfl⟩ : ∃ a : Nat, z = -(a : Int) := ⟨z.natAbs, by omega⟩
    obtain ⟨b, rfl⟩ : ∃ b : Nat, w = -(b : Int) := ⟨w.natAbs, by omega⟩
    have h1 : (-(a : Int)).tdiv (-(b : Int)) = (a : Int).tdiv b := by rw [Int.tdiv_neg, Int.neg_tdiv, Int.neg_neg]
    rw [Int.natAbs_neg, Int.natAbs_neg, Int.natAbs_natCast, Int.natAbs_natCast] at hq
    have h2 := key a b (by omega) hq
    have h3 : 0 < -(a : Int) * -(b : Int) := Int.mul_pos_of_neg_of_neg p q
    rw [h1]
    exact sgn_eq (by omega) (by omega)
  · exact absurd q hw
  · obtain ⟨a, rfl⟩ : ∃ a : Nat, z = -(a : Int) := ⟨z.natAbs, by omega⟩
    obtain ⟨b, rfl⟩ : ∃ b : Nat, w = (b : Int) := ⟨w.natAbs, by omega⟩
    have h1 : (-(a : Int)).tdiv (b : Int) = -((a : Int).tdiv b) := Int.neg_tdiv ..
    rw [Int.natAbs_neg, Int.natAbs_natCast, Int.natAbs_natCast] at hq
    have h2 := key a b (by omega) hq
    have h3 : -(a : Int) * (b : Int) < 0 := Int.mul_neg_of_neg_of_pos p q
    rw [h1]
    exact sgn_eq (by omega) (by omega)
  · subst p; rw [Int.natAbs_zero] at h; omega
  · exact absurd q hw
  · subst p; rw [Int.natAbs_zero] at h; omega
  · obtain ⟨a, rfl⟩ : ∃ a : Nat, z = (a : Int) := ⟨z.natAbs, by omega⟩
    obtain ⟨b, rfl⟩ : ∃ b : Nat, w = -(b : Int) := ⟨w.natAbs, by omega⟩
    have h1 : (a : Int).tdiv (-(b : Int)) = -((a : Int).tdiv b) := Int.tdiv_neg ..
    rw [Int.natAbs_neg, Int.natAbs_natCast, Int.natAbs_natCast] at hq
    have h2 := key a b (by omega) hq
    have h3 : (a : Int) * -(b : Int) < 0 := Int.mul_neg_of_pos_of_neg p q
    rw [h1]
    exact sgn_eq (by omega) (by omega)
  · exact absurd q hw
  · obtain ⟨a, rfl⟩ : ∃ a : Nat, z = (a : Int) := ⟨z.natAbs, by omega⟩
    obtain ⟨b, rfl⟩ : ∃ b : Nat, w = (b : Int) := ⟨w.natAbs, by omega⟩
    rw [Int.natAbs_natCast, Int.natAbs_natCast] at hq
    have h2 := key a b (by omega) hq
    have h3 : 0 < (a : Int) * (b : Int) := Int.mul_pos p q
    exact sgn_eq (by omega) (by omega)
theorem tdiv_0 {z w : Int} (h : w = 0 ∨ z.natAbs < w.natAbs) : z.tdiv w = 0 := by
  rcases h with h | h
  · rw [h, Int.tdiv_zero]
  · have e : (z.tdiv w).natAbs = 0 := (Int.natAbs_tdiv z w).trans (Nat.div_eq_of_lt h)
    omega
