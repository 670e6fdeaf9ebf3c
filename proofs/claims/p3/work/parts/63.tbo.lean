/-! what the table's cells hold behind keepQuotient, put, swapOne, sum -/
theorem dgQ_out {dg qt : Nat → Nat} {b t i : Nat} (h : i < b ∨ b + t ≤ i) : dgQ dg qt b t i = dg i := if_neg (by omega)
theorem dgQ_in {dg qt : Nat → Nat} {b t i : Nat} (h : i < t) : dgQ dg qt b t (b + i) = qt i := by
  unfold dgQ
  rw [if_pos (by omega), Nat.add_sub_cancel_left]
theorem tbO_keepB {dg sz bl qt : Nat → Nat} {T : Nat → Int} {c n b : Nat} {z : Int} (h : tbO dg sz bl T) (hn : n ≤ 80) (hb : b ≤ 1) (hq : ∀ i, i < 170 → qt i < 65536) (htr : n = 0 ∨ qt (n - 1) ≠ 0) (hz : n = 0 → b = 0) (hv : sv b (vl 65536 qt n) = z) : tbO (dgQ dg qt (c * 80) n) (va_up sz c n) (va_up bl c b) (va_up T c z) := by
  refine tbO_up h (fun i hi => ?_) (fun i hi => dgQ_out (by omega)) hn hb ?_ hz ?_
  · unfold dgQ
    split
    · exact hq _ (by omega)
    · exact h.1 i hi
  · rcases htr with q | q
    · exact Or.inl q
    · rcases Nat.eq_zero_or_pos n with w | w
      · exact Or.inl w
      · rw [dgQ_in (by omega)]; exact Or.inr q
  · rw [vl_congr (h := qt) n (fun i hi => dgQ_in hi)]
    exact hv
theorem tbO_keep {dg sz bl qt : Nat → Nat} {T : Nat → Int} {c n o t : Nat} {z : Int} (h : tbO dg sz bl T) (hn : n ≤ 80) (hq : ∀ i, i < 170 → qt i < 65536) (htr : n = 0 ∨ qt (n - 1) ≠ 0) (hv : (if o = t then (vl 65536 qt n : Int) else - (vl 65536 qt n : Int)) = z) : tbO (dgQ dg qt (c * 80) n) (va_up sz c n) (va_up bl c (kqB n o t)) (va_up T c z) := by
  refine tbO_keepB h hn ?_ hq htr (fun w => by unfold kqB; rw [if_pos w]) ?_
  · unfold kqB
    split
    · omega
    · split <;> omega
  · unfold kqB sv
    by_cases w : n = 0
    · rw [if_pos w, if_neg (by decide), ← hv, w]
      show ((0 : Nat) : Int) = if o = t then ((0 : Nat) : Int) else - ((0 : Nat) : Int)
      split <;> rfl
    · rw [if_neg w, ← hv]
      by_cases q : o = t
      · rw [if_pos q, if_pos q, if_neg (by decide)]
      · rw [if_neg q, if_neg q, if_pos rfl]
theorem tbO_put_p {dg sz bl dg' : Nat → Nat} {T : Nat → Int} {c n a : Nat} (h : tbO dg sz bl T) (hp : vl 65536 (fun i => dg' (c * 80 + i)) n = a ∧ n ≤ 4 ∧ (n = 0 ∨ dg' (c * 80 + (n - 1)) ≠ 0) ∧ (∀ i, i < 319840 → dg' i < 65536) ∧ ∀ i, i < c * 80 ∨ c * 80 + 80 ≤ i → dg' i = dg i) : tbO dg' (va_up sz c n) (va_up bl c 0) (va_up T c (a : Int)) :=
  tbO_up h hp.2.2.2.1 hp.2.2.2.2 (by have := hp.2.1; omega) (by decide) hp.2.2.1 (fun _ => rfl) (by rw [hp.1]; rfl)
theorem tbO_put_n {dg sz bl dg' : Nat → Nat} {T : Nat → Int} {c n a : Nat} (h : tbO dg sz bl T) (ha : 0 < a) (hp : vl 65536 (fun i => dg' (c * 80 + i)) n = a ∧ n ≤ 4 ∧ (n = 0 ∨ dg' (c * 80 + (n - 1)) ≠ 0) ∧ (∀ i, i < 319840 → dg' i < 65536) ∧ ∀ i, i < c * 80 ∨ c * 80 + 80 ≤ i → dg' i = dg i) : tbO dg' (va_up sz c n) (va_up bl c 1) (va_up T c (- (a : Int))) :=
  tbO_up h hp.2.2.2.1 hp.2.2.2.2 (by have := hp.2.1; omega) (by decide) hp.2.2.1 (fun w => by
    have h1 := hp.1
    rw [w] at h1
    have h1 : 0 = a := h1
    omega) (by rw [hp.1]; rfl)
/-- the numbers of two cells change places -/
def swD (dg : Nat → Nat) (p t : Nat) : Nat → Nat := fun i => if p * 80 ≤ i ∧ i < p * 80 + t then dg (319760 + (i - p * 80)) else if 319760 ≤ i ∧ i < 319760 + t then dg (p * 80 + (i - 319760)) else dg i
theorem swD_0 (dg : Nat → Nat) (p : Nat) : swD dg p 0 = dg := by
  funext i
  unfold swD
  rw [if_neg (by omega), if_neg (by omega)]
theorem swD_s {dg : Nat → Nat} {p t : Nat} (hp : p < 3997) (ht : t < 80) : va_up (va_up (swD dg p t) (p * 80 + t) (swD dg p t (319760 + t))) (319760 + t) (swD dg p t (p * 80 + t)) = swD dg p (t + 1) := by
  have e1 : swD dg p t (319760 + t) = dg (319760 + t) := by unfold swD; rw [if_neg (by omega), if_neg (by omega)]
  have e2 : swD dg p t (p * 80 + t) = dg (p * 80 + t) := by unfold swD; rw [if_neg (by omega), if_neg (by omega)]
  rw [e1, e2]
  funext i
  by_cases q1 : i = 319760 + t
  · subst q1
    rw [va_up_self]
    unfold swD
    rw [if_neg (by omega), if_pos (by omega), Nat.add_sub_cancel_left]
  · rw [va_up_ne _ _ q1]
    by_cases q2 : i = p * 80 + t
    · subst q2
      rw [va_up_self]
      unfold swD
      rw [if_pos (by omega), Nat.add_sub_cancel_left]
    · rw [va_up_ne _ _ q2]
      unfold swD
      by_cases q3 : p * 80 ≤ i ∧ i < p * 80 + t
      · rw [if_pos q3, if_pos (by omega)]
      · rw [if_neg q3, if_neg (show ¬ (p * 80 ≤ i ∧ i < p * 80 + (t + 1)) by omega)]
        by_cases q4 : 319760 ≤ i ∧ i < 319760 + t
        · rw [if_pos q4, if_pos (by omega)]
        · rw [if_neg q4, if_neg (by omega)]
theorem swD_p {dg : Nat → Nat} {p t i : Nat} (h : i < t) : swD dg p t (p * 80 + i) = dg (319760 + i) := by
  unfold swD
  rw [if_pos (by omega), Nat.add_sub_cancel_left]
theorem swD_1 {dg : Nat → Nat} {p t i : Nat} (hp : p < 3997) (ht : t ≤ 80) (h : i < t) : swD dg p t (3997 * 80 + i) = dg (p * 80 + i) := by
  unfold swD
  rw [if_neg (by omega), if_pos (by omega), show 3997 * 80 + i - 319760 = i by omega]
theorem swD_out {dg : Nat → Nat} {p t i : Nat} (h1 : i < p * 80 ∨ p * 80 + t ≤ i) (h2 : i < 319760) : swD dg p t i = dg i := by
  unfold swD
  rw [if_neg (by omega), if_neg (by omega)]
theorem tbO_swap {dg sz bl : Nat → Nat} {T : Nat → Int} {p m b : Nat} (h : tbO dg sz bl T) (hp : p < 3997) (h1 : 0 < T 3997) (hm1 : sz p ≤ m) (hm2 : sz 3997 ≤ m) (hm : m ≤ 80) (hb : b ≤ 1) : tbO (swD dg p m) (va_up (va_up sz p (sz 3997)) 3997 (sz p)) (va_up (va_up bl 3997 0) p b) (va_up (va_up T p (if b = 0 then T 3997 else - T 3997)) 3997 (T p).natAbs) := by
  have g1 := h.2 3997 (by omega)
  have gp := h.2 p (by omega)
  have z1 : sz 3997 ≠ 0 := fun q => by have := (nmO_zero g1).mp q; omega
  refine ⟨fun i hi => ?_, fun x hx => ?_⟩
  · unfold swD
    split
    · exact h.1 _ (by omega)
    · split
      · exact h.1 _ (by omega)
      · exact h.1 i hi
  · by_cases q1 : x = 3997
    · subst q1
      unfold nmO
      rw [va_up_self, va_up_self, va_up_ne _ _ (show 3997 ≠ p by omega), va_up_self]
      refine ⟨gp.1, by decide, ?_, fun _ => rfl, ?_⟩
      · rcases gp.2.2.1 with w | w
        · exact Or.inl w
        · rcases Nat.eq_zero_or_pos (sz p) with v | v
          · exact Or.inl v
          · right
            rw [swD_1 hp hm (by omega)]
            exact w
      · rw [vl_congr (h := fun i => dg (p * 80 + i)) (sz p) (fun i hi => swD_1 hp hm (by omega)), nmO_abs gp]
        rfl
    · by_cases q2 : x = p
      · subst q2
        unfold nmO
        rw [va_up_ne _ _ q1, va_up_self, va_up_self, va_up_ne _ _ q1, va_up_self]
        refine ⟨g1.1, hb, ?_, fun w => absurd w z1, ?_⟩
        · right
          rw [swD_p (by omega)]
          have := g1.2.2.1.resolve_left z1
          exact this
        · rw [vl_congr (h := fun i => dg (3997 * 80 + i)) (sz 3997) (fun i hi => swD_p (by omega)), nmO_abs g1]
          unfold sv
          by_cases w : b = 0
          · rw [if_pos w, if_neg (by omega)]; omega
          · rw [if_neg w, if_pos (by omega)]; omega
      · have gx := h.2 x hx
        unfold nmO at gx ⊢
        rw [va_up_ne _ _ q1, va_up_ne _ _ q2, va_up_ne _ _ q2, va_up_ne _ _ q1, va_up_ne _ _ q1, va_up_ne _ _ q2]
        refine ⟨gx.1, gx.2.1, ?_, gx.2.2.2.1, ?_⟩
        · rcases gx.2.2.1 with w | w
          · exact Or.inl w
          · right
            rw [swD_out (by omega) (by omega)]
            exact w
        · rw [vl_congr (h := fun i => dg (x * 80 + i)) (sz x) (fun i hi => swD_out (by omega) (by omega))]
          exact gx.2.2.2.2
/-- one cell of a row: the quotient's amount and sign -/
theorem rb_val {ob A tu : Nat} {X one z p : Int} (hob : ob ≤ 1) (hX : sv ob A = X) (ho : 0 < one) (hz : X = - (one * z)) (htu : tu = if 0 < p then 1 else 0) : A / one.natAbs = z.natAbs ∧ (if ob = tu then (z.natAbs : Int) else - (z.natAbs : Int)) = sxS p * z := by
  have hA : A = one.natAbs * z.natAbs := by
    have e1 : A = X.natAbs := by rw [← hX, sv_abs]
    rw [e1, hz, Int.natAbs_neg, Int.natAbs_mul]
  refine ⟨by rw [hA]; exact Nat.mul_div_cancel_left _ (by omega), ?_⟩
  have hs : (0 < z → X < 0) ∧ (z < 0 → 0 < X) ∧ (z = 0 → X = 0) := by
    rw [hz]
    refine ⟨fun w => ?_, fun w => ?_, fun w => ?_⟩
    · have := Int.mul_pos ho w; omega
    · have := Int.mul_neg_of_pos_of_neg ho w; omega
    · rw [w, Int.mul_zero]; rfl
  have hb : (X < 0 → ob = 1) ∧ (0 < X → ob = 0) := by
    rw [← hX]
    unfold sv
    by_cases w : ob = 1
    · rw [if_pos w]; exact ⟨fun _ => w, fun q => by omega⟩
    · rw [if_neg w]; exact ⟨fun q => by omega, fun _ => by omega⟩
  unfold sxS
  by_cases w : 0 < p
  · rw [if_pos w] at htu ⊢
    rcases Int.lt_trichotomy z 0 with q | q | q
    · rw [if_neg (by have := hb.2 (hs.2.1 q); omega)]; omega
    · rw [q]; split <;> rfl
    · rw [if_pos (by have := hb.1 (hs.1 q); omega)]; omega
  · rw [if_neg w] at htu ⊢
    rcases Int.lt_trichotomy z 0 with q | q | q
    · rw [if_pos (by have := hb.2 (hs.2.1 q); omega)]; omega
    · rw [q]; split <;> rfl
    · rw [if_neg (by have := hb.1 (hs.1 q); omega)]; omega
theorem qn_le {qt : Nat → Nat} {n v : Nat} (hv : vl 65536 qt n = v) (hlt : v < 65536 ^ 80) (ht : n = 0 ∨ qt (n - 1) ≠ 0) : n ≤ 80 := by
  apply Nat.le_of_not_lt
  intro q
  have h1 := vl_ge (B := 65536) (g := qt) (n := n) (by omega) (ht.resolve_left (by omega))
  have h2 : 65536 ^ 80 ≤ 65536 ^ (n - 1) := Nat.pow_le_pow_right (by decide) (by omega)
  omega
