/-! how large lines of factors are -/
def l1 (x : Int64) : Nat := x.toInt.natAbs
theorem l1_0 : l1 0 = 0 := by decide
theorem l1_1 : l1 1 = 1 := by decide
theorem bm_le (z : Int) : (z.bmod 18446744073709551616).natAbs ≤ z.natAbs := by
  rw [Int.bmod_def]
  split <;> omega
theorem l1_add (x y : Int64) : l1 (x + y) ≤ l1 x + l1 y := by
  unfold l1
  rw [Int64.toInt_add]
  have := bm_le (x.toInt + y.toInt)
  have e : (2 : Nat) ^ 64 = 18446744073709551616 := by decide
  rw [e]
  omega
theorem l1_sub (x y : Int64) : l1 (x - y) ≤ l1 x + l1 y := by
  unfold l1
  rw [Int64.toInt_sub]
  have := bm_le (x.toInt - y.toInt)
  have e : (2 : Nat) ^ 64 = 18446744073709551616 := by decide
  rw [e]
  omega
def ns : Nat → (Nat → Nat) → Nat
  | 0, _ => 0
  | n + 1, f => ns n f + f n
theorem ns_s (n : Nat) (f : Nat → Nat) : ns (n + 1) f = ns n f + f n := rfl
theorem ns_congr {f g : Nat → Nat} : ∀ {n : Nat}, (∀ i, i < n → f i = g i) → ns n f = ns n g
  | 0, _ => rfl
  | n + 1, h => by rw [ns_s, ns_s, ns_congr (fun i hi => h i (by omega)), h n (by omega)]
theorem ns_le {f g : Nat → Nat} : ∀ {n : Nat}, (∀ i, i < n → f i ≤ g i) → ns n f ≤ ns n g
  | 0, _ => Nat.le_refl _
  | n + 1, h => by
    rw [ns_s, ns_s]
    have := ns_le (n := n) (fun i hi => h i (by omega))
    have := h n (by omega)
    omega
theorem ns_add (f g : Nat → Nat) : ∀ n, ns n (fun i => f i + g i) = ns n f + ns n g
  | 0 => rfl
  | n + 1 => by rw [ns_s, ns_s, ns_s, ns_add f g n]; omega
theorem ns_0 : ∀ n, ns n (fun _ => 0) = 0
  | 0 => rfl
  | n + 1 => by rw [ns_s, ns_0 n]
theorem ns_mem {f : Nat → Nat} : ∀ {n i : Nat}, i < n → f i ≤ ns n f
  | 0, _, h => absurd h (Nat.not_lt_zero _)
  | n + 1, i, h => by
    rw [ns_s]
    by_cases q : i = n
    · subst q; omega
    · have := ns_mem (f := f) (n := n) (i := i) (by omega); omega
/-- one place grows by d at most -/
theorem ns_one {f g : Nat → Nat} {j d : Nat} : ∀ {n : Nat}, (∀ i, i < n → i ≠ j → f i ≤ g i) → f j ≤ g j + d → ns n f ≤ ns n g + d
  | 0, _, _ => Nat.zero_le _
  | n + 1, h, hj => by
    rw [ns_s, ns_s]
    by_cases q : j = n
    · subst q
      have : ns j f ≤ ns j g := ns_le (fun i hi => h i (by omega) (by omega))
      omega
    · have := ns_one (n := n) (fun i hi hne => h i (by omega) hne) hj
      have := h n (by omega) (fun e => q e.symm)
      omega
theorem ns_up {m n : Nat} (h : m ≤ n) (f : Nat → Nat) : ns m f ≤ ns n f := by
  obtain ⟨d, rfl⟩ : ∃ d, n = m + d := ⟨n - m, by omega⟩
  clear h
  induction d with
  | zero => exact Nat.le_refl _
  | succ d ih => rw [← Nat.add_assoc, ns_s]; omega
/-- line x: 41 factors from x * 41 on -/
def lz (f : Nat → Int64) (x : Nat) : Nat := ns 41 (fun k => l1 (f (x * 41 + k)))
theorem lz_congr {f g : Nat → Int64} {x : Nat} (h : ∀ k, k < 41 → f (x * 41 + k) = g (x * 41 + k)) : lz f x = lz g x := ns_congr (fun k hk => by rw [h k hk])
theorem lz_C {f : Nat → Int64} {x : Nat} : lz (lnC f (x * 41) 41) x = 0 := by
  unfold lz
  rw [ns_congr (g := fun _ => 0) (fun k hk => by show l1 (if _ then 0 else _) = 0; rw [if_pos (by omega)]; exact l1_0), ns_0]
theorem lz_C_ne {f : Nat → Int64} {x y : Nat} (h : y ≠ x) : lz (lnC f (x * 41) 41) y = lz f y := lz_congr (fun k hk => if_neg (by omega))
theorem lz_P {f : Nat → Int64} {x y : Nat} : lz (lnP f (y * 41) (x * 41) 41) x = lz f y := ns_congr (fun k hk => by
  show l1 (if _ then _ else _) = _
  rw [if_pos (by omega), Nat.add_sub_cancel_left])
theorem lz_P_ne {f : Nat → Int64} {x y z : Nat} (h : z ≠ x) : lz (lnP f (y * 41) (x * 41) 41) z = lz f z := lz_congr (fun k hk => if_neg (by omega))
theorem lz_A {f : Nat → Int64} {x y : Nat} : lz (lnA f (y * 41) (x * 41) 41) x ≤ lz f x + lz f y := by
  unfold lz
  rw [← ns_add]
  refine ns_le (fun k hk => ?_)
  show l1 (if _ then _ else _) ≤ _
  rw [if_pos (by omega), Nat.add_sub_cancel_left]
  exact l1_add _ _
theorem lz_A_ne {f : Nat → Int64} {x y z : Nat} (h : z ≠ x) : lz (lnA f (y * 41) (x * 41) 41) z = lz f z := lz_congr (fun k hk => if_neg (by omega))
theorem lz_up {f : Nat → Int64} {x j : Nat} {v : Int64} (hj : j < 41) : lz (va_up f (x * 41 + j) v) x ≤ lz f x + l1 v := by
  unfold lz
  refine ns_one (j := j) (fun i hi hne => ?_) ?_
  · rw [va_up_ne _ _ (by omega)]; exact Nat.le_refl _
  · rw [va_up_self]; omega
theorem lz_inc {f : Nat → Int64} {x j d : Nat} {v : Int64} (hv : l1 v ≤ l1 (f (x * 41 + j)) + d) : lz (va_up f (x * 41 + j) v) x ≤ lz f x + d := by
  unfold lz
  refine ns_one (j := j) (fun i hi hne => ?_) ?_
  · rw [va_up_ne _ _ (by omega)]; exact Nat.le_refl _
  · rw [va_up_self]; exact hv
theorem lz_up_ne {f : Nat → Int64} {x y j : Nat} {v : Int64} (hj : j < 41) (h : y ≠ x) : lz (va_up f (x * 41 + j) v) y = lz f y := lz_congr (fun k hk => va_up_ne _ _ (by omega))
/-- less a line of another row of factors -/
def lnT (f g : Nat → Int64) (fr to t : Nat) : Nat → Int64 := fun i => if to ≤ i ∧ i < to + t then f i - g (fr + (i - to)) else f i
theorem lz_T {f g : Nat → Int64} {x y : Nat} : lz (lnT f g (y * 41) (x * 41) 41) x ≤ lz f x + lz g y := by
  unfold lz
  rw [← ns_add]
  refine ns_le (fun k hk => ?_)
  show l1 (if _ then _ else _) ≤ _
  rw [if_pos (by omega), Nat.add_sub_cancel_left]
  exact l1_sub _ _
theorem lz_T_ne {f g : Nat → Int64} {x y z : Nat} (h : z ≠ x) : lz (lnT f g (y * 41) (x * 41) 41) z = lz f z := lz_congr (fun k hk => if_neg (by omega))
theorem lz_dt (f : Nat → Int64) (x : Nat) : dt_nm 41 (fun j => (f (41 * x + j)).toInt) = lz f x := by
  unfold lz
  have : ∀ n, dt_nm n (fun j => (f (41 * x + j)).toInt) = ns n (fun k => l1 (f (x * 41 + k))) := by
    intro n
    induction n with
    | zero => rfl
    | succ n ih => rw [dt_nm_s, ns_s, ih, Nat.mul_comm]; rfl
  exact this 41
/-- all variables' lines of a block -/
def tn (f : Nat → Int64) (b : Nat) : Nat := ns 19 (fun k => lz f (22 * b + k))
