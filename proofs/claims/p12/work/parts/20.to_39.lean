section
/-! determinants of whole numbers, by their first column; two equal columns give 0; Cramer's rule. No machine here: this is what the tables of both solvers hold. -/
def dt_sk (i a : Nat) : Nat := if a < i then a else a + 1
def dt_un (i j : Nat) : Nat := if j < i then j else j - 1
def dt_cs (c j : Nat) : Nat := if j = c then c + 1 else if j = c + 1 then c else j
def dt_sg (i : Nat) : Int := if i % 2 = 0 then 1 else -1
def dt_sum : Nat → (Nat → Int) → Int
  | 0, _ => 0
  | n + 1, f => dt_sum n f + f n
def dt : Nat → (Nat → Nat → Int) → Int
  | 0, _ => 1
  | n + 1, M => dt_sum (n + 1) (fun i => dt_sg i * M i 0 * dt n (fun a b => M (dt_sk i a) (b + 1)))
theorem dt_sum_s (n : Nat) (f : Nat → Int) : dt_sum (n + 1) f = dt_sum n f + f n := rfl
theorem dt_sg_s (i : Nat) : dt_sg (i + 1) = - dt_sg i := by
  unfold dt_sg
  rcases Nat.mod_two_eq_zero_or_one i with h | h
  · rw [if_neg (by omega), if_pos h]
  · rw [if_pos (by omega), if_neg (by omega)]
    rfl
theorem dt_sg_q (i : Nat) : dt_sg i * dt_sg i = 1 := by
  unfold dt_sg
  split <;> rfl
theorem dt_sum_congr {n : Nat} {f g : Nat → Int} (h : ∀ i, i < n → f i = g i) : dt_sum n f = dt_sum n g := by
  induction n with
  | zero => rfl
  | succ n ih => rw [dt_sum, dt_sum, ih (fun i hi => h i (by omega)), h n (by omega)]
theorem dt_sum_0 (n : Nat) : dt_sum n (fun _ => 0) = 0 := by
  induction n with
  | zero => rfl
  | succ n ih => rw [dt_sum, ih]; rfl
theorem dt_sum_add (n : Nat) (f g : Nat → Int) : dt_sum n (fun i => f i + g i) = dt_sum n f + dt_sum n g := by
  induction n with
  | zero => rfl
  | succ n ih => rw [dt_sum, dt_sum, dt_sum, ih]; omega
theorem dt_sum_neg (n : Nat) (f : Nat → Int) : dt_sum n (fun i => - f i) = - dt_sum n f := by
  induction n with
  | zero => rfl
  | succ n ih => rw [dt_sum, dt_sum, ih]; omega
theorem dt_sum_mul (n : Nat) (c : Int) (f : Nat → Int) : dt_sum n (fun i => c * f i) = c * dt_sum n f := by
  induction n with
  | zero => simp [dt_sum]
  | succ n ih => rw [dt_sum, dt_sum, ih, Int.mul_add]
theorem dt_sum_comm (n m : Nat) (f : Nat → Nat → Int) : dt_sum n (fun i => dt_sum m (fun j => f i j)) = dt_sum m (fun j => dt_sum n (fun i => f i j)) := by
  induction n with
  | zero => simp only [dt_sum]; exact (dt_sum_0 m).symm
  | succ n ih => simp only [dt_sum]; rw [ih, dt_sum_add]
theorem dt_sum_first (n : Nat) (f : Nat → Int) : dt_sum (n + 1) f = f 0 + dt_sum n (fun i => f (i + 1)) := by
  induction n with
  | zero => simp [dt_sum]
  | succ n ih => rw [dt_sum, ih, dt_sum]; omega
theorem dt_sum_skip {n i : Nat} (hi : i < n + 1) (f : Nat → Int) : dt_sum n (fun a => f (dt_sk i a)) = dt_sum (n + 1) f - f i := by
  induction n with
  | zero =>
    have : i = 0 := by omega
    subst this
    simp [dt_sum]
  | succ n ih =>
    by_cases h : i < n + 1
    · have e : dt_sk i n = n + 1 := by unfold dt_sk; rw [if_neg (by omega)]
      rw [dt_sum_s, ih h, e, dt_sum_s (n + 1) f]
      omega
    · have : i = n + 1 := by omega
      subst this
      rw [dt_sum_congr (g := f) (fun a ha => by unfold dt_sk; rw [if_pos (by omega)]), dt_sum_s (n + 1) f]
      omega
theorem dt_sum_swap {n c : Nat} (h : c + 1 < n) (f : Nat → Int) : dt_sum n (fun i => f (dt_cs c i)) = dt_sum n f := by
  induction n with
  | zero => omega
  | succ n ih =>
    by_cases h2 : c + 1 < n
    · have e : dt_cs c n = n := by unfold dt_cs; rw [if_neg (by omega), if_neg (by omega)]
      rw [dt_sum, dt_sum, ih h2, e]
    · have : n = c + 1 := by omega
      subst this
      have e0 : dt_sum c (fun i => f (dt_cs c i)) = dt_sum c f := dt_sum_congr (fun i hi => by unfold dt_cs; rw [if_neg (by omega), if_neg (by omega)])
      have e1 : dt_cs c c = c + 1 := by simp [dt_cs]
      have e2 : dt_cs c (c + 1) = c := by simp [dt_cs]
      simp only [dt_sum, e0, e1, e2]
      omega
theorem dt_congr {n : Nat} {M N : Nat → Nat → Int} (h : ∀ i, i < n → ∀ j, j < n → M i j = N i j) : dt n M = dt n N := by
  induction n generalizing M N with
  | zero => rfl
  | succ n ih =>
    rw [dt, dt]
    refine dt_sum_congr (fun i hi => ?_)
    rw [h i hi 0 (by omega), ih (fun a ha b hb => h _ (by unfold dt_sk; split <;> omega) _ (by omega))]
/-- by the first two columns -/
theorem dt_two (n : Nat) (M : Nat → Nat → Int) : dt (n + 2) M = dt_sum (n + 2) (fun i => dt_sum (n + 2) (fun j => if i = j then 0 else dt_sg i * dt_sg (dt_un i j) * (M i 0 * M j 1) * dt n (fun a b => M (dt_sk i (dt_sk (dt_un i j) a)) (b + 2)))) := by
  rw [dt]
  refine dt_sum_congr (fun i hi => ?_)
  rw [dt, ← dt_sum_mul]
  have hs := dt_sum_skip (n := n + 1) (i := i) (by omega) (fun j => if i = j then 0 else dt_sg i * dt_sg (dt_un i j) * (M i 0 * M j 1) * dt n (fun a b => M (dt_sk i (dt_sk (dt_un i j) a)) (b + 2)))
  simp only [if_true, Int.sub_zero] at hs
  rw [← hs]
  refine dt_sum_congr (fun a ha => ?_)
  have e1 : ¬ i = dt_sk i a := by unfold dt_sk; (repeat' split) <;> omega
  have e2 : dt_un i (dt_sk i a) = a := by unfold dt_un dt_sk; (repeat' split) <;> omega
  rw [if_neg e1, e2]
  simp only [Int.mul_assoc, Int.mul_left_comm]
theorem dt_un_sg {i j : Nat} (h : i ≠ j) : dt_sg i * dt_sg (dt_un i j) = - (dt_sg j * dt_sg (dt_un j i)) := by
  unfold dt_un
  rcases Nat.lt_or_gt_of_ne h with h1 | h1
  · rw [if_neg (by omega), if_pos h1]
    obtain ⟨d, rfl⟩ : ∃ d, j = d + 1 := ⟨j - 1, by omega⟩
    rw [dt_sg_s, Nat.add_sub_cancel, Int.neg_mul, Int.neg_neg, Int.mul_comm]
  · rw [if_pos h1, if_neg (by omega)]
    obtain ⟨d, rfl⟩ : ∃ d, i = d + 1 := ⟨i - 1, by omega⟩
    rw [dt_sg_s, Nat.add_sub_cancel, Int.neg_mul, Int.mul_comm]
theorem dt_un_sk {i j : Nat} (h : i ≠ j) (a : Nat) : dt_sk i (dt_sk (dt_un i j) a) = dt_sk j (dt_sk (dt_un j i) a) := by
  unfold dt_sk dt_un
  (repeat' split) <;> omega
theorem dt_cs_0 : dt_cs 0 0 = 1 ∧ dt_cs 0 1 = 0 := ⟨rfl, rfl⟩
theorem dt_swap0 (n : Nat) (M : Nat → Nat → Int) : dt (n + 2) (fun i j => M i (dt_cs 0 j)) = - dt (n + 2) M := by
  rw [dt_two, dt_two, dt_sum_comm, ← dt_sum_neg]
  refine dt_sum_congr (fun j hj => ?_)
  rw [← dt_sum_neg]
  refine dt_sum_congr (fun i hi => ?_)
  by_cases h : i = j
  · subst h
    simp
  · have h2 : ¬ j = i := fun e => h e.symm
    rw [if_neg h, if_neg h2, dt_un_sg h]
    have e : (fun a b => M (dt_sk i (dt_sk (dt_un i j) a)) (dt_cs 0 (b + 2))) = (fun a b => M (dt_sk j (dt_sk (dt_un j i) a)) (b + 2)) := by
      funext a b
      rw [dt_un_sk h]
      have : dt_cs 0 (b + 2) = b + 2 := by unfold dt_cs; rw [if_neg (by omega), if_neg (by omega)]
      rw [this]
    rw [e, dt_cs_0.1, dt_cs_0.2, Int.mul_comm (M i 1) (M j 0)]
    simp only [Int.neg_mul]
theorem dt_cs_s (c b : Nat) : dt_cs (c + 1) (b + 1) = dt_cs c b + 1 := by
  unfold dt_cs
  (repeat' split) <;> omega
theorem dt_swapc : ∀ (n c : Nat) (_ : c + 1 < n) (M : Nat → Nat → Int), dt n (fun i j => M i (dt_cs c j)) = - dt n M
  | 0, _, h, _ => by omega
  | 1, _, h, _ => by omega
  | n + 2, 0, _, M => dt_swap0 n M
  | n + 2, c + 1, h, M => by
    rw [dt, dt, ← dt_sum_neg]
    refine dt_sum_congr (fun i hi => ?_)
    have e0 : dt_cs (c + 1) 0 = 0 := by unfold dt_cs; rw [if_neg (by omega), if_neg (by omega)]
    have e1 : (fun a b => M (dt_sk i a) (dt_cs (c + 1) (b + 1))) = (fun a b => (fun x y => M (dt_sk i x) (y + 1)) a (dt_cs c b)) := by
      funext a b
      rw [dt_cs_s]
    have e2 := dt_swapc (n + 1) c (by omega) (fun x y => M (dt_sk i x) (y + 1))
    rw [e0, e1, e2, Int.mul_neg]
theorem dt_eqc (n : Nat) : ∀ (d a : Nat) (M : Nat → Nat → Int), a + 1 + d < n → (∀ i, i < n → M i a = M i (a + 1 + d)) → dt n M = 0
  | 0, a, M, h, he => by
    have h1 := dt_swapc n a (by omega) M
    have h2 : dt n (fun i j => M i (dt_cs a j)) = dt n M := by
      refine dt_congr (fun i hi j hj => ?_)
      show M i (dt_cs a j) = M i j
      unfold dt_cs
      split
      · next e => rw [e]; exact (he i hi).symm
      · split
        · next e => rw [e]; exact he i hi
        · rfl
    omega
  | d + 1, a, M, h, he => by
    have h1 := dt_swapc n (a + 1 + d) (by omega) M
    have h2 := dt_eqc n d a (fun i j => M i (dt_cs (a + 1 + d) j)) (by omega) (fun i hi => by
      show M i (dt_cs (a + 1 + d) a) = M i (dt_cs (a + 1 + d) (a + 1 + d))
      have e1 : dt_cs (a + 1 + d) a = a := by unfold dt_cs; rw [if_neg (by omega), if_neg (by omega)]
      have e2 : dt_cs (a + 1 + d) (a + 1 + d) = a + 1 + (d + 1) := by unfold dt_cs; rw [if_pos rfl]; omega
      rw [e1, e2]
      exact he i hi)
    omega
/-- two rows side by side change places -/
theorem dt_swapr : ∀ (n r : Nat) (_ : r + 1 < n) (M : Nat → Nat → Int), dt n (fun i j => M (dt_cs r i) j) = - dt n M
  | 0, _, h, _ => by omega
  | n + 1, r, h, M => by
    have key : ∀ i, i < n + 1 → dt_sg i * M (dt_cs r i) 0 * dt n (fun a b => M (dt_cs r (dt_sk i a)) (b + 1)) = - (fun j => dt_sg j * M j 0 * dt n (fun a b => M (dt_sk j a) (b + 1))) (dt_cs r i) := by
      intro i hi
      show _ = - (dt_sg (dt_cs r i) * M (dt_cs r i) 0 * dt n (fun a b => M (dt_sk (dt_cs r i) a) (b + 1)))
      by_cases h1 : i = r
      · subst h1
        have e1 : dt_cs i i = i + 1 := by simp [dt_cs]
        have e2 : (fun a b => M (dt_cs i (dt_sk i a)) (b + 1)) = (fun a b => M (dt_sk (i + 1) a) (b + 1)) := by
          funext a b
          have : dt_cs i (dt_sk i a) = dt_sk (i + 1) a := by unfold dt_cs dt_sk; (repeat' split) <;> omega
          rw [this]
        rw [e1, e2, dt_sg_s]
        simp only [Int.neg_mul, Int.neg_neg]
      · by_cases h2 : i = r + 1
        · subst h2
          have e1 : dt_cs r (r + 1) = r := by simp [dt_cs]
          have e2 : (fun a b => M (dt_cs r (dt_sk (r + 1) a)) (b + 1)) = (fun a b => M (dt_sk r a) (b + 1)) := by
            funext a b
            have : dt_cs r (dt_sk (r + 1) a) = dt_sk r a := by unfold dt_cs dt_sk; (repeat' split) <;> omega
            rw [this]
          rw [e1, e2, dt_sg_s]
          simp only [Int.neg_mul]
        · have e1 : dt_cs r i = i := by unfold dt_cs; rw [if_neg h1, if_neg h2]
          obtain ⟨q, hq, e2⟩ : ∃ q, q + 1 < n ∧ ∀ a, dt_cs r (dt_sk i a) = dt_sk i (dt_cs q a) := by
            by_cases h3 : i < r
            · exact ⟨r - 1, by omega, fun a => by unfold dt_cs dt_sk; (repeat' split) <;> omega⟩
            · exact ⟨r, by omega, fun a => by unfold dt_cs dt_sk; (repeat' split) <;> omega⟩
          have e3 : (fun a b => M (dt_cs r (dt_sk i a)) (b + 1)) = (fun a b => (fun x y => M (dt_sk i x) (y + 1)) (dt_cs q a) b) := by
            funext a b
            rw [e2]
          have e4 := dt_swapr n q hq (fun x y => M (dt_sk i x) (y + 1))
          rw [e1, e3, e4, Int.mul_neg]
    have e9 := dt_sum_swap h (fun j => dt_sg j * M j 0 * dt n (fun a b => M (dt_sk j a) (b + 1)))
    rw [dt, dt, dt_sum_congr key, dt_sum_neg, e9]
/-- a matrix with one row put in another's place -/
def dt_put (G : Nat → Nat → Int) (i : Nat) (f : Nat → Int) : Nat → Nat → Int := fun a b => if a = i then f b else G a b
/-- the row f at place t, the rows of G but the i-th round it -/
def dt_mv (G : Nat → Nat → Int) (f : Nat → Int) (i t : Nat) : Nat → Nat → Int := fun a b => if a < t then G a b else if a = t then f b else if a ≤ i then G (a - 1) b else G a b
theorem dt_mv_s (G : Nat → Nat → Int) (f : Nat → Int) {n i t : Nat} (hi : i < n) (ht : t < i) : dt n (dt_mv G f i (t + 1)) = - dt n (dt_mv G f i t) := by
  rw [← dt_swapr n t (by omega)]
  refine dt_congr (fun a ha b hb => ?_)
  show dt_mv G f i (t + 1) a b = dt_mv G f i t (dt_cs t a) b
  by_cases h1 : a = t
  · subst h1
    have ec : dt_cs a a = a + 1 := by simp [dt_cs]
    rw [ec]
    unfold dt_mv
    rw [if_pos (by omega), if_neg (by omega), if_neg (by omega), if_pos (by omega)]
    rfl
  · by_cases h2 : a = t + 1
    · subst h2
      have ec : dt_cs t (t + 1) = t := by simp [dt_cs]
      rw [ec]
      unfold dt_mv
      rw [if_neg (by omega), if_pos rfl, if_neg (by omega), if_pos rfl]
    · have ec : dt_cs t a = a := by unfold dt_cs; rw [if_neg h1, if_neg h2]
      rw [ec]
      unfold dt_mv
      by_cases h3 : a < t
      · rw [if_pos (by omega), if_pos h3]
      · rw [if_neg (by omega), if_neg h2, if_neg h3, if_neg h1]
theorem dt_mv_0 (G : Nat → Nat → Int) (f : Nat → Int) {n i : Nat} (hi : i < n) : ∀ t, t ≤ i → dt n (dt_mv G f i 0) = dt_sg t * dt n (dt_mv G f i t)
  | 0, _ => by simp [dt_sg]
  | t + 1, ht => by
    rw [dt_mv_0 G f hi t (by omega), dt_mv_s G f hi (by omega), dt_sg_s]
    simp only [Int.neg_mul, Int.mul_neg, Int.neg_neg]
/-- Cramer's rule: det G times f is the sum of the rows of G, each times det G with f in that row's place -/
theorem dt_cramer (n : Nat) (G : Nat → Nat → Int) (f : Nat → Int) (c : Nat) (hc : c < n) : f c * dt n G = dt_sum n (fun i => G i c * dt n (dt_put G i f)) := by
  have h0 := dt_eqc (n + 1) c 0 (fun i j => (fun y => if i = 0 then f y else G (i - 1) y) (if j = 0 then c else j - 1)) (by omega) (fun i hi => by
    show (if i = 0 then f c else G (i - 1) c) = (if i = 0 then f (if 0 + 1 + c = 0 then c else 0 + 1 + c - 1) else G (i - 1) (if 0 + 1 + c = 0 then c else 0 + 1 + c - 1))
    have : (if 0 + 1 + c = 0 then c else 0 + 1 + c - 1) = c := by rw [if_neg (by omega)]; omega
    rw [this])
  rw [dt, dt_sum_first] at h0
  have e1 : dt n (fun a b => (fun y => if dt_sk 0 a = 0 then f y else G (dt_sk 0 a - 1) y) (if b + 1 = 0 then c else b + 1 - 1)) = dt n G := by
    refine dt_congr (fun a ha b hb => ?_)
    show (if dt_sk 0 a = 0 then f (if b + 1 = 0 then c else b + 1 - 1) else G (dt_sk 0 a - 1) (if b + 1 = 0 then c else b + 1 - 1)) = G a b
    have e : dt_sk 0 a = a + 1 := by unfold dt_sk; rw [if_neg (by omega)]
    rw [e, if_neg (by omega), if_neg (by omega)]
    rfl
  have e2 : ∀ i, i < n → dt n (fun a b => (fun y => if dt_sk (i + 1) a = 0 then f y else G (dt_sk (i + 1) a - 1) y) (if b + 1 = 0 then c else b + 1 - 1)) = dt_sg i * dt n (dt_put G i f) := by
    intro i hi
    have e3 : dt n (dt_mv G f i i) = dt n (dt_put G i f) := by
      refine dt_congr (fun a ha b hb => ?_)
      unfold dt_mv dt_put
      by_cases h1 : a = i
      · rw [if_neg (by omega), if_pos h1, if_pos h1]
      · by_cases h2 : a < i
        · rw [if_pos h2, if_neg h1]
        · rw [if_neg h2, if_neg h1, if_neg (by omega), if_neg h1]
    rw [← e3, ← dt_mv_0 G f hi i (Nat.le_refl i)]
    refine dt_congr (fun a ha b hb => ?_)
    show (if dt_sk (i + 1) a = 0 then f (if b + 1 = 0 then c else b + 1 - 1) else G (dt_sk (i + 1) a - 1) (if b + 1 = 0 then c else b + 1 - 1)) = dt_mv G f i 0 a b
    have eb : (if b + 1 = 0 then c else b + 1 - 1) = b := by rw [if_neg (by omega)]; omega
    rw [eb]
    unfold dt_mv dt_sk
    by_cases h1 : a = 0
    · subst h1
      have e : (if 0 < i + 1 then 0 else 0 + 1) = 0 := if_pos (by omega)
      rw [e, if_pos rfl, if_neg (by omega), if_pos rfl]
    · by_cases h2 : a < i + 1
      · rw [if_pos h2, if_neg h1, if_neg (by omega), if_neg h1, if_pos (by omega)]
      · rw [if_neg h2, if_neg (by omega), if_neg (by omega), if_neg h1, if_neg (by omega)]
        rfl
  have e4 : dt_sum n (fun i => dt_sg (i + 1) * (fun y => if i + 1 = 0 then f y else G (i + 1 - 1) y) (if 0 = 0 then c else 0 - 1) * dt n (fun a b => (fun y => if dt_sk (i + 1) a = 0 then f y else G (dt_sk (i + 1) a - 1) y) (if b + 1 = 0 then c else b + 1 - 1))) = - dt_sum n (fun i => G i c * dt n (dt_put G i f)) := by
    rw [← dt_sum_neg]
    refine dt_sum_congr (fun i hi => ?_)
    rw [e2 i hi]
    show dt_sg (i + 1) * (if i + 1 = 0 then f c else G i c) * _ = _
    rw [if_neg (by omega), dt_sg_s]
    have q := dt_sg_q i
    rw [show - dt_sg i * G i c * (dt_sg i * dt n (dt_put G i f)) = - ((dt_sg i * dt_sg i) * (G i c * dt n (dt_put G i f))) by rw [Int.neg_mul, Int.neg_mul, Int.mul_assoc, Int.mul_assoc, Int.mul_left_comm (G i c)], q, Int.one_mul]
  rw [e1, e4] at h0
  have h1 : dt_sg 0 * f c * dt n G = f c * dt n G := by
    show 1 * f c * dt n G = _
    rw [Int.one_mul]
  have h2 : dt_sg 0 * (fun y => if 0 = 0 then f y else G (0 - 1) y) (if 0 = 0 then c else 0 - 1) * dt n G = f c * dt n G := h1
  omega
end
section
/-! determinants go by rows linearly; equal rows give 0; what an exchange does to a table of determinants; how large they are -/
theorem dt_eqr (n : Nat) : ∀ (d a : Nat) (M : Nat → Nat → Int), a + 1 + d < n → (∀ j, j < n → M a j = M (a + 1 + d) j) → dt n M = 0
  | 0, a, M, h, he => by
    have h1 := dt_swapr n a (by omega) M
    have h2 : dt n (fun i j => M (dt_cs a i) j) = dt n M := by
      refine dt_congr (fun i hi j hj => ?_)
      show M (dt_cs a i) j = M i j
      unfold dt_cs
      split
      · next e => rw [e]; exact (he j hj).symm
      · split
        · next e => rw [e]; exact he j hj
        · rfl
    omega
  | d + 1, a, M, h, he => by
    have h1 := dt_swapr n (a + 1 + d) (by omega) M
    have h2 := dt_eqr n d a (fun i j => M (dt_cs (a + 1 + d) i) j) (by omega) (fun j hj => by
      show M (dt_cs (a + 1 + d) a) j = M (dt_cs (a + 1 + d) (a + 1 + d)) j
      have e1 : dt_cs (a + 1 + d) a = a := by unfold dt_cs; rw [if_neg (by omega), if_neg (by omega)]
      have e2 : dt_cs (a + 1 + d) (a + 1 + d) = a + 1 + (d + 1) := by unfold dt_cs; rw [if_pos rfl]; omega
      rw [e1, e2]
      exact he j hj)
    omega
theorem dt_eqr' {n a b : Nat} {M : Nat → Nat → Int} (ha : a < n) (hb : b < n) (h : a ≠ b) (he : ∀ j, j < n → M a j = M b j) : dt n M = 0 := by
  rcases Nat.lt_or_gt_of_ne h with h1 | h1
  · obtain ⟨d, rfl⟩ : ∃ d, b = a + 1 + d := ⟨b - (a + 1), by omega⟩
    exact dt_eqr n d a M (by omega) he
  · obtain ⟨d, rfl⟩ : ∃ d, a = b + 1 + d := ⟨a - (b + 1), by omega⟩
    exact dt_eqr n d b M (by omega) (fun j hj => (he j hj).symm)
theorem dt_put_s (G : Nat → Nat → Int) (w : Nat → Int) {i a : Nat} (h : a = i) (b : Nat) : dt_put G i w a b = w b := if_pos h
theorem dt_put_n (G : Nat → Nat → Int) (w : Nat → Int) {i a : Nat} (h : ¬ a = i) (b : Nat) : dt_put G i w a b = G a b := if_neg h
theorem dt_lin : ∀ (n : Nat) (G : Nat → Nat → Int) (s : Nat) (_ : s < n) (u v : Nat → Int) (x y : Int), dt n (dt_put G s (fun c => x * u c + y * v c)) = x * dt n (dt_put G s u) + y * dt n (dt_put G s v)
  | 0, _, _, h, _, _, _, _ => by omega
  | n + 1, G, s, h, u, v, x, y => by
    rw [dt, dt, dt, ← dt_sum_mul, ← dt_sum_mul, ← dt_sum_add]
    refine dt_sum_congr (fun i hi => ?_)
    by_cases h1 : i = s
    · subst h1
      have e : ∀ w : Nat → Int, (fun a b => dt_put G i w (dt_sk i a) (b + 1)) = (fun a b => G (dt_sk i a) (b + 1)) := by
        intro w
        funext a b
        have : ¬ dt_sk i a = i := by unfold dt_sk; (repeat' split) <;> omega
        unfold dt_put
        rw [if_neg this]
      have e2 : ∀ w : Nat → Int, dt_put G i w i 0 = w 0 := fun w => if_pos rfl
      rw [e, e, e, e2, e2, e2]
      rw [Int.mul_add, Int.add_mul, Int.mul_left_comm (dt_sg i) x, Int.mul_left_comm (dt_sg i) y, Int.mul_assoc x, Int.mul_assoc y]
    · have e : ∀ w : Nat → Int, (fun a b => dt_put G s w (dt_sk i a) (b + 1)) = dt_put (fun a b => G (dt_sk i a) (b + 1)) (dt_un i s) (fun b => w (b + 1)) := by
        intro w
        funext a b
        show (if dt_sk i a = s then w (b + 1) else G (dt_sk i a) (b + 1)) = (if a = dt_un i s then w (b + 1) else G (dt_sk i a) (b + 1))
        by_cases h2 : a = dt_un i s
        · have h3 : dt_sk i a = s := by rw [h2]; unfold dt_sk dt_un; (repeat' split) <;> omega
          rw [if_pos h3, if_pos h2]
        · have h3 : ¬ dt_sk i a = s := by
            intro q
            apply h2
            rw [← q]
            unfold dt_sk dt_un
            (repeat' split) <;> omega
          rw [if_neg h3, if_neg h2]
      have e2 : ∀ w : Nat → Int, dt_put G s w i 0 = G i 0 := fun w => if_neg h1
      have hu : dt_un i s < n := by unfold dt_un; (repeat' split) <;> omega
      rw [e, e, e, e2, e2, e2, dt_lin n _ (dt_un i s) hu (fun b => u (b + 1)) (fun b => v (b + 1)) x y]
      rw [Int.mul_add, Int.mul_left_comm _ x, Int.mul_left_comm _ y]
theorem dt_scale {n : Nat} (G : Nat → Nat → Int) {s : Nat} (hs : s < n) (u : Nat → Int) (x : Int) : dt n (dt_put G s (fun c => x * u c)) = x * dt n (dt_put G s u) := by
  have h := dt_lin n G s hs u u x 0
  rw [Int.zero_mul, Int.add_zero] at h
  rw [← h]
  have e : (fun c => x * u c + 0 * u c) = (fun c => x * u c) := by
    funext c
    rw [Int.zero_mul, Int.add_zero]
  rw [e]
theorem dt_linsum {n : Nat} (G : Nat → Nat → Int) {s : Nat} (hs : s < n) (g : Nat → Nat → Int) (x : Nat → Int) : ∀ m, dt n (dt_put G s (fun c => dt_sum m (fun i => x i * g i c))) = dt_sum m (fun i => x i * dt n (dt_put G s (g i)))
  | 0 => by
    have h := dt_scale G hs (fun _ => 0) 0
    have e : (fun c : Nat => (0 : Int) * (fun _ : Nat => (0 : Int)) c) = (fun c : Nat => dt_sum 0 (fun i => x i * g i c)) := by
      funext c
      exact Int.zero_mul _
    rw [e, Int.zero_mul] at h
    exact h
  | m + 1 => by
    have h := dt_lin n G s hs (fun c => dt_sum m (fun i => x i * g i c)) (g m) 1 (x m)
    rw [Int.one_mul, dt_linsum G hs g x m] at h
    rw [dt_sum_s, ← h]
    have e : (fun c => 1 * dt_sum m (fun i => x i * g i c) + x m * g m c) = (fun c => dt_sum (m + 1) (fun i => x i * g i c)) := by
      funext c
      rw [Int.one_mul, dt_sum_s]
    rw [e]
theorem dt_sum_one {n s : Nat} (hs : s < n) {f : Nat → Int} (h : ∀ i, i < n → i ≠ s → f i = 0) : dt_sum n f = f s := by
  induction n with
  | zero => omega
  | succ n ih =>
    rw [dt_sum_s]
    by_cases h1 : s = n
    · subst h1
      rw [dt_sum_congr (g := fun _ => 0) (fun i hi => h i (by omega) (by omega)), dt_sum_0, Int.zero_add]
    · rw [ih (by omega) (fun i hi => h i (by omega)), h n (by omega) (fun e => h1 e.symm), Int.add_zero]
theorem dt_sum_two {n s j : Nat} (hs : s < n) (hj : j < n) (hne : j ≠ s) {f : Nat → Int} (h : ∀ i, i < n → i ≠ s → i ≠ j → f i = 0) : dt_sum n f = f s + f j := by
  have e : dt_sum n f = dt_sum n (fun i => (if i = s then f i else 0) + (if i = s then 0 else f i)) := dt_sum_congr (fun i hi => by
    by_cases q : i = s
    · rw [if_pos q, if_pos q, Int.add_zero]
    · rw [if_neg q, if_neg q, Int.zero_add])
  rw [e, dt_sum_add, dt_sum_one hs (fun i hi q => if_neg q), dt_sum_one hj (fun i hi q => by
    by_cases q2 : i = s
    · rw [if_pos q2]
    · rw [if_neg q2]; exact h i hi q2 q), if_pos rfl, if_neg hne]
/-- a row of G in the place of another, and f in its own: f in the other's place, turned -/
theorem dt_turn {n : Nat} (G : Nat → Nat → Int) (f : Nat → Int) {s j : Nat} (hs : s < n) (hj : j < n) (hne : j ≠ s) : dt n (dt_put (dt_put G j f) s (G j)) = - dt n (dt_put G s f) := by
  have hz : dt n (dt_put (dt_put G j (fun c => 1 * G j c + 1 * f c)) s (fun c => 1 * G j c + 1 * f c)) = 0 := dt_eqr' hs hj (fun e => hne e.symm) (fun c hc => by
    unfold dt_put
    rw [if_pos rfl, if_neg hne, if_pos rfl])
  have cm : ∀ u v : Nat → Int, dt n (dt_put (dt_put G j u) s v) = dt n (dt_put (dt_put G s v) j u) := fun u v => dt_congr (fun a ha b hb => by
    unfold dt_put
    by_cases q : a = s
    · rw [if_pos q, if_neg (fun e => hne (e.symm.trans q)), if_pos q]
    · rw [if_neg q, if_neg q])
  rw [dt_lin n _ s hs, cm, cm, dt_lin n _ j hj, dt_lin n _ j hj, ← cm, ← cm, ← cm, ← cm] at hz
  have z1 : dt n (dt_put (dt_put G j (G j)) s (G j)) = 0 := dt_eqr' hs hj (fun e => hne e.symm) (fun c hc => by
    unfold dt_put
    rw [if_pos rfl, if_neg hne, if_pos rfl])
  have z2 : dt n (dt_put (dt_put G j f) s f) = 0 := dt_eqr' hs hj (fun e => hne e.symm) (fun c hc => by
    unfold dt_put
    rw [if_pos rfl, if_neg hne, if_pos rfl])
  have z3 : dt n (dt_put (dt_put G j (G j)) s f) = dt n (dt_put G s f) := dt_congr (fun a ha b hb => by
    unfold dt_put
    by_cases q : a = s
    · rw [if_pos q, if_pos q]
    · rw [if_neg q, if_neg q]
      by_cases q2 : a = j
      · rw [if_pos q2, q2]
      · rw [if_neg q2])
  rw [z1, z2, z3] at hz
  omega
/-- an exchange: the row fr comes in the place of the s-th of G -/
theorem dt_pivot {n : Nat} (G : Nat → Nat → Int) (fr f : Nat → Int) {s j : Nat} (hs : s < n) (hj : j < n) (hne : j ≠ s) : dt n G * dt n (dt_put (dt_put G s fr) j f) = dt n (dt_put G s fr) * dt n (dt_put G j f) - dt n (dt_put G s f) * dt n (dt_put G j fr) := by
  have cm : dt n (dt_put (dt_put G s fr) j f) = dt n (dt_put (dt_put G j f) s fr) := dt_congr (fun a ha b hb => by
    unfold dt_put
    by_cases q : a = s
    · rw [if_pos q, if_neg (fun e => hne (e.symm.trans q)), if_pos q]
    · rw [if_neg q, if_neg q])
  rw [cm, ← dt_scale _ hs]
  have e1 : dt n (dt_put (dt_put G j f) s (fun c => dt n G * fr c)) = dt n (dt_put (dt_put G j f) s (fun c => dt_sum n (fun i => dt n (dt_put G i fr) * G i c))) := dt_congr (fun a ha b hb => by
    by_cases q : a = s
    · rw [dt_put_s _ _ q, dt_put_s _ _ q]
      show dt n G * fr b = dt_sum n (fun i => dt n (dt_put G i fr) * G i b)
      rw [Int.mul_comm, dt_cramer n G fr b hb]
      exact dt_sum_congr (fun i hi => Int.mul_comm _ _)
    · rw [dt_put_n _ _ q, dt_put_n _ _ q])
  rw [e1, dt_linsum _ hs, dt_sum_two hs hj hne (fun i hi q1 q2 => by
    have z : dt n (dt_put (dt_put G j f) s (G i)) = 0 := dt_eqr' hs hi (fun e => q1 e.symm) (fun c hc => by
      unfold dt_put
      rw [if_pos rfl, if_neg q1, if_neg q2])
    rw [z, Int.mul_zero])]
  have e2 : dt n (dt_put (dt_put G j f) s (G s)) = dt n (dt_put G j f) := dt_congr (fun a ha b hb => by
    unfold dt_put
    by_cases q : a = s
    · rw [if_pos q, if_neg (fun e => hne (e.symm.trans q)), q]
    · rw [if_neg q])
  rw [e2, dt_turn G f hs hj hne, Int.mul_neg, Int.mul_comm (dt n (dt_put G j fr))]
  omega
/-- how large: a determinant is at most the product of its rows' sums of amounts -/
def dt_nm (n : Nat) (f : Nat → Int) : Nat := match n with
  | 0 => 0
  | n + 1 => dt_nm n f + (f n).natAbs
def dt_pr (n : Nat) (f : Nat → Nat) : Nat := match n with
  | 0 => 1
  | n + 1 => dt_pr n f * f n
theorem dt_nm_first (n : Nat) (f : Nat → Int) : dt_nm (n + 1) f = (f 0).natAbs + dt_nm n (fun i => f (i + 1)) := by
  induction n with
  | zero => simp [dt_nm]
  | succ n ih => rw [dt_nm, ih, dt_nm]; omega
theorem dt_sum_le {n : Nat} {f : Nat → Int} {g : Nat → Nat} (h : ∀ i, i < n → (f i).natAbs ≤ g i) : (dt_sum n f).natAbs ≤ dt_nm n (fun i => (g i : Int)) := by
  induction n with
  | zero => simp [dt_sum, dt_nm]
  | succ n ih =>
    rw [dt_sum_s, dt_nm]
    have h1 := Int.natAbs_add_le (dt_sum n f) (f n)
    have h2 := ih (fun i hi => h i (by omega))
    have h3 := h n (by omega)
    have h4 : ((g n : Int)).natAbs = g n := Int.natAbs_natCast _
    omega
theorem dt_pr_s (n : Nat) (f : Nat → Nat) : dt_pr (n + 1) f = dt_pr n f * f n := rfl
theorem dt_nm_s (n : Nat) (f : Nat → Int) : dt_nm (n + 1) f = dt_nm n f + (f n).natAbs := rfl
theorem dt_pr_congr {n : Nat} {f g : Nat → Nat} (h : ∀ i, i < n → f i = g i) : dt_pr n f = dt_pr n g := by
  induction n with
  | zero => rfl
  | succ n ih => rw [dt_pr, dt_pr, ih (fun i hi => h i (by omega)), h n (by omega)]
/-- one factor's first part and the others' second parts: the sum over the factors is within the product -/
theorem dt_pr_split : ∀ (n : Nat) (a b : Nat → Nat), dt_nm (n + 1) (fun i => ((a i * dt_pr n (fun k => b (dt_sk i k)) : Nat) : Int)) + dt_pr (n + 1) b ≤ dt_pr (n + 1) (fun i => a i + b i)
  | 0, a, b => by
    simp [dt_nm, dt_pr]
  | n + 1, a, b => by
    have ih := dt_pr_split n a b
    rw [dt_nm_s (n + 1), dt_pr_s (n + 1) b, dt_pr_s (n + 1) (fun i => a i + b i)]
    have e1 : ∀ m, m ≤ n + 1 → dt_nm m (fun i => ((a i * dt_pr (n + 1) (fun k => b (dt_sk i k)) : Nat) : Int)) = dt_nm m (fun i => ((a i * dt_pr n (fun k => b (dt_sk i k)) : Nat) : Int)) * b (n + 1) := by
      intro m
      induction m with
      | zero => intro _; simp [dt_nm]
      | succ m im =>
        intro hm
        rw [dt_nm, dt_nm, im (by omega), Nat.add_mul]
        have e2 : dt_sk m n = n + 1 := by unfold dt_sk; rw [if_neg (by omega)]
        have e3 : dt_pr (n + 1) (fun k => b (dt_sk m k)) = dt_pr n (fun k => b (dt_sk m k)) * b (n + 1) := by rw [dt_pr, e2]
        rw [e3, Int.natAbs_natCast, Int.natAbs_natCast, Nat.mul_assoc]
    have e4 : dt_pr (n + 1) (fun k => b (dt_sk (n + 1) k)) = dt_pr (n + 1) b := dt_pr_congr (fun i hi => by unfold dt_sk; rw [if_pos hi])
    rw [e1 (n + 1) (Nat.le_refl _), e4, Int.natAbs_natCast, Nat.mul_add]
    have h1 := Nat.mul_le_mul_right (b (n + 1)) ih
    rw [Nat.add_mul] at h1
    have h2 : dt_pr (n + 1) b ≤ dt_pr (n + 1) (fun i => a i + b i) := by omega
    have h3 := Nat.mul_le_mul_right (a (n + 1)) h2
    rw [Nat.mul_comm (a (n + 1)) (dt_pr (n + 1) b)]
    omega
theorem dt_nm_mono {n : Nat} {f g : Nat → Int} (h : ∀ i, i < n → (f i).natAbs ≤ (g i).natAbs) : dt_nm n f ≤ dt_nm n g := by
  induction n with
  | zero => exact Nat.le_refl _
  | succ n ih =>
    rw [dt_nm, dt_nm]
    have h1 := ih (fun i hi => h i (by omega))
    have h2 := h n (by omega)
    omega
theorem dt_le : ∀ (n : Nat) (M : Nat → Nat → Int), (dt n M).natAbs ≤ dt_pr n (fun i => dt_nm n (M i))
  | 0, M => by simp [dt, dt_pr]
  | n + 1, M => by
    have h1 : (dt (n + 1) M).natAbs ≤ dt_nm (n + 1) (fun i => (((M i 0).natAbs * dt_pr n (fun k => dt_nm n (fun b => M (dt_sk i k) (b + 1))) : Nat) : Int)) := by
      rw [dt]
      refine dt_sum_le (fun i hi => ?_)
      rw [Int.natAbs_mul, Int.natAbs_mul]
      have h2 : (dt_sg i).natAbs = 1 := by unfold dt_sg; split <;> rfl
      rw [h2, Nat.one_mul]
      exact Nat.mul_le_mul_left _ (dt_le n (fun a b => M (dt_sk i a) (b + 1)))
    have h3 := dt_pr_split n (fun i => (M i 0).natAbs) (fun i => dt_nm n (fun b => M i (b + 1)))
    have h4 : dt_pr (n + 1) (fun i => dt_nm (n + 1) (M i)) = dt_pr (n + 1) (fun i => (M i 0).natAbs + dt_nm n (fun b => M i (b + 1))) := dt_pr_congr (fun i hi => dt_nm_first n (M i))
    rw [h4]
    have h5 := Nat.le_trans h1 (Nat.le_add_right _ (dt_pr (n + 1) (fun i => dt_nm n (fun b => M i (b + 1)))))
    exact Nat.le_trans h5 h3
theorem dt_pr_pow {n B : Nat} {f : Nat → Nat} (h : ∀ i, i < n → f i ≤ B) : dt_pr n f ≤ B ^ n := by
  induction n with
  | zero => exact Nat.le_refl _
  | succ n ih => rw [dt_pr, Nat.pow_succ]; exact Nat.mul_le_mul (ih (fun i hi => h i (by omega))) (h n (by omega))
end
section
/-! Bland's rule, with aims in their order (the first that isn't 0 decides), over fractions: no table comes again. Pure: a table is known by what it says of the solutions. -/
def bl_sum : Nat → (Nat → Rat) → Rat
  | 0, _ => 0
  | n + 1, f => bl_sum n f + f n
theorem bl_sum_s (n : Nat) (f : Nat → Rat) : bl_sum (n + 1) f = bl_sum n f + f n := rfl
theorem bl_sum_congr {n : Nat} {f g : Nat → Rat} (h : ∀ i, i < n → f i = g i) : bl_sum n f = bl_sum n g := by
  induction n with
  | zero => rfl
  | succ n ih => rw [bl_sum_s, bl_sum_s, ih (fun i hi => h i (by omega)), h n (by omega)]
theorem bl_sum_0 {n : Nat} {f : Nat → Rat} (h : ∀ i, i < n → f i = 0) : bl_sum n f = 0 := by
  induction n with
  | zero => rfl
  | succ n ih => rw [bl_sum_s, ih (fun i hi => h i (by omega)), h n (by omega)]; grind
theorem bl_sum_one {n s : Nat} (hs : s < n) {f : Nat → Rat} (h : ∀ i, i < n → i ≠ s → f i = 0) : bl_sum n f = f s := by
  induction n with
  | zero => omega
  | succ n ih =>
    rw [bl_sum_s]
    by_cases h1 : s = n
    · subst h1
      rw [bl_sum_0 (fun i hi => h i (by omega) (by omega))]
      grind
    · rw [ih (by omega) (fun i hi => h i (by omega)), h n (by omega) (fun e => h1 e.symm)]
      grind
theorem bl_sum_sub (n : Nat) (f g : Nat → Rat) : bl_sum n f - bl_sum n g = bl_sum n (fun i => f i - g i) := by
  induction n with
  | zero => simp only [bl_sum]; grind
  | succ n ih => rw [bl_sum_s, bl_sum_s, bl_sum_s, ← ih]; grind
/-- the first that isn't 0 is below 0 -/
def bl_neg : Nat → (Nat → Rat) → Prop
  | 0, _ => False
  | K + 1, v => v 0 < 0 ∨ (v 0 = 0 ∧ bl_neg K (fun q => v (q + 1)))
theorem bl_neg_congr : ∀ (K : Nat) {u v : Nat → Rat}, (∀ q, q < K → u q = v q) → bl_neg K u → bl_neg K v
  | 0, _, _, _, h => h
  | K + 1, u, v, e, h => by
    have e0 := e 0 (by omega)
    rcases h with h | ⟨h1, h2⟩
    · exact Or.inl (by rw [← e0]; exact h)
    · exact Or.inr ⟨by rw [← e0]; exact h1, bl_neg_congr K (fun q hq => e (q + 1) (by omega)) h2⟩
theorem bl_neg_0 : ∀ K, ¬ bl_neg K (fun _ => 0)
  | 0, h => h
  | K + 1, h => by
    rcases h with h | ⟨h1, h2⟩
    · exact absurd h (by grind)
    · exact bl_neg_0 K h2
/-- what is not below 0 adds up -/
theorem bl_nn_add : ∀ (K : Nat) {u v : Nat → Rat}, ¬ bl_neg K u → ¬ bl_neg K v → ¬ bl_neg K (fun q => u q + v q)
  | 0, _, _, h, _, _ => h (by assumption)
  | K + 1, u, v, hu, hv, h => by
    have u0 : ¬ u 0 < 0 := fun q => hu (Or.inl q)
    have v0 : ¬ v 0 < 0 := fun q => hv (Or.inl q)
    rcases h with h | ⟨h1, h2⟩
    · have h : u 0 + v 0 < 0 := h
      grind
    · have h1 : u 0 + v 0 = 0 := h1
      have e1 : u 0 = 0 := by grind
      have e2 : v 0 = 0 := by grind
      exact bl_nn_add K (fun q => hu (Or.inr ⟨e1, q⟩)) (fun q => hv (Or.inr ⟨e2, q⟩)) h2
theorem bl_nn_scale : ∀ (K : Nat) {u : Nat → Rat} {x : Rat}, ¬ bl_neg K u → 0 ≤ x → ¬ bl_neg K (fun q => u q * x)
  | 0, _, _, h, _, _ => h (by assumption)
  | K + 1, u, x, hu, hx, h => by
    have u0 : ¬ u 0 < 0 := fun q => hu (Or.inl q)
    have u1 : 0 ≤ u 0 := by grind
    have p := Rat.mul_nonneg u1 hx
    rcases h with h | ⟨h1, h2⟩
    · have h : u 0 * x < 0 := h
      grind
    · by_cases hz : x = 0
      · subst hz
        exact bl_neg_0 K (bl_neg_congr K (fun q _ => by show u (q + 1) * 0 = 0; grind) h2)
      · have h1 : u 0 * x = 0 := h1
        have e1 : u 0 = 0 := by
          rcases Rat.mul_eq_zero.mp h1 with e | e
          · exact e
          · exact absurd e hz
        exact bl_nn_scale K (fun q => hu (Or.inr ⟨e1, q⟩)) hx h2
/-- below 0, times what is below 0 -/
theorem bl_neg_turn : ∀ (K : Nat) {u : Nat → Rat} {x : Rat}, bl_neg K u → x ≤ 0 → ¬ bl_neg K (fun q => u q * x)
  | 0, _, _, h, _, _ => h
  | K + 1, u, x, hu, hx, h => by
    have nx : 0 ≤ - x := by grind
    rcases hu with h0 | ⟨h0, h1⟩
    · have p := Rat.mul_nonneg (show 0 ≤ - u 0 by grind) nx
      have p : 0 ≤ u 0 * x := by grind
      rcases h with h | ⟨h3, h4⟩
      · have h : u 0 * x < 0 := h
        grind
      · have h3 : u 0 * x = 0 := h3
        have e : x = 0 := by
          rcases Rat.mul_eq_zero.mp h3 with e | e
          · grind
          · exact e
        subst e
        exact bl_neg_0 K (bl_neg_congr K (fun q _ => by show u (q + 1) * 0 = 0; grind) h4)
    · rcases h with h | ⟨h3, h4⟩
      · have h : u 0 * x < 0 := h
        rw [h0] at h
        grind
      · exact bl_neg_turn K h1 hx h4
theorem bl_nn_sum (K : Nat) : ∀ (n : Nat) (f : Nat → Nat → Rat), (∀ j, j < n → ¬ bl_neg K (fun q => f q j)) → ¬ bl_neg K (fun q => bl_sum n (f q))
  | 0, f, _, h => bl_neg_0 K h
  | n + 1, f, hf, h => bl_nn_add K (bl_nn_sum K n f (fun j hj => hf j (by omega))) (hf n (by omega)) h
/-- above 0: adds to what is not below 0; it never is 0 -/
theorem bl_pos_add : ∀ (K : Nat) {u v : Nat → Rat}, bl_neg K (fun q => - u q) → ¬ bl_neg K v → bl_neg K (fun q => - (u q + v q))
  | 0, _, _, h, _ => h
  | K + 1, u, v, hu, hv => by
    have v0 : ¬ v 0 < 0 := fun q => hv (Or.inl q)
    rcases hu with h | ⟨h1, h2⟩
    · refine Or.inl ?_
      have h : - u 0 < 0 := h
      show - (u 0 + v 0) < 0
      grind
    · have h1 : - u 0 = 0 := h1
      by_cases e : v 0 = 0
      · refine Or.inr ⟨by show - (u 0 + v 0) = 0; grind, bl_pos_add K h2 (fun q => hv (Or.inr ⟨e, q⟩))⟩
      · refine Or.inl ?_
        show - (u 0 + v 0) < 0
        grind
theorem bl_pos_scale : ∀ (K : Nat) {u : Nat → Rat} {x : Rat}, bl_neg K u → 0 < x → bl_neg K (fun q => - (- (u q * x)))
  | 0, _, _, h, _ => h
  | K + 1, u, x, hu, hx => by
    rcases hu with h | ⟨h1, h2⟩
    · refine Or.inl ?_
      have p := Rat.mul_pos (show 0 < - u 0 by grind) hx
      show - (- (u 0 * x)) < 0
      grind
    · refine Or.inr ⟨?_, bl_pos_scale K h2 hx⟩
      show - (- (u 0 * x)) = 0
      rw [h1]
      grind
end
section
/-- a table says of every solution: its rows, its aims; and every choice of its columns' numbers is a solution's -/
def bl_says (X : (Nat → Rat) → Prop) (obj : Nat → (Nat → Rat) → Rat) (n R K : Nat) (cn rn : Nat → Nat) (a : Nat → Nat → Rat) (b : Nat → Rat) (c : Nat → Nat → Rat) (z : Nat → Rat) : Prop :=
  (∀ x, X x → (∀ i, i < R → x (rn i) = b i + bl_sum n (fun j => a i j * x (cn j))) ∧ ∀ q, q < K → obj q x = z q + bl_sum n (fun j => c q j * x (cn j))) ∧ (∀ y : Nat → Rat, ∃ x, X x ∧ ∀ j, j < n → x (cn j) = y j)
/-- the names of columns and rows are apart -/
def bl_apart (n R : Nat) (cn rn : Nat → Nat) : Prop := (∀ i j, i < n → j < n → cn i = cn j → i = j) ∧ (∀ i j, i < R → j < R → rn i = rn j → i = j) ∧ ∀ i j, i < R → j < n → rn i ≠ cn j
/-- the choice of column and row that Bland's rule makes; column 'gone' is never chosen -/
def bl_rule (n R K gone : Nat) (cn rn : Nat → Nat) (a : Nat → Nat → Rat) (b : Nat → Rat) (c : Nat → Nat → Rat) (s r : Nat) : Prop :=
  s < n ∧ s ≠ gone ∧ r < R ∧ bl_neg K (fun q => c q s) ∧ (∀ j, j < n → j ≠ gone → bl_neg K (fun q => c q j) → cn s ≤ cn j) ∧ a r s < 0 ∧ ∀ i, i < R → a i s < 0 → b r = 0 → b i = 0 → rn r ≤ rn i
def bl_next (n R : Nat) (cn rn cn' rn' : Nat → Nat) (s r : Nat) : Prop := (∀ j, j < n → cn' j = if j = s then rn r else cn j) ∧ ∀ i, i < R → rn' i = if i = r then cn s else rn i
theorem bl_max (f : Nat → Nat) : ∀ m, 0 < m → ∃ e, e < m ∧ ∀ k, k < m → f k ≤ f e
  | 0, h => by omega
  | 1, _ => ⟨0, by omega, fun k hk => by rw [show k = 0 by omega]; exact Nat.le_refl _⟩
  | m + 2, _ => by
    obtain ⟨e, he, hm⟩ := bl_max f (m + 1) (by omega)
    by_cases h : f e ≤ f (m + 1)
    · exact ⟨m + 1, by omega, fun k hk => by
        by_cases q : k = m + 1
        · rw [q]; exact Nat.le_refl _
        · exact Nat.le_trans (hm k (by omega)) h⟩
    · exact ⟨e, by omega, fun k hk => by
        by_cases q : k = m + 1
        · rw [q]; omega
        · exact hm k (by omega)⟩
section BL
variable {X : (Nat → Rat) → Prop} {obj : Nat → (Nat → Rat) → Rat} {n R K gone : Nat} {cn rn : Nat → Nat → Nat} {a : Nat → Nat → Nat → Rat} {b : Nat → Nat → Rat} {c : Nat → Nat → Nat → Rat} {z : Nat → Nat → Rat} {s r : Nat → Nat} {m : Nat}
def bl_nb (n : Nat) (cn : Nat → Nat) (v : Nat) : Prop := ∃ j, j < n ∧ cn j = v
def bl_bs (R : Nat) (rn : Nat → Nat) (v : Nat) : Prop := ∃ i, i < R ∧ rn i = v
theorem bl_nb_next {cn rn cn' rn' : Nat → Nat} {s r : Nat} (hs : s < n) (hr : r < R) (hap : bl_apart n R cn rn) (h : bl_next n R cn rn cn' rn' s r) (v : Nat) : bl_nb n cn' v ↔ (bl_nb n cn v ∧ cn s ≠ v) ∨ rn r = v := by
  constructor
  · rintro ⟨j, hj, e⟩
    rw [h.1 j hj] at e
    by_cases q : j = s
    · rw [if_pos q] at e
      exact Or.inr e
    · rw [if_neg q] at e
      exact Or.inl ⟨⟨j, hj, e⟩, fun w => q (hap.1 j s hj hs (e.trans w.symm))⟩
  · rintro (⟨⟨j, hj, e⟩, w⟩ | e)
    · have q : j ≠ s := fun q => w (by rw [← q]; exact e)
      exact ⟨j, hj, by rw [h.1 j hj, if_neg q]; exact e⟩
    · exact ⟨s, hs, by rw [h.1 s hs, if_pos rfl]; exact e⟩
theorem bl_bs_next {cn rn cn' rn' : Nat → Nat} {s r : Nat} (hs : s < n) (hr : r < R) (hap : bl_apart n R cn rn) (h : bl_next n R cn rn cn' rn' s r) (v : Nat) : bl_bs R rn' v ↔ (bl_bs R rn v ∧ rn r ≠ v) ∨ cn s = v := by
  constructor
  · rintro ⟨j, hj, e⟩
    rw [h.2 j hj] at e
    by_cases q : j = r
    · rw [if_pos q] at e
      exact Or.inr e
    · rw [if_neg q] at e
      exact Or.inl ⟨⟨j, hj, e⟩, fun w => q (hap.2.1 j r hj hr (e.trans w.symm))⟩
  · rintro (⟨⟨j, hj, e⟩, w⟩ | e)
    · have q : j ≠ r := fun q => w (by rw [← q]; exact e)
      exact ⟨j, hj, by rw [h.2 j hj, if_neg q]; exact e⟩
    · exact ⟨r, hr, by rw [h.2 r hr, if_pos rfl]; exact e⟩
/-- one step, seen at the solutions that have 0 in the columns -/
theorem bl_step {cn rn cn' rn' : Nat → Nat} {a : Nat → Nat → Rat} {b : Nat → Rat} {c : Nat → Nat → Rat} {z : Nat → Rat} {s r : Nat} (hS : bl_says X obj n R K cn rn a b c z) (hs : s < n) (hr : r < R) (hn : bl_next n R cn rn cn' rn' s r) (hb : 0 ≤ b r) (ha : a r s < 0) {x : Nat → Rat} (hx : X x) (h0 : ∀ j, j < n → x (cn' j) = 0) :
    0 ≤ x (cn s) ∧ (b r = 0 → x (cn s) = 0) ∧ (x (cn s) = 0 → b r = 0) ∧ (∀ j, j < n → j ≠ s → x (cn j) = 0) ∧ (∀ q, q < K → obj q x = z q + c q s * x (cn s)) ∧ ∀ i, i < R → x (rn i) = b i + a i s * x (cn s) := by
  have hz : ∀ j, j < n → j ≠ s → x (cn j) = 0 := fun j hj q => by
    have := h0 j hj
    rw [hn.1 j hj, if_neg q] at this
    exact this
  have h1 : x (rn r) = 0 := by
    have := h0 s hs
    rw [hn.1 s hs, if_pos rfl] at this
    exact this
  have hrow : ∀ i, i < R → x (rn i) = b i + a i s * x (cn s) := fun i hi => by
    rw [(hS.1 x hx).1 i hi, bl_sum_one hs (fun j hj q => by rw [hz j hj q]; grind)]
  have e1 := hrow r hr
  rw [h1] at e1
  have na : a r s ≠ 0 := by grind
  have p : 0 ≤ x (cn s) := by
    by_cases w : x (cn s) < 0
    · have := Rat.mul_pos (show 0 < - a r s by grind) (show 0 < - x (cn s) by grind)
      grind
    · grind
  refine ⟨p, fun hb0 => ?_, fun hx0 => ?_, hz, fun q hq => ?_, hrow⟩
  · rw [hb0] at e1
    have e2 : a r s * x (cn s) = 0 := by grind
    rcases Rat.mul_eq_zero.mp e2 with w | w
    · exact absurd w na
    · exact w
  · rw [hx0] at e1
    grind
  · rw [(hS.1 x hx).2 q hq, bl_sum_one hs (fun j hj w => by rw [hz j hj w]; grind)]
/-- Bland's rule never comes back to the same columns -/
theorem bl_no_cycle (hm : 0 < m) (hS : ∀ k, k ≤ m → bl_says X obj n R K (cn k) (rn k) (a k) (b k) (c k) (z k)) (hap : ∀ k, k ≤ m → bl_apart n R (cn k) (rn k)) (hb : ∀ k, k ≤ m → ∀ i, i < R → 0 ≤ b k i) (hR : ∀ k, k < m → bl_rule n R K gone (cn k) (rn k) (a k) (b k) (c k) (s k) (r k)) (hN : ∀ k, k < m → bl_next n R (cn k) (rn k) (cn (k + 1)) (rn (k + 1)) (s k) (r k)) (hE : ∀ j, j < n → cn m j = cn 0 j) : False := by
  -- the solutions with 0 in the columns
  obtain ⟨xs, hxs⟩ : ∃ xs : Nat → Nat → Rat, ∀ k, k ≤ m → X (xs k) ∧ ∀ j, j < n → xs k (cn k j) = 0 := by
    have ch : ∀ k, ∃ x : Nat → Rat, k ≤ m → X x ∧ ∀ j, j < n → x (cn k j) = 0 := fun k => by
      by_cases hk : k ≤ m
      · obtain ⟨x, h1, h2⟩ := (hS k hk).2 (fun _ => 0)
        exact ⟨x, fun _ => ⟨h1, h2⟩⟩
      · exact ⟨fun _ => 0, fun h => absurd h hk⟩
    exact ⟨fun k => Classical.choose (ch k), fun k hk => Classical.choose_spec (ch k) hk⟩
  have st : ∀ k, k < m → _ := fun k hk => bl_step (hS k (by omega)) (hR k hk).1 (hR k hk).2.2.1 (hN k hk) (hb k (by omega) _ (hR k hk).2.2.1) (hR k hk).2.2.2.2.2.1 (hxs (k + 1) (by omega)).1 (hxs (k + 1) (by omega)).2
  have hz : ∀ k, k ≤ m → ∀ q, q < K → obj q (xs k) = z k q := fun k hk q hq => by
    rw [((hS k hk).1 _ (hxs k hk).1).2 q hq, bl_sum_0 (fun j hj => by rw [(hxs k hk).2 j hj]; grind)]
    grind
  have hbv : ∀ k, k ≤ m → ∀ i, i < R → xs k (rn k i) = b k i := fun k hk i hi => by
    rw [((hS k hk).1 _ (hxs k hk).1).1 i hi, bl_sum_0 (fun j hj => by rw [(hxs k hk).2 j hj]; grind)]
    grind
  -- the aims never rise
  have mono : ∀ k, k ≤ m → ¬ bl_neg K (fun q => z 0 q - z k q) ∧ ((∃ e, e < k ∧ xs (e + 1) (cn e (s e)) ≠ 0) → bl_neg K (fun q => - (z 0 q - z k q))) := by
    intro k
    induction k with
    | zero => exact fun _ => ⟨fun h => bl_neg_0 K (bl_neg_congr K (fun q _ => by show z 0 q - z 0 q = 0; grind) h), fun ⟨e, he, _⟩ => by omega⟩
    | succ k ih =>
      intro hk
      obtain ⟨i1, i2⟩ := ih (by omega)
      have sk := st k (by omega)
      have ez : ∀ q, q < K → z (k + 1) q = z k q + c k q (s k) * xs (k + 1) (cn k (s k)) := fun q hq => by
        rw [← hz (k + 1) hk q hq]
        exact sk.2.2.2.2.1 q hq
      have cneg := (hR k (by omega)).2.2.2.1
      have nn : ¬ bl_neg K (fun q => c k q (s k) * (- xs (k + 1) (cn k (s k)))) := bl_neg_turn K cneg (by have := sk.1; grind)
      refine ⟨fun h => bl_nn_add K i1 nn (bl_neg_congr K (fun q hq => by rw [ez q hq]; grind) h), fun ⟨e, he, hne⟩ => ?_⟩
      by_cases q : e = k
      · subst q
        have p : 0 < xs (e + 1) (cn e (s e)) := by have := sk.1; grind
        have h1 := bl_pos_scale K cneg p
        have h2 := bl_pos_add K h1 i1
        exact bl_neg_congr K (fun q hq => by rw [ez q hq]; grind) h2
      · have h1 := i2 ⟨e, by omega, hne⟩
        have h2 := bl_pos_add K h1 nn
        exact bl_neg_congr K (fun q hq => by rw [ez q hq]; grind) h2
  have zend : ∀ q, q < K → z m q = z 0 q := fun q hq => by
    rw [← hz m (Nat.le_refl m) q hq, ((hS 0 (by omega)).1 _ (hxs m (Nat.le_refl m)).1).2 q hq, bl_sum_0 (fun j hj => by rw [← hE j hj, (hxs m (Nat.le_refl m)).2 j hj]; grind)]
    grind
  have deg : ∀ k, k < m → xs (k + 1) (cn k (s k)) = 0 := fun k hk => by
    by_cases w : xs (k + 1) (cn k (s k)) = 0
    · exact w
    · exact absurd (bl_neg_congr K (fun q hq => by show - (z 0 q - z m q) = 0; rw [zend q hq]; grind) ((mono m (Nat.le_refl m)).2 ⟨k, hk, w⟩)) (bl_neg_0 K)
  have bz : ∀ k, k < m → b k (r k) = 0 := fun k hk => (st k hk).2.2.1 (deg k hk)
  -- what a name's number is stays
  have keep : ∀ k, k < m → ∀ v, bl_nb n (cn k) v ∨ bl_bs R (rn k) v → xs (k + 1) v = xs k v := by
    rintro k hk v (⟨j, hj, rfl⟩ | ⟨i, hi, rfl⟩)
    · rw [(hxs k (by omega)).2 j hj]
      by_cases w : j = s k
      · rw [w]; exact deg k hk
      · exact (st k hk).2.2.2.1 j hj w
    · rw [hbv k (by omega) i hi, (st k hk).2.2.2.2.2 i hi, deg k hk]
      grind
  have known : ∀ k, k < m → ∀ v, (bl_nb n (cn (k + 1)) v ∨ bl_bs R (rn (k + 1)) v) ↔ (bl_nb n (cn k) v ∨ bl_bs R (rn k) v) := by
    intro k hk v
    rw [bl_nb_next (hR k hk).1 (hR k hk).2.2.1 (hap k (by omega)) (hN k hk) v, bl_bs_next (hR k hk).1 (hR k hk).2.2.1 (hap k (by omega)) (hN k hk) v]
    constructor
    · rintro ((⟨h, -⟩ | h) | (⟨h, -⟩ | h))
      · exact Or.inl h
      · exact Or.inr ⟨r k, (hR k hk).2.2.1, h⟩
      · exact Or.inr h
      · exact Or.inl ⟨s k, (hR k hk).1, h⟩
    · rintro (h | h)
      · by_cases w : cn k (s k) = v
        · exact Or.inr (Or.inr w)
        · exact Or.inl (Or.inl ⟨h, w⟩)
      · by_cases w : rn k (r k) = v
        · exact Or.inl (Or.inr w)
        · exact Or.inr (Or.inl ⟨h, w⟩)
  have same : ∀ v, (bl_nb n (cn 0) v ∨ bl_bs R (rn 0) v) → ∀ k, k ≤ m → (bl_nb n (cn k) v ∨ bl_bs R (rn k) v) ∧ xs k v = xs 0 v := by
    intro v hv k
    induction k with
    | zero => exact fun _ => ⟨hv, rfl⟩
    | succ k ih =>
      intro hk
      obtain ⟨h1, h2⟩ := ih (by omega)
      exact ⟨(known k (by omega) v).mpr h1, (keep k (by omega) v h1).trans h2⟩
  have back : ∀ k, k ≤ m → ∀ v, (bl_nb n (cn k) v ∨ bl_bs R (rn k) v) → (bl_nb n (cn 0) v ∨ bl_bs R (rn 0) v) := by
    intro k
    induction k with
    | zero => exact fun _ v h => h
    | succ k ih => exact fun hk v h => ih (by omega) v ((known k (by omega) v).mp h)
  -- who comes and who goes
  have L1 : ∀ v k d, k + d ≤ m → bl_nb n (cn k) v → (∀ e, k ≤ e → e < k + d → cn e (s e) ≠ v) → bl_nb n (cn (k + d)) v := by
    intro v k d
    induction d with
    | zero => exact fun _ h _ => h
    | succ d ih =>
      intro hk h hne
      have h1 := ih (by omega) h (fun e e1 e2 => hne e e1 (by omega))
      exact (bl_nb_next (hR (k + d) (by omega)).1 (hR (k + d) (by omega)).2.2.1 (hap (k + d) (by omega)) (hN (k + d) (by omega)) v).mpr (Or.inl ⟨h1, hne (k + d) (by omega) (by omega)⟩)
  have L2 : ∀ v k d, k + d ≤ m → ¬ bl_nb n (cn k) v → (∀ e, k ≤ e → e < k + d → rn e (r e) ≠ v) → ¬ bl_nb n (cn (k + d)) v := by
    intro v k d
    induction d with
    | zero => exact fun _ h _ => h
    | succ d ih =>
      intro hk h hne h9
      have h1 := ih (by omega) h (fun e e1 e2 => hne e e1 (by omega))
      rcases (bl_nb_next (hR (k + d) (by omega)).1 (hR (k + d) (by omega)).2.2.1 (hap (k + d) (by omega)) (hN (k + d) (by omega)) v).mp h9 with ⟨q, -⟩ | q
      · exact h1 q
      · exact hne (k + d) (by omega) (by omega) q
  have ends : ∀ v, bl_nb n (cn m) v ↔ bl_nb n (cn 0) v := fun v => ⟨fun ⟨j, hj, e⟩ => ⟨j, hj, by rw [← hE j hj]; exact e⟩, fun ⟨j, hj, e⟩ => ⟨j, hj, by rw [hE j hj]; exact e⟩⟩
  have goes : ∀ v l, l < m → rn l (r l) = v → ∃ e, e < m ∧ cn e (s e) = v := by
    intro v l hl hv
    by_cases w : ∃ e, e < m ∧ cn e (s e) = v
    · exact w
    · have nv : ∀ e, e < m → cn e (s e) ≠ v := fun e he q => w ⟨e, he, q⟩
      have h1 : bl_nb n (cn (l + 1)) v := (bl_nb_next (hR l hl).1 (hR l hl).2.2.1 (hap l (by omega)) (hN l hl) v).mpr (Or.inr hv)
      have h2 := L1 v (l + 1) (m - (l + 1)) (by omega) h1 (fun e _ e2 => nv e (by omega))
      rw [show l + 1 + (m - (l + 1)) = m by omega, ends] at h2
      have h3 := L1 v 0 l (by omega) h2 (fun e _ e2 => nv e (by omega))
      rw [Nat.zero_add] at h3
      obtain ⟨j, hj, e⟩ := h3
      exact absurd (hv.trans e.symm) ((hap l (by omega)).2.2 (r l) j (hR l hl).2.2.1 hj)
  have comes : ∀ v e, e < m → cn e (s e) = v → ∃ l, l < m ∧ rn l (r l) = v := by
    intro v e he hv
    by_cases w : ∃ l, l < m ∧ rn l (r l) = v
    · exact w
    · have nv : ∀ l, l < m → rn l (r l) ≠ v := fun l hl q => w ⟨l, hl, q⟩
      have h1 : ¬ bl_nb n (cn (e + 1)) v := fun q => by
        rcases (bl_nb_next (hR e he).1 (hR e he).2.2.1 (hap e (by omega)) (hN e he) v).mp q with ⟨-, q⟩ | q
        · exact q hv
        · exact nv e he q
      have h2 := L2 v (e + 1) (m - (e + 1)) (by omega) h1 (fun l _ l2 => nv l (by omega))
      rw [show e + 1 + (m - (e + 1)) = m by omega, ends] at h2
      have h3 := L2 v 0 e (by omega) h2 (fun l _ l2 => nv l (by omega))
      rw [Nat.zero_add] at h3
      exact absurd ⟨s e, (hR e he).1, hv⟩ h3
  have fickle : ∀ v l k, l < m → k < m → ¬ bl_nb n (cn l) v → bl_nb n (cn k) v → ∃ e, e < m ∧ cn e (s e) = v := by
    intro v l k hl hk h1 h2
    by_cases w : ∃ e, e < m ∧ cn e (s e) = v
    · exact w
    · have nv : ∀ e, e < m → cn e (s e) ≠ v := fun e he q => w ⟨e, he, q⟩
      by_cases q : k ≤ l
      · have h3 := L1 v k (l - k) (by omega) h2 (fun e _ e2 => nv e (by omega))
        rw [show k + (l - k) = l by omega] at h3
        exact absurd h3 h1
      · by_cases w2 : ∃ g, g < m ∧ rn g (r g) = v
        · obtain ⟨g, hg, hv⟩ := w2
          exact goes v g hg hv
        · have h3 := L2 v l (k - l) (by omega) h1 (fun e _ e2 q2 => w2 ⟨e, by omega, q2⟩)
          rw [show l + (k - l) = k by omega] at h3
          exact absurd h2 h3
  -- the greatest name that comes
  obtain ⟨k2, hk2, hmax⟩ := bl_max (fun e => cn e (s e)) m hm
  obtain ⟨l1, hl1, ht⟩ := comes _ k2 hk2 rfl
  obtain ⟨y1, hy1, hy2⟩ := (hS l1 (by omega)).2 (fun j => if j = s l1 then 1 else 0)
  have hx1 := hxs l1 (by omega)
  have R1 := hR l1 hl1
  have R2 := hR k2 hk2
  -- the difference of the two solutions
  have d1 : ∀ i, i < R → y1 (rn l1 i) - xs l1 (rn l1 i) = a l1 i (s l1) := fun i hi => by
    rw [hbv l1 (by omega) i hi, ((hS l1 (by omega)).1 y1 hy1).1 i hi, bl_sum_one R1.1 (fun j hj w => by rw [hy2 j hj, if_neg w]; grind), hy2 _ R1.1, if_pos rfl]
    grind
  have d2 : ∀ q, q < K → c l1 q (s l1) = bl_sum n (fun j => c k2 q j * (y1 (cn k2 j) - xs l1 (cn k2 j))) := fun q hq => by
    have e1 := ((hS l1 (by omega)).1 y1 hy1).2 q hq
    rw [bl_sum_one R1.1 (fun j hj w => by rw [hy2 j hj, if_neg w]; grind), hy2 _ R1.1, if_pos rfl] at e1
    have e2 := hz l1 (by omega) q hq
    have e3 := ((hS k2 (by omega)).1 y1 hy1).2 q hq
    have e4 := ((hS k2 (by omega)).1 _ hx1.1).2 q hq
    have e5 := bl_sum_sub n (fun j => c k2 q j * y1 (cn k2 j)) (fun j => c k2 q j * xs l1 (cn k2 j))
    have e6 : bl_sum n (fun j => c k2 q j * y1 (cn k2 j) - c k2 q j * xs l1 (cn k2 j)) = bl_sum n (fun j => c k2 q j * (y1 (cn k2 j) - xs l1 (cn k2 j))) := bl_sum_congr (fun j _ => by grind)
    rw [← e6, ← e5]
    grind
  refine absurd R1.2.2.2.1 (fun h => bl_nn_sum K n (fun q j => c k2 q j * (y1 (cn k2 j) - xs l1 (cn k2 j))) (fun j hj => ?_) (bl_neg_congr K d2 h))
  -- each of the sum is not below 0
  have zero : y1 (cn k2 j) - xs l1 (cn k2 j) = 0 → ¬ bl_neg K (fun q => c k2 q j * (y1 (cn k2 j) - xs l1 (cn k2 j))) := fun e h => bl_neg_0 K (bl_neg_congr K (fun q _ => by rw [e]; grind) h)
  have small : ∀ v, v = cn k2 j → v < cn k2 (s k2) → j ≠ gone → ¬ bl_neg K (fun q => c k2 q j) := fun v e h g w => by
    have := R2.2.2.2.2.1 j hj g w
    omega
  have knw : bl_nb n (cn l1) (cn k2 j) ∨ bl_bs R (rn l1) (cn k2 j) := (same _ (back k2 (by omega) _ (Or.inl ⟨j, hj, rfl⟩)) l1 (by omega)).1
  -- the column that is never chosen keeps its name
  have gk : ∀ k, k ≤ m → gone < n → cn k gone = cn 0 gone := by
    intro k
    induction k with
    | zero => exact fun _ _ => rfl
    | succ k ih =>
      intro hk hg
      rw [(hN k (by omega)).1 gone hg, if_neg (fun e => (hR k (by omega)).2.1 e.symm)]
      exact ih (by omega) hg
  by_cases hg : j = gone
  · subst hg
    refine zero ?_
    have e : cn k2 j = cn l1 j := (gk k2 (by omega) hj).trans (gk l1 (by omega) hj).symm
    rw [e, hx1.2 j hj, hy2 j hj, if_neg (fun w => R1.2.1 w.symm)]
    grind
  · rcases knw with ⟨i, hi, e⟩ | ⟨i, hi, e⟩
    · by_cases w : i = s l1
      · subst w
        have lt : cn k2 j < cn k2 (s k2) := by
          have h1 := hmax l1 hl1
          have h2 : cn l1 (s l1) ≠ cn k2 (s k2) := fun q => (hap l1 (by omega)).2.2 (r l1) (s l1) R1.2.2.1 R1.1 (ht.trans q.symm)
          have h3 : cn l1 (s l1) ≤ cn k2 (s k2) := h1
          omega
        have e2 : y1 (cn k2 j) - xs l1 (cn k2 j) = 1 := by
          rw [← e, hx1.2 _ hi, hy2 _ hi, if_pos rfl]
          grind
        exact fun h => small _ rfl lt hg (bl_neg_congr K (fun q _ => by rw [e2]; grind) h)
      · refine zero ?_
        rw [← e, hx1.2 i hi, hy2 i hi, if_neg w]
        grind
    · have dv : y1 (cn k2 j) - xs l1 (cn k2 j) = a l1 i (s l1) := by rw [← e]; exact d1 i hi
      by_cases w : cn k2 j = cn k2 (s k2)
      · have hj2 : j = s k2 := (hap k2 (by omega)).1 j (s k2) hj R2.1 w
        have hi2 : i = r l1 := (hap l1 (by omega)).2.1 i (r l1) hi R1.2.2.1 (e.trans (w.trans ht.symm))
        have neg := R1.2.2.2.2.2.1
        rw [← hi2, ← dv] at neg
        subst hj2
        exact bl_neg_turn K R2.2.2.2.1 (by grind)
      · have nbl : ¬ bl_nb n (cn l1) (cn k2 j) := fun ⟨g, hg2, e2⟩ => (hap l1 (by omega)).2.2 i g hi hg2 (e.trans e2.symm)
        obtain ⟨e9, he9, hv9⟩ := fickle (cn k2 j) l1 k2 hl1 hk2 nbl ⟨j, hj, rfl⟩
        have lt : cn k2 j < cn k2 (s k2) := by
          have h1 : cn e9 (s e9) ≤ cn k2 (s k2) := hmax e9 he9
          omega
        by_cases w2 : a l1 i (s l1) < 0
        · have bi : b l1 i = 0 := by
            rw [← hbv l1 (by omega) i hi, e, (same _ (back k2 (by omega) _ (Or.inl ⟨j, hj, rfl⟩)) l1 (by omega)).2, ← (same _ (back k2 (by omega) _ (Or.inl ⟨j, hj, rfl⟩)) k2 (by omega)).2]
            exact (hxs k2 (by omega)).2 j hj
          have := R1.2.2.2.2.2.2 i hi w2 (bz l1 hl1) bi
          rw [ht, e] at this
          have this : cn k2 (s k2) ≤ cn k2 j := this
          omega
        · exact bl_nn_scale K (small _ rfl lt hg) (by rw [dv]; grind)
end BL
end
section
/-! a run of Bland's rule is finite: the columns' names are finitely many -/
theorem ph : ∀ (N : Nat) (f : Nat → Nat), (∀ k, k ≤ N → f k < N) → ∃ i j, i < j ∧ j ≤ N ∧ f i = f j
  | 0, f, h => absurd (h 0 (Nat.le_refl 0)) (by omega)
  | N + 1, f, h => by
    by_cases w : ∃ i, i ≤ N ∧ f i = f (N + 1)
    · obtain ⟨i, hi, e⟩ := w
      exact ⟨i, N + 1, by omega, Nat.le_refl _, e⟩
    · have nv : ∀ i, i ≤ N → f i ≠ f (N + 1) := fun i hi q => w ⟨i, hi, q⟩
      have hv := h (N + 1) (Nat.le_refl _)
      obtain ⟨i, j, hij, hj, e⟩ := ph N (fun k => if f k = N then f (N + 1) else f k) (fun k hk => by
        have h1 := h k (by omega)
        have h2 := nv k hk
        show (if f k = N then f (N + 1) else f k) < N
        split <;> omega)
      refine ⟨i, j, hij, by omega, ?_⟩
      have e : (if f i = N then f (N + 1) else f i) = (if f j = N then f (N + 1) else f j) := e
      have n1 := nv i (by omega)
      have n2 := nv j hj
      by_cases q1 : f i = N
      · by_cases q2 : f j = N
        · rw [q1, q2]
        · rw [if_pos q1, if_neg q2] at e
          exact absurd e.symm n2
      · by_cases q2 : f j = N
        · rw [if_neg q1, if_pos q2] at e
          exact absurd e n1
        · rw [if_neg q1, if_neg q2] at e
          exact e
def cd (V : Nat) : Nat → (Nat → Nat) → Nat
  | 0, _ => 0
  | n + 1, f => cd V n f + f n * V ^ n
theorem cd_lt {V : Nat} : ∀ (n : Nat) (f : Nat → Nat), (∀ j, j < n → f j < V) → cd V n f < V ^ n
  | 0, _, _ => by simp [cd]
  | n + 1, f, h => by
    have h1 := cd_lt n f (fun j hj => h j (by omega))
    have h2 : (f n + 1) * V ^ n ≤ V * V ^ n := Nat.mul_le_mul_right _ (h n (by omega))
    rw [cd, Nat.pow_succ, Nat.mul_comm (V ^ n) V]
    rw [Nat.add_mul, Nat.one_mul] at h2
    omega
theorem cd_inj {V : Nat} : ∀ (n : Nat) (f g : Nat → Nat), (∀ j, j < n → f j < V) → (∀ j, j < n → g j < V) → cd V n f = cd V n g → ∀ j, j < n → f j = g j
  | 0, _, _, _, _, _ => fun j hj => by omega
  | n + 1, f, g, hf, hg, e => by
    have h1 := cd_lt n f (fun j hj => hf j (by omega))
    have h2 := cd_lt n g (fun j hj => hg j (by omega))
    rw [cd, cd] at e
    have hp : 0 < V ^ n := by omega
    have e1 : f n = g n := by
      have a1 : (cd V n f + f n * V ^ n) / V ^ n = f n := by rw [Nat.add_mul_div_right _ _ hp, Nat.div_eq_of_lt h1, Nat.zero_add]
      have a2 : (cd V n g + g n * V ^ n) / V ^ n = g n := by rw [Nat.add_mul_div_right _ _ hp, Nat.div_eq_of_lt h2, Nat.zero_add]
      rw [← a1, ← a2, e]
    have e2 : cd V n f = cd V n g := by rw [e1] at e; omega
    intro j hj
    by_cases q : j = n
    · rw [q]; exact e1
    · exact cd_inj n f g (fun j hj => hf j (by omega)) (fun j hj => hg j (by omega)) e2 j (by omega)
/-- a run of m steps of the rule -/
def bl_run (X : (Nat → Rat) → Prop) (obj : Nat → (Nat → Rat) → Rat) (n R K gone V m : Nat) (cn rn : Nat → Nat → Nat) (a : Nat → Nat → Nat → Rat) (b : Nat → Nat → Rat) (c : Nat → Nat → Nat → Rat) (z : Nat → Nat → Rat) (s r : Nat → Nat) : Prop :=
  (∀ k, k ≤ m → bl_says X obj n R K (cn k) (rn k) (a k) (b k) (c k) (z k)) ∧ (∀ k, k ≤ m → bl_apart n R (cn k) (rn k)) ∧ (∀ k, k ≤ m → ∀ i, i < R → 0 ≤ b k i) ∧ (∀ k, k < m → bl_rule n R K gone (cn k) (rn k) (a k) (b k) (c k) (s k) (r k)) ∧ (∀ k, k < m → bl_next n R (cn k) (rn k) (cn (k + 1)) (rn (k + 1)) (s k) (r k)) ∧ ∀ k, k ≤ m → ∀ j, j < n → cn k j < V
theorem bl_finite {X : (Nat → Rat) → Prop} {obj : Nat → (Nat → Rat) → Rat} {n R K gone V m : Nat} {cn rn : Nat → Nat → Nat} {a : Nat → Nat → Nat → Rat} {b : Nat → Nat → Rat} {c : Nat → Nat → Nat → Rat} {z : Nat → Nat → Rat} {s r : Nat → Nat} (h : bl_run X obj n R K gone V m cn rn a b c z s r) : m < V ^ n := by
  obtain ⟨h1, h2, h3, h4, h5, h6⟩ := h
  rcases Nat.lt_or_ge m (V ^ n) with q | q
  · exact q
  · obtain ⟨i, j, hij, hj, e⟩ := ph (V ^ n) (fun k => if k ≤ m then cd V n (cn k) else 0) (fun k hk => by
      show (if k ≤ m then cd V n (cn k) else 0) < V ^ n
      rw [if_pos (by omega)]
      exact cd_lt n _ (h6 k (by omega)))
    have e : (if i ≤ m then cd V n (cn i) else 0) = (if j ≤ m then cd V n (cn j) else 0) := e
    rw [if_pos (by omega), if_pos (by omega)] at e
    have e2 := cd_inj n (cn i) (cn j) (h6 i (by omega)) (h6 j (by omega)) e
    exact (bl_no_cycle (m := j - i) (cn := fun k => cn (i + k)) (rn := fun k => rn (i + k)) (a := fun k => a (i + k)) (b := fun k => b (i + k)) (c := fun k => c (i + k)) (z := fun k => z (i + k)) (s := fun k => s (i + k)) (r := fun k => r (i + k)) (gone := gone) (by omega) (fun k hk => h1 (i + k) (by omega)) (fun k hk => h2 (i + k) (by omega)) (fun k hk => h3 (i + k) (by omega)) (fun k hk => h4 (i + k) (by omega)) (fun k hk => h5 (i + k) (by omega)) (fun p hp => by
      show cn (i + (j - i)) p = cn (i + 0) p
      rw [show i + (j - i) = j by omega, Nat.add_zero]
      exact (e2 p hp).symm)).elim
/-- one step more -/
theorem bl_run_s {X : (Nat → Rat) → Prop} {obj : Nat → (Nat → Rat) → Rat} {n R K gone V m : Nat} {cn rn : Nat → Nat → Nat} {a : Nat → Nat → Nat → Rat} {b : Nat → Nat → Rat} {c : Nat → Nat → Nat → Rat} {z : Nat → Nat → Rat} {s r : Nat → Nat} (h : bl_run X obj n R K gone V m cn rn a b c z s r) {cn' rn' : Nat → Nat} {a' : Nat → Nat → Rat} {b' : Nat → Rat} {c' : Nat → Nat → Rat} {z' : Nat → Rat} {s' r' : Nat} (h1 : bl_says X obj n R K cn' rn' a' b' c' z') (h2 : bl_apart n R cn' rn') (h3 : ∀ i, i < R → 0 ≤ b' i) (h4 : bl_rule n R K gone (cn m) (rn m) (a m) (b m) (c m) s' r') (h5 : bl_next n R (cn m) (rn m) cn' rn' s' r') (h6 : ∀ j, j < n → cn' j < V) :
    bl_run X obj n R K gone V (m + 1) (fun k => if k ≤ m then cn k else cn') (fun k => if k ≤ m then rn k else rn') (fun k => if k ≤ m then a k else a') (fun k => if k ≤ m then b k else b') (fun k => if k ≤ m then c k else c') (fun k => if k ≤ m then z k else z') (fun k => if k < m then s k else s') (fun k => if k < m then r k else r') := by
  obtain ⟨g1, g2, g3, g4, g5, g6⟩ := h
  refine ⟨fun k hk => ?_, fun k hk => ?_, fun k hk => ?_, fun k hk => ?_, fun k hk => ?_, fun k hk => ?_⟩
  · by_cases q : k ≤ m
    · simp only [if_pos q]; exact g1 k q
    · simp only [if_neg q]; exact h1
  · by_cases q : k ≤ m
    · simp only [if_pos q]; exact g2 k q
    · simp only [if_neg q]; exact h2
  · by_cases q : k ≤ m
    · simp only [if_pos q]; exact g3 k q
    · simp only [if_neg q]; exact h3
  · have q : k ≤ m := by omega
    by_cases q2 : k < m
    · simp only [if_pos q, if_pos q2]; exact g4 k q2
    · have : k = m := by omega
      subst this
      simp only [if_pos q, if_neg q2]; exact h4
  · have q : k ≤ m := by omega
    by_cases q2 : k < m
    · have q3 : k + 1 ≤ m := by omega
      simp only [if_pos q, if_pos q2, if_pos q3]; exact g5 k q2
    · have : k = m := by omega
      subst this
      have q3 : ¬ k + 1 ≤ k := by omega
      simp only [if_pos q, if_neg q2, if_neg q3]; exact h5
  · by_cases q : k ≤ m
    · simp only [if_pos q]; exact g6 k q
    · simp only [if_neg q]; exact h6
end
section
/-! a table of determinants: names have forms (coordinates 0 .. n - 1, and n for the whole number); the columns are names; what the table says, and what an exchange does -/
def tb (n : Nat) (F : Nat → Nat → Int) (cn : Nat → Nat) : Nat → Nat → Int := fun j c => if j < n then F (cn j) c else if c = n then 1 else 0
def tD (n : Nat) (F : Nat → Nat → Int) (cn : Nat → Nat) : Int := dt (n + 1) (tb n F cn)
def tT (n : Nat) (F : Nat → Nat → Int) (cn : Nat → Nat) (v j : Nat) : Int := dt (n + 1) (dt_put (tb n F cn) j (F v))
section TB
variable {n : Nat} {F : Nat → Nat → Int} {cn cn' : Nat → Nat} {s w : Nat}
theorem tb_next (hs : s < n) (h : ∀ j, j < n → cn' j = if j = s then w else cn j) (a c : Nat) : tb n F cn' a c = dt_put (tb n F cn) s (F w) a c := by
  by_cases q : a = s
  · subst q
    rw [dt_put_s _ _ rfl, tb, if_pos hs, h a hs, if_pos rfl]
  · rw [dt_put_n _ _ q]
    show (if a < n then F (cn' a) c else if c = n then 1 else 0) = (if a < n then F (cn a) c else if c = n then 1 else 0)
    by_cases q2 : a < n
    · rw [if_pos q2, if_pos q2, h a q2, if_neg q]
    · rw [if_neg q2, if_neg q2]
theorem tD_next (hs : s < n) (h : ∀ j, j < n → cn' j = if j = s then w else cn j) : tD n F cn' = tT n F cn w s := dt_congr (fun a _ c _ => tb_next hs h a c)
theorem tT_next_s (hs : s < n) (h : ∀ j, j < n → cn' j = if j = s then w else cn j) (v : Nat) : tT n F cn' v s = tT n F cn v s := dt_congr (fun a _ c _ => by
  by_cases q : a = s
  · rw [dt_put_s _ _ q, dt_put_s _ _ q]
  · rw [dt_put_n _ _ q, dt_put_n _ _ q, tb_next hs h, dt_put_n _ _ q])
theorem tT_next (hs : s < n) (h : ∀ j, j < n → cn' j = if j = s then w else cn j) (v : Nat) {j : Nat} (hj : j < n + 1) (hne : j ≠ s) : tD n F cn * tT n F cn' v j = tT n F cn w s * tT n F cn v j - tT n F cn v s * tT n F cn w j := by
  have e : tT n F cn' v j = dt (n + 1) (dt_put (dt_put (tb n F cn) s (F w)) j (F v)) := dt_congr (fun a _ c _ => by
    by_cases q : a = j
    · rw [dt_put_s _ _ q, dt_put_s _ _ q]
    · rw [dt_put_n _ _ q, dt_put_n _ _ q, tb_next hs h])
  rw [e]
  exact dt_pivot (tb n F cn) (F w) (F v) (by omega) hj hne
/-- a column's own name -/
theorem tT_col_s {i : Nat} (hi : i < n) : tT n F cn (cn i) i = tD n F cn := dt_congr (fun a _ c _ => by
  by_cases q : a = i
  · rw [dt_put_s _ _ q, q, tb, if_pos hi]
  · rw [dt_put_n _ _ q])
theorem tT_col {i j : Nat} (hi : i < n) (hj : j < n + 1) (hne : j ≠ i) : tT n F cn (cn i) j = 0 := dt_eqr' hj (show i < n + 1 by omega) hne (fun c _ => by
  rw [dt_put_s _ _ rfl, dt_put_n _ _ (fun e => hne e.symm), tb, if_pos hi])
/-- the name that leaves the columns -/
theorem tT_old_s (hs : s < n) (h : ∀ j, j < n → cn' j = if j = s then w else cn j) : tT n F cn' (cn s) s = tD n F cn := (tT_next_s hs h (cn s)).trans (tT_col_s hs)
theorem tT_old (hD : tD n F cn ≠ 0) (hs : s < n) (h : ∀ j, j < n → cn' j = if j = s then w else cn j) {j : Nat} (hj : j < n + 1) (hne : j ≠ s) : tT n F cn' (cn s) j = - tT n F cn w j := by
  have e := tT_next (F := F) hs h (cn s) hj hne
  rw [tT_col hs hj hne, tT_col_s hs, Int.mul_zero, Int.zero_sub, ← Int.mul_neg] at e
  exact Int.eq_of_mul_eq_mul_left hD e
/-- the numberings of names by a point -/
def tX (n : Nat) (F : Nat → Nat → Int) (x : Nat → Rat) : Prop := ∃ y : Nat → Rat, y n = 1 ∧ ∀ v, x v = bl_sum (n + 1) (fun c => (F v c : Rat) * y c)
theorem bl_cast : ∀ (m : Nat) (f : Nat → Int), ((dt_sum m f : Int) : Rat) = bl_sum m (fun i => (f i : Rat))
  | 0, _ => rfl
  | m + 1, f => by rw [dt_sum_s, bl_sum_s, Rat.intCast_add, bl_cast m f]
theorem bl_sum_add (m : Nat) (f g : Nat → Rat) : bl_sum m (fun i => f i + g i) = bl_sum m f + bl_sum m g := by
  induction m with
  | zero => simp only [bl_sum]; grind
  | succ m ih => rw [bl_sum_s, bl_sum_s, bl_sum_s, ih]; grind
theorem bl_sum_mul (m : Nat) (x : Rat) (f : Nat → Rat) : bl_sum m (fun i => x * f i) = x * bl_sum m f := by
  induction m with
  | zero => simp only [bl_sum]; grind
  | succ m ih => rw [bl_sum_s, bl_sum_s, ih]; grind
theorem bl_sum_comm (m k : Nat) (f : Nat → Nat → Rat) : bl_sum m (fun i => bl_sum k (fun j => f i j)) = bl_sum k (fun j => bl_sum m (fun i => f i j)) := by
  induction m with
  | zero => simp only [bl_sum]; exact (bl_sum_0 (fun _ _ => rfl)).symm
  | succ m ih => simp only [bl_sum]; rw [ih, bl_sum_add]
/-- what a row of the table says -/
theorem tb_row {x : Nat → Rat} (hx : tX n F x) (v : Nat) : (tD n F cn : Rat) * x v = bl_sum n (fun j => (tT n F cn v j : Rat) * x (cn j)) + (tT n F cn v n : Rat) := by
  obtain ⟨y, hy, hv⟩ := hx
  have e1 : (tD n F cn : Rat) * x v = bl_sum (n + 1) (fun c => bl_sum (n + 1) (fun i => (tT n F cn v i : Rat) * ((tb n F cn i c : Rat) * y c))) := by
    rw [hv v, ← bl_sum_mul]
    refine bl_sum_congr (fun c hc => ?_)
    have h := dt_cramer (n + 1) (tb n F cn) (F v) c hc
    have h2 : ((F v c : Int) : Rat) * (tD n F cn : Rat) = bl_sum (n + 1) (fun i => (tb n F cn i c : Rat) * (tT n F cn v i : Rat)) := by
      rw [← Rat.intCast_mul]
      show ((F v c * dt (n + 1) (tb n F cn) : Int) : Rat) = _
      rw [h, bl_cast]
      exact bl_sum_congr (fun i _ => Rat.intCast_mul _ _)
    have h3 : bl_sum (n + 1) (fun i => (tT n F cn v i : Rat) * ((tb n F cn i c : Rat) * y c)) = y c * bl_sum (n + 1) (fun i => (tb n F cn i c : Rat) * (tT n F cn v i : Rat)) := by
      rw [← bl_sum_mul]
      exact bl_sum_congr (fun i _ => by grind)
    rw [h3, ← h2]
    grind
  rw [e1, bl_sum_comm, bl_sum_s]
  have e2 : bl_sum (n + 1) (fun c => (tT n F cn v n : Rat) * ((tb n F cn n c : Rat) * y c)) = (tT n F cn v n : Rat) := by
    rw [bl_sum_one (s := n) (by omega) (fun c _ q => by rw [tb, if_neg (by omega), if_neg q, Rat.intCast_zero]; grind), hy, tb, if_neg (by omega), if_pos rfl, Rat.intCast_one]
    grind
  rw [e2]
  have e3 : bl_sum n (fun j => bl_sum (n + 1) (fun c => (tT n F cn v j : Rat) * ((tb n F cn j c : Rat) * y c))) = bl_sum n (fun j => (tT n F cn v j : Rat) * x (cn j)) := bl_sum_congr (fun j hj => by
    rw [bl_sum_mul, hv (cn j)]
    congr 1
    exact bl_sum_congr (fun c _ => by rw [tb, if_pos hj]))
  rw [e3]
/-- every choice of the columns' numbers is some point's -/
theorem tb_any (hD : tD n F cn ≠ 0) (t : Nat → Rat) : ∃ x, tX n F x ∧ ∀ j, j < n → x (cn j) = t j := by
  -- the unit forms over the table: U c i = det with the unit of c in row i's place
  have hDr : (tD n F cn : Rat) ≠ 0 := fun e => hD (Rat.intCast_eq_zero_iff.mp e)
  have key : ∀ i j, i < n + 1 → j < n + 1 → dt_sum (n + 1) (fun c => tb n F cn j c * dt (n + 1) (dt_put (tb n F cn) i (fun d => if d = c then 1 else 0))) = if i = j then tD n F cn else 0 := by
    intro i j hi hj
    rw [← dt_linsum (tb n F cn) hi (fun c d => if d = c then 1 else 0) (fun c => tb n F cn j c) (n + 1)]
    have e : dt (n + 1) (dt_put (tb n F cn) i (fun d => dt_sum (n + 1) (fun c => tb n F cn j c * (if d = c then 1 else 0)))) = dt (n + 1) (dt_put (tb n F cn) i (tb n F cn j)) := dt_congr (fun a _ d hd => by
      by_cases q : a = i
      · rw [dt_put_s _ _ q, dt_put_s _ _ q]
        show dt_sum (n + 1) (fun c => tb n F cn j c * (if d = c then 1 else 0)) = _
        rw [dt_sum_one hd (fun c _ w => by rw [if_neg (fun e => w e.symm), Int.mul_zero]), if_pos rfl, Int.mul_one]
      · rw [dt_put_n _ _ q, dt_put_n _ _ q])
    rw [e]
    by_cases q : i = j
    · subst q
      rw [if_pos rfl]
      exact dt_congr (fun a _ d _ => by
        by_cases w : a = i
        · rw [dt_put_s _ _ w, w]
        · rw [dt_put_n _ _ w])
    · rw [if_neg q]
      exact dt_eqr' hi hj q (fun d _ => by rw [dt_put_s _ _ rfl, dt_put_n _ _ (fun e => q e.symm)])
  let U : Nat → Nat → Rat := fun c i => ((dt (n + 1) (dt_put (tb n F cn) i (fun d => if d = c then 1 else 0)) : Int) : Rat)
  let t1 : Nat → Rat := fun i => if i < n then t i else 1
  let y : Nat → Rat := fun c => bl_sum (n + 1) (fun i => U c i * t1 i) * (tD n F cn : Rat)⁻¹
  have hy : ∀ j, j < n + 1 → bl_sum (n + 1) (fun c => (tb n F cn j c : Rat) * y c) = t1 j := by
    intro j hj
    have e1 : bl_sum (n + 1) (fun c => (tb n F cn j c : Rat) * y c) = (tD n F cn : Rat)⁻¹ * bl_sum (n + 1) (fun c => bl_sum (n + 1) (fun i => t1 i * ((tb n F cn j c : Rat) * U c i))) := by
      rw [← bl_sum_mul]
      refine bl_sum_congr (fun c _ => ?_)
      have e2 : bl_sum (n + 1) (fun i => t1 i * ((tb n F cn j c : Rat) * U c i)) = (tb n F cn j c : Rat) * bl_sum (n + 1) (fun i => U c i * t1 i) := by
        rw [← bl_sum_mul]
        exact bl_sum_congr (fun i _ => by grind)
      rw [e2]
      show (tb n F cn j c : Rat) * (bl_sum (n + 1) (fun i => U c i * t1 i) * (tD n F cn : Rat)⁻¹) = _
      grind
    have e3 : bl_sum (n + 1) (fun i => bl_sum (n + 1) (fun c => t1 i * ((tb n F cn j c : Rat) * U c i))) = t1 j * (tD n F cn : Rat) := by
      rw [bl_sum_one hj (fun i hi q => ?_)]
      · rw [bl_sum_mul]
        congr 1
        have k := key j j hj hj
        rw [if_pos rfl] at k
        rw [← k, bl_cast]
        exact bl_sum_congr (fun c _ => (Rat.intCast_mul _ _).symm)
      · rw [bl_sum_mul]
        have k := key i j hi hj
        rw [if_neg q] at k
        have k2 : bl_sum (n + 1) (fun c => (tb n F cn j c : Rat) * U c i) = 0 := by
          rw [← Rat.intCast_zero, ← k, bl_cast]
          exact bl_sum_congr (fun c _ => (Rat.intCast_mul _ _).symm)
        rw [k2]
        grind
    rw [e1, bl_sum_comm, e3]
    have := Rat.mul_inv_cancel _ hDr
    grind
  refine ⟨fun v => bl_sum (n + 1) (fun c => (F v c : Rat) * y c), ⟨y, ?_, fun v => rfl⟩, fun j hj => ?_⟩
  · have h := hy n (by omega)
    rw [bl_sum_one (s := n) (by omega) (fun c _ q => by rw [tb, if_neg (by omega), if_neg q, Rat.intCast_zero]; grind), tb, if_neg (by omega), if_pos rfl, Rat.intCast_one] at h
    have h2 : t1 n = 1 := if_neg (by omega)
    rw [h2] at h
    grind
  · have h := hy j (by omega)
    have h2 : t1 j = t j := if_pos hj
    rw [h2] at h
    rw [← h]
    exact bl_sum_congr (fun c _ => by rw [tb, if_pos hj])
/-- the table over its common number says what Bland's rule asks for; the aims are names from V on -/
theorem tb_says (hD : tD n F cn ≠ 0) (R K V : Nat) (rn : Nat → Nat) : bl_says (tX n F) (fun q x => x (V + q)) n R K cn rn (fun i j => (tT n F cn (rn i) j : Rat) / (tD n F cn : Rat)) (fun i => (tT n F cn (rn i) n : Rat) / (tD n F cn : Rat)) (fun q j => (tT n F cn (V + q) j : Rat) / (tD n F cn : Rat)) (fun q => (tT n F cn (V + q) n : Rat) / (tD n F cn : Rat)) := by
  have hDr : (tD n F cn : Rat) ≠ 0 := fun e => hD (Rat.intCast_eq_zero_iff.mp e)
  have row : ∀ x, tX n F x → ∀ v, x v = (tT n F cn v n : Rat) / (tD n F cn : Rat) + bl_sum n (fun j => (tT n F cn v j : Rat) / (tD n F cn : Rat) * x (cn j)) := by
    intro x hx v
    have h := tb_row (cn := cn) hx v
    have e : bl_sum n (fun j => (tT n F cn v j : Rat) / (tD n F cn : Rat) * x (cn j)) = (tD n F cn : Rat)⁻¹ * bl_sum n (fun j => (tT n F cn v j : Rat) * x (cn j)) := by
      rw [← bl_sum_mul]
      exact bl_sum_congr (fun j _ => by rw [Rat.div_def]; grind)
    rw [e, Rat.div_def]
    have := Rat.mul_inv_cancel _ hDr
    grind
  exact ⟨fun x hx => ⟨fun i _ => row x hx (rn i), fun q _ => row x hx (V + q)⟩, fun t => tb_any hD t⟩
end TB
end
section
/-- a column that makes the aims fall has a row that stops it, where the aims can't fall below 0 -/
theorem bl_first : ∀ (K : Nat) (v : Nat → Rat), bl_neg K v → ∃ q, q < K ∧ v q < 0
  | 0, _, h => h.elim
  | K + 1, v, h => by
    rcases h with h | ⟨-, h⟩
    · exact ⟨0, by omega, h⟩
    · obtain ⟨q, hq, e⟩ := bl_first K _ h
      exact ⟨q + 1, by omega, e⟩
theorem bl_gives {X : (Nat → Rat) → Prop} {obj : Nat → (Nat → Rat) → Rat} {n R K : Nat} {cn rn : Nat → Nat} {a : Nat → Nat → Rat} {b : Nat → Rat} {c : Nat → Nat → Rat} {z : Nat → Rat} {s : Nat} (hS : bl_says X obj n R K cn rn a b c z) (hb : ∀ i, i < R → 0 ≤ b i) (hpos : ∀ x, X x → (∀ j, j < n → 0 ≤ x (cn j)) → (∀ i, i < R → 0 ≤ x (rn i)) → ∀ q, q < K → 0 ≤ obj q x) (hs : s < n) (hc : bl_neg K (fun q => c q s)) : ∃ i, i < R ∧ a i s < 0 := by
  by_cases w : ∃ i, i < R ∧ a i s < 0
  · exact w
  · have na : ∀ i, i < R → 0 ≤ a i s := fun i hi => by
      by_cases q : a i s < 0
      · exact absurd ⟨i, hi, q⟩ w
      · grind
    obtain ⟨q, hq, hn⟩ := bl_first K _ hc
    have hn : c q s < 0 := hn
    have ray : ∀ t : Rat, 0 ≤ t → 0 ≤ z q + c q s * t := by
      intro t ht
      obtain ⟨x, hx, hy⟩ := hS.2 (fun j => if j = s then t else 0)
      have h1 := hpos x hx (fun j hj => by
        rw [hy j hj]
        show 0 ≤ (if j = s then t else 0)
        split
        · exact ht
        · exact Rat.le_refl) (fun i hi => by
        rw [(hS.1 x hx).1 i hi, bl_sum_one hs (fun j hj e => by rw [hy j hj, if_neg e]; grind), hy s hs, if_pos rfl]
        have h2 := Rat.mul_nonneg (na i hi) ht
        have h3 := hb i hi
        grind) q hq
      rw [(hS.1 x hx).2 q hq, bl_sum_one hs (fun j hj e => by rw [hy j hj, if_neg e]; grind), hy s hs, if_pos rfl] at h1
      exact h1
    have z0 : 0 ≤ z q := by have := ray 0 (by grind); grind
    have hi : c q s * (c q s)⁻¹ = 1 := Rat.mul_inv_cancel _ (by grind)
    have ni : (c q s)⁻¹ < 0 := by
      by_cases p : (c q s)⁻¹ < 0
      · exact p
      · have := Rat.mul_nonneg (show 0 ≤ - c q s by grind) (show 0 ≤ (c q s)⁻¹ by grind)
        grind
    have h4 := Rat.mul_nonneg (show 0 ≤ - (c q s)⁻¹ by grind) (show 0 ≤ z q + 1 by grind)
    have h5 := ray ((- (c q s)⁻¹) * (z q + 1)) h4
    have h6 : c q s * ((- (c q s)⁻¹) * (z q + 1)) = - (z q + 1) := by
      rw [← Rat.mul_assoc, Rat.mul_neg, hi, Rat.neg_mul, Rat.one_mul]
    rw [h6] at h5
    clear ray h4 h6 ni hi
    have h7 : z q + -(z q + 1) = -1 := by grind
    rw [h7] at h5
    exact absurd h5 (by decide)
end
section
/-- how many digits are left when the highest are 0 -/
def cutN (f : Nat → Int32) : Nat → Nat
  | 0 => 0
  | t + 1 => if f t = 0 then cutN f t else t + 1
theorem d_Mo_cut2_0 : decode c_Mo_cut2 0 = .ok (.iload_n 1, 1) := by decide +kernel
theorem d_Mo_cut2_1 : decode c_Mo_cut2 1 = .ok (.istore_n 2, 1) := by decide +kernel
theorem d_Mo_cut2_2 : decode c_Mo_cut2 2 = .ok (.iload_n 2, 1) := by decide +kernel
theorem d_Mo_cut2_3 : decode c_Mo_cut2 3 = .ok (.ifCond .le 17, 3) := by decide +kernel
theorem d_Mo_cut2_6 : decode c_Mo_cut2 6 = .ok (.aload_n 0, 1) := by decide +kernel
theorem d_Mo_cut2_7 : decode c_Mo_cut2 7 = .ok (.iload_n 2, 1) := by decide +kernel
theorem d_Mo_cut2_8 : decode c_Mo_cut2 8 = .ok (.iconst 1, 1) := by decide +kernel
theorem d_Mo_cut2_9 : decode c_Mo_cut2 9 = .ok (.isub, 1) := by decide +kernel
theorem d_Mo_cut2_10 : decode c_Mo_cut2 10 = .ok (.iaload, 1) := by decide +kernel
theorem d_Mo_cut2_11 : decode c_Mo_cut2 11 = .ok (.ifCond .ne 9, 3) := by decide +kernel
theorem d_Mo_cut2_14 : decode c_Mo_cut2 14 = .ok (.iinc 2 (-1), 3) := by decide +kernel
theorem d_Mo_cut2_17 : decode c_Mo_cut2 17 = .ok (.goto (-15), 3) := by decide +kernel
theorem d_Mo_cut2_20 : decode c_Mo_cut2 20 = .ok (.iload_n 2, 1) := by decide +kernel
theorem d_Mo_cut2_21 : decode c_Mo_cut2 21 = .ok (.ireturn, 1) := by decide +kernel
set_option maxRecDepth 100000 in
set_option maxHeartbeats 4000000 in
/-- cut(d, n) -/
theorem k_Mo_cut2 (l : Launch) (G : va_G) (k : Nat → ClassId) (d sz len n : Nat) (f : Nat → Int32) (hn : n ≤ len) (hlen : len < 2 ^ 31) : CI l y_Mo_cut2 c_Mo_cut2 3 .int { frames := 0, cells := 0, slots := 0, locals := 0 } [.ref d, .int (nI n)] G k sz [(d, .inl (k 0, len, .inl f))] (fun (r : Int32) (_ : Unit) => r = nI (cutN f n)) (fun _ => [(d, .inl (k 0, len, .inl f))]) 0 0 := by
  refine met_start (by decide) (Nat.le_of_ble_eq_true rfl) ?_
  intro p e s m below meth c C K hA hsz S ls hl
  generalize va_A [(d, .inl (k 0, len, .inl f))] sz = A at hA S ⊢
  have hx := C.1
  have hb := C.2.1
  have hl : lv_has ls 3 [(0, .ref d), (1, .int (nI n))] := hl
  refine lv_iload_n hx hb d_Mo_cut2_0 rfl (lv_at hl 1 rfl) ?_
  refine lv_istore_n (lv' := [(2, .int (nI n)), (0, .ref d), (1, .int (nI n))]) hx hb d_Mo_cut2_1 rfl hl (by decide) rfl (fun ls hl => ?_)
  have loop : ∀ t, t ≤ n → cutN f t = cutN f n → ∀ ls : Array Slot, lv_has ls 3 [(2, .int (nI t)), (0, .ref d), (1, .int (nI n))] → W p l e { frames := 0, cells := 0, slots := 0, locals := 0 } s m [Value.ref d, Value.int (nI n)].toArray below meth c s.heap [] 0 0 (MQ below (va_Qi (fun (r : Int32) (_ : Unit) => r = nI (cutN f n)) (Po G k A (fun _ => [(d, .inl (k 0, len, .inl f))])) A) [Value.ref d, Value.int (nI n)].toArray s 0 0 A) (F0 m 2 ls []) := by
    intro t
    induction t with
    | zero =>
      intro ht he ls hl
      refine lv_iload_n hx hb d_Mo_cut2_2 rfl (lv_at hl 0 rfl) ?_
      refine lv_if_le (tgt := 20) hx hb d_Mo_cut2_3 (by decide) (fun _ => ?_) (fun hq => absurd (by decide) hq)
      refine lv_iload_n hx hb d_Mo_cut2_20 rfl (lv_at hl 0 rfl) ?_
      exact r_iret C K rfl () (by rw [← he]; rfl) S d_Mo_cut2_21 (Nat.le_of_ble_eq_true rfl) (Nat.le_of_ble_eq_true rfl)
    | succ t ih =>
      intro ht he ls hl
      refine lv_iload_n hx hb d_Mo_cut2_2 rfl (lv_at hl 0 rfl) ?_
      refine lv_if_le (tgt := 20) hx hb d_Mo_cut2_3 (by decide) (fun hq => absurd hq (nI_nle (by omega) (by omega))) (fun _ => ?_)
      refine lv_aload_n hx hb d_Mo_cut2_6 rfl (lv_at hl 1 rfl) ?_
      refine lv_iload_n hx hb d_Mo_cut2_7 rfl (lv_at hl 0 rfl) ?_
      refine lv_iconst (v := 1) hx hb d_Mo_cut2_8 (by decide) ?_
      refine lv_isub hx hb d_Mo_cut2_9 ?_
      rw [nI_pred]
      refine r_iald C K S 0 rfl (i := nI t) (vp_in_nI (by omega) hlen) (v := f t) (by rw [nI_clamp (by omega)]) d_Mo_cut2_10 ?_
      refine lv_if_ne (tgt := 20) hx hb d_Mo_cut2_11 (by decide) (fun hq => ?_) (fun hq => ?_)
      · refine lv_iload_n hx hb d_Mo_cut2_20 rfl (lv_at hl 0 rfl) ?_
        exact r_iret C K rfl () (by rw [← he, cutN, if_neg hq]) S d_Mo_cut2_21 (Nat.le_of_ble_eq_true rfl) (Nat.le_of_ble_eq_true rfl)
      · refine lv_iinc (v := nI t) (lv' := [(2, .int (nI t)), (0, .ref d), (1, .int (nI n))]) hx hb d_Mo_cut2_14 hl (k := 0) rfl (by rw [show Int32.ofInt (-1) = -1 from by decide]; exact pk_m1 t) (by decide) rfl (fun ls hl => ?_)
        refine lv_goto (tgt := 2) hx hb d_Mo_cut2_17 (by decide) ?_
        exact ih (by omega) (by rw [← he, cutN, if_pos hq]) ls hl
  exact loop n (Nat.le_refl n) rfl ls hl
end
section
/-- the reference's object: arrays m, ints and booleans i, the cost -/
def moL (m : Nat → Nat) (i : Nat → Int32) (co : Int64) : List Value := [.int (i 0), .ref (m 0), .ref (m 1), .ref (m 2), .int (i 1), .ref (m 3), .ref (m 4), .ref (m 5), .ref (m 6), .int (i 2), .long co, .int (i 3), .int (i 4), .ref (m 7), .ref (m 8), .ref (m 9), .ref (m 10), .ref (m 11), .int (i 5), .ref (m 12), .int (i 6), .int (i 7), .int (i 8), .int (i 9), .int (i 10), .int (i 11), .int (i 12), .ref (m 13), .int (i 13), .int (i 14), .int (i 15), .int (i 16), .ref (m 14), .ref (m 15), .int (i 17), .ref (m 16), .ref (m 17), .ref (m 18), .ref (m 19), .ref (m 20), .int (i 18), .ref (m 21), .ref (m 22), .ref (m 23), .ref (m 24), .ref (m 25), .ref (m 26), .ref (m 27), .int (i 19), .int (i 20), .int (i 21), .int (i 22), .int (i 23), .int (i 24), .int (i 25), .ref (m 28), .ref (m 29), .int (i 26), .int (i 27), .int (i 28), .int (i 29)]
theorem d_Mo_place_0 : decode c_Mo_place 0 = .ok (.aload_n 0, 1) := by decide +kernel
theorem d_Mo_place_1 : decode c_Mo_place 1 = .ok (.getfield 19, 3) := by decide +kernel
theorem d_Mo_place_4 : decode c_Mo_place 4 = .ok (.ireturn, 1) := by decide +kernel
set_option maxRecDepth 100000 in
set_option maxHeartbeats 4000000 in
/-- place() -/
theorem g_Mo_place (l : Launch) (G : va_G) (k : Nat → ClassId) (h0 sz : Nat) (ma : Nat → Nat) (iv : Nat → Int32) (co : Int64) : CI l y_Mo_place c_Mo_place 1 .int { frames := 1, cells := 0, slots := 0, locals := 20 } [.ref h0] G k sz [(h0, .inr (8, moL ma iv co))] (fun (r : Int32) (u : Unit) => r = iv 1) (fun u => [(h0, .inr (8, moL ma iv co))]) 0 0 := by
  refine met_start (by decide) (Nat.le_of_ble_eq_true rfl) ?_
  intro p e s m below meth c C K hA hsz S ls hl
  generalize va_A [(h0, .inr (8, moL ma iv co))] sz = A at hA S ⊢
  have hx := C.1
  have hb := C.2.1
  have hl : lv_has ls 1 [(0, .ref h0)] := hl
  refine lv_aload_n hx hb d_Mo_place_0 rfl (lv_at hl 0 rfl) ?_
  refine r_get C K S 0 rfl rfl clOk_Mo 4 (by decide) wf_Mo_19 (v := .int (iv 1)) rfl d_Mo_place_1 ?_
  exact r_iret C K rfl () rfl (S.sub [0] (by decide) rfl) d_Mo_place_4 (Nat.le_of_ble_eq_true rfl) (Nat.le_of_ble_eq_true rfl)
theorem d_Mo_cost_0 : decode c_Mo_cost 0 = .ok (.aload_n 0, 1) := by decide +kernel
theorem d_Mo_cost_1 : decode c_Mo_cost 1 = .ok (.getfield 175, 3) := by decide +kernel
theorem d_Mo_cost_4 : decode c_Mo_cost 4 = .ok (.lreturn, 1) := by decide +kernel
set_option maxRecDepth 100000 in
set_option maxHeartbeats 4000000 in
/-- cost() -/
theorem g_Mo_cost (l : Launch) (G : va_G) (k : Nat → ClassId) (h0 sz : Nat) (ma : Nat → Nat) (iv : Nat → Int32) (co : Int64) : CL l y_Mo_cost c_Mo_cost 1 { frames := 1, cells := 0, slots := 0, locals := 20 } [.ref h0] G k sz [(h0, .inr (8, moL ma iv co))] (fun (r : Int64) (u : Unit) => r = co) (fun u => [(h0, .inr (8, moL ma iv co))]) 0 0 := by
  refine met_start (by decide) (Nat.le_of_ble_eq_true rfl) ?_
  intro p e s m below meth c C K hA hsz S ls hl
  generalize va_A [(h0, .inr (8, moL ma iv co))] sz = A at hA S ⊢
  have hx := C.1
  have hb := C.2.1
  have hl : lv_has ls 1 [(0, .ref h0)] := hl
  refine lv_aload_n hx hb d_Mo_cost_0 rfl (lv_at hl 0 rfl) ?_
  refine r_get C K S 0 rfl rfl clOk_Mo 10 (by decide) wf_Mo_175 (v := .long co) rfl d_Mo_cost_1 ?_
  exact r_lret C K () rfl (S.sub [0] (by decide) rfl) d_Mo_cost_4 (Nat.le_of_ble_eq_true rfl) (Nat.le_of_ble_eq_true rfl)
theorem d_Mo_given_0 : decode c_Mo_given 0 = .ok (.aload_n 0, 1) := by decide +kernel
theorem d_Mo_given_1 : decode c_Mo_given 1 = .ok (.getfield 35, 3) := by decide +kernel
theorem d_Mo_given_4 : decode c_Mo_given 4 = .ok (.ireturn, 1) := by decide +kernel
set_option maxRecDepth 100000 in
set_option maxHeartbeats 4000000 in
/-- given() -/
theorem g_Mo_given (l : Launch) (G : va_G) (k : Nat → ClassId) (h0 sz : Nat) (ma : Nat → Nat) (iv : Nat → Int32) (co : Int64) : CI l y_Mo_given c_Mo_given 1 .int { frames := 1, cells := 0, slots := 0, locals := 20 } [.ref h0] G k sz [(h0, .inr (8, moL ma iv co))] (fun (r : Int32) (u : Unit) => r = iv 3) (fun u => [(h0, .inr (8, moL ma iv co))]) 0 0 := by
  refine met_start (by decide) (Nat.le_of_ble_eq_true rfl) ?_
  intro p e s m below meth c C K hA hsz S ls hl
  generalize va_A [(h0, .inr (8, moL ma iv co))] sz = A at hA S ⊢
  have hx := C.1
  have hb := C.2.1
  have hl : lv_has ls 1 [(0, .ref h0)] := hl
  refine lv_aload_n hx hb d_Mo_given_0 rfl (lv_at hl 0 rfl) ?_
  refine r_get C K S 0 rfl rfl clOk_Mo 11 (by decide) wf_Mo_35 (v := .int (iv 3)) rfl d_Mo_given_1 ?_
  exact r_iret C K rfl () rfl (S.sub [0] (by decide) rfl) d_Mo_given_4 (Nat.le_of_ble_eq_true rfl) (Nat.le_of_ble_eq_true rfl)
theorem d_Mo_steps_0 : decode c_Mo_steps 0 = .ok (.aload_n 0, 1) := by decide +kernel
theorem d_Mo_steps_1 : decode c_Mo_steps 1 = .ok (.getfield 165, 3) := by decide +kernel
theorem d_Mo_steps_4 : decode c_Mo_steps 4 = .ok (.ireturn, 1) := by decide +kernel
set_option maxRecDepth 100000 in
set_option maxHeartbeats 4000000 in
/-- steps() -/
theorem g_Mo_steps (l : Launch) (G : va_G) (k : Nat → ClassId) (h0 sz : Nat) (ma : Nat → Nat) (iv : Nat → Int32) (co : Int64) : CI l y_Mo_steps c_Mo_steps 1 .int { frames := 1, cells := 0, slots := 0, locals := 20 } [.ref h0] G k sz [(h0, .inr (8, moL ma iv co))] (fun (r : Int32) (u : Unit) => r = iv 4) (fun u => [(h0, .inr (8, moL ma iv co))]) 0 0 := by
  refine met_start (by decide) (Nat.le_of_ble_eq_true rfl) ?_
  intro p e s m below meth c C K hA hsz S ls hl
  generalize va_A [(h0, .inr (8, moL ma iv co))] sz = A at hA S ⊢
  have hx := C.1
  have hb := C.2.1
  have hl : lv_has ls 1 [(0, .ref h0)] := hl
  refine lv_aload_n hx hb d_Mo_steps_0 rfl (lv_at hl 0 rfl) ?_
  refine r_get C K S 0 rfl rfl clOk_Mo 12 (by decide) wf_Mo_165 (v := .int (iv 4)) rfl d_Mo_steps_1 ?_
  exact r_iret C K rfl () rfl (S.sub [0] (by decide) rfl) d_Mo_steps_4 (Nat.le_of_ble_eq_true rfl) (Nat.le_of_ble_eq_true rfl)
/-- is f one of n functions? -/
def isF (n f : Int32) : Int32 := if f < 0 then 0 else if n ≤ f then 0 else 1
theorem d_Mo_isFunction_0 : decode c_Mo_isFunction 0 = .ok (.iload_n 1, 1) := by decide +kernel
theorem d_Mo_isFunction_1 : decode c_Mo_isFunction 1 = .ok (.ifCond .lt 15, 3) := by decide +kernel
theorem d_Mo_isFunction_4 : decode c_Mo_isFunction 4 = .ok (.iload_n 1, 1) := by decide +kernel
theorem d_Mo_isFunction_5 : decode c_Mo_isFunction 5 = .ok (.aload_n 0, 1) := by decide +kernel
theorem d_Mo_isFunction_6 : decode c_Mo_isFunction 6 = .ok (.getfield 111, 3) := by decide +kernel
theorem d_Mo_isFunction_9 : decode c_Mo_isFunction 9 = .ok (.if_icmp .ge 7, 3) := by decide +kernel
theorem d_Mo_isFunction_12 : decode c_Mo_isFunction 12 = .ok (.iconst 1, 1) := by decide +kernel
theorem d_Mo_isFunction_13 : decode c_Mo_isFunction 13 = .ok (.goto 4, 3) := by decide +kernel
theorem d_Mo_isFunction_16 : decode c_Mo_isFunction 16 = .ok (.iconst 0, 1) := by decide +kernel
theorem d_Mo_isFunction_17 : decode c_Mo_isFunction 17 = .ok (.ireturn, 1) := by decide +kernel
set_option maxRecDepth 100000 in
set_option maxHeartbeats 4000000 in
/-- isFunction(f) -/
theorem g_Mo_isFunction (l : Launch) (G : va_G) (k : Nat → ClassId) (h0 sz : Nat) (ma : Nat → Nat) (iv : Nat → Int32) (co : Int64) (f : Int32) : CI l y_Mo_isFunction c_Mo_isFunction 2 .boolean { frames := 1, cells := 0, slots := 0, locals := 20 } [.ref h0, .int f] G k sz [(h0, .inr (8, moL ma iv co))] (fun (r : Int32) (u : Unit) => r = isF (iv 0) f) (fun u => [(h0, .inr (8, moL ma iv co))]) 0 0 := by
  refine met_start (by decide) (Nat.le_of_ble_eq_true rfl) ?_
  intro p e s m below meth c C K hA hsz S ls hl
  generalize va_A [(h0, .inr (8, moL ma iv co))] sz = A at hA S ⊢
  have hx := C.1
  have hb := C.2.1
  have hl : lv_has ls 2 [(0, .ref h0), (1, .int f)] := hl
  refine lv_iload_n hx hb d_Mo_isFunction_0 rfl (lv_at hl 1 rfl) ?_
  refine lv_if_lt (tgt := 16) hx hb d_Mo_isFunction_1 (by decide) (fun hc1 => ?_) (fun hc1 => ?_)
  · refine lv_iconst (v := 0) hx hb d_Mo_isFunction_16 (by decide) ?_
    exact r_iret C K rfl () (by simp [isF, hc1]) (S.sub [0] (by decide) rfl) d_Mo_isFunction_17 (Nat.le_of_ble_eq_true rfl) (Nat.le_of_ble_eq_true rfl)
  · refine lv_iload_n hx hb d_Mo_isFunction_4 rfl (lv_at hl 1 rfl) ?_
    refine lv_aload_n hx hb d_Mo_isFunction_5 rfl (lv_at hl 0 rfl) ?_
    refine r_get C K S 0 rfl rfl clOk_Mo 0 (by decide) wf_Mo_111 (v := .int (iv 0)) rfl d_Mo_isFunction_6 ?_
    refine lv_icmp_ge (tgt := 16) hx hb d_Mo_isFunction_9 (by decide) (fun hc2 => ?_) (fun hc2 => ?_)
    · refine lv_iconst (v := 0) hx hb d_Mo_isFunction_16 (by decide) ?_
      exact r_iret C K rfl () (by simp [isF, hc1, hc2]) (S.sub [0] (by decide) rfl) d_Mo_isFunction_17 (Nat.le_of_ble_eq_true rfl) (Nat.le_of_ble_eq_true rfl)
    · refine lv_iconst (v := 1) hx hb d_Mo_isFunction_12 (by decide) ?_
      refine lv_goto (tgt := 17) hx hb d_Mo_isFunction_13 (by decide) ?_
      exact r_iret C K rfl () (by simp [isF, hc1, hc2]) (S.sub [0] (by decide) rfl) d_Mo_isFunction_17 (Nat.le_of_ble_eq_true rfl) (Nat.le_of_ble_eq_true rfl)
def toldM (c w u d : Int32) : Int32 := if c = 0 then -2 else if w < 0 then -2 else if w ≤ 1 then (if w = 0 then u else d) else -2
theorem d_Mo_told_0 : decode c_Mo_told 0 = .ok (.aload_n 0, 1) := by decide +kernel
theorem d_Mo_told_1 : decode c_Mo_told 1 = .ok (.getfield 386, 3) := by decide +kernel
theorem d_Mo_told_4 : decode c_Mo_told 4 = .ok (.ifCond .eq 12, 3) := by decide +kernel
theorem d_Mo_told_7 : decode c_Mo_told 7 = .ok (.iload_n 1, 1) := by decide +kernel
theorem d_Mo_told_8 : decode c_Mo_told 8 = .ok (.ifCond .lt 8, 3) := by decide +kernel
theorem d_Mo_told_11 : decode c_Mo_told 11 = .ok (.iload_n 1, 1) := by decide +kernel
theorem d_Mo_told_12 : decode c_Mo_told 12 = .ok (.iconst 1, 1) := by decide +kernel
theorem d_Mo_told_13 : decode c_Mo_told 13 = .ok (.if_icmp .le 8, 3) := by decide +kernel
theorem d_Mo_told_16 : decode c_Mo_told 16 = .ok (.bipush (-2), 2) := by decide +kernel
theorem d_Mo_told_18 : decode c_Mo_told 18 = .ok (.goto 18, 3) := by decide +kernel
theorem d_Mo_told_21 : decode c_Mo_told 21 = .ok (.iload_n 1, 1) := by decide +kernel
theorem d_Mo_told_22 : decode c_Mo_told 22 = .ok (.ifCond .ne 10, 3) := by decide +kernel
theorem d_Mo_told_25 : decode c_Mo_told 25 = .ok (.aload_n 0, 1) := by decide +kernel
theorem d_Mo_told_26 : decode c_Mo_told 26 = .ok (.getfield 192, 3) := by decide +kernel
theorem d_Mo_told_29 : decode c_Mo_told 29 = .ok (.goto 7, 3) := by decide +kernel
theorem d_Mo_told_32 : decode c_Mo_told 32 = .ok (.aload_n 0, 1) := by decide +kernel
theorem d_Mo_told_33 : decode c_Mo_told 33 = .ok (.getfield 198, 3) := by decide +kernel
theorem d_Mo_told_36 : decode c_Mo_told 36 = .ok (.ireturn, 1) := by decide +kernel
set_option maxRecDepth 100000 in
set_option maxHeartbeats 4000000 in
/-- told(w) -/
theorem g_Mo_told (l : Launch) (G : va_G) (k : Nat → ClassId) (h0 sz : Nat) (ma : Nat → Nat) (iv : Nat → Int32) (co : Int64) (w : Int32) : CI l y_Mo_told c_Mo_told 2 .int { frames := 1, cells := 0, slots := 0, locals := 20 } [.ref h0, .int w] G k sz [(h0, .inr (8, moL ma iv co))] (fun (r : Int32) (u : Unit) => r = toldM (iv 29) w (iv 14) (iv 15)) (fun u => [(h0, .inr (8, moL ma iv co))]) 0 0 := by
  refine met_start (by decide) (Nat.le_of_ble_eq_true rfl) ?_
  intro p e s m below meth c C K hA hsz S ls hl
  generalize va_A [(h0, .inr (8, moL ma iv co))] sz = A at hA S ⊢
  have hx := C.1
  have hb := C.2.1
  have hl : lv_has ls 2 [(0, .ref h0), (1, .int w)] := hl
  refine lv_aload_n hx hb d_Mo_told_0 rfl (lv_at hl 0 rfl) ?_
  refine r_get C K S 0 rfl rfl clOk_Mo 60 (by decide) wf_Mo_386 (v := .int (iv 29)) rfl d_Mo_told_1 ?_
  refine lv_if_eq (tgt := 16) hx hb d_Mo_told_4 (by decide) (fun hc1 => ?_) (fun hc1 => ?_)
  · refine lv_bipush (v := (-2)) hx hb d_Mo_told_16 (by decide) ?_
    refine lv_goto (tgt := 36) hx hb d_Mo_told_18 (by decide) ?_
    exact r_iret C K rfl () (by simp [toldM, hc1]) (S.sub [0] (by decide) rfl) d_Mo_told_36 (Nat.le_of_ble_eq_true rfl) (Nat.le_of_ble_eq_true rfl)
  · refine lv_iload_n hx hb d_Mo_told_7 rfl (lv_at hl 1 rfl) ?_
    refine lv_if_lt (tgt := 16) hx hb d_Mo_told_8 (by decide) (fun hc2 => ?_) (fun hc2 => ?_)
    · refine lv_bipush (v := (-2)) hx hb d_Mo_told_16 (by decide) ?_
      refine lv_goto (tgt := 36) hx hb d_Mo_told_18 (by decide) ?_
      exact r_iret C K rfl () (by simp [toldM, hc1, hc2]) (S.sub [0] (by decide) rfl) d_Mo_told_36 (Nat.le_of_ble_eq_true rfl) (Nat.le_of_ble_eq_true rfl)
    · refine lv_iload_n hx hb d_Mo_told_11 rfl (lv_at hl 1 rfl) ?_
      refine lv_iconst (v := 1) hx hb d_Mo_told_12 (by decide) ?_
      refine lv_icmp_le (tgt := 21) hx hb d_Mo_told_13 (by decide) (fun hc3 => ?_) (fun hc3 => ?_)
      · refine lv_iload_n hx hb d_Mo_told_21 rfl (lv_at hl 1 rfl) ?_
        refine lv_if_ne (tgt := 32) hx hb d_Mo_told_22 (by decide) (fun hc4 => ?_) (fun hc4 => ?_)
        · refine lv_aload_n hx hb d_Mo_told_32 rfl (lv_at hl 0 rfl) ?_
          refine r_get C K S 0 rfl rfl clOk_Mo 30 (by decide) wf_Mo_198 (v := .int (iv 15)) rfl d_Mo_told_33 ?_
          exact r_iret C K rfl () (by simp [toldM, hc1, hc2, hc3, hc4]) (S.sub [0] (by decide) rfl) d_Mo_told_36 (Nat.le_of_ble_eq_true rfl) (Nat.le_of_ble_eq_true rfl)
        · refine lv_aload_n hx hb d_Mo_told_25 rfl (lv_at hl 0 rfl) ?_
          refine r_get C K S 0 rfl rfl clOk_Mo 29 (by decide) wf_Mo_192 (v := .int (iv 14)) rfl d_Mo_told_26 ?_
          refine lv_goto (tgt := 36) hx hb d_Mo_told_29 (by decide) ?_
          exact r_iret C K rfl () (by simp [toldM, hc1, hc2, hc3, hc4]) (S.sub [0] (by decide) rfl) d_Mo_told_36 (Nat.le_of_ble_eq_true rfl) (Nat.le_of_ble_eq_true rfl)
      · refine lv_bipush (v := (-2)) hx hb d_Mo_told_16 (by decide) ?_
        refine lv_goto (tgt := 36) hx hb d_Mo_told_18 (by decide) ?_
        exact r_iret C K rfl () (by simp [toldM, hc1, hc2, hc3]) (S.sub [0] (by decide) rfl) d_Mo_told_36 (Nat.le_of_ble_eq_true rfl) (Nat.le_of_ble_eq_true rfl)
end
section
/-- an array of small numbers is written -/
theorem upd_nI (g : Nat → Nat) {j : Nat} (hj : j < 2 ^ 31) (v : Nat) : upd (fun i => nI (g i)) (nI j).toNatClampNeg (nI v) = fun i => nI (va_up g j v i) := by
  rw [nI_clamp hj]
  funext i
  by_cases q : i = j
  · rw [q, pk_us, va_up_self]
  · rw [pk_un q, va_up_ne g v q]
theorem upd_W (g : Nat → Int32) {j : Nat} (hj : j < 2 ^ 31) (v : Int32) : upd g (nI j).toNatClampNeg v = va_up g j v := by
  rw [nI_clamp hj]
  funext i
  by_cases q : i = j
  · rw [q, pk_us, va_up_self]
  · rw [pk_un q, va_up_ne g v q]
theorem isF_yes {n f : Nat} (h : f < n) (hn : n ≤ 4) : isF (nI n) (nI f) = 1 := by
  unfold isF
  rw [if_neg (nI_pos (by omega)), if_neg (nI_ge h (by omega))]
theorem d_Mo_function_0 : decode c_Mo_function 0 = .ok (.iload_n 1, 1) := by decide +kernel
theorem d_Mo_function_1 : decode c_Mo_function 1 = .ok (.ifCond .lt 8, 3) := by decide +kernel
theorem d_Mo_function_4 : decode c_Mo_function 4 = .ok (.iload_n 1, 1) := by decide +kernel
theorem d_Mo_function_5 : decode c_Mo_function 5 = .ok (.iconst 3, 1) := by decide +kernel
theorem d_Mo_function_6 : decode c_Mo_function 6 = .ok (.if_icmp .le 5, 3) := by decide +kernel
theorem d_Mo_function_9 : decode c_Mo_function 9 = .ok (.iconst (-1), 1) := by decide +kernel
theorem d_Mo_function_10 : decode c_Mo_function 10 = .ok (.ireturn, 1) := by decide +kernel
set_option maxRecDepth 100000 in
set_option maxHeartbeats 4000000 in
/-- function(n), n wrong -/
theorem g_Mo_function_bad (l : Launch) (G : va_G) (k : Nat → ClassId) (h0 sz : Nat) (ma : Nat → Nat) (iv : Nat → Int32) (co : Int64) (nf : Nat) (tk ct : Nat → Nat) (wd : Nat → Int32) (n : Int32) (hn : n < 0 ∨ ¬ n ≤ 3) : CI l y_Mo_function c_Mo_function 2 .int { frames := 1, cells := 0, slots := 0, locals := 20 } [.ref h0, .int n] G k sz [(h0, .inr (8, moL ma (va_up iv 0 (nI nf)) co)), ((ma 0), .inl (k 0, 4, .inl (fun i => nI (tk i)))), ((ma 1), .inl (k 0, 800, .inl wd)), ((ma 2), .inl (k 0, 4, .inl (fun i => nI (ct i))))] (fun (r : Int32) (u : Unit) => r = -1) (fun u => [(h0, .inr (8, moL ma (va_up iv 0 (nI nf)) co)), ((ma 0), .inl (k 0, 4, .inl (fun i => nI (tk i)))), ((ma 1), .inl (k 0, 800, .inl wd)), ((ma 2), .inl (k 0, 4, .inl (fun i => nI (ct i))))]) 0 0 := by
  refine met_start (by decide) (Nat.le_of_ble_eq_true rfl) ?_
  intro p e s m below meth c C K hA hsz S ls hl
  generalize va_A [(h0, .inr (8, moL ma (va_up iv 0 (nI nf)) co)), ((ma 0), .inl (k 0, 4, .inl (fun i => nI (tk i)))), ((ma 1), .inl (k 0, 800, .inl wd)), ((ma 2), .inl (k 0, 4, .inl (fun i => nI (ct i))))] sz = A at hA S ⊢
  have hx := C.1
  have hb := C.2.1
  have hl : lv_has ls 2 [(0, .ref h0), (1, .int n)] := hl
  refine lv_iload_n hx hb d_Mo_function_0 rfl (lv_at hl 1 rfl) ?_
  refine lv_if_lt (tgt := 9) hx hb d_Mo_function_1 (by decide) (fun hc1 => ?_) (fun hc1 => ?_)
  · refine lv_iconst (v := (-1)) hx hb d_Mo_function_9 (by decide) ?_
    exact r_iret C K rfl () rfl (S.sub [0, 1, 2, 3] (by decide) rfl) d_Mo_function_10 (Nat.le_of_ble_eq_true rfl) (Nat.le_of_ble_eq_true rfl)
  · refine lv_iload_n hx hb d_Mo_function_4 rfl (lv_at hl 1 rfl) ?_
    refine lv_iconst (v := 3) hx hb d_Mo_function_5 (by decide) ?_
    refine lv_icmp_le (tgt := 11) hx hb d_Mo_function_6 (by decide) (fun hq => absurd hq (hn.resolve_left hc1)) (fun _ => ?_)
    refine lv_iconst (v := (-1)) hx hb d_Mo_function_9 (by decide) ?_
    exact r_iret C K rfl () rfl (S.sub [0, 1, 2, 3] (by decide) rfl) d_Mo_function_10 (Nat.le_of_ble_eq_true rfl) (Nat.le_of_ble_eq_true rfl)
theorem d_Mo_function_11 : decode c_Mo_function 11 = .ok (.aload_n 0, 1) := by decide +kernel
theorem d_Mo_function_12 : decode c_Mo_function 12 = .ok (.getfield 111, 3) := by decide +kernel
theorem d_Mo_function_15 : decode c_Mo_function 15 = .ok (.iconst 4, 1) := by decide +kernel
theorem d_Mo_function_16 : decode c_Mo_function 16 = .ok (.if_icmp .ne 6, 3) := by decide +kernel
theorem d_Mo_function_19 : decode c_Mo_function 19 = .ok (.bipush (-3), 2) := by decide +kernel
theorem d_Mo_function_21 : decode c_Mo_function 21 = .ok (.ireturn, 1) := by decide +kernel
set_option maxRecDepth 100000 in
set_option maxHeartbeats 4000000 in
/-- function(q), full -/
theorem g_Mo_function_full (l : Launch) (G : va_G) (k : Nat → ClassId) (h0 sz : Nat) (ma : Nat → Nat) (iv : Nat → Int32) (co : Int64) (nf : Nat) (tk ct : Nat → Nat) (wd : Nat → Int32) (q : Nat) (h3 : q ≤ 3) (hf : nf = 4) : CI l y_Mo_function c_Mo_function 2 .int { frames := 1, cells := 0, slots := 0, locals := 20 } [.ref h0, .int (nI q)] G k sz [(h0, .inr (8, moL ma (va_up iv 0 (nI nf)) co)), ((ma 0), .inl (k 0, 4, .inl (fun i => nI (tk i)))), ((ma 1), .inl (k 0, 800, .inl wd)), ((ma 2), .inl (k 0, 4, .inl (fun i => nI (ct i))))] (fun (r : Int32) (u : Unit) => r = -3) (fun u => [(h0, .inr (8, moL ma (va_up iv 0 (nI nf)) co)), ((ma 0), .inl (k 0, 4, .inl (fun i => nI (tk i)))), ((ma 1), .inl (k 0, 800, .inl wd)), ((ma 2), .inl (k 0, 4, .inl (fun i => nI (ct i))))]) 0 0 := by
  refine met_start (by decide) (Nat.le_of_ble_eq_true rfl) ?_
  intro p e s m below meth c C K hA hsz S ls hl
  generalize va_A [(h0, .inr (8, moL ma (va_up iv 0 (nI nf)) co)), ((ma 0), .inl (k 0, 4, .inl (fun i => nI (tk i)))), ((ma 1), .inl (k 0, 800, .inl wd)), ((ma 2), .inl (k 0, 4, .inl (fun i => nI (ct i))))] sz = A at hA S ⊢
  have hx := C.1
  have hb := C.2.1
  have hl : lv_has ls 2 [(0, .ref h0), (1, .int (nI q))] := hl
  refine lv_iload_n hx hb d_Mo_function_0 rfl (lv_at hl 1 rfl) ?_
  refine lv_if_lt (tgt := 9) hx hb d_Mo_function_1 (by decide) (fun hq => absurd hq (nI_pos (by omega))) (fun _ => ?_)
  refine lv_iload_n hx hb d_Mo_function_4 rfl (lv_at hl 1 rfl) ?_
  refine lv_iconst (v := 3) hx hb d_Mo_function_5 (by decide) ?_
  refine lv_icmp_le (tgt := 11) hx hb d_Mo_function_6 (by decide) (fun _ => ?_) (fun hq => absurd (show nI q ≤ nI 3 from nI_le h3 (by omega)) hq)
  refine lv_aload_n hx hb d_Mo_function_11 rfl (lv_at hl 0 rfl) ?_
  refine r_get C K S 0 rfl rfl clOk_Mo 0 (by decide) wf_Mo_111 (v := .int (nI nf)) rfl d_Mo_function_12 ?_
  refine lv_iconst (v := 4) hx hb d_Mo_function_15 (by decide) ?_
  refine lv_icmp_ne (tgt := 22) hx hb d_Mo_function_16 (by decide) (fun hq => absurd (by rw [hf]; rfl) hq) (fun _ => ?_)
  refine lv_bipush (v := (-3)) hx hb d_Mo_function_19 (by decide) ?_
  exact r_iret C K rfl () rfl (S.sub [0, 1, 2, 3] (by decide) rfl) d_Mo_function_21 (Nat.le_of_ble_eq_true rfl) (Nat.le_of_ble_eq_true rfl)
theorem d_Mo_function_22 : decode c_Mo_function 22 = .ok (.aload_n 0, 1) := by decide +kernel
theorem d_Mo_function_23 : decode c_Mo_function 23 = .ok (.getfield 9, 3) := by decide +kernel
theorem d_Mo_function_26 : decode c_Mo_function 26 = .ok (.aload_n 0, 1) := by decide +kernel
theorem d_Mo_function_27 : decode c_Mo_function 27 = .ok (.getfield 111, 3) := by decide +kernel
theorem d_Mo_function_30 : decode c_Mo_function 30 = .ok (.iload_n 1, 1) := by decide +kernel
theorem d_Mo_function_31 : decode c_Mo_function 31 = .ok (.iastore, 1) := by decide +kernel
theorem d_Mo_function_32 : decode c_Mo_function 32 = .ok (.aload_n 0, 1) := by decide +kernel
theorem d_Mo_function_33 : decode c_Mo_function 33 = .ok (.getfield 16, 3) := by decide +kernel
theorem d_Mo_function_36 : decode c_Mo_function 36 = .ok (.aload_n 0, 1) := by decide +kernel
theorem d_Mo_function_37 : decode c_Mo_function 37 = .ok (.getfield 111, 3) := by decide +kernel
theorem d_Mo_function_40 : decode c_Mo_function 40 = .ok (.iconst 0, 1) := by decide +kernel
theorem d_Mo_function_41 : decode c_Mo_function 41 = .ok (.iastore, 1) := by decide +kernel
theorem d_Mo_function_42 : decode c_Mo_function 42 = .ok (.aload_n 0, 1) := by decide +kernel
theorem d_Mo_function_43 : decode c_Mo_function 43 = .ok (.dup, 1) := by decide +kernel
theorem d_Mo_function_44 : decode c_Mo_function 44 = .ok (.getfield 111, 3) := by decide +kernel
theorem d_Mo_function_47 : decode c_Mo_function 47 = .ok (.iconst 1, 1) := by decide +kernel
theorem d_Mo_function_48 : decode c_Mo_function 48 = .ok (.iadd, 1) := by decide +kernel
theorem d_Mo_function_49 : decode c_Mo_function 49 = .ok (.putfield 111, 3) := by decide +kernel
theorem d_Mo_function_52 : decode c_Mo_function 52 = .ok (.aload_n 0, 1) := by decide +kernel
theorem d_Mo_function_53 : decode c_Mo_function 53 = .ok (.getfield 111, 3) := by decide +kernel
theorem d_Mo_function_56 : decode c_Mo_function 56 = .ok (.iconst 1, 1) := by decide +kernel
theorem d_Mo_function_57 : decode c_Mo_function 57 = .ok (.isub, 1) := by decide +kernel
theorem d_Mo_function_58 : decode c_Mo_function 58 = .ok (.ireturn, 1) := by decide +kernel
set_option maxRecDepth 100000 in
set_option maxHeartbeats 4000000 in
/-- function(q): one more -/
theorem g_Mo_function_ok (l : Launch) (G : va_G) (k : Nat → ClassId) (h0 sz : Nat) (ma : Nat → Nat) (iv : Nat → Int32) (co : Int64) (nf : Nat) (tk ct : Nat → Nat) (wd : Nat → Int32) (q : Nat) (h3 : q ≤ 3) (hf : nf < 4) : CI l y_Mo_function c_Mo_function 2 .int { frames := 1, cells := 0, slots := 0, locals := 20 } [.ref h0, .int (nI q)] G k sz [(h0, .inr (8, moL ma (va_up iv 0 (nI nf)) co)), ((ma 0), .inl (k 0, 4, .inl (fun i => nI (tk i)))), ((ma 1), .inl (k 0, 800, .inl wd)), ((ma 2), .inl (k 0, 4, .inl (fun i => nI (ct i))))] (fun (r : Int32) (u : Unit) => r = nI nf) (fun u => [(h0, .inr (8, moL ma (va_up iv 0 (nI (nf + 1))) co)), ((ma 0), .inl (k 0, 4, .inl (fun i => nI ((va_up tk nf q) i)))), ((ma 1), .inl (k 0, 800, .inl wd)), ((ma 2), .inl (k 0, 4, .inl (fun i => nI ((va_up ct nf 0) i))))]) 0 0 := by
  refine met_start (by decide) (Nat.le_of_ble_eq_true rfl) ?_
  intro p e s m below meth c C K hA hsz S ls hl
  generalize va_A [(h0, .inr (8, moL ma (va_up iv 0 (nI nf)) co)), ((ma 0), .inl (k 0, 4, .inl (fun i => nI (tk i)))), ((ma 1), .inl (k 0, 800, .inl wd)), ((ma 2), .inl (k 0, 4, .inl (fun i => nI (ct i))))] sz = A at hA S ⊢
  have hx := C.1
  have hb := C.2.1
  have hl : lv_has ls 2 [(0, .ref h0), (1, .int (nI q))] := hl
  refine lv_iload_n hx hb d_Mo_function_0 rfl (lv_at hl 1 rfl) ?_
  refine lv_if_lt (tgt := 9) hx hb d_Mo_function_1 (by decide) (fun hq => absurd hq (nI_pos (by omega))) (fun _ => ?_)
  refine lv_iload_n hx hb d_Mo_function_4 rfl (lv_at hl 1 rfl) ?_
  refine lv_iconst (v := 3) hx hb d_Mo_function_5 (by decide) ?_
  refine lv_icmp_le (tgt := 11) hx hb d_Mo_function_6 (by decide) (fun _ => ?_) (fun hq => absurd (show nI q ≤ nI 3 from nI_le h3 (by omega)) hq)
  refine lv_aload_n hx hb d_Mo_function_11 rfl (lv_at hl 0 rfl) ?_
  refine r_get C K S 0 rfl rfl clOk_Mo 0 (by decide) wf_Mo_111 (v := .int (nI nf)) rfl d_Mo_function_12 ?_
  refine lv_iconst (v := 4) hx hb d_Mo_function_15 (by decide) ?_
  refine lv_icmp_ne (tgt := 22) hx hb d_Mo_function_16 (by decide) (fun _ => ?_) (fun hq => absurd hq (fun e9 => by have := (nI_eq (a := nf) (b := 4) (by omega) (by omega)).mp e9; omega))
  refine lv_aload_n hx hb d_Mo_function_22 rfl (lv_at hl 0 rfl) ?_
  refine r_get C K S 0 rfl rfl clOk_Mo 1 (by decide) wf_Mo_9 (v := .ref (ma 0)) rfl d_Mo_function_23 ?_
  refine lv_aload_n hx hb d_Mo_function_26 rfl (lv_at hl 0 rfl) ?_
  refine r_get C K S 0 rfl rfl clOk_Mo 0 (by decide) wf_Mo_111 (v := .int (nI nf)) rfl d_Mo_function_27 ?_
  refine lv_iload_n hx hb d_Mo_function_30 rfl (lv_at hl 1 rfl) ?_
  refine r_iast C K S 1 rfl (i := nI nf) (x := (nI q)) (vp_in_nI hf (by decide)) (f' := fun i => nI (va_up tk nf q i)) (ws' := [(h0, .inr (8, moL ma (va_up iv 0 (nI nf)) co)), ((ma 0), .inl (k 0, 4, .inl (fun i => nI (va_up tk nf q i)))), ((ma 1), .inl (k 0, 800, .inl wd)), ((ma 2), .inl (k 0, 4, .inl (fun i => nI (ct i))))]) (upd_nI tk (by omega) q) rfl d_Mo_function_31 (fun H locs S => ?_)
  refine lv_aload_n hx hb d_Mo_function_32 rfl (lv_at hl 0 rfl) ?_
  refine r_get C K S 0 rfl rfl clOk_Mo 3 (by decide) wf_Mo_16 (v := .ref (ma 2)) rfl d_Mo_function_33 ?_
  refine lv_aload_n hx hb d_Mo_function_36 rfl (lv_at hl 0 rfl) ?_
  refine r_get C K S 0 rfl rfl clOk_Mo 0 (by decide) wf_Mo_111 (v := .int (nI nf)) rfl d_Mo_function_37 ?_
  refine lv_iconst (v := 0) hx hb d_Mo_function_40 (by decide) ?_
  refine r_iast C K S 3 rfl (i := nI nf) (x := 0) (vp_in_nI hf (by decide)) (f' := fun i => nI (va_up ct nf 0 i)) (ws' := [(h0, .inr (8, moL ma (va_up iv 0 (nI nf)) co)), ((ma 0), .inl (k 0, 4, .inl (fun i => nI (va_up tk nf q i)))), ((ma 1), .inl (k 0, 800, .inl wd)), ((ma 2), .inl (k 0, 4, .inl (fun i => nI (va_up ct nf 0 i))))]) (upd_nI ct (by omega) 0) rfl d_Mo_function_41 (fun H locs S => ?_)
  refine lv_aload_n hx hb d_Mo_function_42 rfl (lv_at hl 0 rfl) ?_
  refine lv_dup hx hb d_Mo_function_43 rfl ?_
  refine r_get C K S 0 rfl rfl clOk_Mo 0 (by decide) wf_Mo_111 (v := .int (nI nf)) rfl d_Mo_function_44 ?_
  refine lv_iconst (v := 1) hx hb d_Mo_function_47 (by decide) ?_
  refine lv_iadd hx hb d_Mo_function_48 ?_
  rw [nI_1]
  refine r_put C K S 0 rfl rfl clOk_Mo 0 (by decide) wf_Mo_111 rfl (ty := .int) (v := .int (nI (nf + 1))) (by decide +kernel) rfl rfl (Nat.le_of_ble_eq_true rfl) (fs' := moL ma (va_up iv 0 (nI (nf + 1))) co) (ws' := [(h0, .inr (8, moL ma (va_up iv 0 (nI (nf + 1))) co)), ((ma 0), .inl (k 0, 4, .inl (fun i => nI (va_up tk nf q i)))), ((ma 1), .inl (k 0, 800, .inl wd)), ((ma 2), .inl (k 0, 4, .inl (fun i => nI (va_up ct nf 0 i))))]) rfl rfl d_Mo_function_49 (fun H locs S => ?_)
  refine lv_aload_n hx hb d_Mo_function_52 rfl (lv_at hl 0 rfl) ?_
  refine r_get C K S 0 rfl rfl clOk_Mo 0 (by decide) wf_Mo_111 (v := .int (nI (nf + 1))) rfl d_Mo_function_53 ?_
  refine lv_iconst (v := 1) hx hb d_Mo_function_56 (by decide) ?_
  refine lv_isub hx hb d_Mo_function_57 ?_
  rw [nI_pred]
  exact r_iret C K rfl () rfl (S.sub [0, 1, 2, 3] (by decide) rfl) d_Mo_function_58 (Nat.le_of_ble_eq_true rfl) (Nat.le_of_ble_eq_true rfl)
theorem d_Mo_word_0 : decode c_Mo_word 0 = .ok (.aload_n 0, 1) := by decide +kernel
theorem d_Mo_word_1 : decode c_Mo_word 1 = .ok (.iload_n 1, 1) := by decide +kernel
theorem d_Mo_word_2 : decode c_Mo_word 2 = .ok (.invokevirtual 114, 3) := by decide +kernel
theorem d_Mo_word_5 : decode c_Mo_word 5 = .ok (.ifCond .ne 5, 3) := by decide +kernel
theorem d_Mo_word_8 : decode c_Mo_word 8 = .ok (.iconst (-1), 1) := by decide +kernel
theorem d_Mo_word_9 : decode c_Mo_word 9 = .ok (.ireturn, 1) := by decide +kernel
set_option maxRecDepth 100000 in
set_option maxHeartbeats 4000000 in
/-- word, no such function -/
theorem g_Mo_word_bad (l : Launch) (G : va_G) (k : Nat → ClassId) (h0 sz : Nat) (ma : Nat → Nat) (iv : Nat → Int32) (co : Int64) (nf : Nat) (tk ct : Nat → Nat) (wd : Nat → Int32) (f v : Int32) (hf : isF (nI nf) f = 0) : CI l y_Mo_word c_Mo_word 3 .int { frames := 2, cells := 0, slots := 0, locals := 41 } [.ref h0, .int f, .int v] G k sz [(h0, .inr (8, moL ma (va_up iv 0 (nI nf)) co)), ((ma 0), .inl (k 0, 4, .inl (fun i => nI (tk i)))), ((ma 1), .inl (k 0, 800, .inl wd)), ((ma 2), .inl (k 0, 4, .inl (fun i => nI (ct i))))] (fun (r : Int32) (u : Unit) => r = -1) (fun u => [(h0, .inr (8, moL ma (va_up iv 0 (nI nf)) co)), ((ma 0), .inl (k 0, 4, .inl (fun i => nI (tk i)))), ((ma 1), .inl (k 0, 800, .inl wd)), ((ma 2), .inl (k 0, 4, .inl (fun i => nI (ct i))))]) 0 0 := by
  refine met_start (by decide) (Nat.le_of_ble_eq_true rfl) ?_
  intro p e s m below meth c C K hA hsz S ls hl
  generalize va_A [(h0, .inr (8, moL ma (va_up iv 0 (nI nf)) co)), ((ma 0), .inl (k 0, 4, .inl (fun i => nI (tk i)))), ((ma 1), .inl (k 0, 800, .inl wd)), ((ma 2), .inl (k 0, 4, .inl (fun i => nI (ct i))))] sz = A at hA S ⊢
  have hx := C.1
  have hb := C.2.1
  have hl : lv_has ls 3 [(0, .ref h0), (1, .int f), (2, .int v)] := hl
  refine lv_aload_n hx hb d_Mo_word_0 rfl (lv_at hl 0 rfl) ?_
  refine lv_iload_n hx hb d_Mo_word_1 rfl (lv_at hl 1 rfl) ?_
  refine r_backi (wi := [(h0, .inr (8, moL ma (va_up iv 0 (nI nf)) co))]) (wr := [((ma 0), .inl (k 0, 4, .inl (fun i => nI (tk i)))), ((ma 1), .inl (k 0, 800, .inl wd)), ((ma 2), .inl (k 0, 4, .inl (fun i => nI (ct i))))]) S hA [0] [1, 2, 3] rfl rfl (by decide) (by decide) (va_runV (As := [.int f]) (rest := []) ⟨hx, hb, C.2.2.1, C.2.2.2.1, C.2.2.2.2.1⟩ (g_Mo_isFunction l G k h0 _ ma (va_up iv 0 (nI nf)) co f) (k_virt (n := 1) C wc_Mo_isFunction rfl rfl wz_Mo wm_Mo_114 wn_Mo_isFunction ws_Mo_isFunction (by decide +kernel) ⟨(Nat.le_of_ble_eq_true rfl), (Nat.le_of_ble_eq_true rfl)⟩) (pr_nowV K S [0] (by decide) rfl 0 rfl rfl) rfl rfl hl.1 rfl (lv_room (Nat.le_of_ble_eq_true rfl)) d_Mo_word_2 ⟨(Nat.le_of_ble_eq_true rfl), (Nat.le_of_ble_eq_true rfl)⟩) (fun r3 u1 H locs hw2 S => ?_)
  have S : Sw G A s.heap _ _ [((ma 0), .inl (k 0, 4, .inl (fun i => nI (tk i)))), ((ma 1), .inl (k 0, 800, .inl wd)), ((ma 2), .inl (k 0, 4, .inl (fun i => nI (ct i)))), (h0, .inr (8, moL ma (va_up iv 0 (nI nf)) co))] := S
  have hw2 : r3 = 0 := hw2.trans hf
  subst hw2
  refine lv_if_ne (tgt := 10) hx hb d_Mo_word_5 (by decide) (fun hq => absurd (by decide) hq) (fun _ => ?_)
  refine lv_iconst (v := (-1)) hx hb d_Mo_word_8 (by decide) ?_
  exact r_iret C K rfl () rfl (S.sub [3, 0, 1, 2] (by decide) rfl) d_Mo_word_9 (Nat.le_of_ble_eq_true rfl) (Nat.le_of_ble_eq_true rfl)
theorem d_Mo_word_10 : decode c_Mo_word 10 = .ok (.aload_n 0, 1) := by decide +kernel
theorem d_Mo_word_11 : decode c_Mo_word 11 = .ok (.getfield 16, 3) := by decide +kernel
theorem d_Mo_word_14 : decode c_Mo_word 14 = .ok (.iload_n 1, 1) := by decide +kernel
theorem d_Mo_word_15 : decode c_Mo_word 15 = .ok (.iaload, 1) := by decide +kernel
theorem d_Mo_word_16 : decode c_Mo_word 16 = .ok (.sipush 200, 3) := by decide +kernel
theorem d_Mo_word_19 : decode c_Mo_word 19 = .ok (.if_icmp .ne 6, 3) := by decide +kernel
theorem d_Mo_word_22 : decode c_Mo_word 22 = .ok (.bipush (-3), 2) := by decide +kernel
theorem d_Mo_word_24 : decode c_Mo_word 24 = .ok (.ireturn, 1) := by decide +kernel
set_option maxRecDepth 100000 in
set_option maxHeartbeats 4000000 in
/-- word, full -/
theorem g_Mo_word_full (l : Launch) (G : va_G) (k : Nat → ClassId) (h0 sz : Nat) (ma : Nat → Nat) (iv : Nat → Int32) (co : Int64) (nf : Nat) (tk ct : Nat → Nat) (wd : Nat → Int32) (f : Nat) (v : Int32) (hf : f < nf) (hnf : nf ≤ 4) (hc : ct f = 200) : CI l y_Mo_word c_Mo_word 3 .int { frames := 2, cells := 0, slots := 0, locals := 41 } [.ref h0, .int (nI f), .int v] G k sz [(h0, .inr (8, moL ma (va_up iv 0 (nI nf)) co)), ((ma 0), .inl (k 0, 4, .inl (fun i => nI (tk i)))), ((ma 1), .inl (k 0, 800, .inl wd)), ((ma 2), .inl (k 0, 4, .inl (fun i => nI (ct i))))] (fun (r : Int32) (u : Unit) => r = -3) (fun u => [(h0, .inr (8, moL ma (va_up iv 0 (nI nf)) co)), ((ma 0), .inl (k 0, 4, .inl (fun i => nI (tk i)))), ((ma 1), .inl (k 0, 800, .inl wd)), ((ma 2), .inl (k 0, 4, .inl (fun i => nI (ct i))))]) 0 0 := by
  refine met_start (by decide) (Nat.le_of_ble_eq_true rfl) ?_
  intro p e s m below meth c C K hA hsz S ls hl
  generalize va_A [(h0, .inr (8, moL ma (va_up iv 0 (nI nf)) co)), ((ma 0), .inl (k 0, 4, .inl (fun i => nI (tk i)))), ((ma 1), .inl (k 0, 800, .inl wd)), ((ma 2), .inl (k 0, 4, .inl (fun i => nI (ct i))))] sz = A at hA S ⊢
  have hx := C.1
  have hb := C.2.1
  have hl : lv_has ls 3 [(0, .ref h0), (1, .int (nI f)), (2, .int v)] := hl
  refine lv_aload_n hx hb d_Mo_word_0 rfl (lv_at hl 0 rfl) ?_
  refine lv_iload_n hx hb d_Mo_word_1 rfl (lv_at hl 1 rfl) ?_
  refine r_backi (wi := [(h0, .inr (8, moL ma (va_up iv 0 (nI nf)) co))]) (wr := [((ma 0), .inl (k 0, 4, .inl (fun i => nI (tk i)))), ((ma 1), .inl (k 0, 800, .inl wd)), ((ma 2), .inl (k 0, 4, .inl (fun i => nI (ct i))))]) S hA [0] [1, 2, 3] rfl rfl (by decide) (by decide) (va_runV (As := [.int (nI f)]) (rest := []) ⟨hx, hb, C.2.2.1, C.2.2.2.1, C.2.2.2.2.1⟩ (g_Mo_isFunction l G k h0 _ ma (va_up iv 0 (nI nf)) co (nI f)) (k_virt (n := 1) C wc_Mo_isFunction rfl rfl wz_Mo wm_Mo_114 wn_Mo_isFunction ws_Mo_isFunction (by decide +kernel) ⟨(Nat.le_of_ble_eq_true rfl), (Nat.le_of_ble_eq_true rfl)⟩) (pr_nowV K S [0] (by decide) rfl 0 rfl rfl) rfl rfl hl.1 rfl (lv_room (Nat.le_of_ble_eq_true rfl)) d_Mo_word_2 ⟨(Nat.le_of_ble_eq_true rfl), (Nat.le_of_ble_eq_true rfl)⟩) (fun r3 u1 H locs hw2 S => ?_)
  have S : Sw G A s.heap _ _ [((ma 0), .inl (k 0, 4, .inl (fun i => nI (tk i)))), ((ma 1), .inl (k 0, 800, .inl wd)), ((ma 2), .inl (k 0, 4, .inl (fun i => nI (ct i)))), (h0, .inr (8, moL ma (va_up iv 0 (nI nf)) co))] := S
  have hw2 : r3 = 1 := hw2.trans (isF_yes hf hnf)
  subst hw2
  refine lv_if_ne (tgt := 10) hx hb d_Mo_word_5 (by decide) (fun _ => ?_) (fun hq => absurd hq (by decide))
  refine lv_aload_n hx hb d_Mo_word_10 rfl (lv_at hl 0 rfl) ?_
  refine r_get C K S 3 rfl rfl clOk_Mo 3 (by decide) wf_Mo_16 (v := .ref (ma 2)) rfl d_Mo_word_11 ?_
  refine lv_iload_n hx hb d_Mo_word_14 rfl (lv_at hl 1 rfl) ?_
  refine r_iald C K S 2 rfl (i := (nI f)) (vp_in_nI (by omega) (by decide)) (v := (nI (ct f))) (by rw [nI_clamp (by omega)]) d_Mo_word_15 ?_
  refine lv_sipush (v := 200) hx hb d_Mo_word_16 (by decide) ?_
  refine lv_icmp_ne (tgt := 25) hx hb d_Mo_word_19 (by decide) (fun hq => absurd (by rw [hc]; rfl) hq) (fun _ => ?_)
  refine lv_bipush (v := (-3)) hx hb d_Mo_word_22 (by decide) ?_
  exact r_iret C K rfl () rfl (S.sub [3, 0, 1, 2] (by decide) rfl) d_Mo_word_24 (Nat.le_of_ble_eq_true rfl) (Nat.le_of_ble_eq_true rfl)
theorem d_Mo_word_25 : decode c_Mo_word 25 = .ok (.aload_n 0, 1) := by decide +kernel
theorem d_Mo_word_26 : decode c_Mo_word 26 = .ok (.getfield 13, 3) := by decide +kernel
theorem d_Mo_word_29 : decode c_Mo_word 29 = .ok (.sipush 200, 3) := by decide +kernel
theorem d_Mo_word_32 : decode c_Mo_word 32 = .ok (.iload_n 1, 1) := by decide +kernel
theorem d_Mo_word_33 : decode c_Mo_word 33 = .ok (.imul, 1) := by decide +kernel
theorem d_Mo_word_34 : decode c_Mo_word 34 = .ok (.aload_n 0, 1) := by decide +kernel
theorem d_Mo_word_35 : decode c_Mo_word 35 = .ok (.getfield 16, 3) := by decide +kernel
theorem d_Mo_word_38 : decode c_Mo_word 38 = .ok (.iload_n 1, 1) := by decide +kernel
theorem d_Mo_word_39 : decode c_Mo_word 39 = .ok (.iaload, 1) := by decide +kernel
theorem d_Mo_word_40 : decode c_Mo_word 40 = .ok (.iadd, 1) := by decide +kernel
theorem d_Mo_word_41 : decode c_Mo_word 41 = .ok (.iload_n 2, 1) := by decide +kernel
theorem d_Mo_word_42 : decode c_Mo_word 42 = .ok (.iastore, 1) := by decide +kernel
theorem d_Mo_word_43 : decode c_Mo_word 43 = .ok (.aload_n 0, 1) := by decide +kernel
theorem d_Mo_word_44 : decode c_Mo_word 44 = .ok (.getfield 16, 3) := by decide +kernel
theorem d_Mo_word_47 : decode c_Mo_word 47 = .ok (.iload_n 1, 1) := by decide +kernel
theorem d_Mo_word_48 : decode c_Mo_word 48 = .ok (.dup2, 1) := by decide +kernel
theorem d_Mo_word_49 : decode c_Mo_word 49 = .ok (.iaload, 1) := by decide +kernel
theorem d_Mo_word_50 : decode c_Mo_word 50 = .ok (.iconst 1, 1) := by decide +kernel
theorem d_Mo_word_51 : decode c_Mo_word 51 = .ok (.iadd, 1) := by decide +kernel
theorem d_Mo_word_52 : decode c_Mo_word 52 = .ok (.iastore, 1) := by decide +kernel
theorem d_Mo_word_53 : decode c_Mo_word 53 = .ok (.aload_n 0, 1) := by decide +kernel
theorem d_Mo_word_54 : decode c_Mo_word 54 = .ok (.getfield 16, 3) := by decide +kernel
theorem d_Mo_word_57 : decode c_Mo_word 57 = .ok (.iload_n 1, 1) := by decide +kernel
theorem d_Mo_word_58 : decode c_Mo_word 58 = .ok (.iaload, 1) := by decide +kernel
theorem d_Mo_word_59 : decode c_Mo_word 59 = .ok (.ireturn, 1) := by decide +kernel
set_option maxRecDepth 100000 in
set_option maxHeartbeats 4000000 in
/-- word: one more -/
theorem g_Mo_word_ok (l : Launch) (G : va_G) (k : Nat → ClassId) (h0 sz : Nat) (ma : Nat → Nat) (iv : Nat → Int32) (co : Int64) (nf : Nat) (tk ct : Nat → Nat) (wd : Nat → Int32) (f : Nat) (v : Int32) (hf : f < nf) (hnf : nf ≤ 4) (hc : ct f < 200) : CI l y_Mo_word c_Mo_word 3 .int { frames := 2, cells := 0, slots := 0, locals := 41 } [.ref h0, .int (nI f), .int v] G k sz [(h0, .inr (8, moL ma (va_up iv 0 (nI nf)) co)), ((ma 0), .inl (k 0, 4, .inl (fun i => nI (tk i)))), ((ma 1), .inl (k 0, 800, .inl wd)), ((ma 2), .inl (k 0, 4, .inl (fun i => nI (ct i))))] (fun (r : Int32) (u : Unit) => r = nI (ct f + 1)) (fun u => [(h0, .inr (8, moL ma (va_up iv 0 (nI nf)) co)), ((ma 0), .inl (k 0, 4, .inl (fun i => nI (tk i)))), ((ma 1), .inl (k 0, 800, .inl (va_up wd (200 * f + ct f) v))), ((ma 2), .inl (k 0, 4, .inl (fun i => nI ((va_up ct f (ct f + 1)) i))))]) 0 0 := by
  refine met_start (by decide) (Nat.le_of_ble_eq_true rfl) ?_
  intro p e s m below meth c C K hA hsz S ls hl
  generalize va_A [(h0, .inr (8, moL ma (va_up iv 0 (nI nf)) co)), ((ma 0), .inl (k 0, 4, .inl (fun i => nI (tk i)))), ((ma 1), .inl (k 0, 800, .inl wd)), ((ma 2), .inl (k 0, 4, .inl (fun i => nI (ct i))))] sz = A at hA S ⊢
  have hx := C.1
  have hb := C.2.1
  have hl : lv_has ls 3 [(0, .ref h0), (1, .int (nI f)), (2, .int v)] := hl
  refine lv_aload_n hx hb d_Mo_word_0 rfl (lv_at hl 0 rfl) ?_
  refine lv_iload_n hx hb d_Mo_word_1 rfl (lv_at hl 1 rfl) ?_
  refine r_backi (wi := [(h0, .inr (8, moL ma (va_up iv 0 (nI nf)) co))]) (wr := [((ma 0), .inl (k 0, 4, .inl (fun i => nI (tk i)))), ((ma 1), .inl (k 0, 800, .inl wd)), ((ma 2), .inl (k 0, 4, .inl (fun i => nI (ct i))))]) S hA [0] [1, 2, 3] rfl rfl (by decide) (by decide) (va_runV (As := [.int (nI f)]) (rest := []) ⟨hx, hb, C.2.2.1, C.2.2.2.1, C.2.2.2.2.1⟩ (g_Mo_isFunction l G k h0 _ ma (va_up iv 0 (nI nf)) co (nI f)) (k_virt (n := 1) C wc_Mo_isFunction rfl rfl wz_Mo wm_Mo_114 wn_Mo_isFunction ws_Mo_isFunction (by decide +kernel) ⟨(Nat.le_of_ble_eq_true rfl), (Nat.le_of_ble_eq_true rfl)⟩) (pr_nowV K S [0] (by decide) rfl 0 rfl rfl) rfl rfl hl.1 rfl (lv_room (Nat.le_of_ble_eq_true rfl)) d_Mo_word_2 ⟨(Nat.le_of_ble_eq_true rfl), (Nat.le_of_ble_eq_true rfl)⟩) (fun r3 u1 H locs hw2 S => ?_)
  have S : Sw G A s.heap _ _ [((ma 0), .inl (k 0, 4, .inl (fun i => nI (tk i)))), ((ma 1), .inl (k 0, 800, .inl wd)), ((ma 2), .inl (k 0, 4, .inl (fun i => nI (ct i)))), (h0, .inr (8, moL ma (va_up iv 0 (nI nf)) co))] := S
  have hw2 : r3 = 1 := hw2.trans (isF_yes hf hnf)
  subst hw2
  refine lv_if_ne (tgt := 10) hx hb d_Mo_word_5 (by decide) (fun _ => ?_) (fun hq => absurd hq (by decide))
  refine lv_aload_n hx hb d_Mo_word_10 rfl (lv_at hl 0 rfl) ?_
  refine r_get C K S 3 rfl rfl clOk_Mo 3 (by decide) wf_Mo_16 (v := .ref (ma 2)) rfl d_Mo_word_11 ?_
  refine lv_iload_n hx hb d_Mo_word_14 rfl (lv_at hl 1 rfl) ?_
  refine r_iald C K S 2 rfl (i := (nI f)) (vp_in_nI (by omega) (by decide)) (v := (nI (ct f))) (by rw [nI_clamp (by omega)]) d_Mo_word_15 ?_
  refine lv_sipush (v := 200) hx hb d_Mo_word_16 (by decide) ?_
  refine lv_icmp_ne (tgt := 25) hx hb d_Mo_word_19 (by decide) (fun _ => ?_) (fun hq => absurd hq (fun e9 => by have := (nI_eq (a := ct f) (b := 200) (by omega) (by omega)).mp e9; omega))
  refine lv_aload_n hx hb d_Mo_word_25 rfl (lv_at hl 0 rfl) ?_
  refine r_get C K S 3 rfl rfl clOk_Mo 2 (by decide) wf_Mo_13 (v := .ref (ma 1)) rfl d_Mo_word_26 ?_
  refine lv_sipush (v := 200) hx hb d_Mo_word_29 (by decide) ?_
  refine lv_iload_n hx hb d_Mo_word_32 rfl (lv_at hl 1 rfl) ?_
  refine lv_imul hx hb d_Mo_word_33 ?_
  rw [show (200 : Int32) * nI f = nI (200 * f) from pk_mul 200 f]
  refine lv_aload_n hx hb d_Mo_word_34 rfl (lv_at hl 0 rfl) ?_
  refine r_get C K S 3 rfl rfl clOk_Mo 3 (by decide) wf_Mo_16 (v := .ref (ma 2)) rfl d_Mo_word_35 ?_
  refine lv_iload_n hx hb d_Mo_word_38 rfl (lv_at hl 1 rfl) ?_
  refine r_iald C K S 2 rfl (i := (nI f)) (vp_in_nI (by omega) (by decide)) (v := (nI (ct f))) (by rw [nI_clamp (by omega)]) d_Mo_word_39 ?_
  refine lv_iadd hx hb d_Mo_word_40 ?_
  rw [nI_add]
  refine lv_iload_n hx hb d_Mo_word_41 rfl (lv_at hl 2 rfl) ?_
  refine r_iast C K S 1 rfl (i := nI (200 * f + ct f)) (x := v) (vp_in_nI (by omega) (by decide)) (f' := va_up wd (200 * f + ct f) v) (ws' := [((ma 0), .inl (k 0, 4, .inl (fun i => nI (tk i)))), ((ma 1), .inl (k 0, 800, .inl (va_up wd (200 * f + ct f) v))), ((ma 2), .inl (k 0, 4, .inl (fun i => nI (ct i)))), (h0, .inr (8, moL ma (va_up iv 0 (nI nf)) co))]) (upd_W wd (by omega) v) rfl d_Mo_word_42 (fun H locs S => ?_)
  refine lv_aload_n hx hb d_Mo_word_43 rfl (lv_at hl 0 rfl) ?_
  refine r_get C K S 3 rfl rfl clOk_Mo 3 (by decide) wf_Mo_16 (v := .ref (ma 2)) rfl d_Mo_word_44 ?_
  refine lv_iload_n hx hb d_Mo_word_47 rfl (lv_at hl 1 rfl) ?_
  refine lv_dup2_11 hx hb d_Mo_word_48 rfl rfl ?_
  refine r_iald C K S 2 rfl (i := (nI f)) (vp_in_nI (by omega) (by decide)) (v := (nI (ct f))) (by rw [nI_clamp (by omega)]) d_Mo_word_49 ?_
  refine lv_iconst (v := 1) hx hb d_Mo_word_50 (by decide) ?_
  refine lv_iadd hx hb d_Mo_word_51 ?_
  rw [nI_1]
  refine r_iast C K S 2 rfl (i := (nI f)) (x := nI (ct f + 1)) (vp_in_nI (by omega) (by decide)) (f' := fun i => nI (va_up ct f (ct f + 1) i)) (ws' := [((ma 0), .inl (k 0, 4, .inl (fun i => nI (tk i)))), ((ma 1), .inl (k 0, 800, .inl (va_up wd (200 * f + ct f) v))), ((ma 2), .inl (k 0, 4, .inl (fun i => nI (va_up ct f (ct f + 1) i)))), (h0, .inr (8, moL ma (va_up iv 0 (nI nf)) co))]) (upd_nI ct (by omega) (ct f + 1)) rfl d_Mo_word_52 (fun H locs S => ?_)
  refine lv_aload_n hx hb d_Mo_word_53 rfl (lv_at hl 0 rfl) ?_
  refine r_get C K S 3 rfl rfl clOk_Mo 3 (by decide) wf_Mo_16 (v := .ref (ma 2)) rfl d_Mo_word_54 ?_
  refine lv_iload_n hx hb d_Mo_word_57 rfl (lv_at hl 1 rfl) ?_
  refine r_iald C K S 2 rfl (i := (nI f)) (vp_in_nI (by omega) (by decide)) (v := (nI (ct f + 1))) (by rw [nI_clamp (by omega), va_up_self]) d_Mo_word_58 ?_
  exact r_iret C K rfl () rfl (S.sub [3, 0, 1, 2] (by decide) rfl) d_Mo_word_59 (Nat.le_of_ble_eq_true rfl) (Nat.le_of_ble_eq_true rfl)
theorem d_Mo_cut_0 : decode c_Mo_cut 0 = .ok (.aload_n 0, 1) := by decide +kernel
theorem d_Mo_cut_1 : decode c_Mo_cut 1 = .ok (.iload_n 1, 1) := by decide +kernel
theorem d_Mo_cut_2 : decode c_Mo_cut 2 = .ok (.invokevirtual 114, 3) := by decide +kernel
theorem d_Mo_cut_5 : decode c_Mo_cut 5 = .ok (.ifCond .eq 17, 3) := by decide +kernel
theorem d_Mo_cut_22 : decode c_Mo_cut 22 = .ok (.iconst 0, 1) := by decide +kernel
theorem d_Mo_cut_23 : decode c_Mo_cut 23 = .ok (.ireturn, 1) := by decide +kernel
set_option maxRecDepth 100000 in
set_option maxHeartbeats 4000000 in
/-- cut, no such function -/
theorem g_Mo_cut_bad (l : Launch) (G : va_G) (k : Nat → ClassId) (h0 sz : Nat) (ma : Nat → Nat) (iv : Nat → Int32) (co : Int64) (nf : Nat) (tk ct : Nat → Nat) (wd : Nat → Int32) (f n : Int32) (hf : isF (nI nf) f = 0) : CI l y_Mo_cut c_Mo_cut 3 .boolean { frames := 2, cells := 0, slots := 0, locals := 41 } [.ref h0, .int f, .int n] G k sz [(h0, .inr (8, moL ma (va_up iv 0 (nI nf)) co)), ((ma 0), .inl (k 0, 4, .inl (fun i => nI (tk i)))), ((ma 1), .inl (k 0, 800, .inl wd)), ((ma 2), .inl (k 0, 4, .inl (fun i => nI (ct i))))] (fun (r : Int32) (u : Unit) => r = 0) (fun u => [(h0, .inr (8, moL ma (va_up iv 0 (nI nf)) co)), ((ma 0), .inl (k 0, 4, .inl (fun i => nI (tk i)))), ((ma 1), .inl (k 0, 800, .inl wd)), ((ma 2), .inl (k 0, 4, .inl (fun i => nI (ct i))))]) 0 0 := by
  refine met_start (by decide) (Nat.le_of_ble_eq_true rfl) ?_
  intro p e s m below meth c C K hA hsz S ls hl
  generalize va_A [(h0, .inr (8, moL ma (va_up iv 0 (nI nf)) co)), ((ma 0), .inl (k 0, 4, .inl (fun i => nI (tk i)))), ((ma 1), .inl (k 0, 800, .inl wd)), ((ma 2), .inl (k 0, 4, .inl (fun i => nI (ct i))))] sz = A at hA S ⊢
  have hx := C.1
  have hb := C.2.1
  have hl : lv_has ls 3 [(0, .ref h0), (1, .int f), (2, .int n)] := hl
  refine lv_aload_n hx hb d_Mo_cut_0 rfl (lv_at hl 0 rfl) ?_
  refine lv_iload_n hx hb d_Mo_cut_1 rfl (lv_at hl 1 rfl) ?_
  refine r_backi (wi := [(h0, .inr (8, moL ma (va_up iv 0 (nI nf)) co))]) (wr := [((ma 0), .inl (k 0, 4, .inl (fun i => nI (tk i)))), ((ma 1), .inl (k 0, 800, .inl wd)), ((ma 2), .inl (k 0, 4, .inl (fun i => nI (ct i))))]) S hA [0] [1, 2, 3] rfl rfl (by decide) (by decide) (va_runV (As := [.int f]) (rest := []) ⟨hx, hb, C.2.2.1, C.2.2.2.1, C.2.2.2.2.1⟩ (g_Mo_isFunction l G k h0 _ ma (va_up iv 0 (nI nf)) co f) (k_virt (n := 1) C wc_Mo_isFunction rfl rfl wz_Mo wm_Mo_114 wn_Mo_isFunction ws_Mo_isFunction (by decide +kernel) ⟨(Nat.le_of_ble_eq_true rfl), (Nat.le_of_ble_eq_true rfl)⟩) (pr_nowV K S [0] (by decide) rfl 0 rfl rfl) rfl rfl hl.1 rfl (lv_room (Nat.le_of_ble_eq_true rfl)) d_Mo_cut_2 ⟨(Nat.le_of_ble_eq_true rfl), (Nat.le_of_ble_eq_true rfl)⟩) (fun r3 u1 H locs hw2 S => ?_)
  have S : Sw G A s.heap _ _ [((ma 0), .inl (k 0, 4, .inl (fun i => nI (tk i)))), ((ma 1), .inl (k 0, 800, .inl wd)), ((ma 2), .inl (k 0, 4, .inl (fun i => nI (ct i)))), (h0, .inr (8, moL ma (va_up iv 0 (nI nf)) co))] := S
  have hw2 : r3 = 0 := hw2.trans hf
  subst hw2
  refine lv_if_eq (tgt := 22) hx hb d_Mo_cut_5 (by decide) (fun _ => ?_) (fun hq => absurd (by decide) hq)
  refine lv_iconst (v := 0) hx hb d_Mo_cut_22 (by decide) ?_
  exact r_iret C K rfl () rfl (S.sub [3, 0, 1, 2] (by decide) rfl) d_Mo_cut_23 (Nat.le_of_ble_eq_true rfl) (Nat.le_of_ble_eq_true rfl)
theorem d_Mo_cut_8 : decode c_Mo_cut 8 = .ok (.iload_n 2, 1) := by decide +kernel
theorem d_Mo_cut_9 : decode c_Mo_cut 9 = .ok (.ifCond .lt 13, 3) := by decide +kernel
theorem d_Mo_cut_12 : decode c_Mo_cut 12 = .ok (.iload_n 2, 1) := by decide +kernel
theorem d_Mo_cut_13 : decode c_Mo_cut 13 = .ok (.aload_n 0, 1) := by decide +kernel
theorem d_Mo_cut_14 : decode c_Mo_cut 14 = .ok (.getfield 16, 3) := by decide +kernel
theorem d_Mo_cut_17 : decode c_Mo_cut 17 = .ok (.iload_n 1, 1) := by decide +kernel
theorem d_Mo_cut_18 : decode c_Mo_cut 18 = .ok (.iaload, 1) := by decide +kernel
theorem d_Mo_cut_19 : decode c_Mo_cut 19 = .ok (.if_icmp .le 5, 3) := by decide +kernel
set_option maxRecDepth 100000 in
set_option maxHeartbeats 4000000 in
/-- cut, n wrong -/
theorem g_Mo_cut_no (l : Launch) (G : va_G) (k : Nat → ClassId) (h0 sz : Nat) (ma : Nat → Nat) (iv : Nat → Int32) (co : Int64) (nf : Nat) (tk ct : Nat → Nat) (wd : Nat → Int32) (f : Nat) (n : Int32) (hf : f < nf) (hnf : nf ≤ 4) (hn : n < 0 ∨ ¬ n ≤ nI (ct f)) : CI l y_Mo_cut c_Mo_cut 3 .boolean { frames := 2, cells := 0, slots := 0, locals := 41 } [.ref h0, .int (nI f), .int n] G k sz [(h0, .inr (8, moL ma (va_up iv 0 (nI nf)) co)), ((ma 0), .inl (k 0, 4, .inl (fun i => nI (tk i)))), ((ma 1), .inl (k 0, 800, .inl wd)), ((ma 2), .inl (k 0, 4, .inl (fun i => nI (ct i))))] (fun (r : Int32) (u : Unit) => r = 0) (fun u => [(h0, .inr (8, moL ma (va_up iv 0 (nI nf)) co)), ((ma 0), .inl (k 0, 4, .inl (fun i => nI (tk i)))), ((ma 1), .inl (k 0, 800, .inl wd)), ((ma 2), .inl (k 0, 4, .inl (fun i => nI (ct i))))]) 0 0 := by
  refine met_start (by decide) (Nat.le_of_ble_eq_true rfl) ?_
  intro p e s m below meth c C K hA hsz S ls hl
  generalize va_A [(h0, .inr (8, moL ma (va_up iv 0 (nI nf)) co)), ((ma 0), .inl (k 0, 4, .inl (fun i => nI (tk i)))), ((ma 1), .inl (k 0, 800, .inl wd)), ((ma 2), .inl (k 0, 4, .inl (fun i => nI (ct i))))] sz = A at hA S ⊢
  have hx := C.1
  have hb := C.2.1
  have hl : lv_has ls 3 [(0, .ref h0), (1, .int (nI f)), (2, .int n)] := hl
  refine lv_aload_n hx hb d_Mo_cut_0 rfl (lv_at hl 0 rfl) ?_
  refine lv_iload_n hx hb d_Mo_cut_1 rfl (lv_at hl 1 rfl) ?_
  refine r_backi (wi := [(h0, .inr (8, moL ma (va_up iv 0 (nI nf)) co))]) (wr := [((ma 0), .inl (k 0, 4, .inl (fun i => nI (tk i)))), ((ma 1), .inl (k 0, 800, .inl wd)), ((ma 2), .inl (k 0, 4, .inl (fun i => nI (ct i))))]) S hA [0] [1, 2, 3] rfl rfl (by decide) (by decide) (va_runV (As := [.int (nI f)]) (rest := []) ⟨hx, hb, C.2.2.1, C.2.2.2.1, C.2.2.2.2.1⟩ (g_Mo_isFunction l G k h0 _ ma (va_up iv 0 (nI nf)) co (nI f)) (k_virt (n := 1) C wc_Mo_isFunction rfl rfl wz_Mo wm_Mo_114 wn_Mo_isFunction ws_Mo_isFunction (by decide +kernel) ⟨(Nat.le_of_ble_eq_true rfl), (Nat.le_of_ble_eq_true rfl)⟩) (pr_nowV K S [0] (by decide) rfl 0 rfl rfl) rfl rfl hl.1 rfl (lv_room (Nat.le_of_ble_eq_true rfl)) d_Mo_cut_2 ⟨(Nat.le_of_ble_eq_true rfl), (Nat.le_of_ble_eq_true rfl)⟩) (fun r3 u1 H locs hw2 S => ?_)
  have S : Sw G A s.heap _ _ [((ma 0), .inl (k 0, 4, .inl (fun i => nI (tk i)))), ((ma 1), .inl (k 0, 800, .inl wd)), ((ma 2), .inl (k 0, 4, .inl (fun i => nI (ct i)))), (h0, .inr (8, moL ma (va_up iv 0 (nI nf)) co))] := S
  have hw2 : r3 = 1 := hw2.trans (isF_yes hf hnf)
  subst hw2
  refine lv_if_eq (tgt := 22) hx hb d_Mo_cut_5 (by decide) (fun hq => absurd hq (by decide)) (fun _ => ?_)
  refine lv_iload_n hx hb d_Mo_cut_8 rfl (lv_at hl 2 rfl) ?_
  refine lv_if_lt (tgt := 22) hx hb d_Mo_cut_9 (by decide) (fun hc4 => ?_) (fun hc4 => ?_)
  · refine lv_iconst (v := 0) hx hb d_Mo_cut_22 (by decide) ?_
    exact r_iret C K rfl () rfl (S.sub [3, 0, 1, 2] (by decide) rfl) d_Mo_cut_23 (Nat.le_of_ble_eq_true rfl) (Nat.le_of_ble_eq_true rfl)
  · refine lv_iload_n hx hb d_Mo_cut_12 rfl (lv_at hl 2 rfl) ?_
    refine lv_aload_n hx hb d_Mo_cut_13 rfl (lv_at hl 0 rfl) ?_
    refine r_get C K S 3 rfl rfl clOk_Mo 3 (by decide) wf_Mo_16 (v := .ref (ma 2)) rfl d_Mo_cut_14 ?_
    refine lv_iload_n hx hb d_Mo_cut_17 rfl (lv_at hl 1 rfl) ?_
    refine r_iald C K S 2 rfl (i := (nI f)) (vp_in_nI (by omega) (by decide)) (v := (nI (ct f))) (by rw [nI_clamp (by omega)]) d_Mo_cut_18 ?_
    refine lv_icmp_le (tgt := 24) hx hb d_Mo_cut_19 (by decide) (fun hq => absurd hq (hn.resolve_left hc4)) (fun _ => ?_)
    refine lv_iconst (v := 0) hx hb d_Mo_cut_22 (by decide) ?_
    exact r_iret C K rfl () rfl (S.sub [3, 0, 1, 2] (by decide) rfl) d_Mo_cut_23 (Nat.le_of_ble_eq_true rfl) (Nat.le_of_ble_eq_true rfl)
theorem d_Mo_cut_24 : decode c_Mo_cut 24 = .ok (.aload_n 0, 1) := by decide +kernel
theorem d_Mo_cut_25 : decode c_Mo_cut 25 = .ok (.getfield 16, 3) := by decide +kernel
theorem d_Mo_cut_28 : decode c_Mo_cut 28 = .ok (.iload_n 1, 1) := by decide +kernel
theorem d_Mo_cut_29 : decode c_Mo_cut 29 = .ok (.iload_n 2, 1) := by decide +kernel
theorem d_Mo_cut_30 : decode c_Mo_cut 30 = .ok (.iastore, 1) := by decide +kernel
theorem d_Mo_cut_31 : decode c_Mo_cut 31 = .ok (.iconst 1, 1) := by decide +kernel
theorem d_Mo_cut_32 : decode c_Mo_cut 32 = .ok (.ireturn, 1) := by decide +kernel
set_option maxRecDepth 100000 in
set_option maxHeartbeats 4000000 in
/-- cut -/
theorem g_Mo_cut_ok (l : Launch) (G : va_G) (k : Nat → ClassId) (h0 sz : Nat) (ma : Nat → Nat) (iv : Nat → Int32) (co : Int64) (nf : Nat) (tk ct : Nat → Nat) (wd : Nat → Int32) (f n : Nat) (hf : f < nf) (hnf : nf ≤ 4) (hn : n ≤ ct f) (hc : ct f ≤ 200) : CI l y_Mo_cut c_Mo_cut 3 .boolean { frames := 2, cells := 0, slots := 0, locals := 41 } [.ref h0, .int (nI f), .int (nI n)] G k sz [(h0, .inr (8, moL ma (va_up iv 0 (nI nf)) co)), ((ma 0), .inl (k 0, 4, .inl (fun i => nI (tk i)))), ((ma 1), .inl (k 0, 800, .inl wd)), ((ma 2), .inl (k 0, 4, .inl (fun i => nI (ct i))))] (fun (r : Int32) (u : Unit) => r = 1) (fun u => [(h0, .inr (8, moL ma (va_up iv 0 (nI nf)) co)), ((ma 0), .inl (k 0, 4, .inl (fun i => nI (tk i)))), ((ma 1), .inl (k 0, 800, .inl wd)), ((ma 2), .inl (k 0, 4, .inl (fun i => nI ((va_up ct f n) i))))]) 0 0 := by
  refine met_start (by decide) (Nat.le_of_ble_eq_true rfl) ?_
  intro p e s m below meth c C K hA hsz S ls hl
  generalize va_A [(h0, .inr (8, moL ma (va_up iv 0 (nI nf)) co)), ((ma 0), .inl (k 0, 4, .inl (fun i => nI (tk i)))), ((ma 1), .inl (k 0, 800, .inl wd)), ((ma 2), .inl (k 0, 4, .inl (fun i => nI (ct i))))] sz = A at hA S ⊢
  have hx := C.1
  have hb := C.2.1
  have hl : lv_has ls 3 [(0, .ref h0), (1, .int (nI f)), (2, .int (nI n))] := hl
  refine lv_aload_n hx hb d_Mo_cut_0 rfl (lv_at hl 0 rfl) ?_
  refine lv_iload_n hx hb d_Mo_cut_1 rfl (lv_at hl 1 rfl) ?_
  refine r_backi (wi := [(h0, .inr (8, moL ma (va_up iv 0 (nI nf)) co))]) (wr := [((ma 0), .inl (k 0, 4, .inl (fun i => nI (tk i)))), ((ma 1), .inl (k 0, 800, .inl wd)), ((ma 2), .inl (k 0, 4, .inl (fun i => nI (ct i))))]) S hA [0] [1, 2, 3] rfl rfl (by decide) (by decide) (va_runV (As := [.int (nI f)]) (rest := []) ⟨hx, hb, C.2.2.1, C.2.2.2.1, C.2.2.2.2.1⟩ (g_Mo_isFunction l G k h0 _ ma (va_up iv 0 (nI nf)) co (nI f)) (k_virt (n := 1) C wc_Mo_isFunction rfl rfl wz_Mo wm_Mo_114 wn_Mo_isFunction ws_Mo_isFunction (by decide +kernel) ⟨(Nat.le_of_ble_eq_true rfl), (Nat.le_of_ble_eq_true rfl)⟩) (pr_nowV K S [0] (by decide) rfl 0 rfl rfl) rfl rfl hl.1 rfl (lv_room (Nat.le_of_ble_eq_true rfl)) d_Mo_cut_2 ⟨(Nat.le_of_ble_eq_true rfl), (Nat.le_of_ble_eq_true rfl)⟩) (fun r3 u1 H locs hw2 S => ?_)
  have S : Sw G A s.heap _ _ [((ma 0), .inl (k 0, 4, .inl (fun i => nI (tk i)))), ((ma 1), .inl (k 0, 800, .inl wd)), ((ma 2), .inl (k 0, 4, .inl (fun i => nI (ct i)))), (h0, .inr (8, moL ma (va_up iv 0 (nI nf)) co))] := S
  have hw2 : r3 = 1 := hw2.trans (isF_yes hf hnf)
  subst hw2
  refine lv_if_eq (tgt := 22) hx hb d_Mo_cut_5 (by decide) (fun hq => absurd hq (by decide)) (fun _ => ?_)
  refine lv_iload_n hx hb d_Mo_cut_8 rfl (lv_at hl 2 rfl) ?_
  refine lv_if_lt (tgt := 22) hx hb d_Mo_cut_9 (by decide) (fun hq => absurd hq (nI_pos (by omega))) (fun _ => ?_)
  refine lv_iload_n hx hb d_Mo_cut_12 rfl (lv_at hl 2 rfl) ?_
  refine lv_aload_n hx hb d_Mo_cut_13 rfl (lv_at hl 0 rfl) ?_
  refine r_get C K S 3 rfl rfl clOk_Mo 3 (by decide) wf_Mo_16 (v := .ref (ma 2)) rfl d_Mo_cut_14 ?_
  refine lv_iload_n hx hb d_Mo_cut_17 rfl (lv_at hl 1 rfl) ?_
  refine r_iald C K S 2 rfl (i := (nI f)) (vp_in_nI (by omega) (by decide)) (v := (nI (ct f))) (by rw [nI_clamp (by omega)]) d_Mo_cut_18 ?_
  refine lv_icmp_le (tgt := 24) hx hb d_Mo_cut_19 (by decide) (fun _ => ?_) (fun hq => absurd (nI_le hn (by omega)) hq)
  refine lv_aload_n hx hb d_Mo_cut_24 rfl (lv_at hl 0 rfl) ?_
  refine r_get C K S 3 rfl rfl clOk_Mo 3 (by decide) wf_Mo_16 (v := .ref (ma 2)) rfl d_Mo_cut_25 ?_
  refine lv_iload_n hx hb d_Mo_cut_28 rfl (lv_at hl 1 rfl) ?_
  refine lv_iload_n hx hb d_Mo_cut_29 rfl (lv_at hl 2 rfl) ?_
  refine r_iast C K S 2 rfl (i := (nI f)) (x := (nI n)) (vp_in_nI (by omega) (by decide)) (f' := fun i => nI (va_up ct f n i)) (ws' := [((ma 0), .inl (k 0, 4, .inl (fun i => nI (tk i)))), ((ma 1), .inl (k 0, 800, .inl wd)), ((ma 2), .inl (k 0, 4, .inl (fun i => nI (va_up ct f n i)))), (h0, .inr (8, moL ma (va_up iv 0 (nI nf)) co))]) (upd_nI ct (by omega) n) rfl d_Mo_cut_30 (fun H locs S => ?_)
  refine lv_iconst (v := 1) hx hb d_Mo_cut_31 (by decide) ?_
  exact r_iret C K rfl () rfl (S.sub [3, 0, 1, 2] (by decide) rfl) d_Mo_cut_32 (Nat.le_of_ble_eq_true rfl) (Nat.le_of_ble_eq_true rfl)
end
section
/-! rows for arrays of longs and booleans, and for static calls -/
section ROWS3
variable {p : Program} {l : Launch} {e : Env} {R : Room} {s : State} {m : MethodId} {args : Array Value} {below : List Frame} {meth : Method} {c : Code} {H : Heap} {locs : List Loc} {cells slots : Nat} {Q : State → Prop}
variable {cc : ByteArray} {own nm : String} {nL : Nat} {ret : Option FieldType} {G : va_G} {k : Nat → ClassId} {A : Nat → Prop} {ws : va_W} {pc : Nat} {ls : Array Slot} {rest : List Value} {a : Nat}
theorem r_lald (C : Cx p s m args meth c cc own nL ret nm) (K : Kn G k s) (S : Sw G A s.heap H locs ws) (q0 : Nat) {n : Nat} {f : Nat → Int64} (ha : ws[q0]? = some (a, .inl (k 1, n, .inr (.inl f)))) {i : Int32} (hin : vp_in i n) {v : Int64} (hv : f i.toNatClampNeg = v) (hdg : decode cc pc = .ok (.laload, 1))
    (kk : W p l e R s m args below meth c H locs cells slots Q (F0 m (pc + 1) ls (.long v :: rest))) : W p l e R s m args below meth c H locs cells slots Q (F0 m pc ls (.int i :: .ref a :: rest)) :=
  va_lald C.1 C.2.1 K.1 S.1 q0 1 ha rfl hin hdg (by rw [hv]; exact kk)
theorem r_last (C : Cx p s m args meth c cc own nL ret nm) (K : Kn G k s) (S : Sw G A s.heap H locs ws) (q0 : Nat) {n : Nat} {f : Nat → Int64} (ha : ws[q0]? = some (a, .inl (k 1, n, .inr (.inl f)))) {i : Int32} {x : Int64} (hin : vp_in i n) {f' : Nat → Int64} {ws' : va_W} (h1 : vp_updL f i.toNatClampNeg x = f') (h2 : ws.set q0 (a, .inl (k 1, n, .inr (.inl f'))) = ws') (hdg : decode cc pc = .ok (.lastore, 1))
    (kk : ∀ (H1 : Heap) (locs1 : List Loc), Sw G A s.heap H1 locs1 ws' → W p l e R s m args below meth c H1 locs1 cells slots Q (F0 m (pc + 1) ls rest)) : W p l e R s m args below meth c H locs cells slots Q (F0 m pc ls (.long x :: .int i :: .ref a :: rest)) := by
  subst h1; subst h2
  exact va_last C.1 C.2.1 K.1 S.1 S.2.1 S.2.2 q0 1 ha rfl hin hdg (fun H1 l1 a1 a2 a3 => kk H1 l1 ⟨a1, a2, a3⟩)
theorem r_zald (C : Cx p s m args meth c cc own nL ret nm) (K : Kn G k s) (S : Sw G A s.heap H locs ws) (q0 : Nat) {n : Nat} {f : Nat → Int32} (ha : ws[q0]? = some (a, .inl (k 2, n, .inl f))) {i : Int32} (hin : vp_in i n) {v : Int32} (hv : f i.toNatClampNeg = v) (hdg : decode cc pc = .ok (.baload, 1))
    (kk : W p l e R s m args below meth c H locs cells slots Q (F0 m (pc + 1) ls (.int v :: rest))) : W p l e R s m args below meth c H locs cells slots Q (F0 m pc ls (.int i :: .ref a :: rest)) :=
  va_zald C.1 C.2.1 K.1 S.1 q0 2 ha rfl hin hdg (by rw [hv]; exact kk)
theorem k_stat (C : Cx p s m args meth c cc own nL ret nm) {y : MethodName} {bytes : ByteArray} {maxL mc ms n index : Nat} {rm : Room} {rt : Option FieldType} (hw : Cond.code y bytes maxL rt ∈ gt) (hrc : rm.cells = mc) (hrs : rm.slots = ms) (hz : Cond.initialized y.cls ∈ gt) (hl : Cond.methodLink own index y ∈ gt) (ht : Cond.static y ∈ gt) (hd : y.cls ≠ "java/lang/invoke/MethodHandle" ∧ y.cls ≠ "java/lang/invoke/VarHandle" ∧ (parseMethodDescriptor y.desc).map (fun d => d.parameters.length) = some n) (hR : rm.frames + 1 ≤ R.frames ∧ 8 + (maxL + 11) + rm.locals ≤ R.locals) : CallB R s args own index y bytes maxL rt (wy y bytes maxL rt) rm mc ms n ∧ (Cond.static y).before args s = true :=
  ⟨callB_of n C.2.2.2.2.1 (gt_self hw) rfl hrc hrs (C.2.2.2.2.1 _ hz) (C.2.2.2.2.1 _ hl) hd hR, C.2.2.2.2.1 _ ht⟩
end ROWS3
theorem vp_updL_eq (f : Nat → Int64) {j : Nat} (hj : j < 2 ^ 31) (v : Int64) : vp_updL f (nI j).toNatClampNeg v = va_up f j v := by
  rw [nI_clamp hj]
  funext i
  by_cases q : i = j
  · rw [q, pk_uLs, va_up_self]
  · rw [pk_uLn q, va_up_ne f v q]
end
section
/-- a line is cleared up to t -/
def lnC (f : Nat → Int64) (to t : Nat) : Nat → Int64 := fun i => if to ≤ i ∧ i < to + t then 0 else f i
theorem lnC_0 (f : Nat → Int64) (to : Nat) : lnC f to 0 = f := by
  funext i
  unfold lnC
  rw [if_neg (by omega)]
theorem lnC_s (f : Nat → Int64) (to t : Nat) : va_up (lnC f to t) (to + t) 0 = lnC f to (t + 1) := by
  funext i
  unfold va_up lnC
  by_cases q : i = to + t
  · rw [if_pos q, if_pos (by omega)]
  · rw [if_neg q]
    by_cases q2 : to ≤ i ∧ i < to + t
    · rw [if_pos q2, if_pos (by omega)]
    · rw [if_neg q2, if_neg (by omega)]
theorem d_Mo_clear_0 : decode c_Mo_clear 0 = .ok (.iconst 0, 1) := by decide +kernel
theorem d_Mo_clear_1 : decode c_Mo_clear 1 = .ok (.istore_n 2, 1) := by decide +kernel
theorem d_Mo_clear_2 : decode c_Mo_clear 2 = .ok (.iload_n 2, 1) := by decide +kernel
theorem d_Mo_clear_3 : decode c_Mo_clear 3 = .ok (.bipush 41, 2) := by decide +kernel
theorem d_Mo_clear_5 : decode c_Mo_clear 5 = .ok (.if_icmp .ge 18, 3) := by decide +kernel
theorem d_Mo_clear_8 : decode c_Mo_clear 8 = .ok (.aload_n 0, 1) := by decide +kernel
theorem d_Mo_clear_9 : decode c_Mo_clear 9 = .ok (.getfield 57, 3) := by decide +kernel
theorem d_Mo_clear_12 : decode c_Mo_clear 12 = .ok (.iload_n 1, 1) := by decide +kernel
theorem d_Mo_clear_13 : decode c_Mo_clear 13 = .ok (.iload_n 2, 1) := by decide +kernel
theorem d_Mo_clear_14 : decode c_Mo_clear 14 = .ok (.iadd, 1) := by decide +kernel
theorem d_Mo_clear_15 : decode c_Mo_clear 15 = .ok (.lconst 0, 1) := by decide +kernel
theorem d_Mo_clear_16 : decode c_Mo_clear 16 = .ok (.lastore, 1) := by decide +kernel
theorem d_Mo_clear_17 : decode c_Mo_clear 17 = .ok (.iinc 2 1, 3) := by decide +kernel
theorem d_Mo_clear_20 : decode c_Mo_clear 20 = .ok (.goto (-18), 3) := by decide +kernel
theorem d_Mo_clear_23 : decode c_Mo_clear 23 = .ok (.return_, 1) := by decide +kernel
set_option maxRecDepth 100000 in
set_option maxHeartbeats 4000000 in
/-- clear(to) -/
theorem g_Mo_clear (l : Launch) (G : va_G) (k : Nat → ClassId) (h0 sz : Nat) (ma : Nat → Nat) (iv : Nat → Int32) (co : Int64) (f : Nat → Int64) (to : Nat) (hto : to + 41 ≤ 36982) : CV l y_Mo_clear c_Mo_clear 3 { frames := 0, cells := 0, slots := 0, locals := 0 } [.ref h0, .int (nI to)] G k sz [(h0, .inr (8, moL ma iv co)), ((ma 13), .inl (k 1, 36982, .inr (.inl f)))] (fun (u : Unit) => True) (fun u => [(h0, .inr (8, moL ma iv co)), ((ma 13), .inl (k 1, 36982, .inr (.inl (lnC f to 41))))]) 0 0 := by
  refine met_start (by decide) (Nat.le_of_ble_eq_true rfl) ?_
  intro p e s m below meth c C K hA hsz S ls hl
  generalize va_A [(h0, .inr (8, moL ma iv co)), ((ma 13), .inl (k 1, 36982, .inr (.inl f)))] sz = A at hA S ⊢
  have hx := C.1
  have hb := C.2.1
  have hl : lv_has ls 3 [(0, .ref h0), (1, .int (nI to))] := hl
  have loop : ∀ d t, t + d = 41 → ∀ (H : Heap) (locs : List Loc), Sw G A s.heap H locs [(h0, .inr (8, moL ma iv co)), ((ma 13), .inl (k 1, 36982, .inr (.inl (lnC f to t))))] → ∀ ls : Array Slot, lv_has ls 3 [(2, .int (nI t)), (0, .ref h0), (1, .int (nI to))] → W p l e { frames := 0, cells := 0, slots := 0, locals := 0 } s m [Value.ref h0, Value.int (nI to)].toArray below meth c H locs 0 0 (MQ below (va_Qv (fun (u : Unit) => True) (Po G k A (fun u => [(h0, .inr (8, moL ma iv co)), ((ma 13), .inl (k 1, 36982, .inr (.inl (lnC f to 41))))])) A) [Value.ref h0, Value.int (nI to)].toArray s 0 0 A) (F0 m 2 ls []) := by
    intro d
    induction d with
    | zero =>
      intro t ht H locs S ls hl
      obtain rfl : t = 41 := by omega
      refine lv_iload_n hx hb d_Mo_clear_2 rfl (lv_at hl 0 rfl) ?_
      refine lv_bipush (v := 41) hx hb d_Mo_clear_3 (by decide) ?_
      refine lv_icmp_ge (tgt := 23) hx hb d_Mo_clear_5 (by decide) (fun _ => ?_) (fun hq => absurd (show (41 : Int32) ≤ nI 41 from by decide) hq)
      exact r_vret C K () trivial S d_Mo_clear_23 (Nat.le_of_ble_eq_true rfl) (Nat.le_of_ble_eq_true rfl)
    | succ d ih =>
      intro t ht H locs S ls hl
      refine lv_iload_n hx hb d_Mo_clear_2 rfl (lv_at hl 0 rfl) ?_
      refine lv_bipush (v := 41) hx hb d_Mo_clear_3 (by decide) ?_
      refine lv_icmp_ge (tgt := 23) hx hb d_Mo_clear_5 (by decide) (fun hq => absurd hq (show ¬ nI 41 ≤ nI t from nI_ge (by omega) (by decide))) (fun _ => ?_)
      refine lv_aload_n hx hb d_Mo_clear_8 rfl (lv_at hl 1 rfl) ?_
      refine r_get C K S 0 rfl rfl clOk_Mo 27 (by decide) wf_Mo_57 (v := .ref (ma 13)) rfl d_Mo_clear_9 ?_
      refine lv_iload_n hx hb d_Mo_clear_12 rfl (lv_at hl 2 rfl) ?_
      refine lv_iload_n hx hb d_Mo_clear_13 rfl (lv_at hl 0 rfl) ?_
      refine lv_iadd hx hb d_Mo_clear_14 ?_
      rw [nI_add]
      refine lv_lconst (v := 0) hx hb d_Mo_clear_15 (by decide) ?_
      refine r_last C K S 1 rfl (i := nI (to + t)) (x := 0) (vp_in_nI (by omega) (by decide)) (f' := lnC f to (t + 1)) (ws' := [(h0, .inr (8, moL ma iv co)), ((ma 13), .inl (k 1, 36982, .inr (.inl (lnC f to (t + 1)))))]) (by rw [vp_updL_eq _ (by omega), lnC_s]) rfl d_Mo_clear_16 (fun H locs S => ?_)
      refine lv_iinc (v := nI (t + 1)) (lv' := [(2, .int (nI (t + 1))), (0, .ref h0), (1, .int (nI to))]) hx hb d_Mo_clear_17 hl (k := 0) rfl (nI_1 t) (by decide) rfl (fun ls hl => ?_)
      refine lv_goto (tgt := 2) hx hb d_Mo_clear_20 (by decide) ?_
      exact ih (t + 1) (by omega) _ _ S ls hl
  refine lv_iconst (v := 0) hx hb d_Mo_clear_0 (by decide) ?_
  refine lv_istore_n (lv' := [(2, .int 0), (0, .ref h0), (1, .int (nI to))]) hx hb d_Mo_clear_1 rfl hl (by decide) rfl (fun ls hl => ?_)
  have S : Sw G A s.heap s.heap [] [(h0, .inr (8, moL ma iv co)), ((ma 13), .inl (k 1, 36982, .inr (.inl (lnC f to 0))))] := by rw [lnC_0]; exact S
  exact loop 41 0 (by omega) _ _ S ls hl
/-- a line is copied up to t, from a line that lies apart -/
def lnP (f : Nat → Int64) (fr to t : Nat) : Nat → Int64 := fun i => if to ≤ i ∧ i < to + t then f (fr + (i - to)) else f i
theorem lnP_0 (f : Nat → Int64) (fr to : Nat) : lnP f fr to 0 = f := by
  funext i
  unfold lnP
  rw [if_neg (by omega)]
theorem lnP_s (f : Nat → Int64) (fr to t : Nat) : va_up (lnP f fr to t) (to + t) (f (fr + t)) = lnP f fr to (t + 1) := by
  funext i
  unfold va_up lnP
  by_cases q : i = to + t
  · rw [if_pos q, if_pos (by omega), q, Nat.add_sub_cancel_left]
  · rw [if_neg q]
    by_cases q2 : to ≤ i ∧ i < to + t
    · rw [if_pos q2, if_pos (by omega)]
    · rw [if_neg q2, if_neg (by omega)]
theorem lnP_far {f : Nat → Int64} {fr to t : Nat} (h : fr + 41 ≤ to ∨ to + 41 ≤ fr) (ht : t < 41) : lnP f fr to t (fr + t) = f (fr + t) := if_neg (by omega)
theorem d_Mo_copy_0 : decode c_Mo_copy 0 = .ok (.iconst 0, 1) := by decide +kernel
theorem d_Mo_copy_1 : decode c_Mo_copy 1 = .ok (.istore_n 3, 1) := by decide +kernel
theorem d_Mo_copy_2 : decode c_Mo_copy 2 = .ok (.iload_n 3, 1) := by decide +kernel
theorem d_Mo_copy_3 : decode c_Mo_copy 3 = .ok (.bipush 41, 2) := by decide +kernel
theorem d_Mo_copy_5 : decode c_Mo_copy 5 = .ok (.if_icmp .ge 25, 3) := by decide +kernel
theorem d_Mo_copy_8 : decode c_Mo_copy 8 = .ok (.aload_n 0, 1) := by decide +kernel
theorem d_Mo_copy_9 : decode c_Mo_copy 9 = .ok (.getfield 57, 3) := by decide +kernel
theorem d_Mo_copy_12 : decode c_Mo_copy 12 = .ok (.iload_n 2, 1) := by decide +kernel
theorem d_Mo_copy_13 : decode c_Mo_copy 13 = .ok (.iload_n 3, 1) := by decide +kernel
theorem d_Mo_copy_14 : decode c_Mo_copy 14 = .ok (.iadd, 1) := by decide +kernel
theorem d_Mo_copy_15 : decode c_Mo_copy 15 = .ok (.aload_n 0, 1) := by decide +kernel
theorem d_Mo_copy_16 : decode c_Mo_copy 16 = .ok (.getfield 57, 3) := by decide +kernel
theorem d_Mo_copy_19 : decode c_Mo_copy 19 = .ok (.iload_n 1, 1) := by decide +kernel
theorem d_Mo_copy_20 : decode c_Mo_copy 20 = .ok (.iload_n 3, 1) := by decide +kernel
theorem d_Mo_copy_21 : decode c_Mo_copy 21 = .ok (.iadd, 1) := by decide +kernel
theorem d_Mo_copy_22 : decode c_Mo_copy 22 = .ok (.laload, 1) := by decide +kernel
theorem d_Mo_copy_23 : decode c_Mo_copy 23 = .ok (.lastore, 1) := by decide +kernel
theorem d_Mo_copy_24 : decode c_Mo_copy 24 = .ok (.iinc 3 1, 3) := by decide +kernel
theorem d_Mo_copy_27 : decode c_Mo_copy 27 = .ok (.goto (-25), 3) := by decide +kernel
theorem d_Mo_copy_30 : decode c_Mo_copy 30 = .ok (.return_, 1) := by decide +kernel
set_option maxRecDepth 100000 in
set_option maxHeartbeats 4000000 in
/-- copy(fr, to) -/
theorem g_Mo_copy (l : Launch) (G : va_G) (k : Nat → ClassId) (h0 sz : Nat) (ma : Nat → Nat) (iv : Nat → Int32) (co : Int64) (f : Nat → Int64) (fr to : Nat) (hto : to + 41 ≤ 36982) (hfr : fr + 41 ≤ 36982) (hne : fr + 41 ≤ to ∨ to + 41 ≤ fr) : CV l y_Mo_copy c_Mo_copy 4 { frames := 0, cells := 0, slots := 0, locals := 0 } [.ref h0, .int (nI fr), .int (nI to)] G k sz [(h0, .inr (8, moL ma iv co)), ((ma 13), .inl (k 1, 36982, .inr (.inl f)))] (fun (u : Unit) => True) (fun u => [(h0, .inr (8, moL ma iv co)), ((ma 13), .inl (k 1, 36982, .inr (.inl (lnP f fr to 41))))]) 0 0 := by
  refine met_start (by decide) (Nat.le_of_ble_eq_true rfl) ?_
  intro p e s m below meth c C K hA hsz S ls hl
  generalize va_A [(h0, .inr (8, moL ma iv co)), ((ma 13), .inl (k 1, 36982, .inr (.inl f)))] sz = A at hA S ⊢
  have hx := C.1
  have hb := C.2.1
  have hl : lv_has ls 4 [(0, .ref h0), (1, .int (nI fr)), (2, .int (nI to))] := hl
  have loop : ∀ d t, t + d = 41 → ∀ (H : Heap) (locs : List Loc), Sw G A s.heap H locs [(h0, .inr (8, moL ma iv co)), ((ma 13), .inl (k 1, 36982, .inr (.inl (lnP f fr to t))))] → ∀ ls : Array Slot, lv_has ls 4 [(3, .int (nI t)), (0, .ref h0), (1, .int (nI fr)), (2, .int (nI to))] → W p l e { frames := 0, cells := 0, slots := 0, locals := 0 } s m [Value.ref h0, Value.int (nI fr), Value.int (nI to)].toArray below meth c H locs 0 0 (MQ below (va_Qv (fun (u : Unit) => True) (Po G k A (fun u => [(h0, .inr (8, moL ma iv co)), ((ma 13), .inl (k 1, 36982, .inr (.inl (lnP f fr to 41))))])) A) [Value.ref h0, Value.int (nI fr), Value.int (nI to)].toArray s 0 0 A) (F0 m 2 ls []) := by
    intro d
    induction d with
    | zero =>
      intro t ht H locs S ls hl
      obtain rfl : t = 41 := by omega
      refine lv_iload_n hx hb d_Mo_copy_2 rfl (lv_at hl 0 rfl) ?_
      refine lv_bipush (v := 41) hx hb d_Mo_copy_3 (by decide) ?_
      refine lv_icmp_ge (tgt := 30) hx hb d_Mo_copy_5 (by decide) (fun _ => ?_) (fun hq => absurd (show (41 : Int32) ≤ nI 41 from by decide) hq)
      exact r_vret C K () trivial S d_Mo_copy_30 (Nat.le_of_ble_eq_true rfl) (Nat.le_of_ble_eq_true rfl)
    | succ d ih =>
      intro t ht H locs S ls hl
      refine lv_iload_n hx hb d_Mo_copy_2 rfl (lv_at hl 0 rfl) ?_
      refine lv_bipush (v := 41) hx hb d_Mo_copy_3 (by decide) ?_
      refine lv_icmp_ge (tgt := 30) hx hb d_Mo_copy_5 (by decide) (fun hq => absurd hq (show ¬ nI 41 ≤ nI t from nI_ge (by omega) (by decide))) (fun _ => ?_)
      refine lv_aload_n hx hb d_Mo_copy_8 rfl (lv_at hl 1 rfl) ?_
      refine r_get C K S 0 rfl rfl clOk_Mo 27 (by decide) wf_Mo_57 (v := .ref (ma 13)) rfl d_Mo_copy_9 ?_
      refine lv_iload_n hx hb d_Mo_copy_12 rfl (lv_at hl 3 rfl) ?_
      refine lv_iload_n hx hb d_Mo_copy_13 rfl (lv_at hl 0 rfl) ?_
      refine lv_iadd hx hb d_Mo_copy_14 ?_
      rw [nI_add]
      refine lv_aload_n hx hb d_Mo_copy_15 rfl (lv_at hl 1 rfl) ?_
      refine r_get C K S 0 rfl rfl clOk_Mo 27 (by decide) wf_Mo_57 (v := .ref (ma 13)) rfl d_Mo_copy_16 ?_
      refine lv_iload_n hx hb d_Mo_copy_19 rfl (lv_at hl 2 rfl) ?_
      refine lv_iload_n hx hb d_Mo_copy_20 rfl (lv_at hl 0 rfl) ?_
      refine lv_iadd hx hb d_Mo_copy_21 ?_
      rw [nI_add]
      refine r_lald C K S 1 rfl (i := nI (fr + t)) (vp_in_nI (by omega) (by decide)) (v := (f (fr + t))) (by rw [nI_clamp (by omega)]; exact lnP_far hne (by omega)) d_Mo_copy_22 ?_
      refine r_last C K S 1 rfl (i := nI (to + t)) (x := (f (fr + t))) (vp_in_nI (by omega) (by decide)) (f' := lnP f fr to (t + 1)) (ws' := [(h0, .inr (8, moL ma iv co)), ((ma 13), .inl (k 1, 36982, .inr (.inl (lnP f fr to (t + 1)))))]) (by rw [vp_updL_eq _ (by omega), lnP_s]) rfl d_Mo_copy_23 (fun H locs S => ?_)
      refine lv_iinc (v := nI (t + 1)) (lv' := [(3, .int (nI (t + 1))), (0, .ref h0), (1, .int (nI fr)), (2, .int (nI to))]) hx hb d_Mo_copy_24 hl (k := 0) rfl (nI_1 t) (by decide) rfl (fun ls hl => ?_)
      refine lv_goto (tgt := 2) hx hb d_Mo_copy_27 (by decide) ?_
      exact ih (t + 1) (by omega) _ _ S ls hl
  refine lv_iconst (v := 0) hx hb d_Mo_copy_0 (by decide) ?_
  refine lv_istore_n (lv' := [(3, .int 0), (0, .ref h0), (1, .int (nI fr)), (2, .int (nI to))]) hx hb d_Mo_copy_1 rfl hl (by decide) rfl (fun ls hl => ?_)
  have S : Sw G A s.heap s.heap [] [(h0, .inr (8, moL ma iv co)), ((ma 13), .inl (k 1, 36982, .inr (.inl (lnP f fr to 0))))] := by rw [lnP_0]; exact S
  exact loop 41 0 (by omega) _ _ S ls hl
/-- a line is added up to t, from a line that lies apart -/
def lnA (f : Nat → Int64) (fr to t : Nat) : Nat → Int64 := fun i => if to ≤ i ∧ i < to + t then f i + f (fr + (i - to)) else f i
theorem lnA_0 (f : Nat → Int64) (fr to : Nat) : lnA f fr to 0 = f := by
  funext i
  unfold lnA
  rw [if_neg (by omega)]
theorem lnA_s (f : Nat → Int64) (fr to t : Nat) : va_up (lnA f fr to t) (to + t) (f (to + t) + f (fr + t)) = lnA f fr to (t + 1) := by
  funext i
  unfold va_up lnA
  by_cases q : i = to + t
  · rw [if_pos q, if_pos (by omega), q, Nat.add_sub_cancel_left]
  · rw [if_neg q]
    by_cases q2 : to ≤ i ∧ i < to + t
    · rw [if_pos q2, if_pos (by omega)]
    · rw [if_neg q2, if_neg (by omega)]
theorem lnA_far {f : Nat → Int64} {fr to t : Nat} (h : fr + 41 ≤ to ∨ to + 41 ≤ fr) (ht : t < 41) : lnA f fr to t (fr + t) = f (fr + t) := if_neg (by omega)
theorem lnA_own {f : Nat → Int64} {fr to t : Nat} : lnA f fr to t (to + t) = f (to + t) := if_neg (by omega)
theorem d_Mo_add_0 : decode c_Mo_add 0 = .ok (.iconst 0, 1) := by decide +kernel
theorem d_Mo_add_1 : decode c_Mo_add 1 = .ok (.istore_n 3, 1) := by decide +kernel
theorem d_Mo_add_2 : decode c_Mo_add 2 = .ok (.iload_n 3, 1) := by decide +kernel
theorem d_Mo_add_3 : decode c_Mo_add 3 = .ok (.bipush 41, 2) := by decide +kernel
theorem d_Mo_add_5 : decode c_Mo_add 5 = .ok (.if_icmp .ge 28, 3) := by decide +kernel
theorem d_Mo_add_8 : decode c_Mo_add 8 = .ok (.aload_n 0, 1) := by decide +kernel
theorem d_Mo_add_9 : decode c_Mo_add 9 = .ok (.getfield 57, 3) := by decide +kernel
theorem d_Mo_add_12 : decode c_Mo_add 12 = .ok (.iload_n 2, 1) := by decide +kernel
theorem d_Mo_add_13 : decode c_Mo_add 13 = .ok (.iload_n 3, 1) := by decide +kernel
theorem d_Mo_add_14 : decode c_Mo_add 14 = .ok (.iadd, 1) := by decide +kernel
theorem d_Mo_add_15 : decode c_Mo_add 15 = .ok (.dup2, 1) := by decide +kernel
theorem d_Mo_add_16 : decode c_Mo_add 16 = .ok (.laload, 1) := by decide +kernel
theorem d_Mo_add_17 : decode c_Mo_add 17 = .ok (.aload_n 0, 1) := by decide +kernel
theorem d_Mo_add_18 : decode c_Mo_add 18 = .ok (.getfield 57, 3) := by decide +kernel
theorem d_Mo_add_21 : decode c_Mo_add 21 = .ok (.iload_n 1, 1) := by decide +kernel
theorem d_Mo_add_22 : decode c_Mo_add 22 = .ok (.iload_n 3, 1) := by decide +kernel
theorem d_Mo_add_23 : decode c_Mo_add 23 = .ok (.iadd, 1) := by decide +kernel
theorem d_Mo_add_24 : decode c_Mo_add 24 = .ok (.laload, 1) := by decide +kernel
theorem d_Mo_add_25 : decode c_Mo_add 25 = .ok (.ladd, 1) := by decide +kernel
theorem d_Mo_add_26 : decode c_Mo_add 26 = .ok (.lastore, 1) := by decide +kernel
theorem d_Mo_add_27 : decode c_Mo_add 27 = .ok (.iinc 3 1, 3) := by decide +kernel
theorem d_Mo_add_30 : decode c_Mo_add 30 = .ok (.goto (-28), 3) := by decide +kernel
theorem d_Mo_add_33 : decode c_Mo_add 33 = .ok (.return_, 1) := by decide +kernel
set_option maxRecDepth 100000 in
set_option maxHeartbeats 4000000 in
/-- add(fr, to) -/
theorem g_Mo_add (l : Launch) (G : va_G) (k : Nat → ClassId) (h0 sz : Nat) (ma : Nat → Nat) (iv : Nat → Int32) (co : Int64) (f : Nat → Int64) (fr to : Nat) (hto : to + 41 ≤ 36982) (hfr : fr + 41 ≤ 36982) (hne : fr + 41 ≤ to ∨ to + 41 ≤ fr) : CV l y_Mo_add c_Mo_add 4 { frames := 0, cells := 0, slots := 0, locals := 0 } [.ref h0, .int (nI fr), .int (nI to)] G k sz [(h0, .inr (8, moL ma iv co)), ((ma 13), .inl (k 1, 36982, .inr (.inl f)))] (fun (u : Unit) => True) (fun u => [(h0, .inr (8, moL ma iv co)), ((ma 13), .inl (k 1, 36982, .inr (.inl (lnA f fr to 41))))]) 0 0 := by
  refine met_start (by decide) (Nat.le_of_ble_eq_true rfl) ?_
  intro p e s m below meth c C K hA hsz S ls hl
  generalize va_A [(h0, .inr (8, moL ma iv co)), ((ma 13), .inl (k 1, 36982, .inr (.inl f)))] sz = A at hA S ⊢
  have hx := C.1
  have hb := C.2.1
  have hl : lv_has ls 4 [(0, .ref h0), (1, .int (nI fr)), (2, .int (nI to))] := hl
  have loop : ∀ d t, t + d = 41 → ∀ (H : Heap) (locs : List Loc), Sw G A s.heap H locs [(h0, .inr (8, moL ma iv co)), ((ma 13), .inl (k 1, 36982, .inr (.inl (lnA f fr to t))))] → ∀ ls : Array Slot, lv_has ls 4 [(3, .int (nI t)), (0, .ref h0), (1, .int (nI fr)), (2, .int (nI to))] → W p l e { frames := 0, cells := 0, slots := 0, locals := 0 } s m [Value.ref h0, Value.int (nI fr), Value.int (nI to)].toArray below meth c H locs 0 0 (MQ below (va_Qv (fun (u : Unit) => True) (Po G k A (fun u => [(h0, .inr (8, moL ma iv co)), ((ma 13), .inl (k 1, 36982, .inr (.inl (lnA f fr to 41))))])) A) [Value.ref h0, Value.int (nI fr), Value.int (nI to)].toArray s 0 0 A) (F0 m 2 ls []) := by
    intro d
    induction d with
    | zero =>
      intro t ht H locs S ls hl
      obtain rfl : t = 41 := by omega
      refine lv_iload_n hx hb d_Mo_add_2 rfl (lv_at hl 0 rfl) ?_
      refine lv_bipush (v := 41) hx hb d_Mo_add_3 (by decide) ?_
      refine lv_icmp_ge (tgt := 33) hx hb d_Mo_add_5 (by decide) (fun _ => ?_) (fun hq => absurd (show (41 : Int32) ≤ nI 41 from by decide) hq)
      exact r_vret C K () trivial S d_Mo_add_33 (Nat.le_of_ble_eq_true rfl) (Nat.le_of_ble_eq_true rfl)
    | succ d ih =>
      intro t ht H locs S ls hl
      refine lv_iload_n hx hb d_Mo_add_2 rfl (lv_at hl 0 rfl) ?_
      refine lv_bipush (v := 41) hx hb d_Mo_add_3 (by decide) ?_
      refine lv_icmp_ge (tgt := 33) hx hb d_Mo_add_5 (by decide) (fun hq => absurd hq (show ¬ nI 41 ≤ nI t from nI_ge (by omega) (by decide))) (fun _ => ?_)
      refine lv_aload_n hx hb d_Mo_add_8 rfl (lv_at hl 1 rfl) ?_
      refine r_get C K S 0 rfl rfl clOk_Mo 27 (by decide) wf_Mo_57 (v := .ref (ma 13)) rfl d_Mo_add_9 ?_
      refine lv_iload_n hx hb d_Mo_add_12 rfl (lv_at hl 3 rfl) ?_
      refine lv_iload_n hx hb d_Mo_add_13 rfl (lv_at hl 0 rfl) ?_
      refine lv_iadd hx hb d_Mo_add_14 ?_
      rw [nI_add]
      refine lv_dup2_11 hx hb d_Mo_add_15 rfl rfl ?_
      refine r_lald C K S 1 rfl (i := nI (to + t)) (vp_in_nI (by omega) (by decide)) (v := (f (to + t))) (by rw [nI_clamp (by omega)]; exact lnA_own) d_Mo_add_16 ?_
      refine lv_aload_n hx hb d_Mo_add_17 rfl (lv_at hl 1 rfl) ?_
      refine r_get C K S 0 rfl rfl clOk_Mo 27 (by decide) wf_Mo_57 (v := .ref (ma 13)) rfl d_Mo_add_18 ?_
      refine lv_iload_n hx hb d_Mo_add_21 rfl (lv_at hl 2 rfl) ?_
      refine lv_iload_n hx hb d_Mo_add_22 rfl (lv_at hl 0 rfl) ?_
      refine lv_iadd hx hb d_Mo_add_23 ?_
      rw [nI_add]
      refine r_lald C K S 1 rfl (i := nI (fr + t)) (vp_in_nI (by omega) (by decide)) (v := (f (fr + t))) (by rw [nI_clamp (by omega)]; exact lnA_far hne (by omega)) d_Mo_add_24 ?_
      refine lv_ladd hx hb d_Mo_add_25 ?_
      refine r_last C K S 1 rfl (i := nI (to + t)) (x := (f (to + t)) + (f (fr + t))) (vp_in_nI (by omega) (by decide)) (f' := lnA f fr to (t + 1)) (ws' := [(h0, .inr (8, moL ma iv co)), ((ma 13), .inl (k 1, 36982, .inr (.inl (lnA f fr to (t + 1)))))]) (by rw [vp_updL_eq _ (by omega), lnA_s]) rfl d_Mo_add_26 (fun H locs S => ?_)
      refine lv_iinc (v := nI (t + 1)) (lv' := [(3, .int (nI (t + 1))), (0, .ref h0), (1, .int (nI fr)), (2, .int (nI to))]) hx hb d_Mo_add_27 hl (k := 0) rfl (nI_1 t) (by decide) rfl (fun ls hl => ?_)
      refine lv_goto (tgt := 2) hx hb d_Mo_add_30 (by decide) ?_
      exact ih (t + 1) (by omega) _ _ S ls hl
  refine lv_iconst (v := 0) hx hb d_Mo_add_0 (by decide) ?_
  refine lv_istore_n (lv' := [(3, .int 0), (0, .ref h0), (1, .int (nI fr)), (2, .int (nI to))]) hx hb d_Mo_add_1 rfl hl (by decide) rfl (fun ls hl => ?_)
  have S : Sw G A s.heap s.heap [] [(h0, .inr (8, moL ma iv co)), ((ma 13), .inl (k 1, 36982, .inr (.inl (lnA f fr to 0))))] := by rw [lnA_0]; exact S
  exact loop 41 0 (by omega) _ _ S ls hl
end
section
/-- one less, as an int that may be -1 -/
def pm : Nat → Int32
  | 0 => -1
  | t + 1 => nI t
theorem pm_of (t : Nat) : nI t - 1 = pm t := by
  cases t with
  | zero => decide
  | succ t => exact nI_pred t
theorem pm_dn (t : Nat) : nI t + Int32.ofInt (-1) = pm t := by
  rw [← pm_of, show Int32.ofInt (-1) = -1 from by decide, Int32.sub_eq_add_neg]
/-- which of two rows of digits is more, the first t of each -/
def cmpD (ga gb : Nat → Nat) : Nat → Int32
  | 0 => 0
  | t + 1 => if ga t = gb t then cmpD ga gb t else if ga t < gb t then -1 else 1
def cmpN (ga gb : Nat → Nat) (na nb : Nat) : Int32 := if na = nb then cmpD ga gb na else if na < nb then -1 else 1
theorem d_Mo_compare_0 : decode c_Mo_compare 0 = .ok (.iload_n 1, 1) := by decide +kernel
theorem d_Mo_compare_1 : decode c_Mo_compare 1 = .ok (.iload_n 3, 1) := by decide +kernel
theorem d_Mo_compare_2 : decode c_Mo_compare 2 = .ok (.if_icmp .eq 14, 3) := by decide +kernel
theorem d_Mo_compare_5 : decode c_Mo_compare 5 = .ok (.iload_n 1, 1) := by decide +kernel
theorem d_Mo_compare_6 : decode c_Mo_compare 6 = .ok (.iload_n 3, 1) := by decide +kernel
theorem d_Mo_compare_7 : decode c_Mo_compare 7 = .ok (.if_icmp .ge 7, 3) := by decide +kernel
theorem d_Mo_compare_10 : decode c_Mo_compare 10 = .ok (.iconst (-1), 1) := by decide +kernel
theorem d_Mo_compare_11 : decode c_Mo_compare 11 = .ok (.goto 4, 3) := by decide +kernel
theorem d_Mo_compare_14 : decode c_Mo_compare 14 = .ok (.iconst 1, 1) := by decide +kernel
theorem d_Mo_compare_15 : decode c_Mo_compare 15 = .ok (.ireturn, 1) := by decide +kernel
theorem d_Mo_compare_16 : decode c_Mo_compare 16 = .ok (.iload_n 1, 1) := by decide +kernel
theorem d_Mo_compare_17 : decode c_Mo_compare 17 = .ok (.iconst 1, 1) := by decide +kernel
theorem d_Mo_compare_18 : decode c_Mo_compare 18 = .ok (.isub, 1) := by decide +kernel
theorem d_Mo_compare_19 : decode c_Mo_compare 19 = .ok (.istore 4, 2) := by decide +kernel
theorem d_Mo_compare_21 : decode c_Mo_compare 21 = .ok (.iload 4, 2) := by decide +kernel
theorem d_Mo_compare_23 : decode c_Mo_compare 23 = .ok (.ifCond .lt 20, 3) := by decide +kernel
theorem d_Mo_compare_26 : decode c_Mo_compare 26 = .ok (.aload_n 0, 1) := by decide +kernel
theorem d_Mo_compare_27 : decode c_Mo_compare 27 = .ok (.iload 4, 2) := by decide +kernel
theorem d_Mo_compare_29 : decode c_Mo_compare 29 = .ok (.iaload, 1) := by decide +kernel
theorem d_Mo_compare_30 : decode c_Mo_compare 30 = .ok (.aload_n 2, 1) := by decide +kernel
theorem d_Mo_compare_31 : decode c_Mo_compare 31 = .ok (.iload 4, 2) := by decide +kernel
theorem d_Mo_compare_33 : decode c_Mo_compare 33 = .ok (.iaload, 1) := by decide +kernel
theorem d_Mo_compare_34 : decode c_Mo_compare 34 = .ok (.if_icmp .ne 9, 3) := by decide +kernel
theorem d_Mo_compare_37 : decode c_Mo_compare 37 = .ok (.iinc 4 (-1), 3) := by decide +kernel
theorem d_Mo_compare_40 : decode c_Mo_compare 40 = .ok (.goto (-19), 3) := by decide +kernel
theorem d_Mo_compare_43 : decode c_Mo_compare 43 = .ok (.iload 4, 2) := by decide +kernel
theorem d_Mo_compare_45 : decode c_Mo_compare 45 = .ok (.ifCond .ge 7, 3) := by decide +kernel
theorem d_Mo_compare_48 : decode c_Mo_compare 48 = .ok (.iconst 0, 1) := by decide +kernel
theorem d_Mo_compare_49 : decode c_Mo_compare 49 = .ok (.goto 19, 3) := by decide +kernel
theorem d_Mo_compare_52 : decode c_Mo_compare 52 = .ok (.aload_n 0, 1) := by decide +kernel
theorem d_Mo_compare_53 : decode c_Mo_compare 53 = .ok (.iload 4, 2) := by decide +kernel
theorem d_Mo_compare_55 : decode c_Mo_compare 55 = .ok (.iaload, 1) := by decide +kernel
theorem d_Mo_compare_56 : decode c_Mo_compare 56 = .ok (.aload_n 2, 1) := by decide +kernel
theorem d_Mo_compare_57 : decode c_Mo_compare 57 = .ok (.iload 4, 2) := by decide +kernel
theorem d_Mo_compare_59 : decode c_Mo_compare 59 = .ok (.iaload, 1) := by decide +kernel
theorem d_Mo_compare_60 : decode c_Mo_compare 60 = .ok (.if_icmp .ge 7, 3) := by decide +kernel
theorem d_Mo_compare_63 : decode c_Mo_compare 63 = .ok (.iconst (-1), 1) := by decide +kernel
theorem d_Mo_compare_64 : decode c_Mo_compare 64 = .ok (.goto 4, 3) := by decide +kernel
theorem d_Mo_compare_67 : decode c_Mo_compare 67 = .ok (.iconst 1, 1) := by decide +kernel
theorem d_Mo_compare_68 : decode c_Mo_compare 68 = .ok (.ireturn, 1) := by decide +kernel
set_option maxRecDepth 100000 in
set_option maxHeartbeats 4000000 in
/-- compare(x, na, y, nb) -/
theorem g_Mo_compare (l : Launch) (G : va_G) (k : Nat → ClassId) (sz x y la lb na nb : Nat) (ga gb : Nat → Nat) (ha : na ≤ la) (hb9 : nb ≤ lb) (hla : la < 2 ^ 31) (hlb : lb < 2 ^ 31) (da : ∀ i, i < la → ga i < 65536) (db : ∀ i, i < lb → gb i < 65536) : CI l y_Mo_compare c_Mo_compare 5 .int { frames := 0, cells := 0, slots := 0, locals := 0 } [.ref x, .int (nI na), .ref y, .int (nI nb)] G k sz [(x, .inl (k 0, la, .inl (fun i => nI (ga i)))), (y, .inl (k 0, lb, .inl (fun i => nI (gb i))))] (fun (r : Int32) (_ : Unit) => r = cmpN ga gb na nb) (fun _ => [(x, .inl (k 0, la, .inl (fun i => nI (ga i)))), (y, .inl (k 0, lb, .inl (fun i => nI (gb i))))]) 0 0 := by
  refine met_start (by decide) (Nat.le_of_ble_eq_true rfl) ?_
  intro p e s m below meth c C K hA hsz S ls hl
  generalize va_A [(x, .inl (k 0, la, .inl (fun i => nI (ga i)))), (y, .inl (k 0, lb, .inl (fun i => nI (gb i))))] sz = A at hA S ⊢
  have hx := C.1
  have hb := C.2.1
  have hl : lv_has ls 5 [(0, .ref x), (1, .int (nI na)), (2, .ref y), (3, .int (nI nb))] := hl
  have loop : ∀ t, t ≤ na → t ≤ nb → cmpD ga gb t = cmpN ga gb na nb → ∀ ls : Array Slot, lv_has ls 5 [(4, .int (pm t)), (0, .ref x), (1, .int (nI na)), (2, .ref y), (3, .int (nI nb))] → W p l e { frames := 0, cells := 0, slots := 0, locals := 0 } s m [Value.ref x, Value.int (nI na), Value.ref y, Value.int (nI nb)].toArray below meth c s.heap [] 0 0 (MQ below (va_Qi (fun (r : Int32) (_ : Unit) => r = cmpN ga gb na nb) (Po G k A (fun _ => [(x, .inl (k 0, la, .inl (fun i => nI (ga i)))), (y, .inl (k 0, lb, .inl (fun i => nI (gb i))))])) A) [Value.ref x, Value.int (nI na), Value.ref y, Value.int (nI nb)].toArray s 0 0 A) (F0 m 21 ls []) := by
    intro t
    induction t with
    | zero =>
      intro h1 h2 he ls hl
      have hl : lv_has ls 5 [(4, .int (-1)), (0, .ref x), (1, .int (nI na)), (2, .ref y), (3, .int (nI nb))] := hl
      refine lv_iload hx hb d_Mo_compare_21 (lv_at hl 0 rfl) ?_
      refine lv_if_lt (tgt := 43) hx hb d_Mo_compare_23 (by decide) (fun _ => ?_) (fun hq => absurd (by decide) hq)
      refine lv_iload hx hb d_Mo_compare_43 (lv_at hl 0 rfl) ?_
      refine lv_if_ge (tgt := 52) hx hb d_Mo_compare_45 (by decide) (fun hq => absurd hq (by decide)) (fun _ => ?_)
      refine lv_iconst (v := 0) hx hb d_Mo_compare_48 (by decide) ?_
      refine lv_goto (tgt := 68) hx hb d_Mo_compare_49 (by decide) ?_
      exact r_iret C K rfl () (by rw [← he]; rfl) S d_Mo_compare_68 (Nat.le_of_ble_eq_true rfl) (Nat.le_of_ble_eq_true rfl)
    | succ t ih =>
      intro h1 h2 he ls hl
      have hl : lv_has ls 5 [(4, .int (nI t)), (0, .ref x), (1, .int (nI na)), (2, .ref y), (3, .int (nI nb))] := hl
      have d1 := da t (by omega)
      have d2 := db t (by omega)
      refine lv_iload hx hb d_Mo_compare_21 (lv_at hl 0 rfl) ?_
      refine lv_if_lt (tgt := 43) hx hb d_Mo_compare_23 (by decide) (fun hq => absurd hq (nI_pos (by omega))) (fun _ => ?_)
      refine lv_aload_n hx hb d_Mo_compare_26 rfl (lv_at hl 1 rfl) ?_
      refine lv_iload hx hb d_Mo_compare_27 (lv_at hl 0 rfl) ?_
      refine r_iald C K S 0 rfl (i := nI t) (vp_in_nI (by omega) hla) (v := (nI (ga t))) (by rw [nI_clamp (by omega)]) d_Mo_compare_29 ?_
      refine lv_aload_n hx hb d_Mo_compare_30 rfl (lv_at hl 3 rfl) ?_
      refine lv_iload hx hb d_Mo_compare_31 (lv_at hl 0 rfl) ?_
      refine r_iald C K S 1 rfl (i := nI t) (vp_in_nI (by omega) hlb) (v := (nI (gb t))) (by rw [nI_clamp (by omega)]) d_Mo_compare_33 ?_
      refine lv_icmp_ne (tgt := 43) hx hb d_Mo_compare_34 (by decide) (fun hq => ?_) (fun hq => ?_)
      · refine lv_iload hx hb d_Mo_compare_43 (lv_at hl 0 rfl) ?_
        refine lv_if_ge (tgt := 52) hx hb d_Mo_compare_45 (by decide) (fun _ => ?_) (fun hq => absurd (nI_pos' (by omega)) hq)
        refine lv_aload_n hx hb d_Mo_compare_52 rfl (lv_at hl 1 rfl) ?_
        refine lv_iload hx hb d_Mo_compare_53 (lv_at hl 0 rfl) ?_
        refine r_iald C K S 0 rfl (i := nI t) (vp_in_nI (by omega) hla) (v := (nI (ga t))) (by rw [nI_clamp (by omega)]) d_Mo_compare_55 ?_
        refine lv_aload_n hx hb d_Mo_compare_56 rfl (lv_at hl 3 rfl) ?_
        refine lv_iload hx hb d_Mo_compare_57 (lv_at hl 0 rfl) ?_
        refine r_iald C K S 1 rfl (i := nI t) (vp_in_nI (by omega) hlb) (v := (nI (gb t))) (by rw [nI_clamp (by omega)]) d_Mo_compare_59 ?_
        have hn : ¬ ga t = gb t := fun e9 => hq (by rw [e9])
        refine lv_icmp_ge (tgt := 67) hx hb d_Mo_compare_60 (by decide) (fun hg => ?_) (fun hg => ?_)
        · refine lv_iconst (v := 1) hx hb d_Mo_compare_67 (by decide) ?_
          exact r_iret C K rfl () (by rw [← he, cmpD, if_neg hn, if_neg (by have := (nI_leI (a := gb t) (b := ga t) (by omega) (by omega)).mp hg; omega)]) S d_Mo_compare_68 (Nat.le_of_ble_eq_true rfl) (Nat.le_of_ble_eq_true rfl)
        · refine lv_iconst (v := (-1)) hx hb d_Mo_compare_63 (by decide) ?_
          refine lv_goto (tgt := 68) hx hb d_Mo_compare_64 (by decide) ?_
          exact r_iret C K rfl () (by rw [← he, cmpD, if_neg hn, if_pos (Nat.lt_of_not_le (fun z => hg ((nI_leI (a := gb t) (b := ga t) (by omega) (by omega)).mpr z)))]) S d_Mo_compare_68 (Nat.le_of_ble_eq_true rfl) (Nat.le_of_ble_eq_true rfl)
      · have hn : ga t = gb t := (nI_eq (by omega) (by omega)).mp hq
        refine lv_iinc (v := pm t) (lv' := [(4, .int (pm t)), (0, .ref x), (1, .int (nI na)), (2, .ref y), (3, .int (nI nb))]) hx hb d_Mo_compare_37 hl (k := 0) rfl (pm_dn t) (by decide) rfl (fun ls hl => ?_)
        refine lv_goto (tgt := 21) hx hb d_Mo_compare_40 (by decide) ?_
        exact ih (by omega) (by omega) (by rw [← he, cmpD, if_pos hn]) ls hl
  refine lv_iload_n hx hb d_Mo_compare_0 rfl (lv_at hl 1 rfl) ?_
  refine lv_iload_n hx hb d_Mo_compare_1 rfl (lv_at hl 3 rfl) ?_
  refine lv_icmp_eq (tgt := 16) hx hb d_Mo_compare_2 (by decide) (fun hq => ?_) (fun hq => ?_)
  · have hn : na = nb := (nI_eq (by omega) (by omega)).mp hq
    refine lv_iload_n hx hb d_Mo_compare_16 rfl (lv_at hl 1 rfl) ?_
    refine lv_iconst (v := 1) hx hb d_Mo_compare_17 (by decide) ?_
    refine lv_isub hx hb d_Mo_compare_18 ?_
    rw [pm_of]
    refine lv_istore (lv' := [(4, .int (pm na)), (0, .ref x), (1, .int (nI na)), (2, .ref y), (3, .int (nI nb))]) hx hb d_Mo_compare_19 hl (by decide) rfl (fun ls hl => ?_)
    exact loop na (Nat.le_refl na) (by omega) (by rw [cmpN, if_pos hn]) ls hl
  · have hn : ¬ na = nb := fun e9 => hq (by rw [e9])
    refine lv_iload_n hx hb d_Mo_compare_5 rfl (lv_at hl 1 rfl) ?_
    refine lv_iload_n hx hb d_Mo_compare_6 rfl (lv_at hl 3 rfl) ?_
    refine lv_icmp_ge (tgt := 14) hx hb d_Mo_compare_7 (by decide) (fun hg => ?_) (fun hg => ?_)
    · refine lv_iconst (v := 1) hx hb d_Mo_compare_14 (by decide) ?_
      exact r_iret C K rfl () (by rw [cmpN, if_neg hn, if_neg (by have := (nI_leI (a := nb) (b := na) (by omega) (by omega)).mp hg; omega)]) S d_Mo_compare_15 (Nat.le_of_ble_eq_true rfl) (Nat.le_of_ble_eq_true rfl)
    · refine lv_iconst (v := (-1)) hx hb d_Mo_compare_10 (by decide) ?_
      refine lv_goto (tgt := 15) hx hb d_Mo_compare_11 (by decide) ?_
      exact r_iret C K rfl () (by rw [cmpN, if_neg hn, if_pos (Nat.lt_of_not_le (fun z => hg ((nI_leI (a := nb) (b := na) (by omega) (by omega)).mpr z)))]) S d_Mo_compare_15 (Nat.le_of_ble_eq_true rfl) (Nat.le_of_ble_eq_true rfl)
end
section
/-! numbers by digits (base B: 65536 in the reference, 2^31 in the class) -/
def vl (B : Nat) (g : Nat → Nat) : Nat → Nat
  | 0 => 0
  | n + 1 => vl B g n + g n * B ^ n
theorem vl_s (B : Nat) (g : Nat → Nat) (n : Nat) : vl B g (n + 1) = vl B g n + g n * B ^ n := rfl
theorem vl_congr {B : Nat} {g h : Nat → Nat} : ∀ n, (∀ i, i < n → g i = h i) → vl B g n = vl B h n
  | 0, _ => rfl
  | n + 1, e => by rw [vl_s, vl_s, vl_congr n (fun i hi => e i (by omega)), e n (by omega)]
theorem vl_lt {B : Nat} {g : Nat → Nat} : ∀ n, (∀ i, i < n → g i < B) → vl B g n < B ^ n
  | 0, _ => by simp [vl]
  | n + 1, h => by
    have h1 := vl_lt n (fun i hi => h i (by omega))
    have h2 : (g n + 1) * B ^ n ≤ B * B ^ n := Nat.mul_le_mul_right _ (h n (by omega))
    rw [vl_s, Nat.pow_succ, Nat.mul_comm (B ^ n) B]
    rw [Nat.add_mul, Nat.one_mul] at h2
    omega
theorem vl_zeros {B : Nat} {g : Nat → Nat} {n : Nat} : ∀ m, n ≤ m → (∀ i, n ≤ i → i < m → g i = 0) → vl B g m = vl B g n
  | 0, h, _ => by rw [show n = 0 by omega]
  | m + 1, h, hz => by
    by_cases q : n = m + 1
    · rw [q]
    · rw [vl_s, hz m (by omega) (by omega), Nat.zero_mul, Nat.add_zero]
      exact vl_zeros m (by omega) (fun i h1 h2 => hz i h1 (by omega))
theorem vl_up {B : Nat} {g : Nat → Nat} {j v : Nat} : ∀ n, j < n → vl B (va_up g j v) n + g j * B ^ j = vl B g n + v * B ^ j
  | 0, h => by omega
  | n + 1, h => by
    rw [vl_s, vl_s]
    by_cases q : j = n
    · subst q
      rw [va_up_self, vl_congr (h := g) j (fun i hi => va_up_ne g v (by omega))]
      omega
    · have ih := vl_up (B := B) (g := g) (j := j) (v := v) n (by omega)
      rw [va_up_ne g v (fun e => q e.symm)]
      omega
/-- the highest digits that are 0 are cut off -/
theorem vl_cut {B : Nat} (g : Nat → Nat) (f : Nat → Int32) (hf : ∀ i, f i = nI (g i)) : ∀ n, (∀ i, i < n → g i < 2 ^ 31) → vl B g n = vl B g (cutN f n) ∧ cutN f n ≤ n ∧ (cutN f n = 0 ∨ g (cutN f n - 1) ≠ 0)
  | 0, _ => ⟨rfl, Nat.le_refl _, Or.inl rfl⟩
  | n + 1, h => by
    have ih := vl_cut (B := B) g f hf n (fun i hi => h i (by omega))
    rw [cutN]
    by_cases q : f n = 0
    · rw [if_pos q]
      have e : g n = 0 := (nI_eq (h n (by omega)) (by decide)).mp ((hf n).symm.trans q)
      refine ⟨?_, by omega, ih.2.2⟩
      rw [vl_s, e, Nat.zero_mul, Nat.add_zero]
      exact ih.1
    · rw [if_neg q]
      exact ⟨rfl, Nat.le_refl _, Or.inr (fun e => q (by rw [hf n]; rw [Nat.add_sub_cancel] at e; rw [e]; rfl))⟩
/-- a number whose highest digit isn't 0 -/
theorem vl_ge {B : Nat} {g : Nat → Nat} {n : Nat} (hn : 0 < n) (h : g (n - 1) ≠ 0) : B ^ (n - 1) ≤ vl B g n := by
  obtain ⟨m, rfl⟩ : ∃ m, n = m + 1 := ⟨n - 1, by omega⟩
  rw [vl_s, Nat.add_sub_cancel] at *
  have : 1 * B ^ m ≤ g m * B ^ m := Nat.mul_le_mul_right _ (by omega)
  omega
/-- compare by digits is compare by value -/
theorem cmpD_val {B : Nat} {ga gb : Nat → Nat} : ∀ n, (∀ i, i < n → ga i < B) → (∀ i, i < n → gb i < B) → cmpD ga gb n = (if vl B ga n = vl B gb n then 0 else if vl B ga n < vl B gb n then -1 else 1)
  | 0, _, _ => rfl
  | n + 1, ha, hb => by
    have ih := cmpD_val n (fun i hi => ha i (by omega)) (fun i hi => hb i (by omega))
    have la := vl_lt n (fun i hi => ha i (by omega))
    have lb := vl_lt n (fun i hi => hb i (by omega))
    rw [cmpD, vl_s, vl_s]
    by_cases q : ga n = gb n
    · rw [if_pos q, ih, q]
      have e1 : (vl B ga n + gb n * B ^ n = vl B gb n + gb n * B ^ n) ↔ vl B ga n = vl B gb n := by omega
      have e2 : (vl B ga n + gb n * B ^ n < vl B gb n + gb n * B ^ n) ↔ vl B ga n < vl B gb n := by omega
      simp only [e1, e2]
    · rw [if_neg q]
      by_cases q2 : ga n < gb n
      · have : (ga n + 1) * B ^ n ≤ gb n * B ^ n := Nat.mul_le_mul_right _ q2
        rw [Nat.add_mul, Nat.one_mul] at this
        rw [if_pos q2, if_neg (by omega), if_pos (by omega)]
      · have : (gb n + 1) * B ^ n ≤ ga n * B ^ n := Nat.mul_le_mul_right _ (by omega)
        rw [Nat.add_mul, Nat.one_mul] at this
        rw [if_neg q2, if_neg (by omega), if_neg (by omega)]
theorem cmpN_val {B : Nat} {ga gb : Nat → Nat} {na nb : Nat} (hB : 0 < B) (ha : ∀ i, i < na → ga i < B) (hb : ∀ i, i < nb → gb i < B) (ta : na = 0 ∨ ga (na - 1) ≠ 0) (tb : nb = 0 ∨ gb (nb - 1) ≠ 0) : cmpN ga gb na nb = (if vl B ga na = vl B gb nb then 0 else if vl B ga na < vl B gb nb then -1 else 1) := by
  unfold cmpN
  by_cases q : na = nb
  · subst q
    rw [if_pos rfl]
    exact cmpD_val na ha hb
  · rw [if_neg q]
    have la := vl_lt na ha
    have lb := vl_lt nb hb
    by_cases q2 : na < nb
    · have h1 := vl_ge (B := B) (g := gb) (n := nb) (by omega) (tb.resolve_left (by omega))
      have h2 : B ^ na ≤ B ^ (nb - 1) := Nat.pow_le_pow_right hB (by omega)
      rw [if_pos q2, if_neg (by omega), if_pos (by omega)]
    · have h1 := vl_ge (B := B) (g := ga) (n := na) (by omega) (ta.resolve_left (by omega))
      have h2 : B ^ nb ≤ B ^ (na - 1) := Nat.pow_le_pow_right hB (by omega)
      rw [if_neg q2, if_neg (by omega), if_neg (by omega)]
/-- one step of a product by digits: the carry c at place p -/
theorem vl_mul_step {B : Nat} {T : Nat → Nat} {N p d y c X : Nat} (hp : p < N) (hv : vl B T N + c * B ^ p = X) : vl B (va_up T p ((d * y + T p + c) % B)) N + (d * y + T p + c) / B * B ^ (p + 1) = X + d * y * B ^ p := by
  have h1 := vl_up (B := B) (g := T) (j := p) (v := (d * y + T p + c) % B) N hp
  have h2 := Nat.mod_add_div (d * y + T p + c) B
  have h3 : (d * y + T p + c) / B * B ^ (p + 1) = B * ((d * y + T p + c) / B) * B ^ p := by
    rw [Nat.pow_succ, Nat.mul_comm (B ^ p) B, ← Nat.mul_assoc, Nat.mul_comm ((d * y + T p + c) / B) B]
  have h4 : ((d * y + T p + c) % B) * B ^ p + B * ((d * y + T p + c) / B) * B ^ p = d * y * B ^ p + T p * B ^ p + c * B ^ p := by
    rw [← Nat.add_mul, h2, Nat.add_mul, Nat.add_mul]
  rw [h3]
  omega
theorem vl_mul_lt {B d y t c : Nat} (hd : d < B) (hy : y < B) (ht : t < B) (hc : c < B) : (d * y + t + c) / B < B := by
  have h1 : d * y ≤ (B - 1) * (B - 1) := Nat.mul_le_mul (by omega) (by omega)
  have h2 : (B - 1) * (B - 1) + (B - 1) + (B - 1) < B * B := by
    obtain ⟨b, rfl⟩ : ∃ b, B = b + 1 := ⟨B - 1, by omega⟩
    rw [Nat.add_sub_cancel, Nat.add_mul, Nat.mul_add, Nat.mul_one, Nat.one_mul]
    omega
  exact (Nat.div_lt_iff_lt_mul (by omega)).mpr (by omega)
end
section
/-! bits: rows of kit/laws/BITS.to-paste -/
theorem u_tn {n : Nat} (h : n < 2 ^ 64) : (UInt64.ofNat n).toNat = n := Nat.mod_eq_of_lt h
theorem g_and {a b c : Nat} (ha : a < 2 ^ 64) (hb : b < 2 ^ 64) (hc : a &&& b = c) : lN a &&& lN b = lN c := by
  subst hc
  have h : UInt64.ofNat a &&& UInt64.ofNat b = UInt64.ofNat (a &&& b) := UInt64.toNat_inj.mp (by rw [UInt64.toNat_and, u_tn ha, u_tn hb, u_tn (Nat.and_lt_two_pow a hb)])
  have h2 := congrArg UInt64.toInt64 h
  exact h2
theorem g_mask {a s p : Nat} (hp : 2 ^ s = p) (hs : s < 64) (ha : a < 2 ^ 64) : lN a &&& lN (p - 1) = lN (a % p) := by
  subst hp
  have := Nat.pow_lt_pow_right (show 1 < 2 by decide) hs
  exact g_and ha (by omega) (Nat.and_two_pow_sub_one_eq_mod a s)
theorem pf_lI {a : Nat} (h : a < 2 ^ 63) : (lN a).toInt = (a : Int) := lg_ofNat_toInt h
theorem pf_shr {a d : Nat} {D : Int64} (hD : (D.toBitVec.smod 64).toNat = d) (h : a < 2 ^ 62) : lN a >>> D = lN (a / 2 ^ d) := by
  have hd : a / 2 ^ d ≤ a := Nat.div_le_self _ _
  apply Int64.toInt_inj.mp
  have e : (lN a >>> D).toInt = (lN a).toInt >>> d := by
    rw [← hD]
    exact BitVec.toInt_sshiftRight ..
  rw [e, Int.shiftRight_eq_div_pow, pf_lI (by omega), pf_lI (by omega)]
  rfl
end
section
def zr (T : Nat → Nat) (t : Nat) : Nat → Nat := fun i => if i < t then 0 else T i
theorem zr_0 (T : Nat → Nat) : zr T 0 = T := by
  funext i
  unfold zr
  rw [if_neg (by omega)]
theorem zr_s (T : Nat → Nat) (t : Nat) : va_up (zr T t) t 0 = zr T (t + 1) := by
  funext i
  unfold va_up zr
  by_cases q : i = t
  · rw [if_pos q, if_pos (by omega)]
  · rw [if_neg q]
    by_cases q2 : i < t
    · rw [if_pos q2, if_pos (by omega)]
    · rw [if_neg q2, if_neg (by omega)]
theorem vl_0 {B : Nat} {g : Nat → Nat} : ∀ n, (∀ i, i < n → g i = 0) → vl B g n = 0
  | 0, _ => rfl
  | n + 1, h => by rw [vl_s, vl_0 n (fun i hi => h i (by omega)), h n (by omega), Nat.zero_mul]
theorem d_Mo_times_0 : decode c_Mo_times 0 = .ok (.aload_n 0, 1) := by decide +kernel
theorem d_Mo_times_1 : decode c_Mo_times 1 = .ok (.getfield 86, 3) := by decide +kernel
theorem d_Mo_times_4 : decode c_Mo_times 4 = .ok (.iload_n 1, 1) := by decide +kernel
theorem d_Mo_times_5 : decode c_Mo_times 5 = .ok (.iaload, 1) := by decide +kernel
theorem d_Mo_times_6 : decode c_Mo_times 6 = .ok (.istore 4, 2) := by decide +kernel
theorem d_Mo_times_8 : decode c_Mo_times 8 = .ok (.aload_n 0, 1) := by decide +kernel
theorem d_Mo_times_9 : decode c_Mo_times 9 = .ok (.getfield 86, 3) := by decide +kernel
theorem d_Mo_times_12 : decode c_Mo_times 12 = .ok (.iload_n 2, 1) := by decide +kernel
theorem d_Mo_times_13 : decode c_Mo_times 13 = .ok (.iaload, 1) := by decide +kernel
theorem d_Mo_times_14 : decode c_Mo_times 14 = .ok (.istore 5, 2) := by decide +kernel
theorem d_Mo_times_16 : decode c_Mo_times 16 = .ok (.iconst 0, 1) := by decide +kernel
theorem d_Mo_times_17 : decode c_Mo_times 17 = .ok (.istore 6, 2) := by decide +kernel
theorem d_Mo_times_19 : decode c_Mo_times 19 = .ok (.iload 6, 2) := by decide +kernel
theorem d_Mo_times_21 : decode c_Mo_times 21 = .ok (.iload 4, 2) := by decide +kernel
theorem d_Mo_times_23 : decode c_Mo_times 23 = .ok (.iload 5, 2) := by decide +kernel
theorem d_Mo_times_25 : decode c_Mo_times 25 = .ok (.iadd, 1) := by decide +kernel
theorem d_Mo_times_26 : decode c_Mo_times 26 = .ok (.if_icmp .ge 14, 3) := by decide +kernel
theorem d_Mo_times_29 : decode c_Mo_times 29 = .ok (.aload_n 3, 1) := by decide +kernel
theorem d_Mo_times_30 : decode c_Mo_times 30 = .ok (.iload 6, 2) := by decide +kernel
theorem d_Mo_times_32 : decode c_Mo_times 32 = .ok (.iconst 0, 1) := by decide +kernel
theorem d_Mo_times_33 : decode c_Mo_times 33 = .ok (.iastore, 1) := by decide +kernel
theorem d_Mo_times_34 : decode c_Mo_times 34 = .ok (.iinc 6 1, 3) := by decide +kernel
theorem d_Mo_times_37 : decode c_Mo_times 37 = .ok (.goto (-18), 3) := by decide +kernel
theorem d_Mo_times_40 : decode c_Mo_times 40 = .ok (.iconst 0, 1) := by decide +kernel
theorem d_Mo_times_41 : decode c_Mo_times 41 = .ok (.istore 6, 2) := by decide +kernel
theorem d_Mo_times_43 : decode c_Mo_times 43 = .ok (.iload 6, 2) := by decide +kernel
theorem d_Mo_times_45 : decode c_Mo_times 45 = .ok (.iload 4, 2) := by decide +kernel
theorem d_Mo_times_47 : decode c_Mo_times 47 = .ok (.if_icmp .ge 104, 3) := by decide +kernel
theorem d_Mo_times_50 : decode c_Mo_times 50 = .ok (.lconst 0, 1) := by decide +kernel
theorem d_Mo_times_51 : decode c_Mo_times 51 = .ok (.lstore 7, 2) := by decide +kernel
theorem d_Mo_times_53 : decode c_Mo_times 53 = .ok (.aload_n 0, 1) := by decide +kernel
theorem d_Mo_times_54 : decode c_Mo_times 54 = .ok (.getfield 83, 3) := by decide +kernel
theorem d_Mo_times_57 : decode c_Mo_times 57 = .ok (.iload_n 1, 1) := by decide +kernel
theorem d_Mo_times_58 : decode c_Mo_times 58 = .ok (.bipush 80, 2) := by decide +kernel
theorem d_Mo_times_60 : decode c_Mo_times 60 = .ok (.imul, 1) := by decide +kernel
theorem d_Mo_times_61 : decode c_Mo_times 61 = .ok (.iload 6, 2) := by decide +kernel
theorem d_Mo_times_63 : decode c_Mo_times 63 = .ok (.iadd, 1) := by decide +kernel
theorem d_Mo_times_64 : decode c_Mo_times 64 = .ok (.iaload, 1) := by decide +kernel
theorem d_Mo_times_65 : decode c_Mo_times 65 = .ok (.i2l, 1) := by decide +kernel
theorem d_Mo_times_66 : decode c_Mo_times 66 = .ok (.lstore 9, 2) := by decide +kernel
theorem d_Mo_times_68 : decode c_Mo_times 68 = .ok (.iconst 0, 1) := by decide +kernel
theorem d_Mo_times_69 : decode c_Mo_times 69 = .ok (.istore 11, 2) := by decide +kernel
theorem d_Mo_times_71 : decode c_Mo_times 71 = .ok (.iload 11, 2) := by decide +kernel
theorem d_Mo_times_73 : decode c_Mo_times 73 = .ok (.iload 5, 2) := by decide +kernel
theorem d_Mo_times_75 : decode c_Mo_times 75 = .ok (.if_icmp .ge 60, 3) := by decide +kernel
theorem d_Mo_times_78 : decode c_Mo_times 78 = .ok (.lload 9, 2) := by decide +kernel
theorem d_Mo_times_80 : decode c_Mo_times 80 = .ok (.aload_n 0, 1) := by decide +kernel
theorem d_Mo_times_81 : decode c_Mo_times 81 = .ok (.getfield 83, 3) := by decide +kernel
theorem d_Mo_times_84 : decode c_Mo_times 84 = .ok (.iload_n 2, 1) := by decide +kernel
theorem d_Mo_times_85 : decode c_Mo_times 85 = .ok (.bipush 80, 2) := by decide +kernel
theorem d_Mo_times_87 : decode c_Mo_times 87 = .ok (.imul, 1) := by decide +kernel
theorem d_Mo_times_88 : decode c_Mo_times 88 = .ok (.iload 11, 2) := by decide +kernel
theorem d_Mo_times_90 : decode c_Mo_times 90 = .ok (.iadd, 1) := by decide +kernel
theorem d_Mo_times_91 : decode c_Mo_times 91 = .ok (.iaload, 1) := by decide +kernel
theorem d_Mo_times_92 : decode c_Mo_times 92 = .ok (.i2l, 1) := by decide +kernel
theorem d_Mo_times_93 : decode c_Mo_times 93 = .ok (.lmul, 1) := by decide +kernel
theorem d_Mo_times_94 : decode c_Mo_times 94 = .ok (.aload_n 3, 1) := by decide +kernel
theorem d_Mo_times_95 : decode c_Mo_times 95 = .ok (.iload 6, 2) := by decide +kernel
theorem d_Mo_times_97 : decode c_Mo_times 97 = .ok (.iload 11, 2) := by decide +kernel
theorem d_Mo_times_99 : decode c_Mo_times 99 = .ok (.iadd, 1) := by decide +kernel
theorem d_Mo_times_100 : decode c_Mo_times 100 = .ok (.iaload, 1) := by decide +kernel
theorem d_Mo_times_101 : decode c_Mo_times 101 = .ok (.i2l, 1) := by decide +kernel
theorem d_Mo_times_102 : decode c_Mo_times 102 = .ok (.ladd, 1) := by decide +kernel
theorem d_Mo_times_103 : decode c_Mo_times 103 = .ok (.lload 7, 2) := by decide +kernel
theorem d_Mo_times_105 : decode c_Mo_times 105 = .ok (.ladd, 1) := by decide +kernel
theorem d_Mo_times_106 : decode c_Mo_times 106 = .ok (.lstore 12, 2) := by decide +kernel
theorem d_Mo_times_108 : decode c_Mo_times 108 = .ok (.aload_n 3, 1) := by decide +kernel
theorem d_Mo_times_109 : decode c_Mo_times 109 = .ok (.iload 6, 2) := by decide +kernel
theorem d_Mo_times_111 : decode c_Mo_times 111 = .ok (.iload 11, 2) := by decide +kernel
theorem d_Mo_times_113 : decode c_Mo_times 113 = .ok (.iadd, 1) := by decide +kernel
theorem d_Mo_times_114 : decode c_Mo_times 114 = .ok (.lload 12, 2) := by decide +kernel
theorem d_Mo_times_116 : decode c_Mo_times 116 = .ok (.ldc2_w 276, 3) := by decide +kernel
theorem d_Mo_times_119 : decode c_Mo_times 119 = .ok (.land, 1) := by decide +kernel
theorem d_Mo_times_120 : decode c_Mo_times 120 = .ok (.l2i, 1) := by decide +kernel
theorem d_Mo_times_121 : decode c_Mo_times 121 = .ok (.iastore, 1) := by decide +kernel
theorem d_Mo_times_122 : decode c_Mo_times 122 = .ok (.lload 12, 2) := by decide +kernel
theorem d_Mo_times_124 : decode c_Mo_times 124 = .ok (.bipush 16, 2) := by decide +kernel
theorem d_Mo_times_126 : decode c_Mo_times 126 = .ok (.lshr, 1) := by decide +kernel
theorem d_Mo_times_127 : decode c_Mo_times 127 = .ok (.lstore 7, 2) := by decide +kernel
theorem d_Mo_times_129 : decode c_Mo_times 129 = .ok (.iinc 11 1, 3) := by decide +kernel
theorem d_Mo_times_132 : decode c_Mo_times 132 = .ok (.goto (-61), 3) := by decide +kernel
theorem d_Mo_times_135 : decode c_Mo_times 135 = .ok (.aload_n 3, 1) := by decide +kernel
theorem d_Mo_times_136 : decode c_Mo_times 136 = .ok (.iload 6, 2) := by decide +kernel
theorem d_Mo_times_138 : decode c_Mo_times 138 = .ok (.iload 5, 2) := by decide +kernel
theorem d_Mo_times_140 : decode c_Mo_times 140 = .ok (.iadd, 1) := by decide +kernel
theorem d_Mo_times_141 : decode c_Mo_times 141 = .ok (.lload 7, 2) := by decide +kernel
theorem d_Mo_times_143 : decode c_Mo_times 143 = .ok (.l2i, 1) := by decide +kernel
theorem d_Mo_times_144 : decode c_Mo_times 144 = .ok (.iastore, 1) := by decide +kernel
theorem d_Mo_times_145 : decode c_Mo_times 145 = .ok (.iinc 6 1, 3) := by decide +kernel
theorem d_Mo_times_148 : decode c_Mo_times 148 = .ok (.goto (-105), 3) := by decide +kernel
theorem d_Mo_times_151 : decode c_Mo_times 151 = .ok (.aload_n 3, 1) := by decide +kernel
theorem d_Mo_times_152 : decode c_Mo_times 152 = .ok (.iload 4, 2) := by decide +kernel
theorem d_Mo_times_154 : decode c_Mo_times 154 = .ok (.iload 5, 2) := by decide +kernel
theorem d_Mo_times_156 : decode c_Mo_times 156 = .ok (.iadd, 1) := by decide +kernel
theorem d_Mo_times_157 : decode c_Mo_times 157 = .ok (.invokestatic 278, 3) := by decide +kernel
theorem d_Mo_times_160 : decode c_Mo_times 160 = .ok (.ireturn, 1) := by decide +kernel
set_option maxRecDepth 100000 in
set_option maxHeartbeats 8000000 in
/-- times(x, y, tt) -/
theorem g_Mo_times (l : Launch) (G : va_G) (k : Nat → ClassId) (h0 s0 tt x y : Nat) (ma : Nat → Nat) (iv : Nat → Int32) (co : Int64) (dg sz T : Nat → Nat) (hx9 : x < 3998) (hy9 : y < 3998) (hsx : sz x ≤ 80) (hsy : sz y ≤ 80) (hdg : ∀ i, i < 319840 → dg i < 65536) (hT : ∀ i, i < 170 → T i < 65536) : CI l y_Mo_times c_Mo_times 14 .int { frames := 1, cells := 0, slots := 0, locals := 40 } [.ref h0, .int (nI x), .int (nI y), .ref tt] G k s0 [(h0, .inr (8, moL ma iv co)), ((ma 21), .inl (k 0, 319840, .inl (fun i => nI (dg i)))), ((ma 22), .inl (k 0, 3998, .inl (fun i => nI (sz i)))), (tt, .inl (k 0, 170, .inl (fun i => nI (T i))))] (fun (r : Int32) (U : Nat → Nat) => r = nI (cutN (fun i => nI (U i)) (sz x + sz y)) ∧ vl 65536 U (sz x + sz y) = vl 65536 (fun i => dg (x * 80 + i)) (sz x) * vl 65536 (fun i => dg (y * 80 + i)) (sz y) ∧ (∀ i, i < 170 → U i < 65536) ∧ ∀ i, (sz x + sz y) ≤ i → U i = T i) (fun U => [(h0, .inr (8, moL ma iv co)), ((ma 21), .inl (k 0, 319840, .inl (fun i => nI (dg i)))), ((ma 22), .inl (k 0, 3998, .inl (fun i => nI (sz i)))), (tt, .inl (k 0, 170, .inl (fun i => nI (U i))))]) 0 0 := by
  refine met_start (by decide) (Nat.le_of_ble_eq_true rfl) ?_
  intro p e s m below meth c C K hA hsz S ls hl
  generalize va_A [(h0, .inr (8, moL ma iv co)), ((ma 21), .inl (k 0, 319840, .inl (fun i => nI (dg i)))), ((ma 22), .inl (k 0, 3998, .inl (fun i => nI (sz i)))), (tt, .inl (k 0, 170, .inl (fun i => nI (T i))))] s0 = A at hA S ⊢
  have hx := C.1
  have hb := C.2.1
  have hl : lv_has ls 14 [(0, .ref h0), (1, .int (nI x)), (2, .int (nI y)), (3, .ref tt)] := hl
  generalize hX : (fun i => dg (x * 80 + i)) = gx
  generalize hY : (fun i => dg (y * 80 + i)) = gy
  have ex : ∀ i, dg (x * 80 + i) = gx i := fun i => by rw [← hX]
  have ey : ∀ i, dg (y * 80 + i) = gy i := fun i => by rw [← hY]
  have dx : ∀ i, i < 80 → gx i < 65536 := fun i hi => by rw [← ex]; exact hdg _ (by omega)
  have dy : ∀ i, i < 80 → gy i < 65536 := fun i hi => by rw [← ey]; exact hdg _ (by omega)
  have loop2 : ∀ d i, i + d = sz x → ∀ U : Nat → Nat, (vl 65536 U (sz x + sz y) = vl 65536 gx i * vl 65536 gy (sz y) ∧ (∀ n, n < 170 → U n < 65536) ∧ (∀ n, i + sz y ≤ n → n < (sz x + sz y) → U n = 0) ∧ ∀ n, (sz x + sz y) ≤ n → U n = T n) → ∀ (H : Heap) (locs : List Loc), Sw G A s.heap H locs [(h0, .inr (8, moL ma iv co)), ((ma 21), .inl (k 0, 319840, .inl (fun i => nI (dg i)))), ((ma 22), .inl (k 0, 3998, .inl (fun i => nI (sz i)))), (tt, .inl (k 0, 170, .inl (fun i => nI (U i))))] → ∀ ls : Array Slot, lv_has ls 14 [(6, .int (nI i)), (5, .int (nI (sz y))), (4, .int (nI (sz x))), (0, .ref h0), (1, .int (nI x)), (2, .int (nI y)), (3, .ref tt)] → W p l e { frames := 1, cells := 0, slots := 0, locals := 40 } s m [Value.ref h0, Value.int (nI x), Value.int (nI y), Value.ref tt].toArray below meth c H locs 0 0 (MQ below (va_Qi (fun (r : Int32) (U : Nat → Nat) => r = nI (cutN (fun i => nI (U i)) (sz x + sz y)) ∧ vl 65536 U (sz x + sz y) = vl 65536 gx (sz x) * vl 65536 gy (sz y) ∧ (∀ i, i < 170 → U i < 65536) ∧ ∀ i, (sz x + sz y) ≤ i → U i = T i) (Po G k A (fun U => [(h0, .inr (8, moL ma iv co)), ((ma 21), .inl (k 0, 319840, .inl (fun i => nI (dg i)))), ((ma 22), .inl (k 0, 3998, .inl (fun i => nI (sz i)))), (tt, .inl (k 0, 170, .inl (fun i => nI (U i))))])) A) [Value.ref h0, Value.int (nI x), Value.int (nI y), Value.ref tt].toArray s 0 0 A) (F0 m 43 ls []) := by
    intro d
    induction d with
    | zero =>
      intro i hi U hI H locs S ls hl
      obtain rfl : i = sz x := by omega
      refine lv_iload hx hb d_Mo_times_43 (lv_at hl 0 rfl) ?_
      refine lv_iload hx hb d_Mo_times_45 (lv_at hl 2 rfl) ?_
      refine lv_icmp_ge (tgt := 151) hx hb d_Mo_times_47 (by decide) (fun _ => ?_) (fun hq => absurd (nI_le (Nat.le_refl _) (by omega)) hq)
      refine lv_aload_n hx hb d_Mo_times_151 rfl (lv_at hl 6 rfl) ?_
      refine lv_iload hx hb d_Mo_times_152 (lv_at hl 2 rfl) ?_
      refine lv_iload hx hb d_Mo_times_154 (lv_at hl 1 rfl) ?_
      refine lv_iadd hx hb d_Mo_times_156 ?_
      rw [nI_add]
      refine r_backi (wi := [(tt, .inl (k 0, 170, .inl (fun i => nI (U i))))]) (wr := [(h0, .inr (8, moL ma iv co)), ((ma 21), .inl (k 0, 319840, .inl (fun i => nI (dg i)))), ((ma 22), .inl (k 0, 3998, .inl (fun i => nI (sz i))))]) S hA [3] [0, 1, 2] rfl rfl (by decide) (by decide) (va_runS (As := [.ref tt, .int (nI (sz x + sz y))]) (rest := []) ⟨hx, hb, C.2.2.1, C.2.2.2.1, C.2.2.2.2.1⟩ (k_Mo_cut2 l G k tt _ 170 (sz x + sz y) (fun i => nI (U i)) (by omega) (by decide)) (k_stat (n := 2) C wc_Mo_cut2 rfl rfl wz_Mo wm_Mo_278 wt_Mo_cut2 (by decide +kernel) ⟨(Nat.le_of_ble_eq_true rfl), (Nat.le_of_ble_eq_true rfl)⟩) (pr_now K S [3] (by decide) rfl) rfl rfl hl.1 rfl (lv_room (Nat.le_of_ble_eq_true rfl)) d_Mo_times_157 ⟨(Nat.le_of_ble_eq_true rfl), (Nat.le_of_ble_eq_true rfl)⟩) (fun r3 u1 H locs hw2 S => ?_)
      have S : Sw G A s.heap _ _ [(h0, .inr (8, moL ma iv co)), ((ma 21), .inl (k 0, 319840, .inl (fun i => nI (dg i)))), ((ma 22), .inl (k 0, 3998, .inl (fun i => nI (sz i)))), (tt, .inl (k 0, 170, .inl (fun i => nI (U i))))] := S
      exact r_iret C K rfl U ⟨hw2, hI.1, hI.2.1, hI.2.2.2⟩ (S.sub [0, 1, 2, 3] (by decide) rfl) d_Mo_times_160 (Nat.le_of_ble_eq_true rfl) (Nat.le_of_ble_eq_true rfl)
    | succ d ih =>
      intro i hi U hI H locs S ls hl
      have di := dx i (by omega)
      have loop3 : ∀ f j, j + f = sz y → ∀ (U : Nat → Nat) (c9 : Nat), (vl 65536 U (sz x + sz y) + c9 * 65536 ^ (i + j) = vl 65536 gx i * vl 65536 gy (sz y) + gx i * vl 65536 gy j * 65536 ^ i ∧ c9 < 65536 ∧ (∀ n, n < 170 → U n < 65536) ∧ (∀ n, i + sz y ≤ n → n < (sz x + sz y) → U n = 0) ∧ ∀ n, (sz x + sz y) ≤ n → U n = T n) → ∀ (H : Heap) (locs : List Loc), Sw G A s.heap H locs [(h0, .inr (8, moL ma iv co)), ((ma 21), .inl (k 0, 319840, .inl (fun i => nI (dg i)))), ((ma 22), .inl (k 0, 3998, .inl (fun i => nI (sz i)))), (tt, .inl (k 0, 170, .inl (fun i => nI (U i))))] → ∀ ls : Array Slot, lv_has ls 14 [(11, .int (nI j)), (9, .long (lN (gx i))), (7, .long (lN c9)), (6, .int (nI i)), (5, .int (nI (sz y))), (4, .int (nI (sz x))), (0, .ref h0), (1, .int (nI x)), (2, .int (nI y)), (3, .ref tt)] → W p l e { frames := 1, cells := 0, slots := 0, locals := 40 } s m [Value.ref h0, Value.int (nI x), Value.int (nI y), Value.ref tt].toArray below meth c H locs 0 0 (MQ below (va_Qi (fun (r : Int32) (U : Nat → Nat) => r = nI (cutN (fun i => nI (U i)) (sz x + sz y)) ∧ vl 65536 U (sz x + sz y) = vl 65536 gx (sz x) * vl 65536 gy (sz y) ∧ (∀ i, i < 170 → U i < 65536) ∧ ∀ i, (sz x + sz y) ≤ i → U i = T i) (Po G k A (fun U => [(h0, .inr (8, moL ma iv co)), ((ma 21), .inl (k 0, 319840, .inl (fun i => nI (dg i)))), ((ma 22), .inl (k 0, 3998, .inl (fun i => nI (sz i)))), (tt, .inl (k 0, 170, .inl (fun i => nI (U i))))])) A) [Value.ref h0, Value.int (nI x), Value.int (nI y), Value.ref tt].toArray s 0 0 A) (F0 m 71 ls []) := by
        intro f
        induction f with
        | zero =>
          intro j hj U c9 hI H locs S ls hl
          obtain rfl : j = sz y := by omega
          refine lv_iload hx hb d_Mo_times_71 (lv_at hl 0 rfl) ?_
          refine lv_iload hx hb d_Mo_times_73 (lv_at hl 4 rfl) ?_
          refine lv_icmp_ge (tgt := 135) hx hb d_Mo_times_75 (by decide) (fun _ => ?_) (fun hq => absurd (nI_le (Nat.le_refl _) (by omega)) hq)
          refine lv_aload_n hx hb d_Mo_times_135 rfl (lv_at hl 9 rfl) ?_
          refine lv_iload hx hb d_Mo_times_136 (lv_at hl 3 rfl) ?_
          refine lv_iload hx hb d_Mo_times_138 (lv_at hl 4 rfl) ?_
          refine lv_iadd hx hb d_Mo_times_140 ?_
          rw [nI_add]
          refine lv_lload hx hb d_Mo_times_141 (lv_at hl 2 rfl) ?_
          refine lv_l2i (v := (nI c9)) hx hb d_Mo_times_143 (lN_i c9) ?_
          refine r_iast C K S 3 rfl (i := nI (i + sz y)) (x := (nI c9)) (vp_in_nI (by omega) (by decide)) (f' := fun n => nI (va_up U (i + sz y) c9 n)) (ws' := [(h0, .inr (8, moL ma iv co)), ((ma 21), .inl (k 0, 319840, .inl (fun i => nI (dg i)))), ((ma 22), .inl (k 0, 3998, .inl (fun i => nI (sz i)))), (tt, .inl (k 0, 170, .inl (fun n => nI (va_up U (i + sz y) c9 n))))]) (upd_nI U (by omega) c9) rfl d_Mo_times_144 (fun H locs S => ?_)
          refine lv_iinc (v := nI (i + 1)) (lv' := [(6, .int (nI (i + 1))), (11, .int (nI (sz y))), (9, .long (lN (gx i))), (7, .long (lN c9)), (5, .int (nI (sz y))), (4, .int (nI (sz x))), (0, .ref h0), (1, .int (nI x)), (2, .int (nI y)), (3, .ref tt)]) hx hb d_Mo_times_145 hl (k := 3) rfl (nI_1 i) (by decide) rfl (fun ls hl => ?_)
          refine lv_goto (tgt := 43) hx hb d_Mo_times_148 (by decide) ?_
          refine ih (i + 1) (by omega) (va_up U (i + sz y) c9) ⟨?_, ?_, ?_, ?_⟩ _ _ S ls (lv_sub hl [0, 4, 5, 6, 7, 8, 9] rfl)
          · have h1 := vl_up (B := 65536) (g := U) (j := i + sz y) (v := c9) (sz x + sz y) (by omega)
            have h2 := hI.2.2.2.1 (i + sz y) (by omega) (by omega)
            rw [h2, Nat.zero_mul, Nat.add_zero] at h1
            rw [h1, hI.1, vl_s, Nat.add_mul, Nat.mul_right_comm (gx i)]
          · intro n hn
            by_cases w : n = i + sz y
            · rw [w, va_up_self]; exact hI.2.1
            · rw [va_up_ne U c9 w]; exact hI.2.2.1 n hn
          · intro n h1 h2
            rw [va_up_ne U c9 (by omega)]
            exact hI.2.2.2.1 n (by omega) h2
          · intro n h1
            rw [va_up_ne U c9 (by omega)]
            exact hI.2.2.2.2 n h1
        | succ f ih3 =>
          intro j hj U c9 hI H locs S ls hl
          have dj := dy j (by omega)
          have du := hI.2.2.1 (i + j) (by omega)
          have dc := hI.2.1
          have hm : gx i * gy j ≤ 65535 * 65535 := Nat.mul_le_mul (by omega) (by omega)
          refine lv_iload hx hb d_Mo_times_71 (lv_at hl 0 rfl) ?_
          refine lv_iload hx hb d_Mo_times_73 (lv_at hl 4 rfl) ?_
          refine lv_icmp_ge (tgt := 135) hx hb d_Mo_times_75 (by decide) (fun hq => absurd hq (nI_ge (by omega) (by omega))) (fun _ => ?_)
          refine lv_lload hx hb d_Mo_times_78 (lv_at hl 1 rfl) ?_
          refine lv_aload_n hx hb d_Mo_times_80 rfl (lv_at hl 6 rfl) ?_
          refine r_get C K S 0 rfl rfl clOk_Mo 41 (by decide) wf_Mo_83 (v := .ref (ma 21)) rfl d_Mo_times_81 ?_
          refine lv_iload_n hx hb d_Mo_times_84 rfl (lv_at hl 8 rfl) ?_
          refine lv_bipush (v := 80) hx hb d_Mo_times_85 (by decide) ?_
          refine lv_imul hx hb d_Mo_times_87 ?_
          rw [show nI y * (80 : Int32) = nI (y * 80) from pk_mul y 80]
          refine lv_iload hx hb d_Mo_times_88 (lv_at hl 0 rfl) ?_
          refine lv_iadd hx hb d_Mo_times_90 ?_
          rw [nI_add]
          refine r_iald C K S 1 rfl (i := nI (y * 80 + j)) (vp_in_nI (by omega) (by decide)) (v := (nI (gy j))) (by rw [nI_clamp (by omega), ey]) d_Mo_times_91 ?_
          refine lv_i2l (v := (lN (gy j))) hx hb d_Mo_times_92 (nI_l (by omega)) ?_
          refine lv_lmul hx hb d_Mo_times_93 ?_
          rw [lN_mul]
          refine lv_aload_n hx hb d_Mo_times_94 rfl (lv_at hl 9 rfl) ?_
          refine lv_iload hx hb d_Mo_times_95 (lv_at hl 3 rfl) ?_
          refine lv_iload hx hb d_Mo_times_97 (lv_at hl 0 rfl) ?_
          refine lv_iadd hx hb d_Mo_times_99 ?_
          rw [nI_add]
          refine r_iald C K S 3 rfl (i := nI (i + j)) (vp_in_nI (by omega) (by decide)) (v := (nI (U (i + j)))) (by rw [nI_clamp (by omega)]) d_Mo_times_100 ?_
          refine lv_i2l (v := (lN (U (i + j)))) hx hb d_Mo_times_101 (nI_l (by omega)) ?_
          refine lv_ladd hx hb d_Mo_times_102 ?_
          rw [lN_add]
          refine lv_lload hx hb d_Mo_times_103 (lv_at hl 2 rfl) ?_
          refine lv_ladd hx hb d_Mo_times_105 ?_
          rw [lN_add]
          refine lv_lstore (lv' := [(12, .long (lN (gx i * gy j + U (i + j) + c9))), (11, .int (nI j)), (9, .long (lN (gx i))), (7, .long (lN c9)), (6, .int (nI i)), (5, .int (nI (sz y))), (4, .int (nI (sz x))), (0, .ref h0), (1, .int (nI x)), (2, .int (nI y)), (3, .ref tt)]) hx hb d_Mo_times_106 hl (by decide) rfl (fun ls hl => ?_)
          refine lv_aload_n hx hb d_Mo_times_108 rfl (lv_at hl 10 rfl) ?_
          refine lv_iload hx hb d_Mo_times_109 (lv_at hl 4 rfl) ?_
          refine lv_iload hx hb d_Mo_times_111 (lv_at hl 1 rfl) ?_
          refine lv_iadd hx hb d_Mo_times_113 ?_
          rw [nI_add]
          refine lv_lload hx hb d_Mo_times_114 (lv_at hl 0 rfl) ?_
          refine lv_ldc2 (v := 65535) hx hb C.2.2.2.1 (C.2.2.2.2.1 _ wk_Mo_276) d_Mo_times_116 ?_
          refine lv_land hx hb d_Mo_times_119 ?_
          rw [show lN (gx i * gy j + U (i + j) + c9) &&& (65535 : Int64) = lN ((gx i * gy j + U (i + j) + c9) % 65536) from g_mask (s := 16) (p := 65536) (by decide) (by decide) (by omega)]
          refine lv_l2i (v := (nI ((gx i * gy j + U (i + j) + c9) % 65536))) hx hb d_Mo_times_120 (lN_i _) ?_
          refine r_iast C K S 3 rfl (i := nI (i + j)) (x := (nI ((gx i * gy j + U (i + j) + c9) % 65536))) (vp_in_nI (by omega) (by decide)) (f' := fun n => nI (va_up U (i + j) ((gx i * gy j + U (i + j) + c9) % 65536) n)) (ws' := [(h0, .inr (8, moL ma iv co)), ((ma 21), .inl (k 0, 319840, .inl (fun i => nI (dg i)))), ((ma 22), .inl (k 0, 3998, .inl (fun i => nI (sz i)))), (tt, .inl (k 0, 170, .inl (fun n => nI (va_up U (i + j) ((gx i * gy j + U (i + j) + c9) % 65536) n))))]) (upd_nI U (by omega) _) rfl d_Mo_times_121 (fun H locs S => ?_)
          refine lv_lload hx hb d_Mo_times_122 (lv_at hl 0 rfl) ?_
          refine lv_bipush (v := 16) hx hb d_Mo_times_124 (by decide) ?_
          refine lv_lshr (v := (lN ((gx i * gy j + U (i + j) + c9) / 65536))) hx hb d_Mo_times_126 (pf_shr (d := 16) (by decide) (by omega)) ?_
          refine lv_lstore (lv' := [(7, .long (lN ((gx i * gy j + U (i + j) + c9) / 65536))), (12, .long (lN (gx i * gy j + U (i + j) + c9))), (11, .int (nI j)), (9, .long (lN (gx i))), (6, .int (nI i)), (5, .int (nI (sz y))), (4, .int (nI (sz x))), (0, .ref h0), (1, .int (nI x)), (2, .int (nI y)), (3, .ref tt)]) hx hb d_Mo_times_127 hl (by decide) rfl (fun ls hl => ?_)
          refine lv_iinc (v := nI (j + 1)) (lv' := [(11, .int (nI (j + 1))), (7, .long (lN ((gx i * gy j + U (i + j) + c9) / 65536))), (12, .long (lN (gx i * gy j + U (i + j) + c9))), (9, .long (lN (gx i))), (6, .int (nI i)), (5, .int (nI (sz y))), (4, .int (nI (sz x))), (0, .ref h0), (1, .int (nI x)), (2, .int (nI y)), (3, .ref tt)]) hx hb d_Mo_times_129 hl (k := 2) rfl (nI_1 j) (by decide) rfl (fun ls hl => ?_)
          refine lv_goto (tgt := 71) hx hb d_Mo_times_132 (by decide) ?_
          refine ih3 (j + 1) (by omega) (va_up U (i + j) ((gx i * gy j + U (i + j) + c9) % 65536)) ((gx i * gy j + U (i + j) + c9) / 65536) ⟨?_, vl_mul_lt di dj du dc, ?_, ?_, ?_⟩ _ _ S ls (lv_sub hl [0, 3, 1, 4, 5, 6, 7, 8, 9, 10] rfl)
          · have h1 := vl_mul_step (d := gx i) (y := gy j) (N := (sz x + sz y)) (p := i + j) (by omega) hI.1
            rw [Nat.add_assoc i j 1] at h1
            rw [h1, vl_s, Nat.mul_add, Nat.add_mul, Nat.pow_add]
            rw [show gx i * (gy j * 65536 ^ j) * 65536 ^ i = gx i * gy j * (65536 ^ i * 65536 ^ j) by rw [← Nat.mul_assoc, Nat.mul_assoc (gx i * gy j), Nat.mul_comm (65536 ^ j)]]
            omega
          · intro n hn
            by_cases w : n = i + j
            · rw [w, va_up_self]; exact Nat.mod_lt _ (by decide)
            · rw [va_up_ne U _ w]; exact hI.2.2.1 n hn
          · intro n h1 h2
            rw [va_up_ne U _ (by omega)]
            exact hI.2.2.2.1 n h1 h2
          · intro n h1
            rw [va_up_ne U _ (by omega)]
            exact hI.2.2.2.2 n h1
      refine lv_iload hx hb d_Mo_times_43 (lv_at hl 0 rfl) ?_
      refine lv_iload hx hb d_Mo_times_45 (lv_at hl 2 rfl) ?_
      refine lv_icmp_ge (tgt := 151) hx hb d_Mo_times_47 (by decide) (fun hq => absurd hq (nI_ge (by omega) (by omega))) (fun _ => ?_)
      refine lv_lconst (v := 0) hx hb d_Mo_times_50 (by decide) ?_
      refine lv_lstore (lv' := [(7, .long 0), (6, .int (nI i)), (5, .int (nI (sz y))), (4, .int (nI (sz x))), (0, .ref h0), (1, .int (nI x)), (2, .int (nI y)), (3, .ref tt)]) hx hb d_Mo_times_51 hl (by decide) rfl (fun ls hl => ?_)
      refine lv_aload_n hx hb d_Mo_times_53 rfl (lv_at hl 4 rfl) ?_
      refine r_get C K S 0 rfl rfl clOk_Mo 41 (by decide) wf_Mo_83 (v := .ref (ma 21)) rfl d_Mo_times_54 ?_
      refine lv_iload_n hx hb d_Mo_times_57 rfl (lv_at hl 5 rfl) ?_
      refine lv_bipush (v := 80) hx hb d_Mo_times_58 (by decide) ?_
      refine lv_imul hx hb d_Mo_times_60 ?_
      rw [show nI x * (80 : Int32) = nI (x * 80) from pk_mul x 80]
      refine lv_iload hx hb d_Mo_times_61 (lv_at hl 1 rfl) ?_
      refine lv_iadd hx hb d_Mo_times_63 ?_
      rw [nI_add]
      refine r_iald C K S 1 rfl (i := nI (x * 80 + i)) (vp_in_nI (by omega) (by decide)) (v := (nI (gx i))) (by rw [nI_clamp (by omega), ex]) d_Mo_times_64 ?_
      refine lv_i2l (v := (lN (gx i))) hx hb d_Mo_times_65 (nI_l (by omega)) ?_
      refine lv_lstore (lv' := [(9, .long (lN (gx i))), (7, .long 0), (6, .int (nI i)), (5, .int (nI (sz y))), (4, .int (nI (sz x))), (0, .ref h0), (1, .int (nI x)), (2, .int (nI y)), (3, .ref tt)]) hx hb d_Mo_times_66 hl (by decide) rfl (fun ls hl => ?_)
      refine lv_iconst (v := 0) hx hb d_Mo_times_68 (by decide) ?_
      refine lv_istore (lv' := [(11, .int 0), (9, .long (lN (gx i))), (7, .long 0), (6, .int (nI i)), (5, .int (nI (sz y))), (4, .int (nI (sz x))), (0, .ref h0), (1, .int (nI x)), (2, .int (nI y)), (3, .ref tt)]) hx hb d_Mo_times_69 hl (by decide) rfl (fun ls hl => ?_)
      refine loop3 (sz y) 0 (by omega) U 0 ⟨?_, by omega, hI.2.1, hI.2.2.1, hI.2.2.2⟩ _ _ S ls (lv_sub hl [0, 1, 2, 3, 4, 5, 6, 7, 8, 9] rfl)
      rw [hI.1]
      simp [vl]
  have loop1 : ∀ d t, t + d = (sz x + sz y) → ∀ (H : Heap) (locs : List Loc), Sw G A s.heap H locs [(h0, .inr (8, moL ma iv co)), ((ma 21), .inl (k 0, 319840, .inl (fun i => nI (dg i)))), ((ma 22), .inl (k 0, 3998, .inl (fun i => nI (sz i)))), (tt, .inl (k 0, 170, .inl (fun i => nI (zr T t i))))] → ∀ ls : Array Slot, lv_has ls 14 [(6, .int (nI t)), (5, .int (nI (sz y))), (4, .int (nI (sz x))), (0, .ref h0), (1, .int (nI x)), (2, .int (nI y)), (3, .ref tt)] → W p l e { frames := 1, cells := 0, slots := 0, locals := 40 } s m [Value.ref h0, Value.int (nI x), Value.int (nI y), Value.ref tt].toArray below meth c H locs 0 0 (MQ below (va_Qi (fun (r : Int32) (U : Nat → Nat) => r = nI (cutN (fun i => nI (U i)) (sz x + sz y)) ∧ vl 65536 U (sz x + sz y) = vl 65536 gx (sz x) * vl 65536 gy (sz y) ∧ (∀ i, i < 170 → U i < 65536) ∧ ∀ i, (sz x + sz y) ≤ i → U i = T i) (Po G k A (fun U => [(h0, .inr (8, moL ma iv co)), ((ma 21), .inl (k 0, 319840, .inl (fun i => nI (dg i)))), ((ma 22), .inl (k 0, 3998, .inl (fun i => nI (sz i)))), (tt, .inl (k 0, 170, .inl (fun i => nI (U i))))])) A) [Value.ref h0, Value.int (nI x), Value.int (nI y), Value.ref tt].toArray s 0 0 A) (F0 m 19 ls []) := by
    intro d
    induction d with
    | zero =>
      intro t ht H locs S ls hl
      obtain rfl : t = (sz x + sz y) := by omega
      refine lv_iload hx hb d_Mo_times_19 (lv_at hl 0 rfl) ?_
      refine lv_iload hx hb d_Mo_times_21 (lv_at hl 2 rfl) ?_
      refine lv_iload hx hb d_Mo_times_23 (lv_at hl 1 rfl) ?_
      refine lv_iadd hx hb d_Mo_times_25 ?_
      rw [nI_add]
      refine lv_icmp_ge (tgt := 40) hx hb d_Mo_times_26 (by decide) (fun _ => ?_) (fun hq => absurd (nI_le (Nat.le_refl _) (by omega)) hq)
      refine lv_iconst (v := 0) hx hb d_Mo_times_40 (by decide) ?_
      refine lv_istore (lv' := [(6, .int 0), (5, .int (nI (sz y))), (4, .int (nI (sz x))), (0, .ref h0), (1, .int (nI x)), (2, .int (nI y)), (3, .ref tt)]) hx hb d_Mo_times_41 hl (by decide) rfl (fun ls hl => ?_)
      refine loop2 (sz x) 0 (by omega) (zr T (sz x + sz y)) ⟨?_, ?_, ?_, ?_⟩ _ _ S ls hl
      · rw [vl_0 (g := zr T (sz x + sz y)) _ (fun n hn => if_pos hn)]
        simp [vl]
      · intro n hn
        unfold zr
        split
        · decide
        · exact hT n hn
      · intro n h1 h2
        exact if_pos h2
      · intro n h1
        exact if_neg (by omega)
    | succ d ih =>
      intro t ht H locs S ls hl
      refine lv_iload hx hb d_Mo_times_19 (lv_at hl 0 rfl) ?_
      refine lv_iload hx hb d_Mo_times_21 (lv_at hl 2 rfl) ?_
      refine lv_iload hx hb d_Mo_times_23 (lv_at hl 1 rfl) ?_
      refine lv_iadd hx hb d_Mo_times_25 ?_
      rw [nI_add]
      refine lv_icmp_ge (tgt := 40) hx hb d_Mo_times_26 (by decide) (fun hq => absurd hq (nI_ge (by omega) (by omega))) (fun _ => ?_)
      refine lv_aload_n hx hb d_Mo_times_29 rfl (lv_at hl 6 rfl) ?_
      refine lv_iload hx hb d_Mo_times_30 (lv_at hl 0 rfl) ?_
      refine lv_iconst (v := 0) hx hb d_Mo_times_32 (by decide) ?_
      refine r_iast C K S 3 rfl (i := (nI t)) (x := 0) (vp_in_nI (by omega) (by decide)) (f' := fun n => nI (zr T (t + 1) n)) (ws' := [(h0, .inr (8, moL ma iv co)), ((ma 21), .inl (k 0, 319840, .inl (fun i => nI (dg i)))), ((ma 22), .inl (k 0, 3998, .inl (fun i => nI (sz i)))), (tt, .inl (k 0, 170, .inl (fun n => nI (zr T (t + 1) n))))]) (by rw [← zr_s]; exact upd_nI (zr T t) (by omega) 0) rfl d_Mo_times_33 (fun H locs S => ?_)
      refine lv_iinc (v := nI (t + 1)) (lv' := [(6, .int (nI (t + 1))), (5, .int (nI (sz y))), (4, .int (nI (sz x))), (0, .ref h0), (1, .int (nI x)), (2, .int (nI y)), (3, .ref tt)]) hx hb d_Mo_times_34 hl (k := 0) rfl (nI_1 t) (by decide) rfl (fun ls hl => ?_)
      refine lv_goto (tgt := 19) hx hb d_Mo_times_37 (by decide) ?_
      exact ih (t + 1) (by omega) _ _ S ls hl
  refine lv_aload_n hx hb d_Mo_times_0 rfl (lv_at hl 0 rfl) ?_
  refine r_get C K S 0 rfl rfl clOk_Mo 42 (by decide) wf_Mo_86 (v := .ref (ma 22)) rfl d_Mo_times_1 ?_
  refine lv_iload_n hx hb d_Mo_times_4 rfl (lv_at hl 1 rfl) ?_
  refine r_iald C K S 2 rfl (i := (nI x)) (vp_in_nI (by omega) (by decide)) (v := (nI (sz x))) (by rw [nI_clamp (by omega)]) d_Mo_times_5 ?_
  refine lv_istore (lv' := [(4, .int (nI (sz x))), (0, .ref h0), (1, .int (nI x)), (2, .int (nI y)), (3, .ref tt)]) hx hb d_Mo_times_6 hl (by decide) rfl (fun ls hl => ?_)
  refine lv_aload_n hx hb d_Mo_times_8 rfl (lv_at hl 1 rfl) ?_
  refine r_get C K S 0 rfl rfl clOk_Mo 42 (by decide) wf_Mo_86 (v := .ref (ma 22)) rfl d_Mo_times_9 ?_
  refine lv_iload_n hx hb d_Mo_times_12 rfl (lv_at hl 3 rfl) ?_
  refine r_iald C K S 2 rfl (i := (nI y)) (vp_in_nI (by omega) (by decide)) (v := (nI (sz y))) (by rw [nI_clamp (by omega)]) d_Mo_times_13 ?_
  refine lv_istore (lv' := [(5, .int (nI (sz y))), (4, .int (nI (sz x))), (0, .ref h0), (1, .int (nI x)), (2, .int (nI y)), (3, .ref tt)]) hx hb d_Mo_times_14 hl (by decide) rfl (fun ls hl => ?_)
  refine lv_iconst (v := 0) hx hb d_Mo_times_16 (by decide) ?_
  refine lv_istore (lv' := [(6, .int 0), (5, .int (nI (sz y))), (4, .int (nI (sz x))), (0, .ref h0), (1, .int (nI x)), (2, .int (nI y)), (3, .ref tt)]) hx hb d_Mo_times_17 hl (by decide) rfl (fun ls hl => ?_)
  have S : Sw G A s.heap s.heap [] [(h0, .inr (8, moL ma iv co)), ((ma 21), .inl (k 0, 319840, .inl (fun i => nI (dg i)))), ((ma 22), .inl (k 0, 3998, .inl (fun i => nI (sz i)))), (tt, .inl (k 0, 170, .inl (fun i => nI (zr T 0 i))))] := by rw [zr_0]; exact S
  exact loop1 (sz x + sz y) 0 (by omega) _ _ S ls hl
end
section
theorem nx_and (a b : Nat) : nI a &&& nI b = nI (a &&& b) := by
  apply Int32.toBitVec_inj.mp
  rw [Int32.toBitVec_and]
  show BitVec.ofNat 32 a &&& BitVec.ofNat 32 b = BitVec.ofNat 32 (a &&& b)
  exact (BitVec.ofNat_and ..).symm
theorem nx_mod (k : Nat) : nI k &&& 65535 = nI (k % 65536) := by
  show nI k &&& nI 65535 = _
  rw [nx_and, show (65535 : Nat) = 2 ^ 16 - 1 from rfl, Nat.and_two_pow_sub_one_eq_mod]
theorem nI_wrap (a : Nat) : nI (a + 4294967296) = nI a := by
  apply Int32.toBitVec_inj.mp
  show BitVec.ofNat 32 (a + 4294967296) = BitVec.ofNat 32 a
  apply BitVec.eq_of_toNat_eq
  rw [BitVec.toNat_ofNat, BitVec.toNat_ofNat]
  omega
/-- a digit less a digit and what is borrowed -/
theorem sb_and {a b c : Nat} (ha : a < 65536) (hb : b < 65536) (hc : c ≤ 1) : (nI a - nI b - nI c) &&& 65535 = nI ((a + 65536 - b - c) % 65536) := by
  rw [← nI_wrap a, pk_sub (by omega), pk_sub (by omega), nx_mod]
  congr 1
  omega
theorem sb_sgn {a b c : Nat} (ha : a < 65536) (hb : b < 65536) (hc : c ≤ 1) : 0 ≤ nI a - nI b - nI c ↔ b + c ≤ a := by
  have e : nI a - nI b - nI c = nI a - nI (b + c) := by rw [← nI_add]; simp only [Int32.sub_eq_add_neg, Int32.neg_add, Int32.add_assoc]
  rw [e, Int32.le_iff_toInt_le, pk_sub_toInt (by omega) (by omega), Int32.toInt_zero]
  omega
theorem vl_bb {B : Nat} {g : Nat → Nat} {nb n : Nat} (h : nb ≤ n) : vl B (fun i => if i < nb then g i else 0) n = vl B g nb := by
  rw [vl_zeros n h (fun i h1 _ => if_neg (by omega))]
  exact vl_congr nb (fun i hi => if_pos hi)
theorem d_Mo_subtract_0 : decode c_Mo_subtract 0 = .ok (.iconst 0, 1) := by decide +kernel
theorem d_Mo_subtract_1 : decode c_Mo_subtract 1 = .ok (.istore 5, 2) := by decide +kernel
theorem d_Mo_subtract_3 : decode c_Mo_subtract 3 = .ok (.iconst 0, 1) := by decide +kernel
theorem d_Mo_subtract_4 : decode c_Mo_subtract 4 = .ok (.istore 6, 2) := by decide +kernel
theorem d_Mo_subtract_6 : decode c_Mo_subtract 6 = .ok (.iload 6, 2) := by decide +kernel
theorem d_Mo_subtract_8 : decode c_Mo_subtract 8 = .ok (.iload_n 1, 1) := by decide +kernel
theorem d_Mo_subtract_9 : decode c_Mo_subtract 9 = .ok (.if_icmp .ge 56, 3) := by decide +kernel
theorem d_Mo_subtract_12 : decode c_Mo_subtract 12 = .ok (.aload_n 0, 1) := by decide +kernel
theorem d_Mo_subtract_13 : decode c_Mo_subtract 13 = .ok (.iload 6, 2) := by decide +kernel
theorem d_Mo_subtract_15 : decode c_Mo_subtract 15 = .ok (.iaload, 1) := by decide +kernel
theorem d_Mo_subtract_16 : decode c_Mo_subtract 16 = .ok (.iload 6, 2) := by decide +kernel
theorem d_Mo_subtract_18 : decode c_Mo_subtract 18 = .ok (.iload_n 3, 1) := by decide +kernel
theorem d_Mo_subtract_19 : decode c_Mo_subtract 19 = .ok (.if_icmp .ge 10, 3) := by decide +kernel
theorem d_Mo_subtract_22 : decode c_Mo_subtract 22 = .ok (.aload_n 2, 1) := by decide +kernel
theorem d_Mo_subtract_23 : decode c_Mo_subtract 23 = .ok (.iload 6, 2) := by decide +kernel
theorem d_Mo_subtract_25 : decode c_Mo_subtract 25 = .ok (.iaload, 1) := by decide +kernel
theorem d_Mo_subtract_26 : decode c_Mo_subtract 26 = .ok (.goto 4, 3) := by decide +kernel
theorem d_Mo_subtract_29 : decode c_Mo_subtract 29 = .ok (.iconst 0, 1) := by decide +kernel
theorem d_Mo_subtract_30 : decode c_Mo_subtract 30 = .ok (.isub, 1) := by decide +kernel
theorem d_Mo_subtract_31 : decode c_Mo_subtract 31 = .ok (.iload 5, 2) := by decide +kernel
theorem d_Mo_subtract_33 : decode c_Mo_subtract 33 = .ok (.isub, 1) := by decide +kernel
theorem d_Mo_subtract_34 : decode c_Mo_subtract 34 = .ok (.istore 7, 2) := by decide +kernel
theorem d_Mo_subtract_36 : decode c_Mo_subtract 36 = .ok (.aload 4, 2) := by decide +kernel
theorem d_Mo_subtract_38 : decode c_Mo_subtract 38 = .ok (.iload 6, 2) := by decide +kernel
theorem d_Mo_subtract_40 : decode c_Mo_subtract 40 = .ok (.iload 7, 2) := by decide +kernel
theorem d_Mo_subtract_42 : decode c_Mo_subtract 42 = .ok (.ldc_w 312, 3) := by decide +kernel
theorem d_Mo_subtract_45 : decode c_Mo_subtract 45 = .ok (.iand, 1) := by decide +kernel
theorem d_Mo_subtract_46 : decode c_Mo_subtract 46 = .ok (.iastore, 1) := by decide +kernel
theorem d_Mo_subtract_47 : decode c_Mo_subtract 47 = .ok (.iload 7, 2) := by decide +kernel
theorem d_Mo_subtract_49 : decode c_Mo_subtract 49 = .ok (.ifCond .ge 7, 3) := by decide +kernel
theorem d_Mo_subtract_52 : decode c_Mo_subtract 52 = .ok (.iconst 1, 1) := by decide +kernel
theorem d_Mo_subtract_53 : decode c_Mo_subtract 53 = .ok (.goto 4, 3) := by decide +kernel
theorem d_Mo_subtract_56 : decode c_Mo_subtract 56 = .ok (.iconst 0, 1) := by decide +kernel
theorem d_Mo_subtract_57 : decode c_Mo_subtract 57 = .ok (.istore 5, 2) := by decide +kernel
theorem d_Mo_subtract_59 : decode c_Mo_subtract 59 = .ok (.iinc 6 1, 3) := by decide +kernel
theorem d_Mo_subtract_62 : decode c_Mo_subtract 62 = .ok (.goto (-56), 3) := by decide +kernel
theorem d_Mo_subtract_65 : decode c_Mo_subtract 65 = .ok (.return_, 1) := by decide +kernel
set_option maxRecDepth 100000 in
set_option maxHeartbeats 8000000 in
/-- subtract(x, na, y, nb, x) -/
theorem g_Mo_subtract_a (l : Launch) (G : va_G) (k : Nat → ClassId) (s0 x y na nb : Nat) (ga gb : Nat → Nat) (hna : na ≤ 170) (hnb : nb ≤ na) (hle : vl 65536 gb nb ≤ vl 65536 ga na) (da : ∀ i, i < 170 → ga i < 65536) (db : ∀ i, i < 170 → gb i < 65536) : CV l y_Mo_subtract c_Mo_subtract 8 { frames := 0, cells := 0, slots := 0, locals := 0 } [.ref x, .int (nI na), .ref y, .int (nI nb), .ref x] G k s0 [(x, .inl (k 0, 170, .inl (fun i => nI (ga i)))), (y, .inl (k 0, 170, .inl (fun i => nI (gb i))))] (fun (U : Nat → Nat) => vl 65536 U na + vl 65536 gb nb = vl 65536 ga na ∧ (∀ i, i < 170 → U i < 65536) ∧ ∀ i, na ≤ i → U i = ga i) (fun U => [(x, .inl (k 0, 170, .inl (fun i => nI (U i)))), (y, .inl (k 0, 170, .inl (fun i => nI (gb i))))]) 0 0 := by
  refine met_start (by decide) (Nat.le_of_ble_eq_true rfl) ?_
  intro p e s m below meth c C K hA hsz S ls hl
  generalize va_A [(x, .inl (k 0, 170, .inl (fun i => nI (ga i)))), (y, .inl (k 0, 170, .inl (fun i => nI (gb i))))] s0 = A at hA S ⊢
  have hx := C.1
  have hb := C.2.1
  have hl : lv_has ls 8 [(0, .ref x), (1, .int (nI na)), (2, .ref y), (3, .int (nI nb)), (4, .ref x)] := hl
  have loop : ∀ d t, t + d = na → ∀ (U : Nat → Nat) (c9 : Nat), (vl 65536 U t + vl 65536 (fun i => if i < nb then gb i else 0) t = vl 65536 ga t + c9 * 65536 ^ t ∧ c9 ≤ 1 ∧ (∀ i, i < 170 → U i < 65536) ∧ ∀ i, t ≤ i → U i = ga i) → ∀ (H : Heap) (locs : List Loc), Sw G A s.heap H locs [(x, .inl (k 0, 170, .inl (fun i => nI (U i)))), (y, .inl (k 0, 170, .inl (fun i => nI (gb i))))] → ∀ ls : Array Slot, lv_has ls 8 [(6, .int (nI t)), (5, .int (nI c9)), (0, .ref x), (1, .int (nI na)), (2, .ref y), (3, .int (nI nb)), (4, .ref x)] → W p l e { frames := 0, cells := 0, slots := 0, locals := 0 } s m [Value.ref x, Value.int (nI na), Value.ref y, Value.int (nI nb), Value.ref x].toArray below meth c H locs 0 0 (MQ below (va_Qv (fun (U : Nat → Nat) => vl 65536 U na + vl 65536 gb nb = vl 65536 ga na ∧ (∀ i, i < 170 → U i < 65536) ∧ ∀ i, na ≤ i → U i = ga i) (Po G k A (fun U => [(x, .inl (k 0, 170, .inl (fun i => nI (U i)))), (y, .inl (k 0, 170, .inl (fun i => nI (gb i))))])) A) [Value.ref x, Value.int (nI na), Value.ref y, Value.int (nI nb), Value.ref x].toArray s 0 0 A) (F0 m 6 ls []) := by
    intro d
    induction d with
    | zero =>
      intro t ht U c9 hI H locs S ls hl
      obtain rfl : t = na := by omega
      have hu := vl_lt (B := 65536) (g := U) t (fun i hi => hI.2.2.1 i (by omega))
      have e0 := hI.1
      rw [vl_bb hnb] at e0
      have hc := hI.2.1
      have ec : c9 = 0 := by
        rcases (show c9 = 0 ∨ c9 = 1 by omega) with w | w
        · exact w
        · rw [w, Nat.one_mul] at e0; omega
      rw [ec, Nat.zero_mul, Nat.add_zero] at e0
      refine lv_iload hx hb d_Mo_subtract_6 (lv_at hl 0 rfl) ?_
      refine lv_iload_n hx hb d_Mo_subtract_8 rfl (lv_at hl 3 rfl) ?_
      refine lv_icmp_ge (tgt := 65) hx hb d_Mo_subtract_9 (by decide) (fun _ => ?_) (fun hq => absurd (nI_le (Nat.le_refl _) (by omega)) hq)
      exact r_vret C K U ⟨e0, hI.2.2.1, hI.2.2.2⟩ (S.sub [0, 1] (by decide) rfl) d_Mo_subtract_65 (Nat.le_of_ble_eq_true rfl) (Nat.le_of_ble_eq_true rfl)
    | succ d ih =>
      intro t ht U c9 hI H locs S ls hl
      have d1 := da t (by omega)
      have d2 := db t (by omega)
      have hc := hI.2.1
      have ut : U t = ga t := hI.2.2.2 t (Nat.le_refl t)
      have cont : ∀ bv : Nat, bv = (if t < nb then gb t else 0) → W p l e { frames := 0, cells := 0, slots := 0, locals := 0 } s m [Value.ref x, Value.int (nI na), Value.ref y, Value.int (nI nb), Value.ref x].toArray below meth c H locs 0 0 (MQ below (va_Qv (fun (U : Nat → Nat) => vl 65536 U na + vl 65536 gb nb = vl 65536 ga na ∧ (∀ i, i < 170 → U i < 65536) ∧ ∀ i, na ≤ i → U i = ga i) (Po G k A (fun U => [(x, .inl (k 0, 170, .inl (fun i => nI (U i)))), (y, .inl (k 0, 170, .inl (fun i => nI (gb i))))])) A) [Value.ref x, Value.int (nI na), Value.ref y, Value.int (nI nb), Value.ref x].toArray s 0 0 A) (F0 m 30 ls [.int (nI bv), .int (nI (ga t))]) := by
        intro bv hbv
        have d3 : bv < 65536 := by rw [hbv]; split <;> omega
        refine lv_isub hx hb d_Mo_subtract_30 ?_
        refine lv_iload hx hb d_Mo_subtract_31 (lv_at hl 1 rfl) ?_
        refine lv_isub hx hb d_Mo_subtract_33 ?_
        refine lv_istore (lv' := [(7, .int (((nI (ga t)) - (nI bv)) - (nI c9))), (6, .int (nI t)), (5, .int (nI c9)), (0, .ref x), (1, .int (nI na)), (2, .ref y), (3, .int (nI nb)), (4, .ref x)]) hx hb d_Mo_subtract_34 hl (by decide) rfl (fun ls hl => ?_)
        refine lv_aload hx hb d_Mo_subtract_36 (lv_at hl 7 rfl) ?_
        refine lv_iload hx hb d_Mo_subtract_38 (lv_at hl 1 rfl) ?_
        refine lv_iload hx hb d_Mo_subtract_40 (lv_at hl 0 rfl) ?_
        refine lv_ldcw (v := 65535) hx hb C.2.2.2.1 (C.2.2.2.2.1 _ wk_Mo_312) d_Mo_subtract_42 ?_
        refine lv_iand hx hb d_Mo_subtract_45 ?_
        rw [sb_and d1 d3 hc]
        refine r_iast C K S 0 rfl (i := (nI t)) (x := nI ((ga t + 65536 - bv - c9) % 65536)) (vp_in_nI (by omega) (by decide)) (f' := fun n => nI (va_up U t ((ga t + 65536 - bv - c9) % 65536) n)) (ws' := [(x, .inl (k 0, 170, .inl (fun n => nI (va_up U t ((ga t + 65536 - bv - c9) % 65536) n)))), (y, .inl (k 0, 170, .inl (fun i => nI (gb i))))]) (upd_nI U (by omega) _) rfl d_Mo_subtract_46 (fun H locs S => ?_)
        refine lv_iload hx hb d_Mo_subtract_47 (lv_at hl 0 rfl) ?_
        have fin : ∀ c2 : Nat, c2 ≤ 1 → ga t + c2 * 65536 = bv + c9 + ((ga t + 65536 - bv - c9) % 65536) → vl 65536 (va_up U t ((ga t + 65536 - bv - c9) % 65536)) (t + 1) + vl 65536 (fun i => if i < nb then gb i else 0) (t + 1) = vl 65536 ga (t + 1) + c2 * 65536 ^ (t + 1) ∧ c2 ≤ 1 ∧ (∀ i, i < 170 → va_up U t ((ga t + 65536 - bv - c9) % 65536) i < 65536) ∧ ∀ i, t + 1 ≤ i → va_up U t ((ga t + 65536 - bv - c9) % 65536) i = ga i := by
          intro c2 h2 he
          have eb : (fun i => if i < nb then gb i else 0) t = bv := hbv.symm
          refine ⟨?_, h2, ?_, ?_⟩
          · rw [vl_s, vl_s, vl_s, va_up_self, vl_congr (h := U) t (fun i hi => va_up_ne U _ (by omega)), Nat.pow_succ]
            have e1 := hI.1
            have e2 : (ga t + c2 * 65536) * 65536 ^ t = (bv + c9 + ((ga t + 65536 - bv - c9) % 65536)) * 65536 ^ t := by rw [he]
            rw [Nat.add_mul, Nat.add_mul, Nat.add_mul] at e2
            have e3 : c2 * (65536 ^ t * 65536) = c2 * 65536 * 65536 ^ t := by rw [Nat.mul_comm (65536 ^ t), Nat.mul_assoc]
            rw [e3]
            have e4 : (if t < nb then gb t else 0) * 65536 ^ t = bv * 65536 ^ t := by rw [hbv]
            rw [e4]
            omega
          · intro i hi
            by_cases w : i = t
            · rw [w, va_up_self]; exact Nat.mod_lt _ (by decide)
            · rw [va_up_ne U _ w]; exact hI.2.2.1 i hi
          · intro i hi
            rw [va_up_ne U _ (by omega)]
            exact hI.2.2.2 i (by omega)
        refine lv_if_ge (tgt := 56) hx hb d_Mo_subtract_49 (by decide) (fun hg => ?_) (fun hg => ?_)
        · refine lv_iconst (v := 0) hx hb d_Mo_subtract_56 (by decide) ?_
          refine lv_istore (lv' := [(5, .int 0), (7, .int (((nI (ga t)) - (nI bv)) - (nI c9))), (6, .int (nI t)), (0, .ref x), (1, .int (nI na)), (2, .ref y), (3, .int (nI nb)), (4, .ref x)]) hx hb d_Mo_subtract_57 hl (by decide) rfl (fun ls hl => ?_)
          refine lv_iinc (v := nI (t + 1)) (lv' := [(6, .int (nI (t + 1))), (5, .int 0), (7, .int (((nI (ga t)) - (nI bv)) - (nI c9))), (0, .ref x), (1, .int (nI na)), (2, .ref y), (3, .int (nI nb)), (4, .ref x)]) hx hb d_Mo_subtract_59 hl (k := 2) rfl (nI_1 t) (by decide) rfl (fun ls hl => ?_)
          refine lv_goto (tgt := 6) hx hb d_Mo_subtract_62 (by decide) ?_
          have hg2 := (sb_sgn d1 d3 hc).mp hg
          exact ih (t + 1) (by omega) (va_up U t ((ga t + 65536 - bv - c9) % 65536)) 0 (fin 0 (by omega) (by omega)) _ _ S ls (lv_sub hl [0, 1, 3, 4, 5, 6, 7] rfl)
        · refine lv_iconst (v := 1) hx hb d_Mo_subtract_52 (by decide) ?_
          refine lv_goto (tgt := 57) hx hb d_Mo_subtract_53 (by decide) ?_
          refine lv_istore (lv' := [(5, .int 1), (7, .int (((nI (ga t)) - (nI bv)) - (nI c9))), (6, .int (nI t)), (0, .ref x), (1, .int (nI na)), (2, .ref y), (3, .int (nI nb)), (4, .ref x)]) hx hb d_Mo_subtract_57 hl (by decide) rfl (fun ls hl => ?_)
          refine lv_iinc (v := nI (t + 1)) (lv' := [(6, .int (nI (t + 1))), (5, .int 1), (7, .int (((nI (ga t)) - (nI bv)) - (nI c9))), (0, .ref x), (1, .int (nI na)), (2, .ref y), (3, .int (nI nb)), (4, .ref x)]) hx hb d_Mo_subtract_59 hl (k := 2) rfl (nI_1 t) (by decide) rfl (fun ls hl => ?_)
          refine lv_goto (tgt := 6) hx hb d_Mo_subtract_62 (by decide) ?_
          have hg2 : ¬ bv + c9 ≤ ga t := fun z => hg ((sb_sgn d1 d3 hc).mpr z)
          exact ih (t + 1) (by omega) (va_up U t ((ga t + 65536 - bv - c9) % 65536)) 1 (fin 1 (by omega) (by omega)) _ _ S ls (lv_sub hl [0, 1, 3, 4, 5, 6, 7] rfl)
      refine lv_iload hx hb d_Mo_subtract_6 (lv_at hl 0 rfl) ?_
      refine lv_iload_n hx hb d_Mo_subtract_8 rfl (lv_at hl 3 rfl) ?_
      refine lv_icmp_ge (tgt := 65) hx hb d_Mo_subtract_9 (by decide) (fun hq => absurd hq (nI_ge (by omega) (by omega))) (fun _ => ?_)
      refine lv_aload_n hx hb d_Mo_subtract_12 rfl (lv_at hl 2 rfl) ?_
      refine lv_iload hx hb d_Mo_subtract_13 (lv_at hl 0 rfl) ?_
      refine r_iald C K S 0 rfl (i := (nI t)) (vp_in_nI (by omega) (by decide)) (v := (nI (ga t))) (by rw [nI_clamp (by omega), ut]) d_Mo_subtract_15 ?_
      refine lv_iload hx hb d_Mo_subtract_16 (lv_at hl 0 rfl) ?_
      refine lv_iload_n hx hb d_Mo_subtract_18 rfl (lv_at hl 5 rfl) ?_
      refine lv_icmp_ge (tgt := 29) hx hb d_Mo_subtract_19 (by decide) (fun hg => ?_) (fun hg => ?_)
      · refine lv_iconst (v := 0) hx hb d_Mo_subtract_29 (by decide) ?_
        exact cont 0 (if_neg (by have := (nI_leI (a := nb) (b := t) (by omega) (by omega)).mp hg; omega)).symm
      · refine lv_aload_n hx hb d_Mo_subtract_22 rfl (lv_at hl 4 rfl) ?_
        refine lv_iload hx hb d_Mo_subtract_23 (lv_at hl 0 rfl) ?_
        refine r_iald C K S 1 rfl (i := (nI t)) (vp_in_nI (by omega) (by decide)) (v := (nI (gb t))) (by rw [nI_clamp (by omega)]) d_Mo_subtract_25 ?_
        refine lv_goto (tgt := 30) hx hb d_Mo_subtract_26 (by decide) ?_
        exact cont (gb t) (if_pos (Nat.lt_of_not_le (fun z => hg ((nI_leI (a := nb) (b := t) (by omega) (by omega)).mpr z)))).symm
  refine lv_iconst (v := 0) hx hb d_Mo_subtract_0 (by decide) ?_
  refine lv_istore (lv' := [(5, .int 0), (0, .ref x), (1, .int (nI na)), (2, .ref y), (3, .int (nI nb)), (4, .ref x)]) hx hb d_Mo_subtract_1 hl (by decide) rfl (fun ls hl => ?_)
  refine lv_iconst (v := 0) hx hb d_Mo_subtract_3 (by decide) ?_
  refine lv_istore (lv' := [(6, .int 0), (5, .int 0), (0, .ref x), (1, .int (nI na)), (2, .ref y), (3, .int (nI nb)), (4, .ref x)]) hx hb d_Mo_subtract_4 hl (by decide) rfl (fun ls hl => ?_)
  exact loop na 0 (by omega) ga 0 ⟨by simp [vl], by omega, da, fun _ _ => rfl⟩ _ _ S ls hl
set_option maxRecDepth 100000 in
set_option maxHeartbeats 8000000 in
/-- subtract(x, na, y, nb, y) -/
theorem g_Mo_subtract_b (l : Launch) (G : va_G) (k : Nat → ClassId) (s0 x y na nb : Nat) (ga gb : Nat → Nat) (hna : na ≤ 170) (hnb : nb ≤ na) (hle : vl 65536 gb nb ≤ vl 65536 ga na) (da : ∀ i, i < 170 → ga i < 65536) (db : ∀ i, i < 170 → gb i < 65536) : CV l y_Mo_subtract c_Mo_subtract 8 { frames := 0, cells := 0, slots := 0, locals := 0 } [.ref x, .int (nI na), .ref y, .int (nI nb), .ref y] G k s0 [(x, .inl (k 0, 170, .inl (fun i => nI (ga i)))), (y, .inl (k 0, 170, .inl (fun i => nI (gb i))))] (fun (U : Nat → Nat) => vl 65536 U na + vl 65536 gb nb = vl 65536 ga na ∧ (∀ i, i < 170 → U i < 65536) ∧ ∀ i, na ≤ i → U i = gb i) (fun U => [(x, .inl (k 0, 170, .inl (fun i => nI (ga i)))), (y, .inl (k 0, 170, .inl (fun i => nI (U i))))]) 0 0 := by
  refine met_start (by decide) (Nat.le_of_ble_eq_true rfl) ?_
  intro p e s m below meth c C K hA hsz S ls hl
  generalize va_A [(x, .inl (k 0, 170, .inl (fun i => nI (ga i)))), (y, .inl (k 0, 170, .inl (fun i => nI (gb i))))] s0 = A at hA S ⊢
  have hx := C.1
  have hb := C.2.1
  have hl : lv_has ls 8 [(0, .ref x), (1, .int (nI na)), (2, .ref y), (3, .int (nI nb)), (4, .ref y)] := hl
  have loop : ∀ d t, t + d = na → ∀ (U : Nat → Nat) (c9 : Nat), (vl 65536 U t + vl 65536 (fun i => if i < nb then gb i else 0) t = vl 65536 ga t + c9 * 65536 ^ t ∧ c9 ≤ 1 ∧ (∀ i, i < 170 → U i < 65536) ∧ ∀ i, t ≤ i → U i = gb i) → ∀ (H : Heap) (locs : List Loc), Sw G A s.heap H locs [(x, .inl (k 0, 170, .inl (fun i => nI (ga i)))), (y, .inl (k 0, 170, .inl (fun i => nI (U i))))] → ∀ ls : Array Slot, lv_has ls 8 [(6, .int (nI t)), (5, .int (nI c9)), (0, .ref x), (1, .int (nI na)), (2, .ref y), (3, .int (nI nb)), (4, .ref y)] → W p l e { frames := 0, cells := 0, slots := 0, locals := 0 } s m [Value.ref x, Value.int (nI na), Value.ref y, Value.int (nI nb), Value.ref y].toArray below meth c H locs 0 0 (MQ below (va_Qv (fun (U : Nat → Nat) => vl 65536 U na + vl 65536 gb nb = vl 65536 ga na ∧ (∀ i, i < 170 → U i < 65536) ∧ ∀ i, na ≤ i → U i = gb i) (Po G k A (fun U => [(x, .inl (k 0, 170, .inl (fun i => nI (ga i)))), (y, .inl (k 0, 170, .inl (fun i => nI (U i))))])) A) [Value.ref x, Value.int (nI na), Value.ref y, Value.int (nI nb), Value.ref y].toArray s 0 0 A) (F0 m 6 ls []) := by
    intro d
    induction d with
    | zero =>
      intro t ht U c9 hI H locs S ls hl
      obtain rfl : t = na := by omega
      have hu := vl_lt (B := 65536) (g := U) t (fun i hi => hI.2.2.1 i (by omega))
      have e0 := hI.1
      rw [vl_bb hnb] at e0
      have hc := hI.2.1
      have ec : c9 = 0 := by
        rcases (show c9 = 0 ∨ c9 = 1 by omega) with w | w
        · exact w
        · rw [w, Nat.one_mul] at e0; omega
      rw [ec, Nat.zero_mul, Nat.add_zero] at e0
      refine lv_iload hx hb d_Mo_subtract_6 (lv_at hl 0 rfl) ?_
      refine lv_iload_n hx hb d_Mo_subtract_8 rfl (lv_at hl 3 rfl) ?_
      refine lv_icmp_ge (tgt := 65) hx hb d_Mo_subtract_9 (by decide) (fun _ => ?_) (fun hq => absurd (nI_le (Nat.le_refl _) (by omega)) hq)
      exact r_vret C K U ⟨e0, hI.2.2.1, hI.2.2.2⟩ (S.sub [0, 1] (by decide) rfl) d_Mo_subtract_65 (Nat.le_of_ble_eq_true rfl) (Nat.le_of_ble_eq_true rfl)
    | succ d ih =>
      intro t ht U c9 hI H locs S ls hl
      have d1 := da t (by omega)
      have d2 := db t (by omega)
      have hc := hI.2.1
      have ut : U t = gb t := hI.2.2.2 t (Nat.le_refl t)
      have cont : ∀ bv : Nat, bv = (if t < nb then gb t else 0) → W p l e { frames := 0, cells := 0, slots := 0, locals := 0 } s m [Value.ref x, Value.int (nI na), Value.ref y, Value.int (nI nb), Value.ref y].toArray below meth c H locs 0 0 (MQ below (va_Qv (fun (U : Nat → Nat) => vl 65536 U na + vl 65536 gb nb = vl 65536 ga na ∧ (∀ i, i < 170 → U i < 65536) ∧ ∀ i, na ≤ i → U i = gb i) (Po G k A (fun U => [(x, .inl (k 0, 170, .inl (fun i => nI (ga i)))), (y, .inl (k 0, 170, .inl (fun i => nI (U i))))])) A) [Value.ref x, Value.int (nI na), Value.ref y, Value.int (nI nb), Value.ref y].toArray s 0 0 A) (F0 m 30 ls [.int (nI bv), .int (nI (ga t))]) := by
        intro bv hbv
        have d3 : bv < 65536 := by rw [hbv]; split <;> omega
        refine lv_isub hx hb d_Mo_subtract_30 ?_
        refine lv_iload hx hb d_Mo_subtract_31 (lv_at hl 1 rfl) ?_
        refine lv_isub hx hb d_Mo_subtract_33 ?_
        refine lv_istore (lv' := [(7, .int (((nI (ga t)) - (nI bv)) - (nI c9))), (6, .int (nI t)), (5, .int (nI c9)), (0, .ref x), (1, .int (nI na)), (2, .ref y), (3, .int (nI nb)), (4, .ref y)]) hx hb d_Mo_subtract_34 hl (by decide) rfl (fun ls hl => ?_)
        refine lv_aload hx hb d_Mo_subtract_36 (lv_at hl 7 rfl) ?_
        refine lv_iload hx hb d_Mo_subtract_38 (lv_at hl 1 rfl) ?_
        refine lv_iload hx hb d_Mo_subtract_40 (lv_at hl 0 rfl) ?_
        refine lv_ldcw (v := 65535) hx hb C.2.2.2.1 (C.2.2.2.2.1 _ wk_Mo_312) d_Mo_subtract_42 ?_
        refine lv_iand hx hb d_Mo_subtract_45 ?_
        rw [sb_and d1 d3 hc]
        refine r_iast C K S 1 rfl (i := (nI t)) (x := nI ((ga t + 65536 - bv - c9) % 65536)) (vp_in_nI (by omega) (by decide)) (f' := fun n => nI (va_up U t ((ga t + 65536 - bv - c9) % 65536) n)) (ws' := [(x, .inl (k 0, 170, .inl (fun i => nI (ga i)))), (y, .inl (k 0, 170, .inl (fun n => nI (va_up U t ((ga t + 65536 - bv - c9) % 65536) n))))]) (upd_nI U (by omega) _) rfl d_Mo_subtract_46 (fun H locs S => ?_)
        refine lv_iload hx hb d_Mo_subtract_47 (lv_at hl 0 rfl) ?_
        have fin : ∀ c2 : Nat, c2 ≤ 1 → ga t + c2 * 65536 = bv + c9 + ((ga t + 65536 - bv - c9) % 65536) → vl 65536 (va_up U t ((ga t + 65536 - bv - c9) % 65536)) (t + 1) + vl 65536 (fun i => if i < nb then gb i else 0) (t + 1) = vl 65536 ga (t + 1) + c2 * 65536 ^ (t + 1) ∧ c2 ≤ 1 ∧ (∀ i, i < 170 → va_up U t ((ga t + 65536 - bv - c9) % 65536) i < 65536) ∧ ∀ i, t + 1 ≤ i → va_up U t ((ga t + 65536 - bv - c9) % 65536) i = gb i := by
          intro c2 h2 he
          have eb : (fun i => if i < nb then gb i else 0) t = bv := hbv.symm
          refine ⟨?_, h2, ?_, ?_⟩
          · rw [vl_s, vl_s, vl_s, va_up_self, vl_congr (h := U) t (fun i hi => va_up_ne U _ (by omega)), Nat.pow_succ]
            have e1 := hI.1
            have e2 : (ga t + c2 * 65536) * 65536 ^ t = (bv + c9 + ((ga t + 65536 - bv - c9) % 65536)) * 65536 ^ t := by rw [he]
            rw [Nat.add_mul, Nat.add_mul, Nat.add_mul] at e2
            have e3 : c2 * (65536 ^ t * 65536) = c2 * 65536 * 65536 ^ t := by rw [Nat.mul_comm (65536 ^ t), Nat.mul_assoc]
            rw [e3]
            have e4 : (if t < nb then gb t else 0) * 65536 ^ t = bv * 65536 ^ t := by rw [hbv]
            rw [e4]
            omega
          · intro i hi
            by_cases w : i = t
            · rw [w, va_up_self]; exact Nat.mod_lt _ (by decide)
            · rw [va_up_ne U _ w]; exact hI.2.2.1 i hi
          · intro i hi
            rw [va_up_ne U _ (by omega)]
            exact hI.2.2.2 i (by omega)
        refine lv_if_ge (tgt := 56) hx hb d_Mo_subtract_49 (by decide) (fun hg => ?_) (fun hg => ?_)
        · refine lv_iconst (v := 0) hx hb d_Mo_subtract_56 (by decide) ?_
          refine lv_istore (lv' := [(5, .int 0), (7, .int (((nI (ga t)) - (nI bv)) - (nI c9))), (6, .int (nI t)), (0, .ref x), (1, .int (nI na)), (2, .ref y), (3, .int (nI nb)), (4, .ref y)]) hx hb d_Mo_subtract_57 hl (by decide) rfl (fun ls hl => ?_)
          refine lv_iinc (v := nI (t + 1)) (lv' := [(6, .int (nI (t + 1))), (5, .int 0), (7, .int (((nI (ga t)) - (nI bv)) - (nI c9))), (0, .ref x), (1, .int (nI na)), (2, .ref y), (3, .int (nI nb)), (4, .ref y)]) hx hb d_Mo_subtract_59 hl (k := 2) rfl (nI_1 t) (by decide) rfl (fun ls hl => ?_)
          refine lv_goto (tgt := 6) hx hb d_Mo_subtract_62 (by decide) ?_
          have hg2 := (sb_sgn d1 d3 hc).mp hg
          exact ih (t + 1) (by omega) (va_up U t ((ga t + 65536 - bv - c9) % 65536)) 0 (fin 0 (by omega) (by omega)) _ _ S ls (lv_sub hl [0, 1, 3, 4, 5, 6, 7] rfl)
        · refine lv_iconst (v := 1) hx hb d_Mo_subtract_52 (by decide) ?_
          refine lv_goto (tgt := 57) hx hb d_Mo_subtract_53 (by decide) ?_
          refine lv_istore (lv' := [(5, .int 1), (7, .int (((nI (ga t)) - (nI bv)) - (nI c9))), (6, .int (nI t)), (0, .ref x), (1, .int (nI na)), (2, .ref y), (3, .int (nI nb)), (4, .ref y)]) hx hb d_Mo_subtract_57 hl (by decide) rfl (fun ls hl => ?_)
          refine lv_iinc (v := nI (t + 1)) (lv' := [(6, .int (nI (t + 1))), (5, .int 1), (7, .int (((nI (ga t)) - (nI bv)) - (nI c9))), (0, .ref x), (1, .int (nI na)), (2, .ref y), (3, .int (nI nb)), (4, .ref y)]) hx hb d_Mo_subtract_59 hl (k := 2) rfl (nI_1 t) (by decide) rfl (fun ls hl => ?_)
          refine lv_goto (tgt := 6) hx hb d_Mo_subtract_62 (by decide) ?_
          have hg2 : ¬ bv + c9 ≤ ga t := fun z => hg ((sb_sgn d1 d3 hc).mpr z)
          exact ih (t + 1) (by omega) (va_up U t ((ga t + 65536 - bv - c9) % 65536)) 1 (fin 1 (by omega) (by omega)) _ _ S ls (lv_sub hl [0, 1, 3, 4, 5, 6, 7] rfl)
      refine lv_iload hx hb d_Mo_subtract_6 (lv_at hl 0 rfl) ?_
      refine lv_iload_n hx hb d_Mo_subtract_8 rfl (lv_at hl 3 rfl) ?_
      refine lv_icmp_ge (tgt := 65) hx hb d_Mo_subtract_9 (by decide) (fun hq => absurd hq (nI_ge (by omega) (by omega))) (fun _ => ?_)
      refine lv_aload_n hx hb d_Mo_subtract_12 rfl (lv_at hl 2 rfl) ?_
      refine lv_iload hx hb d_Mo_subtract_13 (lv_at hl 0 rfl) ?_
      refine r_iald C K S 0 rfl (i := (nI t)) (vp_in_nI (by omega) (by decide)) (v := (nI (ga t))) (by rw [nI_clamp (by omega)]) d_Mo_subtract_15 ?_
      refine lv_iload hx hb d_Mo_subtract_16 (lv_at hl 0 rfl) ?_
      refine lv_iload_n hx hb d_Mo_subtract_18 rfl (lv_at hl 5 rfl) ?_
      refine lv_icmp_ge (tgt := 29) hx hb d_Mo_subtract_19 (by decide) (fun hg => ?_) (fun hg => ?_)
      · refine lv_iconst (v := 0) hx hb d_Mo_subtract_29 (by decide) ?_
        exact cont 0 (if_neg (by have := (nI_leI (a := nb) (b := t) (by omega) (by omega)).mp hg; omega)).symm
      · refine lv_aload_n hx hb d_Mo_subtract_22 rfl (lv_at hl 4 rfl) ?_
        refine lv_iload hx hb d_Mo_subtract_23 (lv_at hl 0 rfl) ?_
        refine r_iald C K S 1 rfl (i := (nI t)) (vp_in_nI (by omega) (by decide)) (v := (nI (gb t))) (by rw [nI_clamp (by omega), ut]) d_Mo_subtract_25 ?_
        refine lv_goto (tgt := 30) hx hb d_Mo_subtract_26 (by decide) ?_
        exact cont (gb t) (if_pos (Nat.lt_of_not_le (fun z => hg ((nI_leI (a := nb) (b := t) (by omega) (by omega)).mpr z)))).symm
  refine lv_iconst (v := 0) hx hb d_Mo_subtract_0 (by decide) ?_
  refine lv_istore (lv' := [(5, .int 0), (0, .ref x), (1, .int (nI na)), (2, .ref y), (3, .int (nI nb)), (4, .ref y)]) hx hb d_Mo_subtract_1 hl (by decide) rfl (fun ls hl => ?_)
  refine lv_iconst (v := 0) hx hb d_Mo_subtract_3 (by decide) ?_
  refine lv_istore (lv' := [(6, .int 0), (5, .int 0), (0, .ref x), (1, .int (nI na)), (2, .ref y), (3, .int (nI nb)), (4, .ref y)]) hx hb d_Mo_subtract_4 hl (by decide) rfl (fun ls hl => ?_)
  exact loop na 0 (by omega) gb 0 ⟨by simp [vl], by omega, db, fun _ _ => rfl⟩ _ _ S ls hl
end
