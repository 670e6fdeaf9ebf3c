/-! determinants of whole numbers, by their first column; two equal columns give 0; Cramer's rule. No machine here: this is what the tables of both solvers hold. -/
def dt_sk (i a : Nat) : Nat := if a < i then a else a + 1
def dt_un (i j : Nat) : Nat := if j < i then j else j - 1
def dt_cs (c j : Nat) : Nat := if j = c then c + 1 else if j = c + 1 then c else j
def dt_sg (i : Nat) : Int := if i % 2 = 0 then 1 else -1
def dt_sum : Nat → (Nat → Int) → Int
  | 0, _ => 0
  | n + 1, f => dt_sum n f + f n
def dt : Nat → (Nat → Nat → Int) → Int
  | 0, _ => 1
  | n + 1, M => dt_sum (n + 1) (fun i => dt_sg i * M i 0 * dt n (fun a b => M (dt_sk i a) (b + 1)))
theorem dt_sum_s (n : Nat) (f : Nat → Int) : dt_sum (n + 1) f = dt_sum n f + f n := rfl
theorem dt_sg_s (i : Nat) : dt_sg (i + 1) = - dt_sg i := by
  unfold dt_sg
  rcases Nat.mod_two_eq_zero_or_one i with h | h
  · rw [if_neg (by omega), if_pos h]
  · rw [if_pos (by omega), if_neg (by omega)]
    rfl
theorem dt_sg_q (i : Nat) : dt_sg i * dt_sg i = 1 := by
  unfold dt_sg
  split <;> rfl
theorem dt_sum_congr {n : Nat} {f g : Nat → Int} (h : ∀ i, i < n → f i = g i) : dt_sum n f = dt_sum n g := by
  induction n with
  | zero => rfl
  | succ n ih => rw [dt_sum, dt_sum, ih (fun i hi => h i (by omega)), h n (by omega)]
theorem dt_sum_0 (n : Nat) : dt_sum n (fun _ => 0) = 0 := by
  induction n with
  | zero => rfl
  | succ n ih => rw [dt_sum, ih]; rfl
theorem dt_sum_add (n : Nat) (f g : Nat → Int) : dt_sum n (fun i => f i + g i) = dt_sum n f + dt_sum n g := by
  induction n with
  | zero => rfl
  | succ n ih => rw [dt_sum, dt_sum, dt_sum, ih]; omega
theorem dt_sum_neg (n : Nat) (f : Nat → Int) : dt_sum n (fun i => - f i) = - dt_sum n f := by
  induction n with
  | zero => rfl
  | succ n ih => rw [dt_sum, dt_sum, ih]; omega
theorem dt_sum_mul (n : Nat) (c : Int) (f : Nat → Int) : dt_sum n (fun i => c * f i) = c * dt_sum n f := by
  induction n with
  | zero => simp [dt_sum]
  | succ n ih => rw [dt_sum, dt_sum, ih, Int.mul_add]
theorem dt_sum_comm (n m : Nat) (f : Nat → Nat → Int) : dt_sum n (fun i => dt_sum m (fun j => f i j)) = dt_sum m (fun j => dt_sum n (fun i => f i j)) := by
  induction n with
  | zero => simp only [dt_sum]; exact (dt_sum_0 m).symm
  | succ n ih => simp only [dt_sum]; rw [ih, dt_sum_add]
theorem dt_sum_first (n : Nat) (f : Nat → Int) : dt_sum (n + 1) f = f 0 + dt_sum n (fun i => f (i + 1)) := by
  induction n with
  | zero => simp [dt_sum]
  | succ n ih => rw [dt_sum, ih, dt_sum]; omega
theorem dt_sum_skip {n i : Nat} (hi : i < n + 1) (f : Nat → Int) : dt_sum n (fun a => f (dt_sk i a)) = dt_sum (n + 1) f - f i := by
  induction n with
  | zero =>
    have : i = 0 := by omega
    subst this
    simp [dt_sum]
  | succ n ih =>
    by_cases h : i < n + 1
    · have e : dt_sk i n = n + 1 := by unfold dt_sk; rw [if_neg (by omega)]
      rw [dt_sum_s, ih h, e, dt_sum_s (n + 1) f]
      omega
    · have : i = n + 1 := by omega
      subst this
      rw [dt_sum_congr (g := f) (fun a ha => by unfold dt_sk; rw [if_pos (by omega)]), dt_sum_s (n + 1) f]
      omega
theorem dt_sum_swap {n c : Nat} (h : c + 1 < n) (f : Nat → Int) : dt_sum n (fun i => f (dt_cs c i)) = dt_sum n f := by
  induction n with
  | zero => omega
  | succ n ih =>
    by_cases h2 : c + 1 < n
    · have e : dt_cs c n = n := by unfold dt_cs; rw [if_neg (by omega), if_neg (by omega)]
      rw [dt_sum, dt_sum, ih h2, e]
    · have : n = c + 1 := by omega
      subst this
      have e0 : dt_sum c (fun i => f (dt_cs c i)) = dt_sum c f := dt_sum_congr (fun i hi => by unfold dt_cs; rw [if_neg (by omega), if_neg (by omega)])
      have e1 : dt_cs c c = c + 1 := by simp [dt_cs]
      have e2 : dt_cs c (c + 1) = c := by simp [dt_cs]
      simp only [dt_sum, e0, e1, e2]
      omega
theorem dt_congr {n : Nat} {M N : Nat → Nat → Int} (h : ∀ i, i < n → ∀ j, j < n → M i j = N i j) : dt n M = dt n N := by
  induction n generalizing M N with
  | zero => rfl
  | succ n ih =>
    rw [dt, dt]
    refine dt_sum_congr (fun i hi => ?_)
    rw [h i hi 0 (by omega), ih (fun a ha b hb => h _ (by unfold dt_sk; split <;> omega) _ (by omega))]
/-- by the first two columns -/
theorem dt_two (n : Nat) (M : Nat → Nat → Int) : dt (n + 2) M = dt_sum (n + 2) (fun i => dt_sum (n + 2) (fun j => if i = j then 0 else dt_sg i * dt_sg (dt_un i j) * (M i 0 * M j 1) * dt n (fun a b => M (dt_sk i (dt_sk (dt_un i j) a)) (b + 2)))) := by
  rw [dt]
  refine dt_sum_congr (fun i hi => ?_)
  rw [dt, ← dt_sum_mul]
  have hs := dt_sum_skip (n := n + 1) (i := i) (by omega) (fun j => if i = j then 0 else dt_sg i * dt_sg (dt_un i j) * (M i 0 * M j 1) * dt n (fun a b => M (dt_sk i (dt_sk (dt_un i j) a)) (b + 2)))
  simp only [if_true, Int.sub_zero] at hs
  rw [← hs]
  refine dt_sum_congr (fun a ha => ?_)
  have e1 : ¬ i = dt_sk i a := by unfold dt_sk; (repeat' split) <;> omega
  have e2 : dt_un i (dt_sk i a) = a := by unfold dt_un dt_sk; (repeat' split) <;> omega
  rw [if_neg e1, e2]
  simp only [Int.mul_assoc, Int.mul_left_comm]
theorem dt_un_sg {i j : Nat} (h : i ≠ j) : dt_sg i * dt_sg (dt_un i j) = - (dt_sg j * dt_sg (dt_un j i)) := by
  unfold dt_un
  rcases Nat.lt_or_gt_of_ne h with h1 | h1
  · rw [if_neg (by omega), if_pos h1]
    obtain ⟨d, rfl⟩ : ∃ d, j = d + 1 := ⟨j - 1, by omega⟩
    rw [dt_sg_s, Nat.add_sub_cancel, Int.neg_mul, Int.neg_neg, Int.mul_comm]
  · rw [if_pos h1, if_neg (by omega)]
    obtain ⟨d, rfl⟩ : ∃ d, i = d + 1 := ⟨i - 1, by omega⟩
    rw [dt_sg_s, Nat.add_sub_cancel, Int.neg_mul, Int.mul_comm]
theorem dt_un_sk {i j : Nat} (h : i ≠ j) (a : Nat) : dt_sk i (dt_sk (dt_un i j) a) = dt_sk j (dt_sk (dt_un j i) a) := by
  unfold dt_sk dt_un
  (repeat' split) <;> omega
theorem dt_cs_0 : dt_cs 0 0 = 1 ∧ dt_cs 0 1 = 0 := ⟨rfl, rfl⟩
theorem dt_swap0 (n : Nat) (M : Nat → Nat → Int) : dt (n + 2) (fun i j => M i (dt_cs 0 j)) = - dt (n + 2) M := by
  rw [dt_two, dt_two, dt_sum_comm, ← dt_sum_neg]
  refine dt_sum_congr (fun j hj => ?_)
  rw [← dt_sum_neg]
  refine dt_sum_congr (fun i hi => ?_)
  by_cases h : i = j
  · subst h
    simp
  · have h2 : ¬ j = i := fun e => h e.symm
    rw [if_neg h, if_neg h2, dt_un_sg h]
    have e : (fun a b => M (dt_sk i (dt_sk (dt_un i j) a)) (dt_cs 0 (b + 2))) = (fun a b => M (dt_sk j (dt_sk (dt_un j i) a)) (b + 2)) := by
      funext a b
      rw [dt_un_sk h]
      have : dt_cs 0 (b + 2) = b + 2 := by unfold dt_cs; rw [if_neg (by omega), if_neg (by omega)]
      rw [this]
    rw [e, dt_cs_0.1, dt_cs_0.2, Int.mul_comm (M i 1) (M j 0)]
    simp only [Int.neg_mul]
theorem dt_cs_s (c b : Nat) : dt_cs (c + 1) (b + 1) = dt_cs c b + 1 := by
  unfold dt_cs
  (repeat' split) <;> omega
theorem dt_swapc : ∀ (n c : Nat) (_ : c + 1 < n) (M : Nat → Nat → Int), dt n (fun i j => M i (dt_cs c j)) = - dt n M
  | 0, _, h, _ => by omega
  | 1, _, h, _ => by omega
  | n + 2, 0, _, M => dt_swap0 n M
  | n + 2, c + 1, h, M => by
    rw [dt, dt, ← dt_sum_neg]
    refine dt_sum_congr (fun i hi => ?_)
    have e0 : dt_cs (c + 1) 0 = 0 := by unfold dt_cs; rw [if_neg (by omega), if_neg (by omega)]
    have e1 : (fun a b => M (dt_sk i a) (dt_cs (c + 1) (b + 1))) = (fun a b => (fun x y => M (dt_sk i x) (y + 1)) a (dt_cs c b)) := by
      funext a b
      rw [dt_cs_s]
    have e2 := dt_swapc (n + 1) c (by omega) (fun x y => M (dt_sk i x) (y + 1))
    rw [e0, e1, e2, Int.mul_neg]
theorem dt_eqc (n : Nat) : ∀ (d a : Nat) (M : Nat → Nat → Int), a + 1 + d < n → (∀ i, i < n → M i a = M i (a + 1 + d)) → dt n M = 0
  | 0, a, M, h, he => by
    have h1 := dt_swapc n a (by omega) M
    have h2 : dt n (fun i j => M i (dt_cs a j)) = dt n M := by
      refine dt_congr (fun i hi j hj => ?_)
      show M i (dt_cs a j) = M i j
      unfold dt_cs
      split
      · next e => rw [e]; exact (he i hi).symm
      · split
        · next e => rw [e]; exact he i hi
        · rfl
    omega
  | d + 1, a, M, h, he => by
    have h1 := dt_swapc n (a + 1 + d) (by omega) M
    have h2 := dt_eqc n d a (fun i j => M i (dt_cs (a + 1 + d) j)) (by omega) (fun i hi => by
      show M i (dt_cs (a + 1 + d) a) = M i (dt_cs (a + 1 + d) (a + 1 + d))
      have e1 : dt_cs (a + 1 + d) a = a := by unfold dt_cs; rw [if_neg (by omega), if_neg (by omega)]
      have e2 : dt_cs (a + 1 + d) (a + 1 + d) = a + 1 + (d + 1) := by unfold dt_cs; rw [if_pos rfl]; omega
      rw [e1, e2]
      exact he i hi)
    omega
/-- two rows side by side change places -/
theorem dt_swapr : ∀ (n r : Nat) (_ : r + 1 < n) (M : Nat → Nat → Int), dt n (fun i j => M (dt_cs r i) j) = - dt n M
  | 0, _, h, _ => by omega
  | n + 1, r, h, M => by
    have key : ∀ i, i < n + 1 → dt_sg i * M (dt_cs r i) 0 * dt n (fun a b => M (dt_cs r (dt_sk i a)) (b + 1)) = - (fun j => dt_sg j * M j 0 * dt n (fun a b => M (dt_sk j a) (b + 1))) (dt_cs r i) := by
      intro i hi
      show _ = - (dt_sg (dt_cs r i) * M (dt_cs r i) 0 * dt n (fun a b => M (dt_sk (dt_cs r i) a) (b + 1)))
      by_cases h1 : i = r
      · subst h1
        have e1 : dt_cs i i = i + 1 := by simp [dt_cs]
        have e2 : (fun a b => M (dt_cs i (dt_sk i a)) (b + 1)) = (fun a b => M (dt_sk (i + 1) a) (b + 1)) := by
          funext a b
          have : dt_cs i (dt_sk i a) = dt_sk (i + 1) a := by unfold dt_cs dt_sk; (repeat' split) <;> omega
          rw [this]
        rw [e1, e2, dt_sg_s]
        simp only [Int.neg_mul, Int.neg_neg]
      · by_cases h2 : i = r + 1
        · subst h2
          have e1 : dt_cs r (r + 1) = r := by simp [dt_cs]
          have e2 : (fun a b => M (dt_cs r (dt_sk (r + 1) a)) (b + 1)) = (fun a b => M (dt_sk r a) (b + 1)) := by
            funext a b
            have : dt_cs r (dt_sk (r + 1) a) = dt_sk r a := by unfold dt_cs dt_sk; (repeat' split) <;> omega
            rw [this]
          rw [e1, e2, dt_sg_s]
          simp only [Int.neg_mul]
        · have e1 : dt_cs r i = i := by unfold dt_cs; rw [if_neg h1, if_neg h2]
          obtain ⟨q, hq, e2⟩ : ∃ q, q + 1 < n ∧ ∀ a, dt_cs r (dt_sk i a) = dt_sk i (dt_cs q a) := by
            by_cases h3 : i < r
            · exact ⟨r - 1, by omega, fun a => by unfold dt_cs dt_sk; (repeat' split) <;> omega⟩
            · exact ⟨r, by omega, fun a => by unfold dt_cs dt_sk; (repeat' split) <;> omega⟩
          have e3 : (fun a b => M (dt_cs r (dt_sk i a)) (b + 1)) = (fun a b => (fun x y => M (dt_sk i x) (y + 1)) (dt_cs q a) b) := by
            funext a b
            rw [e2]
          have e4 := dt_swapr n q hq (fun x y => M (dt_sk i x) (y + 1))
          rw [e1, e3, e4, Int.mul_neg]
    have e9 := dt_sum_swap h (fun j => dt_sg j * M j 0 * dt n (fun a b => M (dt_sk j a) (b + 1)))
    rw [dt, dt, dt_sum_congr key, dt_sum_neg, e9]
/-- a matrix with one row put in another's place -/
def dt_put (G : Nat → Nat → Int) (i : Nat) (f : Nat → Int) : Nat → Nat → Int := fun a b => if a = i then f b else G a b
/-- the row f at place t, the rows of G but the i-th round it -/
def dt_mv (G : Nat → Nat → Int) (f : Nat → Int) (i t : Nat) : Nat → Nat → Int := fun a b => if a < t then G a b else if a = t then f b else if a ≤ i then G (a - 1) b else G a b
theorem dt_mv_s (G : Nat → Nat → Int) (f : Nat → Int) {n i t : Nat} (hi : i < n) (ht : t < i) : dt n (dt_mv G f i (t + 1)) = - dt n (dt_mv G f i t) := by
  rw [← dt_swapr n t (by omega)]
  refine dt_congr (fun a ha b hb => ?_)
  show dt_mv G f i (t + 1) a b = dt_mv G f i t (dt_cs t a) b
  by_cases h1 : a = t
  · subst h1
    have ec : dt_cs a a = a + 1 := by simp [dt_cs]
    rw [ec]
    unfold dt_mv
    rw [if_pos (by omega), if_neg (by omega), if_neg (by omega), if_pos (by omega)]
    rfl
  · by_cases h2 : a = t + 1
    · subst h2
      have ec : dt_cs t (t + 1) = t := by simp [dt_cs]
      rw [ec]
      unfold dt_mv
      rw [if_neg (by omega), if_pos rfl, if_neg (by omega), if_pos rfl]
    · have ec : dt_cs t a = a := by unfold dt_cs; rw [if_neg h1, if_neg h2]
      rw [ec]
      unfold dt_mv
      by_cases h3 : a < t
      · rw [if_pos (by omega), if_pos h3]
      · rw [if_neg (by omega), if_neg h2, if_neg h3, if_neg h1]
theorem dt_mv_0 (G : Nat → Nat → Int) (f : Nat → Int) {n i : Nat} (hi : i < n) : ∀ t, t ≤ i → dt n (dt_mv G f i 0) = dt_sg t * dt n (dt_mv G f i t)
  | 0, _ => by simp [dt_sg]
  | t + 1, ht => by
    rw [dt_mv_0 G f hi t (by omega), dt_mv_s G f hi (by omega), dt_sg_s]
    simp only [Int.neg_mul, Int.mul_neg, Int.neg_neg]
/-- Cramer's rule: det G times f is the sum of the rows of G, each times det G with f in that row's place -/
theorem dt_cramer (n : Nat) (G : Nat → Nat → Int) (f : Nat → Int) (c : Nat) (hc : c < n) : f c * dt n G = dt_sum n (fun i => G i c * dt n (dt_put G i f)) := by
  have h0 := dt_eqc (n + 1) c 0 (fun i j => (fun y => if i = 0 then f y else G (i - 1) y) (if j = 0 then c else j - 1)) (by omega) (fun i hi => by
    show (if i = 0 then f c else G (i - 1) c) = (if i = 0 then f (if 0 + 1 + c = 0 then c else 0 + 1 + c - 1) else G (i - 1) (if 0 + 1 + c = 0 then c else 0 + 1 + c - 1))
    have : (if 0 + 1 + c = 0 then c else 0 + 1 + c - 1) = c := by rw [if_neg (by omega)]; omega
    rw [this])
  rw [dt, dt_sum_first] at h0
  have e1 : dt n (fun a b => (fun y => if dt_sk 0 a = 0 then f y else G (dt_sk 0 a - 1) y) (if b + 1 = 0 then c else b + 1 - 1)) = dt n G := by
    refine dt_congr (fun a ha b hb => ?_)
    show (if dt_sk 0 a = 0 then f (if b + 1 = 0 then c else b + 1 - 1) else G (dt_sk 0 a - 1) (if b + 1 = 0 then c else b + 1 - 1)) = G a b
    have e : dt_sk 0 a = a + 1 := by unfold dt_sk; rw [if_neg (by omega)]
    rw [e, if_neg (by omega), if_neg (by omega)]
    rfl
  have e2 : ∀ i, i < n → dt n (fun a b => (fun y => if dt_sk (i + 1) a = 0 then f y else G (dt_sk (i + 1) a - 1) y) (if b + 1 = 0 then c else b + 1 - 1)) = dt_sg i * dt n (dt_put G i f) := by
    intro i hi
    have e3 : dt n (dt_mv G f i i) = dt n (dt_put G i f) := by
      refine dt_congr (fun a ha b hb => ?_)
      unfold dt_mv dt_put
      by_cases h1 : a = i
      · rw [if_neg (by omega), if_pos h1, if_pos h1]
      · by_cases h2 : a < i
        · rw [if_pos h2, if_neg h1]
        · rw [if_neg h2, if_neg h1, if_neg (by omega), if_neg h1]
    rw [← e3, ← dt_mv_0 G f hi i (Nat.le_refl i)]
    refine dt_congr (fun a ha b hb => ?_)
    show (if dt_sk (i + 1) a = 0 then f (if b + 1 = 0 then c else b + 1 - 1) else G (dt_sk (i + 1) a - 1) (if b + 1 = 0 then c else b + 1 - 1)) = dt_mv G f i 0 a b
    have eb : (if b + 1 = 0 then c else b + 1 - 1) = b := by rw [if_neg (by omega)]; omega
    rw [eb]
    unfold dt_mv dt_sk
    by_cases h1 : a = 0
    · subst h1
      have e : (if 0 < i + 1 then 0 else 0 + 1) = 0 := if_pos (by omega)
      rw [e, if_pos rfl, if_neg (by omega), if_pos rfl]
    · by_cases h2 : a < i + 1
      · rw [if_pos h2, if_neg h1, if_neg (by omega), if_neg h1, if_pos (by omega)]
      · rw [if_neg h2, if_neg (by omega), if_neg (by omega), if_neg h1, if_neg (by omega)]
        rfl
  have e4 : dt_sum n (fun i => dt_sg (i + 1) * (fun y => if i + 1 = 0 then f y else G (i + 1 - 1) y) (if 0 = 0 then c else 0 - 1) * dt n (fun a b => (fun y => if dt_sk (i + 1) a = 0 then f y else G (dt_sk (i + 1) a - 1) y) (if b + 1 = 0 then c else b + 1 - 1))) = - dt_sum n (fun i => G i c * dt n (dt_put G i f)) := by
    rw [← dt_sum_neg]
    refine dt_sum_congr (fun i hi => ?_)
    rw [e2 i hi]
    show dt_sg (i + 1) * (if i + 1 = 0 then f c else G i c) * _ = _
    rw [if_neg (by omega), dt_sg_s]
    have q := dt_sg_q i
    rw [show - dt_sg i * G i c * (dt_sg i * dt n (dt_put G i f)) = - ((dt_sg i * dt_sg i) * (G i c * dt n (dt_put G i f))) by rw [Int.neg_mul, Int.neg_mul, Int.mul_assoc, Int.mul_assoc, Int.mul_left_comm (G i c)], q, Int.one_mul]
  rw [e1, e4] at h0
  have h1 : dt_sg 0 * f c * dt n G = f c * dt n G := by
    show 1 * f c * dt n G = _
    rw [Int.one_mul]
  have h2 : dt_sg 0 * (fun y => if 0 = 0 then f y else G (0 - 1) y) (if 0 = 0 then c else 0 - 1) * dt n G = f c * dt n G := h1
  omega
