/-! determinants go by rows linearly; equal rows give 0; what an exchange does to a table of determinants; how large they are -/
theorem dt_eqr (n : Nat) : ∀ (d a : Nat) (M : Nat → Nat → Int), a + 1 + d < n → (∀ j, j < n → M a j = M (a + 1 + d) j) → dt n M = 0
  | 0, a, M, h, he => by
    have h1 := dt_swapr n a (by omega) M
    have h2 : dt n (fun i j => M (dt_cs a i) j) = dt n M := by
      refine dt_congr (fun i hi j hj => ?_)
      show M (dt_cs a i) j = M i j
      unfold dt_cs
      split
      · next e => rw [e]; exact (he j hj).symm
      · split
        · next e => rw [e]; exact he j hj
        · rfl
    omega
  | d + 1, a, M, h, he => by
    have h1 := dt_swapr n (a + 1 + d) (by omega) M
    have h2 := dt_eqr n d a (fun i j => M (dt_cs (a + 1 + d) i) j) (by omega) (fun j hj => by
      show M (dt_cs (a + 1 + d) a) j = M (dt_cs (a + 1 + d) (a + 1 + d)) j
      have e1 : dt_cs (a + 1 + d) a = a := by unfold dt_cs; rw [if_neg (by omega), if_neg (by omega)]
      have e2 : dt_cs (a + 1 + d) (a + 1 + d) = a + 1 + (d + 1) := by unfold dt_cs; rw [if_pos rfl]; omega
      rw [e1, e2]
      exact he j hj)
    omega
theorem dt_eqr' {n a b : Nat} {M : Nat → Nat → Int} (ha : a < n) (hb : b < n) (h : a ≠ b) (he : ∀ j, j < n → M a j = M b j) : dt n M = 0 := by
  rcases Nat.lt_or_gt_of_ne h with h1 | h1
  · obtain ⟨d, rfl⟩ : ∃ d, b = a + 1 + d := ⟨b - (a + 1), by omega⟩
    exact dt_eqr n d a M (by omega) he
  · obtain ⟨d, rfl⟩ : ∃ d, a = b + 1 + d := ⟨a - (b + 1), by omega⟩
    exact dt_eqr n d b M (by omega) (fun j hj => (he j hj).symm)
theorem dt_put_s (G : Nat → Nat → Int) (w : Nat → Int) {i a : Nat} (h : a = i) (b : Nat) : dt_put G i w a b = w b := if_pos h
theorem dt_put_n (G : Nat → Nat → Int) (w : Nat → Int) {i a : Nat} (h : ¬ a = i) (b : Nat) : dt_put G i w a b = G a b := if_neg h
theorem dt_lin : ∀ (n : Nat) (G : Nat → Nat → Int) (s : Nat) (_ : s < n) (u v : Nat → Int) (x y : Int), dt n (dt_put G s (fun c => x * u c + y * v c)) = x * dt n (dt_put G s u) + y * dt n (dt_put G s v)
  | 0, _, _, h, _, _, _, _ => by omega
  | n + 1, G, s, h, u, v, x, y => by
    rw [dt, dt, dt, ← dt_sum_mul, ← dt_sum_mul, ← dt_sum_add]
    refine dt_sum_congr (fun i hi => ?_)
    by_cases h1 : i = s
    · subst h1
      have e : ∀ w : Nat → Int, (fun a b => dt_put G i w (dt_sk i a) (b + 1)) = (fun a b => G (dt_sk i a) (b + 1)) := by
        intro w
        funext a b
        have : ¬ dt_sk i a = i := by unfold dt_sk; (repeat' split) <;> omega
        unfold dt_put
        rw [if_neg this]
      have e2 : ∀ w : Nat → Int, dt_put G i w i 0 = w 0 := fun w => if_pos rfl
      rw [e, e, e, e2, e2, e2]
      rw [Int.mul_add, Int.add_mul, Int.mul_left_comm (dt_sg i) x, Int.mul_left_comm (dt_sg i) y, Int.mul_assoc x, Int.mul_assoc y]
    · have e : ∀ w : Nat → Int, (fun a b => dt_put G s w (dt_sk i a) (b + 1)) = dt_put (fun a b => G (dt_sk i a) (b + 1)) (dt_un i s) (fun b => w (b + 1)) := by
        intro w
        funext a b
        show (if dt_sk i a = s then w (b + 1) else G (dt_sk i a) (b + 1)) = (if a = dt_un i s then w (b + 1) else G (dt_sk i a) (b + 1))
        by_cases h2 : a = dt_un i s
        · have h3 : dt_sk i a = s := by rw [h2]; unfold dt_sk dt_un; (repeat' split) <;> omega
          rw [if_pos h3, if_pos h2]
        · have h3 : ¬ dt_sk i a = s := by
            intro q
            apply h2
            rw [← q]
            unfold dt_sk dt_un
            (repeat' split) <;> omega
          rw [if_neg h3, if_neg h2]
      have e2 : ∀ w : Nat → Int, dt_put G s w i 0 = G i 0 := fun w => if_neg h1
      have hu : dt_un i s < n := by unfold dt_un; (repeat' split) <;> omega
      rw [e, e, e, e2, e2, e2, dt_lin n _ (dt_un i s) hu (fun b => u (b + 1)) (fun b => v (b + 1)) x y]
      rw [Int.mul_add, Int.mul_left_comm _ x, Int.mul_left_comm _ y]
theorem dt_scale {n : Nat} (G : Nat → Nat → Int) {s : Nat} (hs : s < n) (u : Nat → Int) (x : Int) : dt n (dt_put G s (fun c => x * u c)) = x * dt n (dt_put G s u) := by
  have h := dt_lin n G s hs u u x 0
  rw [Int.zero_mul, Int.add_zero] at h
  rw [← h]
  have e : (fun c => x * u c + 0 * u c) = (fun c => x * u c) := by
    funext c
    rw [Int.zero_mul, Int.add_zero]
  rw [e]
theorem dt_linsum {n : Nat} (G : Nat → Nat → Int) {s : Nat} (hs : s < n) (g : Nat → Nat → Int) (x : Nat → Int) : ∀ m, dt n (dt_put G s (fun c => dt_sum m (fun i => x i * g i c))) = dt_sum m (fun i => x i * dt n (dt_put G s (g i)))
  | 0 => by
    have h := dt_scale G hs (fun _ => 0) 0
    have e : (fun c : Nat => (0 : Int) * (fun _ : Nat => (0 : Int)) c) = (fun c : Nat => dt_sum 0 (fun i => x i * g i c)) := by
      funext c
      exact Int.zero_mul _
    rw [e, Int.zero_mul] at h
    exact h
  | m + 1 => by
    have h := dt_lin n G s hs (fun c => dt_sum m (fun i => x i * g i c)) (g m) 1 (x m)
    rw [Int.one_mul, dt_linsum G hs g x m] at h
    rw [dt_sum_s, ← h]
    have e : (fun c => 1 * dt_sum m (fun i => x i * g i c) + x m * g m c) = (fun c => dt_sum (m + 1) (fun i => x i * g i c)) := by
      funext c
      rw [Int.one_mul, dt_sum_s]
    rw [e]
theorem dt_sum_one {n s : Nat} (hs : s < n) {f : Nat → Int} (h : ∀ i, i < n → i ≠ s → f i = 0) : dt_sum n f = f s := by
  induction n with
  | zero => omega
  | succ n ih =>
    rw [dt_sum_s]
    by_cases h1 : s = n
    · subst h1
      rw [dt_sum_congr (g := fun _ => 0) (fun i hi => h i (by omega) (by omega)), dt_sum_0, Int.zero_add]
    · rw [ih (by omega) (fun i hi => h i (by omega)), h n (by omega) (fun e => h1 e.symm), Int.add_zero]
theorem dt_sum_two {n s j : Nat} (hs : s < n) (hj : j < n) (hne : j ≠ s) {f : Nat → Int} (h : ∀ i, i < n → i ≠ s → i ≠ j → f i = 0) : dt_sum n f = f s + f j := by
  have e : dt_sum n f = dt_sum n (fun i => (if i = s then f i else 0) + (if i = s then 0 else f i)) := dt_sum_congr (fun i hi => by
    by_cases q : i = s
    · rw [if_pos q, if_pos q, Int.add_zero]
    · rw [if_neg q, if_neg q, Int.zero_add])
  rw [e, dt_sum_add, dt_sum_one hs (fun i hi q => if_neg q), dt_sum_one hj (fun i hi q => by
    by_cases q2 : i = s
    · rw [if_pos q2]
    · rw [if_neg q2]; exact h i hi q2 q), if_pos rfl, if_neg hne]
/-- a row of G in the place of another, and f in its own: f in the other's place, turned -/
theorem dt_turn {n : Nat} (G : Nat → Nat → Int) (f : Nat → Int) {s j : Nat} (hs : s < n) (hj : j < n) (hne : j ≠ s) : dt n (dt_put (dt_put G j f) s (G j)) = - dt n (dt_put G s f) := by
  have hz : dt n (dt_put (dt_put G j (fun c => 1 * G j c + 1 * f c)) s (fun c => 1 * G j c + 1 * f c)) = 0 := dt_eqr' hs hj (fun e => hne e.symm) (fun c hc => by
    unfold dt_put
    rw [if_pos rfl, if_neg hne, if_pos rfl])
  have cm : ∀ u v : Nat → Int, dt n (dt_put (dt_put G j u) s v) = dt n (dt_put (dt_put G s v) j u) := fun u v => dt_congr (fun a ha b hb => by
    unfold dt_put
    by_cases q : a = s
    · rw [if_pos q, if_neg (fun e => hne (e.symm.trans q)), if_pos q]
    · rw [if_neg q, if_neg q])
  rw [dt_lin n _ s hs, cm, cm, dt_lin n _ j hj, dt_lin n _ j hj, ← cm, ← cm, ← cm, ← cm] at hz
  have z1 : dt n (dt_put (dt_put G j (G j)) s (G j)) = 0 := dt_eqr' hs hj (fun e => hne e.symm) (fun c hc => by
    unfold dt_put
    rw [if_pos rfl, if_neg hne, if_pos rfl])
  have z2 : dt n (dt_put (dt_put G j f) s f) = 0 := dt_eqr' hs hj (fun e => hne e.symm) (fun c hc => by
    unfold dt_put
    rw [if_pos rfl, if_neg hne, if_pos rfl])
  have z3 : dt n (dt_put (dt_put G j (G j)) s f) = dt n (dt_put G s f) := dt_congr (fun a ha b hb => by
    unfold dt_put
    by_cases q : a = s
    · rw [if_pos q, if_pos q]
    · rw [if_neg q, if_neg q]
      by_cases q2 : a = j
      · rw [if_pos q2, q2]
      · rw [if_neg q2])
  rw [z1, z2, z3] at hz
  omega
/-- an exchange: the row fr comes in the place of the s-th of G -/
theorem dt_pivot {n : Nat} (G : Nat → Nat → Int) (fr f : Nat → Int) {s j : Nat} (hs : s < n) (hj : j < n) (hne : j ≠ s) : dt n G * dt n (dt_put (dt_put G s fr) j f) = dt n (dt_put G s fr) * dt n (dt_put G j f) - dt n (dt_put G s f) * dt n (dt_put G j fr) := by
  have cm : dt n (dt_put (dt_put G s fr) j f) = dt n (dt_put (dt_put G j f) s fr) := dt_congr (fun a ha b hb => by
    unfold dt_put
    by_cases q : a = s
    · rw [if_pos q, if_neg (fun e => hne (e.symm.trans q)), if_pos q]
    · rw [if_neg q, if_neg q])
  rw [cm, ← dt_scale _ hs]
  have e1 : dt n (dt_put (dt_put G j f) s (fun c => dt n G * fr c)) = dt n (dt_put (dt_put G j f) s (fun c => dt_sum n (fun i => dt n (dt_put G i fr) * G i c))) := dt_congr (fun a ha b hb => by
    by_cases q : a = s
    · rw [dt_put_s _ _ q, dt_put_s _ _ q]
      show dt n G * fr b = dt_sum n (fun i => dt n (dt_put G i fr) * G i b)
      rw [Int.mul_comm, dt_cramer n G fr b hb]
      exact dt_sum_congr (fun i hi => Int.mul_comm _ _)
    · rw [dt_put_n _ _ q, dt_put_n _ _ q])
  rw [e1, dt_linsum _ hs, dt_sum_two hs hj hne (fun i hi q1 q2 => by
    have z : dt n (dt_put (dt_put G j f) s (G i)) = 0 := dt_eqr' hs hi (fun e => q1 e.symm) (fun c hc => by
      unfold dt_put
      rw [if_pos rfl, if_neg q1, if_neg q2])
    rw [z, Int.mul_zero])]
  have e2 : dt n (dt_put (dt_put G j f) s (G s)) = dt n (dt_put G j f) := dt_congr (fun a ha b hb => by
    unfold dt_put
    by_cases q : a = s
    · rw [if_pos q, if_neg (fun e => hne (e.symm.trans q)), q]
    · rw [if_neg q])
  rw [e2, dt_turn G f hs hj hne, Int.mul_neg, Int.mul_comm (dt n (dt_put G j fr))]
  omega
/-- how large: a determinant is at most the product of its rows' sums of amounts -/
def dt_nm (n : Nat) (f : Nat → Int) : Nat := match n with
  | 0 => 0
  | n + 1 => dt_nm n f + (f n).natAbs
def dt_pr (n : Nat) (f : Nat → Nat) : Nat := match n with
  | 0 => 1
  | n + 1 => dt_pr n f * f n
theorem dt_nm_first (n : Nat) (f : Nat → Int) : dt_nm (n + 1) f = (f 0).natAbs + dt_nm n (fun i => f (i + 1)) := by
  induction n with
  | zero => simp [dt_nm]
  | succ n ih => rw [dt_nm, ih, dt_nm]; omega
theorem dt_sum_le {n : Nat} {f : Nat → Int} {g : Nat → Nat} (h : ∀ i, i < n → (f i).natAbs ≤ g i) : (dt_sum n f).natAbs ≤ dt_nm n (fun i => (g i : Int)) := by
  induction n with
  | zero => simp [dt_sum, dt_nm]
  | succ n ih =>
    rw [dt_sum_s, dt_nm]
    have h1 := Int.natAbs_add_le (dt_sum n f) (f n)
    have h2 := ih (fun i hi => h i (by omega))
    have h3 := h n (by omega)
    have h4 : ((g n : Int)).natAbs = g n := Int.natAbs_natCast _
    omega
theorem dt_pr_s (n : Nat) (f : Nat → Nat) : dt_pr (n + 1) f = dt_pr n f * f n := rfl
theorem dt_nm_s (n : Nat) (f : Nat → Int) : dt_nm (n + 1) f = dt_nm n f + (f n).natAbs := rfl
theorem dt_pr_congr {n : Nat} {f g : Nat → Nat} (h : ∀ i, i < n → f i = g i) : dt_pr n f = dt_pr n g := by
  induction n with
  | zero => rfl
  | succ n ih => rw [dt_pr, dt_pr, ih (fun i hi => h i (by omega)), h n (by omega)]
/-- one factor's first part and the others' second parts: the sum over the factors is within the product -/
theorem dt_pr_split : ∀ (n : Nat) (a b : Nat → Nat), dt_nm (n + 1) (fun i => ((a i * dt_pr n (fun k => b (dt_sk i k)) : Nat) : Int)) + dt_pr (n + 1) b ≤ dt_pr (n + 1) (fun i => a i + b i)
  | 0, a, b => by
    simp [dt_nm, dt_pr]
  | n + 1, a, b => by
    have ih := dt_pr_split n a b
    rw [dt_nm_s (n + 1), dt_pr_s (n + 1) b, dt_pr_s (n + 1) (fun i => a i + b i)]
    have e1 : ∀ m, m ≤ n + 1 → dt_nm m (fun i => ((a i * dt_pr (n + 1) (fun k => b (dt_sk i k)) : Nat) : Int)) = dt_nm m (fun i => ((a i * dt_pr n (fun k => b (dt_sk i k)) : Nat) : Int)) * b (n + 1) := by
      intro m
      induction m with
      | zero => intro _; simp [dt_nm]
      | succ m im =>
        intro hm
        rw [dt_nm, dt_nm, im (by omega), Nat.add_mul]
        have e2 : dt_sk m n = n + 1 := by unfold dt_sk; rw [if_neg (by omega)]
        have e3 : dt_pr (n + 1) (fun k => b (dt_sk m k)) = dt_pr n (fun k => b (dt_sk m k)) * b (n + 1) := by rw [dt_pr, e2]
        rw [e3, Int.natAbs_natCast, Int.natAbs_natCast, Nat.mul_assoc]
    have e4 : dt_pr (n + 1) (fun k => b (dt_sk (n + 1) k)) = dt_pr (n + 1) b := dt_pr_congr (fun i hi => by unfold dt_sk; rw [if_pos hi])
    rw [e1 (n + 1) (Nat.le_refl _), e4, Int.natAbs_natCast, Nat.mul_add]
    have h1 := Nat.mul_le_mul_right (b (n + 1)) ih
    rw [Nat.add_mul] at h1
    have h2 : dt_pr (n + 1) b ≤ dt_pr (n + 1) (fun i => a i + b i) := by omega
    have h3 := Nat.mul_le_mul_right (a (n + 1)) h2
    rw [Nat.mul_comm (a (n + 1)) (dt_pr (n + 1) b)]
    omega
theorem dt_nm_mono {n : Nat} {f g : Nat → Int} (h : ∀ i, i < n → (f i).natAbs ≤ (g i).natAbs) : dt_nm n f ≤ dt_nm n g := by
  induction n with
  | zero => exact Nat.le_refl _
  | succ n ih =>
    rw [dt_nm, dt_nm]
    have h1 := ih (fun i hi => h i (by omega))
    have h2 := h n (by omega)
    omega
theorem dt_le : ∀ (n : Nat) (M : Nat → Nat → Int), (dt n M).natAbs ≤ dt_pr n (fun i => dt_nm n (M i))
  | 0, M => by simp [dt, dt_pr]
  | n + 1, M => by
    have h1 : (dt (n + 1) M).natAbs ≤ dt_nm (n + 1) (fun i => (((M i 0).natAbs * dt_pr n (fun k => dt_nm n (fun b => M (dt_sk i k) (b + 1))) : Nat) : Int)) := by
      rw [dt]
      refine dt_sum_le (fun i hi => ?_)
      rw [Int.natAbs_mul, Int.natAbs_mul]
      have h2 : (dt_sg i).natAbs = 1 := by unfold dt_sg; split <;> rfl
      rw [h2, Nat.one_mul]
      exact Nat.mul_le_mul_left _ (dt_le n (fun a b => M (dt_sk i a) (b + 1)))
    have h3 := dt_pr_split n (fun i => (M i 0).natAbs) (fun i => dt_nm n (fun b => M i (b + 1)))
    have h4 : dt_pr (n + 1) (fun i => dt_nm (n + 1) (M i)) = dt_pr (n + 1) (fun i => (M i 0).natAbs + dt_nm n (fun b => M i (b + 1))) := dt_pr_congr (fun i hi => dt_nm_first n (M i))
    rw [h4]
    have h5 := Nat.le_trans h1 (Nat.le_add_right _ (dt_pr (n + 1) (fun i => dt_nm n (fun b => M i (b + 1)))))
    exact Nat.le_trans h5 h3
theorem dt_pr_pow {n B : Nat} {f : Nat → Nat} (h : ∀ i, i < n → f i ≤ B) : dt_pr n f ≤ B ^ n := by
  induction n with
  | zero => exact Nat.le_refl _
  | succ n ih => rw [dt_pr, Nat.pow_succ]; exact Nat.mul_le_mul (ih (fun i hi => h i (by omega))) (h n (by omega))
