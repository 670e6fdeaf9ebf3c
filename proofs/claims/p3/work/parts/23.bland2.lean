/-- a table says of every solution: its rows, its aims; and every choice of its columns' numbers is a solution's -/
def bl_says (X : (Nat → Rat) → Prop) (obj : Nat → (Nat → Rat) → Rat) (n R K : Nat) (cn rn : Nat → Nat) (a : Nat → Nat → Rat) (b : Nat → Rat) (c : Nat → Nat → Rat) (z : Nat → Rat) : Prop :=
  (∀ x, X x → (∀ i, i < R → x (rn i) = b i + bl_sum n (fun j => a i j * x (cn j))) ∧ ∀ q, q < K → obj q x = z q + bl_sum n (fun j => c q j * x (cn j))) ∧ (∀ y : Nat → Rat, ∃ x, X x ∧ ∀ j, j < n → x (cn j) = y j)
/-- the names of columns and rows are apart -/
def bl_apart (n R : Nat) (cn rn : Nat → Nat) : Prop := (∀ i j, i < n → j < n → cn i = cn j → i = j) ∧ (∀ i j, i < R → j < R → rn i = rn j → i = j) ∧ ∀ i j, i < R → j < n → rn i ≠ cn j
/-- the choice of column and row that Bland's rule makes; column 'gone' is never chosen -/
def bl_rule (n R K gone : Nat) (cn rn : Nat → Nat) (a : Nat → Nat → Rat) (b : Nat → Rat) (c : Nat → Nat → Rat) (s r : Nat) : Prop :=
  s < n ∧ s ≠ gone ∧ r < R ∧ bl_neg K (fun q => c q s) ∧ (∀ j, j < n → j ≠ gone → bl_neg K (fun q => c q j) → cn s ≤ cn j) ∧ a r s < 0 ∧ ∀ i, i < R → a i s < 0 → b r = 0 → b i = 0 → rn r ≤ rn i
def bl_next (n R : Nat) (cn rn cn' rn' : Nat → Nat) (s r : Nat) : Prop := (∀ j, j < n → cn' j = if j = s then rn r else cn j) ∧ ∀ i, i < R → rn' i = if i = r then cn s else rn i
theorem bl_max (f : Nat → Nat) : ∀ m, 0 < m → ∃ e, e < m ∧ ∀ k, k < m → f k ≤ f e
  | 0, h => by omega
  | 1, _ => ⟨0, by omega, fun k hk => by rw [show k = 0 by omega]; exact Nat.le_refl _⟩
  | m + 2, _ => by
    obtain ⟨e, he, hm⟩ := bl_max f (m + 1) (by omega)
    by_cases h : f e ≤ f (m + 1)
    · exact ⟨m + 1, by omega, fun k hk => by
        by_cases q : k = m + 1
        · rw [q]; exact Nat.le_refl _
        · exact Nat.le_trans (hm k (by omega)) h⟩
    · exact ⟨e, by omega, fun k hk => by
        by_cases q : k = m + 1
        · rw [q]; omega
        · exact hm k (by omega)⟩
section BL
variable {X : (Nat → Rat) → Prop} {obj : Nat → (Nat → Rat) → Rat} {n R K gone : Nat} {cn rn : Nat → Nat → Nat} {a : Nat → Nat → Nat → Rat} {b : Nat → Nat → Rat} {c : Nat → Nat → Nat → Rat} {z : Nat → Nat → Rat} {s r : Nat → Nat} {m : Nat}
def bl_nb (n : Nat) (cn : Nat → Nat) (v : Nat) : Prop := ∃ j, j < n ∧ cn j = v
def bl_bs (R : Nat) (rn : Nat → Nat) (v : Nat) : Prop := ∃ i, i < R ∧ rn i = v
theorem bl_nb_next {cn rn cn' rn' : Nat → Nat} {s r : Nat} (hs : s < n) (hr : r < R) (hap : bl_apart n R cn rn) (h : bl_next n R cn rn cn' rn' s r) (v : Nat) : bl_nb n cn' v ↔ (bl_nb n cn v ∧ cn s ≠ v) ∨ rn r = v := by
  constructor
  · rintro ⟨j, hj, e⟩
    rw [h.1 j hj] at e
    by_cases q : j = s
    · rw [if_pos q] at e
      exact Or.inr e
    · rw [if_neg q] at e
      exact Or.inl ⟨⟨j, hj, e⟩, fun w => q (hap.1 j s hj hs (e.trans w.symm))⟩
  · rintro (⟨⟨j, hj, e⟩, w⟩ | e)
    · have q : j ≠ s := fun q => w (by rw [← q]; exact e)
      exact ⟨j, hj, by rw [h.1 j hj, if_neg q]; exact e⟩
    · exact ⟨s, hs, by rw [h.1 s hs, if_pos rfl]; exact e⟩
theorem bl_bs_next {cn rn cn' rn' : Nat → Nat} {s r : Nat} (hs : s < n) (hr : r < R) (hap : bl_apart n R cn rn) (h : bl_next n R cn rn cn' rn' s r) (v : Nat) : bl_bs R rn' v ↔ (bl_bs R rn v ∧ rn r ≠ v) ∨ cn s = v := by
  constructor
  · rintro ⟨j, hj, e⟩
    rw [h.2 j hj] at e
    by_cases q : j = r
    · rw [if_pos q] at e
      exact Or.inr e
    · rw [if_neg q] at e
      exact Or.inl ⟨⟨j, hj, e⟩, fun w => q (hap.2.1 j r hj hr (e.trans w.symm))⟩
  · rintro (⟨⟨j, hj, e⟩, w⟩ | e)
    · have q : j ≠ r := fun q => w (by rw [← q]; exact e)
      exact ⟨j, hj, by rw [h.2 j hj, if_neg q]; exact e⟩
    · exact ⟨r, hr, by rw [h.2 r hr, if_pos rfl]; exact e⟩
/-- one step, seen at the solutions that have 0 in the columns -/
theorem bl_step {cn rn cn' rn' : Nat → Nat} {a : Nat → Nat → Rat} {b : Nat → Rat} {c : Nat → Nat → Rat} {z : Nat → Rat} {s r : Nat} (hS : bl_says X obj n R K cn rn a b c z) (hs : s < n) (hr : r < R) (hn : bl_next n R cn rn cn' rn' s r) (hb : 0 ≤ b r) (ha : a r s < 0) {x : Nat → Rat} (hx : X x) (h0 : ∀ j, j < n → x (cn' j) = 0) :
    0 ≤ x (cn s) ∧ (b r = 0 → x (cn s) = 0) ∧ (x (cn s) = 0 → b r = 0) ∧ (∀ j, j < n → j ≠ s → x (cn j) = 0) ∧ (∀ q, q < K → obj q x = z q + c q s * x (cn s)) ∧ ∀ i, i < R → x (rn i) = b i + a i s * x (cn s) := by
  have hz : ∀ j, j < n → j ≠ s → x (cn j) = 0 := fun j hj q => by
    have := h0 j hj
    rw [hn.1 j hj, if_neg q] at this
    exact this
  have h1 : x (rn r) = 0 := by
    have := h0 s hs
    rw [hn.1 s hs, if_pos rfl] at this
    exact this
  have hrow : ∀ i, i < R → x (rn i) = b i + a i s * x (cn s) := fun i hi => by
    rw [(hS.1 x hx).1 i hi, bl_sum_one hs (fun j hj q => by rw [hz j hj q]; grind)]
  have e1 := hrow r hr
  rw [h1] at e1
  have na : a r s ≠ 0 := by grind
  have p : 0 ≤ x (cn s) := by
    by_cases w : x (cn s) < 0
    · have := Rat.mul_pos (show 0 < - a r s by grind) (show 0 < - x (cn s) by grind)
      grind
    · grind
  refine ⟨p, fun hb0 => ?_, fun hx0 => ?_, hz, fun q hq => ?_, hrow⟩
  · rw [hb0] at e1
    have e2 : a r s * x (cn s) = 0 := by grind
    rcases Rat.mul_eq_zero.mp e2 with w | w
    · exact absurd w na
    · exact w
  · rw [hx0] at e1
    grind
  · rw [(hS.1 x hx).2 q hq, bl_sum_one hs (fun j hj w => by rw [hz j hj w]; grind)]
/-- Bland's rule never comes back to the same columns -/
theorem bl_no_cycle (hm : 0 < m) (hS : ∀ k, k ≤ m → bl_says X obj n R K (cn k) (rn k) (a k) (b k) (c k) (z k)) (hap : ∀ k, k ≤ m → bl_apart n R (cn k) (rn k)) (hb : ∀ k, k ≤ m → ∀ i, i < R → 0 ≤ b k i) (hR : ∀ k, k < m → bl_rule n R K gone (cn k) (rn k) (a k) (b k) (c k) (s k) (r k)) (hN : ∀ k, k < m → bl_next n R (cn k) (rn k) (cn (k + 1)) (rn (k + 1)) (s k) (r k)) (hE : ∀ j, j < n → cn m j = cn 0 j) : False := by
  -- the solutions with 0 in the columns
  obtain ⟨xs, hxs⟩ : ∃ xs : Nat → Nat → Rat, ∀ k, k ≤ m → X (xs k) ∧ ∀ j, j < n → xs k (cn k j) = 0 := by
    have ch : ∀ k, ∃ x : Nat → Rat, k ≤ m → X x ∧ ∀ j, j < n → x (cn k j) = 0 := fun k => by
      by_cases hk : k ≤ m
      · obtain ⟨x, h1, h2⟩ := (hS k hk).2 (fun _ => 0)
        exact ⟨x, fun _ => ⟨h1, h2⟩⟩
      · exact ⟨fun _ => 0, fun h => absurd h hk⟩
    exact ⟨fun k => Classical.choose (ch k), fun k hk => Classical.choose_spec (ch k) hk⟩
  have st : ∀ k, k < m → _ := fun k hk => bl_step (hS k (by omega)) (hR k hk).1 (hR k hk).2.2.1 (hN k hk) (hb k (by omega) _ (hR k hk).2.2.1) (hR k hk).2.2.2.2.2.1 (hxs (k + 1) (by omega)).1 (hxs (k + 1) (by omega)).2
  have hz : ∀ k, k ≤ m → ∀ q, q < K → obj q (xs k) = z k q := fun k hk q hq => by
    rw [((hS k hk).1 _ (hxs k hk).1).2 q hq, bl_sum_0 (fun j hj => by rw [(hxs k hk).2 j hj]; grind)]
    grind
  have hbv : ∀ k, k ≤ m → ∀ i, i < R → xs k (rn k i) = b k i := fun k hk i hi => by
    rw [((hS k hk).1 _ (hxs k hk).1).1 i hi, bl_sum_0 (fun j hj => by rw [(hxs k hk).2 j hj]; grind)]
    grind
  -- the aims never rise
  have mono : ∀ k, k ≤ m → ¬ bl_neg K (fun q => z 0 q - z k q) ∧ ((∃ e, e < k ∧ xs (e + 1) (cn e (s e)) ≠ 0) → bl_neg K (fun q => - (z 0 q - z k q))) := by
    intro k
    induction k with
    | zero => exact fun _ => ⟨fun h => bl_neg_0 K (bl_neg_congr K (fun q _ => by show z 0 q - z 0 q = 0; grind) h), fun ⟨e, he, _⟩ => by omega⟩
    | succ k ih =>
      intro hk
      obtain ⟨i1, i2⟩ := ih (by omega)
      have sk := st k (by omega)
      have ez : ∀ q, q < K → z (k + 1) q = z k q + c k q (s k) * xs (k + 1) (cn k (s k)) := fun q hq => by
        rw [← hz (k + 1) hk q hq]
        exact sk.2.2.2.2.1 q hq
      have cneg := (hR k (by omega)).2.2.2.1
      have nn : ¬ bl_neg K (fun q => c k q (s k) * (- xs (k + 1) (cn k (s k)))) := bl_neg_turn K cneg (by have := sk.1; grind)
      refine ⟨fun h => bl_nn_add K i1 nn (bl_neg_congr K (fun q hq => by rw [ez q hq]; grind) h), fun ⟨e, he, hne⟩ => ?_⟩
      by_cases q : e = k
      · subst q
        have p : 0 < xs (e + 1) (cn e (s e)) := by have := sk.1; grind
        have h1 := bl_pos_scale K cneg p
        have h2 := bl_pos_add K h1 i1
        exact bl_neg_congr K (fun q hq => by rw [ez q hq]; grind) h2
      · have h1 := i2 ⟨e, by omega, hne⟩
        have h2 := bl_pos_add K h1 nn
        exact bl_neg_congr K (fun q hq => by rw [ez q hq]; grind) h2
  have zend : ∀ q, q < K → z m q = z 0 q := fun q hq => by
    rw [← hz m (Nat.le_refl m) q hq, ((hS 0 (by omega)).1 _ (hxs m (Nat.le_refl m)).1).2 q hq, bl_sum_0 (fun j hj => by rw [← hE j hj, (hxs m (Nat.le_refl m)).2 j hj]; grind)]
    grind
  have deg : ∀ k, k < m → xs (k + 1) (cn k (s k)) = 0 := fun k hk => by
    by_cases w : xs (k + 1) (cn k (s k)) = 0
    · exact w
    · exact absurd (bl_neg_congr K (fun q hq => by show - (z 0 q - z m q) = 0; rw [zend q hq]; grind) ((mono m (Nat.le_refl m)).2 ⟨k, hk, w⟩)) (bl_neg_0 K)
  have bz : ∀ k, k < m → b k (r k) = 0 := fun k hk => (st k hk).2.2.1 (deg k hk)
  -- what a name's number is stays
  have keep : ∀ k, k < m → ∀ v, bl_nb n (cn k) v ∨ bl_bs R (rn k) v → xs (k + 1) v = xs k v := by
    rintro k hk v (⟨j, hj, rfl⟩ | ⟨i, hi, rfl⟩)
    · rw [(hxs k (by omega)).2 j hj]
      by_cases w : j = s k
      · rw [w]; exact deg k hk
      · exact (st k hk).2.2.2.1 j hj w
    · rw [hbv k (by omega) i hi, (st k hk).2.2.2.2.2 i hi, deg k hk]
      grind
  have known : ∀ k, k < m → ∀ v, (bl_nb n (cn (k + 1)) v ∨ bl_bs R (rn (k + 1)) v) ↔ (bl_nb n (cn k) v ∨ bl_bs R (rn k) v) := by
    intro k hk v
    rw [bl_nb_next (hR k hk).1 (hR k hk).2.2.1 (hap k (by omega)) (hN k hk) v, bl_bs_next (hR k hk).1 (hR k hk).2.2.1 (hap k (by omega)) (hN k hk) v]
    constructor
    · rintro ((⟨h, -⟩ | h) | (⟨h, -⟩ | h))
      · exact Or.inl h
      · exact Or.inr ⟨r k, (hR k hk).2.2.1, h⟩
      · exact Or.inr h
      · exact Or.inl ⟨s k, (hR k hk).1, h⟩
    · rintro (h | h)
      · by_cases w : cn k (s k) = v
        · exact Or.inr (Or.inr w)
        · exact Or.inl (Or.inl ⟨h, w⟩)
      · by_cases w : rn k (r k) = v
        · exact Or.inl (Or.inr w)
        · exact Or.inr (Or.inl ⟨h, w⟩)
  have same : ∀ v, (bl_nb n (cn 0) v ∨ bl_bs R (rn 0) v) → ∀ k, k ≤ m → (bl_nb n (cn k) v ∨ bl_bs R (rn k) v) ∧ xs k v = xs 0 v := by
    intro v hv k
    induction k with
    | zero => exact fun _ => ⟨hv, rfl⟩
    | succ k ih =>
      intro hk
      obtain ⟨h1, h2⟩ := ih (by omega)
      exact ⟨(known k (by omega) v).mpr h1, (keep k (by omega) v h1).trans h2⟩
  have back : ∀ k, k ≤ m → ∀ v, (bl_nb n (cn k) v ∨ bl_bs R (rn k) v) → (bl_nb n (cn 0) v ∨ bl_bs R (rn 0) v) := by
    intro k
    induction k with
    | zero => exact fun _ v h => h
    | succ k ih => exact fun hk v h => ih (by omega) v ((known k (by omega) v).mp h)
  -- who comes and who goes
  have L1 : ∀ v k d, k + d ≤ m → bl_nb n (cn k) v → (∀ e, k ≤ e → e < k + d → cn e (s e) ≠ v) → bl_nb n (cn (k + d)) v := by
    intro v k d
    induction d with
    | zero => exact fun _ h _ => h
    | succ d ih =>
      intro hk h hne
      have h1 := ih (by omega) h (fun e e1 e2 => hne e e1 (by omega))
      exact (bl_nb_next (hR (k + d) (by omega)).1 (hR (k + d) (by omega)).2.2.1 (hap (k + d) (by omega)) (hN (k + d) (by omega)) v).mpr (Or.inl ⟨h1, hne (k + d) (by omega) (by omega)⟩)
  have L2 : ∀ v k d, k + d ≤ m → ¬ bl_nb n (cn k) v → (∀ e, k ≤ e → e < k + d → rn e (r e) ≠ v) → ¬ bl_nb n (cn (k + d)) v := by
    intro v k d
    induction d with
    | zero => exact fun _ h _ => h
    | succ d ih =>
      intro hk h hne h9
      have h1 := ih (by omega) h (fun e e1 e2 => hne e e1 (by omega))
      rcases (bl_nb_next (hR (k + d) (by omega)).1 (hR (k + d) (by omega)).2.2.1 (hap (k + d) (by omega)) (hN (k + d) (by omega)) v).mp h9 with ⟨q, -⟩ | q
      · exact h1 q
      · exact hne (k + d) (by omega) (by omega) q
  have ends : ∀ v, bl_nb n (cn m) v ↔ bl_nb n (cn 0) v := fun v => ⟨fun ⟨j, hj, e⟩ => ⟨j, hj, by rw [← hE j hj]; exact e⟩, fun ⟨j, hj, e⟩ => ⟨j, hj, by rw [hE j hj]; exact e⟩⟩
  have goes : ∀ v l, l < m → rn l (r l) = v → ∃ e, e < m ∧ cn e (s e) = v := by
    intro v l hl hv
    by_cases w : ∃ e, e < m ∧ cn e (s e) = v
    · exact w
    · have nv : ∀ e, e < m → cn e (s e) ≠ v := fun e he q => w ⟨e, he, q⟩
      have h1 : bl_nb n (cn (l + 1)) v := (bl_nb_next (hR l hl).1 (hR l hl).2.2.1 (hap l (by omega)) (hN l hl) v).mpr (Or.inr hv)
      have h2 := L1 v (l + 1) (m - (l + 1)) (by omega) h1 (fun e _ e2 => nv e (by omega))
      rw [show l + 1 + (m - (l + 1)) = m by omega, ends] at h2
      have h3 := L1 v 0 l (by omega) h2 (fun e _ e2 => nv e (by omega))
      rw [Nat.zero_add] at h3
      obtain ⟨j, hj, e⟩ := h3
      exact absurd (hv.trans e.symm) ((hap l (by omega)).2.2 (r l) j (hR l hl).2.2.1 hj)
  have comes : ∀ v e, e < m → cn e (s e) = v → ∃ l, l < m ∧ rn l (r l) = v := by
    intro v e he hv
    by_cases w : ∃ l, l < m ∧ rn l (r l) = v
    · exact w
    · have nv : ∀ l, l < m → rn l (r l) ≠ v := fun l hl q => w ⟨l, hl, q⟩
      have h1 : ¬ bl_nb n (cn (e + 1)) v := fun q => by
        rcases (bl_nb_next (hR e he).1 (hR e he).2.2.1 (hap e (by omega)) (hN e he) v).mp q with ⟨-, q⟩ | q
        · exact q hv
        · exact nv e he q
      have h2 := L2 v (e + 1) (m - (e + 1)) (by omega) h1 (fun l _ l2 => nv l (by omega))
      rw [show e + 1 + (m - (e + 1)) = m by omega, ends] at h2
      have h3 := L2 v 0 e (by omega) h2 (fun l _ l2 => nv l (by omega))
      rw [Nat.zero_add] at h3
      exact absurd ⟨s e, (hR e he).1, hv⟩ h3
  have fickle : ∀ v l k, l < m → k < m → ¬ bl_nb n (cn l) v → bl_nb n (cn k) v → ∃ e, e < m ∧ cn e (s e) = v := by
    intro v l k hl hk h1 h2
    by_cases w : ∃ e, e < m ∧ cn e (s e) = v
    · exact w
    · have nv : ∀ e, e < m → cn e (s e) ≠ v := fun e he q => w ⟨e, he, q⟩
      by_cases q : k ≤ l
      · have h3 := L1 v k (l - k) (by omega) h2 (fun e _ e2 => nv e (by omega))
        rw [show k + (l - k) = l by omega] at h3
        exact absurd h3 h1
      · by_cases w2 : ∃ g, g < m ∧ rn g (r g) = v
        · obtain ⟨g, hg, hv⟩ := w2
          exact goes v g hg hv
        · have h3 := L2 v l (k - l) (by omega) h1 (fun e _ e2 q2 => w2 ⟨e, by omega, q2⟩)
          rw [show l + (k - l) = k by omega] at h3
          exact absurd h2 h3
  -- the greatest name that comes
  obtain ⟨k2, hk2, hmax⟩ := bl_max (fun e => cn e (s e)) m hm
  obtain ⟨l1, hl1, ht⟩ := comes _ k2 hk2 rfl
  obtain ⟨y1, hy1, hy2⟩ := (hS l1 (by omega)).2 (fun j => if j = s l1 then 1 else 0)
  have hx1 := hxs l1 (by omega)
  have R1 := hR l1 hl1
  have R2 := hR k2 hk2
  -- the difference of the two solutions
  have d1 : ∀ i, i < R → y1 (rn l1 i) - xs l1 (rn l1 i) = a l1 i (s l1) := fun i hi => by
    rw [hbv l1 (by omega) i hi, ((hS l1 (by omega)).1 y1 hy1).1 i hi, bl_sum_one R1.1 (fun j hj w => by rw [hy2 j hj, if_neg w]; grind), hy2 _ R1.1, if_pos rfl]
    grind
  have d2 : ∀ q, q < K → c l1 q (s l1) = bl_sum n (fun j => c k2 q j * (y1 (cn k2 j) - xs l1 (cn k2 j))) := fun q hq => by
    have e1 := ((hS l1 (by omega)).1 y1 hy1).2 q hq
    rw [bl_sum_one R1.1 (fun j hj w => by rw [hy2 j hj, if_neg w]; grind), hy2 _ R1.1, if_pos rfl] at e1
    have e2 := hz l1 (by omega) q hq
    have e3 := ((hS k2 (by omega)).1 y1 hy1).2 q hq
    have e4 := ((hS k2 (by omega)).1 _ hx1.1).2 q hq
    have e5 := bl_sum_sub n (fun j => c k2 q j * y1 (cn k2 j)) (fun j => c k2 q j * xs l1 (cn k2 j))
    have e6 : bl_sum n (fun j => c k2 q j * y1 (cn k2 j) - c k2 q j * xs l1 (cn k2 j)) = bl_sum n (fun j => c k2 q j * (y1 (cn k2 j) - xs l1 (cn k2 j))) := bl_sum_congr (fun j _ => by grind)
    rw [← e6, ← e5]
    grind
  refine absurd R1.2.2.2.1 (fun h => bl_nn_sum K n (fun q j => c k2 q j * (y1 (cn k2 j) - xs l1 (cn k2 j))) (fun j hj => ?_) (bl_neg_congr K d2 h))
  -- each of the sum is not below 0
  have zero : y1 (cn k2 j) - xs l1 (cn k2 j) = 0 → ¬ bl_neg K (fun q => c k2 q j * (y1 (cn k2 j) - xs l1 (cn k2 j))) := fun e h => bl_neg_0 K (bl_neg_congr K (fun q _ => by rw [e]; grind) h)
  have small : ∀ v, v = cn k2 j → v < cn k2 (s k2) → j ≠ gone → ¬ bl_neg K (fun q => c k2 q j) := fun v e h g w => by
    have := R2.2.2.2.2.1 j hj g w
    omega
  have knw : bl_nb n (cn l1) (cn k2 j) ∨ bl_bs R (rn l1) (cn k2 j) := (same _ (back k2 (by omega) _ (Or.inl ⟨j, hj, rfl⟩)) l1 (by omega)).1
  -- the column that is never chosen keeps its name
  have gk : ∀ k, k ≤ m → gone < n → cn k gone = cn 0 gone := by
    intro k
    induction k with
    | zero => exact fun _ _ => rfl
    | succ k ih =>
      intro hk hg
      rw [(hN k (by omega)).1 gone hg, if_neg (fun e => (hR k (by omega)).2.1 e.symm)]
      exact ih (by omega) hg
  by_cases hg : j = gone
  · subst hg
    refine zero ?_
    have e : cn k2 j = cn l1 j := (gk k2 (by omega) hj).trans (gk l1 (by omega) hj).symm
    rw [e, hx1.2 j hj, hy2 j hj, if_neg (fun w => R1.2.1 w.symm)]
    grind
  · rcases knw with ⟨i, hi, e⟩ | ⟨i, hi, e⟩
    · by_cases w : i = s l1
      · subst w
        have lt : cn k2 j < cn k2 (s k2) := by
          have h1 := hmax l1 hl1
          have h2 : cn l1 (s l1) ≠ cn k2 (s k2) := fun q => (hap l1 (by omega)).2.2 (r l1) (s l1) R1.2.2.1 R1.1 (ht.trans q.symm)
          have h3 : cn l1 (s l1) ≤ cn k2 (s k2) := h1
          omega
        have e2 : y1 (cn k2 j) - xs l1 (cn k2 j) = 1 := by
          rw [← e, hx1.2 _ hi, hy2 _ hi, if_pos rfl]
          grind
        exact fun h => small _ rfl lt hg (bl_neg_congr K (fun q _ => by rw [e2]; grind) h)
      · refine zero ?_
        rw [← e, hx1.2 i hi, hy2 i hi, if_neg w]
        grind
    · have dv : y1 (cn k2 j) - xs l1 (cn k2 j) = a l1 i (s l1) := by rw [← e]; exact d1 i hi
      by_cases w : cn k2 j = cn k2 (s k2)
      · have hj2 : j = s k2 := (hap k2 (by omega)).1 j (s k2) hj R2.1 w
        have hi2 : i = r l1 := (hap l1 (by omega)).2.1 i (r l1) hi R1.2.2.1 (e.trans (w.trans ht.symm))
        have neg := R1.2.2.2.2.2.1
        rw [← hi2, ← dv] at neg
        subst hj2
        exact bl_neg_turn K R2.2.2.2.1 (by grind)
      · have nbl : ¬ bl_nb n (cn l1) (cn k2 j) := fun ⟨g, hg2, e2⟩ => (hap l1 (by omega)).2.2 i g hi hg2 (e.trans e2.symm)
        obtain ⟨e9, he9, hv9⟩ := fickle (cn k2 j) l1 k2 hl1 hk2 nbl ⟨j, hj, rfl⟩
        have lt : cn k2 j < cn k2 (s k2) := by
          have h1 : cn e9 (s e9) ≤ cn k2 (s k2) := hmax e9 he9
          omega
        by_cases w2 : a l1 i (s l1) < 0
        · have bi : b l1 i = 0 := by
            rw [← hbv l1 (by omega) i hi, e, (same _ (back k2 (by omega) _ (Or.inl ⟨j, hj, rfl⟩)) l1 (by omega)).2, ← (same _ (back k2 (by omega) _ (Or.inl ⟨j, hj, rfl⟩)) k2 (by omega)).2]
            exact (hxs k2 (by omega)).2 j hj
          have := R1.2.2.2.2.2.2 i hi w2 (bz l1 hl1) bi
          rw [ht, e] at this
          have this : cn k2 (s k2) ≤ cn k2 j := this
          omega
        · exact bl_nn_scale K (small _ rfl lt hg) (by rw [dv]; grind)
end BL
