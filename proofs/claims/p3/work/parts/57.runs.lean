/-! runs of Bland's rule over tables in whole numbers -/
section SR
variable {n : Nat} {F : Nat → Nat → Int} {M R K A gone V m : Nat} {nm cn rn nm' cn' rn' : Nat → Nat} {e e' : Int} {t t' : Nat → Nat → Int} {one one' : Int}
def sxRun (n : Nat) (F : Nat → Nat → Int) (R K A gone V m : Nat) (cn rn : Nat → Nat) : Prop :=
  ∃ (CN RN : Nat → Nat → Nat) (S Q : Nat → Nat), bl_run (tX n F) (fun q x => x (A + q)) n R K gone V m CN RN (fun k i j => (tT n F (CN k) (RN k i) j : Rat) / (tD n F (CN k) : Rat)) (fun k i => (tT n F (CN k) (RN k i) n : Rat) / (tD n F (CN k) : Rat)) (fun k q j => (tT n F (CN k) (A + q) j : Rat) / (tD n F (CN k) : Rat)) (fun k q => (tT n F (CN k) (A + q) n : Rat) / (tD n F (CN k) : Rat)) S Q ∧ CN m = cn ∧ RN m = rn
theorem sxRun_0 (h : sxT n F M nm cn e t one) (hR : R ≤ M) (hrn : ∀ i, i < R → nm i = rn i) (hap : bl_apart n R cn rn) (hb : ∀ i, i < R → 0 ≤ t i n) (hV : ∀ j, j < n → cn j < V) : sxRun n F R K A gone V 0 cn rn := by
  refine ⟨fun _ => cn, fun _ => rn, fun _ => 0, fun _ => 0, ⟨fun k _ => tb_says (sx_tD h) R K A rn, fun k _ => hap, fun k _ i hi => ?_, fun k hk => absurd hk (Nat.not_lt_zero _), fun k hk => absurd hk (Nat.not_lt_zero _), fun k _ => hV⟩, rfl, rfl⟩
  show 0 ≤ (tT n F cn (rn i) n : Rat) / (tD n F cn : Rat)
  rw [← hrn i hi, sx_rat h (by omega) (by omega)]
  exact (ra_le h.2.2.1).mpr (hb i hi)
theorem sxRun_lt (h : sxRun n F R K A gone V m cn rn) : m < V ^ n := by
  obtain ⟨CN, RN, S, Q, h, -, -⟩ := h
  exact bl_finite h
theorem sxRun_s (h : sxRun n F R K A gone V m cn rn) (hT : sxT n F M nm cn e t one) (hR : R ≤ M) (hrn : ∀ i, i < R → nm i = rn i) (g : Nat → Nat) (hg : ∀ q, q < K → g q < M ∧ nm (g q) = A + q) {s r : Nat} (hs : s < n) (hgone : s ≠ gone) (hr : r < R) (h1 : sxN K (fun q => t (g q) s)) (h2 : ∀ j, j < n → j ≠ gone → sxN K (fun q => t (g q) j) → cn s ≤ cn j) (h3 : t r s < 0) (h4 : ∀ i, i < R → t i s < 0 → t r n = 0 → t i n = 0 → rn r ≤ rn i)
    (hT' : sxT n F M nm' cn' e' t' one') (hrn' : ∀ i, i < R → nm' i = rn' i) (hnx : bl_next n R cn rn cn' rn' s r) (hap : bl_apart n R cn' rn') (hb : ∀ i, i < R → 0 ≤ t' i n) (hV : ∀ j, j < n → cn' j < V) : sxRun n F R K A gone V (m + 1) cn' rn' := by
  obtain ⟨CN, RN, S, Q, hr0, rfl, rfl⟩ := h
  have hng : ∀ j, j < n + 1 → (bl_neg K (fun q => (tT n F (CN m) (A + q) j : Rat) / (tD n F (CN m) : Rat)) ↔ sxN K (fun q => t (g q) j)) := by
    intro j hj
    rw [← sxN_neg hT.2.2.1 K (fun q => t (g q) j)]
    have e0 : ∀ q, q < K → (tT n F (CN m) (A + q) j : Rat) / (tD n F (CN m) : Rat) = (t (g q) j : Rat) / (one : Rat) := by
      intro q hq
      rw [← (hg q hq).2]
      exact sx_rat hT (hg q hq).1 hj
    exact ⟨bl_neg_congr K e0, bl_neg_congr K (fun q hq => (e0 q hq).symm)⟩
  have ha : ∀ i, i < R → ∀ j, j < n + 1 → (tT n F (CN m) (RN m i) j : Rat) / (tD n F (CN m) : Rat) = (t i j : Rat) / (one : Rat) := by
    intro i hi j hj
    rw [← hrn i hi]
    exact sx_rat hT (by omega) hj
  have hrule : bl_rule n R K gone (CN m) (RN m) (fun i j => (tT n F (CN m) (RN m i) j : Rat) / (tD n F (CN m) : Rat)) (fun i => (tT n F (CN m) (RN m i) n : Rat) / (tD n F (CN m) : Rat)) (fun q j => (tT n F (CN m) (A + q) j : Rat) / (tD n F (CN m) : Rat)) s r := by
    refine ⟨hs, hgone, hr, (hng s (by omega)).mpr h1, fun j hj hjg hn => h2 j hj hjg ((hng j (by omega)).mp hn), ?_, fun i hi hi2 hb1 hb2 => ?_⟩
    · show (tT n F (CN m) (RN m r) s : Rat) / (tD n F (CN m) : Rat) < 0
      rw [ha r hr s (by omega)]
      exact (ra_lt hT.2.2.1).mpr h3
    · have hi2 : (tT n F (CN m) (RN m i) s : Rat) / (tD n F (CN m) : Rat) < 0 := hi2
      have hb1 : (tT n F (CN m) (RN m r) n : Rat) / (tD n F (CN m) : Rat) = 0 := hb1
      have hb2 : (tT n F (CN m) (RN m i) n : Rat) / (tD n F (CN m) : Rat) = 0 := hb2
      rw [ha i hi s (by omega)] at hi2
      rw [ha r hr n (by omega)] at hb1
      rw [ha i hi n (by omega)] at hb2
      exact h4 i hi ((ra_lt hT.2.2.1).mp hi2) ((ra_eq hT.2.2.1).mp hb1) ((ra_eq hT.2.2.1).mp hb2)
  have hnew := bl_run_s hr0 (cn' := cn') (rn' := rn') (tb_says (sx_tD hT') R K A rn') hap (fun i hi => by
    show 0 ≤ (tT n F cn' (rn' i) n : Rat) / (tD n F cn' : Rat)
    rw [← hrn' i hi, sx_rat hT' (by omega) (by omega)]
    exact (ra_le hT'.2.2.1).mpr (hb i hi)) hrule hnx hV
  refine ⟨fun k => if k ≤ m then CN k else cn', fun k => if k ≤ m then RN k else rn', fun k => if k < m then S k else s, fun k => if k < m then Q k else r, ?_, if_neg (by omega), if_neg (by omega)⟩
  have e1 : (fun k i j => (tT n F (if k ≤ m then CN k else cn') ((if k ≤ m then RN k else rn') i) j : Rat) / (tD n F (if k ≤ m then CN k else cn') : Rat)) = (fun k => if k ≤ m then (fun i j => (tT n F (CN k) (RN k i) j : Rat) / (tD n F (CN k) : Rat)) else (fun i j => (tT n F cn' (rn' i) j : Rat) / (tD n F cn' : Rat))) := by
    funext k; split <;> rfl
  have e2 : (fun k i => (tT n F (if k ≤ m then CN k else cn') ((if k ≤ m then RN k else rn') i) n : Rat) / (tD n F (if k ≤ m then CN k else cn') : Rat)) = (fun k => if k ≤ m then (fun i => (tT n F (CN k) (RN k i) n : Rat) / (tD n F (CN k) : Rat)) else (fun i => (tT n F cn' (rn' i) n : Rat) / (tD n F cn' : Rat))) := by
    funext k; split <;> rfl
  have e3 : (fun k q j => (tT n F (if k ≤ m then CN k else cn') (A + q) j : Rat) / (tD n F (if k ≤ m then CN k else cn') : Rat)) = (fun k => if k ≤ m then (fun q j => (tT n F (CN k) (A + q) j : Rat) / (tD n F (CN k) : Rat)) else (fun q j => (tT n F cn' (A + q) j : Rat) / (tD n F cn' : Rat))) := by
    funext k; split <;> rfl
  have e4 : (fun k q => (tT n F (if k ≤ m then CN k else cn') (A + q) n : Rat) / (tD n F (if k ≤ m then CN k else cn') : Rat)) = (fun k => if k ≤ m then (fun q => (tT n F (CN k) (A + q) n : Rat) / (tD n F (CN k) : Rat)) else (fun q => (tT n F cn' (A + q) n : Rat) / (tD n F cn' : Rat))) := by
    funext k; split <;> rfl
  rw [e1, e2, e3, e4]
  exact hnew
/-- names stay apart -/
theorem sx_apart {s r : Nat} (hs : s < n) (hr : r < R) (hap : bl_apart n R cn rn) (h : bl_next n R cn rn cn' rn' s r) : bl_apart n R cn' rn' := by
  obtain ⟨a1, a2, a3⟩ := hap
  obtain ⟨b1, b2⟩ := h
  refine ⟨fun i j hi hj q => ?_, fun i j hi hj q => ?_, fun i j hi hj q => ?_⟩
  · rw [b1 i hi, b1 j hj] at q
    by_cases w1 : i = s
    · by_cases w2 : j = s
      · omega
      · rw [if_pos w1, if_neg w2] at q
        exact absurd q (a3 r j hr hj)
    · by_cases w2 : j = s
      · rw [if_neg w1, if_pos w2] at q
        exact absurd q.symm (a3 r i hr hi)
      · rw [if_neg w1, if_neg w2] at q
        exact a1 i j hi hj q
  · rw [b2 i hi, b2 j hj] at q
    by_cases w1 : i = r
    · by_cases w2 : j = r
      · omega
      · rw [if_pos w1, if_neg w2] at q
        exact absurd q.symm (a3 j s hj hs)
    · by_cases w2 : j = r
      · rw [if_neg w1, if_pos w2] at q
        exact absurd q (a3 i s hi hs)
      · rw [if_neg w1, if_neg w2] at q
        exact a2 i j hi hj q
  · rw [b2 i hi, b1 j hj] at q
    by_cases w1 : i = r
    · by_cases w2 : j = s
      · rw [if_pos w1, if_pos w2] at q
        exact a3 r s hr hs q.symm
      · rw [if_pos w1, if_neg w2] at q
        exact w2 (a1 j s hj hs q.symm)
    · by_cases w2 : j = s
      · rw [if_neg w1, if_pos w2] at q
        exact w1 (a2 i r hi hr q)
      · rw [if_neg w1, if_neg w2] at q
        exact a3 i j hi hj q
/-- every name below V is a column's or a row's -/
def sxAll (n R V : Nat) (cn rn : Nat → Nat) : Prop := (∀ v, v < V → bl_nb n cn v ∨ bl_bs R rn v) ∧ (∀ j, j < n → cn j < V) ∧ ∀ i, i < R → rn i < V
theorem sx_all {s r : Nat} (hs : s < n) (hr : r < R) (hap : bl_apart n R cn rn) (h : bl_next n R cn rn cn' rn' s r) (ha : sxAll n R V cn rn) : sxAll n R V cn' rn' := by
  refine ⟨fun v hv => ?_, fun j hj => ?_, fun i hi => ?_⟩
  · rw [bl_nb_next hs hr hap h v, bl_bs_next hs hr hap h v]
    by_cases q1 : rn r = v
    · exact Or.inl (Or.inr q1)
    · by_cases q2 : cn s = v
      · exact Or.inr (Or.inr q2)
      · rcases ha.1 v hv with w | w
        · exact Or.inl (Or.inl ⟨w, q2⟩)
        · exact Or.inr (Or.inl ⟨w, q1⟩)
  · rw [h.1 j hj]
    split
    · exact ha.2.2 r hr
    · exact ha.2.1 j hj
  · rw [h.2 i hi]
    split
    · exact ha.2.1 s hs
    · exact ha.2.2 i hi
/-- the row that the least share chooses keeps all rows at 0 or above -/
theorem sx_feas {r s : Nat} (ho : 0 < one) (hr : r < R) (hb : ∀ i, i < R → 0 ≤ t i n) (hp : t r s < 0) (hq : ∀ i, i < R → t i s < 0 → t r n * - t i s ≤ t i n * - t r s)
    (h1 : ∀ i, i < R → i ≠ r → t' i n = sxS (t r s) * ((t r s * t i n - t i s * t r n) / one)) (h3 : t' r n = - (sxS (t r s) * t r n)) : ∀ i, i < R → 0 ≤ t' i n := by
  intro i hi
  have hS : sxS (t r s) = -1 := if_neg (by omega)
  by_cases q : i = r
  · subst q
    rw [h3, hS]
    have := hb i hi
    omega
  · rw [h1 i hi q, hS]
    have hle : t r s * t i n - t i s * t r n ≤ 0 := by
      have e1 : t r s * t i n ≤ 0 := Int.mul_nonpos_of_nonpos_of_nonneg (by omega) (hb i hi)
      by_cases w : t i s < 0
      · have e2 := hq i hi w
        rw [Int.mul_neg, Int.mul_neg, Int.mul_comm (t i n), Int.mul_comm (t r n)] at e2
        omega
      · have e2 : 0 ≤ t i s * t r n := Int.mul_nonneg (by omega) (hb r hr)
        omega
    have := Int.ediv_lt_of_lt_mul (a := t r s * t i n - t i s * t r n) (b := 1) ho (by omega)
    omega
/-- a column that makes the aims fall has a row that stops it -/
theorem sx_gives (hT : sxT n F M nm cn e t one) (hR : R ≤ M) (hrn : ∀ i, i < R → nm i = rn i) (g : Nat → Nat) (hg : ∀ q, q < K → g q < M ∧ nm (g q) = A + q) (hb : ∀ i, i < R → 0 ≤ t i n) (hF : ∀ v, v < n → ∀ c, c < n + 1 → F v c = if v = c then 1 else 0) (hpos : ∀ q, q < K → ∀ c, c < n + 1 → 0 ≤ F (A + q) c) (hV : n ≤ V) (hall : sxAll n R V cn rn) {s : Nat} (hs : s < n) (hc : sxN K (fun q => t (g q) s)) : ∃ i, i < R ∧ t i s < 0 := by
  have hng : bl_neg K (fun q => (tT n F cn (A + q) s : Rat) / (tD n F cn : Rat)) := by
    have h1 := (sxN_neg hT.2.2.1 K (fun q => t (g q) s)).mpr hc
    refine bl_neg_congr K (fun q hq => ?_) h1
    show (t (g q) s : Rat) / (one : Rat) = (tT n F cn (A + q) s : Rat) / (tD n F cn : Rat)
    rw [← (hg q hq).2]
    exact (sx_rat hT (hg q hq).1 (by omega)).symm
  have hb2 : ∀ i, i < R → (0 : Rat) ≤ (tT n F cn (rn i) n : Rat) / (tD n F cn : Rat) := by
    intro i hi
    rw [← hrn i hi, sx_rat hT (by omega) (by omega)]
    exact (ra_le hT.2.2.1).mpr (hb i hi)
  obtain ⟨i, hi, h⟩ := bl_gives (tb_says (sx_tD hT) R K A rn) hb2 (fun x hx hx1 hx2 q hq => by
    obtain ⟨y, hy, hv⟩ := hx
    have hyc : ∀ c, c < n → 0 ≤ y c := by
      intro c hc
      have e1 : x c = y c := by
        rw [hv c, bl_sum_one (s := c) (by omega) (fun d hd w => by rw [hF c hc d hd, if_neg (fun e => w e.symm), Rat.intCast_zero, Rat.zero_mul]), hF c hc c (by omega), if_pos rfl, Rat.intCast_one, Rat.one_mul]
      rw [← e1]
      rcases hall.1 c (by omega) with ⟨j, hj, w⟩ | ⟨i, hi, w⟩
      · rw [← w]; exact hx1 j hj
      · rw [← w]; exact hx2 i hi
    show 0 ≤ x (A + q)
    rw [hv (A + q)]
    have hsum : ∀ k, k ≤ n + 1 → 0 ≤ bl_sum k (fun c => (F (A + q) c : Rat) * y c) := by
      intro k
      induction k with
      | zero => intro _; exact Rat.le_refl
      | succ k ih =>
        intro hk
        rw [bl_sum_s]
        have h1 := ih (by omega)
        have h2 : (0 : Rat) ≤ (F (A + q) k : Rat) := by
          rw [← Rat.intCast_zero]; exact Rat.intCast_le_intCast.mpr (hpos q hq k (by omega))
        have h3 : 0 ≤ y k := by
          by_cases w : k < n
          · exact hyc k w
          · rw [show k = n by omega, hy]; grind
        have h4 := Rat.mul_nonneg h2 h3
        grind
    exact hsum (n + 1) (Nat.le_refl _)) hs hng
  refine ⟨i, hi, ?_⟩
  have h : (tT n F cn (rn i) s : Rat) / (tD n F cn : Rat) < 0 := h
  rw [← hrn i hi, sx_rat hT (by omega) (by omega)] at h
  exact (ra_lt hT.2.2.1).mp h
end SR
