/-! the class's table: what an exchange does to it -/
def V0 (i : Nat) : Prop := i < 3733 ∨ (3736 ≤ i ∧ i ≤ 3740)
def bdO (Z : Nat → Int) : Prop := ∀ i, i < 3745 → V0 i → (Z i).natAbs < 2147483648 ^ 49
def hO (st : Nat → Option wQ) (Z : Nat → Int) : Prop := gO st Z V0 ∧ bdO Z
theorem bd_up {Z : Nat → Int} {i : Nat} {z : Int} (h : bdO Z) (hz : z.natAbs < 2147483648 ^ 49) : bdO (va_up Z i z) := by
  intro j hj hv
  by_cases q : j = i
  · subst q; rw [va_up_self]; exact hz
  · rw [va_up_ne _ _ q]; exact h j hj hv
/-- scratch numbers are forgotten -/
theorem hO_of {st : Nat → Option wQ} {Z Z' : Nat → Int} {V : Nat → Prop} (h : gO st Z V) (hb : bdO Z') (h1 : ∀ i, i < 3745 → V0 i → V i ∧ Z' i = Z i) : hO st Z' := ⟨h.weak h1 (fun i hi => (h1 i (by omega) (Or.inl (by omega))).2), hb⟩
theorem b49 : (41 * 2147483648) ^ 41 < 2147483648 ^ 49 := by decide +kernel
theorem ix_ne {C i j i2 j2 : Nat} (hj : j ≤ C) (hj2 : j2 ≤ C) (h : i ≠ i2 ∨ j ≠ j2) : i * (C + 1) + j ≠ i2 * (C + 1) + j2 := by
  intro e
  rcases Nat.lt_trichotomy i i2 with q | q | q
  · have : (i + 1) * (C + 1) ≤ i2 * (C + 1) := Nat.mul_le_mul_right _ q
    rw [Nat.add_mul, Nat.one_mul] at this
    omega
  · subst q; omega
  · have : (i2 + 1) * (C + 1) ≤ i * (C + 1) := Nat.mul_le_mul_right _ q
    rw [Nat.add_mul, Nat.one_mul] at this
    omega
theorem ix_lt {C R i j : Nat} (hi : i < R) (hj : j ≤ C) (hR : R ≤ 91) (hC : C ≤ 40) : i * (C + 1) + j < 3731 := by
  have h1 : (i + 1) * (C + 1) ≤ 91 * 41 := Nat.mul_le_mul (by omega) (by omega)
  rw [Nat.add_mul, Nat.one_mul] at h1
  omega
def tabO (n R : Nat) (Z : Nat → Int) : Prop := ∃ F nm cn e, (∀ v, dt_nm (n + 1) (F v) ≤ 41 * 2147483648) ∧ sxT n F R nm cn e (fun i j => Z (i * (n + 1) + j)) (Z 3731)
theorem tab_pow {n : Nat} (hn : n ≤ 40) {x : Nat} (h : x ≤ (41 * 2147483648) ^ (n + 1)) : x < 2147483648 ^ 49 := by
  have h1 : (41 * 2147483648) ^ (n + 1) ≤ (41 * 2147483648) ^ 41 := Nat.pow_le_pow_right (by decide) (by omega)
  have := b49
  omega
theorem tab_pos {n R : Nat} {Z : Nat → Int} (h : tabO n R Z) : 0 < Z 3731 := by
  obtain ⟨F, nm, cn, e, -, h2⟩ := h
  exact h2.2.2.1
def wv (n row col : Nat) (Z : Nat → Int) (i j : Nat) : Int := (Z (row * (n + 1) + col) * Z (i * (n + 1) + j) - Z (i * (n + 1) + col) * Z (row * (n + 1) + j)) / Z 3731
theorem tab_W {n R row col : Nat} {Z : Nat → Int} (h : tabO n R Z) (hn : n ≤ 40) (hr : row < R) (hc : col < n) {i j : Nat} (hi : i < R) (hj : j ≤ n) (hne : j ≠ col) : Z (row * (n + 1) + col) * Z (i * (n + 1) + j) - Z (i * (n + 1) + col) * Z (row * (n + 1) + j) = wv n row col Z i j * Z 3731 ∧ (wv n row col Z i j).natAbs < 2147483648 ^ 49 := by
  obtain ⟨F, nm, cn, e, h1, h2⟩ := h
  have hc9 : ∀ j, j < n → (fun j => if j = col then nm row else cn j) j = if j = col then nm row else cn j := fun _ _ => rfl
  have e1 := sx_exact h2 hr hc hi (show j < n + 1 by omega) hne hc9
  have e2 := sx_div h2 hr hc hi (show j < n + 1 by omega) hne hc9
  have e2 : wv n row col Z i j = e * tT n F (fun j => if j = col then nm row else cn j) (nm i) j := e2
  refine ⟨?_, ?_⟩
  · rw [e2, Int.mul_comm _ (Z 3731)]; exact e1
  · rw [e2, sx_abs h2.1]
    exact tab_pow hn (tT_le (by decide) h1 _ _)
theorem tab_next {n R row col : Nat} {Z Z' : Nat → Int} (h : tabO n R Z) (hr : row < R) (hc : col < n) (hp : 0 < Z (row * (n + 1) + col)) (h1 : ∀ i, i < R → i ≠ row → ∀ j, j ≤ n → j ≠ col → Z' (i * (n + 1) + j) = wv n row col Z i j) (h2 : ∀ i, i < R → i ≠ row → Z' (i * (n + 1) + col) = Z (i * (n + 1) + col)) (h3 : ∀ j, j ≤ n → j ≠ col → Z' (row * (n + 1) + j) = - Z (row * (n + 1) + j)) (h4 : Z' (row * (n + 1) + col) = Z 3731) (h5 : Z' 3731 = Z (row * (n + 1) + col)) : tabO n R Z' := by
  obtain ⟨F, nm, cn, e, g1, g2⟩ := h
  have es : sxS (Z (row * (n + 1) + col)) = 1 := by unfold sxS; rw [if_pos hp]
  have key := sx_next g2 hr hc (show (fun i j => Z (i * (n + 1) + j)) row col ≠ 0 from by show Z (row * (n + 1) + col) ≠ 0; omega) (nm' := fun i => if i = row then cn col else nm i) (cn' := fun j => if j = col then nm row else cn j) (fun _ _ => rfl) (fun _ _ => rfl) (t' := fun i j => Z' (i * (n + 1) + j))
    (fun i hi hne j hj hjc => by show Z' (i * (n + 1) + j) = sxS (Z (row * (n + 1) + col)) * _; rw [h1 i hi hne j (by omega) hjc, es, Int.one_mul]; rfl)
    (fun i hi hne => by show Z' (i * (n + 1) + col) = sxS (Z (row * (n + 1) + col)) * _; rw [h2 i hi hne, es, Int.one_mul])
    (fun j hj hjc => by show Z' (row * (n + 1) + j) = - (sxS (Z (row * (n + 1) + col)) * _); rw [h3 j (by omega) hjc, es, Int.one_mul])
    (by show Z' (row * (n + 1) + col) = sxS (Z (row * (n + 1) + col)) * _; rw [h4, es, Int.one_mul])
  have e5 : (((fun i j => Z (i * (n + 1) + j)) row col).natAbs : Int) = Z' 3731 := by
    show ((Z (row * (n + 1) + col)).natAbs : Int) = Z' 3731
    rw [h5]; omega
  rw [e5] at key
  exact ⟨F, _, _, _, g1, key⟩
/-- the first table -/
theorem nm_le {f : Nat → Int} {b : Nat} : ∀ n, (∀ j, j < n → (f j).natAbs ≤ b) → dt_nm n f ≤ n * b
  | 0, _ => Nat.zero_le _
  | n + 1, h => by
    have h1 := nm_le n (fun j hj => h j (by omega))
    have h2 := h n (by omega)
    rw [dt_nm, Nat.add_mul, Nat.one_mul]
    omega
theorem tab_first {n R : Nat} {Z : Nat → Int} (hn : n ≤ 40) (h1 : Z 3731 = 1) (hb : ∀ i, i < R → ∀ j, j ≤ n → (Z (i * (n + 1) + j)).natAbs ≤ 2147483648) : tabO n R Z := by
  refine ⟨fun v c => if v < n then (if v = c then 1 else 0) else if v < n + R then Z ((v - n) * (n + 1) + c) else 0, fun i => n + i, fun j => j, 1, fun v => ?_, ?_⟩
  · refine Nat.le_trans (nm_le (b := 2147483648) (n + 1) (fun j hj => ?_)) (Nat.mul_le_mul_right _ (by omega))
    by_cases q : v < n
    · simp only [q, if_true]
      by_cases w : v = j
      · simp [w]
      · simp [w]
    · by_cases w : v < n + R
      · simp only [q, w, if_true, if_false]
        exact hb (v - n) (by omega) j (by omega)
      · simp [q, w]
  · rw [h1]
    refine sx_first (fun v hv c hc => by simp [hv]) (fun i hi j hj => ?_) (fun _ _ => rfl)
    show Z (i * (n + 1) + j) = _
    simp only [show ¬ n + i < n by omega, show n + i < n + R by omega, if_true, if_false, show n + i - n = i by omega]
/-- how far an exchange has come -/
def prO (n R row col : Nat) (Z Z8 : Nat → Int) (i9 j9 : Nat) : Prop := (∀ i, i < R → ∀ j, j ≤ n → Z8 (i * (n + 1) + j) = if (i < i9 ∨ (i = i9 ∧ j < j9)) ∧ i ≠ row ∧ j ≠ col then wv n row col Z i j else Z (i * (n + 1) + j)) ∧ Z8 3731 = Z 3731 ∧ Z8 3732 = Z (row * (n + 1) + col)
section PR
variable {n R row col : Nat} {Z Z8 : Nat → Int} {i9 j9 : Nat}
theorem pr_at (h : prO n R row col Z Z8 i9 j9) {i j : Nat} (hi : i < R) (hj : j ≤ n) (hn : ¬ ((i < i9 ∨ (i = i9 ∧ j < j9)) ∧ i ≠ row ∧ j ≠ col)) : Z8 (i * (n + 1) + j) = Z (i * (n + 1) + j) := by rw [h.1 i hi j hj, if_neg hn]
theorem pr_put2 (h : prO n R row col Z Z8 i9 j9) (hR : R ≤ 91) (hC : n ≤ 40) (hi : i9 < R) (hj : j9 ≤ n) (hr : i9 ≠ row) (hc : j9 ≠ col) : prO n R row col Z (va_up Z8 (i9 * (n + 1) + j9) (wv n row col Z i9 j9)) i9 (j9 + 1) := by
  have hlt := ix_lt hi hj hR hC
  refine ⟨fun i hi2 j hj2 => ?_, by rw [va_up_ne _ _ (by omega)]; exact h.2.1, by rw [va_up_ne _ _ (by omega)]; exact h.2.2⟩
  by_cases q : i = i9 ∧ j = j9
  · obtain ⟨rfl, rfl⟩ := q
    rw [va_up_self, if_pos ⟨Or.inr ⟨rfl, by omega⟩, hr, hc⟩]
  · rw [va_up_ne _ _ (ix_ne hj2 hj (by omega)), h.1 i hi2 j hj2]
    by_cases w : (i < i9 ∨ (i = i9 ∧ j < j9)) ∧ i ≠ row ∧ j ≠ col
    · rw [if_pos w, if_pos (by omega)]
    · rw [if_neg w, if_neg (by omega)]
theorem pr_skip (h : prO n R row col Z Z8 i9 j9) (hs : i9 < R → j9 ≤ n → i9 ≠ row → j9 ≠ col → wv n row col Z i9 j9 = Z (i9 * (n + 1) + j9)) : prO n R row col Z Z8 i9 (j9 + 1) := by
  refine ⟨fun i hi2 j hj2 => ?_, h.2.1, h.2.2⟩
  rw [h.1 i hi2 j hj2]
  by_cases q : i = i9 ∧ j = j9
  · obtain ⟨rfl, rfl⟩ := q
    rw [if_neg (by omega)]
    by_cases w : i ≠ row ∧ j ≠ col
    · rw [if_pos (by omega), hs hi2 hj2 w.1 w.2]
    · rw [if_neg (by omega)]
  · by_cases w : (i < i9 ∨ (i = i9 ∧ j < j9)) ∧ i ≠ row ∧ j ≠ col
    · rw [if_pos w, if_pos (by omega)]
    · rw [if_neg w, if_neg (by omega)]
theorem pr_row (h : prO n R row col Z Z8 i9 (n + 1)) : prO n R row col Z Z8 (i9 + 1) 0 := by
  refine ⟨fun i hi2 j hj2 => ?_, h.2.1, h.2.2⟩
  rw [h.1 i hi2 j hj2]
  by_cases w : (i < i9 ∨ (i = i9 ∧ j < n + 1)) ∧ i ≠ row ∧ j ≠ col
  · rw [if_pos w, if_pos (by omega)]
  · rw [if_neg w, if_neg (by omega)]
theorem pr_apart (h : prO n R row col Z Z8 i9 0) (hs : i9 < R → i9 ≠ row → ∀ j, j ≤ n → j ≠ col → wv n row col Z i9 j = Z (i9 * (n + 1) + j)) : prO n R row col Z Z8 (i9 + 1) 0 := by
  refine ⟨fun i hi2 j hj2 => ?_, h.2.1, h.2.2⟩
  rw [h.1 i hi2 j hj2]
  by_cases q : i = i9
  · subst q
    rw [if_neg (by omega)]
    by_cases w : i ≠ row ∧ j ≠ col
    · rw [if_pos (by omega), hs hi2 w.1 j hj2 w.2]
    · rw [if_neg (by omega)]
  · by_cases w : (i < i9 ∨ (i = i9 ∧ j < 0)) ∧ i ≠ row ∧ j ≠ col
    · rw [if_pos w, if_pos (by omega)]
    · rw [if_neg w, if_neg (by omega)]
theorem wv_same (h0 : 0 < Z 3731) (hp : Z (row * (n + 1) + col) = Z 3731) {i j : Nat} (hz : Z (i * (n + 1) + col) = 0 ∨ Z (row * (n + 1) + j) = 0) : wv n row col Z i j = Z (i * (n + 1) + j) := by
  unfold wv
  have e : Z (i * (n + 1) + col) * Z (row * (n + 1) + j) = 0 := by
    rcases hz with q | q
    · rw [q, Int.zero_mul]
    · rw [q, Int.mul_zero]
  rw [e, hp, Int.sub_zero]
  exact Int.mul_ediv_cancel_left _ (by omega)
/-- the row is turned about, up to j9 -/
def ngO (n R row col : Nat) (Z Z8 : Nat → Int) (j9 : Nat) : Prop := (∀ i, i < R → i ≠ row → ∀ j, j ≤ n → Z8 (i * (n + 1) + j) = if j ≠ col then wv n row col Z i j else Z (i * (n + 1) + j)) ∧ (∀ j, j ≤ n → Z8 (row * (n + 1) + j) = if j < j9 then - Z (row * (n + 1) + j) else Z (row * (n + 1) + j)) ∧ Z8 3731 = Z 3731 ∧ Z8 3732 = Z (row * (n + 1) + col)
theorem ng_0 (h : prO n R row col Z Z8 R 0) (hr : row < R) : ngO n R row col Z Z8 0 := by
  refine ⟨fun i hi hne j hj => ?_, fun j hj => ?_, h.2.1, h.2.2⟩
  · rw [h.1 i hi j hj]
    by_cases w : j ≠ col
    · rw [if_pos w, if_pos ⟨Or.inl hi, hne, w⟩]
    · rw [if_neg w, if_neg (fun q => w q.2.2)]
  · rw [h.1 row hr j hj, if_neg (fun q => q.2.1 rfl), if_neg (by omega)]
theorem ng_s (h : ngO n R row col Z Z8 j9) (hr : row < R) (hR : R ≤ 91) (hC : n ≤ 40) (hj : j9 ≤ n) : ngO n R row col Z (va_up Z8 (row * (n + 1) + j9) (- Z8 (row * (n + 1) + j9))) (j9 + 1) := by
  have hlt := ix_lt hr hj hR hC
  refine ⟨fun i hi hne j hj2 => ?_, fun j hj2 => ?_, by rw [va_up_ne _ _ (by omega)]; exact h.2.2.1, by rw [va_up_ne _ _ (by omega)]; exact h.2.2.2⟩
  · rw [va_up_ne _ _ (ix_ne hj2 hj (Or.inl hne)), h.1 i hi hne j hj2]
  · by_cases q : j = j9
    · subst q
      rw [va_up_self, h.2.1 j hj2, if_neg (by omega), if_pos (by omega)]
    · rw [va_up_ne _ _ (ix_ne hj2 hj (Or.inr q)), h.2.1 j hj2]
      by_cases w : j < j9
      · rw [if_pos w, if_pos (by omega)]
      · rw [if_neg w, if_neg (by omega)]
theorem ng_end (ht : tabO n R Z) (h : ngO n R row col Z Z8 (n + 1)) (hr : row < R) (hc : col < n) (hR : R ≤ 91) (hC : n ≤ 40) (hp : 0 < Z (row * (n + 1) + col)) : tabO n R (va_up (va_up Z8 (row * (n + 1) + col) (Z 3731)) 3731 (Z (row * (n + 1) + col))) := by
  have hlt := fun {i j : Nat} (hi : i < R) (hj : j ≤ n) => ix_lt hi hj hR hC
  have hl0 := hlt hr (show col ≤ n by omega)
  refine tab_next ht hr hc hp (fun i hi hne j hj hjc => ?_) (fun i hi hne => ?_) (fun j hj hjc => ?_) ?_ (va_up_self _ _ _)
  · have := hlt hi hj
    rw [va_up_ne _ _ (by omega), va_up_ne _ _ (ix_ne hj (by omega) (Or.inl hne)), h.1 i hi hne j hj, if_pos hjc]
  · have := hlt hi (show col ≤ n by omega)
    rw [va_up_ne _ _ (by omega), va_up_ne _ _ (ix_ne (by omega) (by omega) (Or.inl hne)), h.1 i hi hne col (by omega), if_neg (by omega)]
  · have := hlt hr hj
    rw [va_up_ne _ _ (by omega), va_up_ne _ _ (ix_ne hj (by omega) (Or.inr hjc)), h.2.1 j hj, if_pos (by omega)]
  · rw [va_up_ne _ _ (by omega), va_up_self]
end PR
theorem lZ_tdiv {a b : Int} (h1 : a.natAbs < 9223372036854775808) (h2 : b.natAbs < 9223372036854775808) (hb : b ≠ 0) : lZ a / lZ b = lZ (a.tdiv b) := by
  apply Int64.toInt_inj.mp
  have h3 : (a.tdiv b).natAbs ≤ a.natAbs := by rw [show (a.tdiv b).natAbs = a.natAbs / b.natAbs from Int.natAbs_tdiv a b]; exact Nat.div_le_self _ _
  rw [Int64.toInt_div, lZ_toInt (by omega) (by omega), lZ_toInt (by omega) (by omega), lZ_toInt (by omega) (by omega)]
  exact Int.bmod_eq_of_le (by omega) (by omega)
