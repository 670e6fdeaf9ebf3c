/-! a table of determinants: names have forms (coordinates 0 .. n - 1, and n for the whole number); the columns are names; what the table says, and what an exchange does -/
def tb (n : Nat) (F : Nat → Nat → Int) (cn : Nat → Nat) : Nat → Nat → Int := fun j c => if j < n then F (cn j) c else if c = n then 1 else 0
def tD (n : Nat) (F : Nat → Nat → Int) (cn : Nat → Nat) : Int := dt (n + 1) (tb n F cn)
def tT (n : Nat) (F : Nat → Nat → Int) (cn : Nat → Nat) (v j : Nat) : Int := dt (n + 1) (dt_put (tb n F cn) j (F v))
section TB
variable {n : Nat} {F : Nat → Nat → Int} {cn cn' : Nat → Nat} {s w : Nat}
theorem tb_next (hs : s < n) (h : ∀ j, j < n → cn' j = if j = s then w else cn j) (a c : Nat) : tb n F cn' a c = dt_put (tb n F cn) s (F w) a c := by
  by_cases q : a = s
  · subst q
    rw [dt_put_s _ _ rfl, tb, if_pos hs, h a hs, if_pos rfl]
  · rw [dt_put_n _ _ q]
    show (if a < n then F (cn' a) c else if c = n then 1 else 0) = (if a < n then F (cn a) c else if c = n then 1 else 0)
    by_cases q2 : a < n
    · rw [if_pos q2, if_pos q2, h a q2, if_neg q]
    · rw [if_neg q2, if_neg q2]
theorem tD_next (hs : s < n) (h : ∀ j, j < n → cn' j = if j = s then w else cn j) : tD n F cn' = tT n F cn w s := dt_congr (fun a _ c _ => tb_next hs h a c)
theorem tT_next_s (hs : s < n) (h : ∀ j, j < n → cn' j = if j = s then w else cn j) (v : Nat) : tT n F cn' v s = tT n F cn v s := dt_congr (fun a _ c _ => by
  by_cases q : a = s
  · rw [dt_put_s _ _ q, dt_put_s _ _ q]
  · rw [dt_put_n _ _ q, dt_put_n _ _ q, tb_next hs h, dt_put_n _ _ q])
theorem tT_next (hs : s < n) (h : ∀ j, j < n → cn' j = if j = s then w else cn j) (v : Nat) {j : Nat} (hj : j < n + 1) (hne : j ≠ s) : tD n F cn * tT n F cn' v j = tT n F cn w s * tT n F cn v j - tT n F cn v s * tT n F cn w j := by
  have e : tT n F cn' v j = dt (n + 1) (dt_put (dt_put (tb n F cn) s (F w)) j (F v)) := dt_congr (fun a _ c _ => by
    by_cases q : a = j
    · rw [dt_put_s _ _ q, dt_put_s _ _ q]
    · rw [dt_put_n _ _ q, dt_put_n _ _ q, tb_next hs h])
  rw [e]
  exact dt_pivot (tb n F cn) (F w) (F v) (by omega) hj hne
/-- a column's own name -/
theorem tT_col_s {i : Nat} (hi : i < n) : tT n F cn (cn i) i = tD n F cn := dt_congr (fun a _ c _ => by
  by_cases q : a = i
  · rw [dt_put_s _ _ q, q, tb, if_pos hi]
  · rw [dt_put_n _ _ q])
theorem tT_col {i j : Nat} (hi : i < n) (hj : j < n + 1) (hne : j ≠ i) : tT n F cn (cn i) j = 0 := dt_eqr' hj (show i < n + 1 by omega) hne (fun c _ => by
  rw [dt_put_s _ _ rfl, dt_put_n _ _ (fun e => hne e.symm), tb, if_pos hi])
/-- the name that leaves the columns -/
theorem tT_old_s (hs : s < n) (h : ∀ j, j < n → cn' j = if j = s then w else cn j) : tT n F cn' (cn s) s = tD n F cn := (tT_next_s hs h (cn s)).trans (tT_col_s hs)
theorem tT_old (hD : tD n F cn ≠ 0) (hs : s < n) (h : ∀ j, j < n → cn' j = if j = s then w else cn j) {j : Nat} (hj : j < n + 1) (hne : j ≠ s) : tT n F cn' (cn s) j = - tT n F cn w j := by
  have e := tT_next (F := F) hs h (cn s) hj hne
  rw [tT_col hs hj hne, tT_col_s hs, Int.mul_zero, Int.zero_sub, ← Int.mul_neg] at e
  exact Int.eq_of_mul_eq_mul_left hD e
/-- the numberings of names by a point -/
def tX (n : Nat) (F : Nat → Nat → Int) (x : Nat → Rat) : Prop := ∃ y : Nat → Rat, y n = 1 ∧ ∀ v, x v = bl_sum (n + 1) (fun c => (F v c : Rat) * y c)
theorem bl_cast : ∀ (m : Nat) (f : Nat → Int), ((dt_sum m f : Int) : Rat) = bl_sum m (fun i => (f i : Rat))
  | 0, _ => rfl
  | m + 1, f => by rw [dt_sum_s, bl_sum_s, Rat.intCast_add, bl_cast m f]
theorem bl_sum_add (m : Nat) (f g : Nat → Rat) : bl_sum m (fun i => f i + g i) = bl_sum m f + bl_sum m g := by
  induction m with
  | zero => simp only [bl_sum]; grind
  | succ m ih => rw [bl_sum_s, bl_sum_s, bl_sum_s, ih]; grind
theorem bl_sum_mul (m : Nat) (x : Rat) (f : Nat → Rat) : bl_sum m (fun i => x * f i) = x * bl_sum m f := by
  induction m with
  | zero => simp only [bl_sum]; grind
  | succ m ih => rw [bl_sum_s, bl_sum_s, ih]; grind
theorem bl_sum_comm (m k : Nat) (f : Nat → Nat → Rat) : bl_sum m (fun i => bl_sum k (fun j => f i j)) = bl_sum k (fun j => bl_sum m (fun i => f i j)) := by
  induction m with
  | zero => simp only [bl_sum]; exact (bl_sum_0 (fun _ _ => rfl)).symm
  | succ m ih => simp only [bl_sum]; rw [ih, bl_sum_add]
/-- what a row of the table says -/
theorem tb_row {x : Nat → Rat} (hx : tX n F x) (v : Nat) : (tD n F cn : Rat) * x v = bl_sum n (fun j => (tT n F cn v j : Rat) * x (cn j)) + (tT n F cn v n : Rat) := by
  obtain ⟨y, hy, hv⟩ := hx
  have e1 : (tD n F cn : Rat) * x v = bl_sum (n + 1) (fun c => bl_sum (n + 1) (fun i => (tT n F cn v i : Rat) * ((tb n F cn i c : Rat) * y c))) := by
    rw [hv v, ← bl_sum_mul]
    refine bl_sum_congr (fun c hc => ?_)
    have h := dt_cramer (n + 1) (tb n F cn) (F v) c hc
    have h2 : ((F v c : Int) : Rat) * (tD n F cn : Rat) = bl_sum (n + 1) (fun i => (tb n F cn i c : Rat) * (tT n F cn v i : Rat)) := by
      rw [← Rat.intCast_mul]
      show ((F v c * dt (n + 1) (tb n F cn) : Int) : Rat) = _
      rw [h, bl_cast]
      exact bl_sum_congr (fun i _ => Rat.intCast_mul _ _)
    have h3 : bl_sum (n + 1) (fun i => (tT n F cn v i : Rat) * ((tb n F cn i c : Rat) * y c)) = y c * bl_sum (n + 1) (fun i => (tb n F cn i c : Rat) * (tT n F cn v i : Rat)) := by
      rw [← bl_sum_mul]
      exact bl_sum_congr (fun i _ => by grind)
    rw [h3, ← h2]
    grind
  rw [e1, bl_sum_comm, bl_sum_s]
  have e2 : bl_sum (n + 1) (fun c => (tT n F cn v n : Rat) * ((tb n F cn n c : Rat) * y c)) = (tT n F cn v n : Rat) := by
    rw [bl_sum_one (s := n) (by omega) (fun c _ q => by rw [tb, if_neg (by omega), if_neg q, Rat.intCast_zero]; grind), hy, tb, if_neg (by omega), if_pos rfl, Rat.intCast_one]
    grind
  rw [e2]
  have e3 : bl_sum n (fun j => bl_sum (n + 1) (fun c => (tT n F cn v j : Rat) * ((tb n F cn j c : Rat) * y c))) = bl_sum n (fun j => (tT n F cn v j : Rat) * x (cn j)) := bl_sum_congr (fun j hj => by
    rw [bl_sum_mul, hv (cn j)]
    congr 1
    exact bl_sum_congr (fun c _ => by rw [tb, if_pos hj]))
  rw [e3]
/-- every choice of the columns' numbers is some point's -/
theorem tb_any (hD : tD n F cn ≠ 0) (t : Nat → Rat) : ∃ x, tX n F x ∧ ∀ j, j < n → x (cn j) = t j := by
  -- the unit forms over the table: U c i = det with the unit of c in row i's place
  have hDr : (tD n F cn : Rat) ≠ 0 := fun e => hD (Rat.intCast_eq_zero_iff.mp e)
  have key : ∀ i j, i < n + 1 → j < n + 1 → dt_sum (n + 1) (fun c => tb n F cn j c * dt (n + 1) (dt_put (tb n F cn) i (fun d => if d = c then 1 else 0))) = if i = j then tD n F cn else 0 := by
    intro i j hi hj
    rw [← dt_linsum (tb n F cn) hi (fun c d => if d = c then 1 else 0) (fun c => tb n F cn j c) (n + 1)]
    have e : dt (n + 1) (dt_put (tb n F cn) i (fun d => dt_sum (n + 1) (fun c => tb n F cn j c * (if d = c then 1 else 0)))) = dt (n + 1) (dt_put (tb n F cn) i (tb n F cn j)) := dt_congr (fun a _ d hd => by
      by_cases q : a = i
      · rw [dt_put_s _ _ q, dt_put_s _ _ q]
        show dt_sum (n + 1) (fun c => tb n F cn j c * (if d = c then 1 else 0)) = _
        rw [dt_sum_one hd (fun c _ w => by rw [if_neg (fun e => w e.symm), Int.mul_zero]), if_pos rfl, Int.mul_one]
      · rw [dt_put_n _ _ q, dt_put_n _ _ q])
    rw [e]
    by_cases q : i = j
    · subst q
      rw [if_pos rfl]
      exact dt_congr (fun a _ d _ => by
        by_cases w : a = i
        · rw [dt_put_s _ _ w, w]
        · rw [dt_put_n _ _ w])
    · rw [if_neg q]
      exact dt_eqr' hi hj q (fun d _ => by rw [dt_put_s _ _ rfl, dt_put_n _ _ (fun e => q e.symm)])
  let U : Nat → Nat → Rat := fun c i => ((dt (n + 1) (dt_put (tb n F cn) i (fun d => if d = c then 1 else 0)) : Int) : Rat)
  let t1 : Nat → Rat := fun i => if i < n then t i else 1
  let y : Nat → Rat := fun c => bl_sum (n + 1) (fun i => U c i * t1 i) * (tD n F cn : Rat)⁻¹
  have hy : ∀ j, j < n + 1 → bl_sum (n + 1) (fun c => (tb n F cn j c : Rat) * y c) = t1 j := by
    intro j hj
    have e1 : bl_sum (n + 1) (fun c => (tb n F cn j c : Rat) * y c) = (tD n F cn : Rat)⁻¹ * bl_sum (n + 1) (fun c => bl_sum (n + 1) (fun i => t1 i * ((tb n F cn j c : Rat) * U c i))) := by
      rw [← bl_sum_mul]
      refine bl_sum_congr (fun c _ => ?_)
      have e2 : bl_sum (n + 1) (fun i => t1 i * ((tb n F cn j c : Rat) * U c i)) = (tb n F cn j c : Rat) * bl_sum (n + 1) (fun i => U c i * t1 i) := by
        rw [← bl_sum_mul]
        exact bl_sum_congr (fun i _ => by grind)
      rw [e2]
      show (tb n F cn j c : Rat) * (bl_sum (n + 1) (fun i => U c i * t1 i) * (tD n F cn : Rat)⁻¹) = _
      grind
    have e3 : bl_sum (n + 1) (fun i => bl_sum (n + 1) (fun c => t1 i * ((tb n F cn j c : Rat) * U c i))) = t1 j * (tD n F cn : Rat) := by
      rw [bl_sum_one hj (fun i hi q => ?_)]
      · rw [bl_sum_mul]
        congr 1
        have k := key j j hj hj
        rw [if_pos rfl] at k
        rw [← k, bl_cast]
        exact bl_sum_congr (fun c _ => (Rat.intCast_mul _ _).symm)
      · rw [bl_sum_mul]
        have k := key i j hi hj
        rw [if_neg q] at k
        have k2 : bl_sum (n + 1) (fun c => (tb n F cn j c : Rat) * U c i) = 0 := by
          rw [← Rat.intCast_zero, ← k, bl_cast]
          exact bl_sum_congr (fun c _ => (Rat.intCast_mul _ _).symm)
        rw [k2]
        grind
    rw [e1, bl_sum_comm, e3]
    have := Rat.mul_inv_cancel _ hDr
    grind
  refine ⟨fun v => bl_sum (n + 1) (fun c => (F v c : Rat) * y c), ⟨y, ?_, fun v => rfl⟩, fun j hj => ?_⟩
  · have h := hy n (by omega)
    rw [bl_sum_one (s := n) (by omega) (fun c _ q => by rw [tb, if_neg (by omega), if_neg q, Rat.intCast_zero]; grind), tb, if_neg (by omega), if_pos rfl, Rat.intCast_one] at h
    have h2 : t1 n = 1 := if_neg (by omega)
    rw [h2] at h
    grind
  · have h := hy j (by omega)
    have h2 : t1 j = t j := if_pos hj
    rw [h2] at h
    rw [← h]
    exact bl_sum_congr (fun c _ => by rw [tb, if_pos hj])
/-- the table over its common number says what Bland's rule asks for; the aims are names from V on -/
theorem tb_says (hD : tD n F cn ≠ 0) (R K V : Nat) (rn : Nat → Nat) : bl_says (tX n F) (fun q x => x (V + q)) n R K cn rn (fun i j => (tT n F cn (rn i) j : Rat) / (tD n F cn : Rat)) (fun i => (tT n F cn (rn i) n : Rat) / (tD n F cn : Rat)) (fun q j => (tT n F cn (V + q) j : Rat) / (tD n F cn : Rat)) (fun q => (tT n F cn (V + q) n : Rat) / (tD n F cn : Rat)) := by
  have hDr : (tD n F cn : Rat) ≠ 0 := fun e => hD (Rat.intCast_eq_zero_iff.mp e)
  have row : ∀ x, tX n F x → ∀ v, x v = (tT n F cn v n : Rat) / (tD n F cn : Rat) + bl_sum n (fun j => (tT n F cn v j : Rat) / (tD n F cn : Rat) * x (cn j)) := by
    intro x hx v
    have h := tb_row (cn := cn) hx v
    have e : bl_sum n (fun j => (tT n F cn v j : Rat) / (tD n F cn : Rat) * x (cn j)) = (tD n F cn : Rat)⁻¹ * bl_sum n (fun j => (tT n F cn v j : Rat) * x (cn j)) := by
      rw [← bl_sum_mul]
      exact bl_sum_congr (fun j _ => by rw [Rat.div_def]; grind)
    rw [e, Rat.div_def]
    have := Rat.mul_inv_cancel _ hDr
    grind
  exact ⟨fun x hx => ⟨fun i _ => row x hx (rn i), fun q _ => row x hx (V + q)⟩, fun t => tb_any hD t⟩
end TB
