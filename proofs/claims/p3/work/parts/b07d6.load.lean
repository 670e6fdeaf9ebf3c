/-! loading a table; rows out of two pools -/
def ldP (n R j9 : Nat) (Z : Nat → Int) : Prop := Z 3731 = 1 ∧ (∀ i, i < R → ∀ j, j ≤ n → (Z (i * (n + 1) + j)).natAbs ≤ 2147483648) ∧ ∀ j, j < j9 → (Z (R * (n + 1) + j)).natAbs ≤ 2147483648
theorem ld_up {n R j9 : Nat} {Z : Nat → Int} {v : Int} (h : ldP n R j9 Z) (hv : v.natAbs ≤ 2147483648) (hj : j9 ≤ n) (hn : n ≤ 40) (hR : R < 91) : ldP n R (j9 + 1) (va_up Z (R * (n + 1) + j9) v) := by
  have hlt := ix_lt (C := n) (R := 91) (i := R) (j := j9) hR hj (Nat.le_refl _) hn
  refine ⟨by rw [va_up_ne _ _ (by omega)]; exact h.1, fun i hi j hj2 => ?_, fun j hj2 => ?_⟩
  · rw [va_up_ne _ _ (ix_ne hj2 hj (Or.inl (by omega)))]
    exact h.2.1 i hi j hj2
  · by_cases q : j = j9
    · rw [q, va_up_self]; exact hv
    · rw [va_up_ne _ _ (ix_ne (by omega) hj (Or.inr q))]
      exact h.2.2 j (by omega)
theorem ld_row {n R : Nat} {Z : Nat → Int} (h : ldP n R (n + 1) Z) : ldP n (R + 1) 0 Z := by
  refine ⟨h.1, fun i hi j hj => ?_, fun j hj => absurd hj (Nat.not_lt_zero _)⟩
  by_cases q : i = R
  · rw [q]; exact h.2.2 j (by omega)
  · exact h.2.1 i (by omega) j hj
theorem ld_tab {n R : Nat} {Z : Nat → Int} (h : ldP n R 0 Z) (hn : n ≤ 40) : tabO n R Z := tab_first hn h.1 h.2.1
theorem i32_lZ (x : Int32) : x.toInt64 = lZ x.toInt := by
  apply Int64.toInt_inj.mp
  have h1 := x.le_toInt
  have h2 := x.toInt_lt
  rw [Int32.toInt_toInt64, lZ_toInt (by omega) (by omega)]
theorem i32_b (x : Int32) : x.toInt.natAbs ≤ 2147483648 := by
  have h1 := x.le_toInt
  have h2 := x.toInt_lt
  omega
theorem b49i {z : Int} (h : z.natAbs ≤ 2147483648) : z.natAbs < 2147483648 ^ 49 := Nat.lt_of_le_of_lt h (by decide +kernel)
section TW
variable {G : va_G} {A : Nat → Prop} {H0 H : Heap} {locs : List Loc} {k : Nat → ClassId}
theorem Sw.out2 {X T : va_W} {L : List Nat} {F : Nat → Nat → Int32} {a : Nat} (S : Sw G A H0 H locs (X ++ (T ++ va_pl L (rwp k 41 F)))) (h : a ∈ L) : Sw G A H0 H locs ((X ++ [(a, .inl (k 0, 41, .inl (F a)))]) ++ (T ++ va_pl (L.erase a) (rwp k 41 F))) := by
  refine S.perm ?_
  rw [List.append_assoc]
  refine List.Perm.append_left X ?_
  have h1 : (va_pl L (rwp k 41 F)).Perm ((a, .inl (k 0, 41, .inl (F a))) :: va_pl (L.erase a) (rwp k 41 F)) := (List.perm_cons_erase h).map (fun a => (a, rwp k 41 F a))
  refine (List.Perm.append_left T h1).trans ?_
  exact List.perm_middle
theorem Sw.into2 {X T : va_W} {L : List Nat} {F : Nat → Nat → Int32} {a : Nat} (S : Sw G A H0 H locs ((X ++ [(a, .inl (k 0, 41, .inl (F a)))]) ++ (T ++ va_pl (L.erase a) (rwp k 41 F)))) (h : a ∈ L) : Sw G A H0 H locs (X ++ (T ++ va_pl L (rwp k 41 F))) := by
  refine S.perm ?_
  rw [List.append_assoc]
  refine List.Perm.append_left X ?_
  have h1 : (va_pl L (rwp k 41 F)).Perm ((a, .inl (k 0, 41, .inl (F a))) :: va_pl (L.erase a) (rwp k 41 F)) := (List.perm_cons_erase h).map (fun a => (a, rwp k 41 F a))
  exact ((List.Perm.append_left T h1).trans List.perm_middle).symm
end TW
theorem s_64b : ∀ n, n < 64 → ((nI n).toInt64 &&& 63).toBitVec.smod 64 = BitVec.ofNat 64 n := by decide +kernel
theorem shl_1 {j : Nat} (hj : j ≤ 40) : (1 : Int64) <<< ((nI j).toInt64 &&& 63) = lZ ((2 ^ j : Nat) : Int) := by
  have h := g_shl (a := 1) (k := j) (p := 2 ^ j) (s_64b j (by omega)) (by omega) rfl (by decide)
  rw [Nat.one_mul, lN_lZ (2 ^ j)] at h
  exact h
theorem p40 {j : Nat} (hj : j ≤ 40) : (2 : Nat) ^ j ≤ 1099511627776 := Nat.pow_le_pow_right (n := 2) (by decide) hj
theorem b51 {x y : Int} (hx : x.natAbs < 2147483648 ^ 49) (hy : y.natAbs < 2147483648 ^ 3) : (x * y).natAbs < 2147483648 ^ 52 := by
  rw [Int.natAbs_mul]
  have h1 := Nat.mul_lt_mul'' hx hy
  rw [← Nat.pow_add] at h1
  exact h1
