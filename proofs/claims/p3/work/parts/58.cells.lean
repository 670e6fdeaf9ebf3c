/-! the reference's cells: 42 a row, the whole number in column 41, the common number in cell 3997; what an exchange does to them -/
abbrev isC (un j : Nat) : Prop := j ≤ un ∨ j = 41
theorem isC_lt {un j : Nat} (hu : un ≤ 40) (h : isC un j) : j < 42 := by rcases h with h | h <;> omega
def rbV (r s i : Nat) (T : Nat → Int) (j : Nat) : Int := sxS (T (42 * r + s)) * ((T (42 * r + s) * T (42 * i + j) - T (42 * i + s) * T (42 * r + j)) / T 3997)
/-- row i after the columns below k -/
def rbT (un r s i k : Nat) (T : Nat → Int) : Nat → Int := fun c => if 42 * i ≤ c ∧ c < 42 * i + k ∧ isC un (c - 42 * i) ∧ c - 42 * i ≠ s then rbV r s i T (c - 42 * i) else T c
theorem rbT_0 (un r s i : Nat) (T : Nat → Int) : rbT un r s i 0 T = T := by
  funext c; exact if_neg (by omega)
theorem rbT_no {un r s i j : Nat} {T : Nat → Int} (h : ¬ (isC un j ∧ j ≠ s)) : rbT un r s i (j + 1) T = rbT un r s i j T := by
  funext c
  unfold rbT
  by_cases q : 42 * i ≤ c ∧ c < 42 * i + j ∧ isC un (c - 42 * i) ∧ c - 42 * i ≠ s
  · rw [if_pos q, if_pos ⟨q.1, by omega, q.2.2⟩]
  · rw [if_neg q, if_neg]
    rintro ⟨a, b, c1, d⟩
    by_cases w : c - 42 * i = j
    · rw [w] at c1 d; exact h ⟨c1, d⟩
    · exact q ⟨a, by omega, c1, d⟩
theorem rbT_s {un r s i j : Nat} {T : Nat → Int} (h1 : isC un j) (h2 : j ≠ s) : rbT un r s i (j + 1) T = va_up (rbT un r s i j T) (42 * i + j) (rbV r s i T j) := by
  funext c
  by_cases w : c = 42 * i + j
  · subst w
    rw [va_up_self]
    unfold rbT
    rw [if_pos ⟨by omega, by omega, by rw [show 42 * i + j - 42 * i = j by omega]; exact ⟨h1, h2⟩⟩, show 42 * i + j - 42 * i = j by omega]
  · rw [va_up_ne _ _ w]
    unfold rbT
    by_cases q : 42 * i ≤ c ∧ c < 42 * i + j ∧ isC un (c - 42 * i) ∧ c - 42 * i ≠ s
    · rw [if_pos q, if_pos ⟨q.1, by omega, q.2.2⟩]
    · rw [if_neg q, if_neg]
      rintro ⟨a, b, c1⟩
      exact q ⟨a, by omega, c1⟩
theorem rbT_out {un r s i k c : Nat} {T : Nat → Int} (h : c < 42 * i ∨ 42 * i + k ≤ c) : rbT un r s i k T c = T c := if_neg (by omega)
theorem rbT_col {un r s i k : Nat} {T : Nat → Int} : rbT un r s i k T (42 * i + s) = T (42 * i + s) := if_neg (by
  rintro ⟨-, -, -, q⟩
  exact q (by omega))
theorem rbT_in {un r s i k j : Nat} {T : Nat → Int} (hj : j < k) (h1 : isC un j) (h2 : j ≠ s) : rbT un r s i k T (42 * i + j) = rbV r s i T j := by
  unfold rbT
  rw [if_pos ⟨by omega, by omega, by rw [show 42 * i + j - 42 * i = j by omega]; exact ⟨h1, h2⟩⟩, show 42 * i + j - 42 * i = j by omega]
/-- row i, done -/
def rbF (un r s i : Nat) (T : Nat → Int) : Nat → Int := va_up (rbT un r s i 42 T) (42 * i + s) (sxS (T (42 * r + s)) * T (42 * i + s))
theorem rbF_out {un r s i c : Nat} {T : Nat → Int} (hs : s < 42) (h : c < 42 * i ∨ 42 * i + 42 ≤ c) : rbF un r s i T c = T c := by
  unfold rbF
  rw [va_up_ne _ _ (by omega), rbT_out h]
theorem rbF_col {un r s i : Nat} {T : Nat → Int} : rbF un r s i T (42 * i + s) = sxS (T (42 * r + s)) * T (42 * i + s) := va_up_self _ _ _
theorem rbF_in {un r s i j : Nat} {T : Nat → Int} (hj : j < 42) (h1 : isC un j) (h2 : j ≠ s) : rbF un r s i T (42 * i + j) = rbV r s i T j := by
  unfold rbF
  rw [va_up_ne _ _ (by omega), rbT_in hj h1 h2]
/-- the rows below k but r are done -/
def exK (un r s k : Nat) (T U : Nat → Int) : Prop := (∀ i, i < k → i ≠ r → U (42 * i + s) = sxS (T (42 * r + s)) * T (42 * i + s) ∧ ∀ j, isC un j → j ≠ s → U (42 * i + j) = rbV r s i T j) ∧ (∀ c, 42 * k ≤ c → U c = T c) ∧ ∀ c, 42 * r ≤ c → c < 42 * r + 42 → U c = T c
theorem exK_0 (un r s : Nat) (T : Nat → Int) : exK un r s 0 T T := ⟨fun i hi => absurd hi (Nat.not_lt_zero _), fun _ _ => rfl, fun _ _ _ => rfl⟩
theorem exK_r {un r s : Nat} {T U : Nat → Int} (h : exK un r s r T U) : exK un r s (r + 1) T U :=
  ⟨fun i hi hr => h.1 i (by omega) hr, fun c hc => h.2.1 c (by omega), h.2.2⟩
theorem exK_s {un r s k : Nat} {T U : Nat → Int} (hu : un ≤ 40) (hs : s < 42) (hk : k ≠ r) (hk2 : 42 * k + 42 ≤ 3990) (h : exK un r s k T U) : exK un r s (k + 1) T (rbF un r s k U) := by
  obtain ⟨h1, h2, h3⟩ := h
  have g1 : U (42 * r + s) = T (42 * r + s) := h3 _ (by omega) (by omega)
  have g2 : U (42 * k + s) = T (42 * k + s) := h2 _ (by omega)
  have g3 : U 3997 = T 3997 := h2 _ (by omega)
  refine ⟨fun i hi hr => ?_, fun c hc => ?_, fun c hc1 hc2 => ?_⟩
  · by_cases q : i = k
    · subst q
      refine ⟨by rw [rbF_col, g1, g2], fun j hj hjs => ?_⟩
      have hj2 := isC_lt hu hj
      rw [rbF_in hj2 hj hjs]
      unfold rbV
      rw [g1, g2, g3, h2 (42 * i + j) (by omega), h3 (42 * r + j) (by omega) (by omega)]
    · have h4 := h1 i (by omega) hr
      refine ⟨by rw [rbF_out hs (by omega)]; exact h4.1, fun j hj hjs => ?_⟩
      have hj2 := isC_lt hu hj
      rw [rbF_out hs (by omega)]
      exact h4.2 j hj hjs
  · rw [rbF_out hs (by omega)]
    exact h2 c (by omega)
  · rw [rbF_out hs (by omega)]
    exact h3 c hc1 hc2
/-- row r is turned about up to column k -/
def exQ (un r s k : Nat) (U W : Nat → Int) : Prop := (∀ j, j < k → isC un j → j ≠ s → W (42 * r + j) = - U (42 * r + j)) ∧ (∀ j, k ≤ j → j < 42 → W (42 * r + j) = U (42 * r + j)) ∧ W (42 * r + s) = U (42 * r + s) ∧ ∀ c, c < 42 * r ∨ 42 * r + 42 ≤ c → W c = U c
theorem exQ_0 (un r s : Nat) (U : Nat → Int) : exQ un r s 0 U U := ⟨fun j hj => absurd hj (Nat.not_lt_zero _), fun _ _ _ => rfl, rfl, fun _ _ => rfl⟩
theorem exQ_no {un r s k : Nat} {U W : Nat → Int} (h : exQ un r s k U W) (hk : ¬ (isC un k ∧ k ≠ s)) : exQ un r s (k + 1) U W :=
  ⟨fun j hj h1 h2 => by
    by_cases q : j = k
    · subst q; exact absurd ⟨h1, h2⟩ hk
    · exact h.1 j (by omega) h1 h2, fun j hj => h.2.1 j (by omega), h.2.2.1, h.2.2.2⟩
theorem exQ_s {un r s k : Nat} {U W : Nat → Int} (h : exQ un r s k U W) (h2 : k ≠ s) (hk : k < 42) : exQ un r s (k + 1) U (va_up W (42 * r + k) (- W (42 * r + k))) := by
  refine ⟨fun j hj h1 h3 => ?_, fun j hj hj2 => ?_, ?_, fun c hc => ?_⟩
  · by_cases q : j = k
    · subst q
      rw [va_up_self, h.2.1 j (Nat.le_refl _) hk]
    · rw [va_up_ne _ _ (by omega)]
      exact h.1 j (by omega) h1 h3
  · rw [va_up_ne _ _ (by omega)]
    exact h.2.1 j (by omega) hj2
  · rw [va_up_ne _ _ (by omega)]
    exact h.2.2.1
  · rw [va_up_ne _ _ (by omega)]
    exact h.2.2.2 c hc
/-- what an exchange does -/
def exOK (un M r s : Nat) (T W : Nat → Int) : Prop :=
  (∀ i, i < M → i ≠ r → ∀ j, isC un j → j ≠ s → W (42 * i + j) = sxS (T (42 * r + s)) * ((T (42 * r + s) * T (42 * i + j) - T (42 * i + s) * T (42 * r + j)) / T 3997)) ∧ (∀ i, i < M → i ≠ r → W (42 * i + s) = sxS (T (42 * r + s)) * T (42 * i + s)) ∧ (∀ j, isC un j → j ≠ s → W (42 * r + j) = - (sxS (T (42 * r + s)) * T (42 * r + j))) ∧ W (42 * r + s) = sxS (T (42 * r + s)) * T 3997 ∧ W 3997 = (T (42 * r + s)).natAbs ∧ ∀ c, 3990 ≤ c → c < 3997 → W c = T c
theorem exOK_of {un M r s : Nat} {T U W : Nat → Int} {x y : Int} (hu : un ≤ 40) (hs : s ≤ un) (hM : M ≤ 95) (hr : r < M) (h : exK un r s M T U) (h2 : (0 < T (42 * r + s) ∧ exQ un r s 42 U W) ∨ (¬ 0 < T (42 * r + s) ∧ W = U)) (hx : x = sxS (T (42 * r + s)) * T 3997) (hy : y = (T (42 * r + s)).natAbs) : exOK un M r s T (va_up (va_up W (42 * r + s) x) 3997 y) := by
  obtain ⟨g1, g2, g3⟩ := h
  have hW : ∀ c, c < 42 * r ∨ 42 * r + 42 ≤ c → W c = U c := by
    intro c hc
    rcases h2 with ⟨-, h2⟩ | ⟨-, h2⟩
    · exact h2.2.2.2 c hc
    · rw [h2]
  refine ⟨fun i hi hir j hj hjs => ?_, fun i hi hir => ?_, fun j hj hjs => ?_, ?_, ?_, fun c h1 h3 => ?_⟩
  · have hj2 := isC_lt hu hj
    rw [va_up_ne _ _ (by omega), va_up_ne _ _ (by omega), hW _ (by omega), (g1 i hi hir).2 j hj hjs]
    rfl
  · rw [va_up_ne _ _ (by omega), va_up_ne _ _ (by omega), hW _ (by omega), (g1 i hi hir).1]
  · have hj2 := isC_lt hu hj
    rw [va_up_ne _ _ (by omega), va_up_ne _ _ (by omega)]
    rcases h2 with ⟨hp, h2⟩ | ⟨hp, h2⟩
    · rw [h2.1 j hj2 hj hjs, g3 _ (by omega) (by omega)]
      unfold sxS
      rw [if_pos hp]
      omega
    · rw [h2, g3 _ (by omega) (by omega)]
      unfold sxS
      rw [if_neg hp]
      omega
  · rw [va_up_ne _ _ (by omega), va_up_self, hx]
  · rw [va_up_self, hy]
  · rw [va_up_ne _ _ (by omega), va_up_ne _ _ (by omega), hW _ (by omega), g2 _ (by omega)]
/-- the table in columns 0 .. un + 1 -/
def cj (un j : Nat) : Nat := if j ≤ un then j else 41
theorem cj_is (un j : Nat) : isC un (cj un j) := by
  unfold cj isC; split
  · exact Or.inl ‹_›
  · exact Or.inr rfl
theorem cj_ne {un j s : Nat} (hu : un ≤ 40) (hs : s ≤ un) (h : j ≠ s) : cj un j ≠ s := by
  unfold cj; split <;> omega
theorem cj_s {un s : Nat} (hs : s ≤ un) : cj un s = s := if_pos hs
theorem cj_n (un : Nat) : cj un (un + 1) = 41 := if_neg (by omega)
def tC (un : Nat) (T : Nat → Int) : Nat → Nat → Int := fun i j => T (42 * i + cj un j)
theorem tC_next {un M r s : Nat} {F : Nat → Nat → Int} {nm cn nm' cn' : Nat → Nat} {e : Int} {T W : Nat → Int} (hu : un ≤ 40) (hs : s ≤ un) (hr : r < M) (h : sxT (un + 1) F M nm cn e (tC un T) (T 3997)) (hp : T (42 * r + s) ≠ 0) (hW : exOK un M r s T W) (hn : ∀ i, i < M → nm' i = if i = r then cn s else nm i) (hc : ∀ j, j < un + 1 → cn' j = if j = s then nm r else cn j) :
    sxT (un + 1) F M nm' cn' (sxS (T (42 * r + s)) * e) (tC un W) (W 3997) := by
  obtain ⟨g1, g2, g3, g4, g5, -⟩ := hW
  have e0 : tC un T r s = T (42 * r + s) := by unfold tC; rw [cj_s hs]
  have := sx_next h (r := r) (s := s) hr (by omega) (by rw [e0]; exact hp) hn hc (t' := tC un W)
    (fun i hi hir j hj hjs => by
      rw [e0]
      unfold tC
      rw [cj_s hs]
      exact g1 i hi hir _ (cj_is un j) (cj_ne hu hs hjs))
    (fun i hi hir => by
      rw [e0]
      unfold tC
      rw [cj_s hs]
      exact g2 i hi hir)
    (fun j hj hjs => by
      rw [e0]
      unfold tC
      exact g3 _ (cj_is un j) (cj_ne hu hs hjs))
    (by
      rw [e0]
      unfold tC
      rw [cj_s hs]
      exact g4)
  rw [e0] at this
  rw [g5]
  exact this
/-- what is divided leaves no rest, and is small -/
def exF (un M r s : Nat) (T : Nat → Int) : Prop := ∀ i, i < M → i ≠ r → ∀ j, isC un j → j ≠ s → ∃ z : Int, T (42 * r + s) * T (42 * i + j) - T (42 * i + s) * T (42 * r + j) = T 3997 * z ∧ z.natAbs < 65536 ^ 80
theorem isC_cj {un j : Nat} (h : isC un j) : ∃ j', j' < un + 2 ∧ cj un j' = j := by
  rcases h with h | h
  · exact ⟨j, by omega, if_pos h⟩
  · exact ⟨un + 1, by omega, by rw [h]; exact cj_n un⟩
theorem exF_of {un M r s : Nat} {F : Nat → Nat → Int} {nm cn : Nat → Nat} {e : Int} {T : Nat → Int} (hu : un ≤ 40) (hs : s ≤ un) (hr : r < M) (h : sxT (un + 1) F M nm cn e (tC un T) (T 3997)) (hF : ∀ v, dt_nm (un + 2) (F v) ≤ 65535) : exF un M r s T := by
  intro i hi hir j hj hjs
  obtain ⟨j', hj', rfl⟩ := isC_cj hj
  have hne : j' ≠ s := by
    intro q
    subst q
    exact hjs (cj_s hs)
  have h1 := sx_exact h (r := r) (s := s) (i := i) (j := j') hr (by omega) hi (by omega) hne (cn' := fun j => if j = s then nm r else cn j) (fun _ _ => rfl)
  unfold tC at h1
  rw [cj_s hs] at h1
  refine ⟨_, h1, ?_⟩
  rw [sx_abs h.1]
  have h2 := tT_le (n := un + 1) (F := F) (cn := fun j => if j = s then nm r else cn j) (B := 65535) (by decide) hF (nm i) j'
  have h3 : 65535 ^ (un + 1 + 1) ≤ 65535 ^ 80 := Nat.pow_le_pow_right (by decide) (by omega)
  have h4 : 65535 ^ 80 < 65536 ^ 80 := Nat.pow_lt_pow_left (by decide) (by decide)
  omega
