/-! whole numbers: a sign, digits of 31 bits -/
def sgI (z : Int) : Int32 := if z < 0 then -1 else if z = 0 then 0 else 1
def raO (L : Nat) (g : Nat → Nat) : Prop := 3 ≤ L ∧ L ≤ 400 ∧ ∀ i, g i < 2147483648
def whO (L n : Nat) (g : Nat → Nat) (z : Int) : Prop := n ≤ L ∧ 3 ≤ L ∧ L ≤ 400 ∧ (∀ i, g i < 2147483648) ∧ (n = 0 ∨ g (n - 1) ≠ 0) ∧ vl 2147483648 g n = z.natAbs
theorem wh_ra {L n : Nat} {g : Nat → Nat} {z : Int} (h : whO L n g z) : raO L g := ⟨h.2.1, h.2.2.1, h.2.2.2.1⟩
theorem whn_0 {L n : Nat} {g : Nat → Nat} {z : Int} (h : whO L n g z) : n = 0 ↔ z = 0 := by
  obtain ⟨-, -, -, -, h5, h6⟩ := h
  constructor
  · intro q; subst q
    have : (0 : Nat) = z.natAbs := h6
    omega
  · intro q; subst q
    apply Classical.byContradiction
    intro hn
    have h7 := vl_ge (B := 2147483648) (g := g) (n := n) (by omega) (by omega)
    have h8 : 0 < 2147483648 ^ (n - 1) := Nat.pow_pos (by decide)
    rw [h6] at h7
    have : (0 : Int).natAbs = 0 := rfl
    omega
theorem wh_size {L n m : Nat} {g : Nat → Nat} {z : Int} (h : whO L n g z) (hz : z.natAbs < 2147483648 ^ m) : n ≤ m := by
  obtain ⟨-, -, -, -, h5, h6⟩ := h
  apply Classical.byContradiction
  intro hn
  have h7 := vl_ge (B := 2147483648) (g := g) (n := n) (by omega) (by omega)
  have h8 : 2147483648 ^ m ≤ 2147483648 ^ (n - 1) := Nat.pow_le_pow_right (by decide) (by omega)
  rw [h6] at h7
  omega
theorem wh_lt {L n : Nat} {g : Nat → Nat} {z : Int} (h : whO L n g z) : z.natAbs < 2147483648 ^ n := by
  rw [← h.2.2.2.2.2]
  exact vl_lt n (fun i _ => h.2.2.2.1 i)
theorem sg_neg (z : Int) : - sgI z = sgI (- z) := by
  unfold sgI
  by_cases h1 : z < 0
  · rw [if_pos h1, if_neg (by omega), if_neg (by omega)]; decide
  · by_cases h2 : z = 0
    · subst h2; decide
    · rw [if_neg h1, if_neg h2, if_pos (by omega)]
theorem sg_mul (a b : Int) : sgI a * sgI b = sgI (a * b) := by
  unfold sgI
  rcases Int.lt_trichotomy a 0 with h | h | h <;> rcases Int.lt_trichotomy b 0 with q | q | q
  · rw [if_pos h, if_pos q, if_neg (by have := Int.mul_pos_of_neg_of_neg h q; omega), if_neg (by have := Int.mul_pos_of_neg_of_neg h q; omega)]; decide
  · subst q; rw [Int.mul_zero, if_pos h]; decide
  · rw [if_pos h, if_neg (by omega), if_neg (by omega), if_pos (Int.mul_neg_of_neg_of_pos h q)]; decide
  · subst h; rw [Int.zero_mul]; simp
  · subst h; subst q; decide
  · subst h; rw [Int.zero_mul]; simp
  · rw [if_neg (by omega), if_neg (by omega), if_pos q, if_pos (Int.mul_neg_of_pos_of_neg h q)]; decide
  · subst q; rw [Int.mul_zero, if_neg (by omega), if_neg (by omega)]; decide
  · rw [if_neg (by omega), if_neg (by omega), if_neg (by omega), if_neg (by omega), if_neg (by have := Int.mul_pos h q; omega), if_neg (by have := Int.mul_pos h q; omega)]; decide
theorem sgn_0 {z : Int} : sgI z = 0 ↔ z = 0 := by
  unfold sgI
  by_cases h1 : z < 0
  · rw [if_pos h1]; exact ⟨fun q => absurd q (by decide), fun q => by omega⟩
  · by_cases h2 : z = 0
    · rw [if_neg h1, if_pos h2]; exact ⟨fun _ => h2, fun _ => rfl⟩
    · rw [if_neg h1, if_neg h2]; exact ⟨fun q => absurd q (by decide), fun q => absurd q h2⟩
theorem sgn_lt {z : Int} : sgI z < 0 ↔ z < 0 := by
  unfold sgI
  by_cases h1 : z < 0
  · rw [if_pos h1]; exact ⟨fun _ => h1, fun _ => by decide⟩
  · by_cases h2 : z = 0
    · rw [if_neg h1, if_pos h2]; exact ⟨fun q => absurd q (by decide), fun q => by omega⟩
    · rw [if_neg h1, if_neg h2]; exact ⟨fun q => absurd q (by decide), fun q => by omega⟩
theorem sgn_gt {z : Int} : (0 : Int32) < sgI z ↔ 0 < z := by
  unfold sgI
  by_cases h1 : z < 0
  · rw [if_pos h1]; exact ⟨fun q => absurd q (by decide), fun q => by omega⟩
  · by_cases h2 : z = 0
    · rw [if_neg h1, if_pos h2]; exact ⟨fun q => absurd q (by decide), fun q => by omega⟩
    · rw [if_neg h1, if_neg h2]; exact ⟨fun _ => by omega, fun _ => by decide⟩
theorem sg_cut {n : Nat} {z : Int} (h : n = 0 → z = 0) : (if n = 0 then 0 else sgI z) = sgI z := by
  by_cases q : n = 0
  · rw [if_pos q, h q]; rfl
  · rw [if_neg q]
def icI (x y : Int32) : Int32 := if x < y then -1 else if x = y then 0 else 1
theorem ic_lt {x y : Int32} (h : ¬ y ≤ x) : icI x y = -1 := by unfold icI; rw [if_pos (Int32.not_le.mp h)]
theorem ic_eq {x y : Int32} (h : x = y) : icI x y = 0 := by unfold icI; subst h; rw [if_neg (by rw [Int32.lt_iff_toInt_lt]; omega), if_pos rfl]
theorem ic_gt {x y : Int32} (h : y ≤ x) (h2 : ¬ x = y) : icI x y = 1 := by unfold icI; rw [if_neg (fun q => Int32.not_le.mpr q h), if_neg h2]
def lcI (x y : Int64) : Int32 := if x < y then -1 else if x = y then 0 else 1
theorem lc_lt {x y : Int64} (h : ¬ 0 ≤ lg_cmp x y) : lcI x y = -1 := by
  unfold lcI; rw [if_pos (Int64.not_le.mp (fun q => h ((lg_cmp_ge x y).mpr q)))]
theorem lc_eq {x y : Int64} (h : lg_cmp x y = 0) : lcI x y = 0 := by
  obtain rfl := (lg_cmp_eq x y).mp h
  unfold lcI; rw [if_neg (by rw [Int64.lt_iff_toInt_lt]; omega), if_pos rfl]
theorem lc_gt {x y : Int64} (h : 0 ≤ lg_cmp x y) (h2 : ¬ lg_cmp x y = 0) : lcI x y = 1 := by
  unfold lcI; rw [if_neg (fun q => Int64.not_le.mpr q ((lg_cmp_ge x y).mp h)), if_neg (fun q => h2 ((lg_cmp_eq x y).mpr q))]
def cpN (a b : Nat) : Int32 := if a < b then -1 else if a = b then 0 else 1
def czI (a b : Int) : Int32 := if a < b then -1 else if a = b then 0 else 1
theorem ic_nI {a b : Nat} (ha : a < 2147483648) (hb : b < 2147483648) : icI (nI a) (nI b) = cpN a b := by
  unfold icI cpN
  by_cases h : a < b
  · rw [if_pos h, if_pos ((nI_lt_iff ha hb).mpr h)]
  · rw [if_neg h, if_neg (fun q => h ((nI_lt_iff ha hb).mp q))]
    by_cases h2 : a = b
    · rw [if_pos h2, if_pos (by rw [h2])]
    · rw [if_neg h2, if_neg (fun q => h2 ((nI_eq ha hb).mp q))]
theorem cp_nz {a b : Nat} : cpN a b < 0 ↔ a < b := by
  unfold cpN
  by_cases h : a < b
  · rw [if_pos h]; exact ⟨fun _ => h, fun _ => by decide⟩
  · rw [if_neg h]
    by_cases h2 : a = b
    · rw [if_pos h2]; exact ⟨fun q => absurd q (by decide), fun q => absurd q h⟩
    · rw [if_neg h2]; exact ⟨fun q => absurd q (by decide), fun q => absurd q h⟩
/-- the highest digits that differ decide -/
theorem vl_top_lt {B : Nat} {a b : Nat → Nat} {j : Nat} (hB : 0 < B) (ha : ∀ i, a i < B) (hj : a j < b j) : ∀ n, j < n → (∀ i, j < i → i < n → a i = b i) → vl B a n < vl B b n
  | 0, h, _ => absurd h (Nat.not_lt_zero _)
  | n + 1, h, he => by
    rw [vl_s, vl_s]
    by_cases q : j = n
    · subst q
      have h1 := vl_lt (B := B) (g := a) j (fun i _ => ha i)
      have h2 : (a j + 1) * B ^ j ≤ b j * B ^ j := Nat.mul_le_mul_right _ hj
      rw [Nat.add_mul, Nat.one_mul] at h2
      omega
    · have h1 := vl_top_lt hB ha hj n (by omega) (fun i h1 h2 => he i h1 (by omega))
      rw [he n (by omega) (by omega)]
      omega
theorem ca_dig {L L2 n : Nat} {g g2 : Nat → Nat} {z z2 : Int} {j : Nat} (h : whO L n g z) (h2 : whO L2 n g2 z2) (hj : j < n) (he : ∀ i, j < i → i < n → g i = g2 i) (hne : ¬ g j = g2 j) : icI (nI (g j)) (nI (g2 j)) = cpN z.natAbs z2.natAbs := by
  have d1 := h.2.2.2.1
  have d2 := h2.2.2.2.1
  rw [ic_nI (d1 j) (d2 j)]
  unfold cpN
  rw [← h.2.2.2.2.2, ← h2.2.2.2.2.2]
  by_cases q : g j < g2 j
  · have := vl_top_lt (B := 2147483648) (by decide) d1 q n hj he
    rw [if_pos q, if_pos this]
  · have := vl_top_lt (B := 2147483648) (a := g2) (b := g) (by decide) d2 (j := j) (by omega) n hj (fun i h1 h2 => (he i h1 h2).symm)
    rw [if_neg q, if_neg hne, if_neg (by omega), if_neg (by omega)]
theorem ca_all {L L2 n : Nat} {g g2 : Nat → Nat} {z z2 : Int} (h : whO L n g z) (h2 : whO L2 n g2 z2) (he : ∀ i, i < n → g i = g2 i) : (0 : Int32) = cpN z.natAbs z2.natAbs := by
  unfold cpN
  rw [← h.2.2.2.2.2, ← h2.2.2.2.2.2, vl_congr n he, if_neg (Nat.lt_irrefl _), if_pos rfl]
theorem ca_size {L L2 n n2 : Nat} {g g2 : Nat → Nat} {z z2 : Int} (h : whO L n g z) (h2 : whO L2 n2 g2 z2) (hne : ¬ n = n2) : icI (nI n) (nI n2) = cpN z.natAbs z2.natAbs := by
  have key : ∀ {L L2 n n2 : Nat} {g g2 : Nat → Nat} {z z2 : Int}, whO L n g z → whO L2 n2 g2 z2 → n < n2 → z.natAbs < z2.natAbs := by
    intro L L2 n n2 g g2 z z2 h h2 hlt
    have h3 := wh_lt h
    have h4 := vl_ge (B := 2147483648) (g := g2) (n := n2) (by omega) (by have := h2.2.2.2.2.1; omega)
    have h5 : 2147483648 ^ n ≤ 2147483648 ^ (n2 - 1) := Nat.pow_le_pow_right (by decide) (by omega)
    rw [h2.2.2.2.2.2] at h4
    omega
  have b1 := h.1
  have b2 := h.2.2.1
  have b3 := h2.1
  have b4 := h2.2.2.1
  rw [ic_nI (by omega) (by omega)]
  unfold cpN
  by_cases q : n < n2
  · rw [if_pos q, if_pos (key h h2 q)]
  · have := key h2 h (by omega)
    rw [if_neg q, if_neg hne, if_neg (by omega), if_neg (by omega)]
theorem cz_sg {z z2 : Int} (h : ¬ sgI z = sgI z2) : icI (sgI z) (sgI z2) = czI z z2 := by
  unfold czI
  unfold sgI at h ⊢
  rcases Int.lt_trichotomy z 0 with q | q | q <;> rcases Int.lt_trichotomy z2 0 with w | w | w
  · rw [if_pos q, if_pos w] at h; exact absurd rfl h
  · subst w; rw [if_pos q]; simp; decide
  · rw [if_pos q, if_neg (by omega), if_neg (by omega), if_pos (by omega)]; decide
  · subst q; rw [if_neg (show ¬ (0 : Int) < 0 by omega), if_pos rfl, if_pos w, if_neg (show ¬ (0 : Int) < z2 by omega), if_neg (show ¬ (0 : Int) = z2 by omega)]; decide
  · subst q; subst w; exact absurd rfl h
  · subst q; rw [if_neg (show ¬ z2 < 0 by omega), if_neg (show ¬ z2 = 0 by omega), if_pos (show (0:Int) < z2 from w)]; decide
  · rw [if_neg (by omega), if_neg (by omega), if_pos w, if_neg (by omega), if_neg (by omega)]; decide
  · subst w; rw [if_neg (show ¬ z < 0 by omega), if_neg (show ¬ z = 0 by omega), if_neg (show ¬ (0 : Int) < 0 by omega), if_pos rfl]; decide
  · rw [if_neg (show ¬ z < 0 by omega), if_neg (show ¬ z = 0 by omega), if_neg (show ¬ z2 < 0 by omega), if_neg (show ¬ z2 = 0 by omega)] at h; exact absurd rfl h
theorem cz_am {z z2 : Int} (h : sgI z = sgI z2) : sgI z * cpN z.natAbs z2.natAbs = czI z z2 := by
  unfold czI cpN
  rcases Int.lt_trichotomy z 0 with q | q | q
  · have w : z2 < 0 := sgn_lt.mp (h ▸ sgn_lt.mpr q)
    unfold sgI
    rw [if_pos q]
    rcases Int.lt_trichotomy z z2 with t | t | t
    · rw [if_neg (by omega), if_neg (by omega), if_pos t]; decide
    · subst t; rw [if_neg (by omega), if_pos rfl, if_neg (by omega), if_pos rfl]; decide
    · rw [if_pos (by omega), if_neg (by omega), if_neg (by omega)]; decide
  · have w : z2 = 0 := sgn_0.mp (h ▸ sgn_0.mpr q)
    subst q; subst w; decide
  · have w : 0 < z2 := sgn_gt.mp (h ▸ sgn_gt.mpr q)
    unfold sgI
    rw [if_neg (by omega), if_neg (by omega)]
    rcases Int.lt_trichotomy z z2 with t | t | t
    · rw [if_pos (by omega), if_pos t]; decide
    · subst t; rw [if_neg (by omega), if_pos rfl, if_neg (by omega), if_pos rfl]; decide
    · rw [if_neg (by omega), if_neg (by omega), if_neg (by omega), if_neg (by omega)]; decide
/-- longs -/
theorem lN_lZ (a : Nat) : lN a = lZ (a : Int) := by
  apply Int64.toBitVec_inj.mp
  apply BitVec.eq_of_toNat_eq
  show (BitVec.ofNat 64 a).toNat = (BitVec.ofInt 64 (a : Int)).toNat
  rw [BitVec.toNat_ofNat, BitVec.toNat_ofInt]
  omega
theorem lN_and31 {a : Nat} (h : a < 18446744073709551616) : lN a &&& 2147483647 = lN (a % 2147483648) := g_mask (s := 31) (p := 2147483648) (by decide) (by decide) h
theorem d31 : (((31 : Int32).toInt64 &&& 63).toBitVec.smod 64).toNat = 31 := by decide
theorem d31b : ((31 : Int32).toInt64 &&& 63).toBitVec.smod 64 = BitVec.ofNat 64 31 := by decide
theorem lN_shr31 {a : Nat} (h : a < 9223372036854775808) : lN a >>> ((31 : Int32).toInt64 &&& 63) = lN (a / 2147483648) := by
  rw [lN_lZ, lZ_shr (by omega) (by omega) d31, lN_lZ]
  congr 1
theorem lN_ushr31 {a : Nat} (h : a < 18446744073709551616) : ((lN a).toUInt64 >>> ((31 : Int32).toInt64.toUInt64 &&& Int64.toUInt64 63)).toInt64 = lN (a / 2147483648) := by
  apply Int64.toBitVec_inj.mp
  show ((lN a).toUInt64 >>> ((31 : Int32).toInt64.toUInt64 &&& Int64.toUInt64 63)).toBitVec = _
  rw [UInt64.toBitVec_shiftRight]
  apply BitVec.eq_of_toNat_eq
  rw [BitVec.ushiftRight_eq', BitVec.toNat_ushiftRight, show ((((31 : Int32).toInt64.toUInt64 &&& Int64.toUInt64 63)).toBitVec % 64).toNat = 31 from by decide]
  show (BitVec.ofNat 64 a).toNat >>> 31 = (BitVec.ofNat 64 (a / 2147483648)).toNat
  rw [BitVec.toNat_ofNat, BitVec.toNat_ofNat, Nat.mod_eq_of_lt h, Nat.mod_eq_of_lt (by omega), Nat.shiftRight_eq_div_pow]
theorem lN_shl31 {a : Nat} (h : a < 18446744073709551616) : lN a <<< ((31 : Int32).toInt64 &&& 63) = lN (a * 2147483648) := g_shl (k := 31) d31b (by decide) (by decide) h
theorem lN_or31 {a b : Nat} (ha : a < 2147483648) (h : b < 8589934592) : lN (b * 2147483648) ||| lN a = lN (b * 2147483648 + a) := g_or (k := 31) (by decide) ha (by omega)
theorem lZ_i {z : Int} (h0 : 0 ≤ z) (h : z < 2147483648) : (lZ z).toInt32 = nI z.toNat := by
  have e : lZ z = lN z.toNat := by rw [lN_lZ]; congr 1; omega
  rw [e, lN_i]
theorem lZ_nn {z : Int} (h0 : 0 ≤ z) : lZ z = lN z.natAbs := by rw [lN_lZ]; congr 1; omega
theorem lZ_neg_n {z : Int} (h0 : z < 0) : - lZ z = lN z.natAbs := by rw [lN_lZ, lZ_neg]; congr 1; omega
theorem lc_sg {z : Int} (h1 : -9223372036854775808 ≤ z) (h2 : z < 9223372036854775808) : lcI (lZ z) 0 = sgI z := by
  have e0 : (0 : Int64).toInt = 0 := by decide
  unfold lcI sgI
  by_cases q : z < 0
  · rw [if_pos q, if_pos (by rw [Int64.lt_iff_toInt_lt, lZ_toInt h1 h2, e0]; exact q)]
  · rw [if_neg q, if_neg (by rw [Int64.lt_iff_toInt_lt, lZ_toInt h1 h2, e0]; exact q)]
    by_cases w : z = 0
    · rw [if_pos w, if_pos (by rw [w]; rfl)]
    · rw [if_neg w, if_neg (fun t => w (by have := congrArg Int64.toInt t; rw [lZ_toInt h1 h2, e0] at this; exact this))]
theorem lz_ge0 {z : Int} (h1 : -9223372036854775808 ≤ z) (h2 : z < 9223372036854775808) : (0 ≤ lg_cmp (lZ z) 0) ↔ 0 ≤ z := by
  rw [lg_cmp_ge, Int64.le_iff_toInt_le, lZ_toInt h1 h2]
  exact Iff.rfl
/-- a long of one digit and a sign -/
theorem small_val {L n : Nat} {g : Nat → Nat} {z : Int} (h : whO L n g z) (hn : n ≤ 1) : (sgI z).toInt64 * lN (g 0) = lZ z := by
  have d := h.2.2.2.1 0
  rcases Int.lt_trichotomy z 0 with q | q | q
  · have e : n = 1 := by have := whn_0 h; omega
    subst e
    have h6 : 0 + g 0 * 2147483648 ^ 0 = z.natAbs := h.2.2.2.2.2
    have e2 : sgI z = -1 := by unfold sgI; rw [if_pos q]
    rw [e2, lN_lZ, show (-1 : Int32).toInt64 = lZ (-1) from by decide, lZ_mul]
    congr 1
    omega
  · subst q
    show (0 : Int32).toInt64 * _ = lZ 0
    rw [show (0 : Int32).toInt64 = lZ 0 from by decide, lN_lZ, lZ_mul, Int.zero_mul]
  · have e : n = 1 := by have := whn_0 h; omega
    subst e
    have h6 : 0 + g 0 * 2147483648 ^ 0 = z.natAbs := h.2.2.2.2.2
    have e2 : sgI z = 1 := by unfold sgI; rw [if_neg (by omega), if_neg (by omega)]
    rw [e2, lN_lZ, show (1 : Int32).toInt64 = lZ 1 from by decide, lZ_mul]
    congr 1
    omega
theorem small_abs {L n : Nat} {g : Nat → Nat} {z : Int} (h : whO L n g z) (hn : n ≤ 1) : z.natAbs < 2147483648 := by
  have h1 := wh_lt h
  have h2 : 2147483648 ^ n ≤ 2147483648 ^ 1 := Nat.pow_le_pow_right (by decide) hn
  rw [Nat.pow_one] at h2
  omega
def dgN (n : Nat) (g : Nat → Nat) (i : Nat) : Nat := if i < n then g i else 0
theorem dg_lt {n : Nat} {g : Nat → Nat} (h : ∀ i, g i < 2147483648) (i : Nat) : dgN n g i < 2147483648 := by
  unfold dgN
  split
  · exact h i
  · decide
theorem dg_eq {n i : Nat} {g g2 : Nat → Nat} (h : g i = g2 i) : dgN n g i = dgN n g2 i := by unfold dgN; rw [h]
theorem dg_vl {n m : Nat} {g : Nat → Nat} (h : n ≤ m) : vl 2147483648 (dgN n g) m = vl 2147483648 g n := by
  rw [vl_zeros (n := n) m h (fun i h1 _ => by unfold dgN; rw [if_neg (by omega)])]
  exact vl_congr n (fun i hi => by unfold dgN; rw [if_pos hi])
/-- the digits of a long -/
theorem set_val {g : Nat → Nat} {a : Nat} (h : a < 18446744073709551616) : vl 2147483648 (va_up (va_up (va_up g 0 (a % 2147483648)) 1 (a / 2147483648 % 2147483648)) 2 (a / 2147483648 / 2147483648 % 2147483648)) 3 = a := by
  rw [vl_s, vl_s, vl_s, va_up_self, va_up_ne _ _ (by decide : (1:Nat) ≠ 2), va_up_self, va_up_ne _ _ (by decide : (0:Nat) ≠ 2), va_up_ne _ _ (by decide : (0:Nat) ≠ 1), va_up_self]
  show 0 + a % 2147483648 * 1 + a / 2147483648 % 2147483648 * 2147483648 + a / 2147483648 / 2147483648 % 2147483648 * (2147483648 * 2147483648) = a
  omega
theorem up31 {g : Nat → Nat} {j v : Nat} (hg : ∀ i, g i < 2147483648) (hv : v < 2147483648) : ∀ i, va_up g j v i < 2147483648 := by
  intro i
  by_cases q : i = j
  · rw [q, va_up_self]; exact hv
  · rw [va_up_ne _ _ q]; exact hg i
section ZR
variable {p : Program} {l : Launch} {e : Env} {R : Room} {s : State} {m : MethodId} {args : Array Value} {below : List Frame} {meth : Method} {c : Code} {H : Heap} {locs : List Loc} {cells slots : Nat} {Q : State → Prop} {cc : ByteArray} {pc : Nat} {ls : Array Slot} {rest : List Value}
theorem z_imul2 (hx : p.tables.exec = Jvm.exec) (hb : c.code = cc) {x y v : Int32} (hd : decode cc pc = .ok (.imul, 1)) (hv : x * y = v) (kk : W p l e R s m args below meth c H locs cells slots Q (F0 m (pc + 1) ls (.int v :: rest))) : W p l e R s m args below meth c H locs cells slots Q (F0 m pc ls (.int y :: .int x :: rest)) := by subst hv; exact lv_imul hx hb hd kk
theorem z_ineg (hx : p.tables.exec = Jvm.exec) (hb : c.code = cc) {x v : Int32} (hd : decode cc pc = .ok (.ineg, 1)) (hv : - x = v) (kk : W p l e R s m args below meth c H locs cells slots Q (F0 m (pc + 1) ls (.int v :: rest))) : W p l e R s m args below meth c H locs cells slots Q (F0 m pc ls (.int x :: rest)) := by subst hv; exact lv_ineg hx hb hd kk
theorem z_ldiv (hx : p.tables.exec = Jvm.exec) (hb : c.code = cc) {x y v : Int64} (hd : decode cc pc = .ok (.ldiv, 1)) (hne : ¬ y = 0) (hv : x / y = v) (kk : W p l e R s m args below meth c H locs cells slots Q (F0 m (pc + 1) ls (.long v :: rest))) : W p l e R s m args below meth c H locs cells slots Q (F0 m pc ls (.long y :: .long x :: rest)) := by subst hv; exact lv_ldiv hx hb hd hne kk
theorem z_lrem (hx : p.tables.exec = Jvm.exec) (hb : c.code = cc) {x y v : Int64} (hd : decode cc pc = .ok (.lrem, 1)) (hne : ¬ y = 0) (hv : x - x / y * y = v) (kk : W p l e R s m args below meth c H locs cells slots Q (F0 m (pc + 1) ls (.long v :: rest))) : W p l e R s m args below meth c H locs cells slots Q (F0 m pc ls (.long y :: .long x :: rest)) := by subst hv; exact lv_lrem hx hb hd hne kk
theorem z_topl {x y : Int64} (hv : x = y) (kk : W p l e R s m args below meth c H locs cells slots Q (F0 m pc ls (.long y :: rest))) : W p l e R s m args below meth c H locs cells slots Q (F0 m pc ls (.long x :: rest)) := by subst hv; exact kk
end ZR
