/-! a digit less a product and what is borrowed, as longs: the new digit by a mask, the borrow by a shift -/
theorem lN_wrap (a : Nat) : lN (a + 18446744073709551616) = lN a := by
  apply Int64.toBitVec_inj.mp
  show BitVec.ofNat 64 (a + 18446744073709551616) = BitVec.ofNat 64 a
  apply BitVec.eq_of_toNat_eq
  rw [BitVec.toNat_ofNat, BitVec.toNat_ofNat]
  omega
/-- how much is borrowed -/
def bw (o t : Nat) : Nat := (t + 65535 - o) / 65536
theorem bw_spec {o t : Nat} (ho : o < 65536) : t ≤ o + bw o t * 65536 ∧ o + bw o t * 65536 - t < 65536 := by
  unfold bw
  omega
theorem bw_le {o t q : Nat} (h : t ≤ q * 65535 + q) : bw o t ≤ q := by
  unfold bw
  have : (t + 65535 - o) / 65536 < q + 1 := (Nat.div_lt_iff_lt_mul (by decide)).mpr (by omega)
  omega
theorem bw_and {o t : Nat} (ho : o < 65536) (ht : t < 4611686018427387904) : (lN o - lN t) &&& 65535 = lN (o + bw o t * 65536 - t) := by
  have hs := bw_spec (o := o) (t := t) ho
  by_cases c : t ≤ o
  · have e : bw o t = 0 := by unfold bw; omega
    rw [lN_sub c, show (65535 : Int64) = lN (65536 - 1) from rfl, g_mask (s := 16) (p := 65536) (by decide) (by decide) (by omega), e]
    congr 1
    omega
  · rw [← lN_wrap o, lN_sub (by omega), show (65535 : Int64) = lN (65536 - 1) from rfl, g_mask (s := 16) (p := 65536) (by decide) (by decide) (by omega)]
    congr 1
    have h2 := hs.1
    have h3 := hs.2
    generalize bw o t = b at h2 h3 ⊢
    omega
theorem bw_toInt {o t : Nat} (ho : o < 65536) (ht : t < 4611686018427387904) : (lN o - lN t).toInt = (o : Int) - t := by
  rw [Int64.toInt_sub, pf_lI (by omega), pf_lI (by omega), Int.bmod_eq_of_le (by omega) (by omega)]
theorem bw_shr {o t : Nat} (ho : o < 65536) (ht : t < 4611686018427387904) {D : Int64} (hD : (D.toBitVec.smod 64).toNat = 16) : - ((lN o - lN t) >>> D) = lN (bw o t) := by
  have hb : bw o t < 4611686018427387904 := by unfold bw; omega
  have e : ((lN o - lN t) >>> D).toInt = (lN o - lN t).toInt >>> 16 := by
    rw [← hD]
    exact BitVec.toInt_sshiftRight ..
  have e2 : ((lN o - lN t) >>> D).toInt = - (bw o t : Int) := by
    rw [e, bw_toInt ho ht, Int.shiftRight_eq_div_pow]
    show ((o : Int) - t) / 65536 = _
    have hs := bw_spec (o := o) (t := t) ho
    generalize bw o t = b at hs ⊢
    omega
  apply Int64.toInt_inj.mp
  rw [Int64.toInt_neg, e2, Int.neg_neg, pf_lI (by omega), Int.bmod_eq_of_le (by omega) (by omega)]
/-- one step of taking q times a row off another -/
theorem bw_step {O U : Nat → Nat} {n q d b : Nat} (ho : O n < 65536) (hI : vl 65536 U n + q * d = vl 65536 O n + b * 65536 ^ n) (y : Nat) : vl 65536 U n + (O n + bw (O n) (q * y + b) * 65536 - (q * y + b)) * 65536 ^ n + q * (d + y * 65536 ^ n) = vl 65536 O n + O n * 65536 ^ n + bw (O n) (q * y + b) * 65536 ^ (n + 1) := by
  have hs := bw_spec (o := O n) (t := q * y + b) ho
  generalize bw (O n) (q * y + b) = c at hs ⊢
  have e1 : (O n + c * 65536 - (q * y + b)) + (q * y + b) = O n + c * 65536 := by omega
  have e2 : ((O n + c * 65536 - (q * y + b)) + (q * y + b)) * 65536 ^ n = (O n + c * 65536) * 65536 ^ n := by rw [e1]
  rw [Nat.add_mul, Nat.add_mul (q * y), Nat.add_mul (O n)] at e2
  rw [Nat.pow_succ, Nat.mul_add, ← Nat.mul_assoc q y, Nat.mul_comm (65536 ^ n) 65536, ← Nat.mul_assoc c]
  omega
