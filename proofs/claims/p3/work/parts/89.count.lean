/-! how many unknowns and conditions a body makes; what is known of a node's numbers -/
def ucT (W : Nat → Int32) (tk : Nat → Nat) (E : Nat → Nat) : Nat → Nat → Nat → Nat
  | 0, _, _ => 0
  | fu + 1, kn, p => if W p = 2 then ucT W tk E fu kn (p + 1) else if W p = 4 then ucT W tk E fu kn (p + 2)
    else if W p = 3 then ucT W tk E fu kn (p + 2) + ucT W tk E fu (kn + 1) (E (p + 2)) + (2 + ncN W tk (nd W E fu (p + 2) + nd W E fu (E (p + 2))) (p + 2) (W (p + 1)).toNatClampNeg kn)
    else if W p = 6 then ucT W tk E fu (kn + 1) (E (p + 1)) + ucT W tk E fu kn (p + 1) else if W p = 5 then 1 else 0
def ccT (W : Nat → Int32) (tk : Nat → Nat) (E : Nat → Nat) : Nat → Nat → Nat → Nat
  | 0, _, _ => 0
  | fu + 1, kn, p => if W p = 2 then ccT W tk E fu kn (p + 1) else if W p = 4 then ccT W tk E fu kn (p + 2)
    else if W p = 3 then ccT W tk E fu kn (p + 2) + ccT W tk E fu (kn + 1) (E (p + 2)) + (3 + 2 * ncN W tk (nd W E fu (p + 2) + nd W E fu (E (p + 2))) (p + 2) (W (p + 1)).toNatClampNeg kn)
    else if W p = 6 then ccT W tk E fu (kn + 1) (E (p + 1)) + ccT W tk E fu kn (p + 1) else if W p = 5 then 3 else 0
section CT
variable {W : Nat → Int32} {tk : Nat → Nat} {E : Nat → Nat} {fu kn p : Nat}
theorem ct_01 (h : W p = 0 ∨ W p = 1) : nd W E (fu + 1) p = 1 ∧ ucT W tk E (fu + 1) kn p = 0 ∧ ccT W tk E (fu + 1) kn p = 0 := by
  rcases h with h | h <;> (refine ⟨?_, ?_, ?_⟩ <;> (first | rw [nd] | rw [ucT] | rw [ccT]) <;> simp only [h] <;> rfl)
theorem ct_5 (h : W p = 5) : nd W E (fu + 1) p = 1 ∧ ucT W tk E (fu + 1) kn p = 1 ∧ ccT W tk E (fu + 1) kn p = 3 := by
  refine ⟨?_, ?_, ?_⟩ <;> (first | rw [nd] | rw [ucT] | rw [ccT]) <;> simp only [h] <;> rfl
theorem ct_2 (h : W p = 2) : nd W E (fu + 1) p = nd W E fu (p + 1) + 1 ∧ ucT W tk E (fu + 1) kn p = ucT W tk E fu kn (p + 1) ∧ ccT W tk E (fu + 1) kn p = ccT W tk E fu kn (p + 1) :=
  ⟨by rw [nd, if_pos h], by rw [ucT, if_pos h], by rw [ccT, if_pos h]⟩
theorem ct_4 (h : W p = 4) : nd W E (fu + 1) p = nd W E fu (p + 2) + 1 ∧ ucT W tk E (fu + 1) kn p = ucT W tk E fu kn (p + 2) ∧ ccT W tk E (fu + 1) kn p = ccT W tk E fu kn (p + 2) :=
  ⟨by rw [nd, if_neg (by rw [h]; decide), if_pos h], by rw [ucT, if_neg (by rw [h]; decide), if_pos h], by rw [ccT, if_neg (by rw [h]; decide), if_pos h]⟩
theorem ct_6 (h : W p = 6) : nd W E (fu + 1) p = nd W E fu (p + 1) + nd W E fu (E (p + 1)) + 1 ∧ ucT W tk E (fu + 1) kn p = ucT W tk E fu (kn + 1) (E (p + 1)) + ucT W tk E fu kn (p + 1) ∧ ccT W tk E (fu + 1) kn p = ccT W tk E fu (kn + 1) (E (p + 1)) + ccT W tk E fu kn (p + 1) :=
  ⟨by rw [nd, if_neg (by rw [h]; decide), if_neg (by rw [h]; decide), if_neg (by rw [h]; decide), if_pos h], by rw [ucT, if_neg (by rw [h]; decide), if_neg (by rw [h]; decide), if_neg (by rw [h]; decide), if_pos h], by rw [ccT, if_neg (by rw [h]; decide), if_neg (by rw [h]; decide), if_neg (by rw [h]; decide), if_pos h]⟩
theorem ct_3 {v : Nat} (h : W p = 3) (hv : W (p + 1) = nI v) (hv2 : v < 1000) : nd W E (fu + 1) p = nd W E fu (p + 2) + nd W E fu (E (p + 2)) + 1 ∧ ucT W tk E (fu + 1) kn p = ucT W tk E fu kn (p + 2) + ucT W tk E fu (kn + 1) (E (p + 2)) + (2 + ncN W tk (nd W E fu (p + 2) + nd W E fu (E (p + 2))) (p + 2) v kn) ∧ ccT W tk E (fu + 1) kn p = ccT W tk E fu kn (p + 2) + ccT W tk E fu (kn + 1) (E (p + 2)) + (3 + 2 * ncN W tk (nd W E fu (p + 2) + nd W E fu (E (p + 2))) (p + 2) v kn) := by
  have hc : (nI v).toNatClampNeg = v := nI_clamp (by omega)
  refine ⟨?_, ?_, ?_⟩
  · rw [nd, if_neg (by rw [h]; decide), if_neg (by rw [h]; decide), if_pos h]
  · rw [ucT, if_neg (by rw [h]; decide), if_neg (by rw [h]; decide), if_pos h, hv, hc]
  · rw [ccT, if_neg (by rw [h]; decide), if_neg (by rw [h]; decide), if_pos h, hv, hc]
end CT
theorem nd_pos {W : Nat → Int32} {tk : Nat → Nat} {nf : Nat} {E : Nat → Nat} {fu kn p q : Nat} (h : wf W tk nf E fu kn p q) : 1 ≤ nd W E fu p := by
  cases fu with
  | zero => exact h.elim
  | succ fu =>
    rw [nd]
    split
    · omega
    · split
      · omega
      · split
        · omega
        · split <;> omega
theorem tn_zero {L : Nat → Int64} {b : Nat} (h : ∀ k, k < 19 → lz L (22 * b + k) = 0) : tn L b = 0 := by
  unfold tn
  rw [ns_congr (g := fun _ => 0) h, ns_0]
theorem tn_one {L : Nat → Int64} {b v X : Nat} (h : ∀ k, k < 19 → k ≠ v → lz L (22 * b + k) = 0) (h2 : lz L (22 * b + v) ≤ X) : tn L b ≤ X := by
  have := ns_one (n := 19) (f := fun k => lz L (22 * b + k)) (g := fun _ => 0) (j := v) (d := X) (fun i hi hne => Nat.le_of_eq (h i hi hne)) (by omega)
  rw [ns_0] at this
  unfold tn
  omega
theorem tn_mem {L : Nat → Int64} {b k : Nat} (h : k < 19) : lz L (22 * b + k) ≤ tn L b := ns_mem (f := fun k => lz L (22 * b + k)) h
theorem ns_part {g : Nat → Nat} {k : Nat} : ∀ {n : Nat}, k < n → ns n (fun i => if i < k then g i else 0) + g k ≤ ns n g
  | 0, h => absurd h (Nat.not_lt_zero _)
  | n + 1, h => by
    rw [ns_s, ns_s]
    by_cases q : k = n
    · subst q
      rw [if_neg (Nat.lt_irrefl _)]
      have : ns k (fun i => if i < k then g i else 0) = ns k g := ns_congr (fun i hi => if_pos hi)
      omega
    · have := ns_part (g := g) (k := k) (n := n) (by omega)
      rw [if_neg (show ¬ n < k by omega)]
      omega
/-- the first part's lines and those of the second but the new variable's -/
theorem tn_sum {U M N : Nat → Int64} {b c e kn : Nat} (hk : kn < 19) (h : ∀ k, k < 19 → lz U (22 * b + k) ≤ lz M (22 * c + k) + (if k < kn then lz N (22 * e + k) else 0)) : tn U b + lz N (22 * e + kn) ≤ tn M c + tn N e := by
  have h1 : tn U b ≤ ns 19 (fun k => lz M (22 * c + k) + (if k < kn then lz N (22 * e + k) else 0)) := ns_le h
  rw [ns_add] at h1
  have h2 := ns_part (g := fun k => lz N (22 * e + k)) hk
  unfold tn at *
  omega
