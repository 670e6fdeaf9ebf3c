/-! the nodes of a body in a row; which variables are named -/
section ROW
variable {W : Nat → Int32} {tk : Nat → Nat} {nf : Nat} {E : Nat → Nat}
/-- a node begins at p -/
def hdO (W : Nat → Int32) (nf p : Nat) : Prop := (W p = 0 ∨ W p = 1 ∨ W p = 2 ∨ W p = 3 ∨ W p = 4 ∨ W p = 5 ∨ W p = 6) ∧ (W p = 5 → ∃ g, W (p + 1) = nI g ∧ g < nf)
/-- n nodes in a row from p to q -/
def HDn (W : Nat → Int32) (tk : Nat → Nat) (nf : Nat) : Nat → Nat → Nat → Prop
  | 0, p, q => p = q
  | n + 1, p, q => hdO W nf p ∧ HDn W tk nf n (p + hdN W tk p) q
theorem HDn_add : ∀ {a b p m q : Nat}, HDn W tk nf a p m → HDn W tk nf b m q → HDn W tk nf (a + b) p q
  | 0, b, p, m, q, h1, h2 => by
    have h1 : p = m := h1
    rw [Nat.zero_add, h1]; exact h2
  | a + 1, b, p, m, q, h1, h2 => by
    rw [show a + 1 + b = a + b + 1 by omega]
    exact ⟨h1.1, HDn_add h1.2 h2⟩
theorem wf_HD (hnf : nf ≤ 4) : ∀ (fu kn p q : Nat), wf W tk nf E fu kn p q → HDn W tk nf (nd W E fu p) p q
  | 0, _, _, _, h => h.elim
  | fu + 1, kn, p, q, h => by
    obtain ⟨-, h⟩ := h
    rcases h with h | h | h | h | h | h | h
    · have e : nd W E (fu + 1) p = 0 + 1 := by rw [nd, if_neg (by rw [h.1]; decide), if_neg (by rw [h.1]; decide), if_neg (by rw [h.1]; decide), if_neg (by rw [h.1]; decide)]
      have hd : hdN W tk p = 1 := by unfold hdN; rw [if_pos (Or.inl h.1)]
      rw [e]
      refine ⟨⟨Or.inl h.1, fun w => by rw [h.1] at w; exact absurd w (by decide)⟩, ?_⟩
      rw [hd]; exact h.2.symm
    · have e : nd W E (fu + 1) p = 0 + 1 := by rw [nd, if_neg (by rw [h.1]; decide), if_neg (by rw [h.1]; decide), if_neg (by rw [h.1]; decide), if_neg (by rw [h.1]; decide)]
      have hd : hdN W tk p = 2 := by unfold hdN; rw [if_neg (by rw [h.1]; decide), if_neg (by rw [h.1]; decide)]
      rw [e]
      refine ⟨⟨Or.inr (Or.inl h.1), fun w => by rw [h.1] at w; exact absurd w (by decide)⟩, ?_⟩
      rw [hd]; exact h.2.2.symm
    · have hd : hdN W tk p = 1 := by unfold hdN; rw [if_pos (Or.inr (Or.inl h.1))]
      rw [nd, if_pos h.1]
      refine ⟨⟨Or.inr (Or.inr (Or.inl h.1)), fun w => by rw [h.1] at w; exact absurd w (by decide)⟩, ?_⟩
      rw [hd]; exact wf_HD hnf fu kn _ _ h.2
    · obtain ⟨a, -, m, h1, h2⟩ := h
      have hd : hdN W tk p = 2 := by unfold hdN; rw [if_neg (by rw [a]; decide), if_neg (by rw [a]; decide)]
      rw [nd, if_neg (by rw [a]; decide), if_neg (by rw [a]; decide), if_pos a]
      refine ⟨⟨Or.inr (Or.inr (Or.inr (Or.inl a))), fun w => by rw [a] at w; exact absurd w (by decide)⟩, ?_⟩
      rw [hd, wf_end h1]; exact HDn_add (wf_HD hnf fu kn _ _ h1) (wf_HD hnf fu (kn + 1) _ _ h2)
    · have hd : hdN W tk p = 2 := by unfold hdN; rw [if_neg (by rw [h.1]; decide), if_neg (by rw [h.1]; decide)]
      rw [nd, if_neg (by rw [h.1]; decide), if_pos h.1]
      refine ⟨⟨Or.inr (Or.inr (Or.inr (Or.inr (Or.inl h.1)))), fun w => by rw [h.1] at w; exact absurd w (by decide)⟩, ?_⟩
      rw [hd]; exact wf_HD hnf fu kn _ _ h.2.2
    · obtain ⟨a, g, b1, b2, b3, -⟩ := h
      have e : nd W E (fu + 1) p = 0 + 1 := by rw [nd, if_neg (by rw [a]; decide), if_neg (by rw [a]; decide), if_neg (by rw [a]; decide), if_neg (by rw [a]; decide)]
      have hd : hdN W tk p = 2 + tk g := by unfold hdN; rw [if_neg (by rw [a]; decide), if_pos a, b1, show (nI g).toNatClampNeg = g from nI_clamp (by omega)]
      rw [e]
      refine ⟨⟨Or.inr (Or.inr (Or.inr (Or.inr (Or.inr (Or.inl a))))), fun _ => ⟨g, b1, b2⟩⟩, ?_⟩
      rw [hd, ← Nat.add_assoc]; exact b3.symm
    · obtain ⟨a, m, h1, h2⟩ := h
      have hd : hdN W tk p = 1 := by unfold hdN; rw [if_pos (Or.inr (Or.inr a))]
      rw [nd, if_neg (by rw [a]; decide), if_neg (by rw [a]; decide), if_neg (by rw [a]; decide), if_pos a]
      refine ⟨⟨Or.inr (Or.inr (Or.inr (Or.inr (Or.inr (Or.inr a))))), fun w => by rw [a] at w; exact absurd w (by decide)⟩, ?_⟩
      rw [hd, wf_end h1]; exact HDn_add (wf_HD hnf fu kn _ _ h1) (wf_HD hnf fu (kn + 1) _ _ h2)
theorem hdN_pos (p : Nat) : 1 ≤ hdN W tk p := by
  unfold hdN
  split
  · omega
  · split <;> omega
theorem HDn_le : ∀ {n p q : Nat}, HDn W tk nf n p q → p + n ≤ q
  | 0, p, q, h => by have h : p = q := h; omega
  | n + 1, p, q, h => by
    have := HDn_le h.2
    have := hdN_pos (W := W) (tk := tk) p
    omega
/-- whether a node names the variable v itself, and whether one of n nodes in a row does -/
def nmV (W : Nat → Int32) (v : Int32) (p : Nat) : Nat → Bool
  | 0 => false
  | k + 1 => nmV W v p k || decide (W (p + 2 + k) = v)
def nm1 (W : Nat → Int32) (tk : Nat → Nat) (v : Int32) (p : Nat) : Bool := if W p = 1 ∨ W p = 3 then decide (W (p + 1) = v) else if W p = 5 then nmV W v p (tk (W (p + 1)).toNatClampNeg) else false
def nmN (W : Nat → Int32) (tk : Nat → Nat) (v : Int32) : Nat → Nat → Bool
  | 0, _ => false
  | n + 1, p => nm1 W tk v p || nmN W tk v n (p + hdN W tk p)
end ROW
