theorem nn_of {x : Int32} (h : ¬ x < 0) : nI x.toNatClampNeg = x := by
  apply Int32.toInt_inj.mp
  rw [Int32.lt_iff_toInt_lt, show (0 : Int32).toInt = 0 by decide] at h
  have h1 := x.toInt_lt
  have h2 : x.toNatClampNeg = x.toInt.toNat := rfl
  show (Int32.ofNat x.toNatClampNeg).toInt = x.toInt
  rw [Int32.toInt_ofNat_of_lt (by omega)]
  omega
theorem nn_lt {x : Int32} {n : Nat} (h : ¬ x < 0) (hn : n < 2147483648) (h2 : x < nI n) : x.toNatClampNeg < n := by
  rw [Int32.lt_iff_toInt_lt, show (0 : Int32).toInt = 0 by decide] at h
  rw [Int32.lt_iff_toInt_lt] at h2
  have h3 : (nI n).toInt = n := Int32.toInt_ofNat_of_lt (by omega)
  rw [h3] at h2
  have h4 : x.toNatClampNeg = x.toInt.toNat := rfl
  omega
theorem nn_le {x : Int32} (h : ¬ x < 0) (h2 : ¬ 1000 < x) : x.toNatClampNeg ≤ 1000 := by
  rw [Int32.lt_iff_toInt_lt, show (0 : Int32).toInt = 0 by decide] at h
  rw [Int32.lt_iff_toInt_lt, show (1000 : Int32).toInt = 1000 by decide] at h2
  have h4 : x.toNatClampNeg = x.toInt.toNat := rfl
  omega
section ENC
variable {W : Nat → Int32} {tk : Nat → Nat} {nf cnt : Nat}
theorem enc_lt {E : Nat → Nat} : ∀ (e : Ex) (kn p q : Nat), enc W tk nf E e kn p q → p < q
  | .emp, kn, p, q, h => by have := h.2.1; omega
  | .var v, kn, p, q, h => by have := h.2.2.2.1; omega
  | .more e, kn, p, q, h => by have := enc_lt e _ _ _ h.2.1; omega
  | .whn v e f, kn, p, q, h => by
    obtain ⟨m, h1, h2⟩ := h.2.2.2.1
    have := enc_lt e _ _ _ h1
    have := enc_lt f _ _ _ h2
    omega
  | .pay n e, kn, p, q, h => by have := enc_lt e _ _ _ h.2.2.2.1; omega
  | .cal g vs, kn, p, q, h => by have := h.2.2.2.2.1; omega
  | .thn e f, kn, p, q, h => by
    obtain ⟨m, h1, h2⟩ := h.2.1
    have := enc_lt e _ _ _ h1
    have := enc_lt f _ _ _ h2
    omega
theorem enc_congr {E E' : Nat → Nat} : ∀ (e : Ex) (kn p q : Nat), (∀ i, p ≤ i → i < q → E' i = E i) → enc W tk nf E e kn p q → enc W tk nf E' e kn p q
  | .emp, kn, p, q, hE, h => ⟨h.1, h.2.1, by rw [hE p (Nat.le_refl _) (by have := h.2.1; omega)]; exact h.2.2⟩
  | .var v, kn, p, q, hE, h => ⟨h.1, h.2.1, h.2.2.1, h.2.2.2.1, by rw [hE p (Nat.le_refl _) (by have := h.2.2.2.1; omega)]; exact h.2.2.2.2⟩
  | .more e, kn, p, q, hE, h => by
    have hl := enc_lt e _ _ _ h.2.1
    exact ⟨h.1, enc_congr e _ _ _ (fun i h1 h2 => hE i (by omega) h2) h.2.1, by rw [hE p (Nat.le_refl _) (by omega)]; exact h.2.2⟩
  | .whn v e f, kn, p, q, hE, h => by
    obtain ⟨h0, h00, h01, ⟨m, h1, h2⟩, h3⟩ := h
    have hl := enc_lt e _ _ _ h1
    have hl2 := enc_lt f _ _ _ h2
    exact ⟨h0, h00, h01, ⟨m, enc_congr e _ _ _ (fun i a b => hE i (by omega) (by omega)) h1, enc_congr f _ _ _ (fun i a b => hE i (by omega) b) h2⟩, by rw [hE p (Nat.le_refl _) (by omega)]; exact h3⟩
  | .pay n e, kn, p, q, hE, h => by
    have hl := enc_lt e _ _ _ h.2.2.2.1
    exact ⟨h.1, h.2.1, h.2.2.1, enc_congr e _ _ _ (fun i h1 h2 => hE i (by omega) h2) h.2.2.2.1, by rw [hE p (Nat.le_refl _) (by omega)]; exact h.2.2.2.2⟩
  | .cal g vs, kn, p, q, hE, h => ⟨h.1, h.2.1, h.2.2.1, h.2.2.2.1, h.2.2.2.2.1, by rw [hE p (Nat.le_refl _) (by have := h.2.2.2.2.1; omega)]; exact h.2.2.2.2.2⟩
  | .thn e f, kn, p, q, hE, h => by
    obtain ⟨h0, ⟨m, h1, h2⟩, h3⟩ := h
    have hl := enc_lt e _ _ _ h1
    have hl2 := enc_lt f _ _ _ h2
    exact ⟨h0, ⟨m, enc_congr e _ _ _ (fun i a b => hE i (by omega) (by omega)) h1, enc_congr f _ _ _ (fun i a b => hE i (by omega) b) h2⟩, by rw [hE p (Nat.le_refl _) (by omega)]; exact h3⟩
/-- what is read is a tree -/
theorem prs_enc (hnf : nf ≤ 4) : ∀ (fu kn at9 nodes : Nat) (E : Nat → Nat) (e : Ex) (a2 n2 : Nat) (E2 : Nat → Nat), prs W tk nf cnt fu kn at9 nodes E = .ok e a2 n2 E2 → at9 ≤ cnt → nodes ≤ 40 → kn + fu ≤ 1000 →
    enc W tk nf E2 e kn at9 a2 ∧ (∀ i, i < at9 ∨ a2 ≤ i → E2 i = E i) ∧ n2 = nodes + e.nodes ∧ e.deep ≤ fu ∧ at9 < a2 ∧ a2 ≤ cnt ∧ n2 ≤ 40
  | 0, kn, at9, nodes, E, e, a2, n2, E2, h, ha, hn, hk => by simp [prs] at h
  | fu + 1, kn, at9, nodes, E, e, a2, n2, E2, h, ha, hn, hk => by
    rw [prs] at h
    by_cases q0 : at9 = cnt ∨ nodes = 40
    · rw [if_pos q0] at h; exact absurd h (by simp)
    rw [if_neg q0] at h
    have ha2 : at9 < cnt := by omega
    have hn2 : nodes < 40 := by omega
    cases hw : wh W tk nf cnt at9 kn with
    | some b => rw [hw] at h; exact absurd h (by simp)
    | none =>
      rw [hw] at h
      have hh := wh_hd hw ha2
      have hh1 : 1 ≤ hdN W tk at9 := by unfold hdN; split; omega; split <;> omega
      have hno := wh_none hw
      have up1 : ∀ (i : Nat) (X : Nat → Nat) (v : Nat), i < at9 ∨ at9 < i → va_up X at9 v i = X i := fun i X v hi => va_up_ne _ _ (by omega)
      have h : (if W at9 = 0 then PR.ok .emp (at9 + hdN W tk at9) (nodes + 1) (va_up E at9 (at9 + hdN W tk at9))
        else if W at9 = 1 then .ok (.var (W (at9 + 1)).toNatClampNeg) (at9 + hdN W tk at9) (nodes + 1) (va_up E at9 (at9 + hdN W tk at9))
        else if W at9 = 5 then .ok (.cal (W (at9 + 1)).toNatClampNeg (fun k => (W (at9 + 2 + k)).toNatClampNeg)) (at9 + hdN W tk at9) (nodes + 1) (va_up E at9 (at9 + hdN W tk at9))
        else match prs W tk nf cnt fu kn (at9 + hdN W tk at9) (nodes + 1) E with
        | .bad b => .bad b
        | .ok e a2 n2 E2 =>
          if W at9 = 2 then .ok (.more e) a2 n2 (va_up E2 at9 a2)
          else if W at9 = 4 then .ok (.pay (W (at9 + 1)).toNatClampNeg e) a2 n2 (va_up E2 at9 a2)
          else match prs W tk nf cnt fu (kn + 1) a2 n2 E2 with
          | .bad b => .bad b
          | .ok f a3 n3 E3 => .ok (if W at9 = 3 then .whn (W (at9 + 1)).toNatClampNeg e f else .thn e f) a3 n3 (va_up E3 at9 a3)) = .ok e a2 n2 E2 := h
      by_cases w0 : W at9 = 0
      · rw [if_pos w0] at h
        have hd : hdN W tk at9 = 1 := by unfold hdN; rw [if_pos (Or.inl w0)]
        rw [hd] at h
        injection h with g1 g2 g3 g4
        subst g1; subst g2; subst g3; subst g4
        exact ⟨⟨w0, rfl, va_up_self _ _ _⟩, fun i hi => up1 i _ _ (by omega), rfl, by show 1 ≤ fu + 1; omega, by omega, by omega, by omega⟩
      rw [if_neg w0] at h
      by_cases w1 : W at9 = 1
      · rw [if_pos w1] at h
        have hd : hdN W tk at9 = 2 := by unfold hdN; rw [if_neg (by rw [w1]; decide), if_neg (by rw [w1]; decide)]
        rw [hd] at h
        injection h with g1 g2 g3 g4
        subst g1; subst g2; subst g3; subst g4
        rcases hno with q | ⟨-, q | q | q⟩
        · rw [w1] at q; exact absurd q (by decide)
        · rw [w1] at q; exact absurd q.1 (by decide)
        · exact ⟨⟨w1, (nn_of q.2.1).symm, nn_lt q.2.1 (by omega) q.2.2, rfl, va_up_self _ _ _⟩, fun i hi => up1 i _ _ (by omega), rfl, by show 1 ≤ fu + 1; omega, by omega, by omega, by omega⟩
        · rw [w1] at q; exact absurd q.1 (by decide)
      rw [if_neg w1] at h
      by_cases w5 : W at9 = 5
      · rw [if_pos w5] at h
        have hd : hdN W tk at9 = 2 + tk (W (at9 + 1)).toNatClampNeg := by unfold hdN; rw [if_neg (by rw [w5]; decide), if_pos w5]
        rw [hd] at h
        rw [hd] at hh
        injection h with g1 g2 g3 g4
        subst g1; subst g2; subst g3; subst g4
        rcases hno with q | ⟨-, q | q | q⟩
        · rw [w5] at q; exact absurd q (by decide)
        · rw [w5] at q; exact absurd q.1 (by decide)
        · rw [w5] at q; exact absurd q.1 (by decide)
        · have nz : ¬ W (at9 + 1) < 0 := Int32.not_lt.mpr q.2.1
          refine ⟨⟨w5, (nn_of nz).symm, nn_lt nz (by omega) q.2.2.1, fun k hk9 => ?_, (Nat.add_assoc _ _ _).symm, va_up_self _ _ _⟩, fun i hi => up1 i _ _ (by omega), rfl, by show 1 ≤ fu + 1; omega, by omega, by omega, by omega⟩
          have := whV_none q.2.2.2 k hk9
          exact ⟨(nn_of this.2.1).symm, nn_lt this.2.1 (by omega) this.2.2⟩
      rw [if_neg w5] at h
      cases hp1 : prs W tk nf cnt fu kn (at9 + hdN W tk at9) (nodes + 1) E with
      | bad b => rw [hp1] at h; exact absurd h (by simp)
      | ok e1 b2 m2 X2 =>
        rw [hp1] at h
        obtain ⟨i1, i2, i3, i4, i5, i6, i7⟩ := prs_enc hnf fu kn _ _ E e1 b2 m2 X2 hp1 hh (by omega) (by omega)
        have h : (if W at9 = 2 then PR.ok (.more e1) b2 m2 (va_up X2 at9 b2)
          else if W at9 = 4 then .ok (.pay (W (at9 + 1)).toNatClampNeg e1) b2 m2 (va_up X2 at9 b2)
          else match prs W tk nf cnt fu (kn + 1) b2 m2 X2 with
          | .bad b => .bad b
          | .ok f a3 n3 E3 => .ok (if W at9 = 3 then .whn (W (at9 + 1)).toNatClampNeg e1 f else .thn e1 f) a3 n3 (va_up E3 at9 a3)) = .ok e a2 n2 E2 := h
        have keep : ∀ v, enc W tk nf (va_up X2 at9 v) e1 kn (at9 + hdN W tk at9) b2 := fun v => enc_congr e1 _ _ _ (fun i a b => up1 i _ _ (by omega)) i1
        by_cases w2 : W at9 = 2
        · rw [if_pos w2] at h
          have hd : hdN W tk at9 = 1 := by unfold hdN; rw [if_pos (Or.inr (Or.inl w2))]
          injection h with g1 g2 g3 g4
          subst g1; subst g2; subst g3; subst g4
          have k9 := keep b2
          rw [hd] at k9 i2
          exact ⟨⟨w2, k9, va_up_self _ _ _⟩, fun i hi => by rw [up1 i _ _ (by omega)]; exact i2 i (by omega), by rw [i3]; show nodes + 1 + e1.nodes = nodes + (e1.nodes + 1); omega, by show e1.deep + 1 ≤ fu + 1; omega, by omega, i6, i7⟩
        rw [if_neg w2] at h
        by_cases w4 : W at9 = 4
        · rw [if_pos w4] at h
          have hd : hdN W tk at9 = 2 := by unfold hdN; rw [if_neg (by rw [w4]; decide), if_neg (by rw [w4]; decide)]
          injection h with g1 g2 g3 g4
          subst g1; subst g2; subst g3; subst g4
          have k9 := keep b2
          rw [hd] at k9 i2
          rcases hno with q | ⟨-, q | q | q⟩
          · rw [w4] at q; exact absurd q (by decide)
          · exact ⟨⟨w4, (nn_of q.2.1).symm, nn_le q.2.1 q.2.2, k9, va_up_self _ _ _⟩, fun i hi => by rw [up1 i _ _ (by omega)]; exact i2 i (by omega), by rw [i3]; show nodes + 1 + e1.nodes = nodes + (e1.nodes + 1); omega, by show e1.deep + 1 ≤ fu + 1; omega, by omega, i6, i7⟩
          · rw [w4] at q; exact absurd q.1 (by decide)
          · rw [w4] at q; exact absurd q.1 (by decide)
        rw [if_neg w4] at h
        have hk9 := wh_kind hw w0 w1 w5 w2 w4
        cases hp2 : prs W tk nf cnt fu (kn + 1) b2 m2 X2 with
        | bad b => rw [hp2] at h; exact absurd h (by simp)
        | ok f1 b3 m3 X3 =>
          rw [hp2] at h
          obtain ⟨j1, j2, j3, j4, j5, j6, j7⟩ := prs_enc hnf fu (kn + 1) _ _ X2 f1 b3 m3 X3 hp2 i6 i7 (by omega)
          have h : PR.ok (if W at9 = 3 then .whn (W (at9 + 1)).toNatClampNeg e1 f1 else .thn e1 f1) b3 m3 (va_up X3 at9 b3) = .ok e a2 n2 E2 := h
          injection h with g1 g2 g3 g4
          subst g2; subst g3; subst g4
          have c1 : enc W tk nf (va_up X3 at9 b3) e1 kn (at9 + hdN W tk at9) b2 := enc_congr e1 _ _ _ (fun i a b => by rw [up1 i _ _ (by omega)]; exact j2 i (Or.inl b)) i1
          have c2 : enc W tk nf (va_up X3 at9 b3) f1 (kn + 1) b2 b3 := enc_congr f1 _ _ _ (fun i a b => up1 i _ _ (by omega)) j1
          have c3 : ∀ i, i < at9 ∨ b3 ≤ i → va_up X3 at9 b3 i = E i := fun i hi => by rw [up1 i _ _ (by omega), j2 i (by omega)]; exact i2 i (by omega)
          have c4 : m3 = nodes + (e1.nodes + f1.nodes + 1) := by omega
          rcases hk9 with w | w
          · rw [if_pos w] at g1
            subst g1
            have hd : hdN W tk at9 = 2 := by unfold hdN; rw [if_neg (by rw [w]; decide), if_neg (by rw [w]; decide)]
            rw [hd] at c1
            rcases hno with q | ⟨-, q | q | q⟩
            · rw [w] at q; exact absurd q (by decide)
            · rw [w] at q; exact absurd q.1 (by decide)
            · exact ⟨⟨w, (nn_of q.2.1).symm, nn_lt q.2.1 (by omega) q.2.2, ⟨b2, c1, c2⟩, va_up_self _ _ _⟩, c3, c4, by show max e1.deep f1.deep + 1 ≤ fu + 1; omega, by omega, j6, j7⟩
            · rw [w] at q; exact absurd q.1 (by decide)
          · rw [if_neg (by rw [w]; decide)] at g1
            subst g1
            have hd : hdN W tk at9 = 1 := by unfold hdN; rw [if_pos (Or.inr (Or.inr w))]
            rw [hd] at c1
            exact ⟨⟨w, ⟨b2, c1, c2⟩, va_up_self _ _ _⟩, c3, c4, by show max e1.deep f1.deep + 1 ≤ fu + 1; omega, by omega, j6, j7⟩
end ENC
