theorem nn_of {x : Int32} (h : ¬ x < 0) : nI x.toNatClampNeg = x := by
  apply Int32.toInt_inj.mp
  rw [Int32.lt_iff_toInt_lt, show (0 : Int32).toInt = 0 by decide] at h
  have h1 := x.toInt_lt
  have h2 : x.toNatClampNeg = x.toInt.toNat := rfl
  show (Int32.ofNat x.toNatClampNeg).toInt = x.toInt
  rw [Int32.toInt_ofNat_of_lt (by omega)]
  omega
theorem nn_lt {x : Int32} {n : Nat} (h : ¬ x < 0) (hn : n < 2147483648) (h2 : x < nI n) : x.toNatClampNeg < n := by
  rw [Int32.lt_iff_toInt_lt, show (0 : Int32).toInt = 0 by decide] at h
  rw [Int32.lt_iff_toInt_lt] at h2
  have h3 : (nI n).toInt = n := Int32.toInt_ofNat_of_lt (by omega)
  rw [h3] at h2
  have h4 : x.toNatClampNeg = x.toInt.toNat := rfl
  omega
theorem nn_le {x : Int32} (h : ¬ x < 0) (h2 : ¬ 1000 < x) : x.toNatClampNeg ≤ 1000 := by
  rw [Int32.lt_iff_toInt_lt, show (0 : Int32).toInt = 0 by decide] at h
  rw [Int32.lt_iff_toInt_lt, show (1000 : Int32).toInt = 1000 by decide] at h2
  have h4 : x.toNatClampNeg = x.toInt.toNat := rfl
  omega
section ENC
variable {W : Nat → Int32} {tk : Nat → Nat} {nf cnt : Nat}
theorem wf_lt {E : Nat → Nat} : ∀ (fu kn p q : Nat), wf W tk nf E fu kn p q → p < q
  | 0, _, _, _, h => h.elim
  | fu + 1, kn, p, q, h => by
    obtain ⟨-, h⟩ := h
    rcases h with h | h | h | h | h | h | h
    · omega
    · omega
    · have := wf_lt fu _ _ _ h.2; omega
    · obtain ⟨-, -, m, h1, h2⟩ := h
      have := wf_lt fu _ _ _ h1
      have := wf_lt fu _ _ _ h2
      omega
    · have := wf_lt fu _ _ _ h.2.2; omega
    · obtain ⟨-, g, -, -, h, -⟩ := h
      omega
    · obtain ⟨-, m, h1, h2⟩ := h
      have := wf_lt fu _ _ _ h1
      have := wf_lt fu _ _ _ h2
      omega
theorem wf_end {E : Nat → Nat} : ∀ {fu kn p q : Nat}, wf W tk nf E fu kn p q → E p = q
  | 0, _, _, _, h => h.elim
  | _ + 1, _, _, _, h => h.1
theorem wf_congr {E E' : Nat → Nat} : ∀ (fu kn p q : Nat), (∀ i, p ≤ i → i < q → E' i = E i) → wf W tk nf E fu kn p q → wf W tk nf E' fu kn p q ∧ nd W E' fu p = nd W E fu p
  | 0, _, _, _, _, h => h.elim
  | fu + 1, kn, p, q, hE, h => by
    have hl := wf_lt (fu + 1) kn p q h
    obtain ⟨h0, h⟩ := h
    have e0 : E' p = q := by rw [hE p (Nat.le_refl _) hl]; exact h0
    rcases h with h | h | h | h | h | h | h
    · refine ⟨⟨e0, Or.inl h⟩, ?_⟩
      rw [nd, nd, if_neg (by rw [h.1]; decide), if_neg (by rw [h.1]; decide), if_neg (by rw [h.1]; decide), if_neg (by rw [h.1]; decide), if_neg (by rw [h.1]; decide), if_neg (by rw [h.1]; decide), if_neg (by rw [h.1]; decide), if_neg (by rw [h.1]; decide)]
    · refine ⟨⟨e0, Or.inr (Or.inl h)⟩, ?_⟩
      rw [nd, nd, if_neg (by rw [h.1]; decide), if_neg (by rw [h.1]; decide), if_neg (by rw [h.1]; decide), if_neg (by rw [h.1]; decide), if_neg (by rw [h.1]; decide), if_neg (by rw [h.1]; decide), if_neg (by rw [h.1]; decide), if_neg (by rw [h.1]; decide)]
    · have i1 := wf_congr fu kn (p + 1) q (fun i a b => hE i (by omega) b) h.2
      refine ⟨⟨e0, Or.inr (Or.inr (Or.inl ⟨h.1, i1.1⟩))⟩, ?_⟩
      rw [nd, nd, if_pos h.1, if_pos h.1, i1.2]
    · obtain ⟨a1, a2, m, h1, h2⟩ := h
      have l1 := wf_lt _ _ _ _ h1
      have l2 := wf_lt _ _ _ _ h2
      have i1 := wf_congr fu kn (p + 2) m (fun i a b => hE i (by omega) (by omega)) h1
      have i2 := wf_congr fu (kn + 1) m q (fun i a b => hE i (by omega) b) h2
      refine ⟨⟨e0, Or.inr (Or.inr (Or.inr (Or.inl ⟨a1, a2, m, i1.1, i2.1⟩)))⟩, ?_⟩
      have e1 : E (p + 2) = m := wf_end h1
      have e2 : E' (p + 2) = m := wf_end i1.1
      rw [nd, nd, if_neg (by rw [a1]; decide), if_neg (by rw [a1]; decide), if_pos a1, if_neg (by rw [a1]; decide), if_neg (by rw [a1]; decide), if_pos a1, e1, e2, i1.2, i2.2]
    · have i1 := wf_congr fu kn (p + 2) q (fun i a b => hE i (by omega) b) h.2.2
      refine ⟨⟨e0, Or.inr (Or.inr (Or.inr (Or.inr (Or.inl ⟨h.1, h.2.1, i1.1⟩))))⟩, ?_⟩
      rw [nd, nd, if_neg (by rw [h.1]; decide), if_pos h.1, if_neg (by rw [h.1]; decide), if_pos h.1, i1.2]
    · refine ⟨⟨e0, Or.inr (Or.inr (Or.inr (Or.inr (Or.inr (Or.inl h)))))⟩, ?_⟩
      rw [nd, nd, if_neg (by rw [h.1]; decide), if_neg (by rw [h.1]; decide), if_neg (by rw [h.1]; decide), if_neg (by rw [h.1]; decide), if_neg (by rw [h.1]; decide), if_neg (by rw [h.1]; decide), if_neg (by rw [h.1]; decide), if_neg (by rw [h.1]; decide)]
    · obtain ⟨a1, m, h1, h2⟩ := h
      have l1 := wf_lt _ _ _ _ h1
      have l2 := wf_lt _ _ _ _ h2
      have i1 := wf_congr fu kn (p + 1) m (fun i a b => hE i (by omega) (by omega)) h1
      have i2 := wf_congr fu (kn + 1) m q (fun i a b => hE i (by omega) b) h2
      refine ⟨⟨e0, Or.inr (Or.inr (Or.inr (Or.inr (Or.inr (Or.inr ⟨a1, m, i1.1, i2.1⟩)))))⟩, ?_⟩
      have e1 : E (p + 1) = m := wf_end h1
      have e2 : E' (p + 1) = m := wf_end i1.1
      rw [nd, nd, if_neg (by rw [a1]; decide), if_neg (by rw [a1]; decide), if_neg (by rw [a1]; decide), if_pos a1, if_neg (by rw [a1]; decide), if_neg (by rw [a1]; decide), if_neg (by rw [a1]; decide), if_pos a1, e1, e2, i1.2, i2.2]
/-- what is read is one expression -/
theorem prs_wf (hnf : nf ≤ 4) : ∀ (fu kn at9 nodes : Nat) (E : Nat → Nat) (a2 n2 : Nat) (E2 : Nat → Nat), prs W tk nf cnt fu kn at9 nodes E = .inr (a2, n2, E2) → at9 ≤ cnt → nodes ≤ 40 → kn + fu ≤ 1000 →
    wf W tk nf E2 fu kn at9 a2 ∧ (∀ i, i < at9 ∨ a2 ≤ i → E2 i = E i) ∧ n2 = nodes + nd W E2 fu at9 ∧ at9 < a2 ∧ a2 ≤ cnt ∧ n2 ≤ 40
  | 0, kn, at9, nodes, E, a2, n2, E2, h, ha, hn, hk => by simp [prs] at h
  | fu + 1, kn, at9, nodes, E, a2, n2, E2, h, ha, hn, hk => by
    rw [prs] at h
    by_cases q0 : at9 = cnt ∨ nodes = 40
    · rw [if_pos q0] at h; exact absurd h (by simp)
    rw [if_neg q0] at h
    have ha2 : at9 < cnt := by omega
    have hn2 : nodes < 40 := by omega
    cases hw : wh W tk nf cnt at9 kn with
    | some b => rw [hw] at h; exact absurd h (by simp)
    | none =>
      rw [hw] at h
      have hh := wh_hd hw ha2
      have hh1 : 1 ≤ hdN W tk at9 := by unfold hdN; split; omega; split <;> omega
      have hno := wh_none hw
      have up1 : ∀ (i : Nat) (X : Nat → Nat) (v : Nat), i < at9 ∨ at9 < i → va_up X at9 v i = X i := fun i X v hi => va_up_ne _ _ (by omega)
      have h : (if W at9 = 0 ∨ W at9 = 1 ∨ W at9 = 5 then Sum.inr (at9 + hdN W tk at9, nodes + 1, va_up E at9 (at9 + hdN W tk at9))
        else match prs W tk nf cnt fu kn (at9 + hdN W tk at9) (nodes + 1) E with
        | .inl b => .inl b
        | .inr (a2, n2, E2) =>
          if W at9 = 2 ∨ W at9 = 4 then .inr (a2, n2, va_up E2 at9 a2)
          else match prs W tk nf cnt fu (kn + 1) a2 n2 E2 with
          | .inl b => .inl b
          | .inr (a3, n3, E3) => .inr (a3, n3, va_up E3 at9 a3) : PR) = .inr (a2, n2, E2) := h
      by_cases w0 : W at9 = 0 ∨ W at9 = 1 ∨ W at9 = 5
      · rw [if_pos w0] at h
        injection h with h
        injection h with g1 h
        injection h with g2 g3
        subst g1; subst g2; subst g3
        have hnd : nd W (va_up E at9 (at9 + hdN W tk at9)) (fu + 1) at9 = 1 := by
          rw [nd]
          rcases w0 with w | w | w <;> rw [if_neg (by rw [w]; decide), if_neg (by rw [w]; decide), if_neg (by rw [w]; decide), if_neg (by rw [w]; decide)]
        refine ⟨⟨va_up_self _ _ _, ?_⟩, fun i hi => up1 i _ _ (by omega), by rw [hnd], by omega, hh, by omega⟩
        rcases w0 with w | w | w
        · exact Or.inl ⟨w, by unfold hdN; rw [if_pos (Or.inl w)]⟩
        · have hd : hdN W tk at9 = 2 := by unfold hdN; rw [if_neg (by rw [w]; decide), if_neg (by rw [w]; decide)]
          rcases hno with q | ⟨-, q | q | q⟩
          · rw [w] at q; exact absurd q (by decide)
          · rw [w] at q; exact absurd q.1 (by decide)
          · exact Or.inr (Or.inl ⟨w, ⟨_, (nn_of q.2.1).symm, nn_lt q.2.1 (by omega) q.2.2⟩, by rw [hd]⟩)
          · rw [w] at q; exact absurd q.1 (by decide)
        · have hd : hdN W tk at9 = 2 + tk (W (at9 + 1)).toNatClampNeg := by unfold hdN; rw [if_neg (by rw [w]; decide), if_pos w]
          rcases hno with q | ⟨-, q | q | q⟩
          · rw [w] at q; exact absurd q (by decide)
          · rw [w] at q; exact absurd q.1 (by decide)
          · rw [w] at q; exact absurd q.1 (by decide)
          · have nz : ¬ W (at9 + 1) < 0 := Int32.not_lt.mpr q.2.1
            refine Or.inr (Or.inr (Or.inr (Or.inr (Or.inr (Or.inl ⟨w, _, (nn_of nz).symm, nn_lt nz (by omega) q.2.2.1, by rw [hd, Nat.add_assoc], fun k hk9 => ?_⟩)))))
            have := whV_none q.2.2.2 k hk9
            exact ⟨_, (nn_of this.2.1).symm, nn_lt this.2.1 (by omega) this.2.2⟩
      rw [if_neg w0] at h
      cases hp1 : prs W tk nf cnt fu kn (at9 + hdN W tk at9) (nodes + 1) E with
      | inl b => rw [hp1] at h; exact absurd h (by simp)
      | inr x =>
        obtain ⟨b2, m2, X2⟩ := x
        rw [hp1] at h
        obtain ⟨i1, i2, i3, i5, i6, i7⟩ := prs_wf hnf fu kn _ _ E b2 m2 X2 hp1 hh (by omega) (by omega)
        have h : (if W at9 = 2 ∨ W at9 = 4 then .inr (b2, m2, va_up X2 at9 b2)
          else match prs W tk nf cnt fu (kn + 1) b2 m2 X2 with
          | .inl b => .inl b
          | .inr (a3, n3, E3) => .inr (a3, n3, va_up E3 at9 a3) : PR) = .inr (a2, n2, E2) := h
        by_cases w2 : W at9 = 2 ∨ W at9 = 4
        · rw [if_pos w2] at h
          injection h with h
          injection h with g1 h
          injection h with g2 g3
          subst g1; subst g2; subst g3
          have k9 := wf_congr (E := X2) (E' := va_up X2 at9 b2) fu kn (at9 + hdN W tk at9) b2 (fun i a b => up1 i _ _ (by omega)) i1
          rcases w2 with w | w
          · have hd : hdN W tk at9 = 1 := by unfold hdN; rw [if_pos (Or.inr (Or.inl w))]
            rw [hd] at k9 i3
            exact ⟨⟨va_up_self _ _ _, Or.inr (Or.inr (Or.inl ⟨w, k9.1⟩))⟩, fun i hi => by rw [up1 i _ _ (by omega)]; exact i2 i (by omega), by rw [nd, if_pos w, k9.2]; omega, by omega, i6, i7⟩
          · have hd : hdN W tk at9 = 2 := by unfold hdN; rw [if_neg (by rw [w]; decide), if_neg (by rw [w]; decide)]
            rw [hd] at k9 i3
            rcases hno with q | ⟨-, q | q | q⟩
            · rw [w] at q; exact absurd q (by decide)
            · exact ⟨⟨va_up_self _ _ _, Or.inr (Or.inr (Or.inr (Or.inr (Or.inl ⟨w, ⟨_, (nn_of q.2.1).symm, nn_le q.2.1 q.2.2⟩, k9.1⟩))))⟩, fun i hi => by rw [up1 i _ _ (by omega)]; exact i2 i (by omega), by rw [nd, if_neg (by rw [w]; decide), if_pos w, k9.2]; omega, by omega, i6, i7⟩
            · rw [w] at q; exact absurd q.1 (by decide)
            · rw [w] at q; exact absurd q.1 (by decide)
        rw [if_neg w2] at h
        have hk9 := wh_kind hw (fun x => w0 (Or.inl x)) (fun x => w0 (Or.inr (Or.inl x))) (fun x => w0 (Or.inr (Or.inr x))) (fun x => w2 (Or.inl x)) (fun x => w2 (Or.inr x))
        cases hp2 : prs W tk nf cnt fu (kn + 1) b2 m2 X2 with
        | inl b => rw [hp2] at h; exact absurd h (by simp)
        | inr y =>
          obtain ⟨b3, m3, X3⟩ := y
          rw [hp2] at h
          obtain ⟨j1, j2, j3, j5, j6, j7⟩ := prs_wf hnf fu (kn + 1) _ _ X2 b3 m3 X3 hp2 i6 i7 (by omega)
          have h : (.inr (b3, m3, va_up X3 at9 b3) : PR) = .inr (a2, n2, E2) := h
          injection h with h
          injection h with g1 h
          injection h with g2 g3
          subst g1; subst g2; subst g3
          have c1 := wf_congr (E := X2) (E' := va_up X3 at9 b3) fu kn (at9 + hdN W tk at9) b2 (fun i a b => by rw [up1 i _ _ (by omega)]; exact j2 i (Or.inl b)) i1
          have c2 := wf_congr (E := X3) (E' := va_up X3 at9 b3) fu (kn + 1) b2 b3 (fun i a b => up1 i _ _ (by omega)) j1
          have c3 : ∀ i, i < at9 ∨ b3 ≤ i → va_up X3 at9 b3 i = E i := fun i hi => by rw [up1 i _ _ (by omega), j2 i (by omega)]; exact i2 i (by omega)
          have c5 := wf_end c1.1
          rcases hk9 with w | w
          · have hd : hdN W tk at9 = 2 := by unfold hdN; rw [if_neg (by rw [w]; decide), if_neg (by rw [w]; decide)]
            rw [hd] at c1 i3 c5
            rcases hno with q | ⟨-, q | q | q⟩
            · rw [w] at q; exact absurd q (by decide)
            · rw [w] at q; exact absurd q.1 (by decide)
            · exact ⟨⟨va_up_self _ _ _, Or.inr (Or.inr (Or.inr (Or.inl ⟨w, ⟨_, (nn_of q.2.1).symm, nn_lt q.2.1 (by omega) q.2.2⟩, b2, c1.1, c2.1⟩)))⟩, c3, by rw [nd, if_neg (by rw [w]; decide), if_neg (by rw [w]; decide), if_pos w, c5, c1.2, c2.2]; omega, by omega, j6, j7⟩
            · rw [w] at q; exact absurd q.1 (by decide)
          · have hd : hdN W tk at9 = 1 := by unfold hdN; rw [if_pos (Or.inr (Or.inr w))]
            rw [hd] at c1 i3 c5
            exact ⟨⟨va_up_self _ _ _, Or.inr (Or.inr (Or.inr (Or.inr (Or.inr (Or.inr ⟨w, b2, c1.1, c2.1⟩)))))⟩, c3, by rw [nd, if_neg (by rw [w]; decide), if_neg (by rw [w]; decide), if_neg (by rw [w]; decide), if_pos w, c5, c1.2, c2.2]; omega, by omega, j6, j7⟩
end ENC
