/-! how many unknowns and conditions both sides count: the class by its nodes, the reference by the words -/
theorem nI_q1 {a b : Nat} (ha : a < 1000) (hb : b < 1000) : (nI a = nI b) ↔ a = b :=
  ⟨fun h => by
    have h1 : (nI a).toNatClampNeg = a := nI_clamp (by omega)
    have h2 : (nI b).toNatClampNeg = b := nI_clamp (by omega)
    rw [h] at h1
    omega, fun h => by rw [h]⟩
section CNT
variable {W : Nat → Int32} {tk : Nat → Nat} {nf : Nat} {E E' : Nat → Nat}
theorem nbV_bit {p i : Nat} (hi : i < 1000) : ∀ n, (∀ k, k < n → ∃ v, W (p + 2 + k) = nI v ∧ v < 1000) → (nbV W p n).testBit i = nmV W (nI i) p n
  | 0, _ => by simp [nbV, nmV]
  | n + 1, h => by
    obtain ⟨v, hv, hv2⟩ := h n (by omega)
    have e : (nI v).toNatClampNeg = v := nI_clamp (by omega)
    have e2 : decide (v = i) = decide (nI v = nI i) := decide_eq_decide.mpr (nI_q1 hv2 hi).symm
    rw [nbV, nmV, Nat.testBit_or, nbV_bit hi n (fun k hk => h k (by omega)), hv, e, Nat.one_mul, Nat.testBit_two_pow, e2]
theorem ow_bit {p i : Nat} (hi : i < 1000) (h1 : W p = 1 ∨ W p = 3 → ∃ v, W (p + 1) = nI v ∧ v < 1000) (h5 : W p = 5 → ∃ g, W (p + 1) = nI g ∧ g < 1000 ∧ ∀ k, k < tk g → ∃ v, W (p + 2 + k) = nI v ∧ v < 1000) : (owB W tk p).testBit i = nm1 W tk (nI i) p := by
  unfold owB nm1
  by_cases q : W p = 1 ∨ W p = 3
  · obtain ⟨v, hv, hv2⟩ := h1 q
    have e : (nI v).toNatClampNeg = v := nI_clamp (by omega)
    have e2 : decide (v = i) = decide (nI v = nI i) := decide_eq_decide.mpr (nI_q1 hv2 hi).symm
    rw [if_pos q, if_pos q, hv, e, Nat.one_mul, Nat.testBit_two_pow, e2]
  · rw [if_neg q, if_neg q]
    by_cases r : W p = 5
    · obtain ⟨g, hg, hg2, hv⟩ := h5 r
      have e : (nI g).toNatClampNeg = g := nI_clamp (by omega)
      rw [if_pos r, if_pos r, hg, e]
      exact nbV_bit hi _ hv
    · rw [if_neg r, if_neg r]
      exact Nat.zero_testBit i
theorem nmN_add {v : Int32} : ∀ {a b p m : Nat}, HDn W tk nf a p m → nmN W tk v (a + b) p = (nmN W tk v a p || nmN W tk v b m)
  | 0, b, p, m, h => by
    have h : p = m := h
    subst h
    simp [nmN]
  | a + 1, b, p, m, h => by
    rw [show a + 1 + b = a + b + 1 by omega, nmN, nmN, nmN_add h.2, Bool.or_assoc]
theorem ot_bit {a b kn v w : Nat} (hw : w < 32) : (otN a b kn v).testBit w = ((a ||| b).testBit w && decide (w < kn) && !decide (v = w)) := by
  unfold otN
  rw [Nat.testBit_and, Nat.testBit_and, Nat.testBit_xor, Nat.one_mul, Nat.one_mul, Nat.testBit_two_pow_sub_one, Nat.testBit_two_pow, show (4294967295 : Nat) = 2 ^ 32 - 1 from rfl, Nat.testBit_two_pow_sub_one]
  simp [hw]
theorem pc_nc {a b kn v n0 p0 : Nat} (hb : ∀ i, i < 1000 → (a ||| b).testBit i = nmN W tk (nI i) n0 p0) : ∀ n, n ≤ 32 → pcK (otN a b kn v) n = ncN W tk n0 p0 v (min n kn)
  | 0, _ => by rw [Nat.zero_min]; rfl
  | n + 1, h => by
    rw [pcK, pc_nc hb n (by omega), ← Nat.toNat_testBit, ot_bit (by omega), hb n (by omega)]
    rcases Nat.lt_or_ge n kn with q | q
    · rw [Nat.min_eq_left (show n ≤ kn by omega), Nat.min_eq_left (show n + 1 ≤ kn by omega), ncN]
      congr 1
      by_cases r : v = n
      · subst r
        simp
      · have r2 : n ≠ v := fun e => r e.symm
        cases nmN W tk (nI n) n0 p0 <;> simp [q, r, r2]
    · rw [Nat.min_eq_right (show kn ≤ n by omega), Nat.min_eq_right (show kn ≤ n + 1 by omega)]
      simp [Nat.not_lt.mpr q]
variable {sta fir sec kno nam : Nat → Nat}
theorem cnt_eq (hnf : nf ≤ 4) : ∀ (fu kn p q q' x y : Nat), ntT W tk sta fir sec kno nam fu kn p q x y → wf W tk nf E fu kn p q' → kn + fu ≤ 19 → q = q' ∧ (∀ i, i < 1000 → (nam x).testBit i = nmN W tk (nI i) (nd W E fu p) p) ∧ ucX W sta fir sec kno nam fu x = ucT W tk E fu kn p ∧ ccX W sta fir sec kno nam fu x = ccT W tk E fu kn p
  | 0, _, _, _, _, _, _, h, _, _ => h.elim
  | fu + 1, kn, p, q, q', x, y, h, h', hk => by
    obtain ⟨hs, hkn, h⟩ := h
    obtain ⟨-, h'⟩ := h'
    rcases h' with ⟨a, b⟩ | ⟨a, ⟨v, v1, v2⟩, b⟩ | ⟨a, b⟩ | ⟨a, ⟨v, v1, v2⟩, m', b, c⟩ | ⟨a, ⟨v, v1, v2⟩, b⟩ | ⟨a, g, g1, g2, g3, g4⟩ | ⟨a, m', b, c⟩
    · rcases h with ⟨-, e1, e2, e3⟩ | ⟨w, -⟩ | ⟨w, -⟩
      · have hd : hdN W tk p = 1 := by unfold hdN; rw [if_pos (Or.inl a)]
        have hc := ct_01 (W := W) (tk := tk) (E := E) (fu := fu) (kn := kn) (p := p) (Or.inl a)
        refine ⟨by omega, fun i hi => ?_, ?_, ?_⟩
        · rw [e3, hc.1, nmN, nmN, Bool.or_false]
          exact ow_bit hi (fun w => by rw [a] at w; exact absurd w (by decide)) (fun w => by rw [a] at w; exact absurd w (by decide))
        · rw [ucX_0 (Or.inl (by rw [hs]; exact a)), hc.2.1]
        · rw [ccX_0 (Or.inl (by rw [hs]; exact a)), hc.2.2]
      · rw [a] at w; exact absurd w (by decide)
      · rw [a] at w; exact absurd w (by decide)
    · rcases h with ⟨-, e1, e2, e3⟩ | ⟨w, -⟩ | ⟨w, -⟩
      · have hd : hdN W tk p = 2 := by unfold hdN; rw [if_neg (by rw [a]; decide), if_neg (by rw [a]; decide)]
        have hc := ct_01 (W := W) (tk := tk) (E := E) (fu := fu) (kn := kn) (p := p) (Or.inr a)
        refine ⟨by omega, fun i hi => ?_, ?_, ?_⟩
        · rw [e3, hc.1, nmN, nmN, Bool.or_false]
          exact ow_bit hi (fun _ => ⟨v, v1, by omega⟩) (fun w => by rw [a] at w; exact absurd w (by decide))
        · rw [ucX_0 (Or.inr (by rw [hs]; exact a)), hc.2.1]
        · rw [ccX_0 (Or.inr (by rw [hs]; exact a)), hc.2.2]
      · rw [a] at w; exact absurd w (by decide)
      · rw [a] at w; exact absurd w (by decide)
    · rcases h with ⟨w, -⟩ | ⟨-, e1, e2, e3⟩ | ⟨w, -⟩
      · rw [a] at w; exact absurd w (by decide)
      · have hd : hdN W tk p = 1 := by unfold hdN; rw [if_pos (Or.inr (Or.inl a))]
        rw [hd] at e2
        obtain ⟨j1, j2, j3, j4⟩ := cnt_eq hnf fu kn (p + 1) q q' (x + 1) y e2 b (by omega)
        have hc := ct_2 (W := W) (tk := tk) (E := E) (fu := fu) (kn := kn) (p := p) a
        refine ⟨j1, fun i hi => ?_, ?_, ?_⟩
        · rw [e3, hc.1, nmN, hd, Nat.testBit_or, j2 i hi, ow_bit hi (fun w => by rw [a] at w; exact absurd w (by decide)) (fun w => by rw [a] at w; exact absurd w (by decide))]
        · rw [ucX_2 (Or.inl (by rw [hs]; exact a)), e1, hc.2.1, j3]
        · rw [ccX_2 (Or.inl (by rw [hs]; exact a)), e1, hc.2.2, j4]
      · rw [a] at w; exact absurd w (by decide)
    · rcases h with ⟨w, -⟩ | ⟨w, -⟩ | ⟨-, e1, m, z, e2, e3, e4, e5⟩
      · rw [a] at w; exact absurd w (by decide)
      · rw [a] at w; exact absurd w (by decide)
      · have hd : hdN W tk p = 2 := by unfold hdN; rw [if_neg (by rw [a]; decide), if_neg (by rw [a]; decide)]
        rw [hd] at e3
        obtain ⟨j1, j2, j3, j4⟩ := cnt_eq hnf fu kn (p + 2) m m' (x + 1) z e3 b (by omega)
        subst j1
        obtain ⟨k1, k2, k3, k4⟩ := cnt_eq hnf fu (kn + 1) m q q' z y e4 c (by omega)
        have hm : E (p + 2) = m := wf_end b
        have hH := wf_HD hnf _ _ _ _ b
        have hc := ct_3 (W := W) (tk := tk) (E := E) (fu := fu) (kn := kn) (p := p) a v1 (by omega)
        rw [hm] at hc
        have hbit : ∀ i, i < 1000 → (nam (x + 1) ||| nam z).testBit i = nmN W tk (nI i) (nd W E fu (p + 2) + nd W E fu m) (p + 2) := fun i hi => by
          rw [Nat.testBit_or, j2 i hi, k2 i hi, nmN_add hH]
        have e : (nI v).toNatClampNeg = v := nI_clamp (by omega)
        have hot : otX W sta fir sec kno nam x = ncN W tk (nd W E fu (p + 2) + nd W E fu m) (p + 2) v kn := by
          unfold otX
          rw [e1, e2, hkn, hs, v1, e, pc_nc hbit 18 (by omega), Nat.min_eq_right (by omega)]
        refine ⟨k1, fun i hi => ?_, ?_, ?_⟩
        · rw [e5, hc.1, nmN, hd, Nat.or_assoc, Nat.testBit_or, hbit i hi, ow_bit hi (fun _ => ⟨v, v1, by omega⟩) (fun w => by rw [a] at w; exact absurd w (by decide))]
        · rw [ucX_3 (by rw [hs]; exact a), hot, e1, e2, j3, k3, hc.2.1]
          omega
        · rw [ccX_3 (by rw [hs]; exact a), hot, e1, e2, j4, k4, hc.2.2]
          omega
    · rcases h with ⟨w, -⟩ | ⟨-, e1, e2, e3⟩ | ⟨w, -⟩
      · rw [a] at w; exact absurd w (by decide)
      · have hd : hdN W tk p = 2 := by unfold hdN; rw [if_neg (by rw [a]; decide), if_neg (by rw [a]; decide)]
        rw [hd] at e2
        obtain ⟨j1, j2, j3, j4⟩ := cnt_eq hnf fu kn (p + 2) q q' (x + 1) y e2 b (by omega)
        have hc := ct_4 (W := W) (tk := tk) (E := E) (fu := fu) (kn := kn) (p := p) a
        refine ⟨j1, fun i hi => ?_, ?_, ?_⟩
        · rw [e3, hc.1, nmN, hd, Nat.testBit_or, j2 i hi, ow_bit hi (fun w => by rw [a] at w; exact absurd w (by decide)) (fun w => by rw [a] at w; exact absurd w (by decide))]
        · rw [ucX_2 (Or.inr (by rw [hs]; exact a)), e1, hc.2.1, j3]
        · rw [ccX_2 (Or.inr (by rw [hs]; exact a)), e1, hc.2.2, j4]
      · rw [a] at w; exact absurd w (by decide)
    · rcases h with ⟨-, e1, e2, e3⟩ | ⟨w, -⟩ | ⟨w, -⟩
      · have e : (nI g).toNatClampNeg = g := nI_clamp (by omega)
        have hd : hdN W tk p = 2 + tk g := by unfold hdN; rw [if_neg (by rw [a]; decide), if_pos a, g1, e]
        have hc := ct_5 (W := W) (tk := tk) (E := E) (fu := fu) (kn := kn) (p := p) a
        refine ⟨by omega, fun i hi => ?_, ?_, ?_⟩
        · rw [e3, hc.1, nmN, nmN, Bool.or_false]
          exact ow_bit hi (fun w => by rw [a] at w; exact absurd w (by decide)) (fun _ => ⟨g, g1, by omega, fun k hk => by obtain ⟨v, w1, w2⟩ := g4 k hk; exact ⟨v, w1, by omega⟩⟩)
        · rw [ucX_5 (by rw [hs]; exact a), hc.2.1]
        · rw [ccX_5 (by rw [hs]; exact a), hc.2.2]
      · rw [a] at w; exact absurd w (by decide)
      · rw [a] at w; exact absurd w (by decide)
    · rcases h with ⟨w, -⟩ | ⟨w, -⟩ | ⟨-, e1, m, z, e2, e3, e4, e5⟩
      · rw [a] at w; exact absurd w (by decide)
      · rw [a] at w; exact absurd w (by decide)
      · have hd : hdN W tk p = 1 := by unfold hdN; rw [if_pos (Or.inr (Or.inr a))]
        rw [hd] at e3
        obtain ⟨j1, j2, j3, j4⟩ := cnt_eq hnf fu kn (p + 1) m m' (x + 1) z e3 b (by omega)
        subst j1
        obtain ⟨k1, k2, k3, k4⟩ := cnt_eq hnf fu (kn + 1) m q q' z y e4 c (by omega)
        have hm : E (p + 1) = m := wf_end b
        have hH := wf_HD hnf _ _ _ _ b
        have hc := ct_6 (W := W) (tk := tk) (E := E) (fu := fu) (kn := kn) (p := p) a
        rw [hm] at hc
        refine ⟨k1, fun i hi => ?_, ?_, ?_⟩
        · rw [e5, hc.1, nmN, hd, Nat.or_assoc, Nat.testBit_or, Nat.testBit_or, j2 i hi, k2 i hi, nmN_add hH, ow_bit hi (fun w => by rw [a] at w; exact absurd w (by decide)) (fun w => by rw [a] at w; exact absurd w (by decide))]
        · rw [ucX_6 (by rw [hs]; exact a), e1, e2, j3, k3, hc.2.1]
        · rw [ccX_6 (by rw [hs]; exact a), e1, e2, j4, k4, hc.2.2]
/-- the counts don't depend on how the ends are kept -/
theorem ct_uniq (hnf : nf ≤ 4) : ∀ (fu kn p q q' : Nat), wf W tk nf E fu kn p q → wf W tk nf E' fu kn p q' → kn + fu ≤ 19 → nd W E fu p = nd W E' fu p ∧ ucT W tk E fu kn p = ucT W tk E' fu kn p ∧ ccT W tk E fu kn p = ccT W tk E' fu kn p
  | 0, _, _, _, _, h, _, _ => h.elim
  | fu + 1, kn, p, q, q', h, h', hk => by
    obtain ⟨-, h⟩ := h
    obtain ⟨-, h'⟩ := h'
    rcases h with ⟨a, b⟩ | ⟨a, -, b⟩ | ⟨a, b⟩ | ⟨a, ⟨v, v1, v2⟩, m, b, c⟩ | ⟨a, -, b⟩ | ⟨a, -⟩ | ⟨a, m, b, c⟩
    · have h1 := ct_01 (W := W) (tk := tk) (E := E) (fu := fu) (kn := kn) (p := p) (Or.inl a)
      have h2 := ct_01 (W := W) (tk := tk) (E := E') (fu := fu) (kn := kn) (p := p) (Or.inl a)
      exact ⟨h1.1.trans h2.1.symm, h1.2.1.trans h2.2.1.symm, h1.2.2.trans h2.2.2.symm⟩
    · have h1 := ct_01 (W := W) (tk := tk) (E := E) (fu := fu) (kn := kn) (p := p) (Or.inr a)
      have h2 := ct_01 (W := W) (tk := tk) (E := E') (fu := fu) (kn := kn) (p := p) (Or.inr a)
      exact ⟨h1.1.trans h2.1.symm, h1.2.1.trans h2.2.1.symm, h1.2.2.trans h2.2.2.symm⟩
    · rcases h' with ⟨a', -⟩ | ⟨a', -⟩ | ⟨a', b'⟩ | ⟨a', -⟩ | ⟨a', -⟩ | ⟨a', -⟩ | ⟨a', -⟩
      · exact absurd (a.symm.trans a') (by decide)
      · exact absurd (a.symm.trans a') (by decide)
      · have j := ct_uniq hnf fu kn _ _ _ b b' (by omega)
        have h1 := ct_2 (W := W) (tk := tk) (E := E) (fu := fu) (kn := kn) (p := p) a
        have h2 := ct_2 (W := W) (tk := tk) (E := E') (fu := fu) (kn := kn) (p := p) a
        rw [h1.1, h1.2.1, h1.2.2, h2.1, h2.2.1, h2.2.2, j.1, j.2.1, j.2.2]
        exact ⟨rfl, rfl, rfl⟩
      all_goals exact absurd (a.symm.trans a') (by decide)
    · rcases h' with ⟨a', -⟩ | ⟨a', -⟩ | ⟨a', -⟩ | ⟨a', -, m', b', c'⟩ | ⟨a', -⟩ | ⟨a', -⟩ | ⟨a', -⟩
      · exact absurd (a.symm.trans a') (by decide)
      · exact absurd (a.symm.trans a') (by decide)
      · exact absurd (a.symm.trans a') (by decide)
      · have e := wf_uniq hnf _ _ _ _ _ _ b b'
        subst e
        have hm : E (p + 2) = m := wf_end b
        have hm' : E' (p + 2) = m := wf_end b'
        have j := ct_uniq hnf fu kn _ _ _ b b' (by omega)
        have i := ct_uniq hnf fu (kn + 1) _ _ _ c c' (by omega)
        have h1 := ct_3 (W := W) (tk := tk) (E := E) (fu := fu) (kn := kn) (p := p) a v1 (by omega)
        have h2 := ct_3 (W := W) (tk := tk) (E := E') (fu := fu) (kn := kn) (p := p) a v1 (by omega)
        rw [hm] at h1
        rw [hm'] at h2
        rw [h1.1, h1.2.1, h1.2.2, h2.1, h2.2.1, h2.2.2, j.1, j.2.1, j.2.2, i.1, i.2.1, i.2.2]
        exact ⟨rfl, rfl, rfl⟩
      all_goals exact absurd (a.symm.trans a') (by decide)
    · rcases h' with ⟨a', -⟩ | ⟨a', -⟩ | ⟨a', -⟩ | ⟨a', -⟩ | ⟨a', -, b'⟩ | ⟨a', -⟩ | ⟨a', -⟩
      · exact absurd (a.symm.trans a') (by decide)
      · exact absurd (a.symm.trans a') (by decide)
      · exact absurd (a.symm.trans a') (by decide)
      · exact absurd (a.symm.trans a') (by decide)
      · have j := ct_uniq hnf fu kn _ _ _ b b' (by omega)
        have h1 := ct_4 (W := W) (tk := tk) (E := E) (fu := fu) (kn := kn) (p := p) a
        have h2 := ct_4 (W := W) (tk := tk) (E := E') (fu := fu) (kn := kn) (p := p) a
        rw [h1.1, h1.2.1, h1.2.2, h2.1, h2.2.1, h2.2.2, j.1, j.2.1, j.2.2]
        exact ⟨rfl, rfl, rfl⟩
      all_goals exact absurd (a.symm.trans a') (by decide)
    · have h1 := ct_5 (W := W) (tk := tk) (E := E) (fu := fu) (kn := kn) (p := p) a
      have h2 := ct_5 (W := W) (tk := tk) (E := E') (fu := fu) (kn := kn) (p := p) a
      exact ⟨h1.1.trans h2.1.symm, h1.2.1.trans h2.2.1.symm, h1.2.2.trans h2.2.2.symm⟩
    · rcases h' with ⟨a', -⟩ | ⟨a', -⟩ | ⟨a', -⟩ | ⟨a', -⟩ | ⟨a', -⟩ | ⟨a', -⟩ | ⟨a', m', b', c'⟩
      · exact absurd (a.symm.trans a') (by decide)
      · exact absurd (a.symm.trans a') (by decide)
      · exact absurd (a.symm.trans a') (by decide)
      · exact absurd (a.symm.trans a') (by decide)
      · exact absurd (a.symm.trans a') (by decide)
      · exact absurd (a.symm.trans a') (by decide)
      · have e := wf_uniq hnf _ _ _ _ _ _ b b'
        subst e
        have hm : E (p + 1) = m := wf_end b
        have hm' : E' (p + 1) = m := wf_end b'
        have j := ct_uniq hnf fu kn _ _ _ b b' (by omega)
        have i := ct_uniq hnf fu (kn + 1) _ _ _ c c' (by omega)
        have h1 := ct_6 (W := W) (tk := tk) (E := E) (fu := fu) (kn := kn) (p := p) a
        have h2 := ct_6 (W := W) (tk := tk) (E := E') (fu := fu) (kn := kn) (p := p) a
        rw [hm] at h1
        rw [hm'] at h2
        rw [h1.1, h1.2.1, h1.2.2, h2.1, h2.2.1, h2.2.2, j.1, j.2.1, j.2.2, i.1, i.2.1, i.2.2]
        exact ⟨rfl, rfl, rfl⟩
end CNT
/-- the counts of all bodies, by the words -/
def uT (wd : Nat → Int32) (tk : Nat → Nat) (En : Nat → Nat) : Nat → Nat
  | 0 => 0
  | f + 1 => uT wd tk En f + ucT (wdF wd f) tk (enF En f) 16 (tk f) 0
def cT (wd : Nat → Int32) (tk : Nat → Nat) (En : Nat → Nat) : Nat → Nat
  | 0 => 0
  | f + 1 => cT wd tk En f + (ccT (wdF wd f) tk (enF En f) 16 (tk f) 0 + tk f + 1)
theorem uS_eq {wd : Nat → Int32} {tk ct : Nat → Nat} {nf : Nat} {En : Nat → Nat} {ta : Nat → Nat → Nat → Nat} (hnf : nf ≤ 4) (htk : ∀ g, g < 4 → tk g ≤ 3) (hwf : ∀ g, g < nf → wf (wdF wd g) tk nf (enF En g) 16 (tk g) 0 (ct g)) (hrd : rdO wd tk ct ta nf) : ∀ k, k ≤ nf → ucS wd ta k = uT wd tk En k ∧ ccS wd tk ta k = cT wd tk En k
  | 0, _ => ⟨rfl, rfl⟩
  | k + 1, h => by
    have ih := uS_eq hnf htk hwf hrd k (by omega)
    obtain ⟨y, -, hy⟩ := hrd k (by omega)
    have h3 := htk k (by omega)
    have hc := cnt_eq hnf 16 (tk k) 0 (ct k) (ct k) 0 y hy (hwf k (by omega)) (by omega)
    rw [ucS, ccS, uT, cT, ih.1, ih.2, hc.2.2.1, hc.2.2.2]
    exact ⟨rfl, by omega⟩
/-- what told says behind bound -/
def tlM (tk : Nat → Nat) (wd : Nat → Int32) (En : Nat → Nat) (nf : Nat) : Option (Nat × Nat) := if 40 < fsN tk nf + uT wd tk En nf ∨ 90 < cT wd tk En nf then none else some (fsN tk nf + uT wd tk En nf, cT wd tk En nf)
def tlF (isf : Int32) (fb : Option (Nat × Nat)) (tl : Option (Nat × Nat)) : Option (Nat × Nat) := if isf = 0 then none else match fb with | some _ => none | none => tl
def tlR (tl : Option (Nat × Nat)) (i29 i14 i15 : Int32) : Prop := match tl with | none => i29 = 0 | some (a, b) => i29 = 1 ∧ i14 = nI a ∧ i15 = nI b
def tlC (tl : Option (Nat × Nat)) (it un co : Nat) : Prop := match tl with | none => it = 0 | some (a, b) => it = 1 ∧ un = a ∧ co = b
def tdN (tl : Option (Nat × Nat)) (w : Int32) : Int32 := match tl with | none => -2 | some (a, b) => if w < 0 ∨ ¬ w ≤ 1 then -2 else if w = 0 then nI a else nI b
theorem tlF_0 {isf : Int32} {fb tl : Option (Nat × Nat)} (h : isf = 0) : tlF isf fb tl = none := by unfold tlF; rw [if_pos h]
theorem tlF_1 {isf : Int32} {fb tl : Option (Nat × Nat)} (h : fb ≠ none) : tlF isf fb tl = none := by
  unfold tlF
  by_cases q : isf = 0
  · rw [if_pos q]
  · rw [if_neg q]
    cases fb with
    | none => exact absurd rfl h
    | some x => rfl
theorem tlF_2 {isf : Int32} {fb tl : Option (Nat × Nat)} (h : ¬ isf = 0) (h2 : fb = none) : tlF isf fb tl = tl := by unfold tlF; rw [if_neg h, h2]
theorem tlM_0 {tk : Nat → Nat} {wd : Nat → Int32} {En : Nat → Nat} {nf un co : Nat} (h1 : un = fsN tk nf + uT wd tk En nf) (h2 : co = cT wd tk En nf) (h : 40 < un ∨ 90 < co) : tlM tk wd En nf = none := by unfold tlM; rw [← h1, ← h2, if_pos h]
theorem tlM_1 {tk : Nat → Nat} {wd : Nat → Int32} {En : Nat → Nat} {nf un co : Nat} (h1 : un = fsN tk nf + uT wd tk En nf) (h2 : co = cT wd tk En nf) (h : un ≤ 40 ∧ co ≤ 90) : tlM tk wd En nf = some (un, co) := by unfold tlM; rw [← h1, ← h2, if_neg (by omega)]
theorem flO_yes {un co fl : Nat} (h : flO un co fl) (h2 : fl ≠ 0) : 40 < un ∨ 90 < co := by
  unfold flO at h
  by_cases q : 40 < un ∨ 90 < co
  · exact q
  · rw [if_neg q] at h; exact absurd h h2
theorem td_c {tl : Option (Nat × Nat)} {it un co : Nat} {w : Int32} (h : tlC tl it un co) : toI it un co w = tdN tl w := by
  unfold toI
  cases tl with
  | none =>
    have h : it = 0 := h
    rw [if_pos (Or.inl h)]
    rfl
  | some x =>
    obtain ⟨a, b⟩ := x
    obtain ⟨h1, h2, h3⟩ : it = 1 ∧ un = a ∧ co = b := h
    subst h1; subst h2; subst h3
    show _ = if w < 0 ∨ ¬ w ≤ 1 then -2 else if w = 0 then nI un else nI co
    by_cases q : w < 0 ∨ ¬ w ≤ 1
    · rw [if_pos (Or.inr q), if_pos q]
    · rw [if_neg (fun r => r.elim (fun r => absurd r (by decide)) q), if_neg q]
theorem td_r {tl : Option (Nat × Nat)} {i29 i14 i15 w : Int32} (h : tlR tl i29 i14 i15) : toldM i29 w i14 i15 = tdN tl w := by
  unfold toldM
  cases tl with
  | none =>
    have h : i29 = 0 := h
    rw [if_pos h]
    rfl
  | some x =>
    obtain ⟨a, b⟩ := x
    obtain ⟨h1, h2, h3⟩ : i29 = 1 ∧ i14 = nI a ∧ i15 = nI b := h
    rw [h1, h2, h3, if_neg (by decide)]
    show _ = if w < 0 ∨ ¬ w ≤ 1 then -2 else if w = 0 then nI a else nI b
    by_cases q : w < 0
    · rw [if_pos q, if_pos (Or.inl q)]
    · rw [if_neg q]
      by_cases r : w ≤ 1
      · rw [if_pos r]
        exact (if_neg (fun z => z.elim q (fun z => z r))).symm
      · rw [if_neg r, if_pos (Or.inr r)]
theorem tl_ok {wd : Nat → Int32} {tk ct : Nat → Nat} {nf : Nat} {En : Nat → Nat} {ta : Nat → Nat → Nat → Nat} {un co fl it : Nat} {r : Int32} (hnf : nf ≤ 4) (htk : ∀ g, g < 4 → tk g ≤ 3) (hwf : ∀ g, g < nf → wf (wdF wd g) tk nf (enF En g) 16 (tk g) 0 (ct g)) (hrd : rdO wd tk ct ta nf) (hst : stpO (ucS wd ta nf) (ccS wd tk ta nf) (fsN tk nf) 0 0 un co fl) (h : (r = -3 ∧ it = 0 ∧ fl = 1) ∨ (it = 1 ∧ fl = 0)) : tlC (tlM tk wd En nf) it un co := by
  have e := uS_eq hnf htk hwf hrd nf (Nat.le_refl _)
  rw [e.1, e.2] at hst
  obtain ⟨h1, h2, h3, h4, h5⟩ := hst
  rcases h with ⟨-, i1, i2⟩ | ⟨i1, i2⟩
  · have q : 40 < fsN tk nf + uT wd tk En nf ∨ 90 < cT wd tk En nf := by
      apply Classical.byContradiction
      intro q
      have := h5 rfl (by omega) (by omega)
      omega
    rw [tlM_0 rfl rfl q]
    exact i1
  · obtain ⟨-, j1, j2⟩ := h4 i2
    rw [tlM_1 j1 (by omega) ⟨h1, h2⟩]
    exact ⟨i1, rfl, rfl⟩
