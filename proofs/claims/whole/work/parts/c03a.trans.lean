/-! a run doesn't depend on how the ends of the bodies are kept -/
section TRN
variable {W : Nat → Int32} {tk : Nat → Nat} {nf : Nat} {E E' : Nat → Nat}
theorem wf_uniq (hnf : nf ≤ 4) : ∀ (fu fu' kn p q q' : Nat), wf W tk nf E fu kn p q → wf W tk nf E' fu' kn p q' → q = q'
  | 0, _, _, _, _, _, h, _ => h.elim
  | _ + 1, 0, _, _, _, _, _, h => h.elim
  | fu + 1, fu' + 1, kn, p, q, q', h, h' => by
    obtain ⟨-, h⟩ := h
    obtain ⟨-, h'⟩ := h'
    rcases h with ⟨a, b⟩ | ⟨a, -, b⟩ | ⟨a, b⟩ | ⟨a, -, m, b, c⟩ | ⟨a, -, b⟩ | ⟨a, g, g1, g2, g3, -⟩ | ⟨a, m, b, c⟩
    · rcases h' with ⟨a', b'⟩ | ⟨a', -⟩ | ⟨a', -⟩ | ⟨a', -⟩ | ⟨a', -⟩ | ⟨a', -⟩ | ⟨a', -⟩
      · omega
      all_goals exact absurd (a.symm.trans a') (by decide)
    · rcases h' with ⟨a', -⟩ | ⟨a', -, b'⟩ | ⟨a', -⟩ | ⟨a', -⟩ | ⟨a', -⟩ | ⟨a', -⟩ | ⟨a', -⟩
      · exact absurd (a.symm.trans a') (by decide)
      · omega
      all_goals exact absurd (a.symm.trans a') (by decide)
    · rcases h' with ⟨a', -⟩ | ⟨a', -⟩ | ⟨a', b'⟩ | ⟨a', -⟩ | ⟨a', -⟩ | ⟨a', -⟩ | ⟨a', -⟩
      · exact absurd (a.symm.trans a') (by decide)
      · exact absurd (a.symm.trans a') (by decide)
      · exact wf_uniq hnf fu fu' kn _ _ _ b b'
      all_goals exact absurd (a.symm.trans a') (by decide)
    · rcases h' with ⟨a', -⟩ | ⟨a', -⟩ | ⟨a', -⟩ | ⟨a', -, m', b', c'⟩ | ⟨a', -⟩ | ⟨a', -⟩ | ⟨a', -⟩
      · exact absurd (a.symm.trans a') (by decide)
      · exact absurd (a.symm.trans a') (by decide)
      · exact absurd (a.symm.trans a') (by decide)
      · have e := wf_uniq hnf fu fu' kn _ _ _ b b'
        subst e
        exact wf_uniq hnf fu fu' (kn + 1) _ _ _ c c'
      all_goals exact absurd (a.symm.trans a') (by decide)
    · rcases h' with ⟨a', -⟩ | ⟨a', -⟩ | ⟨a', -⟩ | ⟨a', -⟩ | ⟨a', -, b'⟩ | ⟨a', -⟩ | ⟨a', -⟩
      · exact absurd (a.symm.trans a') (by decide)
      · exact absurd (a.symm.trans a') (by decide)
      · exact absurd (a.symm.trans a') (by decide)
      · exact absurd (a.symm.trans a') (by decide)
      · exact wf_uniq hnf fu fu' kn _ _ _ b b'
      all_goals exact absurd (a.symm.trans a') (by decide)
    · rcases h' with ⟨a', -⟩ | ⟨a', -⟩ | ⟨a', -⟩ | ⟨a', -⟩ | ⟨a', -⟩ | ⟨a', g', g1', g2', g3', -⟩ | ⟨a', -⟩
      · exact absurd (a.symm.trans a') (by decide)
      · exact absurd (a.symm.trans a') (by decide)
      · exact absurd (a.symm.trans a') (by decide)
      · exact absurd (a.symm.trans a') (by decide)
      · exact absurd (a.symm.trans a') (by decide)
      · have e := g1.symm.trans g1'
        have e1 := nI_clamp (n := g) (by omega)
        have e2 := nI_clamp (n := g') (by omega)
        rw [e] at e1
        have e3 : g = g' := by omega
        subst e3
        omega
      · exact absurd (a.symm.trans a') (by decide)
    · rcases h' with ⟨a', -⟩ | ⟨a', -⟩ | ⟨a', -⟩ | ⟨a', -⟩ | ⟨a', -⟩ | ⟨a', -⟩ | ⟨a', m', b', c'⟩
      · exact absurd (a.symm.trans a') (by decide)
      · exact absurd (a.symm.trans a') (by decide)
      · exact absurd (a.symm.trans a') (by decide)
      · exact absurd (a.symm.trans a') (by decide)
      · exact absurd (a.symm.trans a') (by decide)
      · exact absurd (a.symm.trans a') (by decide)
      · have e := wf_uniq hnf fu fu' kn _ _ _ b b'
        subst e
        exact wf_uniq hnf fu fu' (kn + 1) _ _ _ c c'
end TRN
section EVS
variable {wd : Nat → Int32} {tk : Nat → Nat} {nf : Nat} {En : Nat → Nat} {f p kn cl : Nat} {env : Nat → Nat} {st : List Fr}
theorem tv_0 (h : evO wd tk nf En f p env kn st cl) : geO wd tk nf En 0 st cl := by
  obtain ⟨fu, d, hw, hf, hs, hdf, hkf, henv⟩ := h
  exact ⟨d, hs, by omega, by omega⟩
theorem tv_1 (h : evO wd tk nf En f p env kn st cl) {v : Nat} (hv : v < kn) : geO wd tk nf En (env v) st cl := by
  obtain ⟨fu, d, hw, hf, hs, hdf, hkf, henv⟩ := h
  exact ⟨d, hs, by omega, henv v hv⟩
theorem tv_2 (h : evO wd tk nf En f p env kn st cl) (hk : wdF wd f p = 2) : evO wd tk nf En f (p + 1) env kn ((0, f, 0, env, kn) :: st) cl := by
  obtain ⟨fu, d, ⟨q, hw, hq⟩, hf, hs, hdf, hkf, henv⟩ := h
  obtain ⟨fu2, rfl, a1⟩ := wf_2 hw hk
  exact ⟨fu2, d + 1, ⟨q, a1, hq⟩, hf, ⟨hf, henv, by omega, Or.inr (Or.inl ⟨rfl, d, rfl, hs⟩)⟩, by omega, by omega, henv⟩
theorem tv_3a (h : evO wd tk nf En f p env kn st cl) (hk : wdF wd f p = 3) : evO wd tk nf En f (p + 2) env kn st cl := by
  obtain ⟨fu, d, ⟨q, hw, hq⟩, hf, hs, hdf, hkf, henv⟩ := h
  obtain ⟨fu2, m, rfl, a3, a4⟩ := wf_3 hw hk
  have l1 := wf_lt _ _ _ _ a4
  exact ⟨fu2, d, ⟨m, a3, by omega⟩, hf, hs, by omega, by omega, henv⟩
theorem tv_3b (h : evO wd tk nf En f p env kn st cl) (hk : wdF wd f p = 3) {v : Nat} (hv : v < kn) : evO wd tk nf En f (enF En f (p + 2)) (va_up env kn (env v - 1)) (kn + 1) st cl := by
  obtain ⟨fu, d, ⟨q, hw, hq⟩, hf, hs, hdf, hkf, henv⟩ := h
  obtain ⟨fu2, m, rfl, a3, a4⟩ := wf_3 hw hk
  have hm : enF En f (p + 2) = m := wf_end a3
  have h1 := henv v hv
  exact ⟨fu2, d, ⟨q, by rw [hm]; exact a4, hq⟩, hf, hs, by omega, by omega, env_up henv (by omega)⟩
theorem tv_4 (h : evO wd tk nf En f p env kn st cl) (hk : wdF wd f p = 4) : evO wd tk nf En f (p + 2) env kn st cl := by
  obtain ⟨fu, d, ⟨q, hw, hq⟩, hf, hs, hdf, hkf, henv⟩ := h
  obtain ⟨fu2, rfl, a1⟩ := wf_4 hw hk
  exact ⟨fu2, d, ⟨q, a1, hq⟩, hf, hs, by omega, by omega, henv⟩
theorem tv_5 (hnf : nf ≤ 4) (htk : ∀ g, g < 4 → tk g ≤ 3) (hb : ∀ g, g < nf → wfP wd tk nf En g 16 (tk g) 0) (h : evO wd tk nf En f p env kn st cl) {g : Nat} {vs : Nat → Nat} (hg : g < nf) (hvs : ∀ k, k < tk g → wdF wd f (p + 2 + k) = nI (vs k) ∧ vs k < kn) : evO wd tk nf En g 0 (fun k => env (vs k)) (tk g) ((2, f, 0, env, kn) :: st) (cl + 1) := by
  obtain ⟨fu, d, ⟨q, hw, hq⟩, hf, hs, hdf, hkf, henv⟩ := h
  have htg := htk g (by omega)
  have hcl := (stkO_len hs (by omega)).1
  exact ⟨16, 0, hb g hg, hg, ⟨hf, henv, by omega, Or.inl ⟨rfl, rfl, by omega, d, by omega, by rw [Nat.add_sub_cancel]; exact hs⟩⟩, by omega, by omega, fun i hi => henv _ (hvs i hi).2⟩
theorem tv_6 (h : evO wd tk nf En f p env kn st cl) (hk : wdF wd f p = 6) : evO wd tk nf En f (p + 1) env kn ((1, f, enF En f (p + 1), env, kn) :: st) cl := by
  obtain ⟨fu, d, ⟨q, hw, hq⟩, hf, hs, hdf, hkf, henv⟩ := h
  obtain ⟨fu2, m, rfl, a3, a4⟩ := wf_6 hw hk
  have l1 := wf_lt _ _ _ _ a4
  have hm : enF En f (p + 1) = m := wf_end a3
  exact ⟨fu2, d + 1, ⟨m, a3, by omega⟩, hf, ⟨hf, henv, by omega, Or.inr (Or.inr ⟨rfl, d, rfl, hs, fu2, ⟨q, by rw [hm]; exact a4, hq⟩, by omega, by omega⟩)⟩, by omega, by omega, henv⟩
theorem tv_p3 (h : evO wd tk nf En f p env kn st cl) (hk : wdF wd f p = 3) : ∃ fu, wf (wdF wd f) tk nf (enF En f) fu kn (p + 2) (enF En f (p + 2)) := by
  obtain ⟨fu, d, ⟨q, hw, hq⟩, hf, hs, hdf, hkf, henv⟩ := h
  obtain ⟨fu2, m, rfl, a3, a4⟩ := wf_3 hw hk
  have hm : enF En f (p + 2) = m := wf_end a3
  exact ⟨fu2, by rw [hm]; exact a3⟩
theorem tv_p6 (h : evO wd tk nf En f p env kn st cl) (hk : wdF wd f p = 6) : ∃ fu, wf (wdF wd f) tk nf (enF En f) fu kn (p + 1) (enF En f (p + 1)) := by
  obtain ⟨fu, d, ⟨q, hw, hq⟩, hf, hs, hdf, hkf, henv⟩ := h
  obtain ⟨fu2, m, rfl, a3, a4⟩ := wf_6 hw hk
  have hm : enF En f (p + 1) = m := wf_end a3
  exact ⟨fu2, by rw [hm]; exact a3⟩
variable {v g a kn2 : Nat} {env2 : Nat → Nat}
theorem tg_0 (h : geO wd tk nf En v ((0, g, a, env2, kn2) :: st) cl) (hv : v < 30000) : geO wd tk nf En (v + 1) st cl := by
  obtain ⟨d, ⟨k1, k2, k3, hs⟩, hd, -⟩ := h
  rcases hs with ⟨q, -⟩ | ⟨-, d2, h1, h4⟩ | ⟨q, -⟩
  · exact absurd q (by decide)
  · exact ⟨d2, h4, by omega, by omega⟩
  · exact absurd q (by decide)
theorem tg_1 (h : geO wd tk nf En v ((1, g, a, env2, kn2) :: st) cl) : evO wd tk nf En g a (va_up env2 kn2 v) (kn2 + 1) st cl := by
  obtain ⟨d, ⟨k1, k2, k3, hs⟩, hd, hv⟩ := h
  rcases hs with ⟨q, -⟩ | ⟨q, -⟩ | ⟨-, d2, h1, h4, fu, h5, h6, h7⟩
  · exact absurd q (by decide)
  · exact absurd q (by decide)
  · exact ⟨fu, d2, h5, k1, h4, h6, h7, env_up k2 hv⟩
theorem tg_2 (h : geO wd tk nf En v ((2, g, a, env2, kn2) :: st) cl) : geO wd tk nf En v st (cl - 1) := by
  obtain ⟨d, ⟨k1, k2, k3, hs⟩, hd, hv⟩ := h
  rcases hs with ⟨-, h1, h2, d2, h3, h4⟩ | ⟨q, -⟩ | ⟨q, -⟩
  · exact ⟨d2, h4, h3, hv⟩
  · exact absurd q (by decide)
  · exact absurd q (by decide)
end EVS
/-- a run by one table of ends is a run by another -/
theorem rl_trans {wd : Nat → Int32} {tk : Nat → Nat} {nf : Nat} {En En2 : Nat → Nat} (hnf : nf ≤ 4) (htk : ∀ g, g < 4 → tk g ≤ 3) (hb : ∀ g, g < nf → wfP wd tk nf En g 16 (tk g) 0) (hb2 : ∀ g, g < nf → wfP wd tk nf En2 g 16 (tk g) 0) {v : Option Nat} {f p : Nat} {env : Nat → Nat} {kn : Nat} {st : List Fr} {stp cst cl : Nat} {r : Ro} (h : RL wd tk nf En v f p env kn st stp cst cl r) (h1 : rsI wd tk nf En f p env kn st cl v) (h2 : rsI wd tk nf En2 f p env kn st cl v) : RL wd tk nf En2 v f p env kn st stp cst cl r := by
  refine h (fun v f p env kn st stp cst cl r => rsI wd tk nf En f p env kn st cl v → rsI wd tk nf En2 f p env kn st cl v → RL wd tk nf En2 v f p env kn st stp cst cl r) ?_ h1 h2
  refine ⟨?_, ?_, ?_, ?_, ?_, ?_, ?_, ?_, ?_, ?_, ?_, ?_, ?_, ?_, ?_⟩
  · intro f p env kn st cst cl _ _ P hP
    exact hP.1 f p env kn st cst cl
  · intro f p env kn st stp cst cl r hlt a0 ih i1 i2 P hP
    exact hP.2.1 f p env kn st stp cst cl r hlt a0 (ih (tv_0 i1) (tv_0 i2) P hP)
  · intro f p env kn st stp cst cl r v hlt a0 a1 a2 ih i1 i2 P hP
    exact hP.2.2.1 f p env kn st stp cst cl r v hlt a0 a1 a2 (ih (tv_1 i1 a2) (tv_1 i2 a2) P hP)
  · intro f p env kn st stp cst cl r hlt a0 ih i1 i2 P hP
    exact hP.2.2.2.1 f p env kn st stp cst cl r hlt a0 (ih (tv_2 i1 a0) (tv_2 i2 a0) P hP)
  · intro f p env kn st stp cst cl r v hlt a0 a1 a2 z ih i1 i2 P hP
    exact hP.2.2.2.2.1 f p env kn st stp cst cl r v hlt a0 a1 a2 z (ih (tv_3a i1 a0) (tv_3a i2 a0) P hP)
  · intro f p env kn st stp cst cl r v hlt a0 a1 a2 z ih i1 i2 P hP
    obtain ⟨m1, k1⟩ := tv_p3 i1 a0
    obtain ⟨m2, k2⟩ := tv_p3 i2 a0
    have e := wf_uniq hnf _ _ _ _ _ _ k1 k2
    refine hP.2.2.2.2.2.1 f p env kn st stp cst cl r v hlt a0 a1 a2 z ?_
    have i4 := tv_3b i2 a0 a2
    rw [← e] at i4 ⊢
    exact ih (tv_3b i1 a0 a2) i4 P hP
  · intro f p env kn st stp cst cl r v hlt a0 a1 a2 ih i1 i2 P hP
    exact hP.2.2.2.2.2.2.1 f p env kn st stp cst cl r v hlt a0 a1 a2 (ih (tv_4 i1 a0) (tv_4 i2 a0) P hP)
  · intro f p env kn st stp cst g vs hlt a0 a1 a2 hvs _ _ P hP
    exact hP.2.2.2.2.2.2.2.1 f p env kn st stp cst g vs hlt a0 a1 a2 hvs
  · intro f p env kn st stp cst cl r g vs hlt a0 a1 a2 hvs hcl ih i1 i2 P hP
    exact hP.2.2.2.2.2.2.2.2.1 f p env kn st stp cst cl r g vs hlt a0 a1 a2 hvs hcl (ih (tv_5 hnf htk hb i1 a2 hvs) (tv_5 hnf htk hb2 i2 a2 hvs) P hP)
  · intro f p env kn st stp cst cl r hlt a0 ih i1 i2 P hP
    obtain ⟨m1, k1⟩ := tv_p6 i1 a0
    obtain ⟨m2, k2⟩ := tv_p6 i2 a0
    have e := wf_uniq hnf _ _ _ _ _ _ k1 k2
    refine hP.2.2.2.2.2.2.2.2.2.1 f p env kn st stp cst cl r hlt a0 ?_
    have i4 := tv_6 i2 a0
    rw [← e] at i4 ⊢
    exact ih (tv_6 i1 a0) i4 P hP
  · intro v f p env kn stp cst cl _ _ P hP
    exact hP.2.2.2.2.2.2.2.2.2.2.1 v f p env kn stp cst cl
  · intro f p env kn g a env2 kn2 st stp cst cl _ _ P hP
    exact hP.2.2.2.2.2.2.2.2.2.2.2.1 f p env kn g a env2 kn2 st stp cst cl
  · intro v f p env kn g a env2 kn2 st stp cst cl r hv ih i1 i2 P hP
    exact hP.2.2.2.2.2.2.2.2.2.2.2.2.1 v f p env kn g a env2 kn2 st stp cst cl r hv (ih (tg_0 i1 hv) (tg_0 i2 hv) P hP)
  · intro v f p env kn g a env2 kn2 st stp cst cl r ih i1 i2 P hP
    exact hP.2.2.2.2.2.2.2.2.2.2.2.2.2.1 v f p env kn g a env2 kn2 st stp cst cl r (ih (tg_1 i1) (tg_1 i2) P hP)
  · intro v f p env kn g a env2 kn2 st stp cst cl r ih i1 i2 P hP
    exact hP.2.2.2.2.2.2.2.2.2.2.2.2.2.2 v f p env kn g a env2 kn2 st stp cst cl r (ih (tg_2 i1) (tg_2 i2) P hP)
theorem al_bad {t j : Nat} {a b c : Int32} (hj : j < t) (ht : t ≤ 3) (h : (if j = 0 then a else if j = 1 then b else c) < 0 ∨ ¬ (if j = 0 then a else if j = 1 then b else c) ≤ 3000) : alN t a b c = 0 := by
  have h0 : ∀ x : Int32, x < 0 ∨ ¬ x ≤ 3000 → ¬ lnI x = 1 := fun x hx q => by
    unfold lnI at q
    rw [if_pos (hx.elim Or.inl (fun w => Or.inr (Int32.not_le.mp w)))] at q
    exact absurd q (by decide)
  have h1 := h0 _ h
  unfold alN
  refine if_neg (fun q => h1 ?_)
  rcases (show j = 0 ∨ j = 1 ∨ j = 2 by omega) with rfl | rfl | rfl
  · exact q.1.resolve_left (by omega)
  · exact q.2.1.resolve_left (by omega)
  · exact q.2.2.resolve_left (by omega)
theorem al_ok {t : Nat} {a b c : Int32} (h : ∀ j, j < t → ¬ (if j = 0 then a else if j = 1 then b else c) < 0 ∧ (if j = 0 then a else if j = 1 then b else c) ≤ 3000) : alN t a b c = 1 := by
  have h0 : ∀ x : Int32, ¬ x < 0 ∧ x ≤ 3000 → lnI x = 1 := fun x hx => by
    unfold lnI
    exact if_neg (fun q => q.elim hx.1 (fun w => absurd hx.2 (Int32.not_le.mpr w)))
  unfold alN
  refine if_pos ⟨?_, ?_, ?_⟩
  · rcases Nat.lt_or_ge t 1 with q | q
    · exact Or.inl q
    · exact Or.inr (h0 _ (h 0 (by omega)))
  · rcases Nat.lt_or_ge t 2 with q | q
    · exact Or.inl q
    · exact Or.inr (h0 _ (h 1 (by omega)))
  · rcases Nat.lt_or_ge t 3 with q | q
    · exact Or.inl q
    · exact Or.inr (h0 _ (h 2 (by omega)))
