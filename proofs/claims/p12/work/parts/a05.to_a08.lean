section
section RUN3
variable {wd : Nat → Int32} {tk : Nat → Nat} {nf : Nat} {En : Nat → Nat}
/-- how a run goes on -/
def rlI (wd : Nat → Int32) (tk : Nat → Nat) (nf : Nat) (En : Nat → Nat) : Option Nat → Nat → Nat → (Nat → Nat) → Nat → List Fr → Nat → Nat → Nat → Ro → Prop
  | none, f, p, env, kn, st, stp, cst, cl, r => (stp = 20000 ∧ r = (true, 0, cst, 20000)) ∨ (stp < 20000 ∧ ((wdF wd f p = 0 ∧ RL wd tk nf En (some 0) f p env kn st (stp + 1) cst cl r)
    ∨ (∃ v, wdF wd f p = 1 ∧ wdF wd f (p + 1) = nI v ∧ v < kn ∧ RL wd tk nf En (some (env v)) f p env kn st (stp + 1) cst cl r)
    ∨ (wdF wd f p = 2 ∧ RL wd tk nf En none f (p + 1) env kn ((0, f, 0, env, kn) :: st) (stp + 1) cst cl r)
    ∨ (∃ v, wdF wd f p = 3 ∧ wdF wd f (p + 1) = nI v ∧ v < kn ∧ env v = 0 ∧ RL wd tk nf En none f (p + 2) env kn st (stp + 1) cst cl r)
    ∨ (∃ v, wdF wd f p = 3 ∧ wdF wd f (p + 1) = nI v ∧ v < kn ∧ 0 < env v ∧ RL wd tk nf En none f (enF En f (p + 2)) (va_up env kn (env v - 1)) (kn + 1) st (stp + 1) cst cl r)
    ∨ (∃ v, wdF wd f p = 4 ∧ wdF wd f (p + 1) = nI v ∧ v ≤ 1000 ∧ RL wd tk nf En none f (p + 2) env kn st (stp + 1) (cst + v) cl r)
    ∨ (∃ (g : Nat) (vs : Nat → Nat), wdF wd f p = 5 ∧ wdF wd f (p + 1) = nI g ∧ g < nf ∧ (∀ k, k < tk g → wdF wd f (p + 2 + k) = nI (vs k) ∧ vs k < kn) ∧ ((cl = 60 ∧ r = (true, 0, cst, stp + 1)) ∨ (cl < 60 ∧ RL wd tk nf En none g 0 (fun k => env (vs k)) (tk g) ((2, f, 0, env, kn) :: st) (stp + 1) cst (cl + 1) r)))
    ∨ (wdF wd f p = 6 ∧ RL wd tk nf En none f (p + 1) env kn ((1, f, enF En f (p + 1), env, kn) :: st) (stp + 1) cst cl r)))
  | some v, _, _, _, _, [], stp, cst, _, r => r = (false, v, cst, stp)
  | some v, _, _, _, _, (kd, g, a, env2, kn2) :: st, stp, cst, cl, r => (kd = 0 ∧ v = 30000 ∧ r = (true, 0, cst, stp)) ∨ (kd = 0 ∧ v < 30000 ∧ RL wd tk nf En (some (v + 1)) g a env2 kn2 st stp cst cl r)
    ∨ (kd = 1 ∧ RL wd tk nf En none g a (va_up env2 kn2 v) (kn2 + 1) st stp cst cl r) ∨ (kd = 2 ∧ RL wd tk nf En (some v) g a env2 kn2 st stp cst (cl - 1) r)
theorem rl_inv {v : Option Nat} {f p : Nat} {env : Nat → Nat} {kn : Nat} {st : List Fr} {stp cst cl : Nat} {r : Ro} (h : RL wd tk nf En v f p env kn st stp cst cl r) : rlI wd tk nf En v f p env kn st stp cst cl r := by
  refine (h (fun v f p env kn st stp cst cl r => RL wd tk nf En v f p env kn st stp cst cl r ∧ rlI wd tk nf En v f p env kn st stp cst cl r) ⟨?_, ?_, ?_, ?_, ?_, ?_, ?_, ?_, ?_, ?_, ?_, ?_, ?_, ?_, ?_⟩).2
  · exact fun f p env kn st cst cl => ⟨fun P hP => hP.1 f p env kn st cst cl, Or.inl ⟨rfl, rfl⟩⟩
  · exact fun f p env kn st stp cst cl r h1 h2 h3 => ⟨fun P hP => hP.2.1 f p env kn st stp cst cl r h1 h2 (h3.1 P hP), Or.inr ⟨h1, Or.inl ⟨h2, h3.1⟩⟩⟩
  · exact fun f p env kn st stp cst cl r v h1 h2 h3 h4 h5 => ⟨fun P hP => hP.2.2.1 f p env kn st stp cst cl r v h1 h2 h3 h4 (h5.1 P hP), Or.inr ⟨h1, Or.inr (Or.inl ⟨v, h2, h3, h4, h5.1⟩)⟩⟩
  · exact fun f p env kn st stp cst cl r h1 h2 h3 => ⟨fun P hP => hP.2.2.2.1 f p env kn st stp cst cl r h1 h2 (h3.1 P hP), Or.inr ⟨h1, Or.inr (Or.inr (Or.inl ⟨h2, h3.1⟩))⟩⟩
  · exact fun f p env kn st stp cst cl r v h1 h2 h3 h4 h5 h6 => ⟨fun P hP => hP.2.2.2.2.1 f p env kn st stp cst cl r v h1 h2 h3 h4 h5 (h6.1 P hP), Or.inr ⟨h1, Or.inr (Or.inr (Or.inr (Or.inl ⟨v, h2, h3, h4, h5, h6.1⟩)))⟩⟩
  · exact fun f p env kn st stp cst cl r v h1 h2 h3 h4 h5 h6 => ⟨fun P hP => hP.2.2.2.2.2.1 f p env kn st stp cst cl r v h1 h2 h3 h4 h5 (h6.1 P hP), Or.inr ⟨h1, Or.inr (Or.inr (Or.inr (Or.inr (Or.inl ⟨v, h2, h3, h4, h5, h6.1⟩))))⟩⟩
  · exact fun f p env kn st stp cst cl r v h1 h2 h3 h4 h5 => ⟨fun P hP => hP.2.2.2.2.2.2.1 f p env kn st stp cst cl r v h1 h2 h3 h4 (h5.1 P hP), Or.inr ⟨h1, Or.inr (Or.inr (Or.inr (Or.inr (Or.inr (Or.inl ⟨v, h2, h3, h4, h5.1⟩)))))⟩⟩
  · exact fun f p env kn st stp cst g vs h1 h2 h3 h4 h5 => ⟨fun P hP => hP.2.2.2.2.2.2.2.1 f p env kn st stp cst g vs h1 h2 h3 h4 h5, Or.inr ⟨h1, Or.inr (Or.inr (Or.inr (Or.inr (Or.inr (Or.inr (Or.inl ⟨g, vs, h2, h3, h4, h5, Or.inl ⟨rfl, rfl⟩⟩))))))⟩⟩
  · exact fun f p env kn st stp cst cl r g vs h1 h2 h3 h4 h5 h6 h7 => ⟨fun P hP => hP.2.2.2.2.2.2.2.2.1 f p env kn st stp cst cl r g vs h1 h2 h3 h4 h5 h6 (h7.1 P hP), Or.inr ⟨h1, Or.inr (Or.inr (Or.inr (Or.inr (Or.inr (Or.inr (Or.inl ⟨g, vs, h2, h3, h4, h5, Or.inr ⟨h6, h7.1⟩⟩))))))⟩⟩
  · exact fun f p env kn st stp cst cl r h1 h2 h3 => ⟨fun P hP => hP.2.2.2.2.2.2.2.2.2.1 f p env kn st stp cst cl r h1 h2 (h3.1 P hP), Or.inr ⟨h1, Or.inr (Or.inr (Or.inr (Or.inr (Or.inr (Or.inr (Or.inr ⟨h2, h3.1⟩))))))⟩⟩
  · exact fun v f p env kn stp cst cl => ⟨fun P hP => hP.2.2.2.2.2.2.2.2.2.2.1 v f p env kn stp cst cl, rfl⟩
  · exact fun f p env kn g a env2 kn2 st stp cst cl => ⟨fun P hP => hP.2.2.2.2.2.2.2.2.2.2.2.1 f p env kn g a env2 kn2 st stp cst cl, Or.inl ⟨rfl, rfl, rfl⟩⟩
  · exact fun v f p env kn g a env2 kn2 st stp cst cl r h1 h2 => ⟨fun P hP => hP.2.2.2.2.2.2.2.2.2.2.2.2.1 v f p env kn g a env2 kn2 st stp cst cl r h1 (h2.1 P hP), Or.inr (Or.inl ⟨rfl, h1, h2.1⟩)⟩
  · exact fun v f p env kn g a env2 kn2 st stp cst cl r h2 => ⟨fun P hP => hP.2.2.2.2.2.2.2.2.2.2.2.2.2.1 v f p env kn g a env2 kn2 st stp cst cl r (h2.1 P hP), Or.inr (Or.inr (Or.inl ⟨rfl, h2.1⟩))⟩
  · exact fun v f p env kn g a env2 kn2 st stp cst cl r h2 => ⟨fun P hP => hP.2.2.2.2.2.2.2.2.2.2.2.2.2.2 v f p env kn g a env2 kn2 st stp cst cl r (h2.1 P hP), Or.inr (Or.inr (Or.inr ⟨rfl, h2.1⟩))⟩
end RUN3
section REP
variable {wd : Nat → Int32} {tk : Nat → Nat} {nf : Nat} {En : Nat → Nat} {ta : Nat → Nat → Nat → Nat}
/-- node x of function f, by the class's tables -/
def ntF (wd : Nat → Int32) (tk : Nat → Nat) (ta : Nat → Nat → Nat → Nat) (f fu kn p q x y : Nat) : Prop := ntT (wdF wd f) tk (ta f 0) (ta f 1) (ta f 2) (ta f 3) (ta f 4) fu kn p q x y
/-- what waits, as the class keeps it: c calls, w nodes that wait, d of them in the last call, which is of f and knows kn -/
def repO (wd : Nat → Int32) (tk : Nat → Nat) (nf : Nat) (En : Nat → Nat) (ta : Nat → Nat → Nat → Nat) (CA WB WT LN : Nat → Nat) : List Fr → Nat → Nat → Nat → Nat → Nat → Prop
  | [], c, w, d, f, _ => c = 1 ∧ w = 0 ∧ d = 0 ∧ WB 0 = 0 ∧ CA 0 = f
  | (kd, g, a, env, kn2) :: st, c, w, d, f, kn => g < nf ∧ (∀ i, i < kn2 → env i ≤ 30000) ∧ kn2 ≤ 18 ∧ CA (c - 1) = f ∧
    ((kd = 2 ∧ d = 0 ∧ 2 ≤ c ∧ WB (c - 1) = w ∧ (∀ i, i < kn2 → LN (18 * (c - 2) + i) = env i) ∧ ∃ d2, d2 ≤ 16 ∧ repO wd tk nf En ta CA WB WT LN st (c - 1) w d2 g kn2)
    ∨ (kd = 0 ∧ g = f ∧ kn2 ≤ kn ∧ ∃ d2 w2, d = d2 + 1 ∧ w = w2 + 1 ∧ WT w2 < 40 ∧ ta f 0 (WT w2) < 200 ∧ wdF wd f (ta f 0 (WT w2)) = 2 ∧ repO wd tk nf En ta CA WB WT LN st c w2 d2 f kn2)
    ∨ (kd = 1 ∧ g = f ∧ kn2 ≤ kn ∧ (∀ i, i < kn2 → LN (18 * (c - 1) + i) = env i) ∧ ∃ d2 w2, d = d2 + 1 ∧ w = w2 + 1 ∧ repO wd tk nf En ta CA WB WT LN st c w2 d2 f kn2 ∧ WT w2 < 40 ∧ ta f 0 (WT w2) < 200 ∧ wdF wd f (ta f 0 (WT w2)) = 6 ∧ ta f 3 (WT w2) = kn2
      ∧ ∃ fu q y, wf (wdF wd f) tk nf (enF En f) fu (kn2 + 1) a q ∧ q ≤ 200 ∧ y ≤ 40 ∧ ntF wd tk ta f fu (kn2 + 1) a q (ta f 2 (WT w2)) y ∧ d2 + fu ≤ 16 ∧ kn2 + 1 + fu ≤ 19))
theorem rep_w {CA WB WT LN : Nat → Nat} : ∀ {st : List Fr} {c w d f kn : Nat}, repO wd tk nf En ta CA WB WT LN st c w d f kn → d ≤ 16 → 1 ≤ c ∧ w ≤ 16 * (c - 1) + d ∧ w = WB (c - 1) + d ∧ CA (c - 1) = f ∧ st.length ≤ 17 * (c - 1) + d
  | [], c, w, d, f, kn, h, _ => by
    obtain ⟨h1, h2, h3, h4, h5⟩ := h
    subst h1; subst h2; subst h3
    exact ⟨Nat.le_refl _, Nat.zero_le _, by rw [h4], h5, Nat.zero_le _⟩
  | (kd, g, a, env, kn2) :: st, c, w, d, f, kn, h, hd => by
    obtain ⟨-, -, -, hc, h | h | h⟩ := h
    · obtain ⟨-, h1, h2, h3, -, d2, h4, h5⟩ := h
      have i := rep_w h5 h4
      refine ⟨by omega, by omega, by omega, hc, ?_⟩
      simp only [List.length_cons]
      omega
    · obtain ⟨-, h1, -, d2, w2, h2, h3, -, -, -, h5⟩ := h
      have i := rep_w h5 (by omega)
      refine ⟨by omega, by omega, by omega, hc, ?_⟩
      simp only [List.length_cons]
      omega
    · obtain ⟨-, h1, -, -, d2, w2, h2, h3, h5, -⟩ := h
      have i := rep_w h5 (by omega)
      refine ⟨by omega, by omega, by omega, hc, ?_⟩
      simp only [List.length_cons]
      omega
theorem rep_keep {CA WB WT LN CA' WB' WT' LN' : Nat → Nat} : ∀ {st : List Fr} {c w d f kn kn' : Nat}, d ≤ 16 → kn ≤ kn' → (∀ i, i < c → CA' i = CA i) → (∀ i, i < c → WB' i = WB i) → (∀ i, i < w → WT' i = WT i) → (∀ i, i < 18 * (c - 1) + kn → LN' i = LN i) → repO wd tk nf En ta CA WB WT LN st c w d f kn → repO wd tk nf En ta CA' WB' WT' LN' st c w d f kn'
  | [], c, w, d, f, kn, kn', _, _, a1, a2, _, _, h => by
    obtain ⟨h1, h2, h3, h4, h5⟩ := h
    exact ⟨h1, h2, h3, (a2 0 (by omega)).trans h4, (a1 0 (by omega)).trans h5⟩
  | (kd, g, a, env, kn2) :: st, c, w, d, f, kn, kn', hd, hk, a1, a2, a3, a4, h => by
    have hc := (rep_w h hd).1
    obtain ⟨b1, b2, b3, b4, h | h | h⟩ := h
    · obtain ⟨h0, h1, h2, h3, h4, d2, h5, h6⟩ := h
      exact ⟨b1, b2, b3, (a1 _ (by omega)).trans b4, Or.inl ⟨h0, h1, h2, (a2 _ (by omega)).trans h3, fun i hi => (a4 _ (by omega)).trans (h4 i hi), d2, h5, rep_keep h5 (Nat.le_refl _) (fun i hi => a1 i (by omega)) (fun i hi => a2 i (by omega)) a3 (fun i hi => a4 i (by omega)) h6⟩⟩
    · obtain ⟨h0, h1, h2, d2, w2, h3, h4, h5, h6, h7, h8⟩ := h
      have e := a3 w2 (by omega)
      exact ⟨b1, b2, b3, (a1 _ (by omega)).trans b4, Or.inr (Or.inl ⟨h0, h1, by omega, d2, w2, h3, h4, by rw [e]; exact h5, by rw [e]; exact h6, by rw [e]; exact h7, rep_keep (by omega) (Nat.le_refl _) a1 a2 (fun i hi => a3 i (by omega)) (fun i hi => a4 i (by omega)) h8⟩)⟩
    · obtain ⟨h0, h1, h2, h3, d2, w2, h4, h5, h6, h7, h8, h9, h10, fu, q, y, k1, k2, k3, k4, k5, k6⟩ := h
      have e := a3 w2 (by omega)
      exact ⟨b1, b2, b3, (a1 _ (by omega)).trans b4, Or.inr (Or.inr ⟨h0, h1, by omega, fun i hi => (a4 _ (by omega)).trans (h3 i hi), d2, w2, h4, h5, rep_keep (by omega) (Nat.le_refl _) a1 a2 (fun i hi => a3 i (by omega)) (fun i hi => a4 i (by omega)) h6, by rw [e]; exact h7, by rw [e]; exact h8, by rw [e]; exact h9, by rw [e]; exact h10, fu, q, y, k1, k2, k3, by rw [e]; exact k4, k5, k6⟩)⟩
/-- a state that begins a node, and one that gives -/
def evR (wd : Nat → Int32) (tk : Nat → Nat) (nf : Nat) (En : Nat → Nat) (ta : Nat → Nat → Nat → Nat) (CA WB WT LN : Nat → Nat) (x f p : Nat) (env : Nat → Nat) (kn : Nat) (st : List Fr) (c w : Nat) : Prop :=
  ∃ fu d q y, wf (wdF wd f) tk nf (enF En f) fu kn p q ∧ q ≤ 200 ∧ y ≤ 40 ∧ ntF wd tk ta f fu kn p q x y ∧ f < nf ∧ repO wd tk nf En ta CA WB WT LN st c w d f kn ∧ d + fu ≤ 16 ∧ kn + fu ≤ 19 ∧ (∀ i, i < kn → env i ≤ 30000) ∧ (∀ i, i < kn → LN (18 * (c - 1) + i) = env i)
def geR (wd : Nat → Int32) (tk : Nat → Nat) (nf : Nat) (En : Nat → Nat) (ta : Nat → Nat → Nat → Nat) (CA WB WT LN : Nat → Nat) (v f kn : Nat) (st : List Fr) (c w : Nat) : Prop :=
  ∃ d, repO wd tk nf En ta CA WB WT LN st c w d f kn ∧ d ≤ 16 ∧ v ≤ 30000 ∧ f < nf ∧ kn ≤ 18
end REP
section REP2
variable {wd : Nat → Int32} {tk : Nat → Nat} {nf : Nat} {En : Nat → Nat} {ta : Nat → Nat → Nat → Nat} {CA WB WT LN : Nat → Nat}
theorem wf_k0 {W : Nat → Int32} {tk E : Nat → Nat} {nf fu kn p q : Nat} (hk : W p = 0) (h : wf W tk nf E (fu + 1) kn p q) : q = p + 1 := by
  obtain ⟨-, h⟩ := h
  rcases h with h | h | h | h | h | h | h
  · exact h.2
  · exact absurd (hk.symm.trans h.1) (by decide)
  · exact absurd (hk.symm.trans h.1) (by decide)
  · exact absurd (hk.symm.trans h.1) (by decide)
  · exact absurd (hk.symm.trans h.1) (by decide)
  · exact absurd (hk.symm.trans h.1) (by decide)
  · exact absurd (hk.symm.trans h.1) (by decide)
theorem wf_k1 {W : Nat → Int32} {tk E : Nat → Nat} {nf fu kn p q : Nat} (hk : W p = 1) (h : wf W tk nf E (fu + 1) kn p q) : q = p + 2 := by
  obtain ⟨-, h⟩ := h
  rcases h with h | h | h | h | h | h | h
  · exact absurd (hk.symm.trans h.1) (by decide)
  · exact h.2.2
  · exact absurd (hk.symm.trans h.1) (by decide)
  · exact absurd (hk.symm.trans h.1) (by decide)
  · exact absurd (hk.symm.trans h.1) (by decide)
  · exact absurd (hk.symm.trans h.1) (by decide)
  · exact absurd (hk.symm.trans h.1) (by decide)
theorem wf_k2 {W : Nat → Int32} {tk E : Nat → Nat} {nf fu kn p q : Nat} (hk : W p = 2) (h : wf W tk nf E (fu + 1) kn p q) : wf W tk nf E fu kn (p + 1) q := by
  obtain ⟨-, h⟩ := h
  rcases h with h | h | h | h | h | h | h
  · exact absurd (hk.symm.trans h.1) (by decide)
  · exact absurd (hk.symm.trans h.1) (by decide)
  · exact h.2
  · exact absurd (hk.symm.trans h.1) (by decide)
  · exact absurd (hk.symm.trans h.1) (by decide)
  · exact absurd (hk.symm.trans h.1) (by decide)
  · exact absurd (hk.symm.trans h.1) (by decide)
theorem wf_k3 {W : Nat → Int32} {tk E : Nat → Nat} {nf fu kn p q : Nat} (hk : W p = 3) (h : wf W tk nf E (fu + 1) kn p q) : ∃ m, wf W tk nf E fu kn (p + 2) m ∧ wf W tk nf E fu (kn + 1) m q := by
  obtain ⟨-, h⟩ := h
  rcases h with h | h | h | h | h | h | h
  · exact absurd (hk.symm.trans h.1) (by decide)
  · exact absurd (hk.symm.trans h.1) (by decide)
  · exact absurd (hk.symm.trans h.1) (by decide)
  · exact h.2.2
  · exact absurd (hk.symm.trans h.1) (by decide)
  · exact absurd (hk.symm.trans h.1) (by decide)
  · exact absurd (hk.symm.trans h.1) (by decide)
theorem wf_k4 {W : Nat → Int32} {tk E : Nat → Nat} {nf fu kn p q : Nat} (hk : W p = 4) (h : wf W tk nf E (fu + 1) kn p q) : wf W tk nf E fu kn (p + 2) q := by
  obtain ⟨-, h⟩ := h
  rcases h with h | h | h | h | h | h | h
  · exact absurd (hk.symm.trans h.1) (by decide)
  · exact absurd (hk.symm.trans h.1) (by decide)
  · exact absurd (hk.symm.trans h.1) (by decide)
  · exact absurd (hk.symm.trans h.1) (by decide)
  · exact h.2.2
  · exact absurd (hk.symm.trans h.1) (by decide)
  · exact absurd (hk.symm.trans h.1) (by decide)
theorem wf_k5 {W : Nat → Int32} {tk E : Nat → Nat} {nf fu kn p q : Nat} (hk : W p = 5) (h : wf W tk nf E (fu + 1) kn p q) : ∃ g, W (p + 1) = nI g ∧ g < nf ∧ q = p + 2 + tk g := by
  obtain ⟨-, h⟩ := h
  rcases h with h | h | h | h | h | h | h
  · exact absurd (hk.symm.trans h.1) (by decide)
  · exact absurd (hk.symm.trans h.1) (by decide)
  · exact absurd (hk.symm.trans h.1) (by decide)
  · exact absurd (hk.symm.trans h.1) (by decide)
  · exact absurd (hk.symm.trans h.1) (by decide)
  · exact (by obtain ⟨-, g, a, b, c, -⟩ := h; exact ⟨g, a, b, c⟩)
  · exact absurd (hk.symm.trans h.1) (by decide)
theorem wf_k6 {W : Nat → Int32} {tk E : Nat → Nat} {nf fu kn p q : Nat} (hk : W p = 6) (h : wf W tk nf E (fu + 1) kn p q) : ∃ m, wf W tk nf E fu kn (p + 1) m ∧ wf W tk nf E fu (kn + 1) m q := by
  obtain ⟨-, h⟩ := h
  rcases h with h | h | h | h | h | h | h
  · exact absurd (hk.symm.trans h.1) (by decide)
  · exact absurd (hk.symm.trans h.1) (by decide)
  · exact absurd (hk.symm.trans h.1) (by decide)
  · exact absurd (hk.symm.trans h.1) (by decide)
  · exact absurd (hk.symm.trans h.1) (by decide)
  · exact absurd (hk.symm.trans h.1) (by decide)
  · exact h.2
theorem ev_fu {x f p : Nat} {env : Nat → Nat} {kn : Nat} {st : List Fr} {c w : Nat} (h : evR wd tk nf En ta CA WB WT LN x f p env kn st c w) : ∃ fu d q y, wf (wdF wd f) tk nf (enF En f) (fu + 1) kn p q ∧ q ≤ 200 ∧ y ≤ 40 ∧ ntF wd tk ta f (fu + 1) kn p q x y ∧ f < nf ∧ repO wd tk nf En ta CA WB WT LN st c w d f kn ∧ d + fu + 1 ≤ 16 ∧ kn + fu + 1 ≤ 19 ∧ (∀ i, i < kn → env i ≤ 30000) ∧ (∀ i, i < kn → LN (18 * (c - 1) + i) = env i) := by
  obtain ⟨fu, d, q, y, h1, h2, h3, h4, h5, h6, h7, h8, h9, h10⟩ := h
  cases fu with
  | zero => exact h1.elim
  | succ fu => exact ⟨fu, d, q, y, h1, h2, h3, h4, h5, h6, by omega, by omega, h9, h10⟩
/-- what the class needs to know of the node that begins -/
theorem ev_node {x f p : Nat} {env : Nat → Nat} {kn : Nat} {st : List Fr} {c w : Nat} (h : evR wd tk nf En ta CA WB WT LN x f p env kn st c w) : x < 40 ∧ ta f 0 x = p ∧ ta f 3 x = kn ∧ p < 200 ∧ f < nf ∧ kn ≤ 18 ∧ 1 ≤ c ∧ w < 16 * (c - 1) + 16 ∧ CA (c - 1) = f ∧ ((wdF wd f p = 1 ∨ wdF wd f p = 3 ∨ wdF wd f p = 4 ∨ wdF wd f p = 5) → p + 1 < 200) := by
  obtain ⟨fu, d, q, y, h1, h2, h3, h4, h5, h6, h7, h8, h9, h10⟩ := ev_fu h
  have l := nt_lt h4
  have r := rep_w h6 (by omega)
  refine ⟨by omega, h4.1, h4.2.1, by omega, h5, by omega, r.1, by omega, r.2.2.2.1, fun hk => ?_⟩
  rcases hk with hk | hk | hk | hk
  · have := wf_k1 hk h1; omega
  · obtain ⟨m, a, b⟩ := wf_k3 hk h1
    have := wf_lt _ _ _ _ a
    have := wf_lt _ _ _ _ b
    omega
  · have := wf_lt _ _ _ _ (wf_k4 hk h1)
    omega
  · obtain ⟨g, -, -, b⟩ := wf_k5 hk h1
    omega
theorem ev_give {x f p : Nat} {env : Nat → Nat} {kn : Nat} {st : List Fr} {c w v : Nat} (hv : v ≤ 30000) (h : evR wd tk nf En ta CA WB WT LN x f p env kn st c w) : geR wd tk nf En ta CA WB WT LN v f kn st c w := by
  obtain ⟨fu, d, q, y, h1, h2, h3, h4, h5, h6, h7, h8, h9, h10⟩ := ev_fu h
  exact ⟨d, h6, by omega, hv, h5, by omega⟩
theorem ev_k1 {x f p : Nat} {env : Nat → Nat} {kn : Nat} {st : List Fr} {c w v : Nat} (hv : v < kn) (h : evR wd tk nf En ta CA WB WT LN x f p env kn st c w) : env v ≤ 30000 ∧ LN (18 * (c - 1) + v) = env v := by
  obtain ⟨fu, d, q, y, h1, h2, h3, h4, h5, h6, h7, h8, h9, h10⟩ := ev_fu h
  exact ⟨h9 v hv, h10 v hv⟩
theorem ev_k2 {x f p : Nat} {env : Nat → Nat} {kn : Nat} {st : List Fr} {c w : Nat} (hk : wdF wd f p = 2) (h : evR wd tk nf En ta CA WB WT LN x f p env kn st c w) : evR wd tk nf En ta CA WB (va_up WT w x) LN (ta f 1 x) f (p + 1) env kn ((0, f, 0, env, kn) :: st) c (w + 1) := by
  have hN := ev_node h
  obtain ⟨fu, d, q, y, h1, h2, h3, h4, h5, h6, h7, h8, h9, h10⟩ := ev_fu h
  obtain ⟨t1, t2⟩ := nt_one (Or.inl hk) h4
  rw [hd_1 (Or.inr (Or.inl hk))] at t2
  refine ⟨fu, d + 1, q, y, wf_k2 hk h1, h2, h3, by rw [t1]; exact t2, h5, ?_, by omega, by omega, h9, h10⟩
  refine ⟨h5, h9, hN.2.2.2.2.2.1, hN.2.2.2.2.2.2.2.2.1, Or.inr (Or.inl ⟨rfl, rfl, Nat.le_refl _, d, w, rfl, rfl, ?_, ?_, ?_, rep_keep (by omega) (Nat.le_refl _) (fun _ _ => rfl) (fun _ _ => rfl) (fun i hi => va_up_ne _ _ (by omega)) (fun _ _ => rfl) h6⟩)⟩
  · rw [va_up_self]; exact hN.1
  · rw [va_up_self, hN.2.1]; exact hN.2.2.2.1
  · rw [va_up_self, hN.2.1]; exact hk
theorem ev_k3z {x f p : Nat} {env : Nat → Nat} {kn : Nat} {st : List Fr} {c w : Nat} (hnf : nf ≤ 4) (hk : wdF wd f p = 3) (h : evR wd tk nf En ta CA WB WT LN x f p env kn st c w) : evR wd tk nf En ta CA WB WT LN (ta f 1 x) f (p + 2) env kn st c w := by
  obtain ⟨fu, d, q, y, h1, h2, h3, h4, h5, h6, h7, h8, h9, h10⟩ := ev_fu h
  obtain ⟨m, a, b⟩ := wf_k3 hk h1
  have e := wf_end a
  have l := wf_lt _ _ _ _ b
  obtain ⟨t1, t2, t3⟩ := nt_two (E := enF En f) hnf (Or.inl hk) (by rw [hd_2 (Or.inr (Or.inl hk)), e]; exact a) h4
  rw [hd_2 (Or.inr (Or.inl hk)), e] at t2 t3
  have l2 := nt_lt t3
  exact ⟨fu, d, m, ta f 2 x, a, by omega, by omega, by rw [t1]; exact t2, h5, h6, by omega, by omega, h9, h10⟩
theorem ev_k3s {x f p : Nat} {env : Nat → Nat} {kn : Nat} {st : List Fr} {c w v : Nat} (hnf : nf ≤ 4) (hk : wdF wd f p = 3) (hv : v < kn) (h : evR wd tk nf En ta CA WB WT LN x f p env kn st c w) : evR wd tk nf En ta CA WB WT (va_up LN (18 * (c - 1) + kn) (env v - 1)) (ta f 2 x) f (enF En f (p + 2)) (va_up env kn (env v - 1)) (kn + 1) st c w := by
  obtain ⟨fu, d, q, y, h1, h2, h3, h4, h5, h6, h7, h8, h9, h10⟩ := ev_fu h
  obtain ⟨m, a, b⟩ := wf_k3 hk h1
  have e := wf_end a
  obtain ⟨t1, t2, t3⟩ := nt_two (E := enF En f) hnf (Or.inl hk) (by rw [hd_2 (Or.inr (Or.inl hk)), e]; exact a) h4
  rw [hd_2 (Or.inr (Or.inl hk)), e] at t2 t3
  refine ⟨fu, d, q, y, by rw [e]; exact b, h2, h3, by rw [e]; exact t3, h5, rep_keep (by omega) (Nat.le_succ _) (fun _ _ => rfl) (fun _ _ => rfl) (fun _ _ => rfl) (fun i hi => va_up_ne _ _ (by omega)) h6, by omega, by omega, fun i hi => ?_, fun i hi => ?_⟩
  · have := h9 v hv
    by_cases z : i = kn
    · rw [z, va_up_self]; omega
    · rw [va_up_ne _ _ z]; exact h9 i (by omega)
  · by_cases z : i = kn
    · rw [z, va_up_self, va_up_self]
    · rw [va_up_ne _ _ z, va_up_ne _ _ (by omega)]; exact h10 i (by omega)
theorem ev_k4 {x f p : Nat} {env : Nat → Nat} {kn : Nat} {st : List Fr} {c w : Nat} (hk : wdF wd f p = 4) (h : evR wd tk nf En ta CA WB WT LN x f p env kn st c w) : evR wd tk nf En ta CA WB WT LN (ta f 1 x) f (p + 2) env kn st c w := by
  obtain ⟨fu, d, q, y, h1, h2, h3, h4, h5, h6, h7, h8, h9, h10⟩ := ev_fu h
  obtain ⟨t1, t2⟩ := nt_one (Or.inr hk) h4
  rw [hd_2 (Or.inr (Or.inr hk))] at t2
  exact ⟨fu, d, q, y, wf_k4 hk h1, h2, h3, by rw [t1]; exact t2, h5, h6, by omega, by omega, h9, h10⟩
theorem ev_k5 {x f p : Nat} {env : Nat → Nat} {kn : Nat} {st : List Fr} {c w g n y9 : Nat} {vs CA' WB' LN' : Nat → Nat} (hg : g < nf) (htk : tk g ≤ 3) (hvs : ∀ k, k < tk g → vs k < kn) (hb : wf (wdF wd g) tk nf (enF En g) 16 (tk g) 0 n) (hn : n ≤ 200) (hy : y9 ≤ 40) (ht : ntF wd tk ta g 16 (tk g) 0 n 0 y9)
    (hC : ∀ i, i < c → CA' i = CA i) (hC2 : CA' c = g) (hW : ∀ i, i < c → WB' i = WB i) (hW2 : WB' c = w) (hL : ∀ i, i < 18 * c → LN' i = LN i) (hL2 : ∀ k, k < tk g → LN' (18 * c + k) = LN (18 * (c - 1) + vs k)) (h : evR wd tk nf En ta CA WB WT LN x f p env kn st c w) : evR wd tk nf En ta CA' WB' WT LN' 0 g 0 (fun k => env (vs k)) (tk g) ((2, f, 0, env, kn) :: st) (c + 1) w := by
  have hN := ev_node h
  obtain ⟨fu, d, q, y, h1, h2, h3, h4, h5, h6, h7, h8, h9, h10⟩ := ev_fu h
  refine ⟨16, 0, n, y9, hb, hn, hy, ht, hg, ⟨h5, h9, hN.2.2.2.2.2.1, hC2, Or.inl ⟨rfl, rfl, by omega, hW2, fun i hi => ?_, d, by omega, ?_⟩⟩, by omega, by omega, fun i hi => h9 _ (hvs i hi), fun i hi => ?_⟩
  · rw [show c + 1 - 2 = c - 1 by omega, hL _ (by omega)]; exact h10 i hi
  · rw [Nat.add_sub_cancel]
    exact rep_keep (by omega) (Nat.le_refl _) hC hW (fun _ _ => rfl) (fun i hi => hL i (by omega)) h6
  · rw [Nat.add_sub_cancel, hL2 i hi]
    exact h10 _ (hvs i hi)
theorem ev_k6 {x f p : Nat} {env : Nat → Nat} {kn : Nat} {st : List Fr} {c w : Nat} (hnf : nf ≤ 4) (hk : wdF wd f p = 6) (h : evR wd tk nf En ta CA WB WT LN x f p env kn st c w) : evR wd tk nf En ta CA WB (va_up WT w x) LN (ta f 1 x) f (p + 1) env kn ((1, f, enF En f (p + 1), env, kn) :: st) c (w + 1) := by
  have hN := ev_node h
  obtain ⟨fu, d, q, y, h1, h2, h3, h4, h5, h6, h7, h8, h9, h10⟩ := ev_fu h
  obtain ⟨m, a, b⟩ := wf_k6 hk h1
  have e := wf_end a
  have l := wf_lt _ _ _ _ b
  obtain ⟨t1, t2, t3⟩ := nt_two (E := enF En f) hnf (Or.inr hk) (by rw [hd_1 (Or.inr (Or.inr hk)), e]; exact a) h4
  rw [hd_1 (Or.inr (Or.inr hk)), e] at t2 t3
  have l2 := nt_lt t3
  refine ⟨fu, d + 1, m, ta f 2 x, a, by omega, by omega, by rw [t1]; exact t2, h5, ?_, by omega, by omega, h9, h10⟩
  refine ⟨h5, h9, hN.2.2.2.2.2.1, hN.2.2.2.2.2.2.2.2.1, Or.inr (Or.inr ⟨rfl, rfl, Nat.le_refl _, h10, d, w, rfl, rfl, rep_keep (by omega) (Nat.le_refl _) (fun _ _ => rfl) (fun _ _ => rfl) (fun i hi => va_up_ne _ _ (by omega)) (fun _ _ => rfl) h6, ?_, ?_, ?_, ?_, fu, q, y, by rw [e]; exact b, h2, h3, ?_, by omega, by omega⟩)⟩
  · rw [va_up_self]; exact hN.1
  · rw [va_up_self, hN.2.1]; exact hN.2.2.2.1
  · rw [va_up_self, hN.2.1]; exact hk
  · rw [va_up_self]; exact hN.2.2.1
  · rw [va_up_self, e]; exact t3
/-- giving: what the class needs to know -/
theorem ge_nil {v f kn c w : Nat} (h : geR wd tk nf En ta CA WB WT LN v f kn [] c w) : c = 1 ∧ w = 0 ∧ WB 0 = 0 := by
  obtain ⟨d, h1, -⟩ := h
  exact ⟨h1.1, h1.2.1, h1.2.2.2.1⟩
theorem ge_c {v f kn c w : Nat} {st : List Fr} (h : geR wd tk nf En ta CA WB WT LN v f kn st c w) : 1 ≤ c ∧ w ≤ 16 * (c - 1) + 16 ∧ f < nf ∧ CA (c - 1) = f ∧ st.length ≤ 17 * (c - 1) + 16 := by
  obtain ⟨d, h1, h2, h3, h4, h5⟩ := h
  have r := rep_w h1 h2
  exact ⟨r.1, by omega, h4, r.2.2.2.1, by omega⟩
theorem ge_0 {v f kn c w g a kn2 : Nat} {env2 : Nat → Nat} {st : List Fr} (h : geR wd tk nf En ta CA WB WT LN v f kn ((0, g, a, env2, kn2) :: st) c w) : ∃ w2, w = w2 + 1 ∧ WB (c - 1) ≠ w ∧ WT w2 < 40 ∧ ta f 0 (WT w2) < 200 ∧ wdF wd f (ta f 0 (WT w2)) = 2 ∧ g = f ∧ (v < 30000 → geR wd tk nf En ta CA WB WT LN (v + 1) f kn2 st c w2) := by
  obtain ⟨d, h1, h2, h3, h4, h5⟩ := h
  have r := rep_w h1 h2
  obtain ⟨b1, b2, b3, b4, h | h | h⟩ := h1
  · exact absurd h.1 (by decide)
  · obtain ⟨-, e1, e2, d2, w2, e3, e4, e5, e6, e7, e8⟩ := h
    exact ⟨w2, e4, by omega, e5, e6, e7, e1, fun hv => ⟨d2, e8, by omega, hv, h4, b3⟩⟩
  · exact absurd h.1 (by decide)
theorem ge_1 {v f kn c w g a kn2 : Nat} {env2 : Nat → Nat} {st : List Fr} (h : geR wd tk nf En ta CA WB WT LN v f kn ((1, g, a, env2, kn2) :: st) c w) : ∃ w2, w = w2 + 1 ∧ WB (c - 1) ≠ w ∧ WT w2 < 40 ∧ ta f 0 (WT w2) < 200 ∧ wdF wd f (ta f 0 (WT w2)) = 6 ∧ ta f 3 (WT w2) = kn2 ∧ kn2 ≤ 17 ∧ g = f ∧ evR wd tk nf En ta CA WB WT (va_up LN (18 * (c - 1) + kn2) v) (ta f 2 (WT w2)) f a (va_up env2 kn2 v) (kn2 + 1) st c w2 := by
  obtain ⟨d, h1, h2, h3, h4, h5⟩ := h
  have r := rep_w h1 h2
  obtain ⟨b1, b2, b3, b4, h | h | h⟩ := h1
  · exact absurd h.1 (by decide)
  · exact absurd h.1 (by decide)
  · obtain ⟨-, e1, e2, e3, d2, w2, e4, e5, e6, e7, e8, e9, e10, fu, q, y, k1, k2, k3, k4, k5, k6⟩ := h
    have hfu : 1 ≤ fu := by
      cases fu with
      | zero => exact k1.elim
      | succ fu => omega
    refine ⟨w2, e5, by omega, e7, e8, e9, e10, by omega, e1, fu, d2, q, y, k1, k2, k3, k4, h4, rep_keep (by omega) (Nat.le_succ _) (fun _ _ => rfl) (fun _ _ => rfl) (fun _ _ => rfl) (fun i hi => va_up_ne _ _ (by omega)) e6, k5, k6, fun i hi => ?_, fun i hi => ?_⟩
    · by_cases z : i = kn2
      · rw [z, va_up_self]; exact h3
      · rw [va_up_ne _ _ z]; exact b2 i (by omega)
    · by_cases z : i = kn2
      · rw [z, va_up_self, va_up_self]
      · rw [va_up_ne _ _ z, va_up_ne _ _ (by omega)]; exact e3 i (by omega)
theorem ge_2 {v f kn c w g a kn2 : Nat} {env2 : Nat → Nat} {st : List Fr} (h : geR wd tk nf En ta CA WB WT LN v f kn ((2, g, a, env2, kn2) :: st) c w) : WB (c - 1) = w ∧ 2 ≤ c ∧ geR wd tk nf En ta CA WB WT LN v g kn2 st (c - 1) w := by
  obtain ⟨d, h1, h2, h3, h4, h5⟩ := h
  obtain ⟨b1, b2, b3, b4, h | h | h⟩ := h1
  · obtain ⟨-, e1, e2, e3, -, d2, e5, e6⟩ := h
    exact ⟨e3, e2, d2, e6, e5, h3, b1, b3⟩
  · exact absurd h.1 (by decide)
  · exact absurd h.1 (by decide)
/-- the start of a run -/
theorem ev_start {f n y9 : Nat} {env : Nat → Nat} (hf : f < nf) (htk : tk f ≤ 3) (hb : wf (wdF wd f) tk nf (enF En f) 16 (tk f) 0 n) (hn : n ≤ 200) (hy : y9 ≤ 40) (ht : ntF wd tk ta f 16 (tk f) 0 n 0 y9) (hC : CA 0 = f) (hW : WB 0 = 0) (hE : ∀ i, i < tk f → env i ≤ 30000) (hL : ∀ i, i < tk f → LN i = env i) : evR wd tk nf En ta CA WB WT LN 0 f 0 env (tk f) [] 1 0 :=
  ⟨16, 0, n, y9, hb, hn, hy, ht, hf, ⟨rfl, rfl, rfl, hW, hC⟩, by omega, by omega, hE, fun i hi => by rw [show 18 * (1 - 1) + i = i by omega]; exact hL i hi⟩
end REP2
end
section
/-- 1 where nothing is wrong -/
def rgI : Option Nat → Int32
  | none => 1
  | some _ => 0
theorem d_Re_isRight_0 : decode c_Re_isRight 0 = .ok (.aload_n 0, 1) := by decide +kernel
theorem d_Re_isRight_1 : decode c_Re_isRight 1 = .ok (.aload_n 0, 1) := by decide +kernel
theorem d_Re_isRight_2 : decode c_Re_isRight 2 = .ok (.getfield 15, 3) := by decide +kernel
theorem d_Re_isRight_5 : decode c_Re_isRight 5 = .ok (.iload_n 1, 1) := by decide +kernel
theorem d_Re_isRight_6 : decode c_Re_isRight 6 = .ok (.aaload, 1) := by decide +kernel
theorem d_Re_isRight_7 : decode c_Re_isRight 7 = .ok (.putfield 19, 3) := by decide +kernel
theorem d_Re_isRight_10 : decode c_Re_isRight 10 = .ok (.aload_n 0, 1) := by decide +kernel
theorem d_Re_isRight_11 : decode c_Re_isRight 11 = .ok (.iload_n 2, 1) := by decide +kernel
theorem d_Re_isRight_12 : decode c_Re_isRight 12 = .ok (.putfield 23, 3) := by decide +kernel
theorem d_Re_isRight_15 : decode c_Re_isRight 15 = .ok (.aload_n 0, 1) := by decide +kernel
theorem d_Re_isRight_16 : decode c_Re_isRight 16 = .ok (.iconst 0, 1) := by decide +kernel
theorem d_Re_isRight_17 : decode c_Re_isRight 17 = .ok (.putfield 26, 3) := by decide +kernel
theorem d_Re_isRight_20 : decode c_Re_isRight 20 = .ok (.aload_n 0, 1) := by decide +kernel
theorem d_Re_isRight_21 : decode c_Re_isRight 21 = .ok (.bipush (-2), 2) := by decide +kernel
theorem d_Re_isRight_23 : decode c_Re_isRight 23 = .ok (.putfield 9, 3) := by decide +kernel
theorem d_Re_isRight_26 : decode c_Re_isRight 26 = .ok (.aload_n 0, 1) := by decide +kernel
theorem d_Re_isRight_27 : decode c_Re_isRight 27 = .ok (.getfield 19, 3) := by decide +kernel
theorem d_Re_isRight_30 : decode c_Re_isRight 30 = .ok (.iconst 0, 1) := by decide +kernel
theorem d_Re_isRight_31 : decode c_Re_isRight 31 = .ok (.putfield 29, 3) := by decide +kernel
theorem d_Re_isRight_34 : decode c_Re_isRight 34 = .ok (.aload_n 0, 1) := by decide +kernel
theorem d_Re_isRight_35 : decode c_Re_isRight 35 = .ok (.aload_n 0, 1) := by decide +kernel
theorem d_Re_isRight_36 : decode c_Re_isRight 36 = .ok (.getfield 19, 3) := by decide +kernel
theorem d_Re_isRight_39 : decode c_Re_isRight 39 = .ok (.getfield 34, 3) := by decide +kernel
theorem d_Re_isRight_42 : decode c_Re_isRight 42 = .ok (.iconst 1, 1) := by decide +kernel
theorem d_Re_isRight_43 : decode c_Re_isRight 43 = .ok (.invokevirtual 37, 3) := by decide +kernel
theorem d_Re_isRight_46 : decode c_Re_isRight 46 = .ok (.pop, 1) := by decide +kernel
theorem d_Re_isRight_47 : decode c_Re_isRight 47 = .ok (.aload_n 0, 1) := by decide +kernel
theorem d_Re_isRight_48 : decode c_Re_isRight 48 = .ok (.getfield 9, 3) := by decide +kernel
theorem d_Re_isRight_51 : decode c_Re_isRight 51 = .ok (.bipush (-2), 2) := by decide +kernel
theorem d_Re_isRight_53 : decode c_Re_isRight 53 = .ok (.if_icmp .ne 25, 3) := by decide +kernel
theorem d_Re_isRight_56 : decode c_Re_isRight 56 = .ok (.aload_n 0, 1) := by decide +kernel
theorem d_Re_isRight_57 : decode c_Re_isRight 57 = .ok (.getfield 26, 3) := by decide +kernel
theorem d_Re_isRight_60 : decode c_Re_isRight 60 = .ok (.aload_n 0, 1) := by decide +kernel
theorem d_Re_isRight_61 : decode c_Re_isRight 61 = .ok (.getfield 19, 3) := by decide +kernel
theorem d_Re_isRight_64 : decode c_Re_isRight 64 = .ok (.getfield 41, 3) := by decide +kernel
theorem d_Re_isRight_67 : decode c_Re_isRight 67 = .ok (.if_icmp .ge 11, 3) := by decide +kernel
theorem d_Re_isRight_70 : decode c_Re_isRight 70 = .ok (.aload_n 0, 1) := by decide +kernel
theorem d_Re_isRight_71 : decode c_Re_isRight 71 = .ok (.aload_n 0, 1) := by decide +kernel
theorem d_Re_isRight_72 : decode c_Re_isRight 72 = .ok (.getfield 26, 3) := by decide +kernel
theorem d_Re_isRight_75 : decode c_Re_isRight 75 = .ok (.putfield 9, 3) := by decide +kernel
theorem d_Re_isRight_78 : decode c_Re_isRight 78 = .ok (.aload_n 0, 1) := by decide +kernel
theorem d_Re_isRight_79 : decode c_Re_isRight 79 = .ok (.getfield 9, 3) := by decide +kernel
theorem d_Re_isRight_82 : decode c_Re_isRight 82 = .ok (.bipush (-2), 2) := by decide +kernel
theorem d_Re_isRight_84 : decode c_Re_isRight 84 = .ok (.if_icmp .ne 7, 3) := by decide +kernel
theorem d_Re_isRight_87 : decode c_Re_isRight 87 = .ok (.iconst 1, 1) := by decide +kernel
theorem d_Re_isRight_88 : decode c_Re_isRight 88 = .ok (.goto 4, 3) := by decide +kernel
theorem d_Re_isRight_91 : decode c_Re_isRight 91 = .ok (.iconst 0, 1) := by decide +kernel
theorem d_Re_isRight_92 : decode c_Re_isRight 92 = .ok (.ireturn, 1) := by decide +kernel
set_option maxRecDepth 100000 in
set_option maxHeartbeats 16000000 in
/-- isRight -/
theorem g_Re_isRight (l : Launch) (G : va_G) (k : Nat → ClassId) (h0 : Nat) (s0 : Nat) (f9 : Nat) (br : Nat) (fn0 : Int32) (nx0 : Int32) (wr0 : Int32) (ra : Nat) (bc : Nat) (nf : Nat) (bw : Nat) (bst : Nat) (bfi : Nat) (bse : Nat) (bkn : Nat) (bnm : Nat) (tk9 : Nat) (sz9 : Nat) (nd9 : Nat) (o1 : Nat) (o2 : Nat) (o3 : Nat) (o1_0 : Nat) (o1_1 : Nat) (o1_2 : Nat) (o1_3 : Nat) (o1_4 : Nat) (o1_5 : Nat) (o2_0 : Nat) (o2_1 : Nat) (o2_2 : Nat) (o2_3 : Nat) (o2_4 : Nat) (o2_5 : Nat) (o3_0 : Nat) (o3_1 : Nat) (o3_2 : Nat) (o3_3 : Nat) (o3_4 : Nat) (o3_5 : Nat) (t1 : Nat) (t2 : Nat) (t3 : Nat) (os1 : Int32) (os2 : Int32) (os3 : Int32) (on1 : Int32) (on2 : Int32) (on3 : Int32) (wd : Nat → Int32) (sta : Nat → Nat) (fir : Nat → Nat) (sec : Nat → Nat) (kno : Nat → Nat) (nam : Nat → Nat) (bf : Nat → Option Nat) (tk : Nat → Nat) (hf9 : f9 < 4) (hs2 : sz9 ≤ 200) (hnf : nf ≤ 4) (ht9 : tk9 ≤ 3) (hb9 : bf f9 = some bc) (hbf : bfO bf tk nf bc o1 o2 o3 tk9 t1 t2 t3) (htk : ∀ g, g < nf → tk g ≤ 3) : CI l y_Re_isRight c_Re_isRight 3 .boolean { frames := 36, cells := 0, slots := 0, locals := 875 } [.ref h0, .int (nI f9), .int (nI nf)] G k s0 [(h0, .inr (5, [.ref ra, .ref br, .int fn0, .int nx0, .int wr0])), (bc, .inr (4, [.ref bw, .ref bst, .ref bfi, .ref bse, .ref bkn, .ref bnm, .int (nI tk9), .int (nI sz9), .int (nI nd9)])), (bw, .inl (k 0, 200, .inl wd)), (bst, .inl (k 0, 40, .inl (fun i => nI (sta i)))), (bfi, .inl (k 0, 40, .inl (fun i => nI (fir i)))), (bse, .inl (k 0, 40, .inl (fun i => nI (sec i)))), (bkn, .inl (k 0, 40, .inl (fun i => nI (kno i)))), (bnm, .inl (k 0, 40, .inl (fun i => nI (nam i)))), (ra, .inl (k 3, 4, .inr (.inr (.inr (.inr bf))))), (o1, .inr (4, [.ref o1_0, .ref o1_1, .ref o1_2, .ref o1_3, .ref o1_4, .ref o1_5, .int (nI t1), .int os1, .int on1])), (o2, .inr (4, [.ref o2_0, .ref o2_1, .ref o2_2, .ref o2_3, .ref o2_4, .ref o2_5, .int (nI t2), .int os2, .int on2])), (o3, .inr (4, [.ref o3_0, .ref o3_1, .ref o3_2, .ref o3_3, .ref o3_4, .ref o3_5, .int (nI t3), .int os3, .int on3]))] (fun (r : Int32) (u : XS) => r = rgI u.2.2.2.2.2.2.1 ∧ u.2.2.2.2.2.2.1 = wrR sz9 (prs wd tk nf sz9 16 tk9 0 0 (fun _ => 0)) ∧ (u.2.2.2.2.2.2.1 = none → ∃ y, y ≤ 40 ∧ ntT wd tk u.1 u.2.1 u.2.2.1 u.2.2.2.1 u.2.2.2.2.1 16 tk9 0 sz9 0 y)) (fun u => [(h0, .inr (5, [.ref ra, .ref bc, .int (nI nf), .int (nI u.2.2.2.2.2.1), .int (wrI u.2.2.2.2.2.2.1)])), (bc, .inr (4, [.ref bw, .ref bst, .ref bfi, .ref bse, .ref bkn, .ref bnm, .int (nI tk9), .int (nI sz9), .int (nI u.2.2.2.2.2.2.2.1)])), (bw, .inl (k 0, 200, .inl wd)), (bst, .inl (k 0, 40, .inl (fun i => nI (u.1 i)))), (bfi, .inl (k 0, 40, .inl (fun i => nI (u.2.1 i)))), (bse, .inl (k 0, 40, .inl (fun i => nI (u.2.2.1 i)))), (bkn, .inl (k 0, 40, .inl (fun i => nI (u.2.2.2.1 i)))), (bnm, .inl (k 0, 40, .inl (fun i => nI (u.2.2.2.2.1 i)))), (ra, .inl (k 3, 4, .inr (.inr (.inr (.inr bf))))), (o1, .inr (4, [.ref o1_0, .ref o1_1, .ref o1_2, .ref o1_3, .ref o1_4, .ref o1_5, .int (nI t1), .int os1, .int on1])), (o2, .inr (4, [.ref o2_0, .ref o2_1, .ref o2_2, .ref o2_3, .ref o2_4, .ref o2_5, .int (nI t2), .int os2, .int on2])), (o3, .inr (4, [.ref o3_0, .ref o3_1, .ref o3_2, .ref o3_3, .ref o3_4, .ref o3_5, .int (nI t3), .int os3, .int on3]))]) 0 0 := by
  refine met_start (by decide) (Nat.le_of_ble_eq_true rfl) ?_
  intro p e s m below meth c C K hA hsz S ls hl
  generalize va_A [(h0, .inr (5, [.ref ra, .ref br, .int fn0, .int nx0, .int wr0])), (bc, .inr (4, [.ref bw, .ref bst, .ref bfi, .ref bse, .ref bkn, .ref bnm, .int (nI tk9), .int (nI sz9), .int (nI nd9)])), (bw, .inl (k 0, 200, .inl wd)), (bst, .inl (k 0, 40, .inl (fun i => nI (sta i)))), (bfi, .inl (k 0, 40, .inl (fun i => nI (fir i)))), (bse, .inl (k 0, 40, .inl (fun i => nI (sec i)))), (bkn, .inl (k 0, 40, .inl (fun i => nI (kno i)))), (bnm, .inl (k 0, 40, .inl (fun i => nI (nam i)))), (ra, .inl (k 3, 4, .inr (.inr (.inr (.inr bf))))), (o1, .inr (4, [.ref o1_0, .ref o1_1, .ref o1_2, .ref o1_3, .ref o1_4, .ref o1_5, .int (nI t1), .int os1, .int on1])), (o2, .inr (4, [.ref o2_0, .ref o2_1, .ref o2_2, .ref o2_3, .ref o2_4, .ref o2_5, .int (nI t2), .int os2, .int on2])), (o3, .inr (4, [.ref o3_0, .ref o3_1, .ref o3_2, .ref o3_3, .ref o3_4, .ref o3_5, .int (nI t3), .int os3, .int on3]))] s0 = A at hA S ⊢
  have hx := C.1
  have hb := C.2.1
  have hl : lv_has ls 3 [(0, .ref h0), (1, .int (nI f9)), (2, .int (nI nf))] := hl
  refine lv_aload_n hx hb d_Re_isRight_0 rfl (lv_at hl 0 rfl) ?_
  refine lv_aload_n hx hb d_Re_isRight_1 rfl (lv_at hl 0 rfl) ?_
  refine r_get C K S 0 rfl rfl clOk_Re 0 (by decide) wf_Re_15 (v := .ref ra) rfl d_Re_isRight_2 ?_
  refine lv_iload_n hx hb d_Re_isRight_5 rfl (lv_at hl 1 rfl) ?_
  refine r_aald C K S 8 3 rfl rfl (i := nI f9) (show vp_in (nI f9) _ from vp_in_nI (n := f9) (by omega) (by decide)) (b := bc) (by rw [nI_clamp (by omega)]; exact hb9) d_Re_isRight_6 ?_
  refine r_put C K S 0 rfl rfl clOk_Re 1 (by decide) wf_Re_19 rfl (ty := .object "PotentialBench$Body") (v := .ref bc) (by decide +kernel) rfl rfl (Nat.le_of_ble_eq_true rfl) (fs' := [.ref ra, .ref bc, .int fn0, .int nx0, .int wr0]) (ws' := [(h0, .inr (5, [.ref ra, .ref bc, .int fn0, .int nx0, .int wr0])), (bc, .inr (4, [.ref bw, .ref bst, .ref bfi, .ref bse, .ref bkn, .ref bnm, .int (nI tk9), .int (nI sz9), .int (nI nd9)])), (bw, .inl (k 0, 200, .inl wd)), (bst, .inl (k 0, 40, .inl (fun i => nI (sta i)))), (bfi, .inl (k 0, 40, .inl (fun i => nI (fir i)))), (bse, .inl (k 0, 40, .inl (fun i => nI (sec i)))), (bkn, .inl (k 0, 40, .inl (fun i => nI (kno i)))), (bnm, .inl (k 0, 40, .inl (fun i => nI (nam i)))), (ra, .inl (k 3, 4, .inr (.inr (.inr (.inr bf))))), (o1, .inr (4, [.ref o1_0, .ref o1_1, .ref o1_2, .ref o1_3, .ref o1_4, .ref o1_5, .int (nI t1), .int os1, .int on1])), (o2, .inr (4, [.ref o2_0, .ref o2_1, .ref o2_2, .ref o2_3, .ref o2_4, .ref o2_5, .int (nI t2), .int os2, .int on2])), (o3, .inr (4, [.ref o3_0, .ref o3_1, .ref o3_2, .ref o3_3, .ref o3_4, .ref o3_5, .int (nI t3), .int os3, .int on3]))]) rfl rfl d_Re_isRight_7 (fun H locs S => ?_)
  refine lv_aload_n hx hb d_Re_isRight_10 rfl (lv_at hl 0 rfl) ?_
  refine lv_iload_n hx hb d_Re_isRight_11 rfl (lv_at hl 2 rfl) ?_
  refine r_put C K S 0 rfl rfl clOk_Re 2 (by decide) wf_Re_23 rfl (ty := .int) (v := .int (nI nf)) (by decide +kernel) rfl rfl (Nat.le_of_ble_eq_true rfl) (fs' := [.ref ra, .ref bc, .int (nI nf), .int nx0, .int wr0]) (ws' := [(h0, .inr (5, [.ref ra, .ref bc, .int (nI nf), .int nx0, .int wr0])), (bc, .inr (4, [.ref bw, .ref bst, .ref bfi, .ref bse, .ref bkn, .ref bnm, .int (nI tk9), .int (nI sz9), .int (nI nd9)])), (bw, .inl (k 0, 200, .inl wd)), (bst, .inl (k 0, 40, .inl (fun i => nI (sta i)))), (bfi, .inl (k 0, 40, .inl (fun i => nI (fir i)))), (bse, .inl (k 0, 40, .inl (fun i => nI (sec i)))), (bkn, .inl (k 0, 40, .inl (fun i => nI (kno i)))), (bnm, .inl (k 0, 40, .inl (fun i => nI (nam i)))), (ra, .inl (k 3, 4, .inr (.inr (.inr (.inr bf))))), (o1, .inr (4, [.ref o1_0, .ref o1_1, .ref o1_2, .ref o1_3, .ref o1_4, .ref o1_5, .int (nI t1), .int os1, .int on1])), (o2, .inr (4, [.ref o2_0, .ref o2_1, .ref o2_2, .ref o2_3, .ref o2_4, .ref o2_5, .int (nI t2), .int os2, .int on2])), (o3, .inr (4, [.ref o3_0, .ref o3_1, .ref o3_2, .ref o3_3, .ref o3_4, .ref o3_5, .int (nI t3), .int os3, .int on3]))]) rfl rfl d_Re_isRight_12 (fun H locs S => ?_)
  refine lv_aload_n hx hb d_Re_isRight_15 rfl (lv_at hl 0 rfl) ?_
  refine lv_iconst (v := 0) hx hb d_Re_isRight_16 (by decide) ?_
  refine r_put C K S 0 rfl rfl clOk_Re 3 (by decide) wf_Re_26 rfl (ty := .int) (v := .int 0) (by decide +kernel) rfl rfl (Nat.le_of_ble_eq_true rfl) (fs' := [.ref ra, .ref bc, .int (nI nf), .int 0, .int wr0]) (ws' := [(h0, .inr (5, [.ref ra, .ref bc, .int (nI nf), .int 0, .int wr0])), (bc, .inr (4, [.ref bw, .ref bst, .ref bfi, .ref bse, .ref bkn, .ref bnm, .int (nI tk9), .int (nI sz9), .int (nI nd9)])), (bw, .inl (k 0, 200, .inl wd)), (bst, .inl (k 0, 40, .inl (fun i => nI (sta i)))), (bfi, .inl (k 0, 40, .inl (fun i => nI (fir i)))), (bse, .inl (k 0, 40, .inl (fun i => nI (sec i)))), (bkn, .inl (k 0, 40, .inl (fun i => nI (kno i)))), (bnm, .inl (k 0, 40, .inl (fun i => nI (nam i)))), (ra, .inl (k 3, 4, .inr (.inr (.inr (.inr bf))))), (o1, .inr (4, [.ref o1_0, .ref o1_1, .ref o1_2, .ref o1_3, .ref o1_4, .ref o1_5, .int (nI t1), .int os1, .int on1])), (o2, .inr (4, [.ref o2_0, .ref o2_1, .ref o2_2, .ref o2_3, .ref o2_4, .ref o2_5, .int (nI t2), .int os2, .int on2])), (o3, .inr (4, [.ref o3_0, .ref o3_1, .ref o3_2, .ref o3_3, .ref o3_4, .ref o3_5, .int (nI t3), .int os3, .int on3]))]) rfl rfl d_Re_isRight_17 (fun H locs S => ?_)
  refine lv_aload_n hx hb d_Re_isRight_20 rfl (lv_at hl 0 rfl) ?_
  refine lv_bipush (v := (-2)) hx hb d_Re_isRight_21 (by decide) ?_
  refine r_put C K S 0 rfl rfl clOk_Re 4 (by decide) wf_Re_9 rfl (ty := .int) (v := .int (-2)) (by decide +kernel) rfl rfl (Nat.le_of_ble_eq_true rfl) (fs' := [.ref ra, .ref bc, .int (nI nf), .int 0, .int (-2)]) (ws' := [(h0, .inr (5, [.ref ra, .ref bc, .int (nI nf), .int 0, .int (-2)])), (bc, .inr (4, [.ref bw, .ref bst, .ref bfi, .ref bse, .ref bkn, .ref bnm, .int (nI tk9), .int (nI sz9), .int (nI nd9)])), (bw, .inl (k 0, 200, .inl wd)), (bst, .inl (k 0, 40, .inl (fun i => nI (sta i)))), (bfi, .inl (k 0, 40, .inl (fun i => nI (fir i)))), (bse, .inl (k 0, 40, .inl (fun i => nI (sec i)))), (bkn, .inl (k 0, 40, .inl (fun i => nI (kno i)))), (bnm, .inl (k 0, 40, .inl (fun i => nI (nam i)))), (ra, .inl (k 3, 4, .inr (.inr (.inr (.inr bf))))), (o1, .inr (4, [.ref o1_0, .ref o1_1, .ref o1_2, .ref o1_3, .ref o1_4, .ref o1_5, .int (nI t1), .int os1, .int on1])), (o2, .inr (4, [.ref o2_0, .ref o2_1, .ref o2_2, .ref o2_3, .ref o2_4, .ref o2_5, .int (nI t2), .int os2, .int on2])), (o3, .inr (4, [.ref o3_0, .ref o3_1, .ref o3_2, .ref o3_3, .ref o3_4, .ref o3_5, .int (nI t3), .int os3, .int on3]))]) rfl rfl d_Re_isRight_23 (fun H locs S => ?_)
  refine lv_aload_n hx hb d_Re_isRight_26 rfl (lv_at hl 0 rfl) ?_
  refine r_get C K S 0 rfl rfl clOk_Re 1 (by decide) wf_Re_19 (v := .ref bc) rfl d_Re_isRight_27 ?_
  refine lv_iconst (v := 0) hx hb d_Re_isRight_30 (by decide) ?_
  refine r_putN C K S 1 rfl rfl clOk_Bo 8 (by decide) xf_Re_29 rfl (ty := .int) (v := .int 0) (by decide +kernel) rfl rfl (Nat.le_of_ble_eq_true rfl) (fs' := [.ref bw, .ref bst, .ref bfi, .ref bse, .ref bkn, .ref bnm, .int (nI tk9), .int (nI sz9), .int 0]) (ws' := [(h0, .inr (5, [.ref ra, .ref bc, .int (nI nf), .int 0, .int (-2)])), (bc, .inr (4, [.ref bw, .ref bst, .ref bfi, .ref bse, .ref bkn, .ref bnm, .int (nI tk9), .int (nI sz9), .int 0])), (bw, .inl (k 0, 200, .inl wd)), (bst, .inl (k 0, 40, .inl (fun i => nI (sta i)))), (bfi, .inl (k 0, 40, .inl (fun i => nI (fir i)))), (bse, .inl (k 0, 40, .inl (fun i => nI (sec i)))), (bkn, .inl (k 0, 40, .inl (fun i => nI (kno i)))), (bnm, .inl (k 0, 40, .inl (fun i => nI (nam i)))), (ra, .inl (k 3, 4, .inr (.inr (.inr (.inr bf))))), (o1, .inr (4, [.ref o1_0, .ref o1_1, .ref o1_2, .ref o1_3, .ref o1_4, .ref o1_5, .int (nI t1), .int os1, .int on1])), (o2, .inr (4, [.ref o2_0, .ref o2_1, .ref o2_2, .ref o2_3, .ref o2_4, .ref o2_5, .int (nI t2), .int os2, .int on2])), (o3, .inr (4, [.ref o3_0, .ref o3_1, .ref o3_2, .ref o3_3, .ref o3_4, .ref o3_5, .int (nI t3), .int os3, .int on3]))]) rfl rfl d_Re_isRight_31 (fun H locs S => ?_)
  refine lv_aload_n hx hb d_Re_isRight_34 rfl (lv_at hl 0 rfl) ?_
  refine lv_aload_n hx hb d_Re_isRight_35 rfl (lv_at hl 0 rfl) ?_
  refine r_get C K S 0 rfl rfl clOk_Re 1 (by decide) wf_Re_19 (v := .ref bc) rfl d_Re_isRight_36 ?_
  refine r_getN C K S 1 rfl rfl clOk_Bo 6 (by decide) xf_Re_34 (v := .int (nI tk9)) rfl d_Re_isRight_39 ?_
  refine lv_iconst (v := 1) hx hb d_Re_isRight_42 (by decide) ?_
  refine r_backi (wi := [(h0, .inr (5, [.ref ra, .ref bc, .int (nI nf), .int 0, .int (-2)])), (bc, .inr (4, [.ref bw, .ref bst, .ref bfi, .ref bse, .ref bkn, .ref bnm, .int (nI tk9), .int (nI sz9), .int 0])), (bw, .inl (k 0, 200, .inl wd)), (bst, .inl (k 0, 40, .inl (fun i => nI (sta i)))), (bfi, .inl (k 0, 40, .inl (fun i => nI (fir i)))), (bse, .inl (k 0, 40, .inl (fun i => nI (sec i)))), (bkn, .inl (k 0, 40, .inl (fun i => nI (kno i)))), (bnm, .inl (k 0, 40, .inl (fun i => nI (nam i)))), (ra, .inl (k 3, 4, .inr (.inr (.inr (.inr bf))))), (o1, .inr (4, [.ref o1_0, .ref o1_1, .ref o1_2, .ref o1_3, .ref o1_4, .ref o1_5, .int (nI t1), .int os1, .int on1])), (o2, .inr (4, [.ref o2_0, .ref o2_1, .ref o2_2, .ref o2_3, .ref o2_4, .ref o2_5, .int (nI t2), .int os2, .int on2])), (o3, .inr (4, [.ref o3_0, .ref o3_1, .ref o3_2, .ref o3_3, .ref o3_4, .ref o3_5, .int (nI t3), .int os3, .int on3]))]) (wr := []) S hA [0, 1, 2, 3, 4, 5, 6, 7, 8, 9, 10, 11] [] rfl rfl (by decide) (by decide) (va_runV (As := [.int (nI tk9), .int 1]) (rest := []) ⟨hx, hb, C.2.2.1, C.2.2.2.1, C.2.2.2.2.1⟩ (ex_all 16 l G k h0 _ tk9 1 ra bc nf 0 bw bst bfi bse bkn bnm tk9 sz9 0 o1 o2 o3 o1_0 o1_1 o1_2 o1_3 o1_4 o1_5 o2_0 o2_1 o2_2 o2_3 o2_4 o2_5 o3_0 o3_1 o3_2 o3_3 o3_4 o3_5 t1 t2 t3 os1 os2 os3 on1 on2 on3 wd sta fir sec kno nam bf tk (fun _ => 0) (by decide) (Nat.zero_le _) hs2 hnf (Nat.zero_le _) (by omega) hbf htk) (k_virt (n := 2) C wc_Re_expression rfl rfl wz_Re wm_Re_37 wn_Re_expression ws_Re_expression (by decide +kernel) ⟨(Nat.le_of_ble_eq_true rfl), (Nat.le_of_ble_eq_true rfl)⟩) (pr_nowV K S [0, 1, 2, 3, 4, 5, 6, 7, 8, 9, 10, 11] (by decide) rfl 0 rfl rfl) rfl rfl hl.1 rfl (lv_room (Nat.le_of_ble_eq_true rfl)) d_Re_isRight_43 ⟨(Nat.le_of_ble_eq_true rfl), (Nat.le_of_ble_eq_true rfl)⟩) (fun r3 u1 H locs hw2 S => ?_)
  have S : Sw G A s.heap _ _ [(h0, .inr (5, [.ref ra, .ref bc, .int (nI nf), .int (nI u1.2.2.2.2.2.1), .int (wrI u1.2.2.2.2.2.2.1)])), (bc, .inr (4, [.ref bw, .ref bst, .ref bfi, .ref bse, .ref bkn, .ref bnm, .int (nI tk9), .int (nI sz9), .int (nI u1.2.2.2.2.2.2.2.1)])), (bw, .inl (k 0, 200, .inl wd)), (bst, .inl (k 0, 40, .inl (fun i => nI (u1.1 i)))), (bfi, .inl (k 0, 40, .inl (fun i => nI (u1.2.1 i)))), (bse, .inl (k 0, 40, .inl (fun i => nI (u1.2.2.1 i)))), (bkn, .inl (k 0, 40, .inl (fun i => nI (u1.2.2.2.1 i)))), (bnm, .inl (k 0, 40, .inl (fun i => nI (u1.2.2.2.2.1 i)))), (ra, .inl (k 3, 4, .inr (.inr (.inr (.inr bf))))), (o1, .inr (4, [.ref o1_0, .ref o1_1, .ref o1_2, .ref o1_3, .ref o1_4, .ref o1_5, .int (nI t1), .int os1, .int on1])), (o2, .inr (4, [.ref o2_0, .ref o2_1, .ref o2_2, .ref o2_3, .ref o2_4, .ref o2_5, .int (nI t2), .int os2, .int on2])), (o3, .inr (4, [.ref o3_0, .ref o3_1, .ref o3_2, .ref o3_3, .ref o3_4, .ref o3_5, .int (nI t3), .int os3, .int on3]))] := S
  obtain ⟨hw20, hp1⟩ := hw2
  obtain rfl : r3 = nI u1.2.2.2.2.2.2.2.2 := hw20
  obtain ⟨sta1, fir1, sec1, kno1, nam1, nx1, b1, nd1, x1⟩ := u1
  have S : Sw G A s.heap H locs [(h0, .inr (5, [.ref ra, .ref bc, .int (nI nf), .int (nI nx1), .int (wrI b1)])), (bc, .inr (4, [.ref bw, .ref bst, .ref bfi, .ref bse, .ref bkn, .ref bnm, .int (nI tk9), .int (nI sz9), .int (nI nd1)])), (bw, .inl (k 0, 200, .inl wd)), (bst, .inl (k 0, 40, .inl (fun i => nI (sta1 i)))), (bfi, .inl (k 0, 40, .inl (fun i => nI (fir1 i)))), (bse, .inl (k 0, 40, .inl (fun i => nI (sec1 i)))), (bkn, .inl (k 0, 40, .inl (fun i => nI (kno1 i)))), (bnm, .inl (k 0, 40, .inl (fun i => nI (nam1 i)))), (ra, .inl (k 3, 4, .inr (.inr (.inr (.inr bf))))), (o1, .inr (4, [.ref o1_0, .ref o1_1, .ref o1_2, .ref o1_3, .ref o1_4, .ref o1_5, .int (nI t1), .int os1, .int on1])), (o2, .inr (4, [.ref o2_0, .ref o2_1, .ref o2_2, .ref o2_3, .ref o2_4, .ref o2_5, .int (nI t2), .int os2, .int on2])), (o3, .inr (4, [.ref o3_0, .ref o3_1, .ref o3_2, .ref o3_3, .ref o3_4, .ref o3_5, .int (nI t3), .int os3, .int on3]))] := S
  refine lv_pop hx hb d_Re_isRight_46 rfl ?_
  cases hpr : prs wd tk nf sz9 16 tk9 0 0 (fun _ => 0) with
  | inl b9 =>
    rw [hpr] at hp1
    have hb1 : b1 = some b9 := hp1.2
    subst hb1
    have hb2 : b9 ≤ sz9 := by have := prs_le (W := wd) (tk := tk) (nf := nf) (cnt := sz9) 16 tk9 0 0 (fun _ => 0) (Nat.zero_le _); rw [hpr] at this; exact this
    have S : Sw G A s.heap H locs [(h0, .inr (5, [.ref ra, .ref bc, .int (nI nf), .int (nI nx1), .int (nI b9)])), (bc, .inr (4, [.ref bw, .ref bst, .ref bfi, .ref bse, .ref bkn, .ref bnm, .int (nI tk9), .int (nI sz9), .int (nI nd1)])), (bw, .inl (k 0, 200, .inl wd)), (bst, .inl (k 0, 40, .inl (fun i => nI (sta1 i)))), (bfi, .inl (k 0, 40, .inl (fun i => nI (fir1 i)))), (bse, .inl (k 0, 40, .inl (fun i => nI (sec1 i)))), (bkn, .inl (k 0, 40, .inl (fun i => nI (kno1 i)))), (bnm, .inl (k 0, 40, .inl (fun i => nI (nam1 i)))), (ra, .inl (k 3, 4, .inr (.inr (.inr (.inr bf))))), (o1, .inr (4, [.ref o1_0, .ref o1_1, .ref o1_2, .ref o1_3, .ref o1_4, .ref o1_5, .int (nI t1), .int os1, .int on1])), (o2, .inr (4, [.ref o2_0, .ref o2_1, .ref o2_2, .ref o2_3, .ref o2_4, .ref o2_5, .int (nI t2), .int os2, .int on2])), (o3, .inr (4, [.ref o3_0, .ref o3_1, .ref o3_2, .ref o3_3, .ref o3_4, .ref o3_5, .int (nI t3), .int os3, .int on3]))] := S
    refine lv_aload_n hx hb d_Re_isRight_47 rfl (lv_at hl 0 rfl) ?_
    refine r_get C K S 0 rfl rfl clOk_Re 4 (by decide) wf_Re_9 (v := .int (nI b9)) rfl d_Re_isRight_48 ?_
    refine lv_bipush (v := (-2)) hx hb d_Re_isRight_51 (by decide) ?_
    refine lv_icmp_ne (tgt := 78) hx hb d_Re_isRight_53 (by decide) (fun _ => ?_) (fun hq => absurd hq (nI_ne2 (by omega)))
    refine lv_aload_n hx hb d_Re_isRight_78 rfl (lv_at hl 0 rfl) ?_
    refine r_get C K S 0 rfl rfl clOk_Re 4 (by decide) wf_Re_9 (v := .int (nI b9)) rfl d_Re_isRight_79 ?_
    refine lv_bipush (v := (-2)) hx hb d_Re_isRight_82 (by decide) ?_
    refine lv_icmp_ne (tgt := 91) hx hb d_Re_isRight_84 (by decide) (fun _ => ?_) (fun hq => absurd hq (nI_ne2 (by omega)))
    refine lv_iconst (v := 0) hx hb d_Re_isRight_91 (by decide) ?_
    exact r_iret C K rfl (sta1, fir1, sec1, kno1, nam1, nx1, some b9, nd1, 0) ⟨rfl, rfl, fun q => absurd q (by simp)⟩ (S.sub [0, 1, 2, 3, 4, 5, 6, 7, 8, 9, 10, 11] (by decide) rfl) d_Re_isRight_92 (Nat.le_of_ble_eq_true rfl) (Nat.le_of_ble_eq_true rfl)
  | inr y9 =>
    obtain ⟨a2, n2, E2⟩ := y9
    rw [hpr] at hp1
    have hw9 := prs_wf hnf 16 tk9 0 0 (fun _ => 0) a2 n2 E2 hpr (Nat.zero_le _) (Nat.zero_le _) (by omega)
    obtain ⟨-, hb1, hn1, hd1, he1, hr1, ht1⟩ := hp1
    have hb1 : b1 = none := hb1
    have hn1 : nx1 = a2 := hn1
    have hd1 : nd1 = n2 := hd1
    subst hb1 hn1 hd1
    obtain ⟨-, -, -, -, hq2, hq3⟩ := hw9
    have S : Sw G A s.heap H locs [(h0, .inr (5, [.ref ra, .ref bc, .int (nI nf), .int (nI nx1), .int (-2)])), (bc, .inr (4, [.ref bw, .ref bst, .ref bfi, .ref bse, .ref bkn, .ref bnm, .int (nI tk9), .int (nI sz9), .int (nI nd1)])), (bw, .inl (k 0, 200, .inl wd)), (bst, .inl (k 0, 40, .inl (fun i => nI (sta1 i)))), (bfi, .inl (k 0, 40, .inl (fun i => nI (fir1 i)))), (bse, .inl (k 0, 40, .inl (fun i => nI (sec1 i)))), (bkn, .inl (k 0, 40, .inl (fun i => nI (kno1 i)))), (bnm, .inl (k 0, 40, .inl (fun i => nI (nam1 i)))), (ra, .inl (k 3, 4, .inr (.inr (.inr (.inr bf))))), (o1, .inr (4, [.ref o1_0, .ref o1_1, .ref o1_2, .ref o1_3, .ref o1_4, .ref o1_5, .int (nI t1), .int os1, .int on1])), (o2, .inr (4, [.ref o2_0, .ref o2_1, .ref o2_2, .ref o2_3, .ref o2_4, .ref o2_5, .int (nI t2), .int os2, .int on2])), (o3, .inr (4, [.ref o3_0, .ref o3_1, .ref o3_2, .ref o3_3, .ref o3_4, .ref o3_5, .int (nI t3), .int os3, .int on3]))] := S
    refine lv_aload_n hx hb d_Re_isRight_47 rfl (lv_at hl 0 rfl) ?_
    refine r_get C K S 0 rfl rfl clOk_Re 4 (by decide) wf_Re_9 (v := .int (-2)) rfl d_Re_isRight_48 ?_
    refine lv_bipush (v := (-2)) hx hb d_Re_isRight_51 (by decide) ?_
    refine lv_icmp_ne (tgt := 78) hx hb d_Re_isRight_53 (by decide) (fun hq => absurd (by decide) hq) (fun _ => ?_)
    refine lv_aload_n hx hb d_Re_isRight_56 rfl (lv_at hl 0 rfl) ?_
    refine r_get C K S 0 rfl rfl clOk_Re 3 (by decide) wf_Re_26 (v := .int (nI nx1)) rfl d_Re_isRight_57 ?_
    refine lv_aload_n hx hb d_Re_isRight_60 rfl (lv_at hl 0 rfl) ?_
    refine r_get C K S 0 rfl rfl clOk_Re 1 (by decide) wf_Re_19 (v := .ref bc) rfl d_Re_isRight_61 ?_
    refine r_getN C K S 1 rfl rfl clOk_Bo 7 (by decide) xf_Re_41 (v := .int (nI sz9)) rfl d_Re_isRight_64 ?_
    refine z_icmp_ge (a := nx1) (b := sz9) (tgt := 78) hx hb d_Re_isRight_67 (by decide) (by omega) (by omega) (fun hc4 => ?_) (fun hc4 => ?_)
    · refine lv_aload_n hx hb d_Re_isRight_78 rfl (lv_at hl 0 rfl) ?_
      refine r_get C K S 0 rfl rfl clOk_Re 4 (by decide) wf_Re_9 (v := .int (-2)) rfl d_Re_isRight_79 ?_
      refine lv_bipush (v := (-2)) hx hb d_Re_isRight_82 (by decide) ?_
      refine lv_icmp_ne (tgt := 91) hx hb d_Re_isRight_84 (by decide) (fun hq => absurd (by decide) hq) (fun _ => ?_)
      refine lv_iconst (v := 1) hx hb d_Re_isRight_87 (by decide) ?_
      refine lv_goto (tgt := 92) hx hb d_Re_isRight_88 (by decide) ?_
      exact r_iret C K rfl (sta1, fir1, sec1, kno1, nam1, nx1, none, nd1, 0) ⟨rfl, (if_pos (by omega)).symm, fun _ => ⟨nd1, hq3, by have e9 : nx1 = sz9 := (by omega); rw [e9] at ht1; exact ht1⟩⟩ (S.sub [0, 1, 2, 3, 4, 5, 6, 7, 8, 9, 10, 11] (by decide) rfl) d_Re_isRight_92 (Nat.le_of_ble_eq_true rfl) (Nat.le_of_ble_eq_true rfl)
    · refine lv_aload_n hx hb d_Re_isRight_70 rfl (lv_at hl 0 rfl) ?_
      refine lv_aload_n hx hb d_Re_isRight_71 rfl (lv_at hl 0 rfl) ?_
      refine r_get C K S 0 rfl rfl clOk_Re 3 (by decide) wf_Re_26 (v := .int (nI nx1)) rfl d_Re_isRight_72 ?_
      refine r_put C K S 0 rfl rfl clOk_Re 4 (by decide) wf_Re_9 rfl (ty := .int) (v := .int (nI nx1)) (by decide +kernel) rfl rfl (Nat.le_of_ble_eq_true rfl) (fs' := [.ref ra, .ref bc, .int (nI nf), .int (nI nx1), .int (nI nx1)]) (ws' := [(h0, .inr (5, [.ref ra, .ref bc, .int (nI nf), .int (nI nx1), .int (nI nx1)])), (bc, .inr (4, [.ref bw, .ref bst, .ref bfi, .ref bse, .ref bkn, .ref bnm, .int (nI tk9), .int (nI sz9), .int (nI nd1)])), (bw, .inl (k 0, 200, .inl wd)), (bst, .inl (k 0, 40, .inl (fun i => nI (sta1 i)))), (bfi, .inl (k 0, 40, .inl (fun i => nI (fir1 i)))), (bse, .inl (k 0, 40, .inl (fun i => nI (sec1 i)))), (bkn, .inl (k 0, 40, .inl (fun i => nI (kno1 i)))), (bnm, .inl (k 0, 40, .inl (fun i => nI (nam1 i)))), (ra, .inl (k 3, 4, .inr (.inr (.inr (.inr bf))))), (o1, .inr (4, [.ref o1_0, .ref o1_1, .ref o1_2, .ref o1_3, .ref o1_4, .ref o1_5, .int (nI t1), .int os1, .int on1])), (o2, .inr (4, [.ref o2_0, .ref o2_1, .ref o2_2, .ref o2_3, .ref o2_4, .ref o2_5, .int (nI t2), .int os2, .int on2])), (o3, .inr (4, [.ref o3_0, .ref o3_1, .ref o3_2, .ref o3_3, .ref o3_4, .ref o3_5, .int (nI t3), .int os3, .int on3]))]) rfl rfl d_Re_isRight_75 (fun H locs S => ?_)
      refine lv_aload_n hx hb d_Re_isRight_78 rfl (lv_at hl 0 rfl) ?_
      refine r_get C K S 0 rfl rfl clOk_Re 4 (by decide) wf_Re_9 (v := .int (nI nx1)) rfl d_Re_isRight_79 ?_
      refine lv_bipush (v := (-2)) hx hb d_Re_isRight_82 (by decide) ?_
      refine lv_icmp_ne (tgt := 91) hx hb d_Re_isRight_84 (by decide) (fun _ => ?_) (fun hq => absurd hq (nI_ne2 (by omega)))
      refine lv_iconst (v := 0) hx hb d_Re_isRight_91 (by decide) ?_
      exact r_iret C K rfl (sta1, fir1, sec1, kno1, nam1, nx1, some nx1, nd1, 0) ⟨rfl, (if_neg (by omega)).symm, fun q => absurd q (by simp)⟩ (S.sub [0, 1, 2, 3, 4, 5, 6, 7, 8, 9, 10, 11] (by decide) rfl) d_Re_isRight_92 (Nat.le_of_ble_eq_true rfl) (Nat.le_of_ble_eq_true rfl)
end
section
theorem d_Ru_slot_0 : decode c_Ru_slot 0 = .ok (.aload_n 0, 1) := by decide +kernel
theorem d_Ru_slot_1 : decode c_Ru_slot 1 = .ok (.getfield 32, 3) := by decide +kernel
theorem d_Ru_slot_4 : decode c_Ru_slot 4 = .ok (.iconst 1, 1) := by decide +kernel
theorem d_Ru_slot_5 : decode c_Ru_slot 5 = .ok (.isub, 1) := by decide +kernel
theorem d_Ru_slot_6 : decode c_Ru_slot 6 = .ok (.bipush 18, 2) := by decide +kernel
theorem d_Ru_slot_8 : decode c_Ru_slot 8 = .ok (.imul, 1) := by decide +kernel
theorem d_Ru_slot_9 : decode c_Ru_slot 9 = .ok (.iload_n 1, 1) := by decide +kernel
theorem d_Ru_slot_10 : decode c_Ru_slot 10 = .ok (.iadd, 1) := by decide +kernel
theorem d_Ru_slot_11 : decode c_Ru_slot 11 = .ok (.ireturn, 1) := by decide +kernel
set_option maxRecDepth 100000 in
set_option maxHeartbeats 16000000 in
/-- slot -/
theorem g_Ru_slot (l : Launch) (G : va_G) (k : Nat → ClassId) (h0 : Nat) (s0 : Nat) (v9 : Nat) (ru0 : Nat) (ru1 : Nat) (ru2 : Nat) (ru3 : Nat) (ru4 : Nat) (c9 : Nat) (w9 : Nat) (x9 : Nat) (ln9 : Int32) (sp9 : Nat) (cs9 : Nat) (gv9 : Int32) (hc : 1 ≤ c9) : CI l y_Ru_slot c_Ru_slot 2 .int { frames := 0, cells := 0, slots := 0, locals := 0 } [.ref h0, .int (nI v9)] G k s0 [(h0, .inr (6, [.ref ru0, .ref ru1, .ref ru2, .ref ru3, .ref ru4, .int (nI c9), .int (nI w9), .int (nI x9), .int ln9, .int (nI sp9), .long (lN cs9), .int gv9]))] (fun (r : Int32) (u : Unit) => r = nI (18 * (c9 - 1) + v9) ∧ True) (fun u => [(h0, .inr (6, [.ref ru0, .ref ru1, .ref ru2, .ref ru3, .ref ru4, .int (nI c9), .int (nI w9), .int (nI x9), .int ln9, .int (nI sp9), .long (lN cs9), .int gv9]))]) 0 0 := by
  refine met_start (by decide) (Nat.le_of_ble_eq_true rfl) ?_
  intro p e s m below meth c C K hA hsz S ls hl
  generalize va_A [(h0, .inr (6, [.ref ru0, .ref ru1, .ref ru2, .ref ru3, .ref ru4, .int (nI c9), .int (nI w9), .int (nI x9), .int ln9, .int (nI sp9), .long (lN cs9), .int gv9]))] s0 = A at hA S ⊢
  have hx := C.1
  have hb := C.2.1
  have hl : lv_has ls 2 [(0, .ref h0), (1, .int (nI v9))] := hl
  refine lv_aload_n hx hb d_Ru_slot_0 rfl (lv_at hl 0 rfl) ?_
  refine r_get C K S 0 rfl rfl clOk_Ru 5 (by decide) wf_Ru_32 (v := .int (nI c9)) rfl d_Ru_slot_1 ?_
  refine lv_iconst (v := 1) hx hb d_Ru_slot_4 (by decide) ?_
  refine z_isub (x := nI c9) (y := 1) (v := nI (c9 - 1)) hx hb d_Ru_slot_5 (pk_sub (a := c9) (b := 1) (by omega)) ?_
  refine lv_bipush (v := 18) hx hb d_Ru_slot_6 (by decide) ?_
  refine z_imul (x := nI (c9 - 1)) (y := 18) (v := nI ((c9 - 1) * 18)) hx hb d_Ru_slot_8 (pk_mul (c9 - 1) 18) ?_
  refine lv_iload_n hx hb d_Ru_slot_9 rfl (lv_at hl 1 rfl) ?_
  refine z_iadd (x := nI ((c9 - 1) * 18)) (y := nI v9) (v := nI (((c9 - 1) * 18) + v9)) hx hb d_Ru_slot_10 (nI_add ((c9 - 1) * 18) v9) ?_
  exact r_iret C K rfl () ⟨congrArg nI (by rw [Nat.mul_comm]), trivial⟩ (S.sub [0] (by decide) rfl) d_Ru_slot_11 (Nat.le_of_ble_eq_true rfl) (Nat.le_of_ble_eq_true rfl)
theorem d_Ru_open_0 : decode c_Ru_open 0 = .ok (.aload_n 0, 1) := by decide +kernel
theorem d_Ru_open_1 : decode c_Ru_open 1 = .ok (.getfield 9, 3) := by decide +kernel
theorem d_Ru_open_4 : decode c_Ru_open 4 = .ok (.aload_n 0, 1) := by decide +kernel
theorem d_Ru_open_5 : decode c_Ru_open 5 = .ok (.getfield 32, 3) := by decide +kernel
theorem d_Ru_open_8 : decode c_Ru_open 8 = .ok (.iload_n 1, 1) := by decide +kernel
theorem d_Ru_open_9 : decode c_Ru_open 9 = .ok (.iastore, 1) := by decide +kernel
theorem d_Ru_open_10 : decode c_Ru_open 10 = .ok (.aload_n 0, 1) := by decide +kernel
theorem d_Ru_open_11 : decode c_Ru_open 11 = .ok (.getfield 21, 3) := by decide +kernel
theorem d_Ru_open_14 : decode c_Ru_open 14 = .ok (.aload_n 0, 1) := by decide +kernel
theorem d_Ru_open_15 : decode c_Ru_open 15 = .ok (.getfield 32, 3) := by decide +kernel
theorem d_Ru_open_18 : decode c_Ru_open 18 = .ok (.aload_n 0, 1) := by decide +kernel
theorem d_Ru_open_19 : decode c_Ru_open 19 = .ok (.getfield 35, 3) := by decide +kernel
theorem d_Ru_open_22 : decode c_Ru_open 22 = .ok (.iastore, 1) := by decide +kernel
theorem d_Ru_open_23 : decode c_Ru_open 23 = .ok (.aload_n 0, 1) := by decide +kernel
theorem d_Ru_open_24 : decode c_Ru_open 24 = .ok (.dup, 1) := by decide +kernel
theorem d_Ru_open_25 : decode c_Ru_open 25 = .ok (.getfield 32, 3) := by decide +kernel
theorem d_Ru_open_28 : decode c_Ru_open 28 = .ok (.iconst 1, 1) := by decide +kernel
theorem d_Ru_open_29 : decode c_Ru_open 29 = .ok (.iadd, 1) := by decide +kernel
theorem d_Ru_open_30 : decode c_Ru_open 30 = .ok (.putfield 32, 3) := by decide +kernel
theorem d_Ru_open_33 : decode c_Ru_open 33 = .ok (.aload_n 0, 1) := by decide +kernel
theorem d_Ru_open_34 : decode c_Ru_open 34 = .ok (.iconst 0, 1) := by decide +kernel
theorem d_Ru_open_35 : decode c_Ru_open 35 = .ok (.putfield 59, 3) := by decide +kernel
theorem d_Ru_open_38 : decode c_Ru_open 38 = .ok (.return_, 1) := by decide +kernel
set_option maxRecDepth 100000 in
set_option maxHeartbeats 16000000 in
/-- open -/
theorem g_Ru_open (l : Launch) (G : va_G) (k : Nat → ClassId) (h0 : Nat) (s0 : Nat) (f9 : Nat) (ru0 : Nat) (ru1 : Nat) (ru2 : Nat) (ru3 : Nat) (ru4 : Nat) (c9 : Nat) (w9 : Nat) (x9 : Nat) (ln9 : Int32) (sp9 : Nat) (cs9 : Nat) (gv9 : Int32) (CA : Nat → Nat) (WB : Nat → Nat) (hc : c9 < 60) : CV l y_Ru_open c_Ru_open 2 { frames := 0, cells := 0, slots := 0, locals := 0 } [.ref h0, .int (nI f9)] G k s0 [(h0, .inr (6, [.ref ru0, .ref ru1, .ref ru2, .ref ru3, .ref ru4, .int (nI c9), .int (nI w9), .int (nI x9), .int ln9, .int (nI sp9), .long (lN cs9), .int gv9])), (ru1, .inl (k 0, 60, .inl (fun i => nI (CA i)))), (ru4, .inl (k 0, 60, .inl (fun i => nI (WB i))))] (fun (u : Unit) => True) (fun u => [(h0, .inr (6, [.ref ru0, .ref ru1, .ref ru2, .ref ru3, .ref ru4, .int (nI (c9 + 1)), .int (nI w9), .int 0, .int ln9, .int (nI sp9), .long (lN cs9), .int gv9])), (ru1, .inl (k 0, 60, .inl (fun i => nI ((va_up CA c9 f9) i)))), (ru4, .inl (k 0, 60, .inl (fun i => nI ((va_up WB c9 w9) i))))]) 0 0 := by
  refine met_start (by decide) (Nat.le_of_ble_eq_true rfl) ?_
  intro p e s m below meth c C K hA hsz S ls hl
  generalize va_A [(h0, .inr (6, [.ref ru0, .ref ru1, .ref ru2, .ref ru3, .ref ru4, .int (nI c9), .int (nI w9), .int (nI x9), .int ln9, .int (nI sp9), .long (lN cs9), .int gv9])), (ru1, .inl (k 0, 60, .inl (fun i => nI (CA i)))), (ru4, .inl (k 0, 60, .inl (fun i => nI (WB i))))] s0 = A at hA S ⊢
  have hx := C.1
  have hb := C.2.1
  have hl : lv_has ls 2 [(0, .ref h0), (1, .int (nI f9))] := hl
  refine lv_aload_n hx hb d_Ru_open_0 rfl (lv_at hl 0 rfl) ?_
  refine r_get C K S 0 rfl rfl clOk_Ru 1 (by decide) wf_Ru_9 (v := .ref ru1) rfl d_Ru_open_1 ?_
  refine lv_aload_n hx hb d_Ru_open_4 rfl (lv_at hl 0 rfl) ?_
  refine r_get C K S 0 rfl rfl clOk_Ru 5 (by decide) wf_Ru_32 (v := .int (nI c9)) rfl d_Ru_open_5 ?_
  refine lv_iload_n hx hb d_Ru_open_8 rfl (lv_at hl 1 rfl) ?_
  refine r_iast C K S 1 rfl (i := nI c9) (x := nI f9) (show vp_in (nI c9) _ from vp_in_nI (n := c9) (by omega) (by decide)) (f' := fun i => nI (va_up CA c9 f9 i)) (ws' := [(h0, .inr (6, [.ref ru0, .ref ru1, .ref ru2, .ref ru3, .ref ru4, .int (nI c9), .int (nI w9), .int (nI x9), .int ln9, .int (nI sp9), .long (lN cs9), .int gv9])), (ru1, .inl (k 0, 60, .inl (fun i => nI (va_up CA c9 f9 i)))), (ru4, .inl (k 0, 60, .inl (fun i => nI (WB i))))]) (show upd _ (nI c9 : Int32).toNatClampNeg (nI f9) = _ from upd_nI CA (j := c9) (by omega) f9) rfl d_Ru_open_9 (fun H locs S => ?_)
  refine lv_aload_n hx hb d_Ru_open_10 rfl (lv_at hl 0 rfl) ?_
  refine r_get C K S 0 rfl rfl clOk_Ru 4 (by decide) wf_Ru_21 (v := .ref ru4) rfl d_Ru_open_11 ?_
  refine lv_aload_n hx hb d_Ru_open_14 rfl (lv_at hl 0 rfl) ?_
  refine r_get C K S 0 rfl rfl clOk_Ru 5 (by decide) wf_Ru_32 (v := .int (nI c9)) rfl d_Ru_open_15 ?_
  refine lv_aload_n hx hb d_Ru_open_18 rfl (lv_at hl 0 rfl) ?_
  refine r_get C K S 0 rfl rfl clOk_Ru 6 (by decide) wf_Ru_35 (v := .int (nI w9)) rfl d_Ru_open_19 ?_
  refine r_iast C K S 2 rfl (i := nI c9) (x := nI w9) (show vp_in (nI c9) _ from vp_in_nI (n := c9) (by omega) (by decide)) (f' := fun i => nI (va_up WB c9 w9 i)) (ws' := [(h0, .inr (6, [.ref ru0, .ref ru1, .ref ru2, .ref ru3, .ref ru4, .int (nI c9), .int (nI w9), .int (nI x9), .int ln9, .int (nI sp9), .long (lN cs9), .int gv9])), (ru1, .inl (k 0, 60, .inl (fun i => nI (va_up CA c9 f9 i)))), (ru4, .inl (k 0, 60, .inl (fun i => nI (va_up WB c9 w9 i))))]) (show upd _ (nI c9 : Int32).toNatClampNeg (nI w9) = _ from upd_nI WB (j := c9) (by omega) w9) rfl d_Ru_open_22 (fun H locs S => ?_)
  refine lv_aload_n hx hb d_Ru_open_23 rfl (lv_at hl 0 rfl) ?_
  refine lv_dup hx hb d_Ru_open_24 rfl ?_
  refine r_get C K S 0 rfl rfl clOk_Ru 5 (by decide) wf_Ru_32 (v := .int (nI c9)) rfl d_Ru_open_25 ?_
  refine lv_iconst (v := 1) hx hb d_Ru_open_28 (by decide) ?_
  refine z_iadd (x := nI c9) (y := 1) (v := nI (c9 + 1)) hx hb d_Ru_open_29 (nI_add c9 1) ?_
  refine r_put C K S 0 rfl rfl clOk_Ru 5 (by decide) wf_Ru_32 rfl (ty := .int) (v := .int (nI (c9 + 1))) (by decide +kernel) rfl rfl (Nat.le_of_ble_eq_true rfl) (fs' := [.ref ru0, .ref ru1, .ref ru2, .ref ru3, .ref ru4, .int (nI (c9 + 1)), .int (nI w9), .int (nI x9), .int ln9, .int (nI sp9), .long (lN cs9), .int gv9]) (ws' := [(h0, .inr (6, [.ref ru0, .ref ru1, .ref ru2, .ref ru3, .ref ru4, .int (nI (c9 + 1)), .int (nI w9), .int (nI x9), .int ln9, .int (nI sp9), .long (lN cs9), .int gv9])), (ru1, .inl (k 0, 60, .inl (fun i => nI (va_up CA c9 f9 i)))), (ru4, .inl (k 0, 60, .inl (fun i => nI (va_up WB c9 w9 i))))]) rfl rfl d_Ru_open_30 (fun H locs S => ?_)
  refine lv_aload_n hx hb d_Ru_open_33 rfl (lv_at hl 0 rfl) ?_
  refine lv_iconst (v := 0) hx hb d_Ru_open_34 (by decide) ?_
  refine r_put C K S 0 rfl rfl clOk_Ru 7 (by decide) wf_Ru_59 rfl (ty := .int) (v := .int 0) (by decide +kernel) rfl rfl (Nat.le_of_ble_eq_true rfl) (fs' := [.ref ru0, .ref ru1, .ref ru2, .ref ru3, .ref ru4, .int (nI (c9 + 1)), .int (nI w9), .int 0, .int ln9, .int (nI sp9), .long (lN cs9), .int gv9]) (ws' := [(h0, .inr (6, [.ref ru0, .ref ru1, .ref ru2, .ref ru3, .ref ru4, .int (nI (c9 + 1)), .int (nI w9), .int 0, .int ln9, .int (nI sp9), .long (lN cs9), .int gv9])), (ru1, .inl (k 0, 60, .inl (fun i => nI (va_up CA c9 f9 i)))), (ru4, .inl (k 0, 60, .inl (fun i => nI (va_up WB c9 w9 i))))]) rfl rfl d_Ru_open_35 (fun H locs S => ?_)
  exact r_vret C K () trivial (S.sub [0, 1, 2] (by decide) rfl) d_Ru_open_38 (Nat.le_of_ble_eq_true rfl) (Nat.le_of_ble_eq_true rfl)
theorem d_Ru_start_0 : decode c_Ru_start 0 = .ok (.aload_n 0, 1) := by decide +kernel
theorem d_Ru_start_1 : decode c_Ru_start 1 = .ok (.iconst 0, 1) := by decide +kernel
theorem d_Ru_start_2 : decode c_Ru_start 2 = .ok (.putfield 32, 3) := by decide +kernel
theorem d_Ru_start_5 : decode c_Ru_start 5 = .ok (.aload_n 0, 1) := by decide +kernel
theorem d_Ru_start_6 : decode c_Ru_start 6 = .ok (.iconst 0, 1) := by decide +kernel
theorem d_Ru_start_7 : decode c_Ru_start 7 = .ok (.putfield 35, 3) := by decide +kernel
theorem d_Ru_start_10 : decode c_Ru_start 10 = .ok (.aload_n 0, 1) := by decide +kernel
theorem d_Ru_start_11 : decode c_Ru_start 11 = .ok (.iconst 0, 1) := by decide +kernel
theorem d_Ru_start_12 : decode c_Ru_start 12 = .ok (.putfield 38, 3) := by decide +kernel
theorem d_Ru_start_15 : decode c_Ru_start 15 = .ok (.aload_n 0, 1) := by decide +kernel
theorem d_Ru_start_16 : decode c_Ru_start 16 = .ok (.lconst 0, 1) := by decide +kernel
theorem d_Ru_start_17 : decode c_Ru_start 17 = .ok (.putfield 41, 3) := by decide +kernel
theorem d_Ru_start_20 : decode c_Ru_start 20 = .ok (.aload_n 0, 1) := by decide +kernel
theorem d_Ru_start_21 : decode c_Ru_start 21 = .ok (.bipush (-2), 2) := by decide +kernel
theorem d_Ru_start_23 : decode c_Ru_start 23 = .ok (.putfield 24, 3) := by decide +kernel
theorem d_Ru_start_26 : decode c_Ru_start 26 = .ok (.aload_n 0, 1) := by decide +kernel
theorem d_Ru_start_27 : decode c_Ru_start 27 = .ok (.iload_n 1, 1) := by decide +kernel
theorem d_Ru_start_28 : decode c_Ru_start 28 = .ok (.invokevirtual 45, 3) := by decide +kernel
theorem d_Ru_start_31 : decode c_Ru_start 31 = .ok (.aload_n 0, 1) := by decide +kernel
theorem d_Ru_start_32 : decode c_Ru_start 32 = .ok (.getfield 15, 3) := by decide +kernel
theorem d_Ru_start_35 : decode c_Ru_start 35 = .ok (.iconst 0, 1) := by decide +kernel
theorem d_Ru_start_36 : decode c_Ru_start 36 = .ok (.iload_n 2, 1) := by decide +kernel
theorem d_Ru_start_37 : decode c_Ru_start 37 = .ok (.iastore, 1) := by decide +kernel
theorem d_Ru_start_38 : decode c_Ru_start 38 = .ok (.aload_n 0, 1) := by decide +kernel
theorem d_Ru_start_39 : decode c_Ru_start 39 = .ok (.getfield 15, 3) := by decide +kernel
theorem d_Ru_start_42 : decode c_Ru_start 42 = .ok (.iconst 1, 1) := by decide +kernel
theorem d_Ru_start_43 : decode c_Ru_start 43 = .ok (.iload_n 3, 1) := by decide +kernel
theorem d_Ru_start_44 : decode c_Ru_start 44 = .ok (.iastore, 1) := by decide +kernel
theorem d_Ru_start_45 : decode c_Ru_start 45 = .ok (.aload_n 0, 1) := by decide +kernel
theorem d_Ru_start_46 : decode c_Ru_start 46 = .ok (.getfield 15, 3) := by decide +kernel
theorem d_Ru_start_49 : decode c_Ru_start 49 = .ok (.iconst 2, 1) := by decide +kernel
theorem d_Ru_start_50 : decode c_Ru_start 50 = .ok (.iload 4, 2) := by decide +kernel
theorem d_Ru_start_52 : decode c_Ru_start 52 = .ok (.iastore, 1) := by decide +kernel
theorem d_Ru_start_53 : decode c_Ru_start 53 = .ok (.return_, 1) := by decide +kernel
set_option maxRecDepth 100000 in
set_option maxHeartbeats 16000000 in
/-- start -/
theorem g_Ru_start (l : Launch) (G : va_G) (k : Nat → ClassId) (h0 : Nat) (s0 : Nat) (f9 : Nat) (a9 : Nat) (b9 : Nat) (e9 : Nat) (cz9 : Int64) (ru0 : Nat) (ru1 : Nat) (ru2 : Nat) (ru3 : Nat) (ru4 : Nat) (c9 : Nat) (w9 : Nat) (x9 : Nat) (ln9 : Int32) (sp9 : Nat) (gv9 : Int32) (CA : Nat → Nat) (WB : Nat → Nat) (LN : Nat → Nat) : CV l y_Ru_start c_Ru_start 5 { frames := 1, cells := 0, slots := 0, locals := 21 } [.ref h0, .int (nI f9), .int (nI a9), .int (nI b9), .int (nI e9)] G k s0 [(h0, .inr (6, [.ref ru0, .ref ru1, .ref ru2, .ref ru3, .ref ru4, .int (nI c9), .int (nI w9), .int (nI x9), .int ln9, .int (nI sp9), .long cz9, .int gv9])), (ru1, .inl (k 0, 60, .inl (fun i => nI (CA i)))), (ru4, .inl (k 0, 60, .inl (fun i => nI (WB i)))), (ru2, .inl (k 0, 1080, .inl (fun i => nI (LN i))))] (fun (u : Unit) => True) (fun u => [(h0, .inr (6, [.ref ru0, .ref ru1, .ref ru2, .ref ru3, .ref ru4, .int 1, .int 0, .int 0, .int ln9, .int 0, .long (lN 0), .int (-2)])), (ru1, .inl (k 0, 60, .inl (fun i => nI ((va_up CA 0 f9) i)))), (ru4, .inl (k 0, 60, .inl (fun i => nI ((va_up WB 0 0) i)))), (ru2, .inl (k 0, 1080, .inl (fun i => nI ((va_up (va_up (va_up LN 0 a9) 1 b9) 2 e9) i))))]) 0 0 := by
  refine met_start (by decide) (Nat.le_of_ble_eq_true rfl) ?_
  intro p e s m below meth c C K hA hsz S ls hl
  generalize va_A [(h0, .inr (6, [.ref ru0, .ref ru1, .ref ru2, .ref ru3, .ref ru4, .int (nI c9), .int (nI w9), .int (nI x9), .int ln9, .int (nI sp9), .long cz9, .int gv9])), (ru1, .inl (k 0, 60, .inl (fun i => nI (CA i)))), (ru4, .inl (k 0, 60, .inl (fun i => nI (WB i)))), (ru2, .inl (k 0, 1080, .inl (fun i => nI (LN i))))] s0 = A at hA S ⊢
  have hx := C.1
  have hb := C.2.1
  have hl : lv_has ls 5 [(0, .ref h0), (1, .int (nI f9)), (2, .int (nI a9)), (3, .int (nI b9)), (4, .int (nI e9))] := hl
  refine lv_aload_n hx hb d_Ru_start_0 rfl (lv_at hl 0 rfl) ?_
  refine lv_iconst (v := 0) hx hb d_Ru_start_1 (by decide) ?_
  refine r_put C K S 0 rfl rfl clOk_Ru 5 (by decide) wf_Ru_32 rfl (ty := .int) (v := .int 0) (by decide +kernel) rfl rfl (Nat.le_of_ble_eq_true rfl) (fs' := [.ref ru0, .ref ru1, .ref ru2, .ref ru3, .ref ru4, .int 0, .int (nI w9), .int (nI x9), .int ln9, .int (nI sp9), .long cz9, .int gv9]) (ws' := [(h0, .inr (6, [.ref ru0, .ref ru1, .ref ru2, .ref ru3, .ref ru4, .int 0, .int (nI w9), .int (nI x9), .int ln9, .int (nI sp9), .long cz9, .int gv9])), (ru1, .inl (k 0, 60, .inl (fun i => nI (CA i)))), (ru4, .inl (k 0, 60, .inl (fun i => nI (WB i)))), (ru2, .inl (k 0, 1080, .inl (fun i => nI (LN i))))]) rfl rfl d_Ru_start_2 (fun H locs S => ?_)
  refine lv_aload_n hx hb d_Ru_start_5 rfl (lv_at hl 0 rfl) ?_
  refine lv_iconst (v := 0) hx hb d_Ru_start_6 (by decide) ?_
  refine r_put C K S 0 rfl rfl clOk_Ru 6 (by decide) wf_Ru_35 rfl (ty := .int) (v := .int 0) (by decide +kernel) rfl rfl (Nat.le_of_ble_eq_true rfl) (fs' := [.ref ru0, .ref ru1, .ref ru2, .ref ru3, .ref ru4, .int 0, .int 0, .int (nI x9), .int ln9, .int (nI sp9), .long cz9, .int gv9]) (ws' := [(h0, .inr (6, [.ref ru0, .ref ru1, .ref ru2, .ref ru3, .ref ru4, .int 0, .int 0, .int (nI x9), .int ln9, .int (nI sp9), .long cz9, .int gv9])), (ru1, .inl (k 0, 60, .inl (fun i => nI (CA i)))), (ru4, .inl (k 0, 60, .inl (fun i => nI (WB i)))), (ru2, .inl (k 0, 1080, .inl (fun i => nI (LN i))))]) rfl rfl d_Ru_start_7 (fun H locs S => ?_)
  refine lv_aload_n hx hb d_Ru_start_10 rfl (lv_at hl 0 rfl) ?_
  refine lv_iconst (v := 0) hx hb d_Ru_start_11 (by decide) ?_
  refine r_put C K S 0 rfl rfl clOk_Ru 9 (by decide) wf_Ru_38 rfl (ty := .int) (v := .int 0) (by decide +kernel) rfl rfl (Nat.le_of_ble_eq_true rfl) (fs' := [.ref ru0, .ref ru1, .ref ru2, .ref ru3, .ref ru4, .int 0, .int 0, .int (nI x9), .int ln9, .int 0, .long cz9, .int gv9]) (ws' := [(h0, .inr (6, [.ref ru0, .ref ru1, .ref ru2, .ref ru3, .ref ru4, .int 0, .int 0, .int (nI x9), .int ln9, .int 0, .long cz9, .int gv9])), (ru1, .inl (k 0, 60, .inl (fun i => nI (CA i)))), (ru4, .inl (k 0, 60, .inl (fun i => nI (WB i)))), (ru2, .inl (k 0, 1080, .inl (fun i => nI (LN i))))]) rfl rfl d_Ru_start_12 (fun H locs S => ?_)
  refine lv_aload_n hx hb d_Ru_start_15 rfl (lv_at hl 0 rfl) ?_
  refine lv_lconst (v := 0) hx hb d_Ru_start_16 (by decide) ?_
  refine r_put C K S 0 rfl rfl clOk_Ru 10 (by decide) wf_Ru_41 rfl (ty := .long) (v := .long 0) (by decide +kernel) rfl rfl (Nat.le_of_ble_eq_true rfl) (fs' := [.ref ru0, .ref ru1, .ref ru2, .ref ru3, .ref ru4, .int 0, .int 0, .int (nI x9), .int ln9, .int 0, .long 0, .int gv9]) (ws' := [(h0, .inr (6, [.ref ru0, .ref ru1, .ref ru2, .ref ru3, .ref ru4, .int 0, .int 0, .int (nI x9), .int ln9, .int 0, .long 0, .int gv9])), (ru1, .inl (k 0, 60, .inl (fun i => nI (CA i)))), (ru4, .inl (k 0, 60, .inl (fun i => nI (WB i)))), (ru2, .inl (k 0, 1080, .inl (fun i => nI (LN i))))]) rfl rfl d_Ru_start_17 (fun H locs S => ?_)
  refine lv_aload_n hx hb d_Ru_start_20 rfl (lv_at hl 0 rfl) ?_
  refine lv_bipush (v := (-2)) hx hb d_Ru_start_21 (by decide) ?_
  refine r_put C K S 0 rfl rfl clOk_Ru 11 (by decide) wf_Ru_24 rfl (ty := .int) (v := .int (-2)) (by decide +kernel) rfl rfl (Nat.le_of_ble_eq_true rfl) (fs' := [.ref ru0, .ref ru1, .ref ru2, .ref ru3, .ref ru4, .int 0, .int 0, .int (nI x9), .int ln9, .int 0, .long 0, .int (-2)]) (ws' := [(h0, .inr (6, [.ref ru0, .ref ru1, .ref ru2, .ref ru3, .ref ru4, .int 0, .int 0, .int (nI x9), .int ln9, .int 0, .long 0, .int (-2)])), (ru1, .inl (k 0, 60, .inl (fun i => nI (CA i)))), (ru4, .inl (k 0, 60, .inl (fun i => nI (WB i)))), (ru2, .inl (k 0, 1080, .inl (fun i => nI (LN i))))]) rfl rfl d_Ru_start_23 (fun H locs S => ?_)
  refine lv_aload_n hx hb d_Ru_start_26 rfl (lv_at hl 0 rfl) ?_
  refine lv_iload_n hx hb d_Ru_start_27 rfl (lv_at hl 1 rfl) ?_
  refine r_backv (wi := [(h0, .inr (6, [.ref ru0, .ref ru1, .ref ru2, .ref ru3, .ref ru4, .int 0, .int 0, .int (nI x9), .int ln9, .int 0, .long 0, .int (-2)])), (ru1, .inl (k 0, 60, .inl (fun i => nI (CA i)))), (ru4, .inl (k 0, 60, .inl (fun i => nI (WB i))))]) (wr := [(ru2, .inl (k 0, 1080, .inl (fun i => nI (LN i))))]) S hA [0, 1, 2] [3] rfl rfl (by decide) (by decide) (va_runV (As := [.int (nI f9)]) (rest := []) ⟨hx, hb, C.2.2.1, C.2.2.2.1, C.2.2.2.2.1⟩ (g_Ru_open l G k h0 _ f9 ru0 ru1 ru2 ru3 ru4 0 0 x9 ln9 0 0 (-2) CA WB (by decide)) (k_virt (n := 1) C wc_Ru_open rfl rfl wz_Ru wm_Ru_45 wn_Ru_open ws_Ru_open (by decide +kernel) ⟨(Nat.le_of_ble_eq_true rfl), (Nat.le_of_ble_eq_true rfl)⟩) (pr_nowV K S [0, 1, 2] (by decide) rfl 0 rfl rfl) rfl rfl hl.1 rfl (lv_room (Nat.le_of_ble_eq_true rfl)) d_Ru_start_28 ⟨(Nat.le_of_ble_eq_true rfl), (Nat.le_of_ble_eq_true rfl)⟩) (fun u1 H locs hw2 S => ?_)
  have S : Sw G A s.heap _ _ [(ru2, .inl (k 0, 1080, .inl (fun i => nI (LN i)))), (h0, .inr (6, [.ref ru0, .ref ru1, .ref ru2, .ref ru3, .ref ru4, .int (nI (0 + 1)), .int (nI 0), .int 0, .int ln9, .int (nI 0), .long (lN 0), .int (-2)])), (ru1, .inl (k 0, 60, .inl (fun i => nI ((va_up CA 0 f9) i)))), (ru4, .inl (k 0, 60, .inl (fun i => nI ((va_up WB 0 0) i))))] := S
  refine lv_aload_n hx hb d_Ru_start_31 rfl (lv_at hl 0 rfl) ?_
  refine r_get C K S 1 rfl rfl clOk_Ru 2 (by decide) wf_Ru_15 (v := .ref ru2) rfl d_Ru_start_32 ?_
  refine lv_iconst (v := 0) hx hb d_Ru_start_35 (by decide) ?_
  refine lv_iload_n hx hb d_Ru_start_36 rfl (lv_at hl 2 rfl) ?_
  refine r_iast C K S 0 rfl (i := 0) (x := nI a9) (by unfold vp_in; decide) (f' := fun i => nI (va_up LN 0 a9 i)) (ws' := [(ru2, .inl (k 0, 1080, .inl (fun i => nI (va_up LN 0 a9 i)))), (h0, .inr (6, [.ref ru0, .ref ru1, .ref ru2, .ref ru3, .ref ru4, .int (nI (0 + 1)), .int (nI 0), .int 0, .int ln9, .int (nI 0), .long (lN 0), .int (-2)])), (ru1, .inl (k 0, 60, .inl (fun i => nI ((va_up CA 0 f9) i)))), (ru4, .inl (k 0, 60, .inl (fun i => nI ((va_up WB 0 0) i))))]) (show upd _ (0 : Int32).toNatClampNeg (nI a9) = _ from upd_nI LN (j := 0) (by omega) a9) rfl d_Ru_start_37 (fun H locs S => ?_)
  refine lv_aload_n hx hb d_Ru_start_38 rfl (lv_at hl 0 rfl) ?_
  refine r_get C K S 1 rfl rfl clOk_Ru 2 (by decide) wf_Ru_15 (v := .ref ru2) rfl d_Ru_start_39 ?_
  refine lv_iconst (v := 1) hx hb d_Ru_start_42 (by decide) ?_
  refine lv_iload_n hx hb d_Ru_start_43 rfl (lv_at hl 3 rfl) ?_
  refine r_iast C K S 0 rfl (i := 1) (x := nI b9) (by unfold vp_in; decide) (f' := fun i => nI (va_up (va_up LN 0 a9) 1 b9 i)) (ws' := [(ru2, .inl (k 0, 1080, .inl (fun i => nI (va_up (va_up LN 0 a9) 1 b9 i)))), (h0, .inr (6, [.ref ru0, .ref ru1, .ref ru2, .ref ru3, .ref ru4, .int (nI (0 + 1)), .int (nI 0), .int 0, .int ln9, .int (nI 0), .long (lN 0), .int (-2)])), (ru1, .inl (k 0, 60, .inl (fun i => nI ((va_up CA 0 f9) i)))), (ru4, .inl (k 0, 60, .inl (fun i => nI ((va_up WB 0 0) i))))]) (show upd _ (1 : Int32).toNatClampNeg (nI b9) = _ from upd_nI (va_up LN 0 a9) (j := 1) (by omega) b9) rfl d_Ru_start_44 (fun H locs S => ?_)
  refine lv_aload_n hx hb d_Ru_start_45 rfl (lv_at hl 0 rfl) ?_
  refine r_get C K S 1 rfl rfl clOk_Ru 2 (by decide) wf_Ru_15 (v := .ref ru2) rfl d_Ru_start_46 ?_
  refine lv_iconst (v := 2) hx hb d_Ru_start_49 (by decide) ?_
  refine lv_iload hx hb d_Ru_start_50 (lv_at hl 4 rfl) ?_
  refine r_iast C K S 0 rfl (i := 2) (x := nI e9) (by unfold vp_in; decide) (f' := fun i => nI (va_up (va_up (va_up LN 0 a9) 1 b9) 2 e9 i)) (ws' := [(ru2, .inl (k 0, 1080, .inl (fun i => nI (va_up (va_up (va_up LN 0 a9) 1 b9) 2 e9 i)))), (h0, .inr (6, [.ref ru0, .ref ru1, .ref ru2, .ref ru3, .ref ru4, .int (nI (0 + 1)), .int (nI 0), .int 0, .int ln9, .int (nI 0), .long (lN 0), .int (-2)])), (ru1, .inl (k 0, 60, .inl (fun i => nI ((va_up CA 0 f9) i)))), (ru4, .inl (k 0, 60, .inl (fun i => nI ((va_up WB 0 0) i))))]) (show upd _ (2 : Int32).toNatClampNeg (nI e9) = _ from upd_nI (va_up (va_up LN 0 a9) 1 b9) (j := 2) (by omega) e9) rfl d_Ru_start_52 (fun H locs S => ?_)
  exact r_vret C K () trivial (S.sub [1, 2, 3, 0] (by decide) rfl) d_Ru_start_53 (Nat.le_of_ble_eq_true rfl) (Nat.le_of_ble_eq_true rfl)
end
section
theorem d_Ru_hand_0 : decode c_Ru_hand 0 = .ok (.aload_n 0, 1) := by decide +kernel
theorem d_Ru_hand_1 : decode c_Ru_hand 1 = .ok (.iconst 0, 1) := by decide +kernel
theorem d_Ru_hand_2 : decode c_Ru_hand 2 = .ok (.invokevirtual 71, 3) := by decide +kernel
theorem d_Ru_hand_5 : decode c_Ru_hand 5 = .ok (.istore_n 2, 1) := by decide +kernel
theorem d_Ru_hand_6 : decode c_Ru_hand 6 = .ok (.aload_n 0, 1) := by decide +kernel
theorem d_Ru_hand_7 : decode c_Ru_hand 7 = .ok (.getfield 59, 3) := by decide +kernel
theorem d_Ru_hand_10 : decode c_Ru_hand 10 = .ok (.istore_n 3, 1) := by decide +kernel
theorem d_Ru_hand_11 : decode c_Ru_hand 11 = .ok (.aload_n 1, 1) := by decide +kernel
theorem d_Ru_hand_12 : decode c_Ru_hand 12 = .ok (.iload_n 3, 1) := by decide +kernel
theorem d_Ru_hand_13 : decode c_Ru_hand 13 = .ok (.invokevirtual 68, 3) := by decide +kernel
theorem d_Ru_hand_16 : decode c_Ru_hand 16 = .ok (.istore 4, 2) := by decide +kernel
theorem d_Ru_hand_18 : decode c_Ru_hand 18 = .ok (.aload_n 0, 1) := by decide +kernel
theorem d_Ru_hand_19 : decode c_Ru_hand 19 = .ok (.iload 4, 2) := by decide +kernel
theorem d_Ru_hand_21 : decode c_Ru_hand 21 = .ok (.invokevirtual 45, 3) := by decide +kernel
theorem d_Ru_hand_24 : decode c_Ru_hand 24 = .ok (.aload_n 0, 1) := by decide +kernel
theorem d_Ru_hand_25 : decode c_Ru_hand 25 = .ok (.iconst 0, 1) := by decide +kernel
theorem d_Ru_hand_26 : decode c_Ru_hand 26 = .ok (.invokevirtual 71, 3) := by decide +kernel
theorem d_Ru_hand_29 : decode c_Ru_hand 29 = .ok (.istore 5, 2) := by decide +kernel
theorem d_Ru_hand_31 : decode c_Ru_hand 31 = .ok (.iconst 0, 1) := by decide +kernel
theorem d_Ru_hand_32 : decode c_Ru_hand 32 = .ok (.istore 6, 2) := by decide +kernel
theorem d_Ru_hand_34 : decode c_Ru_hand 34 = .ok (.iload 6, 2) := by decide +kernel
theorem d_Ru_hand_36 : decode c_Ru_hand 36 = .ok (.aload_n 0, 1) := by decide +kernel
theorem d_Ru_hand_37 : decode c_Ru_hand 37 = .ok (.getfield 28, 3) := by decide +kernel
theorem d_Ru_hand_40 : decode c_Ru_hand 40 = .ok (.iload 4, 2) := by decide +kernel
theorem d_Ru_hand_42 : decode c_Ru_hand 42 = .ok (.aaload, 1) := by decide +kernel
theorem d_Ru_hand_43 : decode c_Ru_hand 43 = .ok (.getfield 91, 3) := by decide +kernel
theorem d_Ru_hand_46 : decode c_Ru_hand 46 = .ok (.if_icmp .ge 33, 3) := by decide +kernel
theorem d_Ru_hand_49 : decode c_Ru_hand 49 = .ok (.aload_n 0, 1) := by decide +kernel
theorem d_Ru_hand_50 : decode c_Ru_hand 50 = .ok (.getfield 15, 3) := by decide +kernel
theorem d_Ru_hand_53 : decode c_Ru_hand 53 = .ok (.iload 5, 2) := by decide +kernel
theorem d_Ru_hand_55 : decode c_Ru_hand 55 = .ok (.iload 6, 2) := by decide +kernel
theorem d_Ru_hand_57 : decode c_Ru_hand 57 = .ok (.iadd, 1) := by decide +kernel
theorem d_Ru_hand_58 : decode c_Ru_hand 58 = .ok (.aload_n 0, 1) := by decide +kernel
theorem d_Ru_hand_59 : decode c_Ru_hand 59 = .ok (.getfield 15, 3) := by decide +kernel
theorem d_Ru_hand_62 : decode c_Ru_hand 62 = .ok (.iload_n 2, 1) := by decide +kernel
theorem d_Ru_hand_63 : decode c_Ru_hand 63 = .ok (.aload_n 1, 1) := by decide +kernel
theorem d_Ru_hand_64 : decode c_Ru_hand 64 = .ok (.iload_n 3, 1) := by decide +kernel
theorem d_Ru_hand_65 : decode c_Ru_hand 65 = .ok (.iload 6, 2) := by decide +kernel
theorem d_Ru_hand_67 : decode c_Ru_hand 67 = .ok (.invokevirtual 94, 3) := by decide +kernel
theorem d_Ru_hand_70 : decode c_Ru_hand 70 = .ok (.iadd, 1) := by decide +kernel
theorem d_Ru_hand_71 : decode c_Ru_hand 71 = .ok (.iaload, 1) := by decide +kernel
theorem d_Ru_hand_72 : decode c_Ru_hand 72 = .ok (.iastore, 1) := by decide +kernel
theorem d_Ru_hand_73 : decode c_Ru_hand 73 = .ok (.iinc 6 1, 3) := by decide +kernel
theorem d_Ru_hand_76 : decode c_Ru_hand 76 = .ok (.goto (-42), 3) := by decide +kernel
theorem d_Ru_hand_79 : decode c_Ru_hand 79 = .ok (.return_, 1) := by decide +kernel
set_option maxRecDepth 100000 in
set_option maxHeartbeats 16000000 in
/-- hand -/
theorem g_Ru_hand_s (l : Launch) (G : va_G) (k : Nat → ClassId) (h0 : Nat) (s0 : Nat) (f9 : Nat) (p9 : Nat) (kn : Nat) (ru0 : Nat) (ru1 : Nat) (ru2 : Nat) (ru3 : Nat) (ru4 : Nat) (c9 : Nat) (w9 : Nat) (x9 : Nat) (ln9 : Int32) (sp9 : Nat) (cs9 : Nat) (gv9 : Int32) (ad : Nat → Nat → Nat) (wd : Nat → Int32) (tk : Nat → Nat) (ct : Nat → Nat) (no : Nat → Nat) (ta : Nat → Nat → Nat → Nat) (CA : Nat → Nat) (WB : Nat → Nat) (LN : Nat → Nat) (vs : Nat → Nat) (hc : 1 ≤ c9) (hc2 : c9 < 60) (hxx : x9 < 40) (hg4 : f9 < 4) (hp0 : ta f9 0 x9 = p9) (hpb : p9 + 1 < 200) (hpt : p9 + 2 + tk f9 ≤ 200) (hg : wdF wd f9 (p9 + 1) = nI f9) (hvs : ∀ j, j < tk f9 → wdF wd f9 (p9 + 2 + j) = nI (vs j) ∧ vs j < kn) (hkn : kn ≤ 18) (htk : tk f9 ≤ 3) : CV l y_Ru_hand c_Ru_hand 7 { frames := 1, cells := 0, slots := 0, locals := 22 } [.ref h0, .ref (ad f9 0)] G k s0 [(h0, .inr (6, [.ref ru0, .ref ru1, .ref ru2, .ref ru3, .ref ru4, .int (nI c9), .int (nI w9), .int (nI x9), .int ln9, .int (nI sp9), .long (lN cs9), .int gv9])), (ru1, .inl (k 0, 60, .inl (fun i => nI (CA i)))), (ru4, .inl (k 0, 60, .inl (fun i => nI (WB i)))), (ru2, .inl (k 0, 1080, .inl (fun i => nI (LN i)))), ((ad f9 0), .inr (4, [.ref (ad f9 1), .ref (ad f9 2), .ref (ad f9 3), .ref (ad f9 4), .ref (ad f9 5), .ref (ad f9 6), .int (nI (tk f9)), .int (nI (ct f9)), .int (nI (no f9))])), ((ad f9 1), .inl (k 0, 200, .inl (wdF wd f9))), ((ad f9 2), .inl (k 0, 40, .inl (fun i => nI (ta f9 0 i)))), (ru0, .inl (k 3, 4, .inr (.inr (.inr (.inr (fun g => some (ad g 0)))))))] (fun (u : Nat → Nat) => (∀ i, i < 18 * c9 → u i = LN i) ∧ ∀ j, j < tk f9 → u (18 * c9 + j) = LN (18 * (c9 - 1) + vs j)) (fun u => [(h0, .inr (6, [.ref ru0, .ref ru1, .ref ru2, .ref ru3, .ref ru4, .int (nI (c9 + 1)), .int (nI w9), .int 0, .int ln9, .int (nI sp9), .long (lN cs9), .int gv9])), (ru1, .inl (k 0, 60, .inl (fun i => nI ((va_up CA c9 f9) i)))), (ru4, .inl (k 0, 60, .inl (fun i => nI ((va_up WB c9 w9) i)))), (ru2, .inl (k 0, 1080, .inl (fun i => nI (u i)))), ((ad f9 0), .inr (4, [.ref (ad f9 1), .ref (ad f9 2), .ref (ad f9 3), .ref (ad f9 4), .ref (ad f9 5), .ref (ad f9 6), .int (nI (tk f9)), .int (nI (ct f9)), .int (nI (no f9))])), ((ad f9 1), .inl (k 0, 200, .inl (wdF wd f9))), ((ad f9 2), .inl (k 0, 40, .inl (fun i => nI (ta f9 0 i)))), (ru0, .inl (k 3, 4, .inr (.inr (.inr (.inr (fun g => some (ad g 0)))))))]) 0 0 := by
  refine met_start (by decide) (Nat.le_of_ble_eq_true rfl) ?_
  intro p e s m below meth c C K hA hsz S ls hl
  generalize va_A [(h0, .inr (6, [.ref ru0, .ref ru1, .ref ru2, .ref ru3, .ref ru4, .int (nI c9), .int (nI w9), .int (nI x9), .int ln9, .int (nI sp9), .long (lN cs9), .int gv9])), (ru1, .inl (k 0, 60, .inl (fun i => nI (CA i)))), (ru4, .inl (k 0, 60, .inl (fun i => nI (WB i)))), (ru2, .inl (k 0, 1080, .inl (fun i => nI (LN i)))), ((ad f9 0), .inr (4, [.ref (ad f9 1), .ref (ad f9 2), .ref (ad f9 3), .ref (ad f9 4), .ref (ad f9 5), .ref (ad f9 6), .int (nI (tk f9)), .int (nI (ct f9)), .int (nI (no f9))])), ((ad f9 1), .inl (k 0, 200, .inl (wdF wd f9))), ((ad f9 2), .inl (k 0, 40, .inl (fun i => nI (ta f9 0 i)))), (ru0, .inl (k 3, 4, .inr (.inr (.inr (.inr (fun g => some (ad g 0)))))))] s0 = A at hA S ⊢
  have hx := C.1
  have hb := C.2.1
  have hl : lv_has ls 7 [(0, .ref h0), (1, .ref (ad f9 0))] := hl
  refine lv_aload_n hx hb d_Ru_hand_0 rfl (lv_at hl 0 rfl) ?_
  refine lv_iconst (v := 0) hx hb d_Ru_hand_1 (by decide) ?_
  refine r_backi (wi := [(h0, .inr (6, [.ref ru0, .ref ru1, .ref ru2, .ref ru3, .ref ru4, .int (nI c9), .int (nI w9), .int (nI x9), .int ln9, .int (nI sp9), .long (lN cs9), .int gv9]))]) (wr := [(ru1, .inl (k 0, 60, .inl (fun i => nI (CA i)))), (ru4, .inl (k 0, 60, .inl (fun i => nI (WB i)))), (ru2, .inl (k 0, 1080, .inl (fun i => nI (LN i)))), ((ad f9 0), .inr (4, [.ref (ad f9 1), .ref (ad f9 2), .ref (ad f9 3), .ref (ad f9 4), .ref (ad f9 5), .ref (ad f9 6), .int (nI (tk f9)), .int (nI (ct f9)), .int (nI (no f9))])), ((ad f9 1), .inl (k 0, 200, .inl (wdF wd f9))), ((ad f9 2), .inl (k 0, 40, .inl (fun i => nI (ta f9 0 i)))), (ru0, .inl (k 3, 4, .inr (.inr (.inr (.inr (fun g => some (ad g 0)))))))]) S hA [0] [1, 2, 3, 4, 5, 6, 7] rfl rfl (by decide) (by decide) (va_runV (As := [.int 0]) (rest := []) ⟨hx, hb, C.2.2.1, C.2.2.2.1, C.2.2.2.2.1⟩ (g_Ru_slot l G k h0 _ 0 ru0 ru1 ru2 ru3 ru4 c9 w9 x9 ln9 sp9 cs9 gv9 (by omega)) (k_virt (n := 1) C wc_Ru_slot rfl rfl wz_Ru wm_Ru_71 wn_Ru_slot ws_Ru_slot (by decide +kernel) ⟨(Nat.le_of_ble_eq_true rfl), (Nat.le_of_ble_eq_true rfl)⟩) (pr_nowV K S [0] (by decide) rfl 0 rfl rfl) rfl rfl hl.1 rfl (lv_room (Nat.le_of_ble_eq_true rfl)) d_Ru_hand_2 ⟨(Nat.le_of_ble_eq_true rfl), (Nat.le_of_ble_eq_true rfl)⟩) (fun r3 u1 H locs hw2 S => ?_)
  have S : Sw G A s.heap _ _ [(ru1, .inl (k 0, 60, .inl (fun i => nI (CA i)))), (ru4, .inl (k 0, 60, .inl (fun i => nI (WB i)))), (ru2, .inl (k 0, 1080, .inl (fun i => nI (LN i)))), ((ad f9 0), .inr (4, [.ref (ad f9 1), .ref (ad f9 2), .ref (ad f9 3), .ref (ad f9 4), .ref (ad f9 5), .ref (ad f9 6), .int (nI (tk f9)), .int (nI (ct f9)), .int (nI (no f9))])), ((ad f9 1), .inl (k 0, 200, .inl (wdF wd f9))), ((ad f9 2), .inl (k 0, 40, .inl (fun i => nI (ta f9 0 i)))), (ru0, .inl (k 3, 4, .inr (.inr (.inr (.inr (fun g => some (ad g 0))))))), (h0, .inr (6, [.ref ru0, .ref ru1, .ref ru2, .ref ru3, .ref ru4, .int (nI c9), .int (nI w9), .int (nI x9), .int ln9, .int (nI sp9), .long (lN cs9), .int gv9]))] := S
  obtain ⟨hw20, hp4⟩ := hw2
  obtain rfl : r3 = nI (18 * (c9 - 1) + 0) := hw20
  refine lv_istore_n (lv' := [(2, .int (nI (18 * (c9 - 1) + 0))), (0, .ref h0), (1, .ref (ad f9 0))]) hx hb d_Ru_hand_5 rfl hl (by decide) rfl (fun ls hl => ?_)
  refine lv_aload_n hx hb d_Ru_hand_6 rfl (lv_at hl 1 rfl) ?_
  refine r_get C K S 7 rfl rfl clOk_Ru 7 (by decide) wf_Ru_59 (v := .int (nI x9)) rfl d_Ru_hand_7 ?_
  refine lv_istore_n (lv' := [(3, .int (nI x9)), (2, .int (nI (18 * (c9 - 1) + 0))), (0, .ref h0), (1, .ref (ad f9 0))]) hx hb d_Ru_hand_10 rfl hl (by decide) rfl (fun ls hl => ?_)
  refine lv_aload_n hx hb d_Ru_hand_11 rfl (lv_at hl 3 rfl) ?_
  refine lv_iload_n hx hb d_Ru_hand_12 rfl (lv_at hl 0 rfl) ?_
  refine r_backi (wi := [((ad f9 0), .inr (4, [.ref (ad f9 1), .ref (ad f9 2), .ref (ad f9 3), .ref (ad f9 4), .ref (ad f9 5), .ref (ad f9 6), .int (nI (tk f9)), .int (nI (ct f9)), .int (nI (no f9))])), ((ad f9 1), .inl (k 0, 200, .inl (wdF wd f9))), ((ad f9 2), .inl (k 0, 40, .inl (fun i => nI (ta f9 0 i))))]) (wr := [(ru1, .inl (k 0, 60, .inl (fun i => nI (CA i)))), (ru4, .inl (k 0, 60, .inl (fun i => nI (WB i)))), (ru2, .inl (k 0, 1080, .inl (fun i => nI (LN i)))), (ru0, .inl (k 3, 4, .inr (.inr (.inr (.inr (fun g => some (ad g 0))))))), (h0, .inr (6, [.ref ru0, .ref ru1, .ref ru2, .ref ru3, .ref ru4, .int (nI c9), .int (nI w9), .int (nI x9), .int ln9, .int (nI sp9), .long (lN cs9), .int gv9]))]) S hA [3, 4, 5] [0, 1, 2, 6, 7] rfl rfl (by decide) (by decide) (va_runVN (As := [.int (nI x9)]) (rest := []) ⟨hx, hb, C.2.2.1, C.2.2.2.1, C.2.2.2.2.1⟩ (g_Bo_operand l G k (ad f9 0) _ x9 (ad f9 1) (ad f9 2) (ad f9 3) (ad f9 4) (ad f9 5) (ad f9 6) (tk f9) (ct f9) (no f9) (wdF wd f9) (ta f9 0) hxx (by rw [hp0]; omega)) (k_virtN (n := 1) C K wc_Bo_operand rfl rfl wz_Bo xm_Ru_68 wn_Bo_operand ws_Bo_operand (by decide +kernel) ⟨(Nat.le_of_ble_eq_true rfl), (Nat.le_of_ble_eq_true rfl)⟩) (pr_nowV K S [3, 4, 5] (by decide) rfl 3 rfl rfl) rfl rfl hl.1 rfl (lv_room (Nat.le_of_ble_eq_true rfl)) d_Ru_hand_13 ⟨(Nat.le_of_ble_eq_true rfl), (Nat.le_of_ble_eq_true rfl)⟩) (fun r7 u5 H locs hw6 S => ?_)
  have S : Sw G A s.heap _ _ [(ru1, .inl (k 0, 60, .inl (fun i => nI (CA i)))), (ru4, .inl (k 0, 60, .inl (fun i => nI (WB i)))), (ru2, .inl (k 0, 1080, .inl (fun i => nI (LN i)))), (ru0, .inl (k 3, 4, .inr (.inr (.inr (.inr (fun g => some (ad g 0))))))), (h0, .inr (6, [.ref ru0, .ref ru1, .ref ru2, .ref ru3, .ref ru4, .int (nI c9), .int (nI w9), .int (nI x9), .int ln9, .int (nI sp9), .long (lN cs9), .int gv9])), ((ad f9 0), .inr (4, [.ref (ad f9 1), .ref (ad f9 2), .ref (ad f9 3), .ref (ad f9 4), .ref (ad f9 5), .ref (ad f9 6), .int (nI (tk f9)), .int (nI (ct f9)), .int (nI (no f9))])), ((ad f9 1), .inl (k 0, 200, .inl (wdF wd f9))), ((ad f9 2), .inl (k 0, 40, .inl (fun i => nI (ta f9 0 i))))] := S
  obtain ⟨hw60, hp8⟩ := hw6
  obtain rfl : r7 = (wdF wd f9) ((ta f9 0) x9 + 1) := hw60
  rw [hp0, hg]
  refine lv_istore (lv' := [(4, .int (nI f9)), (3, .int (nI x9)), (2, .int (nI (18 * (c9 - 1) + 0))), (0, .ref h0), (1, .ref (ad f9 0))]) hx hb d_Ru_hand_16 hl (by decide) rfl (fun ls hl => ?_)
  refine lv_aload_n hx hb d_Ru_hand_18 rfl (lv_at hl 3 rfl) ?_
  refine lv_iload hx hb d_Ru_hand_19 (lv_at hl 0 rfl) ?_
  refine r_backv (wi := [(h0, .inr (6, [.ref ru0, .ref ru1, .ref ru2, .ref ru3, .ref ru4, .int (nI c9), .int (nI w9), .int (nI x9), .int ln9, .int (nI sp9), .long (lN cs9), .int gv9])), (ru1, .inl (k 0, 60, .inl (fun i => nI (CA i)))), (ru4, .inl (k 0, 60, .inl (fun i => nI (WB i))))]) (wr := [(ru2, .inl (k 0, 1080, .inl (fun i => nI (LN i)))), (ru0, .inl (k 3, 4, .inr (.inr (.inr (.inr (fun g => some (ad g 0))))))), ((ad f9 0), .inr (4, [.ref (ad f9 1), .ref (ad f9 2), .ref (ad f9 3), .ref (ad f9 4), .ref (ad f9 5), .ref (ad f9 6), .int (nI (tk f9)), .int (nI (ct f9)), .int (nI (no f9))])), ((ad f9 1), .inl (k 0, 200, .inl (wdF wd f9))), ((ad f9 2), .inl (k 0, 40, .inl (fun i => nI (ta f9 0 i))))]) S hA [4, 0, 1] [2, 3, 5, 6, 7] rfl rfl (by decide) (by decide) (va_runV (As := [.int (nI f9)]) (rest := []) ⟨hx, hb, C.2.2.1, C.2.2.2.1, C.2.2.2.2.1⟩ (g_Ru_open l G k h0 _ f9 ru0 ru1 ru2 ru3 ru4 c9 w9 x9 ln9 sp9 cs9 gv9 CA WB hc2) (k_virt (n := 1) C wc_Ru_open rfl rfl wz_Ru wm_Ru_45 wn_Ru_open ws_Ru_open (by decide +kernel) ⟨(Nat.le_of_ble_eq_true rfl), (Nat.le_of_ble_eq_true rfl)⟩) (pr_nowV K S [4, 0, 1] (by decide) rfl 4 rfl rfl) rfl rfl hl.1 rfl (lv_room (Nat.le_of_ble_eq_true rfl)) d_Ru_hand_21 ⟨(Nat.le_of_ble_eq_true rfl), (Nat.le_of_ble_eq_true rfl)⟩) (fun u9 H locs hw10 S => ?_)
  have S : Sw G A s.heap _ _ [(ru2, .inl (k 0, 1080, .inl (fun i => nI (LN i)))), (ru0, .inl (k 3, 4, .inr (.inr (.inr (.inr (fun g => some (ad g 0))))))), ((ad f9 0), .inr (4, [.ref (ad f9 1), .ref (ad f9 2), .ref (ad f9 3), .ref (ad f9 4), .ref (ad f9 5), .ref (ad f9 6), .int (nI (tk f9)), .int (nI (ct f9)), .int (nI (no f9))])), ((ad f9 1), .inl (k 0, 200, .inl (wdF wd f9))), ((ad f9 2), .inl (k 0, 40, .inl (fun i => nI (ta f9 0 i)))), (h0, .inr (6, [.ref ru0, .ref ru1, .ref ru2, .ref ru3, .ref ru4, .int (nI (c9 + 1)), .int (nI w9), .int 0, .int ln9, .int (nI sp9), .long (lN cs9), .int gv9])), (ru1, .inl (k 0, 60, .inl (fun i => nI ((va_up CA c9 f9) i)))), (ru4, .inl (k 0, 60, .inl (fun i => nI ((va_up WB c9 w9) i))))] := S
  refine lv_aload_n hx hb d_Ru_hand_24 rfl (lv_at hl 3 rfl) ?_
  refine lv_iconst (v := 0) hx hb d_Ru_hand_25 (by decide) ?_
  refine r_backi (wi := [(h0, .inr (6, [.ref ru0, .ref ru1, .ref ru2, .ref ru3, .ref ru4, .int (nI (c9 + 1)), .int (nI w9), .int 0, .int ln9, .int (nI sp9), .long (lN cs9), .int gv9]))]) (wr := [(ru2, .inl (k 0, 1080, .inl (fun i => nI (LN i)))), (ru0, .inl (k 3, 4, .inr (.inr (.inr (.inr (fun g => some (ad g 0))))))), ((ad f9 0), .inr (4, [.ref (ad f9 1), .ref (ad f9 2), .ref (ad f9 3), .ref (ad f9 4), .ref (ad f9 5), .ref (ad f9 6), .int (nI (tk f9)), .int (nI (ct f9)), .int (nI (no f9))])), ((ad f9 1), .inl (k 0, 200, .inl (wdF wd f9))), ((ad f9 2), .inl (k 0, 40, .inl (fun i => nI (ta f9 0 i)))), (ru1, .inl (k 0, 60, .inl (fun i => nI ((va_up CA c9 f9) i)))), (ru4, .inl (k 0, 60, .inl (fun i => nI ((va_up WB c9 w9) i))))]) S hA [5] [0, 1, 2, 3, 4, 6, 7] rfl rfl (by decide) (by decide) (va_runV (As := [.int 0]) (rest := []) ⟨hx, hb, C.2.2.1, C.2.2.2.1, C.2.2.2.2.1⟩ (g_Ru_slot l G k h0 _ 0 ru0 ru1 ru2 ru3 ru4 (c9 + 1) w9 0 ln9 sp9 cs9 gv9 (by omega)) (k_virt (n := 1) C wc_Ru_slot rfl rfl wz_Ru wm_Ru_71 wn_Ru_slot ws_Ru_slot (by decide +kernel) ⟨(Nat.le_of_ble_eq_true rfl), (Nat.le_of_ble_eq_true rfl)⟩) (pr_nowV K S [5] (by decide) rfl 5 rfl rfl) rfl rfl hl.1 rfl (lv_room (Nat.le_of_ble_eq_true rfl)) d_Ru_hand_26 ⟨(Nat.le_of_ble_eq_true rfl), (Nat.le_of_ble_eq_true rfl)⟩) (fun r13 u11 H locs hw12 S => ?_)
  have S : Sw G A s.heap _ _ [(ru2, .inl (k 0, 1080, .inl (fun i => nI (LN i)))), (ru0, .inl (k 3, 4, .inr (.inr (.inr (.inr (fun g => some (ad g 0))))))), ((ad f9 0), .inr (4, [.ref (ad f9 1), .ref (ad f9 2), .ref (ad f9 3), .ref (ad f9 4), .ref (ad f9 5), .ref (ad f9 6), .int (nI (tk f9)), .int (nI (ct f9)), .int (nI (no f9))])), ((ad f9 1), .inl (k 0, 200, .inl (wdF wd f9))), ((ad f9 2), .inl (k 0, 40, .inl (fun i => nI (ta f9 0 i)))), (ru1, .inl (k 0, 60, .inl (fun i => nI ((va_up CA c9 f9) i)))), (ru4, .inl (k 0, 60, .inl (fun i => nI ((va_up WB c9 w9) i)))), (h0, .inr (6, [.ref ru0, .ref ru1, .ref ru2, .ref ru3, .ref ru4, .int (nI (c9 + 1)), .int (nI w9), .int 0, .int ln9, .int (nI sp9), .long (lN cs9), .int gv9]))] := S
  obtain ⟨hw120, hp14⟩ := hw12
  obtain rfl : r13 = nI (18 * ((c9 + 1) - 1) + 0) := hw120
  refine lv_istore (lv' := [(5, .int (nI (18 * ((c9 + 1) - 1) + 0))), (4, .int (nI f9)), (3, .int (nI x9)), (2, .int (nI (18 * (c9 - 1) + 0))), (0, .ref h0), (1, .ref (ad f9 0))]) hx hb d_Ru_hand_29 hl (by decide) rfl (fun ls hl => ?_)
  refine lv_iconst (v := 0) hx hb d_Ru_hand_31 (by decide) ?_
  refine lv_istore (lv' := [(6, .int 0), (5, .int (nI (18 * ((c9 + 1) - 1) + 0))), (4, .int (nI f9)), (3, .int (nI x9)), (2, .int (nI (18 * (c9 - 1) + 0))), (0, .ref h0), (1, .ref (ad f9 0))]) hx hb d_Ru_hand_32 hl (by decide) rfl (fun ls hl => ?_)
  have lp : ∀ d9, ∀ (i9 : Nat), ∀ (L8 : Nat → Nat), (tk f9 - i9) < d9 → (i9 ≤ tk f9) → (∀ i, i < 18 * c9 → L8 i = LN i) → (∀ j, j < i9 → L8 (18 * c9 + j) = LN (18 * (c9 - 1) + vs j)) → ∀ (H : Heap) (locs : List Loc), Sw G A s.heap H locs [(h0, .inr (6, [.ref ru0, .ref ru1, .ref ru2, .ref ru3, .ref ru4, .int (nI (c9 + 1)), .int (nI w9), .int 0, .int ln9, .int (nI sp9), .long (lN cs9), .int gv9])), (ru1, .inl (k 0, 60, .inl (fun i => nI ((va_up CA c9 f9) i)))), (ru4, .inl (k 0, 60, .inl (fun i => nI ((va_up WB c9 w9) i)))), (ru2, .inl (k 0, 1080, .inl (fun i => nI (L8 i)))), ((ad f9 0), .inr (4, [.ref (ad f9 1), .ref (ad f9 2), .ref (ad f9 3), .ref (ad f9 4), .ref (ad f9 5), .ref (ad f9 6), .int (nI (tk f9)), .int (nI (ct f9)), .int (nI (no f9))])), ((ad f9 1), .inl (k 0, 200, .inl (wdF wd f9))), ((ad f9 2), .inl (k 0, 40, .inl (fun i => nI (ta f9 0 i)))), (ru0, .inl (k 3, 4, .inr (.inr (.inr (.inr (fun g => some (ad g 0)))))))] → ∀ ls : Array Slot, lv_has ls 7 [(6, .int (nI i9)), (5, .int (nI (18 * ((c9 + 1) - 1) + 0))), (4, .int (nI f9)), (3, .int (nI x9)), (2, .int (nI (18 * (c9 - 1) + 0))), (0, .ref h0), (1, .ref (ad f9 0))] → W p l e { frames := 1, cells := 0, slots := 0, locals := 22 } s m [Value.ref h0, Value.ref (ad f9 0)].toArray below meth c H locs 0 0 (MQ below (va_Qv (fun (u : Nat → Nat) => (∀ i, i < 18 * c9 → u i = LN i) ∧ ∀ j, j < tk f9 → u (18 * c9 + j) = LN (18 * (c9 - 1) + vs j)) (Po G k A (fun u => [(h0, .inr (6, [.ref ru0, .ref ru1, .ref ru2, .ref ru3, .ref ru4, .int (nI (c9 + 1)), .int (nI w9), .int 0, .int ln9, .int (nI sp9), .long (lN cs9), .int gv9])), (ru1, .inl (k 0, 60, .inl (fun i => nI ((va_up CA c9 f9) i)))), (ru4, .inl (k 0, 60, .inl (fun i => nI ((va_up WB c9 w9) i)))), (ru2, .inl (k 0, 1080, .inl (fun i => nI (u i)))), ((ad f9 0), .inr (4, [.ref (ad f9 1), .ref (ad f9 2), .ref (ad f9 3), .ref (ad f9 4), .ref (ad f9 5), .ref (ad f9 6), .int (nI (tk f9)), .int (nI (ct f9)), .int (nI (no f9))])), ((ad f9 1), .inl (k 0, 200, .inl (wdF wd f9))), ((ad f9 2), .inl (k 0, 40, .inl (fun i => nI (ta f9 0 i)))), (ru0, .inl (k 3, 4, .inr (.inr (.inr (.inr (fun g => some (ad g 0)))))))])) A) [Value.ref h0, Value.ref (ad f9 0)].toArray s 0 0 A) (F0 m 34 ls []) := by
    intro d9
    induction d9 with
    | zero => intro i9 L8 hm; exact absurd hm (Nat.not_lt_zero _)
    | succ d9 ih_lp =>
      intro i9 L8 hm hi h1 h2 H locs S ls hl
      refine lv_iload hx hb d_Ru_hand_34 (lv_at hl 0 rfl) ?_
      refine lv_aload_n hx hb d_Ru_hand_36 rfl (lv_at hl 5 rfl) ?_
      refine r_get C K S 0 rfl rfl clOk_Ru 0 (by decide) wf_Ru_28 (v := .ref ru0) rfl d_Ru_hand_37 ?_
      refine lv_iload hx hb d_Ru_hand_40 (lv_at hl 2 rfl) ?_
      refine r_aald C K S 7 3 rfl rfl (i := nI f9) (show vp_in (nI f9) _ from vp_in_nI (n := f9) (by omega) (by decide)) (b := (ad f9 0)) (by rw [nI_clamp (by omega)]) d_Ru_hand_42 ?_
      refine r_getN C K S 4 rfl rfl clOk_Bo 6 (by decide) xf_Ru_91 (v := .int (nI (tk f9))) rfl d_Ru_hand_43 ?_
      refine z_icmp_ge (a := i9) (b := (tk f9)) (tgt := 79) hx hb d_Ru_hand_46 (by decide) (by omega) (by omega) (fun hc15 => ?_) (fun hc15 => ?_)
      · exact r_vret C K L8 ⟨h1, fun j hj => h2 j (by omega)⟩ (S.sub [0, 1, 2, 3, 4, 5, 6, 7] (by decide) rfl) d_Ru_hand_79 (Nat.le_of_ble_eq_true rfl) (Nat.le_of_ble_eq_true rfl)
      · refine lv_aload_n hx hb d_Ru_hand_49 rfl (lv_at hl 5 rfl) ?_
        refine r_get C K S 0 rfl rfl clOk_Ru 2 (by decide) wf_Ru_15 (v := .ref ru2) rfl d_Ru_hand_50 ?_
        refine lv_iload hx hb d_Ru_hand_53 (lv_at hl 1 rfl) ?_
        refine lv_iload hx hb d_Ru_hand_55 (lv_at hl 0 rfl) ?_
        refine z_iadd (x := nI (18 * ((c9 + 1) - 1) + 0)) (y := nI i9) (v := nI ((18 * ((c9 + 1) - 1) + 0) + i9)) hx hb d_Ru_hand_57 (nI_add (18 * ((c9 + 1) - 1) + 0) i9) ?_
        refine lv_aload_n hx hb d_Ru_hand_58 rfl (lv_at hl 5 rfl) ?_
        refine r_get C K S 0 rfl rfl clOk_Ru 2 (by decide) wf_Ru_15 (v := .ref ru2) rfl d_Ru_hand_59 ?_
        refine lv_iload_n hx hb d_Ru_hand_62 rfl (lv_at hl 4 rfl) ?_
        refine lv_aload_n hx hb d_Ru_hand_63 rfl (lv_at hl 6 rfl) ?_
        refine lv_iload_n hx hb d_Ru_hand_64 rfl (lv_at hl 3 rfl) ?_
        refine lv_iload hx hb d_Ru_hand_65 (lv_at hl 0 rfl) ?_
        refine r_backi (wi := [((ad f9 0), .inr (4, [.ref (ad f9 1), .ref (ad f9 2), .ref (ad f9 3), .ref (ad f9 4), .ref (ad f9 5), .ref (ad f9 6), .int (nI (tk f9)), .int (nI (ct f9)), .int (nI (no f9))])), ((ad f9 1), .inl (k 0, 200, .inl (wdF wd f9))), ((ad f9 2), .inl (k 0, 40, .inl (fun i => nI (ta f9 0 i))))]) (wr := [(h0, .inr (6, [.ref ru0, .ref ru1, .ref ru2, .ref ru3, .ref ru4, .int (nI (c9 + 1)), .int (nI w9), .int 0, .int ln9, .int (nI sp9), .long (lN cs9), .int gv9])), (ru1, .inl (k 0, 60, .inl (fun i => nI ((va_up CA c9 f9) i)))), (ru4, .inl (k 0, 60, .inl (fun i => nI ((va_up WB c9 w9) i)))), (ru2, .inl (k 0, 1080, .inl (fun i => nI (L8 i)))), (ru0, .inl (k 3, 4, .inr (.inr (.inr (.inr (fun g => some (ad g 0)))))))]) S hA [4, 5, 6] [0, 1, 2, 3, 7] rfl rfl (by decide) (by decide) (va_runVN (As := [.int (nI x9), .int (nI i9)]) (rest := [.int (nI (18 * (c9 - 1) + 0)), .ref ru2, .int (nI ((18 * ((c9 + 1) - 1) + 0) + i9)), .ref ru2]) ⟨hx, hb, C.2.2.1, C.2.2.2.1, C.2.2.2.2.1⟩ (g_Bo_handed l G k (ad f9 0) _ x9 i9 (ad f9 1) (ad f9 2) (ad f9 3) (ad f9 4) (ad f9 5) (ad f9 6) (tk f9) (ct f9) (no f9) (wdF wd f9) (ta f9 0) hxx (by rw [hp0]; omega)) (k_virtN (n := 2) C K wc_Bo_handed rfl rfl wz_Bo xm_Ru_94 wn_Bo_handed ws_Bo_handed (by decide +kernel) ⟨(Nat.le_of_ble_eq_true rfl), (Nat.le_of_ble_eq_true rfl)⟩) (pr_nowV K S [4, 5, 6] (by decide) rfl 4 rfl rfl) rfl rfl hl.1 rfl (lv_room (Nat.le_of_ble_eq_true rfl)) d_Ru_hand_67 ⟨(Nat.le_of_ble_eq_true rfl), (Nat.le_of_ble_eq_true rfl)⟩) (fun r18 u16 H locs hw17 S => ?_)
        have S : Sw G A s.heap _ _ [(h0, .inr (6, [.ref ru0, .ref ru1, .ref ru2, .ref ru3, .ref ru4, .int (nI (c9 + 1)), .int (nI w9), .int 0, .int ln9, .int (nI sp9), .long (lN cs9), .int gv9])), (ru1, .inl (k 0, 60, .inl (fun i => nI ((va_up CA c9 f9) i)))), (ru4, .inl (k 0, 60, .inl (fun i => nI ((va_up WB c9 w9) i)))), (ru2, .inl (k 0, 1080, .inl (fun i => nI (L8 i)))), (ru0, .inl (k 3, 4, .inr (.inr (.inr (.inr (fun g => some (ad g 0))))))), ((ad f9 0), .inr (4, [.ref (ad f9 1), .ref (ad f9 2), .ref (ad f9 3), .ref (ad f9 4), .ref (ad f9 5), .ref (ad f9 6), .int (nI (tk f9)), .int (nI (ct f9)), .int (nI (no f9))])), ((ad f9 1), .inl (k 0, 200, .inl (wdF wd f9))), ((ad f9 2), .inl (k 0, 40, .inl (fun i => nI (ta f9 0 i))))] := S
        obtain ⟨hw170, hp19⟩ := hw17
        obtain rfl : r18 = (wdF wd f9) ((ta f9 0) x9 + 2 + i9) := hw170
        rw [hp0, (hvs i9 (by omega)).1]
        have hvi := (hvs i9 (by omega)).2
        refine z_iadd (x := nI (18 * (c9 - 1) + 0)) (y := nI (vs i9)) (v := nI ((18 * (c9 - 1) + 0) + vs i9)) hx hb d_Ru_hand_70 (show _ = nI ((18 * (c9 - 1) + 0) + vs i9) from (nI_add (18 * (c9 - 1) + 0) (vs i9)).trans (congrArg nI (by omega))) ?_
        refine r_iald C K S 3 rfl (i := nI ((18 * (c9 - 1) + 0) + vs i9)) (show vp_in (nI ((18 * (c9 - 1) + 0) + vs i9)) _ from vp_in_nI (n := ((18 * (c9 - 1) + 0) + vs i9)) (by omega) (by decide)) (v := nI (L8 ((18 * (c9 - 1) + 0) + vs i9))) (by rw [nI_clamp (by omega)]) d_Ru_hand_71 ?_
        refine r_iast C K S 3 rfl (i := nI ((18 * ((c9 + 1) - 1) + 0) + i9)) (x := nI (L8 ((18 * (c9 - 1) + 0) + vs i9))) (show vp_in (nI ((18 * ((c9 + 1) - 1) + 0) + i9)) _ from vp_in_nI (n := ((18 * ((c9 + 1) - 1) + 0) + i9)) (by omega) (by decide)) (f' := fun i => nI (va_up L8 ((18 * ((c9 + 1) - 1) + 0) + i9) (L8 ((18 * (c9 - 1) + 0) + vs i9)) i)) (ws' := [(h0, .inr (6, [.ref ru0, .ref ru1, .ref ru2, .ref ru3, .ref ru4, .int (nI (c9 + 1)), .int (nI w9), .int 0, .int ln9, .int (nI sp9), .long (lN cs9), .int gv9])), (ru1, .inl (k 0, 60, .inl (fun i => nI ((va_up CA c9 f9) i)))), (ru4, .inl (k 0, 60, .inl (fun i => nI ((va_up WB c9 w9) i)))), (ru2, .inl (k 0, 1080, .inl (fun i => nI (va_up L8 ((18 * ((c9 + 1) - 1) + 0) + i9) (L8 ((18 * (c9 - 1) + 0) + vs i9)) i)))), (ru0, .inl (k 3, 4, .inr (.inr (.inr (.inr (fun g => some (ad g 0))))))), ((ad f9 0), .inr (4, [.ref (ad f9 1), .ref (ad f9 2), .ref (ad f9 3), .ref (ad f9 4), .ref (ad f9 5), .ref (ad f9 6), .int (nI (tk f9)), .int (nI (ct f9)), .int (nI (no f9))])), ((ad f9 1), .inl (k 0, 200, .inl (wdF wd f9))), ((ad f9 2), .inl (k 0, 40, .inl (fun i => nI (ta f9 0 i))))]) (show upd _ (nI ((18 * ((c9 + 1) - 1) + 0) + i9) : Int32).toNatClampNeg (nI (L8 ((18 * (c9 - 1) + 0) + vs i9))) = _ from upd_nI L8 (j := ((18 * ((c9 + 1) - 1) + 0) + i9)) (by omega) (L8 ((18 * (c9 - 1) + 0) + vs i9))) rfl d_Ru_hand_72 (fun H locs S => ?_)
        refine lv_iinc (v := nI (i9 + 1)) (lv' := [(6, .int (nI (i9 + 1))), (5, .int (nI (18 * ((c9 + 1) - 1) + 0))), (4, .int (nI f9)), (3, .int (nI x9)), (2, .int (nI (18 * (c9 - 1) + 0))), (0, .ref h0), (1, .ref (ad f9 0))]) hx hb d_Ru_hand_73 hl (k := 0) rfl (show nI i9 + Int32.ofInt 1 = nI (i9 + 1) from (nI_add i9 1).trans (congrArg nI (by omega))) (by decide) rfl (fun ls hl => ?_)
        refine lv_goto (tgt := 34) hx hb d_Ru_hand_76 (by decide) ?_
        exact ih_lp (i9 + 1) (va_up L8 ((18 * ((c9 + 1) - 1) + 0) + i9) (L8 ((18 * (c9 - 1) + 0) + vs i9))) (by omega) (by omega) (fun i hi9 => by rw [(show 18 * (c9 + 1 - 1) + 0 + i9 = 18 * c9 + i9 by omega), va_up_ne _ _ (by omega)]; exact h1 i hi9) (fun j hj9 => by rw [(show 18 * (c9 + 1 - 1) + 0 + i9 = 18 * c9 + i9 by omega)]; exact (Decidable.em (j = i9)).elim (fun q => by rw [q, va_up_self, h1 _ (by omega)]; exact congrArg LN (by omega)) (fun q => by rw [va_up_ne _ _ (by omega)]; exact h2 j (by omega))) _ _ (S.sub [0, 1, 2, 3, 5, 6, 7, 4] (by decide) rfl) ls (lv_sub hl [0, 1, 2, 3, 4, 5, 6] rfl)
  exact lp _ 0 LN (Nat.lt_succ_self _) (by omega) (fun _ _ => rfl) (fun _ q => absurd q (Nat.not_lt_zero _)) _ _ (S.sub [7, 5, 6, 0, 2, 3, 4, 1] (by decide) rfl) ls (lv_sub hl [0, 1, 2, 3, 4, 5, 6] rfl)
set_option maxRecDepth 100000 in
set_option maxHeartbeats 16000000 in
/-- hand -/
theorem g_Ru_hand_o (l : Launch) (G : va_G) (k : Nat → ClassId) (h0 : Nat) (s0 : Nat) (f9 : Nat) (g9 : Nat) (p9 : Nat) (kn : Nat) (ru0 : Nat) (ru1 : Nat) (ru2 : Nat) (ru3 : Nat) (ru4 : Nat) (c9 : Nat) (w9 : Nat) (x9 : Nat) (ln9 : Int32) (sp9 : Nat) (cs9 : Nat) (gv9 : Int32) (ad : Nat → Nat → Nat) (wd : Nat → Int32) (tk : Nat → Nat) (ct : Nat → Nat) (no : Nat → Nat) (ta : Nat → Nat → Nat → Nat) (CA : Nat → Nat) (WB : Nat → Nat) (LN : Nat → Nat) (vs : Nat → Nat) (hc : 1 ≤ c9) (hc2 : c9 < 60) (hxx : x9 < 40) (hg4 : g9 < 4) (hp0 : ta f9 0 x9 = p9) (hpb : p9 + 1 < 200) (hpt : p9 + 2 + tk g9 ≤ 200) (hg : wdF wd f9 (p9 + 1) = nI g9) (hvs : ∀ j, j < tk g9 → wdF wd f9 (p9 + 2 + j) = nI (vs j) ∧ vs j < kn) (hkn : kn ≤ 18) (htk : tk g9 ≤ 3) : CV l y_Ru_hand c_Ru_hand 7 { frames := 1, cells := 0, slots := 0, locals := 22 } [.ref h0, .ref (ad f9 0)] G k s0 [(h0, .inr (6, [.ref ru0, .ref ru1, .ref ru2, .ref ru3, .ref ru4, .int (nI c9), .int (nI w9), .int (nI x9), .int ln9, .int (nI sp9), .long (lN cs9), .int gv9])), (ru1, .inl (k 0, 60, .inl (fun i => nI (CA i)))), (ru4, .inl (k 0, 60, .inl (fun i => nI (WB i)))), (ru2, .inl (k 0, 1080, .inl (fun i => nI (LN i)))), ((ad f9 0), .inr (4, [.ref (ad f9 1), .ref (ad f9 2), .ref (ad f9 3), .ref (ad f9 4), .ref (ad f9 5), .ref (ad f9 6), .int (nI (tk f9)), .int (nI (ct f9)), .int (nI (no f9))])), ((ad f9 1), .inl (k 0, 200, .inl (wdF wd f9))), ((ad f9 2), .inl (k 0, 40, .inl (fun i => nI (ta f9 0 i)))), (ru0, .inl (k 3, 4, .inr (.inr (.inr (.inr (fun g => some (ad g 0))))))), ((ad g9 0), .inr (4, [.ref (ad g9 1), .ref (ad g9 2), .ref (ad g9 3), .ref (ad g9 4), .ref (ad g9 5), .ref (ad g9 6), .int (nI (tk g9)), .int (nI (ct g9)), .int (nI (no g9))]))] (fun (u : Nat → Nat) => (∀ i, i < 18 * c9 → u i = LN i) ∧ ∀ j, j < tk g9 → u (18 * c9 + j) = LN (18 * (c9 - 1) + vs j)) (fun u => [(h0, .inr (6, [.ref ru0, .ref ru1, .ref ru2, .ref ru3, .ref ru4, .int (nI (c9 + 1)), .int (nI w9), .int 0, .int ln9, .int (nI sp9), .long (lN cs9), .int gv9])), (ru1, .inl (k 0, 60, .inl (fun i => nI ((va_up CA c9 g9) i)))), (ru4, .inl (k 0, 60, .inl (fun i => nI ((va_up WB c9 w9) i)))), (ru2, .inl (k 0, 1080, .inl (fun i => nI (u i)))), ((ad f9 0), .inr (4, [.ref (ad f9 1), .ref (ad f9 2), .ref (ad f9 3), .ref (ad f9 4), .ref (ad f9 5), .ref (ad f9 6), .int (nI (tk f9)), .int (nI (ct f9)), .int (nI (no f9))])), ((ad f9 1), .inl (k 0, 200, .inl (wdF wd f9))), ((ad f9 2), .inl (k 0, 40, .inl (fun i => nI (ta f9 0 i)))), (ru0, .inl (k 3, 4, .inr (.inr (.inr (.inr (fun g => some (ad g 0))))))), ((ad g9 0), .inr (4, [.ref (ad g9 1), .ref (ad g9 2), .ref (ad g9 3), .ref (ad g9 4), .ref (ad g9 5), .ref (ad g9 6), .int (nI (tk g9)), .int (nI (ct g9)), .int (nI (no g9))]))]) 0 0 := by
  refine met_start (by decide) (Nat.le_of_ble_eq_true rfl) ?_
  intro p e s m below meth c C K hA hsz S ls hl
  generalize va_A [(h0, .inr (6, [.ref ru0, .ref ru1, .ref ru2, .ref ru3, .ref ru4, .int (nI c9), .int (nI w9), .int (nI x9), .int ln9, .int (nI sp9), .long (lN cs9), .int gv9])), (ru1, .inl (k 0, 60, .inl (fun i => nI (CA i)))), (ru4, .inl (k 0, 60, .inl (fun i => nI (WB i)))), (ru2, .inl (k 0, 1080, .inl (fun i => nI (LN i)))), ((ad f9 0), .inr (4, [.ref (ad f9 1), .ref (ad f9 2), .ref (ad f9 3), .ref (ad f9 4), .ref (ad f9 5), .ref (ad f9 6), .int (nI (tk f9)), .int (nI (ct f9)), .int (nI (no f9))])), ((ad f9 1), .inl (k 0, 200, .inl (wdF wd f9))), ((ad f9 2), .inl (k 0, 40, .inl (fun i => nI (ta f9 0 i)))), (ru0, .inl (k 3, 4, .inr (.inr (.inr (.inr (fun g => some (ad g 0))))))), ((ad g9 0), .inr (4, [.ref (ad g9 1), .ref (ad g9 2), .ref (ad g9 3), .ref (ad g9 4), .ref (ad g9 5), .ref (ad g9 6), .int (nI (tk g9)), .int (nI (ct g9)), .int (nI (no g9))]))] s0 = A at hA S ⊢
  have hx := C.1
  have hb := C.2.1
  have hl : lv_has ls 7 [(0, .ref h0), (1, .ref (ad f9 0))] := hl
  refine lv_aload_n hx hb d_Ru_hand_0 rfl (lv_at hl 0 rfl) ?_
  refine lv_iconst (v := 0) hx hb d_Ru_hand_1 (by decide) ?_
  refine r_backi (wi := [(h0, .inr (6, [.ref ru0, .ref ru1, .ref ru2, .ref ru3, .ref ru4, .int (nI c9), .int (nI w9), .int (nI x9), .int ln9, .int (nI sp9), .long (lN cs9), .int gv9]))]) (wr := [(ru1, .inl (k 0, 60, .inl (fun i => nI (CA i)))), (ru4, .inl (k 0, 60, .inl (fun i => nI (WB i)))), (ru2, .inl (k 0, 1080, .inl (fun i => nI (LN i)))), ((ad f9 0), .inr (4, [.ref (ad f9 1), .ref (ad f9 2), .ref (ad f9 3), .ref (ad f9 4), .ref (ad f9 5), .ref (ad f9 6), .int (nI (tk f9)), .int (nI (ct f9)), .int (nI (no f9))])), ((ad f9 1), .inl (k 0, 200, .inl (wdF wd f9))), ((ad f9 2), .inl (k 0, 40, .inl (fun i => nI (ta f9 0 i)))), (ru0, .inl (k 3, 4, .inr (.inr (.inr (.inr (fun g => some (ad g 0))))))), ((ad g9 0), .inr (4, [.ref (ad g9 1), .ref (ad g9 2), .ref (ad g9 3), .ref (ad g9 4), .ref (ad g9 5), .ref (ad g9 6), .int (nI (tk g9)), .int (nI (ct g9)), .int (nI (no g9))]))]) S hA [0] [1, 2, 3, 4, 5, 6, 7, 8] rfl rfl (by decide) (by decide) (va_runV (As := [.int 0]) (rest := []) ⟨hx, hb, C.2.2.1, C.2.2.2.1, C.2.2.2.2.1⟩ (g_Ru_slot l G k h0 _ 0 ru0 ru1 ru2 ru3 ru4 c9 w9 x9 ln9 sp9 cs9 gv9 (by omega)) (k_virt (n := 1) C wc_Ru_slot rfl rfl wz_Ru wm_Ru_71 wn_Ru_slot ws_Ru_slot (by decide +kernel) ⟨(Nat.le_of_ble_eq_true rfl), (Nat.le_of_ble_eq_true rfl)⟩) (pr_nowV K S [0] (by decide) rfl 0 rfl rfl) rfl rfl hl.1 rfl (lv_room (Nat.le_of_ble_eq_true rfl)) d_Ru_hand_2 ⟨(Nat.le_of_ble_eq_true rfl), (Nat.le_of_ble_eq_true rfl)⟩) (fun r3 u1 H locs hw2 S => ?_)
  have S : Sw G A s.heap _ _ [(ru1, .inl (k 0, 60, .inl (fun i => nI (CA i)))), (ru4, .inl (k 0, 60, .inl (fun i => nI (WB i)))), (ru2, .inl (k 0, 1080, .inl (fun i => nI (LN i)))), ((ad f9 0), .inr (4, [.ref (ad f9 1), .ref (ad f9 2), .ref (ad f9 3), .ref (ad f9 4), .ref (ad f9 5), .ref (ad f9 6), .int (nI (tk f9)), .int (nI (ct f9)), .int (nI (no f9))])), ((ad f9 1), .inl (k 0, 200, .inl (wdF wd f9))), ((ad f9 2), .inl (k 0, 40, .inl (fun i => nI (ta f9 0 i)))), (ru0, .inl (k 3, 4, .inr (.inr (.inr (.inr (fun g => some (ad g 0))))))), ((ad g9 0), .inr (4, [.ref (ad g9 1), .ref (ad g9 2), .ref (ad g9 3), .ref (ad g9 4), .ref (ad g9 5), .ref (ad g9 6), .int (nI (tk g9)), .int (nI (ct g9)), .int (nI (no g9))])), (h0, .inr (6, [.ref ru0, .ref ru1, .ref ru2, .ref ru3, .ref ru4, .int (nI c9), .int (nI w9), .int (nI x9), .int ln9, .int (nI sp9), .long (lN cs9), .int gv9]))] := S
  obtain ⟨hw20, hp4⟩ := hw2
  obtain rfl : r3 = nI (18 * (c9 - 1) + 0) := hw20
  refine lv_istore_n (lv' := [(2, .int (nI (18 * (c9 - 1) + 0))), (0, .ref h0), (1, .ref (ad f9 0))]) hx hb d_Ru_hand_5 rfl hl (by decide) rfl (fun ls hl => ?_)
  refine lv_aload_n hx hb d_Ru_hand_6 rfl (lv_at hl 1 rfl) ?_
  refine r_get C K S 8 rfl rfl clOk_Ru 7 (by decide) wf_Ru_59 (v := .int (nI x9)) rfl d_Ru_hand_7 ?_
  refine lv_istore_n (lv' := [(3, .int (nI x9)), (2, .int (nI (18 * (c9 - 1) + 0))), (0, .ref h0), (1, .ref (ad f9 0))]) hx hb d_Ru_hand_10 rfl hl (by decide) rfl (fun ls hl => ?_)
  refine lv_aload_n hx hb d_Ru_hand_11 rfl (lv_at hl 3 rfl) ?_
  refine lv_iload_n hx hb d_Ru_hand_12 rfl (lv_at hl 0 rfl) ?_
  refine r_backi (wi := [((ad f9 0), .inr (4, [.ref (ad f9 1), .ref (ad f9 2), .ref (ad f9 3), .ref (ad f9 4), .ref (ad f9 5), .ref (ad f9 6), .int (nI (tk f9)), .int (nI (ct f9)), .int (nI (no f9))])), ((ad f9 1), .inl (k 0, 200, .inl (wdF wd f9))), ((ad f9 2), .inl (k 0, 40, .inl (fun i => nI (ta f9 0 i))))]) (wr := [(ru1, .inl (k 0, 60, .inl (fun i => nI (CA i)))), (ru4, .inl (k 0, 60, .inl (fun i => nI (WB i)))), (ru2, .inl (k 0, 1080, .inl (fun i => nI (LN i)))), (ru0, .inl (k 3, 4, .inr (.inr (.inr (.inr (fun g => some (ad g 0))))))), ((ad g9 0), .inr (4, [.ref (ad g9 1), .ref (ad g9 2), .ref (ad g9 3), .ref (ad g9 4), .ref (ad g9 5), .ref (ad g9 6), .int (nI (tk g9)), .int (nI (ct g9)), .int (nI (no g9))])), (h0, .inr (6, [.ref ru0, .ref ru1, .ref ru2, .ref ru3, .ref ru4, .int (nI c9), .int (nI w9), .int (nI x9), .int ln9, .int (nI sp9), .long (lN cs9), .int gv9]))]) S hA [3, 4, 5] [0, 1, 2, 6, 7, 8] rfl rfl (by decide) (by decide) (va_runVN (As := [.int (nI x9)]) (rest := []) ⟨hx, hb, C.2.2.1, C.2.2.2.1, C.2.2.2.2.1⟩ (g_Bo_operand l G k (ad f9 0) _ x9 (ad f9 1) (ad f9 2) (ad f9 3) (ad f9 4) (ad f9 5) (ad f9 6) (tk f9) (ct f9) (no f9) (wdF wd f9) (ta f9 0) hxx (by rw [hp0]; omega)) (k_virtN (n := 1) C K wc_Bo_operand rfl rfl wz_Bo xm_Ru_68 wn_Bo_operand ws_Bo_operand (by decide +kernel) ⟨(Nat.le_of_ble_eq_true rfl), (Nat.le_of_ble_eq_true rfl)⟩) (pr_nowV K S [3, 4, 5] (by decide) rfl 3 rfl rfl) rfl rfl hl.1 rfl (lv_room (Nat.le_of_ble_eq_true rfl)) d_Ru_hand_13 ⟨(Nat.le_of_ble_eq_true rfl), (Nat.le_of_ble_eq_true rfl)⟩) (fun r7 u5 H locs hw6 S => ?_)
  have S : Sw G A s.heap _ _ [(ru1, .inl (k 0, 60, .inl (fun i => nI (CA i)))), (ru4, .inl (k 0, 60, .inl (fun i => nI (WB i)))), (ru2, .inl (k 0, 1080, .inl (fun i => nI (LN i)))), (ru0, .inl (k 3, 4, .inr (.inr (.inr (.inr (fun g => some (ad g 0))))))), ((ad g9 0), .inr (4, [.ref (ad g9 1), .ref (ad g9 2), .ref (ad g9 3), .ref (ad g9 4), .ref (ad g9 5), .ref (ad g9 6), .int (nI (tk g9)), .int (nI (ct g9)), .int (nI (no g9))])), (h0, .inr (6, [.ref ru0, .ref ru1, .ref ru2, .ref ru3, .ref ru4, .int (nI c9), .int (nI w9), .int (nI x9), .int ln9, .int (nI sp9), .long (lN cs9), .int gv9])), ((ad f9 0), .inr (4, [.ref (ad f9 1), .ref (ad f9 2), .ref (ad f9 3), .ref (ad f9 4), .ref (ad f9 5), .ref (ad f9 6), .int (nI (tk f9)), .int (nI (ct f9)), .int (nI (no f9))])), ((ad f9 1), .inl (k 0, 200, .inl (wdF wd f9))), ((ad f9 2), .inl (k 0, 40, .inl (fun i => nI (ta f9 0 i))))] := S
  obtain ⟨hw60, hp8⟩ := hw6
  obtain rfl : r7 = (wdF wd f9) ((ta f9 0) x9 + 1) := hw60
  rw [hp0, hg]
  refine lv_istore (lv' := [(4, .int (nI g9)), (3, .int (nI x9)), (2, .int (nI (18 * (c9 - 1) + 0))), (0, .ref h0), (1, .ref (ad f9 0))]) hx hb d_Ru_hand_16 hl (by decide) rfl (fun ls hl => ?_)
  refine lv_aload_n hx hb d_Ru_hand_18 rfl (lv_at hl 3 rfl) ?_
  refine lv_iload hx hb d_Ru_hand_19 (lv_at hl 0 rfl) ?_
  refine r_backv (wi := [(h0, .inr (6, [.ref ru0, .ref ru1, .ref ru2, .ref ru3, .ref ru4, .int (nI c9), .int (nI w9), .int (nI x9), .int ln9, .int (nI sp9), .long (lN cs9), .int gv9])), (ru1, .inl (k 0, 60, .inl (fun i => nI (CA i)))), (ru4, .inl (k 0, 60, .inl (fun i => nI (WB i))))]) (wr := [(ru2, .inl (k 0, 1080, .inl (fun i => nI (LN i)))), (ru0, .inl (k 3, 4, .inr (.inr (.inr (.inr (fun g => some (ad g 0))))))), ((ad g9 0), .inr (4, [.ref (ad g9 1), .ref (ad g9 2), .ref (ad g9 3), .ref (ad g9 4), .ref (ad g9 5), .ref (ad g9 6), .int (nI (tk g9)), .int (nI (ct g9)), .int (nI (no g9))])), ((ad f9 0), .inr (4, [.ref (ad f9 1), .ref (ad f9 2), .ref (ad f9 3), .ref (ad f9 4), .ref (ad f9 5), .ref (ad f9 6), .int (nI (tk f9)), .int (nI (ct f9)), .int (nI (no f9))])), ((ad f9 1), .inl (k 0, 200, .inl (wdF wd f9))), ((ad f9 2), .inl (k 0, 40, .inl (fun i => nI (ta f9 0 i))))]) S hA [5, 0, 1] [2, 3, 4, 6, 7, 8] rfl rfl (by decide) (by decide) (va_runV (As := [.int (nI g9)]) (rest := []) ⟨hx, hb, C.2.2.1, C.2.2.2.1, C.2.2.2.2.1⟩ (g_Ru_open l G k h0 _ g9 ru0 ru1 ru2 ru3 ru4 c9 w9 x9 ln9 sp9 cs9 gv9 CA WB hc2) (k_virt (n := 1) C wc_Ru_open rfl rfl wz_Ru wm_Ru_45 wn_Ru_open ws_Ru_open (by decide +kernel) ⟨(Nat.le_of_ble_eq_true rfl), (Nat.le_of_ble_eq_true rfl)⟩) (pr_nowV K S [5, 0, 1] (by decide) rfl 5 rfl rfl) rfl rfl hl.1 rfl (lv_room (Nat.le_of_ble_eq_true rfl)) d_Ru_hand_21 ⟨(Nat.le_of_ble_eq_true rfl), (Nat.le_of_ble_eq_true rfl)⟩) (fun u9 H locs hw10 S => ?_)
  have S : Sw G A s.heap _ _ [(ru2, .inl (k 0, 1080, .inl (fun i => nI (LN i)))), (ru0, .inl (k 3, 4, .inr (.inr (.inr (.inr (fun g => some (ad g 0))))))), ((ad g9 0), .inr (4, [.ref (ad g9 1), .ref (ad g9 2), .ref (ad g9 3), .ref (ad g9 4), .ref (ad g9 5), .ref (ad g9 6), .int (nI (tk g9)), .int (nI (ct g9)), .int (nI (no g9))])), ((ad f9 0), .inr (4, [.ref (ad f9 1), .ref (ad f9 2), .ref (ad f9 3), .ref (ad f9 4), .ref (ad f9 5), .ref (ad f9 6), .int (nI (tk f9)), .int (nI (ct f9)), .int (nI (no f9))])), ((ad f9 1), .inl (k 0, 200, .inl (wdF wd f9))), ((ad f9 2), .inl (k 0, 40, .inl (fun i => nI (ta f9 0 i)))), (h0, .inr (6, [.ref ru0, .ref ru1, .ref ru2, .ref ru3, .ref ru4, .int (nI (c9 + 1)), .int (nI w9), .int 0, .int ln9, .int (nI sp9), .long (lN cs9), .int gv9])), (ru1, .inl (k 0, 60, .inl (fun i => nI ((va_up CA c9 g9) i)))), (ru4, .inl (k 0, 60, .inl (fun i => nI ((va_up WB c9 w9) i))))] := S
  refine lv_aload_n hx hb d_Ru_hand_24 rfl (lv_at hl 3 rfl) ?_
  refine lv_iconst (v := 0) hx hb d_Ru_hand_25 (by decide) ?_
  refine r_backi (wi := [(h0, .inr (6, [.ref ru0, .ref ru1, .ref ru2, .ref ru3, .ref ru4, .int (nI (c9 + 1)), .int (nI w9), .int 0, .int ln9, .int (nI sp9), .long (lN cs9), .int gv9]))]) (wr := [(ru2, .inl (k 0, 1080, .inl (fun i => nI (LN i)))), (ru0, .inl (k 3, 4, .inr (.inr (.inr (.inr (fun g => some (ad g 0))))))), ((ad g9 0), .inr (4, [.ref (ad g9 1), .ref (ad g9 2), .ref (ad g9 3), .ref (ad g9 4), .ref (ad g9 5), .ref (ad g9 6), .int (nI (tk g9)), .int (nI (ct g9)), .int (nI (no g9))])), ((ad f9 0), .inr (4, [.ref (ad f9 1), .ref (ad f9 2), .ref (ad f9 3), .ref (ad f9 4), .ref (ad f9 5), .ref (ad f9 6), .int (nI (tk f9)), .int (nI (ct f9)), .int (nI (no f9))])), ((ad f9 1), .inl (k 0, 200, .inl (wdF wd f9))), ((ad f9 2), .inl (k 0, 40, .inl (fun i => nI (ta f9 0 i)))), (ru1, .inl (k 0, 60, .inl (fun i => nI ((va_up CA c9 g9) i)))), (ru4, .inl (k 0, 60, .inl (fun i => nI ((va_up WB c9 w9) i))))]) S hA [6] [0, 1, 2, 3, 4, 5, 7, 8] rfl rfl (by decide) (by decide) (va_runV (As := [.int 0]) (rest := []) ⟨hx, hb, C.2.2.1, C.2.2.2.1, C.2.2.2.2.1⟩ (g_Ru_slot l G k h0 _ 0 ru0 ru1 ru2 ru3 ru4 (c9 + 1) w9 0 ln9 sp9 cs9 gv9 (by omega)) (k_virt (n := 1) C wc_Ru_slot rfl rfl wz_Ru wm_Ru_71 wn_Ru_slot ws_Ru_slot (by decide +kernel) ⟨(Nat.le_of_ble_eq_true rfl), (Nat.le_of_ble_eq_true rfl)⟩) (pr_nowV K S [6] (by decide) rfl 6 rfl rfl) rfl rfl hl.1 rfl (lv_room (Nat.le_of_ble_eq_true rfl)) d_Ru_hand_26 ⟨(Nat.le_of_ble_eq_true rfl), (Nat.le_of_ble_eq_true rfl)⟩) (fun r13 u11 H locs hw12 S => ?_)
  have S : Sw G A s.heap _ _ [(ru2, .inl (k 0, 1080, .inl (fun i => nI (LN i)))), (ru0, .inl (k 3, 4, .inr (.inr (.inr (.inr (fun g => some (ad g 0))))))), ((ad g9 0), .inr (4, [.ref (ad g9 1), .ref (ad g9 2), .ref (ad g9 3), .ref (ad g9 4), .ref (ad g9 5), .ref (ad g9 6), .int (nI (tk g9)), .int (nI (ct g9)), .int (nI (no g9))])), ((ad f9 0), .inr (4, [.ref (ad f9 1), .ref (ad f9 2), .ref (ad f9 3), .ref (ad f9 4), .ref (ad f9 5), .ref (ad f9 6), .int (nI (tk f9)), .int (nI (ct f9)), .int (nI (no f9))])), ((ad f9 1), .inl (k 0, 200, .inl (wdF wd f9))), ((ad f9 2), .inl (k 0, 40, .inl (fun i => nI (ta f9 0 i)))), (ru1, .inl (k 0, 60, .inl (fun i => nI ((va_up CA c9 g9) i)))), (ru4, .inl (k 0, 60, .inl (fun i => nI ((va_up WB c9 w9) i)))), (h0, .inr (6, [.ref ru0, .ref ru1, .ref ru2, .ref ru3, .ref ru4, .int (nI (c9 + 1)), .int (nI w9), .int 0, .int ln9, .int (nI sp9), .long (lN cs9), .int gv9]))] := S
  obtain ⟨hw120, hp14⟩ := hw12
  obtain rfl : r13 = nI (18 * ((c9 + 1) - 1) + 0) := hw120
  refine lv_istore (lv' := [(5, .int (nI (18 * ((c9 + 1) - 1) + 0))), (4, .int (nI g9)), (3, .int (nI x9)), (2, .int (nI (18 * (c9 - 1) + 0))), (0, .ref h0), (1, .ref (ad f9 0))]) hx hb d_Ru_hand_29 hl (by decide) rfl (fun ls hl => ?_)
  refine lv_iconst (v := 0) hx hb d_Ru_hand_31 (by decide) ?_
  refine lv_istore (lv' := [(6, .int 0), (5, .int (nI (18 * ((c9 + 1) - 1) + 0))), (4, .int (nI g9)), (3, .int (nI x9)), (2, .int (nI (18 * (c9 - 1) + 0))), (0, .ref h0), (1, .ref (ad f9 0))]) hx hb d_Ru_hand_32 hl (by decide) rfl (fun ls hl => ?_)
  have lp : ∀ d9, ∀ (i9 : Nat), ∀ (L8 : Nat → Nat), (tk g9 - i9) < d9 → (i9 ≤ tk g9) → (∀ i, i < 18 * c9 → L8 i = LN i) → (∀ j, j < i9 → L8 (18 * c9 + j) = LN (18 * (c9 - 1) + vs j)) → ∀ (H : Heap) (locs : List Loc), Sw G A s.heap H locs [(h0, .inr (6, [.ref ru0, .ref ru1, .ref ru2, .ref ru3, .ref ru4, .int (nI (c9 + 1)), .int (nI w9), .int 0, .int ln9, .int (nI sp9), .long (lN cs9), .int gv9])), (ru1, .inl (k 0, 60, .inl (fun i => nI ((va_up CA c9 g9) i)))), (ru4, .inl (k 0, 60, .inl (fun i => nI ((va_up WB c9 w9) i)))), (ru2, .inl (k 0, 1080, .inl (fun i => nI (L8 i)))), ((ad f9 0), .inr (4, [.ref (ad f9 1), .ref (ad f9 2), .ref (ad f9 3), .ref (ad f9 4), .ref (ad f9 5), .ref (ad f9 6), .int (nI (tk f9)), .int (nI (ct f9)), .int (nI (no f9))])), ((ad f9 1), .inl (k 0, 200, .inl (wdF wd f9))), ((ad f9 2), .inl (k 0, 40, .inl (fun i => nI (ta f9 0 i)))), (ru0, .inl (k 3, 4, .inr (.inr (.inr (.inr (fun g => some (ad g 0))))))), ((ad g9 0), .inr (4, [.ref (ad g9 1), .ref (ad g9 2), .ref (ad g9 3), .ref (ad g9 4), .ref (ad g9 5), .ref (ad g9 6), .int (nI (tk g9)), .int (nI (ct g9)), .int (nI (no g9))]))] → ∀ ls : Array Slot, lv_has ls 7 [(6, .int (nI i9)), (5, .int (nI (18 * ((c9 + 1) - 1) + 0))), (4, .int (nI g9)), (3, .int (nI x9)), (2, .int (nI (18 * (c9 - 1) + 0))), (0, .ref h0), (1, .ref (ad f9 0))] → W p l e { frames := 1, cells := 0, slots := 0, locals := 22 } s m [Value.ref h0, Value.ref (ad f9 0)].toArray below meth c H locs 0 0 (MQ below (va_Qv (fun (u : Nat → Nat) => (∀ i, i < 18 * c9 → u i = LN i) ∧ ∀ j, j < tk g9 → u (18 * c9 + j) = LN (18 * (c9 - 1) + vs j)) (Po G k A (fun u => [(h0, .inr (6, [.ref ru0, .ref ru1, .ref ru2, .ref ru3, .ref ru4, .int (nI (c9 + 1)), .int (nI w9), .int 0, .int ln9, .int (nI sp9), .long (lN cs9), .int gv9])), (ru1, .inl (k 0, 60, .inl (fun i => nI ((va_up CA c9 g9) i)))), (ru4, .inl (k 0, 60, .inl (fun i => nI ((va_up WB c9 w9) i)))), (ru2, .inl (k 0, 1080, .inl (fun i => nI (u i)))), ((ad f9 0), .inr (4, [.ref (ad f9 1), .ref (ad f9 2), .ref (ad f9 3), .ref (ad f9 4), .ref (ad f9 5), .ref (ad f9 6), .int (nI (tk f9)), .int (nI (ct f9)), .int (nI (no f9))])), ((ad f9 1), .inl (k 0, 200, .inl (wdF wd f9))), ((ad f9 2), .inl (k 0, 40, .inl (fun i => nI (ta f9 0 i)))), (ru0, .inl (k 3, 4, .inr (.inr (.inr (.inr (fun g => some (ad g 0))))))), ((ad g9 0), .inr (4, [.ref (ad g9 1), .ref (ad g9 2), .ref (ad g9 3), .ref (ad g9 4), .ref (ad g9 5), .ref (ad g9 6), .int (nI (tk g9)), .int (nI (ct g9)), .int (nI (no g9))]))])) A) [Value.ref h0, Value.ref (ad f9 0)].toArray s 0 0 A) (F0 m 34 ls []) := by
    intro d9
    induction d9 with
    | zero => intro i9 L8 hm; exact absurd hm (Nat.not_lt_zero _)
    | succ d9 ih_lp =>
      intro i9 L8 hm hi h1 h2 H locs S ls hl
      refine lv_iload hx hb d_Ru_hand_34 (lv_at hl 0 rfl) ?_
      refine lv_aload_n hx hb d_Ru_hand_36 rfl (lv_at hl 5 rfl) ?_
      refine r_get C K S 0 rfl rfl clOk_Ru 0 (by decide) wf_Ru_28 (v := .ref ru0) rfl d_Ru_hand_37 ?_
      refine lv_iload hx hb d_Ru_hand_40 (lv_at hl 2 rfl) ?_
      refine r_aald C K S 7 3 rfl rfl (i := nI g9) (show vp_in (nI g9) _ from vp_in_nI (n := g9) (by omega) (by decide)) (b := (ad g9 0)) (by rw [nI_clamp (by omega)]) d_Ru_hand_42 ?_
      refine r_getN C K S 8 rfl rfl clOk_Bo 6 (by decide) xf_Ru_91 (v := .int (nI (tk g9))) rfl d_Ru_hand_43 ?_
      refine z_icmp_ge (a := i9) (b := (tk g9)) (tgt := 79) hx hb d_Ru_hand_46 (by decide) (by omega) (by omega) (fun hc15 => ?_) (fun hc15 => ?_)
      · exact r_vret C K L8 ⟨h1, fun j hj => h2 j (by omega)⟩ (S.sub [0, 1, 2, 3, 4, 5, 6, 7, 8] (by decide) rfl) d_Ru_hand_79 (Nat.le_of_ble_eq_true rfl) (Nat.le_of_ble_eq_true rfl)
      · refine lv_aload_n hx hb d_Ru_hand_49 rfl (lv_at hl 5 rfl) ?_
        refine r_get C K S 0 rfl rfl clOk_Ru 2 (by decide) wf_Ru_15 (v := .ref ru2) rfl d_Ru_hand_50 ?_
        refine lv_iload hx hb d_Ru_hand_53 (lv_at hl 1 rfl) ?_
        refine lv_iload hx hb d_Ru_hand_55 (lv_at hl 0 rfl) ?_
        refine z_iadd (x := nI (18 * ((c9 + 1) - 1) + 0)) (y := nI i9) (v := nI ((18 * ((c9 + 1) - 1) + 0) + i9)) hx hb d_Ru_hand_57 (nI_add (18 * ((c9 + 1) - 1) + 0) i9) ?_
        refine lv_aload_n hx hb d_Ru_hand_58 rfl (lv_at hl 5 rfl) ?_
        refine r_get C K S 0 rfl rfl clOk_Ru 2 (by decide) wf_Ru_15 (v := .ref ru2) rfl d_Ru_hand_59 ?_
        refine lv_iload_n hx hb d_Ru_hand_62 rfl (lv_at hl 4 rfl) ?_
        refine lv_aload_n hx hb d_Ru_hand_63 rfl (lv_at hl 6 rfl) ?_
        refine lv_iload_n hx hb d_Ru_hand_64 rfl (lv_at hl 3 rfl) ?_
        refine lv_iload hx hb d_Ru_hand_65 (lv_at hl 0 rfl) ?_
        refine r_backi (wi := [((ad f9 0), .inr (4, [.ref (ad f9 1), .ref (ad f9 2), .ref (ad f9 3), .ref (ad f9 4), .ref (ad f9 5), .ref (ad f9 6), .int (nI (tk f9)), .int (nI (ct f9)), .int (nI (no f9))])), ((ad f9 1), .inl (k 0, 200, .inl (wdF wd f9))), ((ad f9 2), .inl (k 0, 40, .inl (fun i => nI (ta f9 0 i))))]) (wr := [(h0, .inr (6, [.ref ru0, .ref ru1, .ref ru2, .ref ru3, .ref ru4, .int (nI (c9 + 1)), .int (nI w9), .int 0, .int ln9, .int (nI sp9), .long (lN cs9), .int gv9])), (ru1, .inl (k 0, 60, .inl (fun i => nI ((va_up CA c9 g9) i)))), (ru4, .inl (k 0, 60, .inl (fun i => nI ((va_up WB c9 w9) i)))), (ru2, .inl (k 0, 1080, .inl (fun i => nI (L8 i)))), (ru0, .inl (k 3, 4, .inr (.inr (.inr (.inr (fun g => some (ad g 0))))))), ((ad g9 0), .inr (4, [.ref (ad g9 1), .ref (ad g9 2), .ref (ad g9 3), .ref (ad g9 4), .ref (ad g9 5), .ref (ad g9 6), .int (nI (tk g9)), .int (nI (ct g9)), .int (nI (no g9))]))]) S hA [4, 5, 6] [0, 1, 2, 3, 7, 8] rfl rfl (by decide) (by decide) (va_runVN (As := [.int (nI x9), .int (nI i9)]) (rest := [.int (nI (18 * (c9 - 1) + 0)), .ref ru2, .int (nI ((18 * ((c9 + 1) - 1) + 0) + i9)), .ref ru2]) ⟨hx, hb, C.2.2.1, C.2.2.2.1, C.2.2.2.2.1⟩ (g_Bo_handed l G k (ad f9 0) _ x9 i9 (ad f9 1) (ad f9 2) (ad f9 3) (ad f9 4) (ad f9 5) (ad f9 6) (tk f9) (ct f9) (no f9) (wdF wd f9) (ta f9 0) hxx (by rw [hp0]; omega)) (k_virtN (n := 2) C K wc_Bo_handed rfl rfl wz_Bo xm_Ru_94 wn_Bo_handed ws_Bo_handed (by decide +kernel) ⟨(Nat.le_of_ble_eq_true rfl), (Nat.le_of_ble_eq_true rfl)⟩) (pr_nowV K S [4, 5, 6] (by decide) rfl 4 rfl rfl) rfl rfl hl.1 rfl (lv_room (Nat.le_of_ble_eq_true rfl)) d_Ru_hand_67 ⟨(Nat.le_of_ble_eq_true rfl), (Nat.le_of_ble_eq_true rfl)⟩) (fun r18 u16 H locs hw17 S => ?_)
        have S : Sw G A s.heap _ _ [(h0, .inr (6, [.ref ru0, .ref ru1, .ref ru2, .ref ru3, .ref ru4, .int (nI (c9 + 1)), .int (nI w9), .int 0, .int ln9, .int (nI sp9), .long (lN cs9), .int gv9])), (ru1, .inl (k 0, 60, .inl (fun i => nI ((va_up CA c9 g9) i)))), (ru4, .inl (k 0, 60, .inl (fun i => nI ((va_up WB c9 w9) i)))), (ru2, .inl (k 0, 1080, .inl (fun i => nI (L8 i)))), (ru0, .inl (k 3, 4, .inr (.inr (.inr (.inr (fun g => some (ad g 0))))))), ((ad g9 0), .inr (4, [.ref (ad g9 1), .ref (ad g9 2), .ref (ad g9 3), .ref (ad g9 4), .ref (ad g9 5), .ref (ad g9 6), .int (nI (tk g9)), .int (nI (ct g9)), .int (nI (no g9))])), ((ad f9 0), .inr (4, [.ref (ad f9 1), .ref (ad f9 2), .ref (ad f9 3), .ref (ad f9 4), .ref (ad f9 5), .ref (ad f9 6), .int (nI (tk f9)), .int (nI (ct f9)), .int (nI (no f9))])), ((ad f9 1), .inl (k 0, 200, .inl (wdF wd f9))), ((ad f9 2), .inl (k 0, 40, .inl (fun i => nI (ta f9 0 i))))] := S
        obtain ⟨hw170, hp19⟩ := hw17
        obtain rfl : r18 = (wdF wd f9) ((ta f9 0) x9 + 2 + i9) := hw170
        rw [hp0, (hvs i9 (by omega)).1]
        have hvi := (hvs i9 (by omega)).2
        refine z_iadd (x := nI (18 * (c9 - 1) + 0)) (y := nI (vs i9)) (v := nI ((18 * (c9 - 1) + 0) + vs i9)) hx hb d_Ru_hand_70 (show _ = nI ((18 * (c9 - 1) + 0) + vs i9) from (nI_add (18 * (c9 - 1) + 0) (vs i9)).trans (congrArg nI (by omega))) ?_
        refine r_iald C K S 3 rfl (i := nI ((18 * (c9 - 1) + 0) + vs i9)) (show vp_in (nI ((18 * (c9 - 1) + 0) + vs i9)) _ from vp_in_nI (n := ((18 * (c9 - 1) + 0) + vs i9)) (by omega) (by decide)) (v := nI (L8 ((18 * (c9 - 1) + 0) + vs i9))) (by rw [nI_clamp (by omega)]) d_Ru_hand_71 ?_
        refine r_iast C K S 3 rfl (i := nI ((18 * ((c9 + 1) - 1) + 0) + i9)) (x := nI (L8 ((18 * (c9 - 1) + 0) + vs i9))) (show vp_in (nI ((18 * ((c9 + 1) - 1) + 0) + i9)) _ from vp_in_nI (n := ((18 * ((c9 + 1) - 1) + 0) + i9)) (by omega) (by decide)) (f' := fun i => nI (va_up L8 ((18 * ((c9 + 1) - 1) + 0) + i9) (L8 ((18 * (c9 - 1) + 0) + vs i9)) i)) (ws' := [(h0, .inr (6, [.ref ru0, .ref ru1, .ref ru2, .ref ru3, .ref ru4, .int (nI (c9 + 1)), .int (nI w9), .int 0, .int ln9, .int (nI sp9), .long (lN cs9), .int gv9])), (ru1, .inl (k 0, 60, .inl (fun i => nI ((va_up CA c9 g9) i)))), (ru4, .inl (k 0, 60, .inl (fun i => nI ((va_up WB c9 w9) i)))), (ru2, .inl (k 0, 1080, .inl (fun i => nI (va_up L8 ((18 * ((c9 + 1) - 1) + 0) + i9) (L8 ((18 * (c9 - 1) + 0) + vs i9)) i)))), (ru0, .inl (k 3, 4, .inr (.inr (.inr (.inr (fun g => some (ad g 0))))))), ((ad g9 0), .inr (4, [.ref (ad g9 1), .ref (ad g9 2), .ref (ad g9 3), .ref (ad g9 4), .ref (ad g9 5), .ref (ad g9 6), .int (nI (tk g9)), .int (nI (ct g9)), .int (nI (no g9))])), ((ad f9 0), .inr (4, [.ref (ad f9 1), .ref (ad f9 2), .ref (ad f9 3), .ref (ad f9 4), .ref (ad f9 5), .ref (ad f9 6), .int (nI (tk f9)), .int (nI (ct f9)), .int (nI (no f9))])), ((ad f9 1), .inl (k 0, 200, .inl (wdF wd f9))), ((ad f9 2), .inl (k 0, 40, .inl (fun i => nI (ta f9 0 i))))]) (show upd _ (nI ((18 * ((c9 + 1) - 1) + 0) + i9) : Int32).toNatClampNeg (nI (L8 ((18 * (c9 - 1) + 0) + vs i9))) = _ from upd_nI L8 (j := ((18 * ((c9 + 1) - 1) + 0) + i9)) (by omega) (L8 ((18 * (c9 - 1) + 0) + vs i9))) rfl d_Ru_hand_72 (fun H locs S => ?_)
        refine lv_iinc (v := nI (i9 + 1)) (lv' := [(6, .int (nI (i9 + 1))), (5, .int (nI (18 * ((c9 + 1) - 1) + 0))), (4, .int (nI g9)), (3, .int (nI x9)), (2, .int (nI (18 * (c9 - 1) + 0))), (0, .ref h0), (1, .ref (ad f9 0))]) hx hb d_Ru_hand_73 hl (k := 0) rfl (show nI i9 + Int32.ofInt 1 = nI (i9 + 1) from (nI_add i9 1).trans (congrArg nI (by omega))) (by decide) rfl (fun ls hl => ?_)
        refine lv_goto (tgt := 34) hx hb d_Ru_hand_76 (by decide) ?_
        exact ih_lp (i9 + 1) (va_up L8 ((18 * ((c9 + 1) - 1) + 0) + i9) (L8 ((18 * (c9 - 1) + 0) + vs i9))) (by omega) (by omega) (fun i hi9 => by rw [(show 18 * (c9 + 1 - 1) + 0 + i9 = 18 * c9 + i9 by omega), va_up_ne _ _ (by omega)]; exact h1 i hi9) (fun j hj9 => by rw [(show 18 * (c9 + 1 - 1) + 0 + i9 = 18 * c9 + i9 by omega)]; exact (Decidable.em (j = i9)).elim (fun q => by rw [q, va_up_self, h1 _ (by omega)]; exact congrArg LN (by omega)) (fun q => by rw [va_up_ne _ _ (by omega)]; exact h2 j (by omega))) _ _ (S.sub [0, 1, 2, 3, 6, 7, 8, 4, 5] (by decide) rfl) ls (lv_sub hl [0, 1, 2, 3, 4, 5, 6] rfl)
  exact lp _ 0 LN (Nat.lt_succ_self _) (by omega) (fun _ _ => rfl) (fun _ q => absurd q (Nat.not_lt_zero _)) _ _ (S.sub [8, 6, 7, 0, 3, 4, 5, 1, 2] (by decide) rfl) ls (lv_sub hl [0, 1, 2, 3, 4, 5, 6] rfl)
theorem d_Ru_goInside_0 : decode c_Ru_goInside 0 = .ok (.aload_n 1, 1) := by decide +kernel
theorem d_Ru_goInside_1 : decode c_Ru_goInside 1 = .ok (.getfield 82, 3) := by decide +kernel
theorem d_Ru_goInside_4 : decode c_Ru_goInside 4 = .ok (.aload_n 0, 1) := by decide +kernel
theorem d_Ru_goInside_5 : decode c_Ru_goInside 5 = .ok (.getfield 59, 3) := by decide +kernel
theorem d_Ru_goInside_8 : decode c_Ru_goInside 8 = .ok (.iaload, 1) := by decide +kernel
theorem d_Ru_goInside_9 : decode c_Ru_goInside 9 = .ok (.istore_n 3, 1) := by decide +kernel
theorem d_Ru_goInside_10 : decode c_Ru_goInside 10 = .ok (.iload_n 2, 1) := by decide +kernel
theorem d_Ru_goInside_11 : decode c_Ru_goInside 11 = .ok (.iconst 4, 1) := by decide +kernel
theorem d_Ru_goInside_12 : decode c_Ru_goInside 12 = .ok (.if_icmp .ne 24, 3) := by decide +kernel
theorem d_Ru_goInside_15 : decode c_Ru_goInside 15 = .ok (.aload_n 0, 1) := by decide +kernel
theorem d_Ru_goInside_16 : decode c_Ru_goInside 16 = .ok (.dup, 1) := by decide +kernel
theorem d_Ru_goInside_17 : decode c_Ru_goInside 17 = .ok (.getfield 41, 3) := by decide +kernel
theorem d_Ru_goInside_20 : decode c_Ru_goInside 20 = .ok (.aload_n 1, 1) := by decide +kernel
theorem d_Ru_goInside_21 : decode c_Ru_goInside 21 = .ok (.aload_n 0, 1) := by decide +kernel
theorem d_Ru_goInside_22 : decode c_Ru_goInside 22 = .ok (.getfield 59, 3) := by decide +kernel
theorem d_Ru_goInside_25 : decode c_Ru_goInside 25 = .ok (.invokevirtual 68, 3) := by decide +kernel
theorem d_Ru_goInside_28 : decode c_Ru_goInside 28 = .ok (.i2l, 1) := by decide +kernel
theorem d_Ru_goInside_29 : decode c_Ru_goInside 29 = .ok (.ladd, 1) := by decide +kernel
theorem d_Ru_goInside_30 : decode c_Ru_goInside 30 = .ok (.putfield 41, 3) := by decide +kernel
theorem d_Ru_goInside_33 : decode c_Ru_goInside 33 = .ok (.goto 90, 3) := by decide +kernel
theorem d_Ru_goInside_36 : decode c_Ru_goInside 36 = .ok (.iload_n 2, 1) := by decide +kernel
theorem d_Ru_goInside_37 : decode c_Ru_goInside 37 = .ok (.iconst 3, 1) := by decide +kernel
theorem d_Ru_goInside_38 : decode c_Ru_goInside 38 = .ok (.if_icmp .ne 62, 3) := by decide +kernel
theorem d_Ru_goInside_41 : decode c_Ru_goInside 41 = .ok (.aload_n 0, 1) := by decide +kernel
theorem d_Ru_goInside_42 : decode c_Ru_goInside 42 = .ok (.getfield 15, 3) := by decide +kernel
theorem d_Ru_goInside_45 : decode c_Ru_goInside 45 = .ok (.aload_n 0, 1) := by decide +kernel
theorem d_Ru_goInside_46 : decode c_Ru_goInside 46 = .ok (.aload_n 1, 1) := by decide +kernel
theorem d_Ru_goInside_47 : decode c_Ru_goInside 47 = .ok (.aload_n 0, 1) := by decide +kernel
theorem d_Ru_goInside_48 : decode c_Ru_goInside 48 = .ok (.getfield 59, 3) := by decide +kernel
theorem d_Ru_goInside_51 : decode c_Ru_goInside 51 = .ok (.invokevirtual 68, 3) := by decide +kernel
theorem d_Ru_goInside_54 : decode c_Ru_goInside 54 = .ok (.invokevirtual 71, 3) := by decide +kernel
theorem d_Ru_goInside_57 : decode c_Ru_goInside 57 = .ok (.iaload, 1) := by decide +kernel
theorem d_Ru_goInside_58 : decode c_Ru_goInside 58 = .ok (.istore 4, 2) := by decide +kernel
theorem d_Ru_goInside_60 : decode c_Ru_goInside 60 = .ok (.iload 4, 2) := by decide +kernel
theorem d_Ru_goInside_62 : decode c_Ru_goInside 62 = .ok (.ifCond .le 35, 3) := by decide +kernel
theorem d_Ru_goInside_65 : decode c_Ru_goInside 65 = .ok (.aload_n 0, 1) := by decide +kernel
theorem d_Ru_goInside_66 : decode c_Ru_goInside 66 = .ok (.getfield 15, 3) := by decide +kernel
theorem d_Ru_goInside_69 : decode c_Ru_goInside 69 = .ok (.aload_n 0, 1) := by decide +kernel
theorem d_Ru_goInside_70 : decode c_Ru_goInside 70 = .ok (.aload_n 1, 1) := by decide +kernel
theorem d_Ru_goInside_71 : decode c_Ru_goInside 71 = .ok (.getfield 85, 3) := by decide +kernel
theorem d_Ru_goInside_74 : decode c_Ru_goInside 74 = .ok (.aload_n 0, 1) := by decide +kernel
theorem d_Ru_goInside_75 : decode c_Ru_goInside 75 = .ok (.getfield 59, 3) := by decide +kernel
theorem d_Ru_goInside_78 : decode c_Ru_goInside 78 = .ok (.iaload, 1) := by decide +kernel
theorem d_Ru_goInside_79 : decode c_Ru_goInside 79 = .ok (.invokevirtual 71, 3) := by decide +kernel
theorem d_Ru_goInside_82 : decode c_Ru_goInside 82 = .ok (.iload 4, 2) := by decide +kernel
theorem d_Ru_goInside_84 : decode c_Ru_goInside 84 = .ok (.iconst 1, 1) := by decide +kernel
theorem d_Ru_goInside_85 : decode c_Ru_goInside 85 = .ok (.isub, 1) := by decide +kernel
theorem d_Ru_goInside_86 : decode c_Ru_goInside 86 = .ok (.iastore, 1) := by decide +kernel
theorem d_Ru_goInside_87 : decode c_Ru_goInside 87 = .ok (.aload_n 1, 1) := by decide +kernel
theorem d_Ru_goInside_88 : decode c_Ru_goInside 88 = .ok (.getfield 88, 3) := by decide +kernel
theorem d_Ru_goInside_91 : decode c_Ru_goInside 91 = .ok (.aload_n 0, 1) := by decide +kernel
theorem d_Ru_goInside_92 : decode c_Ru_goInside 92 = .ok (.getfield 59, 3) := by decide +kernel
theorem d_Ru_goInside_95 : decode c_Ru_goInside 95 = .ok (.iaload, 1) := by decide +kernel
theorem d_Ru_goInside_96 : decode c_Ru_goInside 96 = .ok (.istore_n 3, 1) := by decide +kernel
theorem d_Ru_goInside_97 : decode c_Ru_goInside 97 = .ok (.goto 26, 3) := by decide +kernel
theorem d_Ru_goInside_100 : decode c_Ru_goInside 100 = .ok (.aload_n 0, 1) := by decide +kernel
theorem d_Ru_goInside_101 : decode c_Ru_goInside 101 = .ok (.getfield 18, 3) := by decide +kernel
theorem d_Ru_goInside_104 : decode c_Ru_goInside 104 = .ok (.aload_n 0, 1) := by decide +kernel
theorem d_Ru_goInside_105 : decode c_Ru_goInside 105 = .ok (.getfield 35, 3) := by decide +kernel
theorem d_Ru_goInside_108 : decode c_Ru_goInside 108 = .ok (.aload_n 0, 1) := by decide +kernel
theorem d_Ru_goInside_109 : decode c_Ru_goInside 109 = .ok (.getfield 59, 3) := by decide +kernel
theorem d_Ru_goInside_112 : decode c_Ru_goInside 112 = .ok (.iastore, 1) := by decide +kernel
theorem d_Ru_goInside_113 : decode c_Ru_goInside 113 = .ok (.aload_n 0, 1) := by decide +kernel
theorem d_Ru_goInside_114 : decode c_Ru_goInside 114 = .ok (.dup, 1) := by decide +kernel
theorem d_Ru_goInside_115 : decode c_Ru_goInside 115 = .ok (.getfield 35, 3) := by decide +kernel
theorem d_Ru_goInside_118 : decode c_Ru_goInside 118 = .ok (.iconst 1, 1) := by decide +kernel
theorem d_Ru_goInside_119 : decode c_Ru_goInside 119 = .ok (.iadd, 1) := by decide +kernel
theorem d_Ru_goInside_120 : decode c_Ru_goInside 120 = .ok (.putfield 35, 3) := by decide +kernel
theorem d_Ru_goInside_123 : decode c_Ru_goInside 123 = .ok (.aload_n 0, 1) := by decide +kernel
theorem d_Ru_goInside_124 : decode c_Ru_goInside 124 = .ok (.iload_n 3, 1) := by decide +kernel
theorem d_Ru_goInside_125 : decode c_Ru_goInside 125 = .ok (.putfield 59, 3) := by decide +kernel
theorem d_Ru_goInside_128 : decode c_Ru_goInside 128 = .ok (.return_, 1) := by decide +kernel
set_option maxRecDepth 100000 in
set_option maxHeartbeats 16000000 in
/-- goInside -/
theorem g_Ru_goInside_4 (l : Launch) (G : va_G) (k : Nat → ClassId) (h0 : Nat) (s0 : Nat) (f9 : Nat) (p9 : Nat) (kn : Nat) (v9 : Nat) (ru0 : Nat) (ru1 : Nat) (ru2 : Nat) (ru3 : Nat) (ru4 : Nat) (c9 : Nat) (w9 : Nat) (x9 : Nat) (ln9 : Int32) (sp9 : Nat) (cs9 : Nat) (gv9 : Int32) (ad : Nat → Nat → Nat) (wd : Nat → Int32) (tk : Nat → Nat) (ct : Nat → Nat) (no : Nat → Nat) (ta : Nat → Nat → Nat → Nat) (WT : Nat → Nat) (LN : Nat → Nat) (hxx : x9 < 40) (hp0 : ta f9 0 x9 = p9) (hpb : p9 + 1 < 200) (hv : wdF wd f9 (p9 + 1) = nI v9) (hv2 : v9 ≤ 1000) : CV l y_Ru_goInside c_Ru_goInside 5 { frames := 1, cells := 0, slots := 0, locals := 21 } [.ref h0, .ref (ad f9 0), .int 4] G k s0 [(h0, .inr (6, [.ref ru0, .ref ru1, .ref ru2, .ref ru3, .ref ru4, .int (nI c9), .int (nI w9), .int (nI x9), .int ln9, .int (nI sp9), .long (lN cs9), .int gv9])), (ru3, .inl (k 0, 960, .inl (fun i => nI (WT i)))), (ru2, .inl (k 0, 1080, .inl (fun i => nI (LN i)))), ((ad f9 0), .inr (4, [.ref (ad f9 1), .ref (ad f9 2), .ref (ad f9 3), .ref (ad f9 4), .ref (ad f9 5), .ref (ad f9 6), .int (nI (tk f9)), .int (nI (ct f9)), .int (nI (no f9))])), ((ad f9 1), .inl (k 0, 200, .inl (wdF wd f9))), ((ad f9 2), .inl (k 0, 40, .inl (fun i => nI (ta f9 0 i)))), ((ad f9 3), .inl (k 0, 40, .inl (fun i => nI (ta f9 1 i)))), ((ad f9 4), .inl (k 0, 40, .inl (fun i => nI (ta f9 2 i)))), ((ad f9 5), .inl (k 0, 40, .inl (fun i => nI (ta f9 3 i))))] (fun (u : Unit) => True) (fun u => [(h0, .inr (6, [.ref ru0, .ref ru1, .ref ru2, .ref ru3, .ref ru4, .int (nI c9), .int (nI w9), .int (nI (ta f9 1 x9)), .int ln9, .int (nI sp9), .long (lN (cs9 + v9)), .int gv9])), (ru3, .inl (k 0, 960, .inl (fun i => nI (WT i)))), (ru2, .inl (k 0, 1080, .inl (fun i => nI (LN i)))), ((ad f9 0), .inr (4, [.ref (ad f9 1), .ref (ad f9 2), .ref (ad f9 3), .ref (ad f9 4), .ref (ad f9 5), .ref (ad f9 6), .int (nI (tk f9)), .int (nI (ct f9)), .int (nI (no f9))])), ((ad f9 1), .inl (k 0, 200, .inl (wdF wd f9))), ((ad f9 2), .inl (k 0, 40, .inl (fun i => nI (ta f9 0 i)))), ((ad f9 3), .inl (k 0, 40, .inl (fun i => nI (ta f9 1 i)))), ((ad f9 4), .inl (k 0, 40, .inl (fun i => nI (ta f9 2 i)))), ((ad f9 5), .inl (k 0, 40, .inl (fun i => nI (ta f9 3 i))))]) 0 0 := by
  refine met_start (by decide) (Nat.le_of_ble_eq_true rfl) ?_
  intro p e s m below meth c C K hA hsz S ls hl
  generalize va_A [(h0, .inr (6, [.ref ru0, .ref ru1, .ref ru2, .ref ru3, .ref ru4, .int (nI c9), .int (nI w9), .int (nI x9), .int ln9, .int (nI sp9), .long (lN cs9), .int gv9])), (ru3, .inl (k 0, 960, .inl (fun i => nI (WT i)))), (ru2, .inl (k 0, 1080, .inl (fun i => nI (LN i)))), ((ad f9 0), .inr (4, [.ref (ad f9 1), .ref (ad f9 2), .ref (ad f9 3), .ref (ad f9 4), .ref (ad f9 5), .ref (ad f9 6), .int (nI (tk f9)), .int (nI (ct f9)), .int (nI (no f9))])), ((ad f9 1), .inl (k 0, 200, .inl (wdF wd f9))), ((ad f9 2), .inl (k 0, 40, .inl (fun i => nI (ta f9 0 i)))), ((ad f9 3), .inl (k 0, 40, .inl (fun i => nI (ta f9 1 i)))), ((ad f9 4), .inl (k 0, 40, .inl (fun i => nI (ta f9 2 i)))), ((ad f9 5), .inl (k 0, 40, .inl (fun i => nI (ta f9 3 i))))] s0 = A at hA S ⊢
  have hx := C.1
  have hb := C.2.1
  have hl : lv_has ls 5 [(0, .ref h0), (1, .ref (ad f9 0)), (2, .int 4)] := hl
  refine lv_aload_n hx hb d_Ru_goInside_0 rfl (lv_at hl 1 rfl) ?_
  refine r_getN C K S 3 rfl rfl clOk_Bo 2 (by decide) xf_Ru_82 (v := .ref (ad f9 3)) rfl d_Ru_goInside_1 ?_
  refine lv_aload_n hx hb d_Ru_goInside_4 rfl (lv_at hl 0 rfl) ?_
  refine r_get C K S 0 rfl rfl clOk_Ru 7 (by decide) wf_Ru_59 (v := .int (nI x9)) rfl d_Ru_goInside_5 ?_
  refine r_iald C K S 6 rfl (i := nI x9) (show vp_in (nI x9) _ from vp_in_nI (n := x9) (by omega) (by decide)) (v := nI (ta f9 1 x9)) (by rw [nI_clamp (by omega)]) d_Ru_goInside_8 ?_
  refine lv_istore_n (lv' := [(3, .int (nI (ta f9 1 x9))), (0, .ref h0), (1, .ref (ad f9 0)), (2, .int 4)]) hx hb d_Ru_goInside_9 rfl hl (by decide) rfl (fun ls hl => ?_)
  refine lv_iload_n hx hb d_Ru_goInside_10 rfl (lv_at hl 3 rfl) ?_
  refine lv_iconst (v := 4) hx hb d_Ru_goInside_11 (by decide) ?_
  refine lv_icmp_ne (tgt := 36) hx hb d_Ru_goInside_12 (by decide) (fun hq => absurd (by decide) hq) (fun _ => ?_)
  refine lv_aload_n hx hb d_Ru_goInside_15 rfl (lv_at hl 1 rfl) ?_
  refine lv_dup hx hb d_Ru_goInside_16 rfl ?_
  refine r_get C K S 0 rfl rfl clOk_Ru 10 (by decide) wf_Ru_41 (v := .long (lN cs9)) rfl d_Ru_goInside_17 ?_
  refine lv_aload_n hx hb d_Ru_goInside_20 rfl (lv_at hl 2 rfl) ?_
  refine lv_aload_n hx hb d_Ru_goInside_21 rfl (lv_at hl 1 rfl) ?_
  refine r_get C K S 0 rfl rfl clOk_Ru 7 (by decide) wf_Ru_59 (v := .int (nI x9)) rfl d_Ru_goInside_22 ?_
  refine r_backi (wi := [((ad f9 0), .inr (4, [.ref (ad f9 1), .ref (ad f9 2), .ref (ad f9 3), .ref (ad f9 4), .ref (ad f9 5), .ref (ad f9 6), .int (nI (tk f9)), .int (nI (ct f9)), .int (nI (no f9))])), ((ad f9 1), .inl (k 0, 200, .inl (wdF wd f9))), ((ad f9 2), .inl (k 0, 40, .inl (fun i => nI (ta f9 0 i))))]) (wr := [(h0, .inr (6, [.ref ru0, .ref ru1, .ref ru2, .ref ru3, .ref ru4, .int (nI c9), .int (nI w9), .int (nI x9), .int ln9, .int (nI sp9), .long (lN cs9), .int gv9])), (ru3, .inl (k 0, 960, .inl (fun i => nI (WT i)))), (ru2, .inl (k 0, 1080, .inl (fun i => nI (LN i)))), ((ad f9 3), .inl (k 0, 40, .inl (fun i => nI (ta f9 1 i)))), ((ad f9 4), .inl (k 0, 40, .inl (fun i => nI (ta f9 2 i)))), ((ad f9 5), .inl (k 0, 40, .inl (fun i => nI (ta f9 3 i))))]) S hA [3, 4, 5] [0, 1, 2, 6, 7, 8] rfl rfl (by decide) (by decide) (va_runVN (As := [.int (nI x9)]) (rest := [.long (lN cs9), .ref h0]) ⟨hx, hb, C.2.2.1, C.2.2.2.1, C.2.2.2.2.1⟩ (g_Bo_operand l G k (ad f9 0) _ x9 (ad f9 1) (ad f9 2) (ad f9 3) (ad f9 4) (ad f9 5) (ad f9 6) (tk f9) (ct f9) (no f9) (wdF wd f9) (ta f9 0) hxx (by rw [hp0]; exact hpb)) (k_virtN (n := 1) C K wc_Bo_operand rfl rfl wz_Bo xm_Ru_68 wn_Bo_operand ws_Bo_operand (by decide +kernel) ⟨(Nat.le_of_ble_eq_true rfl), (Nat.le_of_ble_eq_true rfl)⟩) (pr_nowV K S [3, 4, 5] (by decide) rfl 3 rfl rfl) rfl rfl hl.1 rfl (lv_room (Nat.le_of_ble_eq_true rfl)) d_Ru_goInside_25 ⟨(Nat.le_of_ble_eq_true rfl), (Nat.le_of_ble_eq_true rfl)⟩) (fun r3 u1 H locs hw2 S => ?_)
  have S : Sw G A s.heap _ _ [(h0, .inr (6, [.ref ru0, .ref ru1, .ref ru2, .ref ru3, .ref ru4, .int (nI c9), .int (nI w9), .int (nI x9), .int ln9, .int (nI sp9), .long (lN cs9), .int gv9])), (ru3, .inl (k 0, 960, .inl (fun i => nI (WT i)))), (ru2, .inl (k 0, 1080, .inl (fun i => nI (LN i)))), ((ad f9 3), .inl (k 0, 40, .inl (fun i => nI (ta f9 1 i)))), ((ad f9 4), .inl (k 0, 40, .inl (fun i => nI (ta f9 2 i)))), ((ad f9 5), .inl (k 0, 40, .inl (fun i => nI (ta f9 3 i)))), ((ad f9 0), .inr (4, [.ref (ad f9 1), .ref (ad f9 2), .ref (ad f9 3), .ref (ad f9 4), .ref (ad f9 5), .ref (ad f9 6), .int (nI (tk f9)), .int (nI (ct f9)), .int (nI (no f9))])), ((ad f9 1), .inl (k 0, 200, .inl (wdF wd f9))), ((ad f9 2), .inl (k 0, 40, .inl (fun i => nI (ta f9 0 i))))] := S
  obtain ⟨hw20, hp4⟩ := hw2
  obtain rfl : r3 = (wdF wd f9) ((ta f9 0) x9 + 1) := hw20
  rw [hp0, hv]
  refine lv_i2l (v := lN v9) hx hb d_Ru_goInside_28 (show (nI v9 : Int32).toInt64 = _ from nI_l (n := v9) (by omega)) ?_
  refine z_ladd (x := lN cs9) (y := lN v9) (v := lN (cs9 + v9)) hx hb d_Ru_goInside_29 (lN_add cs9 v9) ?_
  refine r_put C K S 0 rfl rfl clOk_Ru 10 (by decide) wf_Ru_41 rfl (ty := .long) (v := .long (lN (cs9 + v9))) (by decide +kernel) rfl rfl (Nat.le_of_ble_eq_true rfl) (fs' := [.ref ru0, .ref ru1, .ref ru2, .ref ru3, .ref ru4, .int (nI c9), .int (nI w9), .int (nI x9), .int ln9, .int (nI sp9), .long (lN (cs9 + v9)), .int gv9]) (ws' := [(h0, .inr (6, [.ref ru0, .ref ru1, .ref ru2, .ref ru3, .ref ru4, .int (nI c9), .int (nI w9), .int (nI x9), .int ln9, .int (nI sp9), .long (lN (cs9 + v9)), .int gv9])), (ru3, .inl (k 0, 960, .inl (fun i => nI (WT i)))), (ru2, .inl (k 0, 1080, .inl (fun i => nI (LN i)))), ((ad f9 3), .inl (k 0, 40, .inl (fun i => nI (ta f9 1 i)))), ((ad f9 4), .inl (k 0, 40, .inl (fun i => nI (ta f9 2 i)))), ((ad f9 5), .inl (k 0, 40, .inl (fun i => nI (ta f9 3 i)))), ((ad f9 0), .inr (4, [.ref (ad f9 1), .ref (ad f9 2), .ref (ad f9 3), .ref (ad f9 4), .ref (ad f9 5), .ref (ad f9 6), .int (nI (tk f9)), .int (nI (ct f9)), .int (nI (no f9))])), ((ad f9 1), .inl (k 0, 200, .inl (wdF wd f9))), ((ad f9 2), .inl (k 0, 40, .inl (fun i => nI (ta f9 0 i))))]) rfl rfl d_Ru_goInside_30 (fun H locs S => ?_)
  refine lv_goto (tgt := 123) hx hb d_Ru_goInside_33 (by decide) ?_
  refine lv_aload_n hx hb d_Ru_goInside_123 rfl (lv_at hl 1 rfl) ?_
  refine lv_iload_n hx hb d_Ru_goInside_124 rfl (lv_at hl 0 rfl) ?_
  refine r_put C K S 0 rfl rfl clOk_Ru 7 (by decide) wf_Ru_59 rfl (ty := .int) (v := .int (nI (ta f9 1 x9))) (by decide +kernel) rfl rfl (Nat.le_of_ble_eq_true rfl) (fs' := [.ref ru0, .ref ru1, .ref ru2, .ref ru3, .ref ru4, .int (nI c9), .int (nI w9), .int (nI (ta f9 1 x9)), .int ln9, .int (nI sp9), .long (lN (cs9 + v9)), .int gv9]) (ws' := [(h0, .inr (6, [.ref ru0, .ref ru1, .ref ru2, .ref ru3, .ref ru4, .int (nI c9), .int (nI w9), .int (nI (ta f9 1 x9)), .int ln9, .int (nI sp9), .long (lN (cs9 + v9)), .int gv9])), (ru3, .inl (k 0, 960, .inl (fun i => nI (WT i)))), (ru2, .inl (k 0, 1080, .inl (fun i => nI (LN i)))), ((ad f9 3), .inl (k 0, 40, .inl (fun i => nI (ta f9 1 i)))), ((ad f9 4), .inl (k 0, 40, .inl (fun i => nI (ta f9 2 i)))), ((ad f9 5), .inl (k 0, 40, .inl (fun i => nI (ta f9 3 i)))), ((ad f9 0), .inr (4, [.ref (ad f9 1), .ref (ad f9 2), .ref (ad f9 3), .ref (ad f9 4), .ref (ad f9 5), .ref (ad f9 6), .int (nI (tk f9)), .int (nI (ct f9)), .int (nI (no f9))])), ((ad f9 1), .inl (k 0, 200, .inl (wdF wd f9))), ((ad f9 2), .inl (k 0, 40, .inl (fun i => nI (ta f9 0 i))))]) rfl rfl d_Ru_goInside_125 (fun H locs S => ?_)
  exact r_vret C K () trivial (S.sub [0, 1, 2, 6, 7, 8, 3, 4, 5] (by decide) rfl) d_Ru_goInside_128 (Nat.le_of_ble_eq_true rfl) (Nat.le_of_ble_eq_true rfl)
set_option maxRecDepth 100000 in
set_option maxHeartbeats 16000000 in
/-- goInside -/
theorem g_Ru_goInside_3z (l : Launch) (G : va_G) (k : Nat → ClassId) (h0 : Nat) (s0 : Nat) (f9 : Nat) (p9 : Nat) (kn : Nat) (v9 : Nat) (e9 : Nat) (ru0 : Nat) (ru1 : Nat) (ru2 : Nat) (ru3 : Nat) (ru4 : Nat) (c9 : Nat) (w9 : Nat) (x9 : Nat) (ln9 : Int32) (sp9 : Nat) (cs9 : Nat) (gv9 : Int32) (ad : Nat → Nat → Nat) (wd : Nat → Int32) (tk : Nat → Nat) (ct : Nat → Nat) (no : Nat → Nat) (ta : Nat → Nat → Nat → Nat) (WT : Nat → Nat) (LN : Nat → Nat) (hxx : x9 < 40) (hp0 : ta f9 0 x9 = p9) (hpb : p9 + 1 < 200) (hv : wdF wd f9 (p9 + 1) = nI v9) (hc : 1 ≤ c9) (hc6 : c9 ≤ 60) (hv2 : v9 < kn) (hkn : kn ≤ 18) (hl9 : LN (18 * (c9 - 1) + v9) = e9) (he : e9 = 0) : CV l y_Ru_goInside c_Ru_goInside 5 { frames := 1, cells := 0, slots := 0, locals := 21 } [.ref h0, .ref (ad f9 0), .int 3] G k s0 [(h0, .inr (6, [.ref ru0, .ref ru1, .ref ru2, .ref ru3, .ref ru4, .int (nI c9), .int (nI w9), .int (nI x9), .int ln9, .int (nI sp9), .long (lN cs9), .int gv9])), (ru3, .inl (k 0, 960, .inl (fun i => nI (WT i)))), (ru2, .inl (k 0, 1080, .inl (fun i => nI (LN i)))), ((ad f9 0), .inr (4, [.ref (ad f9 1), .ref (ad f9 2), .ref (ad f9 3), .ref (ad f9 4), .ref (ad f9 5), .ref (ad f9 6), .int (nI (tk f9)), .int (nI (ct f9)), .int (nI (no f9))])), ((ad f9 1), .inl (k 0, 200, .inl (wdF wd f9))), ((ad f9 2), .inl (k 0, 40, .inl (fun i => nI (ta f9 0 i)))), ((ad f9 3), .inl (k 0, 40, .inl (fun i => nI (ta f9 1 i)))), ((ad f9 4), .inl (k 0, 40, .inl (fun i => nI (ta f9 2 i)))), ((ad f9 5), .inl (k 0, 40, .inl (fun i => nI (ta f9 3 i))))] (fun (u : Unit) => True) (fun u => [(h0, .inr (6, [.ref ru0, .ref ru1, .ref ru2, .ref ru3, .ref ru4, .int (nI c9), .int (nI w9), .int (nI (ta f9 1 x9)), .int ln9, .int (nI sp9), .long (lN cs9), .int gv9])), (ru3, .inl (k 0, 960, .inl (fun i => nI (WT i)))), (ru2, .inl (k 0, 1080, .inl (fun i => nI (LN i)))), ((ad f9 0), .inr (4, [.ref (ad f9 1), .ref (ad f9 2), .ref (ad f9 3), .ref (ad f9 4), .ref (ad f9 5), .ref (ad f9 6), .int (nI (tk f9)), .int (nI (ct f9)), .int (nI (no f9))])), ((ad f9 1), .inl (k 0, 200, .inl (wdF wd f9))), ((ad f9 2), .inl (k 0, 40, .inl (fun i => nI (ta f9 0 i)))), ((ad f9 3), .inl (k 0, 40, .inl (fun i => nI (ta f9 1 i)))), ((ad f9 4), .inl (k 0, 40, .inl (fun i => nI (ta f9 2 i)))), ((ad f9 5), .inl (k 0, 40, .inl (fun i => nI (ta f9 3 i))))]) 0 0 := by
  refine met_start (by decide) (Nat.le_of_ble_eq_true rfl) ?_
  intro p e s m below meth c C K hA hsz S ls hl
  generalize va_A [(h0, .inr (6, [.ref ru0, .ref ru1, .ref ru2, .ref ru3, .ref ru4, .int (nI c9), .int (nI w9), .int (nI x9), .int ln9, .int (nI sp9), .long (lN cs9), .int gv9])), (ru3, .inl (k 0, 960, .inl (fun i => nI (WT i)))), (ru2, .inl (k 0, 1080, .inl (fun i => nI (LN i)))), ((ad f9 0), .inr (4, [.ref (ad f9 1), .ref (ad f9 2), .ref (ad f9 3), .ref (ad f9 4), .ref (ad f9 5), .ref (ad f9 6), .int (nI (tk f9)), .int (nI (ct f9)), .int (nI (no f9))])), ((ad f9 1), .inl (k 0, 200, .inl (wdF wd f9))), ((ad f9 2), .inl (k 0, 40, .inl (fun i => nI (ta f9 0 i)))), ((ad f9 3), .inl (k 0, 40, .inl (fun i => nI (ta f9 1 i)))), ((ad f9 4), .inl (k 0, 40, .inl (fun i => nI (ta f9 2 i)))), ((ad f9 5), .inl (k 0, 40, .inl (fun i => nI (ta f9 3 i))))] s0 = A at hA S ⊢
  have hx := C.1
  have hb := C.2.1
  have hl : lv_has ls 5 [(0, .ref h0), (1, .ref (ad f9 0)), (2, .int 3)] := hl
  refine lv_aload_n hx hb d_Ru_goInside_0 rfl (lv_at hl 1 rfl) ?_
  refine r_getN C K S 3 rfl rfl clOk_Bo 2 (by decide) xf_Ru_82 (v := .ref (ad f9 3)) rfl d_Ru_goInside_1 ?_
  refine lv_aload_n hx hb d_Ru_goInside_4 rfl (lv_at hl 0 rfl) ?_
  refine r_get C K S 0 rfl rfl clOk_Ru 7 (by decide) wf_Ru_59 (v := .int (nI x9)) rfl d_Ru_goInside_5 ?_
  refine r_iald C K S 6 rfl (i := nI x9) (show vp_in (nI x9) _ from vp_in_nI (n := x9) (by omega) (by decide)) (v := nI (ta f9 1 x9)) (by rw [nI_clamp (by omega)]) d_Ru_goInside_8 ?_
  refine lv_istore_n (lv' := [(3, .int (nI (ta f9 1 x9))), (0, .ref h0), (1, .ref (ad f9 0)), (2, .int 3)]) hx hb d_Ru_goInside_9 rfl hl (by decide) rfl (fun ls hl => ?_)
  refine lv_iload_n hx hb d_Ru_goInside_10 rfl (lv_at hl 3 rfl) ?_
  refine lv_iconst (v := 4) hx hb d_Ru_goInside_11 (by decide) ?_
  refine lv_icmp_ne (tgt := 36) hx hb d_Ru_goInside_12 (by decide) (fun _ => ?_) (fun hq => absurd hq (by decide))
  refine lv_iload_n hx hb d_Ru_goInside_36 rfl (lv_at hl 3 rfl) ?_
  refine lv_iconst (v := 3) hx hb d_Ru_goInside_37 (by decide) ?_
  refine lv_icmp_ne (tgt := 100) hx hb d_Ru_goInside_38 (by decide) (fun hq => absurd (by decide) hq) (fun _ => ?_)
  refine lv_aload_n hx hb d_Ru_goInside_41 rfl (lv_at hl 1 rfl) ?_
  refine r_get C K S 0 rfl rfl clOk_Ru 2 (by decide) wf_Ru_15 (v := .ref ru2) rfl d_Ru_goInside_42 ?_
  refine lv_aload_n hx hb d_Ru_goInside_45 rfl (lv_at hl 1 rfl) ?_
  refine lv_aload_n hx hb d_Ru_goInside_46 rfl (lv_at hl 2 rfl) ?_
  refine lv_aload_n hx hb d_Ru_goInside_47 rfl (lv_at hl 1 rfl) ?_
  refine r_get C K S 0 rfl rfl clOk_Ru 7 (by decide) wf_Ru_59 (v := .int (nI x9)) rfl d_Ru_goInside_48 ?_
  refine r_backi (wi := [((ad f9 0), .inr (4, [.ref (ad f9 1), .ref (ad f9 2), .ref (ad f9 3), .ref (ad f9 4), .ref (ad f9 5), .ref (ad f9 6), .int (nI (tk f9)), .int (nI (ct f9)), .int (nI (no f9))])), ((ad f9 1), .inl (k 0, 200, .inl (wdF wd f9))), ((ad f9 2), .inl (k 0, 40, .inl (fun i => nI (ta f9 0 i))))]) (wr := [(h0, .inr (6, [.ref ru0, .ref ru1, .ref ru2, .ref ru3, .ref ru4, .int (nI c9), .int (nI w9), .int (nI x9), .int ln9, .int (nI sp9), .long (lN cs9), .int gv9])), (ru3, .inl (k 0, 960, .inl (fun i => nI (WT i)))), (ru2, .inl (k 0, 1080, .inl (fun i => nI (LN i)))), ((ad f9 3), .inl (k 0, 40, .inl (fun i => nI (ta f9 1 i)))), ((ad f9 4), .inl (k 0, 40, .inl (fun i => nI (ta f9 2 i)))), ((ad f9 5), .inl (k 0, 40, .inl (fun i => nI (ta f9 3 i))))]) S hA [3, 4, 5] [0, 1, 2, 6, 7, 8] rfl rfl (by decide) (by decide) (va_runVN (As := [.int (nI x9)]) (rest := [.ref h0, .ref ru2]) ⟨hx, hb, C.2.2.1, C.2.2.2.1, C.2.2.2.2.1⟩ (g_Bo_operand l G k (ad f9 0) _ x9 (ad f9 1) (ad f9 2) (ad f9 3) (ad f9 4) (ad f9 5) (ad f9 6) (tk f9) (ct f9) (no f9) (wdF wd f9) (ta f9 0) hxx (by rw [hp0]; exact hpb)) (k_virtN (n := 1) C K wc_Bo_operand rfl rfl wz_Bo xm_Ru_68 wn_Bo_operand ws_Bo_operand (by decide +kernel) ⟨(Nat.le_of_ble_eq_true rfl), (Nat.le_of_ble_eq_true rfl)⟩) (pr_nowV K S [3, 4, 5] (by decide) rfl 3 rfl rfl) rfl rfl hl.1 rfl (lv_room (Nat.le_of_ble_eq_true rfl)) d_Ru_goInside_51 ⟨(Nat.le_of_ble_eq_true rfl), (Nat.le_of_ble_eq_true rfl)⟩) (fun r3 u1 H locs hw2 S => ?_)
  have S : Sw G A s.heap _ _ [(h0, .inr (6, [.ref ru0, .ref ru1, .ref ru2, .ref ru3, .ref ru4, .int (nI c9), .int (nI w9), .int (nI x9), .int ln9, .int (nI sp9), .long (lN cs9), .int gv9])), (ru3, .inl (k 0, 960, .inl (fun i => nI (WT i)))), (ru2, .inl (k 0, 1080, .inl (fun i => nI (LN i)))), ((ad f9 3), .inl (k 0, 40, .inl (fun i => nI (ta f9 1 i)))), ((ad f9 4), .inl (k 0, 40, .inl (fun i => nI (ta f9 2 i)))), ((ad f9 5), .inl (k 0, 40, .inl (fun i => nI (ta f9 3 i)))), ((ad f9 0), .inr (4, [.ref (ad f9 1), .ref (ad f9 2), .ref (ad f9 3), .ref (ad f9 4), .ref (ad f9 5), .ref (ad f9 6), .int (nI (tk f9)), .int (nI (ct f9)), .int (nI (no f9))])), ((ad f9 1), .inl (k 0, 200, .inl (wdF wd f9))), ((ad f9 2), .inl (k 0, 40, .inl (fun i => nI (ta f9 0 i))))] := S
  obtain ⟨hw20, hp4⟩ := hw2
  obtain rfl : r3 = (wdF wd f9) ((ta f9 0) x9 + 1) := hw20
  rw [hp0, hv]
  refine r_backi (wi := [(h0, .inr (6, [.ref ru0, .ref ru1, .ref ru2, .ref ru3, .ref ru4, .int (nI c9), .int (nI w9), .int (nI x9), .int ln9, .int (nI sp9), .long (lN cs9), .int gv9]))]) (wr := [(ru3, .inl (k 0, 960, .inl (fun i => nI (WT i)))), (ru2, .inl (k 0, 1080, .inl (fun i => nI (LN i)))), ((ad f9 3), .inl (k 0, 40, .inl (fun i => nI (ta f9 1 i)))), ((ad f9 4), .inl (k 0, 40, .inl (fun i => nI (ta f9 2 i)))), ((ad f9 5), .inl (k 0, 40, .inl (fun i => nI (ta f9 3 i)))), ((ad f9 0), .inr (4, [.ref (ad f9 1), .ref (ad f9 2), .ref (ad f9 3), .ref (ad f9 4), .ref (ad f9 5), .ref (ad f9 6), .int (nI (tk f9)), .int (nI (ct f9)), .int (nI (no f9))])), ((ad f9 1), .inl (k 0, 200, .inl (wdF wd f9))), ((ad f9 2), .inl (k 0, 40, .inl (fun i => nI (ta f9 0 i))))]) S hA [0] [1, 2, 3, 4, 5, 6, 7, 8] rfl rfl (by decide) (by decide) (va_runV (As := [.int (nI v9)]) (rest := [.ref ru2]) ⟨hx, hb, C.2.2.1, C.2.2.2.1, C.2.2.2.2.1⟩ (g_Ru_slot l G k h0 _ v9 ru0 ru1 ru2 ru3 ru4 c9 w9 x9 ln9 sp9 cs9 gv9 hc) (k_virt (n := 1) C wc_Ru_slot rfl rfl wz_Ru wm_Ru_71 wn_Ru_slot ws_Ru_slot (by decide +kernel) ⟨(Nat.le_of_ble_eq_true rfl), (Nat.le_of_ble_eq_true rfl)⟩) (pr_nowV K S [0] (by decide) rfl 0 rfl rfl) rfl rfl hl.1 rfl (lv_room (Nat.le_of_ble_eq_true rfl)) d_Ru_goInside_54 ⟨(Nat.le_of_ble_eq_true rfl), (Nat.le_of_ble_eq_true rfl)⟩) (fun r7 u5 H locs hw6 S => ?_)
  have S : Sw G A s.heap _ _ [(ru3, .inl (k 0, 960, .inl (fun i => nI (WT i)))), (ru2, .inl (k 0, 1080, .inl (fun i => nI (LN i)))), ((ad f9 3), .inl (k 0, 40, .inl (fun i => nI (ta f9 1 i)))), ((ad f9 4), .inl (k 0, 40, .inl (fun i => nI (ta f9 2 i)))), ((ad f9 5), .inl (k 0, 40, .inl (fun i => nI (ta f9 3 i)))), ((ad f9 0), .inr (4, [.ref (ad f9 1), .ref (ad f9 2), .ref (ad f9 3), .ref (ad f9 4), .ref (ad f9 5), .ref (ad f9 6), .int (nI (tk f9)), .int (nI (ct f9)), .int (nI (no f9))])), ((ad f9 1), .inl (k 0, 200, .inl (wdF wd f9))), ((ad f9 2), .inl (k 0, 40, .inl (fun i => nI (ta f9 0 i)))), (h0, .inr (6, [.ref ru0, .ref ru1, .ref ru2, .ref ru3, .ref ru4, .int (nI c9), .int (nI w9), .int (nI x9), .int ln9, .int (nI sp9), .long (lN cs9), .int gv9]))] := S
  obtain ⟨hw60, hp8⟩ := hw6
  obtain rfl : r7 = nI (18 * (c9 - 1) + v9) := hw60
  refine r_iald C K S 1 rfl (i := nI (18 * (c9 - 1) + v9)) (show vp_in (nI (18 * (c9 - 1) + v9)) _ from vp_in_nI (n := (18 * (c9 - 1) + v9)) (by omega) (by decide)) (v := nI (LN (18 * (c9 - 1) + v9))) (by rw [nI_clamp (by omega)]) d_Ru_goInside_57 ?_
  rw [hl9]
  refine lv_istore (lv' := [(4, .int (nI e9)), (3, .int (nI (ta f9 1 x9))), (0, .ref h0), (1, .ref (ad f9 0)), (2, .int 3)]) hx hb d_Ru_goInside_58 hl (by decide) rfl (fun ls hl => ?_)
  refine lv_iload hx hb d_Ru_goInside_60 (lv_at hl 0 rfl) ?_
  refine z_if_le (a := e9) (tgt := 97) hx hb d_Ru_goInside_62 (by decide) (by omega) (fun hc9 => ?_) (fun hc9 => False.elim (by omega))
  refine lv_goto (tgt := 123) hx hb d_Ru_goInside_97 (by decide) ?_
  refine lv_aload_n hx hb d_Ru_goInside_123 rfl (lv_at hl 2 rfl) ?_
  refine lv_iload_n hx hb d_Ru_goInside_124 rfl (lv_at hl 1 rfl) ?_
  refine r_put C K S 8 rfl rfl clOk_Ru 7 (by decide) wf_Ru_59 rfl (ty := .int) (v := .int (nI (ta f9 1 x9))) (by decide +kernel) rfl rfl (Nat.le_of_ble_eq_true rfl) (fs' := [.ref ru0, .ref ru1, .ref ru2, .ref ru3, .ref ru4, .int (nI c9), .int (nI w9), .int (nI (ta f9 1 x9)), .int ln9, .int (nI sp9), .long (lN cs9), .int gv9]) (ws' := [(ru3, .inl (k 0, 960, .inl (fun i => nI (WT i)))), (ru2, .inl (k 0, 1080, .inl (fun i => nI (LN i)))), ((ad f9 3), .inl (k 0, 40, .inl (fun i => nI (ta f9 1 i)))), ((ad f9 4), .inl (k 0, 40, .inl (fun i => nI (ta f9 2 i)))), ((ad f9 5), .inl (k 0, 40, .inl (fun i => nI (ta f9 3 i)))), ((ad f9 0), .inr (4, [.ref (ad f9 1), .ref (ad f9 2), .ref (ad f9 3), .ref (ad f9 4), .ref (ad f9 5), .ref (ad f9 6), .int (nI (tk f9)), .int (nI (ct f9)), .int (nI (no f9))])), ((ad f9 1), .inl (k 0, 200, .inl (wdF wd f9))), ((ad f9 2), .inl (k 0, 40, .inl (fun i => nI (ta f9 0 i)))), (h0, .inr (6, [.ref ru0, .ref ru1, .ref ru2, .ref ru3, .ref ru4, .int (nI c9), .int (nI w9), .int (nI (ta f9 1 x9)), .int ln9, .int (nI sp9), .long (lN cs9), .int gv9]))]) rfl rfl d_Ru_goInside_125 (fun H locs S => ?_)
  exact r_vret C K () trivial (S.sub [8, 0, 1, 5, 6, 7, 2, 3, 4] (by decide) rfl) d_Ru_goInside_128 (Nat.le_of_ble_eq_true rfl) (Nat.le_of_ble_eq_true rfl)
set_option maxRecDepth 100000 in
set_option maxHeartbeats 16000000 in
/-- goInside -/
theorem g_Ru_goInside_3s (l : Launch) (G : va_G) (k : Nat → ClassId) (h0 : Nat) (s0 : Nat) (f9 : Nat) (p9 : Nat) (kn : Nat) (v9 : Nat) (e9 : Nat) (ru0 : Nat) (ru1 : Nat) (ru2 : Nat) (ru3 : Nat) (ru4 : Nat) (c9 : Nat) (w9 : Nat) (x9 : Nat) (ln9 : Int32) (sp9 : Nat) (cs9 : Nat) (gv9 : Int32) (ad : Nat → Nat → Nat) (wd : Nat → Int32) (tk : Nat → Nat) (ct : Nat → Nat) (no : Nat → Nat) (ta : Nat → Nat → Nat → Nat) (WT : Nat → Nat) (LN : Nat → Nat) (hxx : x9 < 40) (hp0 : ta f9 0 x9 = p9) (hpb : p9 + 1 < 200) (hv : wdF wd f9 (p9 + 1) = nI v9) (hc : 1 ≤ c9) (hc6 : c9 ≤ 60) (hv2 : v9 < kn) (hkn : kn ≤ 18) (hl9 : LN (18 * (c9 - 1) + v9) = e9) (he : 0 < e9) (he2 : e9 ≤ 30000) (hk3 : ta f9 3 x9 = kn) (hk4 : kn ≤ 17) : CV l y_Ru_goInside c_Ru_goInside 5 { frames := 1, cells := 0, slots := 0, locals := 21 } [.ref h0, .ref (ad f9 0), .int 3] G k s0 [(h0, .inr (6, [.ref ru0, .ref ru1, .ref ru2, .ref ru3, .ref ru4, .int (nI c9), .int (nI w9), .int (nI x9), .int ln9, .int (nI sp9), .long (lN cs9), .int gv9])), (ru3, .inl (k 0, 960, .inl (fun i => nI (WT i)))), (ru2, .inl (k 0, 1080, .inl (fun i => nI (LN i)))), ((ad f9 0), .inr (4, [.ref (ad f9 1), .ref (ad f9 2), .ref (ad f9 3), .ref (ad f9 4), .ref (ad f9 5), .ref (ad f9 6), .int (nI (tk f9)), .int (nI (ct f9)), .int (nI (no f9))])), ((ad f9 1), .inl (k 0, 200, .inl (wdF wd f9))), ((ad f9 2), .inl (k 0, 40, .inl (fun i => nI (ta f9 0 i)))), ((ad f9 3), .inl (k 0, 40, .inl (fun i => nI (ta f9 1 i)))), ((ad f9 4), .inl (k 0, 40, .inl (fun i => nI (ta f9 2 i)))), ((ad f9 5), .inl (k 0, 40, .inl (fun i => nI (ta f9 3 i))))] (fun (u : Unit) => True) (fun u => [(h0, .inr (6, [.ref ru0, .ref ru1, .ref ru2, .ref ru3, .ref ru4, .int (nI c9), .int (nI w9), .int (nI (ta f9 2 x9)), .int ln9, .int (nI sp9), .long (lN cs9), .int gv9])), (ru3, .inl (k 0, 960, .inl (fun i => nI (WT i)))), (ru2, .inl (k 0, 1080, .inl (fun i => nI ((va_up LN (18 * (c9 - 1) + kn) (e9 - 1)) i)))), ((ad f9 0), .inr (4, [.ref (ad f9 1), .ref (ad f9 2), .ref (ad f9 3), .ref (ad f9 4), .ref (ad f9 5), .ref (ad f9 6), .int (nI (tk f9)), .int (nI (ct f9)), .int (nI (no f9))])), ((ad f9 1), .inl (k 0, 200, .inl (wdF wd f9))), ((ad f9 2), .inl (k 0, 40, .inl (fun i => nI (ta f9 0 i)))), ((ad f9 3), .inl (k 0, 40, .inl (fun i => nI (ta f9 1 i)))), ((ad f9 4), .inl (k 0, 40, .inl (fun i => nI (ta f9 2 i)))), ((ad f9 5), .inl (k 0, 40, .inl (fun i => nI (ta f9 3 i))))]) 0 0 := by
  refine met_start (by decide) (Nat.le_of_ble_eq_true rfl) ?_
  intro p e s m below meth c C K hA hsz S ls hl
  generalize va_A [(h0, .inr (6, [.ref ru0, .ref ru1, .ref ru2, .ref ru3, .ref ru4, .int (nI c9), .int (nI w9), .int (nI x9), .int ln9, .int (nI sp9), .long (lN cs9), .int gv9])), (ru3, .inl (k 0, 960, .inl (fun i => nI (WT i)))), (ru2, .inl (k 0, 1080, .inl (fun i => nI (LN i)))), ((ad f9 0), .inr (4, [.ref (ad f9 1), .ref (ad f9 2), .ref (ad f9 3), .ref (ad f9 4), .ref (ad f9 5), .ref (ad f9 6), .int (nI (tk f9)), .int (nI (ct f9)), .int (nI (no f9))])), ((ad f9 1), .inl (k 0, 200, .inl (wdF wd f9))), ((ad f9 2), .inl (k 0, 40, .inl (fun i => nI (ta f9 0 i)))), ((ad f9 3), .inl (k 0, 40, .inl (fun i => nI (ta f9 1 i)))), ((ad f9 4), .inl (k 0, 40, .inl (fun i => nI (ta f9 2 i)))), ((ad f9 5), .inl (k 0, 40, .inl (fun i => nI (ta f9 3 i))))] s0 = A at hA S ⊢
  have hx := C.1
  have hb := C.2.1
  have hl : lv_has ls 5 [(0, .ref h0), (1, .ref (ad f9 0)), (2, .int 3)] := hl
  refine lv_aload_n hx hb d_Ru_goInside_0 rfl (lv_at hl 1 rfl) ?_
  refine r_getN C K S 3 rfl rfl clOk_Bo 2 (by decide) xf_Ru_82 (v := .ref (ad f9 3)) rfl d_Ru_goInside_1 ?_
  refine lv_aload_n hx hb d_Ru_goInside_4 rfl (lv_at hl 0 rfl) ?_
  refine r_get C K S 0 rfl rfl clOk_Ru 7 (by decide) wf_Ru_59 (v := .int (nI x9)) rfl d_Ru_goInside_5 ?_
  refine r_iald C K S 6 rfl (i := nI x9) (show vp_in (nI x9) _ from vp_in_nI (n := x9) (by omega) (by decide)) (v := nI (ta f9 1 x9)) (by rw [nI_clamp (by omega)]) d_Ru_goInside_8 ?_
  refine lv_istore_n (lv' := [(3, .int (nI (ta f9 1 x9))), (0, .ref h0), (1, .ref (ad f9 0)), (2, .int 3)]) hx hb d_Ru_goInside_9 rfl hl (by decide) rfl (fun ls hl => ?_)
  refine lv_iload_n hx hb d_Ru_goInside_10 rfl (lv_at hl 3 rfl) ?_
  refine lv_iconst (v := 4) hx hb d_Ru_goInside_11 (by decide) ?_
  refine lv_icmp_ne (tgt := 36) hx hb d_Ru_goInside_12 (by decide) (fun _ => ?_) (fun hq => absurd hq (by decide))
  refine lv_iload_n hx hb d_Ru_goInside_36 rfl (lv_at hl 3 rfl) ?_
  refine lv_iconst (v := 3) hx hb d_Ru_goInside_37 (by decide) ?_
  refine lv_icmp_ne (tgt := 100) hx hb d_Ru_goInside_38 (by decide) (fun hq => absurd (by decide) hq) (fun _ => ?_)
  refine lv_aload_n hx hb d_Ru_goInside_41 rfl (lv_at hl 1 rfl) ?_
  refine r_get C K S 0 rfl rfl clOk_Ru 2 (by decide) wf_Ru_15 (v := .ref ru2) rfl d_Ru_goInside_42 ?_
  refine lv_aload_n hx hb d_Ru_goInside_45 rfl (lv_at hl 1 rfl) ?_
  refine lv_aload_n hx hb d_Ru_goInside_46 rfl (lv_at hl 2 rfl) ?_
  refine lv_aload_n hx hb d_Ru_goInside_47 rfl (lv_at hl 1 rfl) ?_
  refine r_get C K S 0 rfl rfl clOk_Ru 7 (by decide) wf_Ru_59 (v := .int (nI x9)) rfl d_Ru_goInside_48 ?_
  refine r_backi (wi := [((ad f9 0), .inr (4, [.ref (ad f9 1), .ref (ad f9 2), .ref (ad f9 3), .ref (ad f9 4), .ref (ad f9 5), .ref (ad f9 6), .int (nI (tk f9)), .int (nI (ct f9)), .int (nI (no f9))])), ((ad f9 1), .inl (k 0, 200, .inl (wdF wd f9))), ((ad f9 2), .inl (k 0, 40, .inl (fun i => nI (ta f9 0 i))))]) (wr := [(h0, .inr (6, [.ref ru0, .ref ru1, .ref ru2, .ref ru3, .ref ru4, .int (nI c9), .int (nI w9), .int (nI x9), .int ln9, .int (nI sp9), .long (lN cs9), .int gv9])), (ru3, .inl (k 0, 960, .inl (fun i => nI (WT i)))), (ru2, .inl (k 0, 1080, .inl (fun i => nI (LN i)))), ((ad f9 3), .inl (k 0, 40, .inl (fun i => nI (ta f9 1 i)))), ((ad f9 4), .inl (k 0, 40, .inl (fun i => nI (ta f9 2 i)))), ((ad f9 5), .inl (k 0, 40, .inl (fun i => nI (ta f9 3 i))))]) S hA [3, 4, 5] [0, 1, 2, 6, 7, 8] rfl rfl (by decide) (by decide) (va_runVN (As := [.int (nI x9)]) (rest := [.ref h0, .ref ru2]) ⟨hx, hb, C.2.2.1, C.2.2.2.1, C.2.2.2.2.1⟩ (g_Bo_operand l G k (ad f9 0) _ x9 (ad f9 1) (ad f9 2) (ad f9 3) (ad f9 4) (ad f9 5) (ad f9 6) (tk f9) (ct f9) (no f9) (wdF wd f9) (ta f9 0) hxx (by rw [hp0]; exact hpb)) (k_virtN (n := 1) C K wc_Bo_operand rfl rfl wz_Bo xm_Ru_68 wn_Bo_operand ws_Bo_operand (by decide +kernel) ⟨(Nat.le_of_ble_eq_true rfl), (Nat.le_of_ble_eq_true rfl)⟩) (pr_nowV K S [3, 4, 5] (by decide) rfl 3 rfl rfl) rfl rfl hl.1 rfl (lv_room (Nat.le_of_ble_eq_true rfl)) d_Ru_goInside_51 ⟨(Nat.le_of_ble_eq_true rfl), (Nat.le_of_ble_eq_true rfl)⟩) (fun r3 u1 H locs hw2 S => ?_)
  have S : Sw G A s.heap _ _ [(h0, .inr (6, [.ref ru0, .ref ru1, .ref ru2, .ref ru3, .ref ru4, .int (nI c9), .int (nI w9), .int (nI x9), .int ln9, .int (nI sp9), .long (lN cs9), .int gv9])), (ru3, .inl (k 0, 960, .inl (fun i => nI (WT i)))), (ru2, .inl (k 0, 1080, .inl (fun i => nI (LN i)))), ((ad f9 3), .inl (k 0, 40, .inl (fun i => nI (ta f9 1 i)))), ((ad f9 4), .inl (k 0, 40, .inl (fun i => nI (ta f9 2 i)))), ((ad f9 5), .inl (k 0, 40, .inl (fun i => nI (ta f9 3 i)))), ((ad f9 0), .inr (4, [.ref (ad f9 1), .ref (ad f9 2), .ref (ad f9 3), .ref (ad f9 4), .ref (ad f9 5), .ref (ad f9 6), .int (nI (tk f9)), .int (nI (ct f9)), .int (nI (no f9))])), ((ad f9 1), .inl (k 0, 200, .inl (wdF wd f9))), ((ad f9 2), .inl (k 0, 40, .inl (fun i => nI (ta f9 0 i))))] := S
  obtain ⟨hw20, hp4⟩ := hw2
  obtain rfl : r3 = (wdF wd f9) ((ta f9 0) x9 + 1) := hw20
  rw [hp0, hv]
  refine r_backi (wi := [(h0, .inr (6, [.ref ru0, .ref ru1, .ref ru2, .ref ru3, .ref ru4, .int (nI c9), .int (nI w9), .int (nI x9), .int ln9, .int (nI sp9), .long (lN cs9), .int gv9]))]) (wr := [(ru3, .inl (k 0, 960, .inl (fun i => nI (WT i)))), (ru2, .inl (k 0, 1080, .inl (fun i => nI (LN i)))), ((ad f9 3), .inl (k 0, 40, .inl (fun i => nI (ta f9 1 i)))), ((ad f9 4), .inl (k 0, 40, .inl (fun i => nI (ta f9 2 i)))), ((ad f9 5), .inl (k 0, 40, .inl (fun i => nI (ta f9 3 i)))), ((ad f9 0), .inr (4, [.ref (ad f9 1), .ref (ad f9 2), .ref (ad f9 3), .ref (ad f9 4), .ref (ad f9 5), .ref (ad f9 6), .int (nI (tk f9)), .int (nI (ct f9)), .int (nI (no f9))])), ((ad f9 1), .inl (k 0, 200, .inl (wdF wd f9))), ((ad f9 2), .inl (k 0, 40, .inl (fun i => nI (ta f9 0 i))))]) S hA [0] [1, 2, 3, 4, 5, 6, 7, 8] rfl rfl (by decide) (by decide) (va_runV (As := [.int (nI v9)]) (rest := [.ref ru2]) ⟨hx, hb, C.2.2.1, C.2.2.2.1, C.2.2.2.2.1⟩ (g_Ru_slot l G k h0 _ v9 ru0 ru1 ru2 ru3 ru4 c9 w9 x9 ln9 sp9 cs9 gv9 hc) (k_virt (n := 1) C wc_Ru_slot rfl rfl wz_Ru wm_Ru_71 wn_Ru_slot ws_Ru_slot (by decide +kernel) ⟨(Nat.le_of_ble_eq_true rfl), (Nat.le_of_ble_eq_true rfl)⟩) (pr_nowV K S [0] (by decide) rfl 0 rfl rfl) rfl rfl hl.1 rfl (lv_room (Nat.le_of_ble_eq_true rfl)) d_Ru_goInside_54 ⟨(Nat.le_of_ble_eq_true rfl), (Nat.le_of_ble_eq_true rfl)⟩) (fun r7 u5 H locs hw6 S => ?_)
  have S : Sw G A s.heap _ _ [(ru3, .inl (k 0, 960, .inl (fun i => nI (WT i)))), (ru2, .inl (k 0, 1080, .inl (fun i => nI (LN i)))), ((ad f9 3), .inl (k 0, 40, .inl (fun i => nI (ta f9 1 i)))), ((ad f9 4), .inl (k 0, 40, .inl (fun i => nI (ta f9 2 i)))), ((ad f9 5), .inl (k 0, 40, .inl (fun i => nI (ta f9 3 i)))), ((ad f9 0), .inr (4, [.ref (ad f9 1), .ref (ad f9 2), .ref (ad f9 3), .ref (ad f9 4), .ref (ad f9 5), .ref (ad f9 6), .int (nI (tk f9)), .int (nI (ct f9)), .int (nI (no f9))])), ((ad f9 1), .inl (k 0, 200, .inl (wdF wd f9))), ((ad f9 2), .inl (k 0, 40, .inl (fun i => nI (ta f9 0 i)))), (h0, .inr (6, [.ref ru0, .ref ru1, .ref ru2, .ref ru3, .ref ru4, .int (nI c9), .int (nI w9), .int (nI x9), .int ln9, .int (nI sp9), .long (lN cs9), .int gv9]))] := S
  obtain ⟨hw60, hp8⟩ := hw6
  obtain rfl : r7 = nI (18 * (c9 - 1) + v9) := hw60
  refine r_iald C K S 1 rfl (i := nI (18 * (c9 - 1) + v9)) (show vp_in (nI (18 * (c9 - 1) + v9)) _ from vp_in_nI (n := (18 * (c9 - 1) + v9)) (by omega) (by decide)) (v := nI (LN (18 * (c9 - 1) + v9))) (by rw [nI_clamp (by omega)]) d_Ru_goInside_57 ?_
  rw [hl9]
  refine lv_istore (lv' := [(4, .int (nI e9)), (3, .int (nI (ta f9 1 x9))), (0, .ref h0), (1, .ref (ad f9 0)), (2, .int 3)]) hx hb d_Ru_goInside_58 hl (by decide) rfl (fun ls hl => ?_)
  refine lv_iload hx hb d_Ru_goInside_60 (lv_at hl 0 rfl) ?_
  refine z_if_le (a := e9) (tgt := 97) hx hb d_Ru_goInside_62 (by decide) (by omega) (fun hc9 => False.elim (by omega)) (fun hc9 => ?_)
  refine lv_aload_n hx hb d_Ru_goInside_65 rfl (lv_at hl 2 rfl) ?_
  refine r_get C K S 8 rfl rfl clOk_Ru 2 (by decide) wf_Ru_15 (v := .ref ru2) rfl d_Ru_goInside_66 ?_
  refine lv_aload_n hx hb d_Ru_goInside_69 rfl (lv_at hl 2 rfl) ?_
  refine lv_aload_n hx hb d_Ru_goInside_70 rfl (lv_at hl 3 rfl) ?_
  refine r_getN C K S 5 rfl rfl clOk_Bo 4 (by decide) xf_Ru_85 (v := .ref (ad f9 5)) rfl d_Ru_goInside_71 ?_
  refine lv_aload_n hx hb d_Ru_goInside_74 rfl (lv_at hl 2 rfl) ?_
  refine r_get C K S 8 rfl rfl clOk_Ru 7 (by decide) wf_Ru_59 (v := .int (nI x9)) rfl d_Ru_goInside_75 ?_
  refine r_iald C K S 4 rfl (i := nI x9) (show vp_in (nI x9) _ from vp_in_nI (n := x9) (by omega) (by decide)) (v := nI (ta f9 3 x9)) (by rw [nI_clamp (by omega)]) d_Ru_goInside_78 ?_
  rw [hk3]
  refine r_backi (wi := [(h0, .inr (6, [.ref ru0, .ref ru1, .ref ru2, .ref ru3, .ref ru4, .int (nI c9), .int (nI w9), .int (nI x9), .int ln9, .int (nI sp9), .long (lN cs9), .int gv9]))]) (wr := [(ru3, .inl (k 0, 960, .inl (fun i => nI (WT i)))), (ru2, .inl (k 0, 1080, .inl (fun i => nI (LN i)))), ((ad f9 3), .inl (k 0, 40, .inl (fun i => nI (ta f9 1 i)))), ((ad f9 4), .inl (k 0, 40, .inl (fun i => nI (ta f9 2 i)))), ((ad f9 5), .inl (k 0, 40, .inl (fun i => nI (ta f9 3 i)))), ((ad f9 0), .inr (4, [.ref (ad f9 1), .ref (ad f9 2), .ref (ad f9 3), .ref (ad f9 4), .ref (ad f9 5), .ref (ad f9 6), .int (nI (tk f9)), .int (nI (ct f9)), .int (nI (no f9))])), ((ad f9 1), .inl (k 0, 200, .inl (wdF wd f9))), ((ad f9 2), .inl (k 0, 40, .inl (fun i => nI (ta f9 0 i))))]) S hA [8] [0, 1, 2, 3, 4, 5, 6, 7] rfl rfl (by decide) (by decide) (va_runV (As := [.int (nI kn)]) (rest := [.ref ru2]) ⟨hx, hb, C.2.2.1, C.2.2.2.1, C.2.2.2.2.1⟩ (g_Ru_slot l G k h0 _ kn ru0 ru1 ru2 ru3 ru4 c9 w9 x9 ln9 sp9 cs9 gv9 hc) (k_virt (n := 1) C wc_Ru_slot rfl rfl wz_Ru wm_Ru_71 wn_Ru_slot ws_Ru_slot (by decide +kernel) ⟨(Nat.le_of_ble_eq_true rfl), (Nat.le_of_ble_eq_true rfl)⟩) (pr_nowV K S [8] (by decide) rfl 8 rfl rfl) rfl rfl hl.1 rfl (lv_room (Nat.le_of_ble_eq_true rfl)) d_Ru_goInside_79 ⟨(Nat.le_of_ble_eq_true rfl), (Nat.le_of_ble_eq_true rfl)⟩) (fun r12 u10 H locs hw11 S => ?_)
  have S : Sw G A s.heap _ _ [(ru3, .inl (k 0, 960, .inl (fun i => nI (WT i)))), (ru2, .inl (k 0, 1080, .inl (fun i => nI (LN i)))), ((ad f9 3), .inl (k 0, 40, .inl (fun i => nI (ta f9 1 i)))), ((ad f9 4), .inl (k 0, 40, .inl (fun i => nI (ta f9 2 i)))), ((ad f9 5), .inl (k 0, 40, .inl (fun i => nI (ta f9 3 i)))), ((ad f9 0), .inr (4, [.ref (ad f9 1), .ref (ad f9 2), .ref (ad f9 3), .ref (ad f9 4), .ref (ad f9 5), .ref (ad f9 6), .int (nI (tk f9)), .int (nI (ct f9)), .int (nI (no f9))])), ((ad f9 1), .inl (k 0, 200, .inl (wdF wd f9))), ((ad f9 2), .inl (k 0, 40, .inl (fun i => nI (ta f9 0 i)))), (h0, .inr (6, [.ref ru0, .ref ru1, .ref ru2, .ref ru3, .ref ru4, .int (nI c9), .int (nI w9), .int (nI x9), .int ln9, .int (nI sp9), .long (lN cs9), .int gv9]))] := S
  obtain ⟨hw110, hp13⟩ := hw11
  obtain rfl : r12 = nI (18 * (c9 - 1) + kn) := hw110
  refine lv_iload hx hb d_Ru_goInside_82 (lv_at hl 0 rfl) ?_
  refine lv_iconst (v := 1) hx hb d_Ru_goInside_84 (by decide) ?_
  refine z_isub (x := nI e9) (y := 1) (v := nI (e9 - 1)) hx hb d_Ru_goInside_85 (pk_sub (a := e9) (b := 1) (by omega)) ?_
  refine r_iast C K S 1 rfl (i := nI (18 * (c9 - 1) + kn)) (x := nI (e9 - 1)) (show vp_in (nI (18 * (c9 - 1) + kn)) _ from vp_in_nI (n := (18 * (c9 - 1) + kn)) (by omega) (by decide)) (f' := fun i => nI (va_up LN (18 * (c9 - 1) + kn) (e9 - 1) i)) (ws' := [(ru3, .inl (k 0, 960, .inl (fun i => nI (WT i)))), (ru2, .inl (k 0, 1080, .inl (fun i => nI (va_up LN (18 * (c9 - 1) + kn) (e9 - 1) i)))), ((ad f9 3), .inl (k 0, 40, .inl (fun i => nI (ta f9 1 i)))), ((ad f9 4), .inl (k 0, 40, .inl (fun i => nI (ta f9 2 i)))), ((ad f9 5), .inl (k 0, 40, .inl (fun i => nI (ta f9 3 i)))), ((ad f9 0), .inr (4, [.ref (ad f9 1), .ref (ad f9 2), .ref (ad f9 3), .ref (ad f9 4), .ref (ad f9 5), .ref (ad f9 6), .int (nI (tk f9)), .int (nI (ct f9)), .int (nI (no f9))])), ((ad f9 1), .inl (k 0, 200, .inl (wdF wd f9))), ((ad f9 2), .inl (k 0, 40, .inl (fun i => nI (ta f9 0 i)))), (h0, .inr (6, [.ref ru0, .ref ru1, .ref ru2, .ref ru3, .ref ru4, .int (nI c9), .int (nI w9), .int (nI x9), .int ln9, .int (nI sp9), .long (lN cs9), .int gv9]))]) (show upd _ (nI (18 * (c9 - 1) + kn) : Int32).toNatClampNeg (nI (e9 - 1)) = _ from upd_nI LN (j := (18 * (c9 - 1) + kn)) (by omega) (e9 - 1)) rfl d_Ru_goInside_86 (fun H locs S => ?_)
  refine lv_aload_n hx hb d_Ru_goInside_87 rfl (lv_at hl 3 rfl) ?_
  refine r_getN C K S 5 rfl rfl clOk_Bo 3 (by decide) xf_Ru_88 (v := .ref (ad f9 4)) rfl d_Ru_goInside_88 ?_
  refine lv_aload_n hx hb d_Ru_goInside_91 rfl (lv_at hl 2 rfl) ?_
  refine r_get C K S 8 rfl rfl clOk_Ru 7 (by decide) wf_Ru_59 (v := .int (nI x9)) rfl d_Ru_goInside_92 ?_
  refine r_iald C K S 3 rfl (i := nI x9) (show vp_in (nI x9) _ from vp_in_nI (n := x9) (by omega) (by decide)) (v := nI (ta f9 2 x9)) (by rw [nI_clamp (by omega)]) d_Ru_goInside_95 ?_
  refine lv_istore_n (lv' := [(3, .int (nI (ta f9 2 x9))), (4, .int (nI e9)), (0, .ref h0), (1, .ref (ad f9 0)), (2, .int 3)]) hx hb d_Ru_goInside_96 rfl hl (by decide) rfl (fun ls hl => ?_)
  refine lv_goto (tgt := 123) hx hb d_Ru_goInside_97 (by decide) ?_
  refine lv_aload_n hx hb d_Ru_goInside_123 rfl (lv_at hl 2 rfl) ?_
  refine lv_iload_n hx hb d_Ru_goInside_124 rfl (lv_at hl 0 rfl) ?_
  refine r_put C K S 8 rfl rfl clOk_Ru 7 (by decide) wf_Ru_59 rfl (ty := .int) (v := .int (nI (ta f9 2 x9))) (by decide +kernel) rfl rfl (Nat.le_of_ble_eq_true rfl) (fs' := [.ref ru0, .ref ru1, .ref ru2, .ref ru3, .ref ru4, .int (nI c9), .int (nI w9), .int (nI (ta f9 2 x9)), .int ln9, .int (nI sp9), .long (lN cs9), .int gv9]) (ws' := [(ru3, .inl (k 0, 960, .inl (fun i => nI (WT i)))), (ru2, .inl (k 0, 1080, .inl (fun i => nI (va_up LN (18 * (c9 - 1) + kn) (e9 - 1) i)))), ((ad f9 3), .inl (k 0, 40, .inl (fun i => nI (ta f9 1 i)))), ((ad f9 4), .inl (k 0, 40, .inl (fun i => nI (ta f9 2 i)))), ((ad f9 5), .inl (k 0, 40, .inl (fun i => nI (ta f9 3 i)))), ((ad f9 0), .inr (4, [.ref (ad f9 1), .ref (ad f9 2), .ref (ad f9 3), .ref (ad f9 4), .ref (ad f9 5), .ref (ad f9 6), .int (nI (tk f9)), .int (nI (ct f9)), .int (nI (no f9))])), ((ad f9 1), .inl (k 0, 200, .inl (wdF wd f9))), ((ad f9 2), .inl (k 0, 40, .inl (fun i => nI (ta f9 0 i)))), (h0, .inr (6, [.ref ru0, .ref ru1, .ref ru2, .ref ru3, .ref ru4, .int (nI c9), .int (nI w9), .int (nI (ta f9 2 x9)), .int ln9, .int (nI sp9), .long (lN cs9), .int gv9]))]) rfl rfl d_Ru_goInside_125 (fun H locs S => ?_)
  exact r_vret C K () trivial (S.sub [8, 0, 1, 5, 6, 7, 2, 3, 4] (by decide) rfl) d_Ru_goInside_128 (Nat.le_of_ble_eq_true rfl) (Nat.le_of_ble_eq_true rfl)
set_option maxRecDepth 100000 in
set_option maxHeartbeats 16000000 in
/-- goInside -/
theorem g_Ru_goInside_2 (l : Launch) (G : va_G) (k : Nat → ClassId) (h0 : Nat) (s0 : Nat) (f9 : Nat) (p9 : Nat) (kn : Nat) (ru0 : Nat) (ru1 : Nat) (ru2 : Nat) (ru3 : Nat) (ru4 : Nat) (c9 : Nat) (w9 : Nat) (x9 : Nat) (ln9 : Int32) (sp9 : Nat) (cs9 : Nat) (gv9 : Int32) (ad : Nat → Nat → Nat) (wd : Nat → Int32) (tk : Nat → Nat) (ct : Nat → Nat) (no : Nat → Nat) (ta : Nat → Nat → Nat → Nat) (WT : Nat → Nat) (LN : Nat → Nat) (hxx : x9 < 40) (hp0 : ta f9 0 x9 = p9) (hw : w9 < 960) : CV l y_Ru_goInside c_Ru_goInside 5 { frames := 1, cells := 0, slots := 0, locals := 21 } [.ref h0, .ref (ad f9 0), .int 2] G k s0 [(h0, .inr (6, [.ref ru0, .ref ru1, .ref ru2, .ref ru3, .ref ru4, .int (nI c9), .int (nI w9), .int (nI x9), .int ln9, .int (nI sp9), .long (lN cs9), .int gv9])), (ru3, .inl (k 0, 960, .inl (fun i => nI (WT i)))), (ru2, .inl (k 0, 1080, .inl (fun i => nI (LN i)))), ((ad f9 0), .inr (4, [.ref (ad f9 1), .ref (ad f9 2), .ref (ad f9 3), .ref (ad f9 4), .ref (ad f9 5), .ref (ad f9 6), .int (nI (tk f9)), .int (nI (ct f9)), .int (nI (no f9))])), ((ad f9 1), .inl (k 0, 200, .inl (wdF wd f9))), ((ad f9 2), .inl (k 0, 40, .inl (fun i => nI (ta f9 0 i)))), ((ad f9 3), .inl (k 0, 40, .inl (fun i => nI (ta f9 1 i)))), ((ad f9 4), .inl (k 0, 40, .inl (fun i => nI (ta f9 2 i)))), ((ad f9 5), .inl (k 0, 40, .inl (fun i => nI (ta f9 3 i))))] (fun (u : Unit) => True) (fun u => [(h0, .inr (6, [.ref ru0, .ref ru1, .ref ru2, .ref ru3, .ref ru4, .int (nI c9), .int (nI (w9 + 1)), .int (nI (ta f9 1 x9)), .int ln9, .int (nI sp9), .long (lN cs9), .int gv9])), (ru3, .inl (k 0, 960, .inl (fun i => nI ((va_up WT w9 x9) i)))), (ru2, .inl (k 0, 1080, .inl (fun i => nI (LN i)))), ((ad f9 0), .inr (4, [.ref (ad f9 1), .ref (ad f9 2), .ref (ad f9 3), .ref (ad f9 4), .ref (ad f9 5), .ref (ad f9 6), .int (nI (tk f9)), .int (nI (ct f9)), .int (nI (no f9))])), ((ad f9 1), .inl (k 0, 200, .inl (wdF wd f9))), ((ad f9 2), .inl (k 0, 40, .inl (fun i => nI (ta f9 0 i)))), ((ad f9 3), .inl (k 0, 40, .inl (fun i => nI (ta f9 1 i)))), ((ad f9 4), .inl (k 0, 40, .inl (fun i => nI (ta f9 2 i)))), ((ad f9 5), .inl (k 0, 40, .inl (fun i => nI (ta f9 3 i))))]) 0 0 := by
  refine met_start (by decide) (Nat.le_of_ble_eq_true rfl) ?_
  intro p e s m below meth c C K hA hsz S ls hl
  generalize va_A [(h0, .inr (6, [.ref ru0, .ref ru1, .ref ru2, .ref ru3, .ref ru4, .int (nI c9), .int (nI w9), .int (nI x9), .int ln9, .int (nI sp9), .long (lN cs9), .int gv9])), (ru3, .inl (k 0, 960, .inl (fun i => nI (WT i)))), (ru2, .inl (k 0, 1080, .inl (fun i => nI (LN i)))), ((ad f9 0), .inr (4, [.ref (ad f9 1), .ref (ad f9 2), .ref (ad f9 3), .ref (ad f9 4), .ref (ad f9 5), .ref (ad f9 6), .int (nI (tk f9)), .int (nI (ct f9)), .int (nI (no f9))])), ((ad f9 1), .inl (k 0, 200, .inl (wdF wd f9))), ((ad f9 2), .inl (k 0, 40, .inl (fun i => nI (ta f9 0 i)))), ((ad f9 3), .inl (k 0, 40, .inl (fun i => nI (ta f9 1 i)))), ((ad f9 4), .inl (k 0, 40, .inl (fun i => nI (ta f9 2 i)))), ((ad f9 5), .inl (k 0, 40, .inl (fun i => nI (ta f9 3 i))))] s0 = A at hA S ⊢
  have hx := C.1
  have hb := C.2.1
  have hl : lv_has ls 5 [(0, .ref h0), (1, .ref (ad f9 0)), (2, .int 2)] := hl
  refine lv_aload_n hx hb d_Ru_goInside_0 rfl (lv_at hl 1 rfl) ?_
  refine r_getN C K S 3 rfl rfl clOk_Bo 2 (by decide) xf_Ru_82 (v := .ref (ad f9 3)) rfl d_Ru_goInside_1 ?_
  refine lv_aload_n hx hb d_Ru_goInside_4 rfl (lv_at hl 0 rfl) ?_
  refine r_get C K S 0 rfl rfl clOk_Ru 7 (by decide) wf_Ru_59 (v := .int (nI x9)) rfl d_Ru_goInside_5 ?_
  refine r_iald C K S 6 rfl (i := nI x9) (show vp_in (nI x9) _ from vp_in_nI (n := x9) (by omega) (by decide)) (v := nI (ta f9 1 x9)) (by rw [nI_clamp (by omega)]) d_Ru_goInside_8 ?_
  refine lv_istore_n (lv' := [(3, .int (nI (ta f9 1 x9))), (0, .ref h0), (1, .ref (ad f9 0)), (2, .int 2)]) hx hb d_Ru_goInside_9 rfl hl (by decide) rfl (fun ls hl => ?_)
  refine lv_iload_n hx hb d_Ru_goInside_10 rfl (lv_at hl 3 rfl) ?_
  refine lv_iconst (v := 4) hx hb d_Ru_goInside_11 (by decide) ?_
  refine lv_icmp_ne (tgt := 36) hx hb d_Ru_goInside_12 (by decide) (fun _ => ?_) (fun hq => absurd hq (by decide))
  refine lv_iload_n hx hb d_Ru_goInside_36 rfl (lv_at hl 3 rfl) ?_
  refine lv_iconst (v := 3) hx hb d_Ru_goInside_37 (by decide) ?_
  refine lv_icmp_ne (tgt := 100) hx hb d_Ru_goInside_38 (by decide) (fun _ => ?_) (fun hq => absurd hq (by decide))
  refine lv_aload_n hx hb d_Ru_goInside_100 rfl (lv_at hl 1 rfl) ?_
  refine r_get C K S 0 rfl rfl clOk_Ru 3 (by decide) wf_Ru_18 (v := .ref ru3) rfl d_Ru_goInside_101 ?_
  refine lv_aload_n hx hb d_Ru_goInside_104 rfl (lv_at hl 1 rfl) ?_
  refine r_get C K S 0 rfl rfl clOk_Ru 6 (by decide) wf_Ru_35 (v := .int (nI w9)) rfl d_Ru_goInside_105 ?_
  refine lv_aload_n hx hb d_Ru_goInside_108 rfl (lv_at hl 1 rfl) ?_
  refine r_get C K S 0 rfl rfl clOk_Ru 7 (by decide) wf_Ru_59 (v := .int (nI x9)) rfl d_Ru_goInside_109 ?_
  refine r_iast C K S 1 rfl (i := nI w9) (x := nI x9) (show vp_in (nI w9) _ from vp_in_nI (n := w9) (by omega) (by decide)) (f' := fun i => nI (va_up WT w9 x9 i)) (ws' := [(h0, .inr (6, [.ref ru0, .ref ru1, .ref ru2, .ref ru3, .ref ru4, .int (nI c9), .int (nI w9), .int (nI x9), .int ln9, .int (nI sp9), .long (lN cs9), .int gv9])), (ru3, .inl (k 0, 960, .inl (fun i => nI (va_up WT w9 x9 i)))), (ru2, .inl (k 0, 1080, .inl (fun i => nI (LN i)))), ((ad f9 0), .inr (4, [.ref (ad f9 1), .ref (ad f9 2), .ref (ad f9 3), .ref (ad f9 4), .ref (ad f9 5), .ref (ad f9 6), .int (nI (tk f9)), .int (nI (ct f9)), .int (nI (no f9))])), ((ad f9 1), .inl (k 0, 200, .inl (wdF wd f9))), ((ad f9 2), .inl (k 0, 40, .inl (fun i => nI (ta f9 0 i)))), ((ad f9 3), .inl (k 0, 40, .inl (fun i => nI (ta f9 1 i)))), ((ad f9 4), .inl (k 0, 40, .inl (fun i => nI (ta f9 2 i)))), ((ad f9 5), .inl (k 0, 40, .inl (fun i => nI (ta f9 3 i))))]) (show upd _ (nI w9 : Int32).toNatClampNeg (nI x9) = _ from upd_nI WT (j := w9) (by omega) x9) rfl d_Ru_goInside_112 (fun H locs S => ?_)
  refine lv_aload_n hx hb d_Ru_goInside_113 rfl (lv_at hl 1 rfl) ?_
  refine lv_dup hx hb d_Ru_goInside_114 rfl ?_
  refine r_get C K S 0 rfl rfl clOk_Ru 6 (by decide) wf_Ru_35 (v := .int (nI w9)) rfl d_Ru_goInside_115 ?_
  refine lv_iconst (v := 1) hx hb d_Ru_goInside_118 (by decide) ?_
  refine z_iadd (x := nI w9) (y := 1) (v := nI (w9 + 1)) hx hb d_Ru_goInside_119 (nI_add w9 1) ?_
  refine r_put C K S 0 rfl rfl clOk_Ru 6 (by decide) wf_Ru_35 rfl (ty := .int) (v := .int (nI (w9 + 1))) (by decide +kernel) rfl rfl (Nat.le_of_ble_eq_true rfl) (fs' := [.ref ru0, .ref ru1, .ref ru2, .ref ru3, .ref ru4, .int (nI c9), .int (nI (w9 + 1)), .int (nI x9), .int ln9, .int (nI sp9), .long (lN cs9), .int gv9]) (ws' := [(h0, .inr (6, [.ref ru0, .ref ru1, .ref ru2, .ref ru3, .ref ru4, .int (nI c9), .int (nI (w9 + 1)), .int (nI x9), .int ln9, .int (nI sp9), .long (lN cs9), .int gv9])), (ru3, .inl (k 0, 960, .inl (fun i => nI (va_up WT w9 x9 i)))), (ru2, .inl (k 0, 1080, .inl (fun i => nI (LN i)))), ((ad f9 0), .inr (4, [.ref (ad f9 1), .ref (ad f9 2), .ref (ad f9 3), .ref (ad f9 4), .ref (ad f9 5), .ref (ad f9 6), .int (nI (tk f9)), .int (nI (ct f9)), .int (nI (no f9))])), ((ad f9 1), .inl (k 0, 200, .inl (wdF wd f9))), ((ad f9 2), .inl (k 0, 40, .inl (fun i => nI (ta f9 0 i)))), ((ad f9 3), .inl (k 0, 40, .inl (fun i => nI (ta f9 1 i)))), ((ad f9 4), .inl (k 0, 40, .inl (fun i => nI (ta f9 2 i)))), ((ad f9 5), .inl (k 0, 40, .inl (fun i => nI (ta f9 3 i))))]) rfl rfl d_Ru_goInside_120 (fun H locs S => ?_)
  refine lv_aload_n hx hb d_Ru_goInside_123 rfl (lv_at hl 1 rfl) ?_
  refine lv_iload_n hx hb d_Ru_goInside_124 rfl (lv_at hl 0 rfl) ?_
  refine r_put C K S 0 rfl rfl clOk_Ru 7 (by decide) wf_Ru_59 rfl (ty := .int) (v := .int (nI (ta f9 1 x9))) (by decide +kernel) rfl rfl (Nat.le_of_ble_eq_true rfl) (fs' := [.ref ru0, .ref ru1, .ref ru2, .ref ru3, .ref ru4, .int (nI c9), .int (nI (w9 + 1)), .int (nI (ta f9 1 x9)), .int ln9, .int (nI sp9), .long (lN cs9), .int gv9]) (ws' := [(h0, .inr (6, [.ref ru0, .ref ru1, .ref ru2, .ref ru3, .ref ru4, .int (nI c9), .int (nI (w9 + 1)), .int (nI (ta f9 1 x9)), .int ln9, .int (nI sp9), .long (lN cs9), .int gv9])), (ru3, .inl (k 0, 960, .inl (fun i => nI (va_up WT w9 x9 i)))), (ru2, .inl (k 0, 1080, .inl (fun i => nI (LN i)))), ((ad f9 0), .inr (4, [.ref (ad f9 1), .ref (ad f9 2), .ref (ad f9 3), .ref (ad f9 4), .ref (ad f9 5), .ref (ad f9 6), .int (nI (tk f9)), .int (nI (ct f9)), .int (nI (no f9))])), ((ad f9 1), .inl (k 0, 200, .inl (wdF wd f9))), ((ad f9 2), .inl (k 0, 40, .inl (fun i => nI (ta f9 0 i)))), ((ad f9 3), .inl (k 0, 40, .inl (fun i => nI (ta f9 1 i)))), ((ad f9 4), .inl (k 0, 40, .inl (fun i => nI (ta f9 2 i)))), ((ad f9 5), .inl (k 0, 40, .inl (fun i => nI (ta f9 3 i))))]) rfl rfl d_Ru_goInside_125 (fun H locs S => ?_)
  exact r_vret C K () trivial (S.sub [0, 1, 2, 3, 4, 5, 6, 7, 8] (by decide) rfl) d_Ru_goInside_128 (Nat.le_of_ble_eq_true rfl) (Nat.le_of_ble_eq_true rfl)
set_option maxRecDepth 100000 in
set_option maxHeartbeats 16000000 in
/-- goInside -/
theorem g_Ru_goInside_6 (l : Launch) (G : va_G) (k : Nat → ClassId) (h0 : Nat) (s0 : Nat) (f9 : Nat) (p9 : Nat) (kn : Nat) (ru0 : Nat) (ru1 : Nat) (ru2 : Nat) (ru3 : Nat) (ru4 : Nat) (c9 : Nat) (w9 : Nat) (x9 : Nat) (ln9 : Int32) (sp9 : Nat) (cs9 : Nat) (gv9 : Int32) (ad : Nat → Nat → Nat) (wd : Nat → Int32) (tk : Nat → Nat) (ct : Nat → Nat) (no : Nat → Nat) (ta : Nat → Nat → Nat → Nat) (WT : Nat → Nat) (LN : Nat → Nat) (hxx : x9 < 40) (hp0 : ta f9 0 x9 = p9) (hw : w9 < 960) : CV l y_Ru_goInside c_Ru_goInside 5 { frames := 1, cells := 0, slots := 0, locals := 21 } [.ref h0, .ref (ad f9 0), .int 6] G k s0 [(h0, .inr (6, [.ref ru0, .ref ru1, .ref ru2, .ref ru3, .ref ru4, .int (nI c9), .int (nI w9), .int (nI x9), .int ln9, .int (nI sp9), .long (lN cs9), .int gv9])), (ru3, .inl (k 0, 960, .inl (fun i => nI (WT i)))), (ru2, .inl (k 0, 1080, .inl (fun i => nI (LN i)))), ((ad f9 0), .inr (4, [.ref (ad f9 1), .ref (ad f9 2), .ref (ad f9 3), .ref (ad f9 4), .ref (ad f9 5), .ref (ad f9 6), .int (nI (tk f9)), .int (nI (ct f9)), .int (nI (no f9))])), ((ad f9 1), .inl (k 0, 200, .inl (wdF wd f9))), ((ad f9 2), .inl (k 0, 40, .inl (fun i => nI (ta f9 0 i)))), ((ad f9 3), .inl (k 0, 40, .inl (fun i => nI (ta f9 1 i)))), ((ad f9 4), .inl (k 0, 40, .inl (fun i => nI (ta f9 2 i)))), ((ad f9 5), .inl (k 0, 40, .inl (fun i => nI (ta f9 3 i))))] (fun (u : Unit) => True) (fun u => [(h0, .inr (6, [.ref ru0, .ref ru1, .ref ru2, .ref ru3, .ref ru4, .int (nI c9), .int (nI (w9 + 1)), .int (nI (ta f9 1 x9)), .int ln9, .int (nI sp9), .long (lN cs9), .int gv9])), (ru3, .inl (k 0, 960, .inl (fun i => nI ((va_up WT w9 x9) i)))), (ru2, .inl (k 0, 1080, .inl (fun i => nI (LN i)))), ((ad f9 0), .inr (4, [.ref (ad f9 1), .ref (ad f9 2), .ref (ad f9 3), .ref (ad f9 4), .ref (ad f9 5), .ref (ad f9 6), .int (nI (tk f9)), .int (nI (ct f9)), .int (nI (no f9))])), ((ad f9 1), .inl (k 0, 200, .inl (wdF wd f9))), ((ad f9 2), .inl (k 0, 40, .inl (fun i => nI (ta f9 0 i)))), ((ad f9 3), .inl (k 0, 40, .inl (fun i => nI (ta f9 1 i)))), ((ad f9 4), .inl (k 0, 40, .inl (fun i => nI (ta f9 2 i)))), ((ad f9 5), .inl (k 0, 40, .inl (fun i => nI (ta f9 3 i))))]) 0 0 := by
  refine met_start (by decide) (Nat.le_of_ble_eq_true rfl) ?_
  intro p e s m below meth c C K hA hsz S ls hl
  generalize va_A [(h0, .inr (6, [.ref ru0, .ref ru1, .ref ru2, .ref ru3, .ref ru4, .int (nI c9), .int (nI w9), .int (nI x9), .int ln9, .int (nI sp9), .long (lN cs9), .int gv9])), (ru3, .inl (k 0, 960, .inl (fun i => nI (WT i)))), (ru2, .inl (k 0, 1080, .inl (fun i => nI (LN i)))), ((ad f9 0), .inr (4, [.ref (ad f9 1), .ref (ad f9 2), .ref (ad f9 3), .ref (ad f9 4), .ref (ad f9 5), .ref (ad f9 6), .int (nI (tk f9)), .int (nI (ct f9)), .int (nI (no f9))])), ((ad f9 1), .inl (k 0, 200, .inl (wdF wd f9))), ((ad f9 2), .inl (k 0, 40, .inl (fun i => nI (ta f9 0 i)))), ((ad f9 3), .inl (k 0, 40, .inl (fun i => nI (ta f9 1 i)))), ((ad f9 4), .inl (k 0, 40, .inl (fun i => nI (ta f9 2 i)))), ((ad f9 5), .inl (k 0, 40, .inl (fun i => nI (ta f9 3 i))))] s0 = A at hA S ⊢
  have hx := C.1
  have hb := C.2.1
  have hl : lv_has ls 5 [(0, .ref h0), (1, .ref (ad f9 0)), (2, .int 6)] := hl
  refine lv_aload_n hx hb d_Ru_goInside_0 rfl (lv_at hl 1 rfl) ?_
  refine r_getN C K S 3 rfl rfl clOk_Bo 2 (by decide) xf_Ru_82 (v := .ref (ad f9 3)) rfl d_Ru_goInside_1 ?_
  refine lv_aload_n hx hb d_Ru_goInside_4 rfl (lv_at hl 0 rfl) ?_
  refine r_get C K S 0 rfl rfl clOk_Ru 7 (by decide) wf_Ru_59 (v := .int (nI x9)) rfl d_Ru_goInside_5 ?_
  refine r_iald C K S 6 rfl (i := nI x9) (show vp_in (nI x9) _ from vp_in_nI (n := x9) (by omega) (by decide)) (v := nI (ta f9 1 x9)) (by rw [nI_clamp (by omega)]) d_Ru_goInside_8 ?_
  refine lv_istore_n (lv' := [(3, .int (nI (ta f9 1 x9))), (0, .ref h0), (1, .ref (ad f9 0)), (2, .int 6)]) hx hb d_Ru_goInside_9 rfl hl (by decide) rfl (fun ls hl => ?_)
  refine lv_iload_n hx hb d_Ru_goInside_10 rfl (lv_at hl 3 rfl) ?_
  refine lv_iconst (v := 4) hx hb d_Ru_goInside_11 (by decide) ?_
  refine lv_icmp_ne (tgt := 36) hx hb d_Ru_goInside_12 (by decide) (fun _ => ?_) (fun hq => absurd hq (by decide))
  refine lv_iload_n hx hb d_Ru_goInside_36 rfl (lv_at hl 3 rfl) ?_
  refine lv_iconst (v := 3) hx hb d_Ru_goInside_37 (by decide) ?_
  refine lv_icmp_ne (tgt := 100) hx hb d_Ru_goInside_38 (by decide) (fun _ => ?_) (fun hq => absurd hq (by decide))
  refine lv_aload_n hx hb d_Ru_goInside_100 rfl (lv_at hl 1 rfl) ?_
  refine r_get C K S 0 rfl rfl clOk_Ru 3 (by decide) wf_Ru_18 (v := .ref ru3) rfl d_Ru_goInside_101 ?_
  refine lv_aload_n hx hb d_Ru_goInside_104 rfl (lv_at hl 1 rfl) ?_
  refine r_get C K S 0 rfl rfl clOk_Ru 6 (by decide) wf_Ru_35 (v := .int (nI w9)) rfl d_Ru_goInside_105 ?_
  refine lv_aload_n hx hb d_Ru_goInside_108 rfl (lv_at hl 1 rfl) ?_
  refine r_get C K S 0 rfl rfl clOk_Ru 7 (by decide) wf_Ru_59 (v := .int (nI x9)) rfl d_Ru_goInside_109 ?_
  refine r_iast C K S 1 rfl (i := nI w9) (x := nI x9) (show vp_in (nI w9) _ from vp_in_nI (n := w9) (by omega) (by decide)) (f' := fun i => nI (va_up WT w9 x9 i)) (ws' := [(h0, .inr (6, [.ref ru0, .ref ru1, .ref ru2, .ref ru3, .ref ru4, .int (nI c9), .int (nI w9), .int (nI x9), .int ln9, .int (nI sp9), .long (lN cs9), .int gv9])), (ru3, .inl (k 0, 960, .inl (fun i => nI (va_up WT w9 x9 i)))), (ru2, .inl (k 0, 1080, .inl (fun i => nI (LN i)))), ((ad f9 0), .inr (4, [.ref (ad f9 1), .ref (ad f9 2), .ref (ad f9 3), .ref (ad f9 4), .ref (ad f9 5), .ref (ad f9 6), .int (nI (tk f9)), .int (nI (ct f9)), .int (nI (no f9))])), ((ad f9 1), .inl (k 0, 200, .inl (wdF wd f9))), ((ad f9 2), .inl (k 0, 40, .inl (fun i => nI (ta f9 0 i)))), ((ad f9 3), .inl (k 0, 40, .inl (fun i => nI (ta f9 1 i)))), ((ad f9 4), .inl (k 0, 40, .inl (fun i => nI (ta f9 2 i)))), ((ad f9 5), .inl (k 0, 40, .inl (fun i => nI (ta f9 3 i))))]) (show upd _ (nI w9 : Int32).toNatClampNeg (nI x9) = _ from upd_nI WT (j := w9) (by omega) x9) rfl d_Ru_goInside_112 (fun H locs S => ?_)
  refine lv_aload_n hx hb d_Ru_goInside_113 rfl (lv_at hl 1 rfl) ?_
  refine lv_dup hx hb d_Ru_goInside_114 rfl ?_
  refine r_get C K S 0 rfl rfl clOk_Ru 6 (by decide) wf_Ru_35 (v := .int (nI w9)) rfl d_Ru_goInside_115 ?_
  refine lv_iconst (v := 1) hx hb d_Ru_goInside_118 (by decide) ?_
  refine z_iadd (x := nI w9) (y := 1) (v := nI (w9 + 1)) hx hb d_Ru_goInside_119 (nI_add w9 1) ?_
  refine r_put C K S 0 rfl rfl clOk_Ru 6 (by decide) wf_Ru_35 rfl (ty := .int) (v := .int (nI (w9 + 1))) (by decide +kernel) rfl rfl (Nat.le_of_ble_eq_true rfl) (fs' := [.ref ru0, .ref ru1, .ref ru2, .ref ru3, .ref ru4, .int (nI c9), .int (nI (w9 + 1)), .int (nI x9), .int ln9, .int (nI sp9), .long (lN cs9), .int gv9]) (ws' := [(h0, .inr (6, [.ref ru0, .ref ru1, .ref ru2, .ref ru3, .ref ru4, .int (nI c9), .int (nI (w9 + 1)), .int (nI x9), .int ln9, .int (nI sp9), .long (lN cs9), .int gv9])), (ru3, .inl (k 0, 960, .inl (fun i => nI (va_up WT w9 x9 i)))), (ru2, .inl (k 0, 1080, .inl (fun i => nI (LN i)))), ((ad f9 0), .inr (4, [.ref (ad f9 1), .ref (ad f9 2), .ref (ad f9 3), .ref (ad f9 4), .ref (ad f9 5), .ref (ad f9 6), .int (nI (tk f9)), .int (nI (ct f9)), .int (nI (no f9))])), ((ad f9 1), .inl (k 0, 200, .inl (wdF wd f9))), ((ad f9 2), .inl (k 0, 40, .inl (fun i => nI (ta f9 0 i)))), ((ad f9 3), .inl (k 0, 40, .inl (fun i => nI (ta f9 1 i)))), ((ad f9 4), .inl (k 0, 40, .inl (fun i => nI (ta f9 2 i)))), ((ad f9 5), .inl (k 0, 40, .inl (fun i => nI (ta f9 3 i))))]) rfl rfl d_Ru_goInside_120 (fun H locs S => ?_)
  refine lv_aload_n hx hb d_Ru_goInside_123 rfl (lv_at hl 1 rfl) ?_
  refine lv_iload_n hx hb d_Ru_goInside_124 rfl (lv_at hl 0 rfl) ?_
  refine r_put C K S 0 rfl rfl clOk_Ru 7 (by decide) wf_Ru_59 rfl (ty := .int) (v := .int (nI (ta f9 1 x9))) (by decide +kernel) rfl rfl (Nat.le_of_ble_eq_true rfl) (fs' := [.ref ru0, .ref ru1, .ref ru2, .ref ru3, .ref ru4, .int (nI c9), .int (nI (w9 + 1)), .int (nI (ta f9 1 x9)), .int ln9, .int (nI sp9), .long (lN cs9), .int gv9]) (ws' := [(h0, .inr (6, [.ref ru0, .ref ru1, .ref ru2, .ref ru3, .ref ru4, .int (nI c9), .int (nI (w9 + 1)), .int (nI (ta f9 1 x9)), .int ln9, .int (nI sp9), .long (lN cs9), .int gv9])), (ru3, .inl (k 0, 960, .inl (fun i => nI (va_up WT w9 x9 i)))), (ru2, .inl (k 0, 1080, .inl (fun i => nI (LN i)))), ((ad f9 0), .inr (4, [.ref (ad f9 1), .ref (ad f9 2), .ref (ad f9 3), .ref (ad f9 4), .ref (ad f9 5), .ref (ad f9 6), .int (nI (tk f9)), .int (nI (ct f9)), .int (nI (no f9))])), ((ad f9 1), .inl (k 0, 200, .inl (wdF wd f9))), ((ad f9 2), .inl (k 0, 40, .inl (fun i => nI (ta f9 0 i)))), ((ad f9 3), .inl (k 0, 40, .inl (fun i => nI (ta f9 1 i)))), ((ad f9 4), .inl (k 0, 40, .inl (fun i => nI (ta f9 2 i)))), ((ad f9 5), .inl (k 0, 40, .inl (fun i => nI (ta f9 3 i))))]) rfl rfl d_Ru_goInside_125 (fun H locs S => ?_)
  exact r_vret C K () trivial (S.sub [0, 1, 2, 3, 4, 5, 6, 7, 8] (by decide) rfl) d_Ru_goInside_128 (Nat.le_of_ble_eq_true rfl) (Nat.le_of_ble_eq_true rfl)
end
