section RUN3
variable {wd : Nat → Int32} {tk : Nat → Nat} {nf : Nat} {En : Nat → Nat}
/-- how a run goes on -/
def rlI (wd : Nat → Int32) (tk : Nat → Nat) (nf : Nat) (En : Nat → Nat) : Option Nat → Nat → Nat → (Nat → Nat) → Nat → List Fr → Nat → Nat → Nat → Ro → Prop
  | none, f, p, env, kn, st, stp, cst, cl, r => (stp = 20000 ∧ r = (true, 0, cst, 20000)) ∨ (stp < 20000 ∧ ((wdF wd f p = 0 ∧ RL wd tk nf En (some 0) f p env kn st (stp + 1) cst cl r)
    ∨ (∃ v, wdF wd f p = 1 ∧ wdF wd f (p + 1) = nI v ∧ v < kn ∧ RL wd tk nf En (some (env v)) f p env kn st (stp + 1) cst cl r)
    ∨ (wdF wd f p = 2 ∧ RL wd tk nf En none f (p + 1) env kn ((0, f, 0, env, kn) :: st) (stp + 1) cst cl r)
    ∨ (∃ v, wdF wd f p = 3 ∧ wdF wd f (p + 1) = nI v ∧ v < kn ∧ env v = 0 ∧ RL wd tk nf En none f (p + 2) env kn st (stp + 1) cst cl r)
    ∨ (∃ v, wdF wd f p = 3 ∧ wdF wd f (p + 1) = nI v ∧ v < kn ∧ 0 < env v ∧ RL wd tk nf En none f (enF En f (p + 2)) (va_up env kn (env v - 1)) (kn + 1) st (stp + 1) cst cl r)
    ∨ (∃ v, wdF wd f p = 4 ∧ wdF wd f (p + 1) = nI v ∧ v ≤ 1000 ∧ RL wd tk nf En none f (p + 2) env kn st (stp + 1) (cst + v) cl r)
    ∨ (∃ (g : Nat) (vs : Nat → Nat), wdF wd f p = 5 ∧ wdF wd f (p + 1) = nI g ∧ g < nf ∧ (∀ k, k < tk g → wdF wd f (p + 2 + k) = nI (vs k) ∧ vs k < kn) ∧ ((cl = 60 ∧ r = (true, 0, cst, stp + 1)) ∨ (cl < 60 ∧ RL wd tk nf En none g 0 (fun k => env (vs k)) (tk g) ((2, f, 0, env, kn) :: st) (stp + 1) cst (cl + 1) r)))
    ∨ (wdF wd f p = 6 ∧ RL wd tk nf En none f (p + 1) env kn ((1, f, enF En f (p + 1), env, kn) :: st) (stp + 1) cst cl r)))
  | some v, _, _, _, _, [], stp, cst, _, r => r = (false, v, cst, stp)
  | some v, _, _, _, _, (kd, g, a, env2, kn2) :: st, stp, cst, cl, r => (kd = 0 ∧ v = 30000 ∧ r = (true, 0, cst, stp)) ∨ (kd = 0 ∧ v < 30000 ∧ RL wd tk nf En (some (v + 1)) g a env2 kn2 st stp cst cl r)
    ∨ (kd = 1 ∧ RL wd tk nf En none g a (va_up env2 kn2 v) (kn2 + 1) st stp cst cl r) ∨ (kd = 2 ∧ RL wd tk nf En (some v) g a env2 kn2 st stp cst (cl - 1) r)
theorem rl_inv {v : Option Nat} {f p : Nat} {env : Nat → Nat} {kn : Nat} {st : List Fr} {stp cst cl : Nat} {r : Ro} (h : RL wd tk nf En v f p env kn st stp cst cl r) : rlI wd tk nf En v f p env kn st stp cst cl r := by
  refine (h (fun v f p env kn st stp cst cl r => RL wd tk nf En v f p env kn st stp cst cl r ∧ rlI wd tk nf En v f p env kn st stp cst cl r) ⟨?_, ?_, ?_, ?_, ?_, ?_, ?_, ?_, ?_, ?_, ?_, ?_, ?_, ?_, ?_⟩).2
  · exact fun f p env kn st cst cl => ⟨fun P hP => hP.1 f p env kn st cst cl, Or.inl ⟨rfl, rfl⟩⟩
  · exact fun f p env kn st stp cst cl r h1 h2 h3 => ⟨fun P hP => hP.2.1 f p env kn st stp cst cl r h1 h2 (h3.1 P hP), Or.inr ⟨h1, Or.inl ⟨h2, h3.1⟩⟩⟩
  · exact fun f p env kn st stp cst cl r v h1 h2 h3 h4 h5 => ⟨fun P hP => hP.2.2.1 f p env kn st stp cst cl r v h1 h2 h3 h4 (h5.1 P hP), Or.inr ⟨h1, Or.inr (Or.inl ⟨v, h2, h3, h4, h5.1⟩)⟩⟩
  · exact fun f p env kn st stp cst cl r h1 h2 h3 => ⟨fun P hP => hP.2.2.2.1 f p env kn st stp cst cl r h1 h2 (h3.1 P hP), Or.inr ⟨h1, Or.inr (Or.inr (Or.inl ⟨h2, h3.1⟩))⟩⟩
  · exact fun f p env kn st stp cst cl r v h1 h2 h3 h4 h5 h6 => ⟨fun P hP => hP.2.2.2.2.1 f p env kn st stp cst cl r v h1 h2 h3 h4 h5 (h6.1 P hP), Or.inr ⟨h1, Or.inr (Or.inr (Or.inr (Or.inl ⟨v, h2, h3, h4, h5, h6.1⟩)))⟩⟩
  · exact fun f p env kn st stp cst cl r v h1 h2 h3 h4 h5 h6 => ⟨fun P hP => hP.2.2.2.2.2.1 f p env kn st stp cst cl r v h1 h2 h3 h4 h5 (h6.1 P hP), Or.inr ⟨h1, Or.inr (Or.inr (Or.inr (Or.inr (Or.inl ⟨v, h2, h3, h4, h5, h6.1⟩))))⟩⟩
  · exact fun f p env kn st stp cst cl r v h1 h2 h3 h4 h5 => ⟨fun P hP => hP.2.2.2.2.2.2.1 f p env kn st stp cst cl r v h1 h2 h3 h4 (h5.1 P hP), Or.inr ⟨h1, Or.inr (Or.inr (Or.inr (Or.inr (Or.inr (Or.inl ⟨v, h2, h3, h4, h5.1⟩)))))⟩⟩
  · exact fun f p env kn st stp cst g vs h1 h2 h3 h4 h5 => ⟨fun P hP => hP.2.2.2.2.2.2.2.1 f p env kn st stp cst g vs h1 h2 h3 h4 h5, Or.inr ⟨h1, Or.inr (Or.inr (Or.inr (Or.inr (Or.inr (Or.inr (Or.inl ⟨g, vs, h2, h3, h4, h5, Or.inl ⟨rfl, rfl⟩⟩))))))⟩⟩
  · exact fun f p env kn st stp cst cl r g vs h1 h2 h3 h4 h5 h6 h7 => ⟨fun P hP => hP.2.2.2.2.2.2.2.2.1 f p env kn st stp cst cl r g vs h1 h2 h3 h4 h5 h6 (h7.1 P hP), Or.inr ⟨h1, Or.inr (Or.inr (Or.inr (Or.inr (Or.inr (Or.inr (Or.inl ⟨g, vs, h2, h3, h4, h5, Or.inr ⟨h6, h7.1⟩⟩))))))⟩⟩
  · exact fun f p env kn st stp cst cl r h1 h2 h3 => ⟨fun P hP => hP.2.2.2.2.2.2.2.2.2.1 f p env kn st stp cst cl r h1 h2 (h3.1 P hP), Or.inr ⟨h1, Or.inr (Or.inr (Or.inr (Or.inr (Or.inr (Or.inr (Or.inr ⟨h2, h3.1⟩))))))⟩⟩
  · exact fun v f p env kn stp cst cl => ⟨fun P hP => hP.2.2.2.2.2.2.2.2.2.2.1 v f p env kn stp cst cl, rfl⟩
  · exact fun f p env kn g a env2 kn2 st stp cst cl => ⟨fun P hP => hP.2.2.2.2.2.2.2.2.2.2.2.1 f p env kn g a env2 kn2 st stp cst cl, Or.inl ⟨rfl, rfl, rfl⟩⟩
  · exact fun v f p env kn g a env2 kn2 st stp cst cl r h1 h2 => ⟨fun P hP => hP.2.2.2.2.2.2.2.2.2.2.2.2.1 v f p env kn g a env2 kn2 st stp cst cl r h1 (h2.1 P hP), Or.inr (Or.inl ⟨rfl, h1, h2.1⟩)⟩
  · exact fun v f p env kn g a env2 kn2 st stp cst cl r h2 => ⟨fun P hP => hP.2.2.2.2.2.2.2.2.2.2.2.2.2.1 v f p env kn g a env2 kn2 st stp cst cl r (h2.1 P hP), Or.inr (Or.inr (Or.inl ⟨rfl, h2.1⟩))⟩
  · exact fun v f p env kn g a env2 kn2 st stp cst cl r h2 => ⟨fun P hP => hP.2.2.2.2.2.2.2.2.2.2.2.2.2.2 v f p env kn g a env2 kn2 st stp cst cl r (h2.1 P hP), Or.inr (Or.inr (Or.inr ⟨rfl, h2.1⟩))⟩
end RUN3
section REP
variable {wd : Nat → Int32} {tk : Nat → Nat} {nf : Nat} {En : Nat → Nat} {ta : Nat → Nat → Nat → Nat}
/-- node x of function f, by the class's tables -/
def ntF (wd : Nat → Int32) (tk : Nat → Nat) (ta : Nat → Nat → Nat → Nat) (f fu kn p q x y : Nat) : Prop := ntT (wdF wd f) tk (ta f 0) (ta f 1) (ta f 2) (ta f 3) (ta f 4) fu kn p q x y
/-- what waits, as the class keeps it: c calls, w nodes that wait, d of them in the last call, which is of f and knows kn -/
def repO (wd : Nat → Int32) (tk : Nat → Nat) (nf : Nat) (En : Nat → Nat) (ta : Nat → Nat → Nat → Nat) (CA WB WT LN : Nat → Nat) : List Fr → Nat → Nat → Nat → Nat → Nat → Prop
  | [], c, w, d, f, _ => c = 1 ∧ w = 0 ∧ d = 0 ∧ WB 0 = 0 ∧ CA 0 = f
  | (kd, g, a, env, kn2) :: st, c, w, d, f, kn => g < nf ∧ (∀ i, i < kn2 → env i ≤ 30000) ∧ kn2 ≤ 18 ∧ CA (c - 1) = f ∧
    ((kd = 2 ∧ d = 0 ∧ 2 ≤ c ∧ WB (c - 1) = w ∧ (∀ i, i < kn2 → LN (18 * (c - 2) + i) = env i) ∧ ∃ d2, d2 ≤ 16 ∧ repO wd tk nf En ta CA WB WT LN st (c - 1) w d2 g kn2)
    ∨ (kd = 0 ∧ g = f ∧ kn2 ≤ kn ∧ ∃ d2 w2, d = d2 + 1 ∧ w = w2 + 1 ∧ WT w2 < 40 ∧ ta f 0 (WT w2) < 200 ∧ wdF wd f (ta f 0 (WT w2)) = 2 ∧ repO wd tk nf En ta CA WB WT LN st c w2 d2 f kn2)
    ∨ (kd = 1 ∧ g = f ∧ kn2 ≤ kn ∧ (∀ i, i < kn2 → LN (18 * (c - 1) + i) = env i) ∧ ∃ d2 w2, d = d2 + 1 ∧ w = w2 + 1 ∧ repO wd tk nf En ta CA WB WT LN st c w2 d2 f kn2 ∧ WT w2 < 40 ∧ ta f 0 (WT w2) < 200 ∧ wdF wd f (ta f 0 (WT w2)) = 6 ∧ ta f 3 (WT w2) = kn2
      ∧ ∃ fu q y, wf (wdF wd f) tk nf (enF En f) fu (kn2 + 1) a q ∧ q ≤ 200 ∧ y ≤ 40 ∧ ntF wd tk ta f fu (kn2 + 1) a q (ta f 2 (WT w2)) y ∧ d2 + fu ≤ 16 ∧ kn2 + 1 + fu ≤ 19))
theorem rep_w {CA WB WT LN : Nat → Nat} : ∀ {st : List Fr} {c w d f kn : Nat}, repO wd tk nf En ta CA WB WT LN st c w d f kn → d ≤ 16 → 1 ≤ c ∧ w ≤ 16 * (c - 1) + d ∧ w = WB (c - 1) + d ∧ CA (c - 1) = f ∧ st.length ≤ 17 * (c - 1) + d
  | [], c, w, d, f, kn, h, _ => by
    obtain ⟨h1, h2, h3, h4, h5⟩ := h
    subst h1; subst h2; subst h3
    exact ⟨Nat.le_refl _, Nat.zero_le _, by rw [h4], h5, Nat.zero_le _⟩
  | (kd, g, a, env, kn2) :: st, c, w, d, f, kn, h, hd => by
    obtain ⟨-, -, -, hc, h | h | h⟩ := h
    · obtain ⟨-, h1, h2, h3, -, d2, h4, h5⟩ := h
      have i := rep_w h5 h4
      refine ⟨by omega, by omega, by omega, hc, ?_⟩
      simp only [List.length_cons]
      omega
    · obtain ⟨-, h1, -, d2, w2, h2, h3, -, -, -, h5⟩ := h
      have i := rep_w h5 (by omega)
      refine ⟨by omega, by omega, by omega, hc, ?_⟩
      simp only [List.length_cons]
      omega
    · obtain ⟨-, h1, -, -, d2, w2, h2, h3, h5, -⟩ := h
      have i := rep_w h5 (by omega)
      refine ⟨by omega, by omega, by omega, hc, ?_⟩
      simp only [List.length_cons]
      omega
theorem rep_keep {CA WB WT LN CA' WB' WT' LN' : Nat → Nat} : ∀ {st : List Fr} {c w d f kn kn' : Nat}, d ≤ 16 → kn ≤ kn' → (∀ i, i < c → CA' i = CA i) → (∀ i, i < c → WB' i = WB i) → (∀ i, i < w → WT' i = WT i) → (∀ i, i < 18 * (c - 1) + kn → LN' i = LN i) → repO wd tk nf En ta CA WB WT LN st c w d f kn → repO wd tk nf En ta CA' WB' WT' LN' st c w d f kn'
  | [], c, w, d, f, kn, kn', _, _, a1, a2, _, _, h => by
    obtain ⟨h1, h2, h3, h4, h5⟩ := h
    exact ⟨h1, h2, h3, (a2 0 (by omega)).trans h4, (a1 0 (by omega)).trans h5⟩
  | (kd, g, a, env, kn2) :: st, c, w, d, f, kn, kn', hd, hk, a1, a2, a3, a4, h => by
    have hc := (rep_w h hd).1
    obtain ⟨b1, b2, b3, b4, h | h | h⟩ := h
    · obtain ⟨h0, h1, h2, h3, h4, d2, h5, h6⟩ := h
      exact ⟨b1, b2, b3, (a1 _ (by omega)).trans b4, Or.inl ⟨h0, h1, h2, (a2 _ (by omega)).trans h3, fun i hi => (a4 _ (by omega)).trans (h4 i hi), d2, h5, rep_keep h5 (Nat.le_refl _) (fun i hi => a1 i (by omega)) (fun i hi => a2 i (by omega)) a3 (fun i hi => a4 i (by omega)) h6⟩⟩
    · obtain ⟨h0, h1, h2, d2, w2, h3, h4, h5, h6, h7, h8⟩ := h
      have e := a3 w2 (by omega)
      exact ⟨b1, b2, b3, (a1 _ (by omega)).trans b4, Or.inr (Or.inl ⟨h0, h1, by omega, d2, w2, h3, h4, by rw [e]; exact h5, by rw [e]; exact h6, by rw [e]; exact h7, rep_keep (by omega) (Nat.le_refl _) a1 a2 (fun i hi => a3 i (by omega)) (fun i hi => a4 i (by omega)) h8⟩)⟩
    · obtain ⟨h0, h1, h2, h3, d2, w2, h4, h5, h6, h7, h8, h9, h10, fu, q, y, k1, k2, k3, k4, k5, k6⟩ := h
      have e := a3 w2 (by omega)
      exact ⟨b1, b2, b3, (a1 _ (by omega)).trans b4, Or.inr (Or.inr ⟨h0, h1, by omega, fun i hi => (a4 _ (by omega)).trans (h3 i hi), d2, w2, h4, h5, rep_keep (by omega) (Nat.le_refl _) a1 a2 (fun i hi => a3 i (by omega)) (fun i hi => a4 i (by omega)) h6, by rw [e]; exact h7, by rw [e]; exact h8, by rw [e]; exact h9, by rw [e]; exact h10, fu, q, y, k1, k2, k3, by rw [e]; exact k4, k5, k6⟩)⟩
/-- a state that begins a node, and one that gives -/
def evR (wd : Nat → Int32) (tk : Nat → Nat) (nf : Nat) (En : Nat → Nat) (ta : Nat → Nat → Nat → Nat) (CA WB WT LN : Nat → Nat) (x f p : Nat) (env : Nat → Nat) (kn : Nat) (st : List Fr) (c w : Nat) : Prop :=
  ∃ fu d q y, wf (wdF wd f) tk nf (enF En f) fu kn p q ∧ q ≤ 200 ∧ y ≤ 40 ∧ ntF wd tk ta f fu kn p q x y ∧ f < nf ∧ repO wd tk nf En ta CA WB WT LN st c w d f kn ∧ d + fu ≤ 16 ∧ kn + fu ≤ 19 ∧ (∀ i, i < kn → env i ≤ 30000) ∧ (∀ i, i < kn → LN (18 * (c - 1) + i) = env i)
def geR (wd : Nat → Int32) (tk : Nat → Nat) (nf : Nat) (En : Nat → Nat) (ta : Nat → Nat → Nat → Nat) (CA WB WT LN : Nat → Nat) (v f kn : Nat) (st : List Fr) (c w : Nat) : Prop :=
  ∃ d, repO wd tk nf En ta CA WB WT LN st c w d f kn ∧ d ≤ 16 ∧ v ≤ 30000 ∧ f < nf ∧ kn ≤ 18
end REP
section REP2
variable {wd : Nat → Int32} {tk : Nat → Nat} {nf : Nat} {En : Nat → Nat} {ta : Nat → Nat → Nat → Nat} {CA WB WT LN : Nat → Nat}
theorem wf_k0 {W : Nat → Int32} {tk E : Nat → Nat} {nf fu kn p q : Nat} (hk : W p = 0) (h : wf W tk nf E (fu + 1) kn p q) : q = p + 1 := by
  obtain ⟨-, h⟩ := h
  rcases h with h | h | h | h | h | h | h
  · exact h.2
  · exact absurd (hk.symm.trans h.1) (by decide)
  · exact absurd (hk.symm.trans h.1) (by decide)
  · exact absurd (hk.symm.trans h.1) (by decide)
  · exact absurd (hk.symm.trans h.1) (by decide)
  · exact absurd (hk.symm.trans h.1) (by decide)
  · exact absurd (hk.symm.trans h.1) (by decide)
theorem wf_k1 {W : Nat → Int32} {tk E : Nat → Nat} {nf fu kn p q : Nat} (hk : W p = 1) (h : wf W tk nf E (fu + 1) kn p q) : q = p + 2 := by
  obtain ⟨-, h⟩ := h
  rcases h with h | h | h | h | h | h | h
  · exact absurd (hk.symm.trans h.1) (by decide)
  · exact h.2.2
  · exact absurd (hk.symm.trans h.1) (by decide)
  · exact absurd (hk.symm.trans h.1) (by decide)
  · exact absurd (hk.symm.trans h.1) (by decide)
  · exact absurd (hk.symm.trans h.1) (by decide)
  · exact absurd (hk.symm.trans h.1) (by decide)
theorem wf_k2 {W : Nat → Int32} {tk E : Nat → Nat} {nf fu kn p q : Nat} (hk : W p = 2) (h : wf W tk nf E (fu + 1) kn p q) : wf W tk nf E fu kn (p + 1) q := by
  obtain ⟨-, h⟩ := h
  rcases h with h | h | h | h | h | h | h
  · exact absurd (hk.symm.trans h.1) (by decide)
  · exact absurd (hk.symm.trans h.1) (by decide)
  · exact h.2
  · exact absurd (hk.symm.trans h.1) (by decide)
  · exact absurd (hk.symm.trans h.1) (by decide)
  · exact absurd (hk.symm.trans h.1) (by decide)
  · exact absurd (hk.symm.trans h.1) (by decide)
theorem wf_k3 {W : Nat → Int32} {tk E : Nat → Nat} {nf fu kn p q : Nat} (hk : W p = 3) (h : wf W tk nf E (fu + 1) kn p q) : ∃ m, wf W tk nf E fu kn (p + 2) m ∧ wf W tk nf E fu (kn + 1) m q := by
  obtain ⟨-, h⟩ := h
  rcases h with h | h | h | h | h | h | h
  · exact absurd (hk.symm.trans h.1) (by decide)
  · exact absurd (hk.symm.trans h.1) (by decide)
  · exact absurd (hk.symm.trans h.1) (by decide)
  · exact h.2.2
  · exact absurd (hk.symm.trans h.1) (by decide)
  · exact absurd (hk.symm.trans h.1) (by decide)
  · exact absurd (hk.symm.trans h.1) (by decide)
theorem wf_k4 {W : Nat → Int32} {tk E : Nat → Nat} {nf fu kn p q : Nat} (hk : W p = 4) (h : wf W tk nf E (fu + 1) kn p q) : wf W tk nf E fu kn (p + 2) q := by
  obtain ⟨-, h⟩ := h
  rcases h with h | h | h | h | h | h | h
  · exact absurd (hk.symm.trans h.1) (by decide)
  · exact absurd (hk.symm.trans h.1) (by decide)
  · exact absurd (hk.symm.trans h.1) (by decide)
  · exact absurd (hk.symm.trans h.1) (by decide)
  · exact h.2.2
  · exact absurd (hk.symm.trans h.1) (by decide)
  · exact absurd (hk.symm.trans h.1) (by decide)
theorem wf_k5 {W : Nat → Int32} {tk E : Nat → Nat} {nf fu kn p q : Nat} (hk : W p = 5) (h : wf W tk nf E (fu + 1) kn p q) : ∃ g, W (p + 1) = nI g ∧ g < nf ∧ q = p + 2 + tk g := by
  obtain ⟨-, h⟩ := h
  rcases h with h | h | h | h | h | h | h
  · exact absurd (hk.symm.trans h.1) (by decide)
  · exact absurd (hk.symm.trans h.1) (by decide)
  · exact absurd (hk.symm.trans h.1) (by decide)
  · exact absurd (hk.symm.trans h.1) (by decide)
  · exact absurd (hk.symm.trans h.1) (by decide)
  · exact (by obtain ⟨-, g, a, b, c, -⟩ := h; exact ⟨g, a, b, c⟩)
  · exact absurd (hk.symm.trans h.1) (by decide)
theorem wf_k6 {W : Nat → Int32} {tk E : Nat → Nat} {nf fu kn p q : Nat} (hk : W p = 6) (h : wf W tk nf E (fu + 1) kn p q) : ∃ m, wf W tk nf E fu kn (p + 1) m ∧ wf W tk nf E fu (kn + 1) m q := by
  obtain ⟨-, h⟩ := h
  rcases h with h | h | h | h | h | h | h
  · exact absurd (hk.symm.trans h.1) (by decide)
  · exact absurd (hk.symm.trans h.1) (by decide)
  · exact absurd (hk.symm.trans h.1) (by decide)
  · exact absurd (hk.symm.trans h.1) (by decide)
  · exact absurd (hk.symm.trans h.1) (by decide)
  · exact absurd (hk.symm.trans h.1) (by decide)
  · exact h.2
theorem ev_fu {x f p : Nat} {env : Nat → Nat} {kn : Nat} {st : List Fr} {c w : Nat} (h : evR wd tk nf En ta CA WB WT LN x f p env kn st c w) : ∃ fu d q y, wf (wdF wd f) tk nf (enF En f) (fu + 1) kn p q ∧ q ≤ 200 ∧ y ≤ 40 ∧ ntF wd tk ta f (fu + 1) kn p q x y ∧ f < nf ∧ repO wd tk nf En ta CA WB WT LN st c w d f kn ∧ d + fu + 1 ≤ 16 ∧ kn + fu + 1 ≤ 19 ∧ (∀ i, i < kn → env i ≤ 30000) ∧ (∀ i, i < kn → LN (18 * (c - 1) + i) = env i) := by
  obtain ⟨fu, d, q, y, h1, h2, h3, h4, h5, h6, h7, h8, h9, h10⟩ := h
  cases fu with
  | zero => exact h1.elim
  | succ fu => exact ⟨fu, d, q, y, h1, h2, h3, h4, h5, h6, by omega, by omega, h9, h10⟩
/-- what the class needs to know of the node that begins -/
theorem ev_node {x f p : Nat} {env : Nat → Nat} {kn : Nat} {st : List Fr} {c w : Nat} (h : evR wd tk nf En ta CA WB WT LN x f p env kn st c w) : x < 40 ∧ ta f 0 x = p ∧ ta f 3 x = kn ∧ p < 200 ∧ f < nf ∧ kn ≤ 18 ∧ 1 ≤ c ∧ w < 16 * (c - 1) + 16 ∧ CA (c - 1) = f ∧ ((wdF wd f p = 1 ∨ wdF wd f p = 3 ∨ wdF wd f p = 4 ∨ wdF wd f p = 5) → p + 1 < 200) := by
  obtain ⟨fu, d, q, y, h1, h2, h3, h4, h5, h6, h7, h8, h9, h10⟩ := ev_fu h
  have l := nt_lt h4
  have r := rep_w h6 (by omega)
  refine ⟨by omega, h4.1, h4.2.1, by omega, h5, by omega, r.1, by omega, r.2.2.2.1, fun hk => ?_⟩
  rcases hk with hk | hk | hk | hk
  · have := wf_k1 hk h1; omega
  · obtain ⟨m, a, b⟩ := wf_k3 hk h1
    have := wf_lt _ _ _ _ a
    have := wf_lt _ _ _ _ b
    omega
  · have := wf_lt _ _ _ _ (wf_k4 hk h1)
    omega
  · obtain ⟨g, -, -, b⟩ := wf_k5 hk h1
    omega
theorem ev_give {x f p : Nat} {env : Nat → Nat} {kn : Nat} {st : List Fr} {c w v : Nat} (hv : v ≤ 30000) (h : evR wd tk nf En ta CA WB WT LN x f p env kn st c w) : geR wd tk nf En ta CA WB WT LN v f kn st c w := by
  obtain ⟨fu, d, q, y, h1, h2, h3, h4, h5, h6, h7, h8, h9, h10⟩ := ev_fu h
  exact ⟨d, h6, by omega, hv, h5, by omega⟩
theorem ev_k1 {x f p : Nat} {env : Nat → Nat} {kn : Nat} {st : List Fr} {c w v : Nat} (hv : v < kn) (h : evR wd tk nf En ta CA WB WT LN x f p env kn st c w) : env v ≤ 30000 ∧ LN (18 * (c - 1) + v) = env v := by
  obtain ⟨fu, d, q, y, h1, h2, h3, h4, h5, h6, h7, h8, h9, h10⟩ := ev_fu h
  exact ⟨h9 v hv, h10 v hv⟩
theorem ev_k2 {x f p : Nat} {env : Nat → Nat} {kn : Nat} {st : List Fr} {c w : Nat} (hk : wdF wd f p = 2) (h : evR wd tk nf En ta CA WB WT LN x f p env kn st c w) : evR wd tk nf En ta CA WB (va_up WT w x) LN (ta f 1 x) f (p + 1) env kn ((0, f, 0, env, kn) :: st) c (w + 1) := by
  have hN := ev_node h
  obtain ⟨fu, d, q, y, h1, h2, h3, h4, h5, h6, h7, h8, h9, h10⟩ := ev_fu h
  obtain ⟨t1, t2⟩ := nt_one (Or.inl hk) h4
  rw [hd_1 (Or.inr (Or.inl hk))] at t2
  refine ⟨fu, d + 1, q, y, wf_k2 hk h1, h2, h3, by rw [t1]; exact t2, h5, ?_, by omega, by omega, h9, h10⟩
  refine ⟨h5, h9, hN.2.2.2.2.2.1, hN.2.2.2.2.2.2.2.2.1, Or.inr (Or.inl ⟨rfl, rfl, Nat.le_refl _, d, w, rfl, rfl, ?_, ?_, ?_, rep_keep (by omega) (Nat.le_refl _) (fun _ _ => rfl) (fun _ _ => rfl) (fun i hi => va_up_ne _ _ (by omega)) (fun _ _ => rfl) h6⟩)⟩
  · rw [va_up_self]; exact hN.1
  · rw [va_up_self, hN.2.1]; exact hN.2.2.2.1
  · rw [va_up_self, hN.2.1]; exact hk
theorem ev_k3z {x f p : Nat} {env : Nat → Nat} {kn : Nat} {st : List Fr} {c w : Nat} (hnf : nf ≤ 4) (hk : wdF wd f p = 3) (h : evR wd tk nf En ta CA WB WT LN x f p env kn st c w) : evR wd tk nf En ta CA WB WT LN (ta f 1 x) f (p + 2) env kn st c w := by
  obtain ⟨fu, d, q, y, h1, h2, h3, h4, h5, h6, h7, h8, h9, h10⟩ := ev_fu h
  obtain ⟨m, a, b⟩ := wf_k3 hk h1
  have e := wf_end a
  have l := wf_lt _ _ _ _ b
  obtain ⟨t1, t2, t3⟩ := nt_two (E := enF En f) hnf (Or.inl hk) (by rw [hd_2 (Or.inr (Or.inl hk)), e]; exact a) h4
  rw [hd_2 (Or.inr (Or.inl hk)), e] at t2 t3
  have l2 := nt_lt t3
  exact ⟨fu, d, m, ta f 2 x, a, by omega, by omega, by rw [t1]; exact t2, h5, h6, by omega, by omega, h9, h10⟩
theorem ev_k3s {x f p : Nat} {env : Nat → Nat} {kn : Nat} {st : List Fr} {c w v : Nat} (hnf : nf ≤ 4) (hk : wdF wd f p = 3) (hv : v < kn) (h : evR wd tk nf En ta CA WB WT LN x f p env kn st c w) : evR wd tk nf En ta CA WB WT (va_up LN (18 * (c - 1) + kn) (env v - 1)) (ta f 2 x) f (enF En f (p + 2)) (va_up env kn (env v - 1)) (kn + 1) st c w := by
  obtain ⟨fu, d, q, y, h1, h2, h3, h4, h5, h6, h7, h8, h9, h10⟩ := ev_fu h
  obtain ⟨m, a, b⟩ := wf_k3 hk h1
  have e := wf_end a
  obtain ⟨t1, t2, t3⟩ := nt_two (E := enF En f) hnf (Or.inl hk) (by rw [hd_2 (Or.inr (Or.inl hk)), e]; exact a) h4
  rw [hd_2 (Or.inr (Or.inl hk)), e] at t2 t3
  refine ⟨fu, d, q, y, by rw [e]; exact b, h2, h3, by rw [e]; exact t3, h5, rep_keep (by omega) (Nat.le_succ _) (fun _ _ => rfl) (fun _ _ => rfl) (fun _ _ => rfl) (fun i hi => va_up_ne _ _ (by omega)) h6, by omega, by omega, fun i hi => ?_, fun i hi => ?_⟩
  · have := h9 v hv
    by_cases z : i = kn
    · rw [z, va_up_self]; omega
    · rw [va_up_ne _ _ z]; exact h9 i (by omega)
  · by_cases z : i = kn
    · rw [z, va_up_self, va_up_self]
    · rw [va_up_ne _ _ z, va_up_ne _ _ (by omega)]; exact h10 i (by omega)
theorem ev_k4 {x f p : Nat} {env : Nat → Nat} {kn : Nat} {st : List Fr} {c w : Nat} (hk : wdF wd f p = 4) (h : evR wd tk nf En ta CA WB WT LN x f p env kn st c w) : evR wd tk nf En ta CA WB WT LN (ta f 1 x) f (p + 2) env kn st c w := by
  obtain ⟨fu, d, q, y, h1, h2, h3, h4, h5, h6, h7, h8, h9, h10⟩ := ev_fu h
  obtain ⟨t1, t2⟩ := nt_one (Or.inr hk) h4
  rw [hd_2 (Or.inr (Or.inr hk))] at t2
  exact ⟨fu, d, q, y, wf_k4 hk h1, h2, h3, by rw [t1]; exact t2, h5, h6, by omega, by omega, h9, h10⟩
theorem ev_k5 {x f p : Nat} {env : Nat → Nat} {kn : Nat} {st : List Fr} {c w g n y9 : Nat} {vs CA' WB' LN' : Nat → Nat} (hg : g < nf) (htk : tk g ≤ 3) (hvs : ∀ k, k < tk g → vs k < kn) (hb : wf (wdF wd g) tk nf (enF En g) 16 (tk g) 0 n) (hn : n ≤ 200) (hy : y9 ≤ 40) (ht : ntF wd tk ta g 16 (tk g) 0 n 0 y9)
    (hC : ∀ i, i < c → CA' i = CA i) (hC2 : CA' c = g) (hW : ∀ i, i < c → WB' i = WB i) (hW2 : WB' c = w) (hL : ∀ i, i < 18 * c → LN' i = LN i) (hL2 : ∀ k, k < tk g → LN' (18 * c + k) = LN (18 * (c - 1) + vs k)) (h : evR wd tk nf En ta CA WB WT LN x f p env kn st c w) : evR wd tk nf En ta CA' WB' WT LN' 0 g 0 (fun k => env (vs k)) (tk g) ((2, f, 0, env, kn) :: st) (c + 1) w := by
  have hN := ev_node h
  obtain ⟨fu, d, q, y, h1, h2, h3, h4, h5, h6, h7, h8, h9, h10⟩ := ev_fu h
  refine ⟨16, 0, n, y9, hb, hn, hy, ht, hg, ⟨h5, h9, hN.2.2.2.2.2.1, hC2, Or.inl ⟨rfl, rfl, by omega, hW2, fun i hi => ?_, d, by omega, ?_⟩⟩, by omega, by omega, fun i hi => h9 _ (hvs i hi), fun i hi => ?_⟩
  · rw [show c + 1 - 2 = c - 1 by omega, hL _ (by omega)]; exact h10 i hi
  · rw [Nat.add_sub_cancel]
    exact rep_keep (by omega) (Nat.le_refl _) hC hW (fun _ _ => rfl) (fun i hi => hL i (by omega)) h6
  · rw [Nat.add_sub_cancel, hL2 i hi]
    exact h10 _ (hvs i hi)
theorem ev_k6 {x f p : Nat} {env : Nat → Nat} {kn : Nat} {st : List Fr} {c w : Nat} (hnf : nf ≤ 4) (hk : wdF wd f p = 6) (h : evR wd tk nf En ta CA WB WT LN x f p env kn st c w) : evR wd tk nf En ta CA WB (va_up WT w x) LN (ta f 1 x) f (p + 1) env kn ((1, f, enF En f (p + 1), env, kn) :: st) c (w + 1) := by
  have hN := ev_node h
  obtain ⟨fu, d, q, y, h1, h2, h3, h4, h5, h6, h7, h8, h9, h10⟩ := ev_fu h
  obtain ⟨m, a, b⟩ := wf_k6 hk h1
  have e := wf_end a
  have l := wf_lt _ _ _ _ b
  obtain ⟨t1, t2, t3⟩ := nt_two (E := enF En f) hnf (Or.inr hk) (by rw [hd_1 (Or.inr (Or.inr hk)), e]; exact a) h4
  rw [hd_1 (Or.inr (Or.inr hk)), e] at t2 t3
  have l2 := nt_lt t3
  refine ⟨fu, d + 1, m, ta f 2 x, a, by omega, by omega, by rw [t1]; exact t2, h5, ?_, by omega, by omega, h9, h10⟩
  refine ⟨h5, h9, hN.2.2.2.2.2.1, hN.2.2.2.2.2.2.2.2.1, Or.inr (Or.inr ⟨rfl, rfl, Nat.le_refl _, h10, d, w, rfl, rfl, rep_keep (by omega) (Nat.le_refl _) (fun _ _ => rfl) (fun _ _ => rfl) (fun i hi => va_up_ne _ _ (by omega)) (fun _ _ => rfl) h6, ?_, ?_, ?_, ?_, fu, q, y, by rw [e]; exact b, h2, h3, ?_, by omega, by omega⟩)⟩
  · rw [va_up_self]; exact hN.1
  · rw [va_up_self, hN.2.1]; exact hN.2.2.2.1
  · rw [va_up_self, hN.2.1]; exact hk
  · rw [va_up_self]; exact hN.2.2.1
  · rw [va_up_self, e]; exact t3
/-- giving: what the class needs to know -/
theorem ge_nil {v f kn c w : Nat} (h : geR wd tk nf En ta CA WB WT LN v f kn [] c w) : c = 1 ∧ w = 0 ∧ WB 0 = 0 := by
  obtain ⟨d, h1, -⟩ := h
  exact ⟨h1.1, h1.2.1, h1.2.2.2.1⟩
theorem ge_c {v f kn c w : Nat} {st : List Fr} (h : geR wd tk nf En ta CA WB WT LN v f kn st c w) : 1 ≤ c ∧ w ≤ 16 * (c - 1) + 16 ∧ f < nf ∧ CA (c - 1) = f ∧ st.length ≤ 17 * (c - 1) + 16 := by
  obtain ⟨d, h1, h2, h3, h4, h5⟩ := h
  have r := rep_w h1 h2
  exact ⟨r.1, by omega, h4, r.2.2.2.1, by omega⟩
theorem ge_0 {v f kn c w g a kn2 : Nat} {env2 : Nat → Nat} {st : List Fr} (h : geR wd tk nf En ta CA WB WT LN v f kn ((0, g, a, env2, kn2) :: st) c w) : ∃ w2, w = w2 + 1 ∧ WB (c - 1) ≠ w ∧ WT w2 < 40 ∧ ta f 0 (WT w2) < 200 ∧ wdF wd f (ta f 0 (WT w2)) = 2 ∧ g = f ∧ (v < 30000 → geR wd tk nf En ta CA WB WT LN (v + 1) f kn2 st c w2) := by
  obtain ⟨d, h1, h2, h3, h4, h5⟩ := h
  have r := rep_w h1 h2
  obtain ⟨b1, b2, b3, b4, h | h | h⟩ := h1
  · exact absurd h.1 (by decide)
  · obtain ⟨-, e1, e2, d2, w2, e3, e4, e5, e6, e7, e8⟩ := h
    exact ⟨w2, e4, by omega, e5, e6, e7, e1, fun hv => ⟨d2, e8, by omega, hv, h4, b3⟩⟩
  · exact absurd h.1 (by decide)
theorem ge_1 {v f kn c w g a kn2 : Nat} {env2 : Nat → Nat} {st : List Fr} (h : geR wd tk nf En ta CA WB WT LN v f kn ((1, g, a, env2, kn2) :: st) c w) : ∃ w2, w = w2 + 1 ∧ WB (c - 1) ≠ w ∧ WT w2 < 40 ∧ ta f 0 (WT w2) < 200 ∧ wdF wd f (ta f 0 (WT w2)) = 6 ∧ ta f 3 (WT w2) = kn2 ∧ kn2 ≤ 17 ∧ g = f ∧ evR wd tk nf En ta CA WB WT (va_up LN (18 * (c - 1) + kn2) v) (ta f 2 (WT w2)) f a (va_up env2 kn2 v) (kn2 + 1) st c w2 := by
  obtain ⟨d, h1, h2, h3, h4, h5⟩ := h
  have r := rep_w h1 h2
  obtain ⟨b1, b2, b3, b4, h | h | h⟩ := h1
  · exact absurd h.1 (by decide)
  · exact absurd h.1 (by decide)
  · obtain ⟨-, e1, e2, e3, d2, w2, e4, e5, e6, e7, e8, e9, e10, fu, q, y, k1, k2, k3, k4, k5, k6⟩ := h
    have hfu : 1 ≤ fu := by
      cases fu with
      | zero => exact k1.elim
      | succ fu => omega
    refine ⟨w2, e5, by omega, e7, e8, e9, e10, by omega, e1, fu, d2, q, y, k1, k2, k3, k4, h4, rep_keep (by omega) (Nat.le_succ _) (fun _ _ => rfl) (fun _ _ => rfl) (fun _ _ => rfl) (fun i hi => va_up_ne _ _ (by omega)) e6, k5, k6, fun i hi => ?_, fun i hi => ?_⟩
    · by_cases z : i = kn2
      · rw [z, va_up_self]; exact h3
      · rw [va_up_ne _ _ z]; exact b2 i (by omega)
    · by_cases z : i = kn2
      · rw [z, va_up_self, va_up_self]
      · rw [va_up_ne _ _ z, va_up_ne _ _ (by omega)]; exact e3 i (by omega)
theorem ge_2 {v f kn c w g a kn2 : Nat} {env2 : Nat → Nat} {st : List Fr} (h : geR wd tk nf En ta CA WB WT LN v f kn ((2, g, a, env2, kn2) :: st) c w) : WB (c - 1) = w ∧ 2 ≤ c ∧ geR wd tk nf En ta CA WB WT LN v g kn2 st (c - 1) w := by
  obtain ⟨d, h1, h2, h3, h4, h5⟩ := h
  obtain ⟨b1, b2, b3, b4, h | h | h⟩ := h1
  · obtain ⟨-, e1, e2, e3, -, d2, e5, e6⟩ := h
    exact ⟨e3, e2, d2, e6, e5, h3, b1, b3⟩
  · exact absurd h.1 (by decide)
  · exact absurd h.1 (by decide)
/-- the start of a run -/
theorem ev_start {f n y9 : Nat} {env : Nat → Nat} (hf : f < nf) (htk : tk f ≤ 3) (hb : wf (wdF wd f) tk nf (enF En f) 16 (tk f) 0 n) (hn : n ≤ 200) (hy : y9 ≤ 40) (ht : ntF wd tk ta f 16 (tk f) 0 n 0 y9) (hC : CA 0 = f) (hW : WB 0 = 0) (hE : ∀ i, i < tk f → env i ≤ 30000) (hL : ∀ i, i < tk f → LN i = env i) : evR wd tk nf En ta CA WB WT LN 0 f 0 env (tk f) [] 1 0 :=
  ⟨16, 0, n, y9, hb, hn, hy, ht, hf, ⟨rfl, rfl, rfl, hW, hC⟩, by omega, by omega, hE, fun i hi => by rw [show 18 * (1 - 1) + i = i by omega]; exact hL i hi⟩
end REP2
