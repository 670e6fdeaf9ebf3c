/-! running: a machine over positions, that both sides follow -/
/-- what waits: kind (0 one element more, 1 then, 2 a call), function, where it goes on, its variables, how many -/
abbrev Fr := Nat × Nat × Nat × (Nat → Nat) × Nat
abbrev Ro := Bool × Nat × Nat × Nat
section RUN
variable (wd : Nat → Int32) (tk : Nat → Nat) (nf : Nat) (En : Nat → Nat)
/-- a property that every turn keeps -/
def RLc (P : Option Nat → Nat → Nat → (Nat → Nat) → Nat → List Fr → Nat → Nat → Nat → Ro → Prop) : Prop :=
  (∀ f p env kn st cst cl, P none f p env kn st 20000 cst cl (true, 0, cst, 20000))
  ∧ (∀ f p env kn st stp cst cl r, stp < 20000 → wdF wd f p = 0 → P (some 0) f p env kn st (stp + 1) cst cl r → P none f p env kn st stp cst cl r)
  ∧ (∀ f p env kn st stp cst cl r v, stp < 20000 → wdF wd f p = 1 → wdF wd f (p + 1) = nI v → v < kn → P (some (env v)) f p env kn st (stp + 1) cst cl r → P none f p env kn st stp cst cl r)
  ∧ (∀ f p env kn st stp cst cl r, stp < 20000 → wdF wd f p = 2 → P none f (p + 1) env kn ((0, f, 0, env, kn) :: st) (stp + 1) cst cl r → P none f p env kn st stp cst cl r)
  ∧ (∀ f p env kn st stp cst cl r v, stp < 20000 → wdF wd f p = 3 → wdF wd f (p + 1) = nI v → v < kn → env v = 0 → P none f (p + 2) env kn st (stp + 1) cst cl r → P none f p env kn st stp cst cl r)
  ∧ (∀ f p env kn st stp cst cl r v, stp < 20000 → wdF wd f p = 3 → wdF wd f (p + 1) = nI v → v < kn → 0 < env v → P none f (enF En f (p + 2)) (va_up env kn (env v - 1)) (kn + 1) st (stp + 1) cst cl r → P none f p env kn st stp cst cl r)
  ∧ (∀ f p env kn st stp cst cl r v, stp < 20000 → wdF wd f p = 4 → wdF wd f (p + 1) = nI v → v ≤ 1000 → P none f (p + 2) env kn st (stp + 1) (cst + v) cl r → P none f p env kn st stp cst cl r)
  ∧ (∀ f p env kn st stp cst g (vs : Nat → Nat), stp < 20000 → wdF wd f p = 5 → wdF wd f (p + 1) = nI g → g < nf → (∀ k, k < tk g → wdF wd f (p + 2 + k) = nI (vs k) ∧ vs k < kn) → P none f p env kn st stp cst 60 (true, 0, cst, stp + 1))
  ∧ (∀ f p env kn st stp cst cl r g (vs : Nat → Nat), stp < 20000 → wdF wd f p = 5 → wdF wd f (p + 1) = nI g → g < nf → (∀ k, k < tk g → wdF wd f (p + 2 + k) = nI (vs k) ∧ vs k < kn) → cl < 60 → P none g 0 (fun k => env (vs k)) (tk g) ((2, f, 0, env, kn) :: st) (stp + 1) cst (cl + 1) r → P none f p env kn st stp cst cl r)
  ∧ (∀ f p env kn st stp cst cl r, stp < 20000 → wdF wd f p = 6 → P none f (p + 1) env kn ((1, f, enF En f (p + 1), env, kn) :: st) (stp + 1) cst cl r → P none f p env kn st stp cst cl r)
  ∧ (∀ v f p env kn stp cst cl, P (some v) f p env kn [] stp cst cl (false, v, cst, stp))
  ∧ (∀ f p env kn g a env2 kn2 st stp cst cl, P (some 30000) f p env kn ((0, g, a, env2, kn2) :: st) stp cst cl (true, 0, cst, stp))
  ∧ (∀ v f p env kn g a env2 kn2 st stp cst cl r, v < 30000 → P (some (v + 1)) g a env2 kn2 st stp cst cl r → P (some v) f p env kn ((0, g, a, env2, kn2) :: st) stp cst cl r)
  ∧ (∀ v f p env kn g a env2 kn2 st stp cst cl r, P none g a (va_up env2 kn2 v) (kn2 + 1) st stp cst cl r → P (some v) f p env kn ((1, g, a, env2, kn2) :: st) stp cst cl r)
  ∧ (∀ v f p env kn g a env2 kn2 st stp cst cl r, P (some v) g a env2 kn2 st stp cst (cl - 1) r → P (some v) f p env kn ((2, g, a, env2, kn2) :: st) stp cst cl r)
/-- a run from a state comes to an end -/
def RL (v : Option Nat) (f p : Nat) (env : Nat → Nat) (kn : Nat) (st : List Fr) (stp cst cl : Nat) (r : Ro) : Prop := ∀ P, RLc wd tk nf En P → P v f p env kn st stp cst cl r
def wfP (f fu kn p : Nat) : Prop := ∃ q, wf (wdF wd f) tk nf (enF En f) fu kn p q ∧ q ≤ 200
/-- what waits is in order: c calls are open, d nodes wait in the last -/
def stkO : List Fr → Nat → Nat → Prop
  | [], c, d => c = 1 ∧ d = 0
  | (kd, f, a, env, kn) :: st, c, d => f < nf ∧ (∀ i, i < kn → env i ≤ 30000) ∧ kn ≤ 19 ∧ ((kd = 2 ∧ d = 0 ∧ 2 ≤ c ∧ ∃ d2, d2 ≤ 16 ∧ stkO st (c - 1) d2) ∨ (kd = 0 ∧ ∃ d2, d = d2 + 1 ∧ stkO st c d2) ∨ (kd = 1 ∧ ∃ d2, d = d2 + 1 ∧ stkO st c d2 ∧ ∃ fu, wfP wd tk nf En f fu (kn + 1) a ∧ d2 + fu ≤ 16 ∧ kn + 1 + fu ≤ 19))
def evO (f p : Nat) (env : Nat → Nat) (kn : Nat) (st : List Fr) (cl : Nat) : Prop := ∃ fu d, wfP wd tk nf En f fu kn p ∧ f < nf ∧ stkO wd tk nf En st cl d ∧ d + fu ≤ 16 ∧ kn + fu ≤ 19 ∧ ∀ i, i < kn → env i ≤ 30000
def geO (v : Nat) (st : List Fr) (cl : Nat) : Prop := ∃ d, stkO wd tk nf En st cl d ∧ d ≤ 16 ∧ v ≤ 30000
end RUN
section RUN2
variable {wd : Nat → Int32} {tk : Nat → Nat} {nf : Nat} {En : Nat → Nat}
theorem stkO_len : ∀ {st : List Fr} {c d : Nat}, stkO wd tk nf En st c d → d ≤ 16 → 1 ≤ c ∧ st.length ≤ 17 * (c - 1) + d
  | [], c, d, h, _ => by obtain ⟨a, b⟩ : c = 1 ∧ d = 0 := h; subst a; subst b; exact ⟨Nat.le_refl _, Nat.le_refl _⟩
  | (kd, f, a, env, kn) :: st, c, d, h, hd => by
    obtain ⟨-, -, -, h⟩ := h
    rcases h with ⟨-, h1, h2, d2, h3, h4⟩ | ⟨-, d2, h1, h4⟩ | ⟨-, d2, h1, h4, -⟩
    · have := stkO_len h4 h3
      simp only [List.length_cons]
      omega
    · have := stkO_len h4 (by omega)
      simp only [List.length_cons]
      omega
    · have := stkO_len h4 (by omega)
      simp only [List.length_cons]
      omega
theorem cal_vs {f p kn g : Nat} (h : ∀ k, k < tk g → ∃ v, wdF wd f (p + 2 + k) = nI v ∧ v < kn) : ∃ vs : Nat → Nat, ∀ k, k < tk g → wdF wd f (p + 2 + k) = nI (vs k) ∧ vs k < kn :=
  ⟨fun k => if hk : k < tk g then Classical.choose (h k hk) else 0, fun k hk => by
    show wdF wd f (p + 2 + k) = nI (if hk : k < tk g then Classical.choose (h k hk) else 0) ∧ (if hk : k < tk g then Classical.choose (h k hk) else 0) < kn
    rw [dif_pos hk]
    exact Classical.choose_spec (h k hk)⟩
/-- every run ends -/
theorem rl_ends (hnf : nf ≤ 4) (htk : ∀ g, g < 4 → tk g ≤ 3) (hb : ∀ g, g < nf → wfP wd tk nf En g 16 (tk g) 0) : ∀ (n : Nat), ∀ (stp : Nat), 20000 - stp = n → stp ≤ 20000 →
    (∀ (f p : Nat) (env : Nat → Nat) (kn : Nat) (st : List Fr) (cst cl : Nat), cl ≤ 60 → evO wd tk nf En f p env kn st cl → ∃ r, RL wd tk nf En none f p env kn st stp cst cl r)
    ∧ (∀ (st : List Fr) (v f p : Nat) (env : Nat → Nat) (kn cst cl : Nat), cl ≤ 60 → geO wd tk nf En v st cl → ∃ r, RL wd tk nf En (some v) f p env kn st stp cst cl r) := by
  intro n
  induction n with
  | zero =>
    intro stp h1 h2
    obtain rfl : stp = 20000 := by omega
    have ev : ∀ (f p : Nat) (env : Nat → Nat) (kn : Nat) (st : List Fr) (cst cl : Nat), ∃ r, RL wd tk nf En none f p env kn st 20000 cst cl r := fun f p env kn st cst cl => ⟨(true, 0, cst, 20000), fun P hP => hP.1 f p env kn st cst cl⟩
    refine ⟨fun f p env kn st cst cl _ _ => ev f p env kn st cst cl, ?_⟩
    intro st
    induction st with
    | nil => exact fun v f p env kn cst cl _ _ => ⟨(false, v, cst, 20000), fun P hP => hP.2.2.2.2.2.2.2.2.2.2.1 v f p env kn 20000 cst cl⟩
    | cons x st ih =>
      intro v f p env kn cst cl hc hg
      obtain ⟨kd, g, a, env2, kn2⟩ := x
      obtain ⟨d, ⟨k1, k2, k3, hs⟩, hd, hv⟩ := hg
      rcases hs with ⟨rfl, h1, h2, d2, h3, h4⟩ | ⟨rfl, d2, h1, h4⟩ | ⟨rfl, d2, h1, h4, -⟩
      · obtain ⟨r, hr⟩ := ih v g a env2 kn2 cst (cl - 1) (by omega) ⟨d2, h4, h3, hv⟩
        exact ⟨r, fun P hP => hP.2.2.2.2.2.2.2.2.2.2.2.2.2.2 v f p env kn g a env2 kn2 st 20000 cst cl r (hr P hP)⟩
      · by_cases q : v = 30000
        · subst q
          exact ⟨(true, 0, cst, 20000), fun P hP => hP.2.2.2.2.2.2.2.2.2.2.2.1 f p env kn g a env2 kn2 st 20000 cst cl⟩
        · obtain ⟨r, hr⟩ := ih (v + 1) g a env2 kn2 cst cl hc ⟨d2, h4, by omega, by omega⟩
          exact ⟨r, fun P hP => hP.2.2.2.2.2.2.2.2.2.2.2.2.1 v f p env kn g a env2 kn2 st 20000 cst cl r (by omega) (hr P hP)⟩
      · obtain ⟨r, hr⟩ := ev g a (va_up env2 kn2 v) (kn2 + 1) st cst cl
        exact ⟨r, fun P hP => hP.2.2.2.2.2.2.2.2.2.2.2.2.2.1 v f p env kn g a env2 kn2 st 20000 cst cl r (hr P hP)⟩
  | succ n ihn =>
    intro stp h1 h2
    have hlt : stp < 20000 := by omega
    obtain ⟨iev, igv⟩ := ihn (stp + 1) (by omega) (by omega)
    have ev : ∀ (f p : Nat) (env : Nat → Nat) (kn : Nat) (st : List Fr) (cst cl : Nat), cl ≤ 60 → evO wd tk nf En f p env kn st cl → ∃ r, RL wd tk nf En none f p env kn st stp cst cl r := by
      intro f p env kn st cst cl hc he
      obtain ⟨fu, d, ⟨q, hw, hq⟩, hf, hs, hdf, hkf, henv⟩ := he
      cases fu with
      | zero => exact hw.elim
      | succ fu =>
        obtain ⟨hE, hw⟩ := hw
        rcases hw with ⟨a0, -⟩ | ⟨a0, ⟨v, a1, a2⟩, -⟩ | ⟨a0, a1⟩ | ⟨a0, ⟨v, a1, a2⟩, m, a3, a4⟩ | ⟨a0, ⟨v, a1, a2⟩, a3⟩ | ⟨a0, g, a1, a2, a3, a4⟩ | ⟨a0, m, a3, a4⟩
        · obtain ⟨r, hr⟩ := igv st 0 f p env kn cst cl hc ⟨d, hs, by omega, by omega⟩
          exact ⟨r, fun P hP => hP.2.1 f p env kn st stp cst cl r hlt a0 (hr P hP)⟩
        · obtain ⟨r, hr⟩ := igv st (env v) f p env kn cst cl hc ⟨d, hs, by omega, henv v a2⟩
          exact ⟨r, fun P hP => hP.2.2.1 f p env kn st stp cst cl r v hlt a0 a1 a2 (hr P hP)⟩
        · obtain ⟨r, hr⟩ := iev f (p + 1) env kn ((0, f, 0, env, kn) :: st) cst cl hc ⟨fu, d + 1, ⟨q, a1, hq⟩, hf, ⟨hf, henv, by omega, Or.inr (Or.inl ⟨rfl, d, rfl, hs⟩)⟩, by omega, by omega, henv⟩
          exact ⟨r, fun P hP => hP.2.2.2.1 f p env kn st stp cst cl r hlt a0 (hr P hP)⟩
        · have l1 := wf_lt _ _ _ _ a4
          by_cases z : env v = 0
          · obtain ⟨r, hr⟩ := iev f (p + 2) env kn st cst cl hc ⟨fu, d, ⟨m, a3, by omega⟩, hf, hs, by omega, by omega, henv⟩
            exact ⟨r, fun P hP => hP.2.2.2.2.1 f p env kn st stp cst cl r v hlt a0 a1 a2 z (hr P hP)⟩
          · have hm : enF En f (p + 2) = m := wf_end a3
            obtain ⟨r, hr⟩ := iev f (enF En f (p + 2)) (va_up env kn (env v - 1)) (kn + 1) st cst cl hc ⟨fu, d, ⟨q, by rw [hm]; exact a4, hq⟩, hf, hs, by omega, by omega, fun i hi => by
              have := henv v a2
              by_cases w : i = kn
              · rw [w, va_up_self]; omega
              · rw [va_up_ne _ _ w]; exact henv i (by omega)⟩
            exact ⟨r, fun P hP => hP.2.2.2.2.2.1 f p env kn st stp cst cl r v hlt a0 a1 a2 (by omega) (hr P hP)⟩
        · obtain ⟨r, hr⟩ := iev f (p + 2) env kn st (cst + v) cl hc ⟨fu, d, ⟨q, a3, hq⟩, hf, hs, by omega, by omega, henv⟩
          exact ⟨r, fun P hP => hP.2.2.2.2.2.2.1 f p env kn st stp cst cl r v hlt a0 a1 a2 (hr P hP)⟩
        · obtain ⟨vs, hvs⟩ := cal_vs a4
          by_cases z : cl = 60
          · subst z
            exact ⟨(true, 0, cst, stp + 1), fun P hP => hP.2.2.2.2.2.2.2.1 f p env kn st stp cst g vs hlt a0 a1 a2 hvs⟩
          · have htg := htk g (by omega)
            have hcl := (stkO_len hs (by omega)).1
            obtain ⟨r, hr⟩ := iev g 0 (fun k => env (vs k)) (tk g) ((2, f, 0, env, kn) :: st) cst (cl + 1) (by omega) ⟨16, 0, hb g a2, a2, ⟨hf, henv, by omega, Or.inl ⟨rfl, rfl, by omega, d, by omega, by rw [Nat.add_sub_cancel]; exact hs⟩⟩, by omega, by omega, fun i hi => henv _ (hvs i hi).2⟩
            exact ⟨r, fun P hP => hP.2.2.2.2.2.2.2.2.1 f p env kn st stp cst cl r g vs hlt a0 a1 a2 hvs (by omega) (hr P hP)⟩
        · have l1 := wf_lt _ _ _ _ a4
          have hm : enF En f (p + 1) = m := wf_end a3
          obtain ⟨r, hr⟩ := iev f (p + 1) env kn ((1, f, enF En f (p + 1), env, kn) :: st) cst cl hc ⟨fu, d + 1, ⟨m, a3, by omega⟩, hf, ⟨hf, henv, by omega, Or.inr (Or.inr ⟨rfl, d, rfl, hs, fu, ⟨q, by rw [hm]; exact a4, hq⟩, by omega, by omega⟩)⟩, by omega, by omega, henv⟩
          exact ⟨r, fun P hP => hP.2.2.2.2.2.2.2.2.2.1 f p env kn st stp cst cl r hlt a0 (hr P hP)⟩
    refine ⟨ev, ?_⟩
    intro st
    induction st with
    | nil => exact fun v f p env kn cst cl _ _ => ⟨(false, v, cst, stp), fun P hP => hP.2.2.2.2.2.2.2.2.2.2.1 v f p env kn stp cst cl⟩
    | cons x st ih =>
      intro v f p env kn cst cl hc hg
      obtain ⟨kd, g, a, env2, kn2⟩ := x
      obtain ⟨d, ⟨k1, k2, k3, hs⟩, hd, hv⟩ := hg
      rcases hs with ⟨rfl, h1, h2, d2, h3, h4⟩ | ⟨rfl, d2, h1, h4⟩ | ⟨rfl, d2, h1, h4, fu, h5, h6, h7⟩
      · obtain ⟨r, hr⟩ := ih v g a env2 kn2 cst (cl - 1) (by omega) ⟨d2, h4, h3, hv⟩
        exact ⟨r, fun P hP => hP.2.2.2.2.2.2.2.2.2.2.2.2.2.2 v f p env kn g a env2 kn2 st stp cst cl r (hr P hP)⟩
      · by_cases q : v = 30000
        · subst q
          exact ⟨(true, 0, cst, stp), fun P hP => hP.2.2.2.2.2.2.2.2.2.2.2.1 f p env kn g a env2 kn2 st stp cst cl⟩
        · obtain ⟨r, hr⟩ := ih (v + 1) g a env2 kn2 cst cl hc ⟨d2, h4, by omega, by omega⟩
          exact ⟨r, fun P hP => hP.2.2.2.2.2.2.2.2.2.2.2.2.1 v f p env kn g a env2 kn2 st stp cst cl r (by omega) (hr P hP)⟩
      · obtain ⟨r, hr⟩ := ev g a (va_up env2 kn2 v) (kn2 + 1) st cst cl hc ⟨fu, d2, h5, k1, h4, h6, h7, fun i hi => by
          by_cases w : i = kn2
          · rw [w, va_up_self]; exact hv
          · rw [va_up_ne _ _ w]; exact k2 i (by omega)⟩
        exact ⟨r, fun P hP => hP.2.2.2.2.2.2.2.2.2.2.2.2.2.1 v f p env kn g a env2 kn2 st stp cst cl r (hr P hP)⟩
end RUN2
