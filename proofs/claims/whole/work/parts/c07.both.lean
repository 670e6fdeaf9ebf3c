/-- a call of the class, whatever its room -/
def cX {T : Type} (con : T → Value) (l : Launch) (y : MethodName) (cc : ByteArray) (n : Nat) (ret : Option FieldType) (as : List Value) (G : va_G) (k : Nat → ClassId) (W9 : va_W) (p9 : Nat) (Q : va_W → Nat → T → Prop) : Prop := ∀ s0 sl, ∃ rm : Room, rm.frames ≤ 60 ∧ rm.locals ≤ 2000 ∧ rm.cells ≤ p9 + 400 ∧ rm.slots ≤ 2 * p9 + 800 ∧ CG l y cc n ret rm as G k s0 sl ([] ++ W9) (fun (u : va_W × Nat × T) => some (con u.2.2)) (fun u => Q u.1 u.2.1 u.2.2) (fun u => [] ++ u.1) (fun u => p9 - u.2.1) (fun u => 2 * (p9 - u.2.1)) rm.cells rm.slots
theorem cX_of {T : Type} {con : T → Value} {l : Launch} {y : MethodName} {cc : ByteArray} {n : Nat} {ret : Option FieldType} {as : List Value} {G : va_G} {k : Nat → ClassId} {W9 : va_W} {p9 : Nat} {Q : va_W → Nat → T → Prop} {fr lo mc ms : Nat} (h1 : fr ≤ 60) (h2 : lo ≤ 2000) (h3 : mc ≤ p9 + 400) (h4 : ms ≤ 2 * p9 + 800) (h : ∀ s0 sl, CG l y cc n ret { frames := fr, cells := mc, slots := ms, locals := lo } as G k s0 sl ([] ++ W9) (fun (u : va_W × Nat × T) => some (con u.2.2)) (fun u => Q u.1 u.2.1 u.2.2) (fun u => [] ++ u.1) (fun u => p9 - u.2.1) (fun u => 2 * (p9 - u.2.1)) mc ms) : cX con l y cc n ret as G k W9 p9 Q := fun s0 sl => ⟨{ frames := fr, cells := mc, slots := ms, locals := lo }, h1, h2, h3, h4, h s0 sl⟩
theorem cX_imp {T : Type} {con : T → Value} {l : Launch} {y : MethodName} {cc : ByteArray} {n : Nat} {ret : Option FieldType} {as : List Value} {G : va_G} {k : Nat → ClassId} {W9 : va_W} {p9 : Nat} {A : va_W → Nat → Prop} {r9 : T} (h : cX con l y cc n ret as G k W9 p9 (fun W p r => A W p ∧ p ≤ p9 ∧ r = r9)) : cX con l y cc n ret as G k W9 p9 (fun W p r => A W p ∧ p ≤ p9) := fun s0 sl => by
  obtain ⟨rm, h1, h2, h3, h4, h5⟩ := h s0 sl
  exact ⟨rm, h1, h2, h3, h4, cg_imp h5 (fun u hu => ⟨u, ⟨hu.1, hu.2.1⟩, rfl, List.Perm.refl _, Nat.le_refl _, Nat.le_refl _⟩)⟩
theorem cw_facts {k : Nat → ClassId} {h0 : Nat} {nf : Nat} {tk ct : Nat → Nat} {wd : Nat → Int32} {wp : Int32} {cz9 : Int64} {gv9 : Int32} {sp9 : Nat} {tl : Option (Nat × Nat)} {p9 : Nat} {W9 : va_W} (hW : cwO k h0 nf tk ct wd wp cz9 gv9 sp9 tl p9 W9) : nf ≤ 4 ∧ (∀ f, f < 4 → ct f ≤ 200) ∧ (∀ g, g < 4 → tk g ≤ 3) ∧ ∀ g, nf ≤ g → g < 4 → ct g = 0 := by
  obtain ⟨s9, -, -, hN, hh, hU, hP, hL, hR, hE, hb0, hb1, hb2, hb3, hb4, hb5, hLP, hnf, hct, htk, hcz, hit, hfo, hbt, htl⟩ := hW
  exact ⟨hnf, hct, htk, hcz⟩
theorem cw_mem {k : Nat → ClassId} {h0 : Nat} {nf : Nat} {tk ct : Nat → Nat} {wd : Nat → Int32} {wp : Int32} {cz9 : Int64} {gv9 : Int32} {sp9 : Nat} {tl : Option (Nat × Nat)} {p9 : Nat} {W9 : va_W} (hW : cwO k h0 nf tk ct wd wp cz9 gv9 sp9 tl p9 W9) (M : va_W) : ∃ fs, ((h0, .inr (0, fs)) : Nat × va_E) ∈ [] ++ (W9 ++ M) := by
  obtain ⟨s9, rfl, -⟩ := hW
  exact ⟨_, List.mem_append_right _ (List.mem_append_left _ (List.mem_append_left _ List.mem_cons_self))⟩
theorem rw_mem {k : Nat → ClassId} {h0 : Nat} {nf : Nat} {tk ct : Nat → Nat} {wd : Nat → Int32} {wp : Int32} {cz9 : Int64} {gv9 : Int32} {sp9 : Nat} {tl : Option (Nat × Nat)} {M9 : va_W} (hM : rwO k h0 nf tk ct wd wp cz9 gv9 sp9 tl M9) (W : va_W) : ∃ fs, ((h0, .inr (8, fs)) : Nat × va_E) ∈ [] ++ (W ++ M9) := by
  obtain ⟨ma, iv, X, vr, Ls, T, rfl, -⟩ := hM
  exact ⟨_, List.mem_append_right _ (List.mem_append_right _ List.mem_cons_self)⟩
theorem i_le {x : Int32} {n : Nat} (hn : n < 2147483648) (h : ¬ (x < 0 ∨ ¬ x ≤ nI n)) : ∃ q, q ≤ n ∧ x = nI q := by
  have h1 : ¬ x < 0 := fun q => h (Or.inl q)
  have h2 : x ≤ nI n := Classical.byContradiction fun q => h (Or.inr q)
  have e := nn_of h1
  refine ⟨x.toNatClampNeg, ?_, e.symm⟩
  rw [← e] at h2
  have h4 : x.toNatClampNeg = x.toInt.toNat := rfl
  have h5 := Int32.toInt_lt x
  exact (nI_le_iff (by omega) hn).mp h2
theorem i_len (x : Int32) : ∃ a, x = nI a ∧ (lnI x = 1 → a ≤ 30000) := by
  by_cases h : x < 0
  · refine ⟨x.toBitVec.toNat, ?_, fun q => ?_⟩
    · apply Int32.toBitVec_inj.mp
      show x.toBitVec = BitVec.ofNat 32 x.toBitVec.toNat
      simp
    · unfold lnI at q
      rw [if_pos (Or.inl h)] at q
      exact absurd q (by decide)
  · refine ⟨x.toNatClampNeg, (nn_of h).symm, fun q => ?_⟩
    by_cases w : 3000 < x
    · unfold lnI at q
      rw [if_pos (Or.inr w)] at q
      exact absurd q (by decide)
    · rw [Int32.lt_iff_toInt_lt, show (3000 : Int32).toInt = 3000 by decide] at w
      have h4 : x.toNatClampNeg = x.toInt.toNat := rfl
      omega
theorem fb_all {wd : Nat → Int32} {tk ct : Nat → Nat} {nf : Nat} : ∀ m, fbN wd tk ct nf m = none → ∀ g, g < m → wrN wd tk ct nf g = none
  | 0, _, _, h => absurd h (Nat.not_lt_zero _)
  | m + 1, h, g, hg => by
    rw [fbN] at h
    cases h1 : fbN wd tk ct nf m with
    | some x => rw [h1] at h; exact absurd h (by simp)
    | none =>
      rw [h1] at h
      cases h2 : wrN wd tk ct nf m with
      | some b => rw [h2] at h; exact absurd h (by simp)
      | none =>
        rcases Nat.lt_or_ge g m with q | q
        · exact fb_all m h1 g q
        · obtain rfl : g = m := by omega
          exact h2
/-- where no body is wrong, each is one expression with known ends -/
theorem en_of {wd : Nat → Int32} {tk ct : Nat → Nat} {nf : Nat} (hnf : nf ≤ 4) (hct : ∀ f, f < 4 → ct f ≤ 200) (htk : ∀ g, g < 4 → tk g ≤ 3) (h : fbN wd tk ct nf nf = none) : ∃ En, ∀ g, g < nf → wf (wdF wd g) tk nf (enF En g) 16 (tk g) 0 (ct g) := by
  have h1 : ∀ g, g < nf → ∃ E, wf (wdF wd g) tk nf E 16 (tk g) 0 (ct g) := by
    intro g hg
    have h2 := fb_all nf h g hg
    unfold wrN at h2
    have h3 := htk g (by omega)
    cases hp : prs (wdF wd g) tk nf (ct g) 16 (tk g) 0 0 (fun _ => 0) with
    | inl b => rw [hp] at h2; exact absurd h2 (by simp [wrR])
    | inr x =>
      obtain ⟨a2, n2, E2⟩ := x
      have hw := prs_wf hnf 16 (tk g) 0 0 (fun _ => 0) a2 n2 E2 hp (Nat.zero_le _) (Nat.zero_le _) (by omega)
      rw [hp] at h2
      have ha : a2 = ct g := by
        apply Classical.byContradiction
        intro q
        have h2 : (if a2 = ct g then none else some a2) = none := h2
        rw [if_neg q] at h2
        exact absurd h2 (by simp)
      rw [ha] at hw
      exact ⟨E2, hw.1⟩
  refine ⟨fun i => if hg : i / 200 < nf then Classical.choose (h1 (i / 200) hg) (i % 200) else 0, fun g hg => ?_⟩
  have h5 := hct g (by omega)
  refine (wf_congr (E := Classical.choose (h1 g hg)) 16 (tk g) 0 (ct g) (fun i _ hi => ?_) (Classical.choose_spec (h1 g hg))).1
  show (if hg : (200 * g + i) / 200 < nf then Classical.choose (h1 ((200 * g + i) / 200) hg) ((200 * g + i) % 200) else 0) = _
  have e1 : (200 * g + i) / 200 = g := by omega
  have e2 : (200 * g + i) % 200 = i := by omega
  rw [e2]
  generalize hz : (200 * g + i) / 200 = z at e1 ⊢
  subst e1
  rw [dif_pos hg]
theorem b_function {l : Launch} {G : va_G} {k : Nat → ClassId} {h0 h1 : Nat} {nf : Nat} {tk ct : Nat → Nat} {wd : Nat → Int32} {wp : Int32} {cz9 : Int64} {gv9 : Int32} {sp9 : Nat} {tl : Option (Nat × Nat)} {p9 : Nat} {W9 M9 : va_W} (hW : cwO k h0 nf tk ct wd wp cz9 gv9 sp9 tl p9 W9) (hM : rwO k h1 nf tk ct wd wp cz9 gv9 sp9 tl M9) (n9 : Int32) : ∃ nf2 tk2 ct2 wd2 wp2 cz2 gv2 sp2 tl2 r2, cX Value.int l y_PB_function c_PB_function 2 (some .int) [.ref h0, .int n9] G k W9 p9 (fun W p (r : Int32) => cwO k h0 nf2 tk2 ct2 wd2 wp2 cz2 gv2 sp2 tl2 p W ∧ p ≤ p9 ∧ r = r2) ∧ rX Value.int l y_Mo_function c_Mo_function 2 (some .int) [.ref h1, .int n9] G k M9 (fun M (r : Int32) => rwO k h1 nf2 tk2 ct2 wd2 wp2 cz2 gv2 sp2 tl2 M ∧ r = r2) := by
  obtain ⟨hnf, hct, htk, hcz⟩ := cw_facts hW
  by_cases h : n9 < 0 ∨ ¬ n9 ≤ nI 3
  · exact ⟨nf, tk, ct, wd, wp, cz9, gv9, sp9, tl, -1, cX_of (by decide) (by decide) (Nat.zero_le _) (Nat.zero_le _) (fun s0 sl => w_PB_function_bad l G k h0 s0 sl n9 nf tk ct wd wp cz9 gv9 sp9 tl p9 W9 hW h), rX_of (by decide) (by decide) (fun s0 sl => v_Mo_function_bad l G k h1 s0 sl n9 nf tk ct wd wp cz9 gv9 sp9 tl M9 hM h)⟩
  · obtain ⟨q9, h3, rfl⟩ := i_le (by omega) h
    by_cases hf : nf = 4
    · exact ⟨nf, tk, ct, wd, wp, cz9, gv9, sp9, tl, -3, cX_of (by decide) (by decide) (Nat.zero_le _) (Nat.zero_le _) (fun s0 sl => w_PB_function_full l G k h0 s0 sl q9 nf tk ct wd wp cz9 gv9 sp9 tl p9 W9 hW h3 hf), rX_of (by decide) (by decide) (fun s0 sl => v_Mo_function_full l G k h1 s0 sl q9 nf tk ct wd wp cz9 gv9 sp9 tl M9 hM h3 hf)⟩
    · have hf : nf < 4 := by omega
      exact ⟨nf + 1, va_up tk nf q9, ct, wd, wp, cz9, gv9, sp9, tl, nI nf, cX_of (by decide) (by decide) (Nat.zero_le _) (Nat.zero_le _) (fun s0 sl => w_PB_function_ok l G k h0 s0 sl q9 nf tk ct wd wp cz9 gv9 sp9 tl p9 W9 hW h3 hf), rX_of (by decide) (by decide) (fun s0 sl => v_Mo_function_ok l G k h1 s0 sl q9 nf tk ct wd wp cz9 gv9 sp9 tl M9 hM h3 hf (hcz nf (Nat.le_refl _) hf))⟩
theorem b_word {l : Launch} {G : va_G} {k : Nat → ClassId} {h0 h1 : Nat} {nf : Nat} {tk ct : Nat → Nat} {wd : Nat → Int32} {wp : Int32} {cz9 : Int64} {gv9 : Int32} {sp9 : Nat} {tl : Option (Nat × Nat)} {p9 : Nat} {W9 M9 : va_W} (hW : cwO k h0 nf tk ct wd wp cz9 gv9 sp9 tl p9 W9) (hM : rwO k h1 nf tk ct wd wp cz9 gv9 sp9 tl M9) (fi v9 : Int32) : ∃ nf2 tk2 ct2 wd2 wp2 cz2 gv2 sp2 tl2 r2, cX Value.int l y_PB_word c_PB_word 4 (some .int) [.ref h0, .int fi, .int v9] G k W9 p9 (fun W p (r : Int32) => cwO k h0 nf2 tk2 ct2 wd2 wp2 cz2 gv2 sp2 tl2 p W ∧ p ≤ p9 ∧ r = r2) ∧ rX Value.int l y_Mo_word c_Mo_word 3 (some .int) [.ref h1, .int fi, .int v9] G k M9 (fun M (r : Int32) => rwO k h1 nf2 tk2 ct2 wd2 wp2 cz2 gv2 sp2 tl2 M ∧ r = r2) := by
  obtain ⟨hnf, hct, htk, hcz⟩ := cw_facts hW
  by_cases hf : isF (nI nf) fi = 0
  · exact ⟨nf, tk, ct, wd, wp, cz9, gv9, sp9, tl, -1, cX_of (by decide) (by decide) (Nat.zero_le _) (Nat.zero_le _) (fun s0 sl => w_PB_word_bad l G k h0 s0 sl fi v9 nf tk ct wd wp cz9 gv9 sp9 tl p9 W9 hW hf), rX_of (by decide) (by decide) (fun s0 sl => v_Mo_word_bad l G k h1 s0 sl fi v9 nf tk ct wd wp cz9 gv9 sp9 tl M9 hM hf)⟩
  · obtain ⟨f9, hf9, rfl, -, -⟩ := isF_of hnf hf
    by_cases hc : ct f9 = 200
    · exact ⟨nf, tk, ct, wd, wp, cz9, gv9, sp9, tl, -3, cX_of (by decide) (by decide) (Nat.zero_le _) (Nat.zero_le _) (fun s0 sl => w_PB_word_full l G k h0 s0 sl f9 v9 nf tk ct wd wp cz9 gv9 sp9 tl p9 W9 hW hf9 hc), rX_of (by decide) (by decide) (fun s0 sl => v_Mo_word_full l G k h1 s0 sl f9 v9 nf tk ct wd wp cz9 gv9 sp9 tl M9 hM hf9 hnf hc)⟩
    · have hc : ct f9 < 200 := by have := hct f9 (by omega); omega
      exact ⟨nf, tk, va_up ct f9 (ct f9 + 1), va_up wd (200 * f9 + ct f9) v9, wp, cz9, gv9, sp9, tl, nI (ct f9 + 1), cX_of (by decide) (by decide) (Nat.zero_le _) (Nat.zero_le _) (fun s0 sl => w_PB_word_ok l G k h0 s0 sl f9 v9 nf tk ct wd wp cz9 gv9 sp9 tl p9 W9 hW hf9 hc), rX_of (by decide) (by decide) (fun s0 sl => v_Mo_word_ok l G k h1 s0 sl f9 v9 nf tk ct wd wp cz9 gv9 sp9 tl M9 hM hf9 hnf hc)⟩
theorem b_cut {l : Launch} {G : va_G} {k : Nat → ClassId} {h0 h1 : Nat} {nf : Nat} {tk ct : Nat → Nat} {wd : Nat → Int32} {wp : Int32} {cz9 : Int64} {gv9 : Int32} {sp9 : Nat} {tl : Option (Nat × Nat)} {p9 : Nat} {W9 M9 : va_W} (hW : cwO k h0 nf tk ct wd wp cz9 gv9 sp9 tl p9 W9) (hM : rwO k h1 nf tk ct wd wp cz9 gv9 sp9 tl M9) (fi ni : Int32) : ∃ nf2 tk2 ct2 wd2 wp2 cz2 gv2 sp2 tl2 r2, cX Value.int l y_PB_cut c_PB_cut 3 (some .boolean) [.ref h0, .int fi, .int ni] G k W9 p9 (fun W p (r : Int32) => cwO k h0 nf2 tk2 ct2 wd2 wp2 cz2 gv2 sp2 tl2 p W ∧ p ≤ p9 ∧ r = r2) ∧ rX Value.int l y_Mo_cut c_Mo_cut 3 (some .boolean) [.ref h1, .int fi, .int ni] G k M9 (fun M (r : Int32) => rwO k h1 nf2 tk2 ct2 wd2 wp2 cz2 gv2 sp2 tl2 M ∧ r = r2) := by
  obtain ⟨hnf, hct, htk, hcz⟩ := cw_facts hW
  by_cases hf : isF (nI nf) fi = 0
  · exact ⟨nf, tk, ct, wd, wp, cz9, gv9, sp9, tl, 0, cX_of (by decide) (by decide) (Nat.zero_le _) (Nat.zero_le _) (fun s0 sl => w_PB_cut_bad l G k h0 s0 sl fi ni nf tk ct wd wp cz9 gv9 sp9 tl p9 W9 hW hf), rX_of (by decide) (by decide) (fun s0 sl => v_Mo_cut_bad l G k h1 s0 sl fi ni nf tk ct wd wp cz9 gv9 sp9 tl M9 hM hf)⟩
  · obtain ⟨f9, hf9, rfl, -, -⟩ := isF_of hnf hf
    by_cases hn : ni < 0 ∨ ¬ ni ≤ nI (ct f9)
    · exact ⟨nf, tk, ct, wd, wp, cz9, gv9, sp9, tl, 0, cX_of (by decide) (by decide) (Nat.zero_le _) (Nat.zero_le _) (fun s0 sl => w_PB_cut_no l G k h0 s0 sl f9 ni nf tk ct wd wp cz9 gv9 sp9 tl p9 W9 hW hf9 hn), rX_of (by decide) (by decide) (fun s0 sl => v_Mo_cut_no l G k h1 s0 sl f9 ni nf tk ct wd wp cz9 gv9 sp9 tl M9 hM hf9 hnf hn)⟩
    · have hc := hct f9 (by omega)
      obtain ⟨n9, hn9, rfl⟩ := i_le (by omega) hn
      exact ⟨nf, tk, va_up ct f9 n9, wd, wp, cz9, gv9, sp9, tl, 1, cX_of (by decide) (by decide) (Nat.zero_le _) (Nat.zero_le _) (fun s0 sl => w_PB_cut_ok l G k h0 s0 sl f9 n9 nf tk ct wd wp cz9 gv9 sp9 tl p9 W9 hW hf9 hn9), rX_of (by decide) (by decide) (fun s0 sl => v_Mo_cut_ok l G k h1 s0 sl f9 n9 nf tk ct wd wp cz9 gv9 sp9 tl M9 hM hf9 hnf hn9 hc)⟩
theorem b_look {l : Launch} {G : va_G} {k : Nat → ClassId} {h0 h1 : Nat} {nf : Nat} {tk ct : Nat → Nat} {wd : Nat → Int32} {wp : Int32} {cz9 : Int64} {gv9 : Int32} {sp9 : Nat} {tl : Option (Nat × Nat)} {p9 : Nat} {W9 M9 : va_W} (hW : cwO k h0 nf tk ct wd wp cz9 gv9 sp9 tl p9 W9) (hM : rwO k h1 nf tk ct wd wp cz9 gv9 sp9 tl M9) : ∃ nf2 tk2 ct2 wd2 wp2 cz2 gv2 sp2 tl2 r2, cX Value.int l y_PB_look c_PB_look 2 (some .int) [.ref h0] G k W9 p9 (fun W p (r : Int32) => cwO k h0 nf2 tk2 ct2 wd2 wp2 cz2 gv2 sp2 tl2 p W ∧ p ≤ p9 ∧ r = r2) ∧ rX Value.int l y_Mo_look c_Mo_look 3 (some .int) [.ref h1] G k M9 (fun M (r : Int32) => rwO k h1 nf2 tk2 ct2 wd2 wp2 cz2 gv2 sp2 tl2 M ∧ r = r2) := by
  obtain ⟨hnf, hct, htk, hcz⟩ := cw_facts hW
  exact ⟨nf, tk, ct, wd, plN (fbN wd tk ct nf nf), cz9, gv9, sp9, tl, lkN (fbN wd tk ct nf nf), cX_of (by decide) (by decide) (Nat.zero_le _) (Nat.zero_le _) (fun s0 sl => w_PB_look l G k h0 s0 sl nf tk ct wd wp cz9 gv9 sp9 tl p9 W9 hW), rX_of (by decide) (by decide) (fun s0 sl => v_Mo_look l G k h1 s0 sl nf tk ct wd wp cz9 gv9 sp9 tl M9 hM hnf hct htk)⟩
theorem b_place {l : Launch} {G : va_G} {k : Nat → ClassId} {h0 h1 : Nat} {nf : Nat} {tk ct : Nat → Nat} {wd : Nat → Int32} {wp : Int32} {cz9 : Int64} {gv9 : Int32} {sp9 : Nat} {tl : Option (Nat × Nat)} {p9 : Nat} {W9 M9 : va_W} (hW : cwO k h0 nf tk ct wd wp cz9 gv9 sp9 tl p9 W9) (hM : rwO k h1 nf tk ct wd wp cz9 gv9 sp9 tl M9) : ∃ nf2 tk2 ct2 wd2 wp2 cz2 gv2 sp2 tl2 r2, cX Value.int l y_PB_place c_PB_place 1 (some .int) [.ref h0] G k W9 p9 (fun W p (r : Int32) => cwO k h0 nf2 tk2 ct2 wd2 wp2 cz2 gv2 sp2 tl2 p W ∧ p ≤ p9 ∧ r = r2) ∧ rX Value.int l y_Mo_place c_Mo_place 1 (some .int) [.ref h1] G k M9 (fun M (r : Int32) => rwO k h1 nf2 tk2 ct2 wd2 wp2 cz2 gv2 sp2 tl2 M ∧ r = r2) := by
  exact ⟨nf, tk, ct, wd, wp, cz9, gv9, sp9, tl, wp, cX_of (by decide) (by decide) (Nat.zero_le _) (Nat.zero_le _) (fun s0 sl => w_PB_place l G k h0 s0 sl nf tk ct wd wp cz9 gv9 sp9 tl p9 W9 hW), rX_of (by decide) (by decide) (fun s0 sl => v_Mo_place l G k h1 s0 sl nf tk ct wd wp cz9 gv9 sp9 tl M9 hM)⟩
theorem b_cost {l : Launch} {G : va_G} {k : Nat → ClassId} {h0 h1 : Nat} {nf : Nat} {tk ct : Nat → Nat} {wd : Nat → Int32} {wp : Int32} {cz9 : Int64} {gv9 : Int32} {sp9 : Nat} {tl : Option (Nat × Nat)} {p9 : Nat} {W9 M9 : va_W} (hW : cwO k h0 nf tk ct wd wp cz9 gv9 sp9 tl p9 W9) (hM : rwO k h1 nf tk ct wd wp cz9 gv9 sp9 tl M9) : ∃ nf2 tk2 ct2 wd2 wp2 cz2 gv2 sp2 tl2 r2, cX Value.long l y_PB_cost c_PB_cost 1 (some .long) [.ref h0] G k W9 p9 (fun W p (r : Int64) => cwO k h0 nf2 tk2 ct2 wd2 wp2 cz2 gv2 sp2 tl2 p W ∧ p ≤ p9 ∧ r = r2) ∧ rX Value.long l y_Mo_cost c_Mo_cost 1 (some .long) [.ref h1] G k M9 (fun M (r : Int64) => rwO k h1 nf2 tk2 ct2 wd2 wp2 cz2 gv2 sp2 tl2 M ∧ r = r2) := by
  exact ⟨nf, tk, ct, wd, wp, cz9, gv9, sp9, tl, cz9, cX_of (by decide) (by decide) (Nat.zero_le _) (Nat.zero_le _) (fun s0 sl => w_PB_cost l G k h0 s0 sl nf tk ct wd wp cz9 gv9 sp9 tl p9 W9 hW), rX_of (by decide) (by decide) (fun s0 sl => v_Mo_cost l G k h1 s0 sl nf tk ct wd wp cz9 gv9 sp9 tl M9 hM)⟩
theorem b_given {l : Launch} {G : va_G} {k : Nat → ClassId} {h0 h1 : Nat} {nf : Nat} {tk ct : Nat → Nat} {wd : Nat → Int32} {wp : Int32} {cz9 : Int64} {gv9 : Int32} {sp9 : Nat} {tl : Option (Nat × Nat)} {p9 : Nat} {W9 M9 : va_W} (hW : cwO k h0 nf tk ct wd wp cz9 gv9 sp9 tl p9 W9) (hM : rwO k h1 nf tk ct wd wp cz9 gv9 sp9 tl M9) : ∃ nf2 tk2 ct2 wd2 wp2 cz2 gv2 sp2 tl2 r2, cX Value.int l y_PB_given c_PB_given 1 (some .int) [.ref h0] G k W9 p9 (fun W p (r : Int32) => cwO k h0 nf2 tk2 ct2 wd2 wp2 cz2 gv2 sp2 tl2 p W ∧ p ≤ p9 ∧ r = r2) ∧ rX Value.int l y_Mo_given c_Mo_given 1 (some .int) [.ref h1] G k M9 (fun M (r : Int32) => rwO k h1 nf2 tk2 ct2 wd2 wp2 cz2 gv2 sp2 tl2 M ∧ r = r2) := by
  exact ⟨nf, tk, ct, wd, wp, cz9, gv9, sp9, tl, gv9, cX_of (by decide) (by decide) (Nat.zero_le _) (Nat.zero_le _) (fun s0 sl => w_PB_given l G k h0 s0 sl nf tk ct wd wp cz9 gv9 sp9 tl p9 W9 hW), rX_of (by decide) (by decide) (fun s0 sl => v_Mo_given l G k h1 s0 sl nf tk ct wd wp cz9 gv9 sp9 tl M9 hM)⟩
theorem b_steps {l : Launch} {G : va_G} {k : Nat → ClassId} {h0 h1 : Nat} {nf : Nat} {tk ct : Nat → Nat} {wd : Nat → Int32} {wp : Int32} {cz9 : Int64} {gv9 : Int32} {sp9 : Nat} {tl : Option (Nat × Nat)} {p9 : Nat} {W9 M9 : va_W} (hW : cwO k h0 nf tk ct wd wp cz9 gv9 sp9 tl p9 W9) (hM : rwO k h1 nf tk ct wd wp cz9 gv9 sp9 tl M9) : ∃ nf2 tk2 ct2 wd2 wp2 cz2 gv2 sp2 tl2 r2, cX Value.int l y_PB_steps c_PB_steps 1 (some .int) [.ref h0] G k W9 p9 (fun W p (r : Int32) => cwO k h0 nf2 tk2 ct2 wd2 wp2 cz2 gv2 sp2 tl2 p W ∧ p ≤ p9 ∧ r = r2) ∧ rX Value.int l y_Mo_steps c_Mo_steps 1 (some .int) [.ref h1] G k M9 (fun M (r : Int32) => rwO k h1 nf2 tk2 ct2 wd2 wp2 cz2 gv2 sp2 tl2 M ∧ r = r2) := by
  exact ⟨nf, tk, ct, wd, wp, cz9, gv9, sp9, tl, nI sp9, cX_of (by decide) (by decide) (Nat.zero_le _) (Nat.zero_le _) (fun s0 sl => w_PB_steps l G k h0 s0 sl nf tk ct wd wp cz9 gv9 sp9 tl p9 W9 hW), rX_of (by decide) (by decide) (fun s0 sl => v_Mo_steps l G k h1 s0 sl nf tk ct wd wp cz9 gv9 sp9 tl M9 hM)⟩
theorem b_told {l : Launch} {G : va_G} {k : Nat → ClassId} {h0 h1 : Nat} {nf : Nat} {tk ct : Nat → Nat} {wd : Nat → Int32} {wp : Int32} {cz9 : Int64} {gv9 : Int32} {sp9 : Nat} {tl : Option (Nat × Nat)} {p9 : Nat} {W9 M9 : va_W} (hW : cwO k h0 nf tk ct wd wp cz9 gv9 sp9 tl p9 W9) (hM : rwO k h1 nf tk ct wd wp cz9 gv9 sp9 tl M9) (x9 : Int32) : ∃ nf2 tk2 ct2 wd2 wp2 cz2 gv2 sp2 tl2 r2, cX Value.int l y_PB_told c_PB_told 2 (some .int) [.ref h0, .int x9] G k W9 p9 (fun W p (r : Int32) => cwO k h0 nf2 tk2 ct2 wd2 wp2 cz2 gv2 sp2 tl2 p W ∧ p ≤ p9 ∧ r = r2) ∧ rX Value.int l y_Mo_told c_Mo_told 2 (some .int) [.ref h1, .int x9] G k M9 (fun M (r : Int32) => rwO k h1 nf2 tk2 ct2 wd2 wp2 cz2 gv2 sp2 tl2 M ∧ r = r2) := by
  exact ⟨nf, tk, ct, wd, wp, cz9, gv9, sp9, tl, tdN tl x9, cX_of (by decide) (by decide) (Nat.zero_le _) (Nat.zero_le _) (fun s0 sl => w_PB_told l G k h0 s0 sl x9 nf tk ct wd wp cz9 gv9 sp9 tl p9 W9 hW), rX_of (by decide) (by decide) (fun s0 sl => v_Mo_told l G k h1 s0 sl x9 nf tk ct wd wp cz9 gv9 sp9 tl M9 hM)⟩
theorem b_run {l : Launch} {G : va_G} {k : Nat → ClassId} {h0 h1 : Nat} {nf : Nat} {tk ct : Nat → Nat} {wd : Nat → Int32} {wp : Int32} {cz9 : Int64} {gv9 : Int32} {sp9 : Nat} {tl : Option (Nat × Nat)} {p9 : Nat} {W9 M9 : va_W} (hW : cwO k h0 nf tk ct wd wp cz9 gv9 sp9 tl p9 W9) (hM : rwO k h1 nf tk ct wd wp cz9 gv9 sp9 tl M9) (fi xa xb xc : Int32) : ∃ nf2 tk2 ct2 wd2 wp2 cz2 gv2 sp2 tl2 r2, cX Value.int l y_PB_run c_PB_run 5 (some .int) [.ref h0, .int fi, .int xa, .int xb, .int xc] G k W9 p9 (fun W p (r : Int32) => cwO k h0 nf2 tk2 ct2 wd2 wp2 cz2 gv2 sp2 tl2 p W ∧ p ≤ p9 ∧ r = r2) ∧ rX Value.int l y_Mo_run c_Mo_run 7 (some .int) [.ref h1, .int fi, .int xa, .int xb, .int xc] G k M9 (fun M (r : Int32) => rwO k h1 nf2 tk2 ct2 wd2 wp2 cz2 gv2 sp2 tl2 M ∧ r = r2) := by
  obtain ⟨hnf, hct, htk, hcz⟩ := cw_facts hW
  by_cases hf : isF (nI nf) fi = 0
  · exact ⟨nf, tk, ct, wd, wp, cz9, gv9, sp9, tl, -1, cX_of (by decide) (by decide) (Nat.zero_le _) (Nat.zero_le _) (fun s0 sl => w_PB_run_nf l G k h0 s0 sl fi xa xb xc nf tk ct wd wp cz9 gv9 sp9 tl p9 W9 hW hf), rX_of (by decide) (by decide) (fun s0 sl => v_Mo_run_no l G k h1 s0 sl fi xa xb xc nf tk ct wd wp cz9 gv9 sp9 tl M9 hM hnf hct htk (Or.inl hf))⟩
  · obtain ⟨f9, hf9, rfl, -, -⟩ := isF_of hnf hf
    by_cases hal : alN (tk f9) xa xb xc = 0
    · exact ⟨nf, tk, ct, wd, wp, cz9, gv9, sp9, tl, -1, cX_of (by decide) (by decide) (Nat.zero_le _) (Nat.zero_le _) (fun s0 sl => w_PB_run_len l G k h0 s0 sl f9 xa xb xc nf tk ct wd wp cz9 gv9 sp9 tl p9 W9 hW hf9 hal), rX_of (by decide) (by decide) (fun s0 sl => v_Mo_run_no l G k h1 s0 sl (nI f9) xa xb xc nf tk ct wd wp cz9 gv9 sp9 tl M9 hM hnf hct htk (Or.inr ⟨f9, rfl, hf9, Or.inl hal⟩))⟩
    have hal : alN (tk f9) xa xb xc = 1 := by have := alN_le (tk f9) xa xb xc; omega
    cases hfb : fbN wd tk ct nf nf with
    | some x =>
      exact ⟨nf, tk, ct, wd, wp, cz9, gv9, sp9, tl, -1, cX_of (by decide) (by decide) (Nat.zero_le _) (Nat.zero_le _) (fun s0 sl => w_PB_run_wr l G k h0 s0 sl f9 xa xb xc x.1 x.2 nf tk ct wd wp cz9 gv9 sp9 tl p9 W9 hW hf9 hal hfb), rX_of (by decide) (by decide) (fun s0 sl => v_Mo_run_no l G k h1 s0 sl (nI f9) xa xb xc nf tk ct wd wp cz9 gv9 sp9 tl M9 hM hnf hct htk (Or.inr ⟨f9, rfl, hf9, Or.inr (by rw [hfb]; simp)⟩))⟩
    | none =>
      obtain ⟨En, hwf⟩ := en_of hnf hct htk hfb
      obtain ⟨a9, rfl, ha⟩ := i_len xa
      obtain ⟨b9, rfl, hb⟩ := i_len xb
      obtain ⟨e9, rfl, he⟩ := i_len xc
      have h3 := htk f9 (by omega)
      have hal2 : (tk f9 < 1 ∨ lnI (nI a9) = 1) ∧ (tk f9 < 2 ∨ lnI (nI b9) = 1) ∧ (tk f9 < 3 ∨ lnI (nI e9) = 1) := by
        apply Classical.byContradiction
        intro q
        unfold alN at hal
        rw [if_neg q] at hal
        exact absurd hal (by decide)
      have hen : ∀ i, i < tk f9 → (if i = 0 then a9 else if i = 1 then b9 else e9) = (fun i => (if i = 0 then nI a9 else if i = 1 then nI b9 else nI e9).toNatClampNeg) i ∧ (fun i => (if i = 0 then nI a9 else if i = 1 then nI b9 else nI e9).toNatClampNeg) i ≤ 30000 := by
        intro i hi
        rcases (show i = 0 ∨ i = 1 ∨ i = 2 by omega) with rfl | rfl | rfl
        · have h9 := ha (hal2.1.resolve_left (by omega))
          have e9 : (nI a9).toNatClampNeg = a9 := nI_clamp (by omega)
          exact ⟨e9.symm, by show (nI a9).toNatClampNeg ≤ 30000; omega⟩
        · have h9 := hb (hal2.2.1.resolve_left (by omega))
          have e9 : (nI b9).toNatClampNeg = b9 := nI_clamp (by omega)
          exact ⟨e9.symm, by show (nI b9).toNatClampNeg ≤ 30000; omega⟩
        · have h9 := he (hal2.2.2.resolve_left (by omega))
          have e8 : (nI e9).toNatClampNeg = e9 := nI_clamp (by omega)
          exact ⟨e8.symm, by show (nI e9).toNatClampNeg ≤ 30000; omega⟩
      obtain ⟨res, hRL⟩ := (rl_ends (En := En) hnf htk (fun g hg => ⟨ct g, hwf g hg, hct g (by omega)⟩) 20000 0 rfl (by omega)).1 f9 0 (fun i => (if i = 0 then nI a9 else if i = 1 then nI b9 else nI e9).toNatClampNeg) (tk f9) [] 0 1 (by omega) ⟨16, 0, ⟨ct f9, hwf f9 hf9, hct f9 (by omega)⟩, hf9, ⟨rfl, rfl⟩, by omega, by omega, fun i hi => (hen i hi).2⟩
      exact ⟨nf, tk, ct, wd, wp, lN res.2.2.1, (if res.1 then -2 else nI res.2.1), res.2.2.2, tl, (if res.1 then 1 else 0), cX_of (by decide) (by decide) (Nat.zero_le _) (Nat.zero_le _) (fun s0 sl => w_PB_run_ok l G k h0 s0 sl f9 a9 b9 e9 En (fun i => (if i = 0 then nI a9 else if i = 1 then nI b9 else nI e9).toNatClampNeg) res nf tk ct wd wp cz9 gv9 sp9 tl p9 W9 hW hf9 hal hfb hwf hen hRL), rX_of (by decide) (by decide) (fun s0 sl => v_Mo_run_ok l G k h1 s0 sl f9 (nI a9) (nI b9) (nI e9) En res nf tk ct wd wp cz9 gv9 sp9 tl M9 hM hnf hct htk hf9 hal hfb hwf hRL)⟩
theorem b_bound {l : Launch} {G : va_G} {k : Nat → ClassId} {h0 h1 : Nat} {nf : Nat} {tk ct : Nat → Nat} {wd : Nat → Int32} {wp : Int32} {cz9 : Int64} {gv9 : Int32} {sp9 : Nat} {tl : Option (Nat × Nat)} {p9 : Nat} {W9 M9 : va_W} (hW : cwO k h0 nf tk ct wd wp cz9 gv9 sp9 tl p9 W9) (hM : rwO k h1 nf tk ct wd wp cz9 gv9 sp9 tl M9) (fi : Int32) : ∃ tl2, cX Value.int l y_PB_bound c_PB_bound 2 (some .int) [.ref h0, .int fi] G k W9 p9 (fun W p (r : Int32) => cwO k h0 nf tk ct wd wp cz9 gv9 sp9 tl2 p W ∧ p ≤ p9) ∧ rX Value.int l y_Mo_bound c_Mo_bound 3 (some .int) [.ref h1, .int fi] G k M9 (fun M (r : Int32) => rwO k h1 nf tk ct wd wp cz9 gv9 sp9 tl2 M ∧ True) := by
  obtain ⟨hnf, hct, htk, hcz⟩ := cw_facts hW
  by_cases hf : isF (nI nf) fi = 0
  · cases hfb : fbN wd tk ct nf nf with
    | some x => exact ⟨tlF (isF (nI nf) fi) (fbN wd tk ct nf nf) (tlM tk wd (fun _ => 0) nf), cX_imp (cX_of (by decide) (by decide) (Nat.zero_le _) (Nat.zero_le _) (fun s0 sl => w_PB_bound_nf l G k h0 s0 sl fi _ nf tk ct wd wp cz9 gv9 sp9 tl p9 W9 hW hf (tlF_0 hf))), rX_of (by decide) (by decide) (fun s0 sl => v_Mo_bound l G k h1 s0 sl fi (fun _ => 0) nf tk ct wd wp cz9 gv9 sp9 tl M9 hM hnf hct htk (fun q => by rw [hfb] at q; exact absurd q (by simp)))⟩
    | none =>
      obtain ⟨En, hwf⟩ := en_of hnf hct htk hfb
      exact ⟨tlF (isF (nI nf) fi) (fbN wd tk ct nf nf) (tlM tk wd En nf), cX_imp (cX_of (by decide) (by decide) (Nat.zero_le _) (Nat.zero_le _) (fun s0 sl => w_PB_bound_nf l G k h0 s0 sl fi _ nf tk ct wd wp cz9 gv9 sp9 tl p9 W9 hW hf (tlF_0 hf))), rX_of (by decide) (by decide) (fun s0 sl => v_Mo_bound l G k h1 s0 sl fi En nf tk ct wd wp cz9 gv9 sp9 tl M9 hM hnf hct htk (fun _ => hwf))⟩
  · obtain ⟨f9, hf9, rfl, -, -⟩ := isF_of hnf hf
    cases hfb : fbN wd tk ct nf nf with
    | some x => exact ⟨tlF (isF (nI nf) (nI f9)) (fbN wd tk ct nf nf) (tlM tk wd (fun _ => 0) nf), cX_imp (cX_of (by decide) (by decide) (Nat.zero_le _) (Nat.zero_le _) (fun s0 sl => w_PB_bound_wr l G k h0 s0 sl f9 x.1 x.2 _ nf tk ct wd wp cz9 gv9 sp9 tl p9 W9 hW hf9 hfb (tlF_1 (by rw [hfb]; simp)))), rX_of (by decide) (by decide) (fun s0 sl => v_Mo_bound l G k h1 s0 sl (nI f9) (fun _ => 0) nf tk ct wd wp cz9 gv9 sp9 tl M9 hM hnf hct htk (fun q => by rw [hfb] at q; exact absurd q (by simp)))⟩
    | none =>
      obtain ⟨En, hwf⟩ := en_of hnf hct htk hfb
      exact ⟨tlF (isF (nI nf) (nI f9)) (fbN wd tk ct nf nf) (tlM tk wd En nf), cX_of (by decide) (by decide) (Nat.le_refl _) (Nat.le_refl _) (fun s0 sl => w_PB_bound_ok l G k h0 s0 sl f9 En _ nf tk ct wd wp cz9 gv9 sp9 tl p9 W9 hW hf9 hfb hwf (tlF_2 hf hfb)), rX_of (by decide) (by decide) (fun s0 sl => v_Mo_bound l G k h1 s0 sl (nI f9) En nf tk ct wd wp cz9 gv9 sp9 tl M9 hM hnf hct htk (fun _ => hwf))⟩
theorem b_scaled {l : Launch} {G : va_G} {k : Nat → ClassId} {h0 h1 : Nat} {nf : Nat} {tk ct : Nat → Nat} {wd : Nat → Int32} {wp : Int32} {cz9 : Int64} {gv9 : Int32} {sp9 : Nat} {tl : Option (Nat × Nat)} {p9 : Nat} {W9 M9 : va_W} (hW : cwO k h0 nf tk ct wd wp cz9 gv9 sp9 tl p9 W9) (hM : rwO k h1 nf tk ct wd wp cz9 gv9 sp9 tl M9) (x8 x9 : Int32) : cX Value.long l y_PB_scaled c_PB_scaled 3 (some .long) [.ref h0, .int x8, .int x9] G k W9 p9 (fun W p (r : Int64) => cwO k h0 nf tk ct wd wp cz9 gv9 sp9 tl p W ∧ p ≤ p9) ∧ rX Value.long l y_Mo_scaled c_Mo_scaled 6 (some .long) [.ref h1, .int x8, .int x9] G k M9 (fun M (r : Int64) => rwO k h1 nf tk ct wd wp cz9 gv9 sp9 tl M ∧ True) := by
  exact ⟨cX_of (by decide) (by decide) (Nat.le_refl _) (Nat.le_refl _) (fun s0 sl => w_PB_scaled l G k h0 s0 sl x8 x9 nf tk ct wd wp cz9 gv9 sp9 tl p9 W9 hW), x_Mo_scaled l G k h1 x8 x9 nf tk ct wd wp cz9 gv9 sp9 tl M9 hM (cw_facts hW).1⟩
theorem b_covers {l : Launch} {G : va_G} {k : Nat → ClassId} {h0 h1 : Nat} {nf : Nat} {tk ct : Nat → Nat} {wd : Nat → Int32} {wp : Int32} {cz9 : Int64} {gv9 : Int32} {sp9 : Nat} {tl : Option (Nat × Nat)} {p9 : Nat} {W9 M9 : va_W} (hW : cwO k h0 nf tk ct wd wp cz9 gv9 sp9 tl p9 W9) (hM : rwO k h1 nf tk ct wd wp cz9 gv9 sp9 tl M9) (xa xb xc : Int32) (xn xm : Int64) : cX Value.int l y_PB_covers c_PB_covers 6 (some .int) [.ref h0, .int xa, .int xb, .int xc, .long xn] G k W9 p9 (fun W p (r : Int32) => cwO k h0 nf tk ct wd wp cz9 gv9 sp9 tl p W ∧ p ≤ p9) ∧ rX Value.int l y_Mo_covers c_Mo_covers 8 (some .int) [.ref h1, .int xa, .int xb, .int xc, .long xm] G k M9 (fun M (r : Int32) => rwO k h1 nf tk ct wd wp cz9 gv9 sp9 tl M ∧ True) := by
  exact ⟨cX_of (by decide) (by decide) (Nat.le_refl _) (Nat.le_refl _) (fun s0 sl => w_PB_covers l G k h0 s0 sl xa xb xc xn nf tk ct wd wp cz9 gv9 sp9 tl p9 W9 hW), x_Mo_covers l G k h1 xa xb xc xm nf tk ct wd wp cz9 gv9 sp9 tl M9 hM (cw_facts hW).1⟩
