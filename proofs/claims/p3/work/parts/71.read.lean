theorem i32_13 {x : Int32} (a1 : ¬ x < 0) (a2 : ¬ 6 < x) (a3 : x ≠ 0) (a4 : x ≠ 2) (a5 : x ≠ 6) (a6 : ¬ x = 4) (a7 : ¬ x = 5) : x = 1 ∨ x = 3 := by
  rw [Int32.lt_iff_toInt_lt] at a1 a2
  have z0 : (0 : Int32).toInt = 0 := by decide
  have z6 : (6 : Int32).toInt = 6 := by decide
  rw [z0] at a1
  rw [z6] at a2
  have k : ∀ (y : Int32) (n : Int), y.toInt = n → x.toInt = n → x = y := fun y n h1 h2 => Int32.toInt_inj.mp (h2.trans h1.symm)
  have h : x.toInt = 0 ∨ x.toInt = 1 ∨ x.toInt = 2 ∨ x.toInt = 3 ∨ x.toInt = 4 ∨ x.toInt = 5 ∨ x.toInt = 6 := by omega
  rcases h with h | h | h | h | h | h | h
  · exact absurd (k 0 0 (by decide) h) a3
  · exact Or.inl (k 1 1 (by decide) h)
  · exact absurd (k 2 2 (by decide) h) a4
  · exact Or.inr (k 3 3 (by decide) h)
  · exact absurd (k 4 4 (by decide) h) a6
  · exact absurd (k 5 5 (by decide) h) a7
  · exact absurd (k 6 6 (by decide) h) a5
section PRS
variable {W : Nat → Int32} {tk : Nat → Nat} {nf cnt : Nat}
theorem whV_none {kn p : Nat} : ∀ {k : Nat}, whV W cnt kn p k = none → ∀ j, j < k → p + 2 + j ≠ cnt ∧ ¬ W (p + 2 + j) < 0 ∧ W (p + 2 + j) < nI kn
  | 0, _, j, hj => absurd hj (Nat.not_lt_zero _)
  | k + 1, h, j, hj => by
    unfold whV at h
    cases h1 : whV W cnt kn p k with
    | some b => rw [h1] at h; exact absurd h (by simp)
    | none =>
      rw [h1] at h
      by_cases q : j = k
      · subst q
        have h : (if p + 2 + j = cnt then some cnt else if W (p + 2 + j) < 0 ∨ ¬ W (p + 2 + j) < nI kn then some (p + 2 + j) else none) = none := h
        by_cases w1 : p + 2 + j = cnt
        · rw [if_pos w1] at h; exact absurd h (by simp)
        · rw [if_neg w1] at h
          by_cases w2 : W (p + 2 + j) < 0 ∨ ¬ W (p + 2 + j) < nI kn
          · rw [if_pos w2] at h; exact absurd h (by simp)
          · exact ⟨w1, fun x => w2 (Or.inl x), Classical.byContradiction (fun x => w2 (Or.inr x))⟩
      · exact whV_none h1 j (by omega)
/-- what a node's own words are, when nothing is wrong with them -/
theorem wh_none {p kn : Nat} (h : wh W tk nf cnt p kn = none) : (W p = 0 ∨ W p = 2 ∨ W p = 6) ∨ (p + 1 ≠ cnt ∧ ((W p = 4 ∧ ¬ W (p + 1) < 0 ∧ ¬ 1000 < W (p + 1)) ∨ ((W p = 1 ∨ W p = 3) ∧ ¬ W (p + 1) < 0 ∧ W (p + 1) < nI kn) ∨ (W p = 5 ∧ 0 ≤ W (p + 1) ∧ W (p + 1) < nI nf ∧ whV W cnt kn p (tk (W (p + 1)).toNatClampNeg) = none))) := by
  unfold wh at h
  by_cases q0 : W p < 0 ∨ 6 < W p
  · rw [if_pos q0] at h; exact absurd h (by simp)
  rw [if_neg q0] at h
  by_cases q1 : W p = 0 ∨ W p = 2 ∨ W p = 6
  · exact Or.inl q1
  rw [if_neg q1] at h
  by_cases q2 : p + 1 = cnt
  · rw [if_pos q2] at h; exact absurd h (by simp)
  rw [if_neg q2] at h
  refine Or.inr ⟨q2, ?_⟩
  by_cases q3 : W p = 4
  · rw [if_pos q3] at h
    by_cases q4 : W (p + 1) < 0 ∨ 1000 < W (p + 1)
    · rw [if_pos q4] at h; exact absurd h (by simp)
    · exact Or.inl ⟨q3, fun x => q4 (Or.inl x), fun x => q4 (Or.inr x)⟩
  rw [if_neg q3] at h
  by_cases q5 : W p = 5
  · rw [if_neg (fun x => x q5)] at h
    by_cases q6 : 0 ≤ W (p + 1) ∧ W (p + 1) < nI nf
    · rw [if_neg (fun x => x q6)] at h
      exact Or.inr (Or.inr ⟨q5, q6.1, q6.2, h⟩)
    · rw [if_pos q6] at h; exact absurd h (by simp)
  · rw [if_pos q5] at h
    by_cases q4 : W (p + 1) < 0 ∨ ¬ W (p + 1) < nI kn
    · rw [if_pos q4] at h; exact absurd h (by simp)
    · refine Or.inr (Or.inl ⟨?_, fun x => q4 (Or.inl x), Classical.byContradiction (fun x => q4 (Or.inr x))⟩)
      have a1 : ¬ W p < 0 := fun x => q0 (Or.inl x)
      have a2 : ¬ 6 < W p := fun x => q0 (Or.inr x)
      have a3 : W p ≠ 0 := fun x => q1 (Or.inl x)
      have a4 : W p ≠ 2 := fun x => q1 (Or.inr (Or.inl x))
      have a5 : W p ≠ 6 := fun x => q1 (Or.inr (Or.inr x))
      clear h q0 q1 q2 q4
      exact i32_13 a1 a2 a3 a4 a5 q3 q5
theorem wh_hd {p kn : Nat} (h : wh W tk nf cnt p kn = none) (hp : p < cnt) : p + hdN W tk p ≤ cnt := by
  unfold hdN
  rcases wh_none h with q | ⟨q, r⟩
  · rw [if_pos q]; omega
  · by_cases q1 : W p = 0 ∨ W p = 2 ∨ W p = 6
    · rw [if_pos q1]; omega
    · rw [if_neg q1]
      rcases r with r | r | r
      · rw [if_neg (by rw [r.1]; decide)]; omega
      · rw [if_neg (by rcases r.1 with x | x <;> rw [x] <;> decide)]; omega
      · rw [if_pos r.1]
        have h1 := whV_none r.2.2.2
        generalize tk (W (p + 1)).toNatClampNeg = n at *
        have : ∀ k, k ≤ n → p + 2 + k ≤ cnt := by
          intro k
          induction k with
          | zero => intro _; omega
          | succ k ih =>
            intro hk
            have := ih (by omega)
            have := (h1 k (by omega)).1
            omega
        have := this n (Nat.le_refl _)
        omega
theorem ptN_of {o : Int32} : (o = 0 → ptN o = 0) ∧ (o = 1 → ptN o = 0) ∧ (o = 5 → ptN o = 0) ∧ (o = 2 → ptN o = 1) ∧ (o = 4 → ptN o = 1) ∧ (o = 3 → ptN o = 2) ∧ (o = 6 → ptN o = 2) := by
  refine ⟨?_, ?_, ?_, ?_, ?_, ?_, ?_⟩ <;> intro h <;> subst h <;> decide
theorem wh_kind {p kn : Nat} (h : wh W tk nf cnt p kn = none) (h0 : W p ≠ 0) (h1 : W p ≠ 1) (h5 : W p ≠ 5) (h2 : W p ≠ 2) (h4 : W p ≠ 4) : W p = 3 ∨ W p = 6 := by
  rcases wh_none h with q | ⟨-, r⟩
  · rcases q with q | q | q
    · exact absurd q h0
    · exact absurd q h2
    · exact Or.inr q
  · rcases r with r | r | r
    · exact absurd r.1 h4
    · rcases r.1 with r | r
      · exact absurd r h1
      · exact Or.inl r
    · exact absurd r.1 h5
/-- the reading by turns is the reading as a function -/
def wlX (W : Nat → Int32) (tk : Nat → Nat) (nf cnt kn at9 nodes : Nat) (st : Stk) (E : Nat → Nat) : PR → Prop
  | .inl b => ∃ E', WL W tk nf cnt at9 nodes kn st E (some b) E'
  | .inr (a2, n2, E2) => a2 ≤ cnt ∧ n2 ≤ 40 ∧ ∀ st' E', clo W a2 1 st E2 = (st', E') → (st' = [] → WL W tk nf cnt at9 nodes kn st E (if a2 = cnt then none else some a2) E') ∧ (st' ≠ [] → ∀ r E'', WL W tk nf cnt a2 n2 (kbN W st') st' E' r E'' → WL W tk nf cnt at9 nodes kn st E r E'')
theorem wl_prs : ∀ (fu kn at9 nodes : Nat) (st : Stk) (E : Nat → Nat), fu + st.length = 16 → at9 ≤ cnt → nodes ≤ 40 → wlX W tk nf cnt kn at9 nodes st E (prs W tk nf cnt fu kn at9 nodes E)
  | 0, kn, at9, nodes, st, E, hl, ha, hn => ⟨E, WL_stop ha (Or.inr (Or.inr (by omega)))⟩
  | fu + 1, kn, at9, nodes, st, E, hl, ha, hn => by
    rw [prs]
    by_cases q0 : at9 = cnt ∨ nodes = 40
    · rw [if_pos q0]
      exact ⟨E, WL_stop ha (by rcases q0 with q | q; exact Or.inl q; exact Or.inr (Or.inl q))⟩
    rw [if_neg q0]
    have ha2 : at9 < cnt := by omega
    have hn2 : nodes < 40 := by omega
    cases hw : wh W tk nf cnt at9 kn with
    | some b => exact ⟨E, WL_head ha2 hn2 (by omega) hw⟩
    | none =>
      have hh := wh_hd hw ha2
      show wlX W tk nf cnt kn at9 nodes st E (if W at9 = 0 ∨ W at9 = 1 ∨ W at9 = 5 then _ else _)
      by_cases w0 : W at9 = 0 ∨ W at9 = 1 ∨ W at9 = 5
      · rw [if_pos w0]
        have hp : ptN (W at9) = 0 := by
          rcases w0 with w | w | w
          · exact ptN_of.1 w
          · exact ptN_of.2.1 w
          · exact ptN_of.2.2.1 w
        refine ⟨hh, by omega, fun st' E' hc => ?_⟩
        have hc2 : clo W (at9 + hdN W tk at9) 0 ((at9, 0, kn) :: st) E = (st', E') := by
          rw [clo, if_pos (by rw [hp])]; exact hc
        refine ⟨fun q => ?_, fun q r E'' hr => WL_go ha2 hn2 (by omega) hw hc2 q hr⟩
        subst q
        exact WL_fin ha2 hn2 (by omega) hw hc2
      rw [if_neg w0]
      have hkind : ptN (W at9) ≠ 0 := by
        by_cases w2 : W at9 = 2
        · rw [ptN_of.2.2.2.1 w2]; decide
        · by_cases w4 : W at9 = 4
          · rw [ptN_of.2.2.2.2.1 w4]; decide
          · rcases wh_kind hw (fun x => w0 (Or.inl x)) (fun x => w0 (Or.inr (Or.inl x))) (fun x => w0 (Or.inr (Or.inr x))) w2 w4 with w | w
            · rw [ptN_of.2.2.2.2.2.1 w]; decide
            · rw [ptN_of.2.2.2.2.2.2 w]; decide
      have hc1 : clo W (at9 + hdN W tk at9) 0 ((at9, 0, kn) :: st) E = ((at9, 0, kn) :: st, E) := by
        rw [clo, if_neg (fun x => hkind x.symm)]
      have hk0 : kbN W ((at9, 0, kn) :: st) = kn := by
        show kn + (if (W at9 = 3 ∨ W at9 = 6) ∧ 0 = 1 then 1 else 0) = kn
        rw [if_neg (fun x => by omega)]; rfl
      have hgo : ∀ r E'', WL W tk nf cnt (at9 + hdN W tk at9) (nodes + 1) kn ((at9, 0, kn) :: st) E r E'' → WL W tk nf cnt at9 nodes kn st E r E'' := by
        intro r E'' hr
        exact WL_go ha2 hn2 (by omega) hw hc1 (by simp) (by rw [hk0]; exact hr)
      have ih1 := wl_prs fu kn (at9 + hdN W tk at9) (nodes + 1) ((at9, 0, kn) :: st) E (by simp only [List.length_cons]; omega) hh (by omega)
      cases hp1 : prs W tk nf cnt fu kn (at9 + hdN W tk at9) (nodes + 1) E with
      | inl b =>
        rw [hp1] at ih1
        obtain ⟨E', h⟩ := ih1
        exact ⟨E', hgo _ _ h⟩
      | inr x =>
        obtain ⟨a2, n2, E2⟩ := x
        rw [hp1] at ih1
        obtain ⟨i1, i2, i3⟩ := ih1
        show wlX W tk nf cnt kn at9 nodes st E (if W at9 = 2 ∨ W at9 = 4 then _ else _)
        by_cases w2 : W at9 = 2 ∨ W at9 = 4
        · rw [if_pos w2]
          have hp : ptN (W at9) = 1 := by
            rcases w2 with w | w
            · exact ptN_of.2.2.2.1 w
            · exact ptN_of.2.2.2.2.1 w
          refine ⟨i1, i2, fun st' E' hc => ?_⟩
          have hc2 : clo W a2 1 ((at9, 0, kn) :: st) E2 = (st', E') := by
            rw [clo, if_pos (by rw [hp])]; exact hc
          have i4 := i3 st' E' hc2
          exact ⟨fun q => hgo _ _ (i4.1 q), fun q r E'' hr => hgo _ _ (i4.2 q r E'' hr)⟩
        rw [if_neg w2]
        have hk := wh_kind hw (fun x => w0 (Or.inl x)) (fun x => w0 (Or.inr (Or.inl x))) (fun x => w0 (Or.inr (Or.inr x))) (fun x => w2 (Or.inl x)) (fun x => w2 (Or.inr x))
        have hp2 : ptN (W at9) = 2 := by
          rcases hk with w | w
          · exact ptN_of.2.2.2.2.2.1 w
          · exact ptN_of.2.2.2.2.2.2 w
        have hc3 : clo W a2 1 ((at9, 0, kn) :: st) E2 = ((at9, 1, kn) :: st, E2) := by
          rw [clo, if_neg (by rw [hp2]; decide)]
        have hk1 : kbN W ((at9, 1, kn) :: st) = kn + 1 := by
          show kn + (if (W at9 = 3 ∨ W at9 = 6) ∧ 1 = 1 then 1 else 0) = kn + 1
          rw [if_pos ⟨hk, rfl⟩]
        have hgo2 : ∀ r E'', WL W tk nf cnt a2 n2 (kn + 1) ((at9, 1, kn) :: st) E2 r E'' → WL W tk nf cnt at9 nodes kn st E r E'' := by
          intro r E'' hr
          exact hgo _ _ ((i3 _ _ hc3).2 (by simp) r E'' (by rw [hk1]; exact hr))
        have ih2 := wl_prs fu (kn + 1) a2 n2 ((at9, 1, kn) :: st) E2 (by simp only [List.length_cons]; omega) i1 i2
        cases hp3 : prs W tk nf cnt fu (kn + 1) a2 n2 E2 with
        | inl b =>
          rw [hp3] at ih2
          obtain ⟨E', h⟩ := ih2
          exact ⟨E', hgo2 _ _ h⟩
        | inr y =>
          obtain ⟨a3, n3, E3⟩ := y
          rw [hp3] at ih2
          obtain ⟨j1, j2, j3⟩ := ih2
          refine ⟨j1, j2, fun st' E' hc => ?_⟩
          have hc2 : clo W a3 1 ((at9, 1, kn) :: st) E3 = (st', E') := by
            rw [clo, if_pos (by rw [hp2])]; exact hc
          have i4 := j3 st' E' hc2
          exact ⟨fun q => hgo2 _ _ (i4.1 q), fun q r E'' hr => hgo2 _ _ (i4.2 q r E'' hr)⟩
end PRS
