/-- the places are the same whatever stood in the ends before -/
def prE : PR → PR → Prop
  | .inl b, .inl c => b = c
  | .inr (a, n, _), .inr (c, q, _) => a = c ∧ n = q
  | _, _ => False
theorem prs_any {W : Nat → Int32} {tk : Nat → Nat} {nf cnt : Nat} : ∀ (fu kn at9 nodes : Nat) (E E2 : Nat → Nat), prE (prs W tk nf cnt fu kn at9 nodes E) (prs W tk nf cnt fu kn at9 nodes E2)
  | 0, _, _, _, _, _ => rfl
  | fu + 1, kn, at9, nodes, E, E2 => by
    rw [prs, prs]
    by_cases q0 : at9 = cnt ∨ nodes = 40
    · rw [if_pos q0, if_pos q0]; rfl
    rw [if_neg q0, if_neg q0]
    cases hw : wh W tk nf cnt at9 kn with
    | some b => exact rfl
    | none =>
      show prE (if W at9 = 0 ∨ W at9 = 1 ∨ W at9 = 5 then _ else _) (if W at9 = 0 ∨ W at9 = 1 ∨ W at9 = 5 then _ else _)
      by_cases w0 : W at9 = 0 ∨ W at9 = 1 ∨ W at9 = 5
      · rw [if_pos w0, if_pos w0]; exact ⟨rfl, rfl⟩
      rw [if_neg w0, if_neg w0]
      have i1 := prs_any (W := W) (tk := tk) (nf := nf) (cnt := cnt) fu kn (at9 + hdN W tk at9) (nodes + 1) E E2
      cases h1 : prs W tk nf cnt fu kn (at9 + hdN W tk at9) (nodes + 1) E with
      | inl b =>
        rw [h1] at i1
        cases h2 : prs W tk nf cnt fu kn (at9 + hdN W tk at9) (nodes + 1) E2 with
        | inl c => rw [h2] at i1; exact i1
        | inr y => rw [h2] at i1; exact i1.elim
      | inr x =>
        rw [h1] at i1
        cases h2 : prs W tk nf cnt fu kn (at9 + hdN W tk at9) (nodes + 1) E2 with
        | inl c => rw [h2] at i1; exact i1.elim
        | inr y =>
          rw [h2] at i1
          obtain ⟨a, n, X⟩ := x
          obtain ⟨c, q, Y⟩ := y
          obtain ⟨e1, e2⟩ : a = c ∧ n = q := i1
          subst e1; subst e2
          show prE (if W at9 = 2 ∨ W at9 = 4 then _ else _) (if W at9 = 2 ∨ W at9 = 4 then _ else _)
          by_cases w2 : W at9 = 2 ∨ W at9 = 4
          · rw [if_pos w2, if_pos w2]; exact ⟨rfl, rfl⟩
          rw [if_neg w2, if_neg w2]
          have i2 := prs_any (W := W) (tk := tk) (nf := nf) (cnt := cnt) fu (kn + 1) a n X Y
          cases h3 : prs W tk nf cnt fu (kn + 1) a n X with
          | inl b =>
            rw [h3] at i2
            cases h4 : prs W tk nf cnt fu (kn + 1) a n Y with
            | inl c => rw [h4] at i2; exact i2
            | inr y => rw [h4] at i2; exact i2.elim
          | inr x =>
            rw [h3] at i2
            cases h4 : prs W tk nf cnt fu (kn + 1) a n Y with
            | inl c => rw [h4] at i2; exact i2.elim
            | inr y =>
              rw [h4] at i2
              exact i2
theorem wrR_any {cnt : Nat} : ∀ {a b : PR}, prE a b → wrR cnt a = wrR cnt b
  | .inl _, .inl _, h => congrArg some h
  | .inr (a, n, X), .inr (c, q, Y), h => by
    have h1 : a = c := h.1
    subst h1; rfl
  | .inl _, .inr _, h => h.elim
  | .inr _, .inl _, h => h.elim
/-- the wrong place of a body; the first function that has one -/
def wrN (wd : Nat → Int32) (tk ct : Nat → Nat) (nf f : Nat) : Option Nat := wrR (ct f) (prs (wdF wd f) tk nf (ct f) 16 (tk f) 0 0 (fun _ => 0))
def fbN (wd : Nat → Int32) (tk ct : Nat → Nat) (nf : Nat) : Nat → Option (Nat × Nat)
  | 0 => none
  | k + 1 => match fbN wd tk ct nf k with
    | some x => some x
    | none => match wrN wd tk ct nf k with
      | none => none
      | some b => some (k, b)
/-- the body of f is one expression, and its ends are known -/
def bodyO (wd : Nat → Int32) (tk ct : Nat → Nat) (nf : Nat) (en : Nat → Nat) (f : Nat) : Prop := wf (wdF wd f) tk nf (enF en f) 16 (tk f) 0 (ct f) ∧ nd (wdF wd f) (enF en f) 16 0 ≤ 40
theorem body_of {wd : Nat → Int32} {tk ct : Nat → Nat} {nf f : Nat} {en en2 : Nat → Nat} (hnf : nf ≤ 4) (htk : tk f ≤ 3) (h : wrR (ct f) (prs (wdF wd f) tk nf (ct f) 16 (tk f) 0 0 (enF en f)) = none) (h2 : ∀ a2 n2 E2, prs (wdF wd f) tk nf (ct f) 16 (tk f) 0 0 (enF en f) = .inr (a2, n2, E2) → enF en2 f = E2) : bodyO wd tk ct nf en2 f := by
  cases hp : prs (wdF wd f) tk nf (ct f) 16 (tk f) 0 0 (enF en f) with
  | inl b => rw [hp] at h; exact absurd h (by simp [wrR])
  | inr x =>
    obtain ⟨a2, n2, E2⟩ := x
    have he := h2 a2 n2 E2 hp
    rw [hp] at h
    have hw := prs_wf hnf 16 (tk f) 0 0 (enF en f) a2 n2 E2 hp (Nat.zero_le _) (Nat.zero_le _) (by omega)
    have ha : a2 = ct f := by
      apply Classical.byContradiction
      intro q
      have h : (if a2 = ct f then none else some a2) = none := h
      rw [if_neg q] at h
      exact absurd h (by simp)
    subst ha
    unfold bodyO
    rw [he]
    exact ⟨hw.1, by have := hw.2.2.1; have := hw.2.2.2.2.2; omega⟩
theorem body_keep {wd : Nat → Int32} {tk ct : Nat → Nat} {nf f : Nat} {en en2 : Nat → Nat} (hc : ct f ≤ 200) (h : bodyO wd tk ct nf en f) (h2 : ∀ p, p < 200 → en2 (200 * f + p) = en (200 * f + p)) : bodyO wd tk ct nf en2 f := by
  have := wf_congr (E := enF en f) (E' := enF en2 f) 16 (tk f) 0 (ct f) (fun i _ hi => h2 i (by omega)) h.1
  unfold bodyO
  exact ⟨this.1, by rw [this.2]; exact h.2⟩
theorem fb_none {wd : Nat → Int32} {tk ct : Nat → Nat} {nf k : Nat} (h : fbN wd tk ct nf k = none) (h2 : wrN wd tk ct nf k = none) : fbN wd tk ct nf (k + 1) = none := by
  rw [fbN, h]
  show (match wrN wd tk ct nf k with | none => none | some b => some (k, b)) = none
  rw [h2]
theorem fb_some {wd : Nat → Int32} {tk ct : Nat → Nat} {nf k b : Nat} (h : fbN wd tk ct nf k = none) (h2 : wrN wd tk ct nf k = some b) : ∀ d, fbN wd tk ct nf (k + 1 + d) = some (k, b)
  | 0 => by
    show fbN wd tk ct nf (k + 1) = _
    rw [fbN, h]
    show (match wrN wd tk ct nf k with | none => none | some b => some (k, b)) = _
    rw [h2]
  | d + 1 => by
    rw [← Nat.add_assoc, fbN, fb_some h h2 d]
theorem wrN_le {wd : Nat → Int32} {tk ct : Nat → Nat} {nf f b : Nat} (h : wrN wd tk ct nf f = some b) : True := trivial
theorem prs_le {W : Nat → Int32} {tk : Nat → Nat} {nf cnt : Nat} : ∀ (fu kn at9 nodes : Nat) (E : Nat → Nat), at9 ≤ cnt → match prs W tk nf cnt fu kn at9 nodes E with | .inl b => b ≤ cnt | .inr (a2, _, _) => a2 ≤ cnt
  | 0, _, _, _, _, h => h
  | fu + 1, kn, at9, nodes, E, h => by
    rw [prs]
    by_cases q0 : at9 = cnt ∨ nodes = 40
    · rw [if_pos q0]; exact h
    rw [if_neg q0]
    cases hw : wh W tk nf cnt at9 kn with
    | some b => exact wh_le hw (by omega)
    | none =>
      have hh := wh_hd hw (by omega)
      show (match (if W at9 = 0 ∨ W at9 = 1 ∨ W at9 = 5 then _ else _ : PR) with | .inl b => b ≤ cnt | .inr (a2, _, _) => a2 ≤ cnt)
      by_cases w0 : W at9 = 0 ∨ W at9 = 1 ∨ W at9 = 5
      · rw [if_pos w0]; exact hh
      rw [if_neg w0]
      have i1 := prs_le (W := W) (tk := tk) (nf := nf) (cnt := cnt) fu kn (at9 + hdN W tk at9) (nodes + 1) E hh
      cases h1 : prs W tk nf cnt fu kn (at9 + hdN W tk at9) (nodes + 1) E with
      | inl b => rw [h1] at i1; exact i1
      | inr x =>
        obtain ⟨a, n, X⟩ := x
        rw [h1] at i1
        show (match (if W at9 = 2 ∨ W at9 = 4 then _ else _ : PR) with | .inl b => b ≤ cnt | .inr (a2, _, _) => a2 ≤ cnt)
        by_cases w2 : W at9 = 2 ∨ W at9 = 4
        · rw [if_pos w2]; exact i1
        rw [if_neg w2]
        have i2 := prs_le (W := W) (tk := tk) (nf := nf) (cnt := cnt) fu (kn + 1) a n X i1
        cases h3 : prs W tk nf cnt fu (kn + 1) a n X with
        | inl b => rw [h3] at i2; exact i2
        | inr x => rw [h3] at i2; exact i2
theorem wrN_b {wd : Nat → Int32} {tk ct : Nat → Nat} {nf f b : Nat} (h : wrN wd tk ct nf f = some b) (hc : ct f ≤ 200) : b ≤ 200 := by
  have h1 := prs_le (W := wdF wd f) (tk := tk) (nf := nf) (cnt := ct f) 16 (tk f) 0 0 (fun _ => 0) (Nat.zero_le _)
  unfold wrN at h
  cases hp : prs (wdF wd f) tk nf (ct f) 16 (tk f) 0 0 (fun _ => 0) with
  | inl c => rw [hp] at h h1; injection h with h; subst h; exact Nat.le_trans h1 hc
  | inr x =>
    obtain ⟨a2, n2, E2⟩ := x
    rw [hp] at h h1
    have h : (if a2 = ct f then none else some a2) = some b := h
    have h1 : a2 ≤ ct f := h1
    split at h
    · exact absurd h (by simp)
    · injection h with h; omega
theorem d_Mo_isRight_0 : decode c_Mo_isRight 0 = .ok (.iconst 1, 1) := by decide +kernel
theorem d_Mo_isRight_1 : decode c_Mo_isRight 1 = .ok (.istore_n 1, 1) := by decide +kernel
theorem d_Mo_isRight_2 : decode c_Mo_isRight 2 = .ok (.iconst 0, 1) := by decide +kernel
theorem d_Mo_isRight_3 : decode c_Mo_isRight 3 = .ok (.istore_n 2, 1) := by decide +kernel
theorem d_Mo_isRight_4 : decode c_Mo_isRight 4 = .ok (.iload_n 2, 1) := by decide +kernel
theorem d_Mo_isRight_5 : decode c_Mo_isRight 5 = .ok (.aload_n 0, 1) := by decide +kernel
theorem d_Mo_isRight_6 : decode c_Mo_isRight 6 = .ok (.getfield 111, 3) := by decide +kernel
theorem d_Mo_isRight_9 : decode c_Mo_isRight 9 = .ok (.if_icmp .ge 27, 3) := by decide +kernel
theorem d_Mo_isRight_12 : decode c_Mo_isRight 12 = .ok (.iload_n 1, 1) := by decide +kernel
theorem d_Mo_isRight_13 : decode c_Mo_isRight 13 = .ok (.ifCond .eq 23, 3) := by decide +kernel
theorem d_Mo_isRight_16 : decode c_Mo_isRight 16 = .ok (.aload_n 0, 1) := by decide +kernel
theorem d_Mo_isRight_17 : decode c_Mo_isRight 17 = .ok (.iload_n 2, 1) := by decide +kernel
theorem d_Mo_isRight_18 : decode c_Mo_isRight 18 = .ok (.invokevirtual 140, 3) := by decide +kernel
theorem d_Mo_isRight_21 : decode c_Mo_isRight 21 = .ok (.ifCond .ge 7, 3) := by decide +kernel
theorem d_Mo_isRight_24 : decode c_Mo_isRight 24 = .ok (.iconst 1, 1) := by decide +kernel
theorem d_Mo_isRight_25 : decode c_Mo_isRight 25 = .ok (.goto 4, 3) := by decide +kernel
theorem d_Mo_isRight_28 : decode c_Mo_isRight 28 = .ok (.iconst 0, 1) := by decide +kernel
theorem d_Mo_isRight_29 : decode c_Mo_isRight 29 = .ok (.istore_n 1, 1) := by decide +kernel
theorem d_Mo_isRight_30 : decode c_Mo_isRight 30 = .ok (.iinc 2 1, 3) := by decide +kernel
theorem d_Mo_isRight_33 : decode c_Mo_isRight 33 = .ok (.goto (-29), 3) := by decide +kernel
theorem d_Mo_isRight_36 : decode c_Mo_isRight 36 = .ok (.iload_n 1, 1) := by decide +kernel
theorem d_Mo_isRight_37 : decode c_Mo_isRight 37 = .ok (.ireturn, 1) := by decide +kernel
set_option maxRecDepth 100000 in
set_option maxHeartbeats 16000000 in
/-- isRight() -/
theorem g_Mo_isRight (l : Launch) (G : va_G) (k : Nat → ClassId) (h0 : Nat) (s0 : Nat) (nf : Nat) (ma : Nat → Nat) (iv : Nat → Int32) (co : Int64) (tk : Nat → Nat) (ct : Nat → Nat) (wd : Nat → Int32) (OA : Nat → Nat) (OP : Nat → Nat) (OK : Nat → Nat) (En : Nat → Nat) (hnf : nf ≤ 4) (hct : ∀ f, f < 4 → ct f ≤ 200) (htk : ∀ g, g < 4 → tk g ≤ 3) : CI l y_Mo_isRight c_Mo_isRight 3 .boolean { frames := 4, cells := 0, slots := 0, locals := 95 } [.ref h0] G k s0 [(h0, .inr (8, moL ma (va_up iv 0 (nI nf)) co)), ((ma 0), .inl (k 0, 4, .inl (fun i => nI (tk i)))), ((ma 1), .inl (k 0, 800, .inl wd)), ((ma 2), .inl (k 0, 4, .inl (fun i => nI (ct i)))), ((ma 4), .inl (k 0, 20, .inl (fun i => nI (OA i)))), ((ma 5), .inl (k 0, 20, .inl (fun i => nI (OP i)))), ((ma 6), .inl (k 0, 20, .inl (fun i => nI (OK i)))), ((ma 3), .inl (k 0, 800, .inl (fun i => nI (En i))))] (fun (r : Int32) (u : (Nat → Nat → Nat) × Int32 × Nat) => r = nI u.2.2 ∧ ((u.2.2 = 1 ∧ fbN wd tk ct nf nf = none ∧ ∀ f, f < nf → bodyO wd tk ct nf (u.1 3) f) ∨ (u.2.2 = 0 ∧ fbN wd tk ct nf nf ≠ none))) (fun u => [(h0, .inr (8, moL ma (va_up (va_up iv 0 (nI nf)) 2 u.2.1) co)), ((ma 0), .inl (k 0, 4, .inl (fun i => nI (tk i)))), ((ma 1), .inl (k 0, 800, .inl wd)), ((ma 2), .inl (k 0, 4, .inl (fun i => nI (ct i)))), ((ma 4), .inl (k 0, 20, .inl (fun i => nI (u.1 0 i)))), ((ma 5), .inl (k 0, 20, .inl (fun i => nI (u.1 1 i)))), ((ma 6), .inl (k 0, 20, .inl (fun i => nI (u.1 2 i)))), ((ma 3), .inl (k 0, 800, .inl (fun i => nI (u.1 3 i))))]) 0 0 := by
  refine met_start (by decide) (Nat.le_of_ble_eq_true rfl) ?_
  intro p e s m below meth c C K hA hsz S ls hl
  generalize va_A [(h0, .inr (8, moL ma (va_up iv 0 (nI nf)) co)), ((ma 0), .inl (k 0, 4, .inl (fun i => nI (tk i)))), ((ma 1), .inl (k 0, 800, .inl wd)), ((ma 2), .inl (k 0, 4, .inl (fun i => nI (ct i)))), ((ma 4), .inl (k 0, 20, .inl (fun i => nI (OA i)))), ((ma 5), .inl (k 0, 20, .inl (fun i => nI (OP i)))), ((ma 6), .inl (k 0, 20, .inl (fun i => nI (OK i)))), ((ma 3), .inl (k 0, 800, .inl (fun i => nI (En i))))] s0 = A at hA S ⊢
  have hx := C.1
  have hb := C.2.1
  have hl : lv_has ls 3 [(0, .ref h0)] := hl
  refine lv_iconst (v := 1) hx hb d_Mo_isRight_0 (by decide) ?_
  refine lv_istore_n (lv' := [(1, .int 1), (0, .ref h0)]) hx hb d_Mo_isRight_1 rfl hl (by decide) rfl (fun ls hl => ?_)
  refine lv_iconst (v := 0) hx hb d_Mo_isRight_2 (by decide) ?_
  refine lv_istore_n (lv' := [(2, .int 0), (1, .int 1), (0, .ref h0)]) hx hb d_Mo_isRight_3 rfl hl (by decide) rfl (fun ls hl => ?_)
  have lp : ∀ d9, ∀ (fi : Nat), ∀ (rt : Nat), ∀ (OA9 : Nat → Nat), ∀ (OP9 : Nat → Nat), ∀ (OK9 : Nat → Nat), ∀ (En9 : Nat → Nat), ∀ (op9 : Int32), (nf - fi) < d9 → (fi ≤ nf) → ((rt = 1 ∧ fbN wd tk ct nf fi = none ∧ ∀ f, f < fi → bodyO wd tk ct nf En9 f) ∨ (rt = 0 ∧ fbN wd tk ct nf nf ≠ none)) → ∀ (H : Heap) (locs : List Loc), Sw G A s.heap H locs [(h0, .inr (8, moL ma (va_up (va_up iv 0 (nI nf)) 2 op9) co)), ((ma 0), .inl (k 0, 4, .inl (fun i => nI (tk i)))), ((ma 1), .inl (k 0, 800, .inl wd)), ((ma 2), .inl (k 0, 4, .inl (fun i => nI (ct i)))), ((ma 4), .inl (k 0, 20, .inl (fun i => nI (OA9 i)))), ((ma 5), .inl (k 0, 20, .inl (fun i => nI (OP9 i)))), ((ma 6), .inl (k 0, 20, .inl (fun i => nI (OK9 i)))), ((ma 3), .inl (k 0, 800, .inl (fun i => nI (En9 i))))] → ∀ ls : Array Slot, lv_has ls 3 [(2, .int (nI fi)), (1, .int (nI rt)), (0, .ref h0)] → W p l e { frames := 4, cells := 0, slots := 0, locals := 95 } s m [Value.ref h0].toArray below meth c H locs 0 0 (MQ below (va_Qi (fun (r : Int32) (u : (Nat → Nat → Nat) × Int32 × Nat) => r = nI u.2.2 ∧ ((u.2.2 = 1 ∧ fbN wd tk ct nf nf = none ∧ ∀ f, f < nf → bodyO wd tk ct nf (u.1 3) f) ∨ (u.2.2 = 0 ∧ fbN wd tk ct nf nf ≠ none))) (Po G k A (fun u => [(h0, .inr (8, moL ma (va_up (va_up iv 0 (nI nf)) 2 u.2.1) co)), ((ma 0), .inl (k 0, 4, .inl (fun i => nI (tk i)))), ((ma 1), .inl (k 0, 800, .inl wd)), ((ma 2), .inl (k 0, 4, .inl (fun i => nI (ct i)))), ((ma 4), .inl (k 0, 20, .inl (fun i => nI (u.1 0 i)))), ((ma 5), .inl (k 0, 20, .inl (fun i => nI (u.1 1 i)))), ((ma 6), .inl (k 0, 20, .inl (fun i => nI (u.1 2 i)))), ((ma 3), .inl (k 0, 800, .inl (fun i => nI (u.1 3 i))))])) A) [Value.ref h0].toArray s 0 0 A) (F0 m 4 ls []) := by
    intro d9
    induction d9 with
    | zero => intro fi rt OA9 OP9 OK9 En9 op9 hm; exact absurd hm (Nat.not_lt_zero _)
    | succ d9 ih_lp =>
      intro fi rt OA9 OP9 OK9 En9 op9 hm hfi hrt H locs S ls hl
      have hr1 : rt ≤ 1 := by rcases hrt with q | q; rw [q.1]; exact Nat.le_refl _; rw [q.1]; exact Nat.zero_le _
      refine lv_iload_n hx hb d_Mo_isRight_4 rfl (lv_at hl 0 rfl) ?_
      refine lv_aload_n hx hb d_Mo_isRight_5 rfl (lv_at hl 2 rfl) ?_
      refine r_get C K S 0 rfl rfl clOk_Mo 0 (by decide) wf_Mo_111 (v := .int (nI nf)) rfl d_Mo_isRight_6 ?_
      refine z_icmp_ge (a := fi) (b := nf) (tgt := 36) hx hb d_Mo_isRight_9 (by decide) (by omega) (by omega) (fun hc1 => ?_) (fun hc1 => ?_)
      · refine lv_iload_n hx hb d_Mo_isRight_36 rfl (lv_at hl 1 rfl) ?_
        exact r_iret C K (bo_nz (b := rt) (by omega)) (uz [OA9, OP9, OK9, En9], op9, rt) ⟨rfl, (show fi = nf by omega) ▸ hrt⟩ (S.sub [0, 1, 2, 3, 4, 5, 6, 7] (by decide) rfl) d_Mo_isRight_37 (Nat.le_of_ble_eq_true rfl) (Nat.le_of_ble_eq_true rfl)
      · refine lv_iload_n hx hb d_Mo_isRight_12 rfl (lv_at hl 1 rfl) ?_
        refine z_if_eq (a := rt) (tgt := 36) hx hb d_Mo_isRight_13 (by decide) (by omega) (fun hc2 => ?_) (fun hc2 => ?_)
        · refine lv_iload_n hx hb d_Mo_isRight_36 rfl (lv_at hl 1 rfl) ?_
          exact r_iret C K (bo_nz (b := rt) (by omega)) (uz [OA9, OP9, OK9, En9], op9, rt) ⟨rfl, Or.inr ⟨by omega, (hrt.resolve_left (fun q => by have := q.1; omega)).2⟩⟩ (S.sub [0, 1, 2, 3, 4, 5, 6, 7] (by decide) rfl) d_Mo_isRight_37 (Nat.le_of_ble_eq_true rfl) (Nat.le_of_ble_eq_true rfl)
        · obtain ⟨hrt0, hrt1, hrt2⟩ := hrt.resolve_right (fun q => by have := q.1; omega)
          refine lv_aload_n hx hb d_Mo_isRight_16 rfl (lv_at hl 2 rfl) ?_
          refine lv_iload_n hx hb d_Mo_isRight_17 rfl (lv_at hl 0 rfl) ?_
          refine r_backi (wi := [(h0, .inr (8, moL ma (va_up (va_up iv 2 op9) 0 (nI nf)) co)), ((ma 0), .inl (k 0, 4, .inl (fun i => nI (tk i)))), ((ma 1), .inl (k 0, 800, .inl wd)), ((ma 2), .inl (k 0, 4, .inl (fun i => nI (ct i)))), ((ma 4), .inl (k 0, 20, .inl (fun i => nI (OA9 i)))), ((ma 5), .inl (k 0, 20, .inl (fun i => nI (OP9 i)))), ((ma 6), .inl (k 0, 20, .inl (fun i => nI (OK9 i)))), ((ma 3), .inl (k 0, 800, .inl (fun i => nI (En9 i))))]) (wr := []) S hA [0, 1, 2, 3, 4, 5, 6, 7] [] rfl rfl (by decide) (by decide) (va_runV (As := [.int (nI fi)]) (rest := []) ⟨hx, hb, C.2.2.1, C.2.2.2.1, C.2.2.2.2.1⟩ (g_Mo_wrong l G k h0 _ fi nf ma (va_up iv 2 op9) co tk ct wd OA9 OP9 OK9 En9 (by omega) (hct fi (by omega)) hnf htk) (k_virt (n := 1) C wc_Mo_wrong rfl rfl wz_Mo wm_Mo_140 wn_Mo_wrong ws_Mo_wrong (by decide +kernel) ⟨(Nat.le_of_ble_eq_true rfl), (Nat.le_of_ble_eq_true rfl)⟩) (pr_nowV K S [0, 1, 2, 3, 4, 5, 6, 7] (by decide) rfl 0 rfl rfl) rfl rfl hl.1 rfl (lv_room (Nat.le_of_ble_eq_true rfl)) d_Mo_isRight_18 ⟨(Nat.le_of_ble_eq_true rfl), (Nat.le_of_ble_eq_true rfl)⟩) (fun r4 wu H locs hw3 S => ?_)
          have S : Sw G A s.heap _ _ [(h0, .inr (8, moL ma (va_up (va_up iv 0 (nI nf)) 2 (nI wu.2)) co)), ((ma 0), .inl (k 0, 4, .inl (fun i => nI (tk i)))), ((ma 1), .inl (k 0, 800, .inl wd)), ((ma 2), .inl (k 0, 4, .inl (fun i => nI (ct i)))), ((ma 4), .inl (k 0, 20, .inl (fun i => nI (wu.1 0 i)))), ((ma 5), .inl (k 0, 20, .inl (fun i => nI (wu.1 1 i)))), ((ma 6), .inl (k 0, 20, .inl (fun i => nI (wu.1 2 i)))), ((ma 3), .inl (k 0, 800, .inl (fun i => nI (wu.1 3 i))))] := S
          obtain ⟨hw30, ⟨hw1, hw2⟩⟩ := hw3
          obtain rfl : r4 = bI (wrR (ct fi) (prs (wdF wd fi) tk nf (ct fi) 16 (tk fi) 0 0 (enF En9 fi))) := hw30
          have hwr := (wrR_any (cnt := ct fi) (prs_any (W := wdF wd fi) (tk := tk) (nf := nf) (cnt := ct fi) 16 (tk fi) 0 0 (enF En9 fi) (fun _ => 0)))
          rw [hwr]
          have hwn : wrR (ct fi) (prs (wdF wd fi) tk nf (ct fi) 16 (tk fi) 0 0 (fun _ => 0)) = wrN wd tk ct nf fi := rfl
          rw [hwn] at hwr ⊢
          cases hwc : wrN wd tk ct nf fi with
          | none =>
            rw [hwc] at hwr
            show W _ _ _ _ _ _ _ _ _ _ _ _ _ _ _ (F0 m _ ls [.int (-1)])
            have hbd : bodyO wd tk ct nf (wu.1 3) fi := by
              exact body_of hnf (htk fi (by omega)) hwr hw1
            refine lv_if_ge (tgt := 28) hx hb d_Mo_isRight_21 (by decide) (fun hq => absurd hq (by decide)) (fun _ => ?_)
            refine lv_iconst (v := 1) hx hb d_Mo_isRight_24 (by decide) ?_
            refine lv_goto (tgt := 29) hx hb d_Mo_isRight_25 (by decide) ?_
            refine lv_istore_n (lv' := [(1, .int 1), (2, .int (nI fi)), (0, .ref h0)]) hx hb d_Mo_isRight_29 rfl hl (by decide) rfl (fun ls hl => ?_)
            refine lv_iinc (v := nI (fi + 1)) (lv' := [(2, .int (nI (fi + 1))), (1, .int 1), (0, .ref h0)]) hx hb d_Mo_isRight_30 hl (k := 1) rfl (show nI fi + Int32.ofInt 1 = nI (fi + 1) from (nI_add fi 1).trans (congrArg nI (by omega))) (by decide) rfl (fun ls hl => ?_)
            refine lv_goto (tgt := 4) hx hb d_Mo_isRight_33 (by decide) ?_
            exact ih_lp (fi + 1) 1 (wu.1 0) (wu.1 1) (wu.1 2) (wu.1 3) (nI wu.2) (by omega) (by omega) (Or.inl ⟨rfl, fb_none hrt1 hwc, fun f hf => (Nat.lt_or_eq_of_le (Nat.le_of_lt_succ hf)).elim (fun q => body_keep (hct f (by omega)) (hrt2 f q) (fun p hp => hw2 _ (by omega))) (fun q => q ▸ hbd)⟩) _ _ (S.sub [0, 1, 2, 3, 4, 5, 6, 7] (by decide) rfl) ls (lv_sub hl [0, 1, 2] rfl)
          | some b9 =>
            rw [hwc] at hwr
            show W _ _ _ _ _ _ _ _ _ _ _ _ _ _ _ (F0 m _ ls [.int (nI b9)])
            have hbd : True := by
              trivial
            have hb9 := wrN_b hwc (hct fi (by omega))
            refine z_if_ge (a := b9) (tgt := 28) hx hb d_Mo_isRight_21 (by decide) (by omega) ?_
            refine lv_iconst (v := 0) hx hb d_Mo_isRight_28 (by decide) ?_
            refine lv_istore_n (lv' := [(1, .int 0), (2, .int (nI fi)), (0, .ref h0)]) hx hb d_Mo_isRight_29 rfl hl (by decide) rfl (fun ls hl => ?_)
            refine lv_iinc (v := nI (fi + 1)) (lv' := [(2, .int (nI (fi + 1))), (1, .int 0), (0, .ref h0)]) hx hb d_Mo_isRight_30 hl (k := 1) rfl (show nI fi + Int32.ofInt 1 = nI (fi + 1) from (nI_add fi 1).trans (congrArg nI (by omega))) (by decide) rfl (fun ls hl => ?_)
            refine lv_goto (tgt := 4) hx hb d_Mo_isRight_33 (by decide) ?_
            exact ih_lp (fi + 1) 0 (wu.1 0) (wu.1 1) (wu.1 2) (wu.1 3) (nI wu.2) (by omega) (by omega) (Or.inr ⟨rfl, by obtain ⟨d, hd⟩ : ∃ d, nf = fi + 1 + d := ⟨nf - (fi + 1), by omega⟩; have := fb_some hrt1 hwc d; rw [← hd] at this; rw [this]; simp⟩) _ _ (S.sub [0, 1, 2, 3, 4, 5, 6, 7] (by decide) rfl) ls (lv_sub hl [0, 1, 2] rfl)
  exact lp _ 0 1 OA OP OK En (iv 2) (Nat.lt_succ_self _) (by omega) (Or.inl ⟨rfl, rfl, fun _ h => absurd h (Nat.not_lt_zero _)⟩) _ _ (S.sub [0, 1, 2, 3, 4, 5, 6, 7] (by decide) rfl) ls (lv_sub hl [0, 1, 2] rfl)
def plN : Option (Nat × Nat) → Int32
  | none => -2
  | some (_, b) => nI b
def lkN : Option (Nat × Nat) → Int32
  | none => 0
  | some (f, _) => -1 - nI f
theorem d_Mo_look_0 : decode c_Mo_look 0 = .ok (.aload_n 0, 1) := by decide +kernel
theorem d_Mo_look_1 : decode c_Mo_look 1 = .ok (.bipush (-2), 2) := by decide +kernel
theorem d_Mo_look_3 : decode c_Mo_look 3 = .ok (.putfield 19, 3) := by decide +kernel
theorem d_Mo_look_6 : decode c_Mo_look 6 = .ok (.iconst 0, 1) := by decide +kernel
theorem d_Mo_look_7 : decode c_Mo_look 7 = .ok (.istore_n 1, 1) := by decide +kernel
theorem d_Mo_look_8 : decode c_Mo_look 8 = .ok (.iload_n 1, 1) := by decide +kernel
theorem d_Mo_look_9 : decode c_Mo_look 9 = .ok (.aload_n 0, 1) := by decide +kernel
theorem d_Mo_look_10 : decode c_Mo_look 10 = .ok (.getfield 111, 3) := by decide +kernel
theorem d_Mo_look_13 : decode c_Mo_look 13 = .ok (.if_icmp .ge 31, 3) := by decide +kernel
theorem d_Mo_look_16 : decode c_Mo_look 16 = .ok (.aload_n 0, 1) := by decide +kernel
theorem d_Mo_look_17 : decode c_Mo_look 17 = .ok (.iload_n 1, 1) := by decide +kernel
theorem d_Mo_look_18 : decode c_Mo_look 18 = .ok (.invokevirtual 140, 3) := by decide +kernel
theorem d_Mo_look_21 : decode c_Mo_look 21 = .ok (.istore_n 2, 1) := by decide +kernel
theorem d_Mo_look_22 : decode c_Mo_look 22 = .ok (.iload_n 2, 1) := by decide +kernel
theorem d_Mo_look_23 : decode c_Mo_look 23 = .ok (.ifCond .ge 6, 3) := by decide +kernel
theorem d_Mo_look_26 : decode c_Mo_look 26 = .ok (.goto 12, 3) := by decide +kernel
theorem d_Mo_look_29 : decode c_Mo_look 29 = .ok (.aload_n 0, 1) := by decide +kernel
theorem d_Mo_look_30 : decode c_Mo_look 30 = .ok (.iload_n 2, 1) := by decide +kernel
theorem d_Mo_look_31 : decode c_Mo_look 31 = .ok (.putfield 19, 3) := by decide +kernel
theorem d_Mo_look_34 : decode c_Mo_look 34 = .ok (.iconst (-1), 1) := by decide +kernel
theorem d_Mo_look_35 : decode c_Mo_look 35 = .ok (.iload_n 1, 1) := by decide +kernel
theorem d_Mo_look_36 : decode c_Mo_look 36 = .ok (.isub, 1) := by decide +kernel
theorem d_Mo_look_37 : decode c_Mo_look 37 = .ok (.ireturn, 1) := by decide +kernel
theorem d_Mo_look_38 : decode c_Mo_look 38 = .ok (.iinc 1 1, 3) := by decide +kernel
theorem d_Mo_look_41 : decode c_Mo_look 41 = .ok (.goto (-33), 3) := by decide +kernel
theorem d_Mo_look_44 : decode c_Mo_look 44 = .ok (.iconst 0, 1) := by decide +kernel
theorem d_Mo_look_45 : decode c_Mo_look 45 = .ok (.ireturn, 1) := by decide +kernel
set_option maxRecDepth 100000 in
set_option maxHeartbeats 16000000 in
/-- look() -/
theorem g_Mo_look (l : Launch) (G : va_G) (k : Nat → ClassId) (h0 : Nat) (s0 : Nat) (nf : Nat) (ma : Nat → Nat) (iv : Nat → Int32) (co : Int64) (tk : Nat → Nat) (ct : Nat → Nat) (wd : Nat → Int32) (OA : Nat → Nat) (OP : Nat → Nat) (OK : Nat → Nat) (En : Nat → Nat) (hnf : nf ≤ 4) (hct : ∀ f, f < 4 → ct f ≤ 200) (htk : ∀ g, g < 4 → tk g ≤ 3) : CI l y_Mo_look c_Mo_look 3 .int { frames := 4, cells := 0, slots := 0, locals := 95 } [.ref h0] G k s0 [(h0, .inr (8, moL ma (va_up iv 0 (nI nf)) co)), ((ma 0), .inl (k 0, 4, .inl (fun i => nI (tk i)))), ((ma 1), .inl (k 0, 800, .inl wd)), ((ma 2), .inl (k 0, 4, .inl (fun i => nI (ct i)))), ((ma 4), .inl (k 0, 20, .inl (fun i => nI (OA i)))), ((ma 5), .inl (k 0, 20, .inl (fun i => nI (OP i)))), ((ma 6), .inl (k 0, 20, .inl (fun i => nI (OK i)))), ((ma 3), .inl (k 0, 800, .inl (fun i => nI (En i))))] (fun (r : Int32) (u : (Nat → Nat → Nat) × Int32) => r = lkN (fbN wd tk ct nf nf) ∧ True) (fun u => [(h0, .inr (8, moL ma (va_up (va_up (va_up iv 0 (nI nf)) 2 u.2) 1 (plN (fbN wd tk ct nf nf))) co)), ((ma 0), .inl (k 0, 4, .inl (fun i => nI (tk i)))), ((ma 1), .inl (k 0, 800, .inl wd)), ((ma 2), .inl (k 0, 4, .inl (fun i => nI (ct i)))), ((ma 4), .inl (k 0, 20, .inl (fun i => nI (u.1 0 i)))), ((ma 5), .inl (k 0, 20, .inl (fun i => nI (u.1 1 i)))), ((ma 6), .inl (k 0, 20, .inl (fun i => nI (u.1 2 i)))), ((ma 3), .inl (k 0, 800, .inl (fun i => nI (u.1 3 i))))]) 0 0 := by
  refine met_start (by decide) (Nat.le_of_ble_eq_true rfl) ?_
  intro p e s m below meth c C K hA hsz S ls hl
  generalize va_A [(h0, .inr (8, moL ma (va_up iv 0 (nI nf)) co)), ((ma 0), .inl (k 0, 4, .inl (fun i => nI (tk i)))), ((ma 1), .inl (k 0, 800, .inl wd)), ((ma 2), .inl (k 0, 4, .inl (fun i => nI (ct i)))), ((ma 4), .inl (k 0, 20, .inl (fun i => nI (OA i)))), ((ma 5), .inl (k 0, 20, .inl (fun i => nI (OP i)))), ((ma 6), .inl (k 0, 20, .inl (fun i => nI (OK i)))), ((ma 3), .inl (k 0, 800, .inl (fun i => nI (En i))))] s0 = A at hA S ⊢
  have hx := C.1
  have hb := C.2.1
  have hl : lv_has ls 3 [(0, .ref h0)] := hl
  refine lv_aload_n hx hb d_Mo_look_0 rfl (lv_at hl 0 rfl) ?_
  refine lv_bipush (v := (-2)) hx hb d_Mo_look_1 (by decide) ?_
  refine r_put C K S 0 rfl rfl clOk_Mo 4 (by decide) wf_Mo_19 rfl (ty := .int) (v := .int (-2)) (by decide +kernel) rfl rfl (Nat.le_of_ble_eq_true rfl) (fs' := moL ma (va_up (va_up iv 0 (nI nf)) 1 (-2)) co) (ws' := [(h0, .inr (8, moL ma (va_up (va_up iv 0 (nI nf)) 1 (-2)) co)), ((ma 0), .inl (k 0, 4, .inl (fun i => nI (tk i)))), ((ma 1), .inl (k 0, 800, .inl wd)), ((ma 2), .inl (k 0, 4, .inl (fun i => nI (ct i)))), ((ma 4), .inl (k 0, 20, .inl (fun i => nI (OA i)))), ((ma 5), .inl (k 0, 20, .inl (fun i => nI (OP i)))), ((ma 6), .inl (k 0, 20, .inl (fun i => nI (OK i)))), ((ma 3), .inl (k 0, 800, .inl (fun i => nI (En i))))]) rfl rfl d_Mo_look_3 (fun H locs S => ?_)
  refine lv_iconst (v := 0) hx hb d_Mo_look_6 (by decide) ?_
  refine lv_istore_n (lv' := [(1, .int 0), (0, .ref h0)]) hx hb d_Mo_look_7 rfl hl (by decide) rfl (fun ls hl => ?_)
  have lp : ∀ d9, ∀ (fi : Nat), ∀ (OA9 : Nat → Nat), ∀ (OP9 : Nat → Nat), ∀ (OK9 : Nat → Nat), ∀ (En9 : Nat → Nat), ∀ (op9 : Int32), (nf - fi) < d9 → (fi ≤ nf) → (fbN wd tk ct nf fi = none) → ∀ (H : Heap) (locs : List Loc), Sw G A s.heap H locs [(h0, .inr (8, moL ma (va_up (va_up (va_up iv 0 (nI nf)) 2 op9) 1 (-2)) co)), ((ma 0), .inl (k 0, 4, .inl (fun i => nI (tk i)))), ((ma 1), .inl (k 0, 800, .inl wd)), ((ma 2), .inl (k 0, 4, .inl (fun i => nI (ct i)))), ((ma 4), .inl (k 0, 20, .inl (fun i => nI (OA9 i)))), ((ma 5), .inl (k 0, 20, .inl (fun i => nI (OP9 i)))), ((ma 6), .inl (k 0, 20, .inl (fun i => nI (OK9 i)))), ((ma 3), .inl (k 0, 800, .inl (fun i => nI (En9 i))))] → ∀ ls : Array Slot, lv_has ls 3 [(1, .int (nI fi)), (0, .ref h0)] → W p l e { frames := 4, cells := 0, slots := 0, locals := 95 } s m [Value.ref h0].toArray below meth c H locs 0 0 (MQ below (va_Qi (fun (r : Int32) (u : (Nat → Nat → Nat) × Int32) => r = lkN (fbN wd tk ct nf nf) ∧ True) (Po G k A (fun u => [(h0, .inr (8, moL ma (va_up (va_up (va_up iv 0 (nI nf)) 2 u.2) 1 (plN (fbN wd tk ct nf nf))) co)), ((ma 0), .inl (k 0, 4, .inl (fun i => nI (tk i)))), ((ma 1), .inl (k 0, 800, .inl wd)), ((ma 2), .inl (k 0, 4, .inl (fun i => nI (ct i)))), ((ma 4), .inl (k 0, 20, .inl (fun i => nI (u.1 0 i)))), ((ma 5), .inl (k 0, 20, .inl (fun i => nI (u.1 1 i)))), ((ma 6), .inl (k 0, 20, .inl (fun i => nI (u.1 2 i)))), ((ma 3), .inl (k 0, 800, .inl (fun i => nI (u.1 3 i))))])) A) [Value.ref h0].toArray s 0 0 A) (F0 m 8 ls []) := by
    intro d9
    induction d9 with
    | zero => intro fi OA9 OP9 OK9 En9 op9 hm; exact absurd hm (Nat.not_lt_zero _)
    | succ d9 ih_lp =>
      intro fi OA9 OP9 OK9 En9 op9 hm hfi hfb H locs S ls hl
      refine lv_iload_n hx hb d_Mo_look_8 rfl (lv_at hl 0 rfl) ?_
      refine lv_aload_n hx hb d_Mo_look_9 rfl (lv_at hl 1 rfl) ?_
      refine r_get C K S 0 rfl rfl clOk_Mo 0 (by decide) wf_Mo_111 (v := .int (nI nf)) rfl d_Mo_look_10 ?_
      refine z_icmp_ge (a := fi) (b := nf) (tgt := 44) hx hb d_Mo_look_13 (by decide) (by omega) (by omega) (fun hc1 => ?_) (fun hc1 => ?_)
      · refine lv_iconst (v := 0) hx hb d_Mo_look_44 (by decide) ?_
        have hfn : fbN wd tk ct nf nf = none := (show fi = nf by omega) ▸ hfb
        have S : Sw G A s.heap H locs [(h0, .inr (8, moL ma (va_up (va_up (va_up iv 0 (nI nf)) 2 op9) 1 (plN (fbN wd tk ct nf nf))) co)), ((ma 0), .inl (k 0, 4, .inl (fun i => nI (tk i)))), ((ma 1), .inl (k 0, 800, .inl wd)), ((ma 2), .inl (k 0, 4, .inl (fun i => nI (ct i)))), ((ma 4), .inl (k 0, 20, .inl (fun i => nI (OA9 i)))), ((ma 5), .inl (k 0, 20, .inl (fun i => nI (OP9 i)))), ((ma 6), .inl (k 0, 20, .inl (fun i => nI (OK9 i)))), ((ma 3), .inl (k 0, 800, .inl (fun i => nI (En9 i))))] := by rw [hfn]; exact S
        exact r_iret C K rfl (uz [OA9, OP9, OK9, En9], op9) ⟨by rw [hfn]; rfl, trivial⟩ (S.sub [0, 1, 2, 3, 4, 5, 6, 7] (by decide) rfl) d_Mo_look_45 (Nat.le_of_ble_eq_true rfl) (Nat.le_of_ble_eq_true rfl)
      · refine lv_aload_n hx hb d_Mo_look_16 rfl (lv_at hl 1 rfl) ?_
        refine lv_iload_n hx hb d_Mo_look_17 rfl (lv_at hl 0 rfl) ?_
        refine r_backi (wi := [(h0, .inr (8, moL ma (va_up (va_up (va_up iv 2 op9) 1 (-2)) 0 (nI nf)) co)), ((ma 0), .inl (k 0, 4, .inl (fun i => nI (tk i)))), ((ma 1), .inl (k 0, 800, .inl wd)), ((ma 2), .inl (k 0, 4, .inl (fun i => nI (ct i)))), ((ma 4), .inl (k 0, 20, .inl (fun i => nI (OA9 i)))), ((ma 5), .inl (k 0, 20, .inl (fun i => nI (OP9 i)))), ((ma 6), .inl (k 0, 20, .inl (fun i => nI (OK9 i)))), ((ma 3), .inl (k 0, 800, .inl (fun i => nI (En9 i))))]) (wr := []) S hA [0, 1, 2, 3, 4, 5, 6, 7] [] rfl rfl (by decide) (by decide) (va_runV (As := [.int (nI fi)]) (rest := []) ⟨hx, hb, C.2.2.1, C.2.2.2.1, C.2.2.2.2.1⟩ (g_Mo_wrong l G k h0 _ fi nf ma (va_up (va_up iv 2 op9) 1 (-2)) co tk ct wd OA9 OP9 OK9 En9 (by omega) (hct fi (by omega)) hnf htk) (k_virt (n := 1) C wc_Mo_wrong rfl rfl wz_Mo wm_Mo_140 wn_Mo_wrong ws_Mo_wrong (by decide +kernel) ⟨(Nat.le_of_ble_eq_true rfl), (Nat.le_of_ble_eq_true rfl)⟩) (pr_nowV K S [0, 1, 2, 3, 4, 5, 6, 7] (by decide) rfl 0 rfl rfl) rfl rfl hl.1 rfl (lv_room (Nat.le_of_ble_eq_true rfl)) d_Mo_look_18 ⟨(Nat.le_of_ble_eq_true rfl), (Nat.le_of_ble_eq_true rfl)⟩) (fun r3 wu H locs hw2 S => ?_)
        have S : Sw G A s.heap _ _ [(h0, .inr (8, moL ma (va_up (va_up (va_up iv 1 (-2)) 0 (nI nf)) 2 (nI wu.2)) co)), ((ma 0), .inl (k 0, 4, .inl (fun i => nI (tk i)))), ((ma 1), .inl (k 0, 800, .inl wd)), ((ma 2), .inl (k 0, 4, .inl (fun i => nI (ct i)))), ((ma 4), .inl (k 0, 20, .inl (fun i => nI (wu.1 0 i)))), ((ma 5), .inl (k 0, 20, .inl (fun i => nI (wu.1 1 i)))), ((ma 6), .inl (k 0, 20, .inl (fun i => nI (wu.1 2 i)))), ((ma 3), .inl (k 0, 800, .inl (fun i => nI (wu.1 3 i))))] := S
        obtain ⟨hw20, ⟨hw1, hw2⟩⟩ := hw2
        obtain rfl : r3 = bI (wrR (ct fi) (prs (wdF wd fi) tk nf (ct fi) 16 (tk fi) 0 0 (enF En9 fi))) := hw20
        have hwr := (wrR_any (cnt := ct fi) (prs_any (W := wdF wd fi) (tk := tk) (nf := nf) (cnt := ct fi) 16 (tk fi) 0 0 (enF En9 fi) (fun _ => 0)))
        rw [hwr]
        have hwn : wrR (ct fi) (prs (wdF wd fi) tk nf (ct fi) 16 (tk fi) 0 0 (fun _ => 0)) = wrN wd tk ct nf fi := rfl
        rw [hwn] at hwr ⊢
        cases hwc : wrN wd tk ct nf fi with
        | none =>
          rw [hwc] at hwr
          show W _ _ _ _ _ _ _ _ _ _ _ _ _ _ _ (F0 m _ ls [.int (-1)])
          have hbd : bodyO wd tk ct nf (wu.1 3) fi := by
            exact body_of hnf (htk fi (by omega)) hwr hw1
          refine lv_istore_n (lv' := [(2, .int (-1)), (1, .int (nI fi)), (0, .ref h0)]) hx hb d_Mo_look_21 rfl hl (by decide) rfl (fun ls hl => ?_)
          refine lv_iload_n hx hb d_Mo_look_22 rfl (lv_at hl 0 rfl) ?_
          refine lv_if_ge (tgt := 29) hx hb d_Mo_look_23 (by decide) (fun hq => absurd hq (by decide)) (fun _ => ?_)
          refine lv_goto (tgt := 38) hx hb d_Mo_look_26 (by decide) ?_
          refine lv_iinc (v := nI (fi + 1)) (lv' := [(1, .int (nI (fi + 1))), (2, .int (-1)), (0, .ref h0)]) hx hb d_Mo_look_38 hl (k := 1) rfl (show nI fi + Int32.ofInt 1 = nI (fi + 1) from (nI_add fi 1).trans (congrArg nI (by omega))) (by decide) rfl (fun ls hl => ?_)
          refine lv_goto (tgt := 8) hx hb d_Mo_look_41 (by decide) ?_
          exact ih_lp (fi + 1) (wu.1 0) (wu.1 1) (wu.1 2) (wu.1 3) (nI wu.2) (by omega) (by omega) (fb_none hfb hwc) _ _ (S.sub [0, 1, 2, 3, 4, 5, 6, 7] (by decide) rfl) ls (lv_sub hl [0, 2] rfl)
        | some b9 =>
          rw [hwc] at hwr
          show W _ _ _ _ _ _ _ _ _ _ _ _ _ _ _ (F0 m _ ls [.int (nI b9)])
          have hbd : True := by
            trivial
          have hb9 := wrN_b hwc (hct fi (by omega))
          refine lv_istore_n (lv' := [(2, .int (nI b9)), (1, .int (nI fi)), (0, .ref h0)]) hx hb d_Mo_look_21 rfl hl (by decide) rfl (fun ls hl => ?_)
          refine lv_iload_n hx hb d_Mo_look_22 rfl (lv_at hl 0 rfl) ?_
          refine z_if_ge (a := b9) (tgt := 29) hx hb d_Mo_look_23 (by decide) (by omega) ?_
          refine lv_aload_n hx hb d_Mo_look_29 rfl (lv_at hl 2 rfl) ?_
          refine lv_iload_n hx hb d_Mo_look_30 rfl (lv_at hl 0 rfl) ?_
          refine r_put C K S 0 rfl rfl clOk_Mo 4 (by decide) wf_Mo_19 rfl (ty := .int) (v := .int (nI b9)) (by decide +kernel) rfl rfl (Nat.le_of_ble_eq_true rfl) (fs' := moL ma (va_up (va_up (va_up iv 0 (nI nf)) 2 (nI wu.2)) 1 (nI b9)) co) (ws' := [(h0, .inr (8, moL ma (va_up (va_up (va_up iv 0 (nI nf)) 2 (nI wu.2)) 1 (nI b9)) co)), ((ma 0), .inl (k 0, 4, .inl (fun i => nI (tk i)))), ((ma 1), .inl (k 0, 800, .inl wd)), ((ma 2), .inl (k 0, 4, .inl (fun i => nI (ct i)))), ((ma 4), .inl (k 0, 20, .inl (fun i => nI (wu.1 0 i)))), ((ma 5), .inl (k 0, 20, .inl (fun i => nI (wu.1 1 i)))), ((ma 6), .inl (k 0, 20, .inl (fun i => nI (wu.1 2 i)))), ((ma 3), .inl (k 0, 800, .inl (fun i => nI (wu.1 3 i))))]) rfl rfl d_Mo_look_31 (fun H locs S => ?_)
          refine lv_iconst (v := (-1)) hx hb d_Mo_look_34 (by decide) ?_
          refine lv_iload_n hx hb d_Mo_look_35 rfl (lv_at hl 1 rfl) ?_
          refine lv_isub hx hb d_Mo_look_36 ?_
          have hfn : fbN wd tk ct nf nf = some (fi, b9) := by
            obtain ⟨d, hd⟩ : ∃ d, nf = fi + 1 + d := ⟨nf - (fi + 1), by omega⟩
            have := fb_some hfb hwc d
            rw [← hd] at this
            exact this
          have S : Sw G A s.heap H locs [(h0, .inr (8, moL ma (va_up (va_up (va_up iv 0 (nI nf)) 2 (nI wu.2)) 1 (plN (fbN wd tk ct nf nf))) co)), ((ma 0), .inl (k 0, 4, .inl (fun i => nI (tk i)))), ((ma 1), .inl (k 0, 800, .inl wd)), ((ma 2), .inl (k 0, 4, .inl (fun i => nI (ct i)))), ((ma 4), .inl (k 0, 20, .inl (fun i => nI (wu.1 0 i)))), ((ma 5), .inl (k 0, 20, .inl (fun i => nI (wu.1 1 i)))), ((ma 6), .inl (k 0, 20, .inl (fun i => nI (wu.1 2 i)))), ((ma 3), .inl (k 0, 800, .inl (fun i => nI (wu.1 3 i))))] := by rw [hfn]; exact S
          exact r_iret C K rfl (uz [wu.1 0, wu.1 1, wu.1 2, wu.1 3], nI wu.2) ⟨by rw [hfn]; rfl, trivial⟩ (S.sub [0, 1, 2, 3, 4, 5, 6, 7] (by decide) rfl) d_Mo_look_37 (Nat.le_of_ble_eq_true rfl) (Nat.le_of_ble_eq_true rfl)
  exact lp _ 0 OA OP OK En (iv 2) (Nat.lt_succ_self _) (by omega) rfl _ _ (S.sub [0, 1, 2, 3, 4, 5, 6, 7] (by decide) rfl) ls (lv_sub hl [0, 1] rfl)
