/-! the nodes that the class's Reader finds -/
abbrev XS := (Nat → Nat) × (Nat → Nat) × (Nat → Nat) × (Nat → Nat) × (Nat → Nat) × Nat × Option Nat × Nat × Nat
section TREE
variable {W : Nat → Int32} {tk : Nat → Nat} {nf cnt : Nat}
/-- the variables that a node's own words name, as bits -/
def owB (W : Nat → Int32) (tk : Nat → Nat) (p : Nat) : Nat := if W p = 1 ∨ W p = 3 then 1 * 2 ^ (W (p + 1)).toNatClampNeg else if W p = 5 then nbV W p (tk (W (p + 1)).toNatClampNeg) else 0
/-- node x is the expression of the words p to q; its nodes are x to y -/
def ntT (W : Nat → Int32) (tk sta fir sec kno nam : Nat → Nat) : Nat → Nat → Nat → Nat → Nat → Nat → Prop
  | 0, _, _, _, _, _ => False
  | fu + 1, kn, p, q, x, y => sta x = p ∧ kno x = kn ∧ (((W p = 0 ∨ W p = 1 ∨ W p = 5) ∧ q = p + hdN W tk p ∧ y = x + 1 ∧ nam x = owB W tk p)
    ∨ ((W p = 2 ∨ W p = 4) ∧ fir x = x + 1 ∧ ntT W tk sta fir sec kno nam fu kn (p + hdN W tk p) q (x + 1) y ∧ nam x = owB W tk p ||| nam (x + 1))
    ∨ ((W p = 3 ∨ W p = 6) ∧ fir x = x + 1 ∧ ∃ m z, sec x = z ∧ ntT W tk sta fir sec kno nam fu kn (p + hdN W tk p) m (x + 1) z ∧ ntT W tk sta fir sec kno nam fu (kn + 1) m q z y ∧ nam x = owB W tk p ||| nam (x + 1) ||| nam z))
theorem nt_lt {sta fir sec kno nam : Nat → Nat} : ∀ {fu kn p q x y : Nat}, ntT W tk sta fir sec kno nam fu kn p q x y → x < y ∧ p < q
  | 0, _, _, _, _, _, h => h.elim
  | fu + 1, kn, p, q, x, y, h => by
    have hh := hdN_pos (W := W) (tk := tk) p
    obtain ⟨-, -, h | h | h⟩ := h
    · omega
    · have := nt_lt h.2.2.1
      omega
    · obtain ⟨-, -, m, z, -, h1, h2, -⟩ := h
      have := nt_lt h1
      have := nt_lt h2
      omega
/-- the same five rows from x to y -/
def rwE (sta fir sec kno nam sta' fir' sec' kno' nam' : Nat → Nat) (x y : Nat) : Prop := ∀ i, x ≤ i → i < y → sta' i = sta i ∧ fir' i = fir i ∧ sec' i = sec i ∧ kno' i = kno i ∧ nam' i = nam i
theorem nt_keep {sta fir sec kno nam sta' fir' sec' kno' nam' : Nat → Nat} : ∀ {fu kn p q x y : Nat}, rwE sta fir sec kno nam sta' fir' sec' kno' nam' x y → ntT W tk sta fir sec kno nam fu kn p q x y → ntT W tk sta' fir' sec' kno' nam' fu kn p q x y
  | 0, _, _, _, _, _, _, h => h.elim
  | fu + 1, kn, p, q, x, y, hr, h => by
    have hl := (nt_lt h).1
    obtain ⟨e1, e2, e3, e4, e5⟩ := hr x (Nat.le_refl _) hl
    obtain ⟨a, b, h | h | h⟩ := h
    · exact ⟨e1.trans a, e4.trans b, Or.inl ⟨h.1, h.2.1, h.2.2.1, e5.trans h.2.2.2⟩⟩
    · have h1 := nt_lt h.2.2.1
      refine ⟨e1.trans a, e4.trans b, Or.inr (Or.inl ⟨h.1, e2.trans h.2.1, nt_keep (fun i u v => hr i (by omega) v) h.2.2.1, ?_⟩)⟩
      rw [e5, (hr (x + 1) (by omega) (by omega)).2.2.2.2]; exact h.2.2.2
    · obtain ⟨c, d, m, z, f, h1, h2, g⟩ := h
      have l1 := nt_lt h1
      have l2 := nt_lt h2
      refine ⟨e1.trans a, e4.trans b, Or.inr (Or.inr ⟨c, e2.trans d, m, z, e3.trans f, nt_keep (fun i u v => hr i (by omega) (by omega)) h1, nt_keep (fun i u v => hr i (by omega) v) h2, ?_⟩)⟩
      rw [e5, (hr (x + 1) (by omega) (by omega)).2.2.2.2, (hr z (by omega) (by omega)).2.2.2.2]; exact g
/-- what the reading of an expression leaves: u is the five rows, next, wrong, nodes, and the node's number -/
def exO (W : Nat → Int32) (tk : Nat → Nat) (pr : PR) (fu kn p x : Nat) (sta fir sec kno nam : Nat → Nat) (u : XS) : Prop := u.2.2.2.2.2.2.2.2 < 40 ∧ match pr with
  | .inl b => u.2.2.2.2.2.2.1 = some b
  | .inr (a2, n2, _) => u.2.2.2.2.2.2.1 = none ∧ u.2.2.2.2.2.1 = a2 ∧ u.2.2.2.2.2.2.2.1 = n2 ∧ u.2.2.2.2.2.2.2.2 = x ∧ rwE sta fir sec kno nam u.1 u.2.1 u.2.2.1 u.2.2.2.1 u.2.2.2.2.1 0 x ∧ ntT W tk u.1 u.2.1 u.2.2.1 u.2.2.2.1 u.2.2.2.2.1 fu kn p a2 x n2
/-- what the reading of the parts of node x leaves -/
def pa0 (x : Nat) (sta fir sec kno nam : Nat → Nat) (u : XS) : Prop := rwE sta fir sec kno nam u.1 u.2.1 u.2.2.1 u.2.2.2.1 u.2.2.2.2.1 0 x ∧ u.1 x = sta x ∧ u.2.2.2.1 x = kno x ∧ u.2.1 x = x + 1
def pa1 (W : Nat → Int32) (tk : Nat → Nat) (nf cnt : Nat) (E : Nat → Nat) (fu p x : Nat) (sta fir sec kno nam : Nat → Nat) (u : XS) : Prop := match prs W tk nf cnt fu (kno x) p (x + 1) E with
  | .inl b => u.2.2.2.2.2.2.1 = some b
  | .inr (a2, n2, _) => u.2.2.2.2.2.2.1 = none ∧ u.2.2.2.2.2.1 = a2 ∧ u.2.2.2.2.2.2.2.1 = n2 ∧ pa0 x sta fir sec kno nam u ∧ u.2.2.2.2.1 x = nam x ||| u.2.2.2.2.1 (x + 1) ∧ ntT W tk u.1 u.2.1 u.2.2.1 u.2.2.2.1 u.2.2.2.2.1 fu (kno x) p a2 (x + 1) n2
def pa2 (W : Nat → Int32) (tk : Nat → Nat) (nf cnt : Nat) (E : Nat → Nat) (fu p x : Nat) (sta fir sec kno nam : Nat → Nat) (u : XS) : Prop := match prs W tk nf cnt fu (kno x) p (x + 1) E with
  | .inl b => u.2.2.2.2.2.2.1 = some b
  | .inr (a2, n2, E2) => match prs W tk nf cnt fu (kno x + 1) a2 n2 E2 with
    | .inl b => u.2.2.2.2.2.2.1 = some b
    | .inr (a3, n3, _) => u.2.2.2.2.2.2.1 = none ∧ u.2.2.2.2.2.1 = a3 ∧ u.2.2.2.2.2.2.2.1 = n3 ∧ pa0 x sta fir sec kno nam u ∧ u.2.2.1 x = n2 ∧ u.2.2.2.2.1 x = nam x ||| u.2.2.2.2.1 (x + 1) ||| u.2.2.2.2.1 n2 ∧ ntT W tk u.1 u.2.1 u.2.2.1 u.2.2.2.1 u.2.2.2.2.1 fu (kno x) p a2 (x + 1) n2 ∧ ntT W tk u.1 u.2.1 u.2.2.1 u.2.2.2.1 u.2.2.2.2.1 fu (kno x + 1) a2 a3 n2 n3
/-- behind the first part: its number is kept, its names are added -/
def up1 (x : Nat) (v : XS) : XS := (v.1, va_up v.2.1 x v.2.2.2.2.2.2.2.2, v.2.2.1, v.2.2.2.1, va_up v.2.2.2.2.1 x (v.2.2.2.2.1 x ||| v.2.2.2.2.1 v.2.2.2.2.2.2.2.2), v.2.2.2.2.2.1, v.2.2.2.2.2.2.1, v.2.2.2.2.2.2.2.1, 0)
def up2 (x : Nat) (v : XS) : XS := (v.1, v.2.1, va_up v.2.2.1 x v.2.2.2.2.2.2.2.2, v.2.2.2.1, va_up v.2.2.2.2.1 x (v.2.2.2.2.1 x ||| v.2.2.2.2.1 v.2.2.2.2.2.2.2.2), v.2.2.2.2.2.1, v.2.2.2.2.2.2.1, v.2.2.2.2.2.2.2.1, 0)
theorem pa1_of {E : Nat → Nat} {fu p x : Nat} {sta fir sec kno nam : Nat → Nat} {v : XS} (h : exO W tk (prs W tk nf cnt fu (kno x) p (x + 1) E) fu (kno x) p (x + 1) sta fir sec kno nam v) : pa1 W tk nf cnt E fu p x sta fir sec kno nam (up1 x v) := by
  obtain ⟨-, h⟩ := h
  unfold pa1
  cases hp : prs W tk nf cnt fu (kno x) p (x + 1) E with
  | inl b => rw [hp] at h; exact h
  | inr w =>
    obtain ⟨a2, n2, E2⟩ := w
    rw [hp] at h
    obtain ⟨h1, h2, h3, h4, h5, h6⟩ := h
    have hx := h5 x (Nat.zero_le _) (Nat.lt_succ_self _)
    refine ⟨h1, h2, h3, ⟨fun i a b => ?_, hx.1, hx.2.2.2.1, ?_⟩, ?_, nt_keep (fun i a b => ?_) h6⟩
    · have := h5 i a (by omega)
      exact ⟨this.1, (va_up_ne _ _ (by omega)).trans this.2.1, this.2.2.1, this.2.2.2.1, (va_up_ne _ _ (by omega)).trans this.2.2.2.2⟩
    · exact (va_up_self _ _ _).trans h4
    · show va_up _ x _ x = nam x ||| va_up _ x _ (x + 1)
      rw [va_up_self, va_up_ne _ _ (by omega), h4, hx.2.2.2.2]
    · exact ⟨rfl, va_up_ne _ _ (by omega), rfl, rfl, va_up_ne _ _ (by omega)⟩
theorem pa2_of {E : Nat → Nat} {fu p x b : Nat} {sta fir sec kno nam : Nat → Nat} {u : XS} (h : prs W tk nf cnt fu (kno x) p (x + 1) E = .inl b) (hu : u.2.2.2.2.2.2.1 = some b) : pa2 W tk nf cnt E fu p x sta fir sec kno nam u := by
  unfold pa2; rw [h]; exact hu
theorem pa2_two {E E2 : Nat → Nat} {fu p x a2 n2 : Nat} {sta fir sec kno nam : Nat → Nat} {v w : XS} (hp : prs W tk nf cnt fu (kno x) p (x + 1) E = .inr (a2, n2, E2)) (h : exO W tk (.inr (a2, n2, E2)) fu (kno x) p (x + 1) sta fir sec kno nam v)
    (h2 : exO W tk (prs W tk nf cnt fu (kno x + 1) a2 n2 E2) fu (kno x + 1) a2 n2 (up1 x v).1 (up1 x v).2.1 (up1 x v).2.2.1 (up1 x v).2.2.2.1 (up1 x v).2.2.2.2.1 w) : pa2 W tk nf cnt E fu p x sta fir sec kno nam (up2 x w) := by
  have h1 := pa1_of (nf := nf) (cnt := cnt) (E := E) (by rw [hp]; exact h)
  unfold pa1 at h1
  rw [hp] at h1
  unfold pa2
  rw [hp]
  obtain ⟨-, h2⟩ := h2
  show (match prs W tk nf cnt fu (kno x + 1) a2 n2 E2 with | .inl b => _ | .inr (a3, n3, _) => _)
  cases hq : prs W tk nf cnt fu (kno x + 1) a2 n2 E2 with
  | inl b => rw [hq] at h2; exact h2
  | inr y =>
    obtain ⟨a3, n3, E3⟩ := y
    rw [hq] at h2
    obtain ⟨g1, g2, g3, ⟨g4, g5, g6, g7⟩, g8, g9⟩ := h1
    obtain ⟨k1, k2, k3, k4, k5, k6⟩ := h2
    have hl := (nt_lt g9).1
    have hx := k5 x (Nat.zero_le _) (by omega)
    have hx1 := k5 (x + 1) (Nat.zero_le _) (by omega)
    refine ⟨k1, k2, k3, ⟨fun i a b => ?_, hx.1.trans g5, hx.2.2.2.1.trans g6, hx.2.1.trans g7⟩, ?_, ?_, nt_keep (fun i a b => ?_) g9, nt_keep (fun i a b => ?_) k6⟩
    · have e1 := g4 i a b
      have e2 := k5 i a (by omega)
      exact ⟨e2.1.trans e1.1, e2.2.1.trans e1.2.1, (va_up_ne _ _ (by omega)).trans (e2.2.2.1.trans e1.2.2.1), e2.2.2.2.1.trans e1.2.2.2.1, (va_up_ne _ _ (by omega)).trans (e2.2.2.2.2.trans e1.2.2.2.2)⟩
    · exact (va_up_self _ _ _).trans k4
    · show va_up _ x _ x = nam x ||| va_up _ x _ (x + 1) ||| va_up _ x _ n2
      rw [va_up_self, va_up_ne _ _ (show x + 1 ≠ x by omega), va_up_ne _ _ (show n2 ≠ x by omega), k4, hx.2.2.2.2, hx1.2.2.2.2, g8]
    · have e2 := k5 i (Nat.zero_le _) (by omega)
      exact ⟨e2.1, e2.2.1, (va_up_ne _ _ (by omega)).trans e2.2.2.1, e2.2.2.2.1, (va_up_ne _ _ (by omega)).trans e2.2.2.2.2⟩
    · exact ⟨rfl, rfl, va_up_ne _ _ (by omega), rfl, va_up_ne _ _ (by omega)⟩
/-! an expression by its kind -/
theorem ex_wrong {E : Nat → Nat} {fu kn p x b : Nat} {sta fir sec kno nam : Nat → Nat} {u : XS} (h : prs W tk nf cnt fu kn p x E = .inl b) (hu : u.2.2.2.2.2.2.1 = some b) (hx : u.2.2.2.2.2.2.2.2 < 40) : exO W tk (prs W tk nf cnt fu kn p x E) fu kn p x sta fir sec kno nam u := by
  rw [h]; exact ⟨hx, hu⟩
theorem prs_b0 {E : Nat → Nat} {fu kn p x : Nat} (h : fu = 0 ∨ x = 40 ∨ p = cnt) : prs W tk nf cnt fu kn p x E = .inl p := by
  cases fu with
  | zero => rfl
  | succ fu => rw [prs, if_pos (by omega)]
theorem prs_b1 {E : Nat → Nat} {fu kn p x b : Nat} (h1 : p ≠ cnt) (h2 : x ≠ 40) (h : wh W tk nf cnt p kn = some b) : prs W tk nf cnt (fu + 1) kn p x E = .inl b := by
  rw [prs, if_neg (by omega), h]
theorem prs_go {E : Nat → Nat} {fu kn p x : Nat} (h1 : p ≠ cnt) (h2 : x ≠ 40) (h : wh W tk nf cnt p kn = none) : prs W tk nf cnt (fu + 1) kn p x E = if W p = 0 ∨ W p = 1 ∨ W p = 5 then .inr (p + hdN W tk p, x + 1, va_up E p (p + hdN W tk p))
      else match prs W tk nf cnt fu kn (p + hdN W tk p) (x + 1) E with
      | .inl b => .inl b
      | .inr (a2, n2, E2) =>
        if W p = 2 ∨ W p = 4 then .inr (a2, n2, va_up E2 p a2)
        else match prs W tk nf cnt fu (kn + 1) a2 n2 E2 with
        | .inl b => .inl b
        | .inr (a3, n3, E3) => .inr (a3, n3, va_up E3 p a3) := by
  rw [prs, if_neg (by omega), h]
  rfl
/-- the rows once a node x has begun at p -/
theorem bg_keep {sta fir sec kno nam nam8 : Nat → Nat} {x a b c d : Nat} (hn : ∀ y, y ≠ x → nam8 y = nam y) : rwE sta fir sec kno nam (va_up sta x a) (va_up fir x b) (va_up sec x c) (va_up kno x d) nam8 0 x := fun i _ h => ⟨va_up_ne _ _ (by omega), va_up_ne _ _ (by omega), va_up_ne _ _ (by omega), va_up_ne _ _ (by omega), hn i (by omega)⟩
theorem ex_leaf {E : Nat → Nat} {fu kn p x : Nat} {sta fir sec kno nam nam8 : Nat → Nat} (h1 : p ≠ cnt) (h2 : x < 40) (hw : wh W tk nf cnt p kn = none) (hk : W p = 0 ∨ W p = 1 ∨ W p = 5) (hn : ∀ y, y ≠ x → nam8 y = nam y) (hx : nam8 x = owB W tk p) {nx : Nat} (hnx : nx = p + hdN W tk p) :
    exO W tk (prs W tk nf cnt (fu + 1) kn p x E) (fu + 1) kn p x sta fir sec kno nam (va_up sta x p, va_up fir x 0, va_up sec x 0, va_up kno x kn, nam8, nx, none, x + 1, x) := by
  rw [prs_go h1 (by omega) hw, if_pos hk]
  exact ⟨h2, rfl, hnx, rfl, rfl, bg_keep hn, va_up_self _ _ _, va_up_self _ _ _, Or.inl ⟨hk, rfl, rfl, hx⟩⟩
theorem ex_one {E : Nat → Nat} {fu kn p x nx : Nat} {sta fir sec kno nam nam8 : Nat → Nat} {u : XS} (h1 : p ≠ cnt) (h2 : x < 40) (hw : wh W tk nf cnt p kn = none) (hk : W p = 2 ∨ W p = 4) (hn : ∀ y, y ≠ x → nam8 y = nam y) (hx : nam8 x = owB W tk p) (hnx : nx = p + hdN W tk p)
    (hp : pa1 W tk nf cnt E fu nx x (va_up sta x p) (va_up fir x 0) (va_up sec x 0) (va_up kno x kn) nam8 u) :
    exO W tk (prs W tk nf cnt (fu + 1) kn p x E) (fu + 1) kn p x sta fir sec kno nam (u.1, u.2.1, u.2.2.1, u.2.2.2.1, u.2.2.2.2.1, u.2.2.2.2.2.1, u.2.2.2.2.2.2.1, u.2.2.2.2.2.2.2.1, x) := by
  rw [prs_go h1 (by omega) hw, if_neg (by rcases hk with q | q <;> rw [q] <;> decide)]
  unfold pa1 at hp
  rw [va_up_self, hnx] at hp
  cases h : prs W tk nf cnt fu kn (p + hdN W tk p) (x + 1) E with
  | inl b => rw [h] at hp; exact ⟨h2, hp⟩
  | inr y =>
    obtain ⟨a2, n2, E2⟩ := y
    rw [h] at hp
    show exO W tk (if W p = 2 ∨ W p = 4 then .inr (a2, n2, va_up E2 p a2) else _) _ _ _ _ _ _ _ _ _ _
    rw [if_pos hk]
    obtain ⟨g1, g2, g3, ⟨g4, g5, g6, g7⟩, g8, g9⟩ := hp
    refine ⟨h2, g1, g2, g3, rfl, fun i a b => ?_, g5.trans (va_up_self _ _ _), g6.trans (va_up_self _ _ _), Or.inr (Or.inl ⟨hk, g7, g9, ?_⟩)⟩
    · have e1 := g4 i a b
      have e2 := bg_keep (a := p) (b := 0) (c := 0) (d := kn) (sta := sta) (fir := fir) (sec := sec) (kno := kno) hn i a b
      exact ⟨e1.1.trans e2.1, e1.2.1.trans e2.2.1, e1.2.2.1.trans e2.2.2.1, e1.2.2.2.1.trans e2.2.2.2.1, e1.2.2.2.2.trans e2.2.2.2.2⟩
    · rw [g8, hx]
theorem ex_two {E : Nat → Nat} {fu kn p x nx : Nat} {sta fir sec kno nam nam8 : Nat → Nat} {u : XS} (h1 : p ≠ cnt) (h2 : x < 40) (hw : wh W tk nf cnt p kn = none) (hk : W p = 3 ∨ W p = 6) (hn : ∀ y, y ≠ x → nam8 y = nam y) (hx : nam8 x = owB W tk p) (hnx : nx = p + hdN W tk p)
    (hp : pa2 W tk nf cnt E fu nx x (va_up sta x p) (va_up fir x 0) (va_up sec x 0) (va_up kno x kn) nam8 u) :
    exO W tk (prs W tk nf cnt (fu + 1) kn p x E) (fu + 1) kn p x sta fir sec kno nam (u.1, u.2.1, u.2.2.1, u.2.2.2.1, u.2.2.2.2.1, u.2.2.2.2.2.1, u.2.2.2.2.2.2.1, u.2.2.2.2.2.2.2.1, x) := by
  rw [prs_go h1 (by omega) hw, if_neg (by rcases hk with q | q <;> rw [q] <;> decide)]
  unfold pa2 at hp
  rw [va_up_self, hnx] at hp
  cases h : prs W tk nf cnt fu kn (p + hdN W tk p) (x + 1) E with
  | inl b => rw [h] at hp; exact ⟨h2, hp⟩
  | inr y =>
    obtain ⟨a2, n2, E2⟩ := y
    rw [h] at hp
    show exO W tk (if W p = 2 ∨ W p = 4 then _ else match prs W tk nf cnt fu (kn + 1) a2 n2 E2 with | .inl b => .inl b | .inr (a3, n3, E3) => .inr (a3, n3, va_up E3 p a3)) _ _ _ _ _ _ _ _ _ _
    rw [if_neg (by rcases hk with q | q <;> rw [q] <;> decide)]
    have hp : (match prs W tk nf cnt fu (kn + 1) a2 n2 E2 with | .inl b => _ | .inr (a3, n3, _) => _) := hp
    cases h3 : prs W tk nf cnt fu (kn + 1) a2 n2 E2 with
    | inl b => rw [h3] at hp; exact ⟨h2, hp⟩
    | inr z =>
      obtain ⟨a3, n3, E3⟩ := z
      rw [h3] at hp
      obtain ⟨g1, g2, g3, ⟨g4, g5, g6, g7⟩, f1, f2, f3, f4⟩ := hp
      refine ⟨h2, g1, g2, g3, rfl, fun i a b => ?_, g5.trans (va_up_self _ _ _), g6.trans (va_up_self _ _ _), Or.inr (Or.inr ⟨hk, g7, a2, n2, f1, f3, f4, ?_⟩)⟩
      · have e1 := g4 i a b
        have e2 := bg_keep (a := p) (b := 0) (c := 0) (d := kn) (sta := sta) (fir := fir) (sec := sec) (kno := kno) hn i a b
        exact ⟨e1.1.trans e2.1, e1.2.1.trans e2.2.1, e1.2.2.1.trans e2.2.2.1, e1.2.2.2.1.trans e2.2.2.2.1, e1.2.2.2.2.trans e2.2.2.2.2⟩
      · rw [f2, hx]
/-! a node's own words by its kind -/
theorem hd_1 {p : Nat} (h : W p = 0 ∨ W p = 2 ∨ W p = 6) : hdN W tk p = 1 := by unfold hdN; rw [if_pos h]
theorem hd_2 {p : Nat} (h : W p = 1 ∨ W p = 3 ∨ W p = 4) : hdN W tk p = 2 := by
  unfold hdN
  rw [if_neg (by rcases h with q | q | q <;> rw [q] <;> decide), if_neg (by rcases h with q | q | q <;> rw [q] <;> decide)]
theorem hd_5 {p : Nat} (h : W p = 5) : hdN W tk p = 2 + tk (W (p + 1)).toNatClampNeg := by unfold hdN; rw [if_neg (by rw [h]; decide), if_pos h]
theorem ow_0 {p : Nat} (h : W p = 0 ∨ W p = 2 ∨ W p = 4 ∨ W p = 6) : owB W tk p = 0 := by
  unfold owB
  rw [if_neg (by rcases h with q | q | q | q <;> rw [q] <;> decide), if_neg (by rcases h with q | q | q | q <;> rw [q] <;> decide)]
theorem ow_v {p v : Nat} (h : W p = 1 ∨ W p = 3) (hv : W (p + 1) = nI v) (hl : v < 2147483648) : owB W tk p = 1 * 2 ^ v := by
  unfold owB
  rw [if_pos h, hv, show (nI v).toNatClampNeg = v from nI_clamp hl]
theorem ow_5 {p : Nat} (h : W p = 5) : owB W tk p = nbV W p (tk (W (p + 1)).toNatClampNeg) := by unfold owB; rw [if_neg (by rw [h]; decide), if_pos h]
theorem wh_bd {p kn : Nat} (h : W p < 0 ∨ 6 < W p) : wh W tk nf cnt p kn = some p := by unfold wh; rw [if_pos h]
theorem wh_0 {p kn : Nat} (h : W p = 0 ∨ W p = 2 ∨ W p = 6) : wh W tk nf cnt p kn = none := by
  unfold wh; rw [if_neg (by rcases h with q | q | q <;> rw [q] <;> decide), if_pos h]
theorem wh_4b {p kn : Nat} (h : W p = 4) (hb : p + 1 = cnt ∨ W (p + 1) < 0 ∨ 1000 < W (p + 1)) : wh W tk nf cnt p kn = some (p + 1) := by
  unfold wh; rw [if_neg (by rw [h]; decide), if_neg (by rw [h]; decide)]
  by_cases q : p + 1 = cnt
  · rw [if_pos q, q]
  · rw [if_neg q, if_pos h, if_pos (hb.resolve_left q)]
theorem wh_4g {p kn : Nat} (h : W p = 4) (hb : ¬ (p + 1 = cnt ∨ W (p + 1) < 0 ∨ 1000 < W (p + 1))) : wh W tk nf cnt p kn = none := by
  unfold wh; rw [if_neg (by rw [h]; decide), if_neg (by rw [h]; decide), if_neg (fun q => hb (Or.inl q)), if_pos h, if_neg (fun q => hb (Or.inr q))]
theorem wh_vb {p kn : Nat} (h : W p = 1 ∨ W p = 3) (hb : p + 1 = cnt ∨ W (p + 1) < 0 ∨ ¬ W (p + 1) < nI kn) : wh W tk nf cnt p kn = some (p + 1) := by
  unfold wh; rw [if_neg (by rcases h with q | q <;> rw [q] <;> decide), if_neg (by rcases h with q | q <;> rw [q] <;> decide)]
  by_cases q : p + 1 = cnt
  · rw [if_pos q, q]
  · rw [if_neg q, if_neg (by rcases h with q | q <;> rw [q] <;> decide), if_pos (by rcases h with q | q <;> rw [q] <;> decide), if_pos (hb.resolve_left q)]
theorem wh_vg {p kn : Nat} (h : W p = 1 ∨ W p = 3) (hb : ¬ (p + 1 = cnt ∨ W (p + 1) < 0 ∨ ¬ W (p + 1) < nI kn)) : wh W tk nf cnt p kn = none := by
  unfold wh; rw [if_neg (by rcases h with q | q <;> rw [q] <;> decide), if_neg (by rcases h with q | q <;> rw [q] <;> decide), if_neg (fun q => hb (Or.inl q)), if_neg (by rcases h with q | q <;> rw [q] <;> decide), if_pos (by rcases h with q | q <;> rw [q] <;> decide), if_neg (fun q => hb (Or.inr q))]
theorem wh_5b {p kn : Nat} (h : W p = 5) (hb : p + 1 = cnt ∨ W (p + 1) < 0 ∨ ¬ W (p + 1) < nI nf) : wh W tk nf cnt p kn = some (p + 1) := by
  unfold wh; rw [if_neg (by rw [h]; decide), if_neg (by rw [h]; decide)]
  by_cases q : p + 1 = cnt
  · rw [if_pos q, q]
  · rw [if_neg q, if_neg (by rw [h]; decide), if_neg (fun w => w h), if_pos]
    rintro ⟨x, y⟩
    rcases hb.resolve_left q with w | w
    · exact absurd w (Int32.not_lt.mpr x)
    · exact w y
theorem wh_5g {p kn : Nat} (h : W p = 5) (hb : ¬ (p + 1 = cnt ∨ W (p + 1) < 0 ∨ ¬ W (p + 1) < nI nf)) : wh W tk nf cnt p kn = whV W cnt kn p (tk (W (p + 1)).toNatClampNeg) := by
  unfold wh; rw [if_neg (by rw [h]; decide), if_neg (by rw [h]; decide), if_neg (fun q => hb (Or.inl q)), if_neg (by rw [h]; decide), if_neg (fun w => w h), if_neg]
  exact fun w => w ⟨Int32.not_lt.mp (fun q => hb (Or.inr (Or.inl q))), Classical.byContradiction (fun q => hb (Or.inr (Or.inr q)))⟩
/-- a node's tables and the ends of its words agree -/
theorem nt_end {E sta fir sec kno nam : Nat → Nat} (hnf : nf ≤ 4) : ∀ {fu kn p q q' x y : Nat}, wf W tk nf E fu kn p q → ntT W tk sta fir sec kno nam fu kn p q' x y → q' = q
  | 0, _, _, _, _, _, _, h, _ => h.elim
  | fu + 1, kn, p, q, q', x, y, h, t => by
    obtain ⟨-, h⟩ := h
    obtain ⟨-, -, t⟩ := t
    rcases h with h | h | h | h | h | h | h
    · rcases t with t | t | t
      · rw [t.2.1, h.2, hd_1 (Or.inl h.1)]
      · rw [h.1] at t; exact absurd t.1 (by decide)
      · rw [h.1] at t; exact absurd t.1 (by decide)
    · rcases t with t | t | t
      · rw [t.2.1, h.2.2, hd_2 (Or.inl h.1)]
      · rw [h.1] at t; exact absurd t.1 (by decide)
      · rw [h.1] at t; exact absurd t.1 (by decide)
    · rcases t with t | t | t
      · rw [h.1] at t; exact absurd t.1 (by decide)
      · have t1 := t.2.2.1
        rw [hd_1 (Or.inr (Or.inl h.1))] at t1
        exact nt_end hnf h.2 t1
      · rw [h.1] at t; exact absurd t.1 (by decide)
    · obtain ⟨a, -, m, h1, h2⟩ := h
      rcases t with t | t | t
      · rw [a] at t; exact absurd t.1 (by decide)
      · rw [a] at t; exact absurd t.1 (by decide)
      · obtain ⟨-, -, m', z, -, t1, t2, -⟩ := t
        rw [hd_2 (Or.inr (Or.inl a))] at t1
        have e := nt_end hnf h1 t1
        subst e
        exact nt_end hnf h2 t2
    · rcases t with t | t | t
      · rw [h.1] at t; exact absurd t.1 (by decide)
      · have t1 := t.2.2.1
        rw [hd_2 (Or.inr (Or.inr h.1))] at t1
        exact nt_end hnf h.2.2 t1
      · rw [h.1] at t; exact absurd t.1 (by decide)
    · obtain ⟨a, g, b1, b2, b3, -⟩ := h
      rcases t with t | t | t
      · rw [t.2.1, b3, hd_5 a, b1, show (nI g).toNatClampNeg = g from nI_clamp (by omega)]
        omega
      · rw [a] at t; exact absurd t.1 (by decide)
      · rw [a] at t; exact absurd t.1 (by decide)
    · obtain ⟨a, m, h1, h2⟩ := h
      rcases t with t | t | t
      · rw [a] at t; exact absurd t.1 (by decide)
      · rw [a] at t; exact absurd t.1 (by decide)
      · obtain ⟨-, -, m', z, -, t1, t2, -⟩ := t
        rw [hd_1 (Or.inr (Or.inr a))] at t1
        have e := nt_end hnf h1 t1
        subst e
        exact nt_end hnf h2 t2
/-- the part of a node with one -/
theorem nt_one {sta fir sec kno nam : Nat → Nat} {fu kn p q x y : Nat} (hk : W p = 2 ∨ W p = 4) (t : ntT W tk sta fir sec kno nam (fu + 1) kn p q x y) : fir x = x + 1 ∧ ntT W tk sta fir sec kno nam fu kn (p + hdN W tk p) q (x + 1) y := by
  obtain ⟨-, -, t⟩ := t
  rcases t with t | t | t
  · rcases hk with q | q <;> rw [q] at t <;> exact absurd t.1 (by decide)
  · exact ⟨t.2.1, t.2.2.1⟩
  · rcases hk with q | q <;> rw [q] at t <;> exact absurd t.1 (by decide)
/-- the parts of a node with two -/
theorem nt_two {E sta fir sec kno nam : Nat → Nat} {fu kn p q x y : Nat} (hnf : nf ≤ 4) (hk : W p = 3 ∨ W p = 6) (h : wf W tk nf E fu kn (p + hdN W tk p) (E (p + hdN W tk p))) (t : ntT W tk sta fir sec kno nam (fu + 1) kn p q x y) : fir x = x + 1 ∧ ntT W tk sta fir sec kno nam fu kn (p + hdN W tk p) (E (p + hdN W tk p)) (x + 1) (sec x) ∧ ntT W tk sta fir sec kno nam fu (kn + 1) (E (p + hdN W tk p)) q (sec x) y := by
  obtain ⟨-, -, t⟩ := t
  rcases t with t | t | t
  · rcases hk with q | q <;> rw [q] at t <;> exact absurd t.1 (by decide)
  · rcases hk with q | q <;> rw [q] at t <;> exact absurd t.1 (by decide)
  · obtain ⟨-, f, m, z, hz, t1, t2, -⟩ := t
    have e := nt_end hnf h t1
    subst e
    subst hz
    exact ⟨f, t1, t2⟩
end TREE
