/-! bodies: what their words say, and the reading of them -/
/-- the words from p to q are one expression, at most fu deep, with kn variables; E p is where the expression that begins at p ends -/
def wf (W : Nat → Int32) (tk : Nat → Nat) (nf : Nat) (E : Nat → Nat) : Nat → Nat → Nat → Nat → Prop
  | 0, _, _, _ => False
  | fu + 1, kn, p, q => E p = q ∧ ((W p = 0 ∧ q = p + 1) ∨ (W p = 1 ∧ (∃ v, W (p + 1) = nI v ∧ v < kn) ∧ q = p + 2) ∨ (W p = 2 ∧ wf W tk nf E fu kn (p + 1) q)
    ∨ (W p = 3 ∧ (∃ v, W (p + 1) = nI v ∧ v < kn) ∧ ∃ m, wf W tk nf E fu kn (p + 2) m ∧ wf W tk nf E fu (kn + 1) m q) ∨ (W p = 4 ∧ (∃ n, W (p + 1) = nI n ∧ n ≤ 1000) ∧ wf W tk nf E fu kn (p + 2) q)
    ∨ (W p = 5 ∧ (∃ g, W (p + 1) = nI g ∧ g < nf ∧ q = p + 2 + tk g ∧ ∀ k, k < tk g → ∃ v, W (p + 2 + k) = nI v ∧ v < kn)) ∨ (W p = 6 ∧ ∃ m, wf W tk nf E fu kn (p + 1) m ∧ wf W tk nf E fu (kn + 1) m q))
/-- how many nodes there are from p on -/
def nd (W : Nat → Int32) (E : Nat → Nat) : Nat → Nat → Nat
  | 0, _ => 0
  | fu + 1, p => if W p = 2 then nd W E fu (p + 1) + 1 else if W p = 4 then nd W E fu (p + 2) + 1 else if W p = 3 then nd W E fu (p + 2) + nd W E fu (E (p + 2)) + 1 else if W p = 6 then nd W E fu (p + 1) + nd W E fu (E (p + 1)) + 1 else 1
/-- the first word of a call's lists that can't stand there -/
def whV (W : Nat → Int32) (cnt kn p : Nat) : Nat → Option Nat
  | 0 => none
  | k + 1 => match whV W cnt kn p k with
    | some b => some b
    | none => if p + 2 + k = cnt then some cnt else if W (p + 2 + k) < 0 ∨ ¬ W (p + 2 + k) < nI kn then some (p + 2 + k) else none
/-- what is wrong with the words of a node itself -/
def wh (W : Nat → Int32) (tk : Nat → Nat) (nf cnt p kn : Nat) : Option Nat :=
  if W p < 0 ∨ 6 < W p then some p
  else if W p = 0 ∨ W p = 2 ∨ W p = 6 then none
  else if p + 1 = cnt then some cnt
  else if W p = 4 then (if W (p + 1) < 0 ∨ 1000 < W (p + 1) then some (p + 1) else none)
  else if W p ≠ 5 then (if W (p + 1) < 0 ∨ ¬ W (p + 1) < nI kn then some (p + 1) else none)
  else if ¬ (0 ≤ W (p + 1) ∧ W (p + 1) < nI nf) then some (p + 1)
  else whV W cnt kn p (tk (W (p + 1)).toNatClampNeg)
/-- how many words a node has of its own, and how many parts -/
def hdN (W : Nat → Int32) (tk : Nat → Nat) (p : Nat) : Nat := if W p = 0 ∨ W p = 2 ∨ W p = 6 then 1 else if W p = 5 then 2 + tk (W (p + 1)).toNatClampNeg else 2
def ptN (o : Int32) : Nat := if o = 3 ∨ o = 6 then 2 else if o = 2 ∨ o = 4 then 1 else 0
/-- nodes that wait for parts, the innermost first: where each begins, how many parts it has got, what is known -/
abbrev Stk := List (Nat × Nat × Nat)
def clo (W : Nat → Int32) (at9 : Nat) : Nat → Stk → (Nat → Nat) → Stk × (Nat → Nat)
  | _, [], E => ([], E)
  | inc, (a, p, kn) :: st, E => if p + inc = ptN (W a) then clo W at9 1 st (va_up E a at9) else ((a, p + inc, kn) :: st, E)
def kbN (W : Nat → Int32) : Stk → Nat
  | [] => 0
  | (a, p, kn) :: _ => kn + (if (W a = 3 ∨ W a = 6) ∧ p = 1 then 1 else 0)
/-- what holds of every turn of the reading: where it stops, ends or goes on -/
def WLc (W : Nat → Int32) (tk : Nat → Nat) (nf cnt : Nat) (P : Nat → Nat → Nat → Stk → (Nat → Nat) → Option Nat → (Nat → Nat) → Prop) : Prop :=
  (∀ at9 nodes kn st E, at9 ≤ cnt → (at9 = cnt ∨ nodes = 40 ∨ st.length = 16) → P at9 nodes kn st E (some at9) E)
  ∧ (∀ at9 nodes kn st E b, at9 < cnt → nodes < 40 → st.length < 16 → wh W tk nf cnt at9 kn = some b → P at9 nodes kn st E (some b) E)
  ∧ (∀ at9 nodes kn st E E', at9 < cnt → nodes < 40 → st.length < 16 → wh W tk nf cnt at9 kn = none → clo W (at9 + hdN W tk at9) 0 ((at9, 0, kn) :: st) E = ([], E') → P at9 nodes kn st E (if at9 + hdN W tk at9 = cnt then none else some (at9 + hdN W tk at9)) E')
  ∧ (∀ at9 nodes kn st st' E E' E'' r, at9 < cnt → nodes < 40 → st.length < 16 → wh W tk nf cnt at9 kn = none → clo W (at9 + hdN W tk at9) 0 ((at9, 0, kn) :: st) E = (st', E') → st' ≠ [] → P (at9 + hdN W tk at9) (nodes + 1) (kbN W st') st' E' r E'' → P at9 nodes kn st E r E'')
/-- the reading, turn by turn: none: all words are read; some b: the place b is wrong -/
def WL (W : Nat → Int32) (tk : Nat → Nat) (nf cnt : Nat) (at9 nodes kn : Nat) (st : Stk) (E : Nat → Nat) (r : Option Nat) (E' : Nat → Nat) : Prop := ∀ P, WLc W tk nf cnt P → P at9 nodes kn st E r E'
/-- the reading as a function -/
abbrev PR := Sum Nat (Nat × Nat × (Nat → Nat))
def prs (W : Nat → Int32) (tk : Nat → Nat) (nf cnt : Nat) : Nat → Nat → Nat → Nat → (Nat → Nat) → PR
  | 0, _, at9, _, _ => .inl at9
  | fu + 1, kn, at9, nodes, E =>
    if at9 = cnt ∨ nodes = 40 then .inl at9
    else match wh W tk nf cnt at9 kn with
    | some b => .inl b
    | none =>
      if W at9 = 0 ∨ W at9 = 1 ∨ W at9 = 5 then .inr (at9 + hdN W tk at9, nodes + 1, va_up E at9 (at9 + hdN W tk at9))
      else match prs W tk nf cnt fu kn (at9 + hdN W tk at9) (nodes + 1) E with
      | .inl b => .inl b
      | .inr (a2, n2, E2) =>
        if W at9 = 2 ∨ W at9 = 4 then .inr (a2, n2, va_up E2 at9 a2)
        else match prs W tk nf cnt fu (kn + 1) a2 n2 E2 with
        | .inl b => .inl b
        | .inr (a3, n3, E3) => .inr (a3, n3, va_up E3 at9 a3)
section WLR
variable {W : Nat → Int32} {tk : Nat → Nat} {nf cnt : Nat} {at9 nodes kn : Nat} {st st' : Stk} {E E' E'' : Nat → Nat} {r : Option Nat} {b : Nat}
theorem WL_stop (h0 : at9 ≤ cnt) (h : at9 = cnt ∨ nodes = 40 ∨ st.length = 16) : WL W tk nf cnt at9 nodes kn st E (some at9) E := fun _ hP => hP.1 _ _ _ _ _ h0 h
theorem WL_head (h1 : at9 < cnt) (h2 : nodes < 40) (h3 : st.length < 16) (h4 : wh W tk nf cnt at9 kn = some b) : WL W tk nf cnt at9 nodes kn st E (some b) E := fun _ hP => hP.2.1 _ _ _ _ _ _ h1 h2 h3 h4
theorem WL_fin (h1 : at9 < cnt) (h2 : nodes < 40) (h3 : st.length < 16) (h4 : wh W tk nf cnt at9 kn = none) (h5 : clo W (at9 + hdN W tk at9) 0 ((at9, 0, kn) :: st) E = ([], E')) : WL W tk nf cnt at9 nodes kn st E (if at9 + hdN W tk at9 = cnt then none else some (at9 + hdN W tk at9)) E' := fun _ hP => hP.2.2.1 _ _ _ _ _ _ h1 h2 h3 h4 h5
theorem WL_go (h1 : at9 < cnt) (h2 : nodes < 40) (h3 : st.length < 16) (h4 : wh W tk nf cnt at9 kn = none) (h5 : clo W (at9 + hdN W tk at9) 0 ((at9, 0, kn) :: st) E = (st', E')) (h6 : st' ≠ []) (h7 : WL W tk nf cnt (at9 + hdN W tk at9) (nodes + 1) (kbN W st') st' E' r E'') : WL W tk nf cnt at9 nodes kn st E r E'' := fun P hP => hP.2.2.2 _ _ _ _ _ _ _ _ _ h1 h2 h3 h4 h5 h6 (h7 P hP)
end WLR
