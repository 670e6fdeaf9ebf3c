/-! bodies: trees, what their words say, and the reading of them -/
inductive Ex where
  | emp : Ex
  | var : Nat → Ex
  | more : Ex → Ex
  | whn : Nat → Ex → Ex → Ex
  | pay : Nat → Ex → Ex
  | cal : Nat → (Nat → Nat) → Ex
  | thn : Ex → Ex → Ex
namespace Ex
def nodes : Ex → Nat
  | emp => 1
  | var _ => 1
  | more e => nodes e + 1
  | whn _ e f => nodes e + nodes f + 1
  | pay _ e => nodes e + 1
  | cal _ _ => 1
  | thn e f => nodes e + nodes f + 1
def deep : Ex → Nat
  | emp => 1
  | var _ => 1
  | more e => deep e + 1
  | whn _ e f => max (deep e) (deep f) + 1
  | pay _ e => deep e + 1
  | cal _ _ => 1
  | thn e f => max (deep e) (deep f) + 1
end Ex
/-- the words from p to q are a tree; E p is where the tree that begins at p ends -/
def enc (W : Nat → Int32) (tk : Nat → Nat) (nf : Nat) (E : Nat → Nat) : Ex → Nat → Nat → Nat → Prop
  | .emp, kn, p, q => W p = 0 ∧ q = p + 1 ∧ E p = q
  | .var v, kn, p, q => W p = 1 ∧ W (p + 1) = nI v ∧ v < kn ∧ q = p + 2 ∧ E p = q
  | .more e, kn, p, q => W p = 2 ∧ enc W tk nf E e kn (p + 1) q ∧ E p = q
  | .whn v e f, kn, p, q => W p = 3 ∧ W (p + 1) = nI v ∧ v < kn ∧ (∃ m, enc W tk nf E e kn (p + 2) m ∧ enc W tk nf E f (kn + 1) m q) ∧ E p = q
  | .pay n e, kn, p, q => W p = 4 ∧ W (p + 1) = nI n ∧ n ≤ 1000 ∧ enc W tk nf E e kn (p + 2) q ∧ E p = q
  | .cal g vs, kn, p, q => W p = 5 ∧ W (p + 1) = nI g ∧ g < nf ∧ (∀ k, k < tk g → W (p + 2 + k) = nI (vs k) ∧ vs k < kn) ∧ q = p + 2 + tk g ∧ E p = q
  | .thn e f, kn, p, q => W p = 6 ∧ (∃ m, enc W tk nf E e kn (p + 1) m ∧ enc W tk nf E f (kn + 1) m q) ∧ E p = q
/-- the first word of a call's lists that can't stand there -/
def whV (W : Nat → Int32) (cnt kn p : Nat) : Nat → Option Nat
  | 0 => none
  | k + 1 => match whV W cnt kn p k with
    | some b => some b
    | none => if p + 2 + k = cnt then some cnt else if W (p + 2 + k) < 0 ∨ ¬ W (p + 2 + k) < nI kn then some (p + 2 + k) else none
/-- what is wrong with the words of a node itself -/
def wh (W : Nat → Int32) (tk : Nat → Nat) (nf cnt p kn : Nat) : Option Nat :=
  if W p < 0 ∨ 6 < W p then some p
  else if W p = 0 ∨ W p = 2 ∨ W p = 6 then none
  else if p + 1 = cnt then some cnt
  else if W p = 4 then (if W (p + 1) < 0 ∨ 1000 < W (p + 1) then some (p + 1) else none)
  else if W p ≠ 5 then (if W (p + 1) < 0 ∨ ¬ W (p + 1) < nI kn then some (p + 1) else none)
  else if ¬ (0 ≤ W (p + 1) ∧ W (p + 1) < nI nf) then some (p + 1)
  else whV W cnt kn p (tk (W (p + 1)).toNatClampNeg)
/-- how many words a node has of its own, and how many parts -/
def hdN (W : Nat → Int32) (tk : Nat → Nat) (p : Nat) : Nat := if W p = 0 ∨ W p = 2 ∨ W p = 6 then 1 else if W p = 5 then 2 + tk (W (p + 1)).toNatClampNeg else 2
def ptN (o : Int32) : Nat := if o = 3 ∨ o = 6 then 2 else if o = 2 ∨ o = 4 then 1 else 0
/-- nodes that wait for parts, the innermost first: where each begins, how many parts it has got, what is known -/
abbrev Stk := List (Nat × Nat × Nat)
def clo (W : Nat → Int32) (at9 : Nat) : Nat → Stk → (Nat → Nat) → Stk × (Nat → Nat)
  | _, [], E => ([], E)
  | inc, (a, p, kn) :: st, E => if p + inc = ptN (W a) then clo W at9 1 st (va_up E a at9) else ((a, p + inc, kn) :: st, E)
def kbN (W : Nat → Int32) : Stk → Nat
  | [] => 0
  | (a, p, kn) :: _ => kn + (if (W a = 3 ∨ W a = 6) ∧ p = 1 then 1 else 0)
section WL
variable (W : Nat → Int32) (tk : Nat → Nat) (nf cnt : Nat)
/-- the reading, turn by turn: none: all words are read; some b: the place b is wrong -/
inductive WL : Nat → Nat → Nat → Stk → (Nat → Nat) → Option Nat → (Nat → Nat) → Prop
  | stop {at9 nodes kn : Nat} {st : Stk} {E : Nat → Nat} : (at9 = cnt ∨ nodes = 40 ∨ st.length = 16) → WL at9 nodes kn st E (some at9) E
  | head {at9 nodes kn : Nat} {st : Stk} {E : Nat → Nat} {b : Nat} : at9 < cnt → nodes < 40 → st.length < 16 → wh W tk nf cnt at9 kn = some b → WL at9 nodes kn st E (some b) E
  | fin {at9 nodes kn : Nat} {st : Stk} {E E' : Nat → Nat} : at9 < cnt → nodes < 40 → st.length < 16 → wh W tk nf cnt at9 kn = none → clo W (at9 + hdN W tk at9) 0 ((at9, 0, kn) :: st) E = ([], E') → WL at9 nodes kn st E (if at9 + hdN W tk at9 = cnt then none else some (at9 + hdN W tk at9)) E'
  | go {at9 nodes kn : Nat} {st st' : Stk} {E E' E'' : Nat → Nat} {r : Option Nat} : at9 < cnt → nodes < 40 → st.length < 16 → wh W tk nf cnt at9 kn = none → clo W (at9 + hdN W tk at9) 0 ((at9, 0, kn) :: st) E = (st', E') → st' ≠ [] → WL (at9 + hdN W tk at9) (nodes + 1) (kbN W st') st' E' r E'' → WL at9 nodes kn st E r E''
/-- the reading as a function -/
inductive PR where
  | bad : Nat → PR
  | ok : Ex → Nat → Nat → (Nat → Nat) → PR
def prs : Nat → Nat → Nat → Nat → (Nat → Nat) → PR
  | 0, _, at9, _, _ => .bad at9
  | fu + 1, kn, at9, nodes, E =>
    if at9 = cnt ∨ nodes = 40 then .bad at9
    else match wh W tk nf cnt at9 kn with
    | some b => .bad b
    | none =>
      let a1 := at9 + hdN W tk at9
      if W at9 = 0 then .ok .emp a1 (nodes + 1) (va_up E at9 a1)
      else if W at9 = 1 then .ok (.var (W (at9 + 1)).toNatClampNeg) a1 (nodes + 1) (va_up E at9 a1)
      else if W at9 = 5 then .ok (.cal (W (at9 + 1)).toNatClampNeg (fun k => (W (at9 + 2 + k)).toNatClampNeg)) a1 (nodes + 1) (va_up E at9 a1)
      else match prs fu kn a1 (nodes + 1) E with
      | .bad b => .bad b
      | .ok e a2 n2 E2 =>
        if W at9 = 2 then .ok (.more e) a2 n2 (va_up E2 at9 a2)
        else if W at9 = 4 then .ok (.pay (W (at9 + 1)).toNatClampNeg e) a2 n2 (va_up E2 at9 a2)
        else match prs fu (kn + 1) a2 n2 E2 with
        | .bad b => .bad b
        | .ok f a3 n3 E3 => .ok (if W at9 = 3 then .whn (W (at9 + 1)).toNatClampNeg e f else .thn e f) a3 n3 (va_up E3 at9 a3)
end WL
