/-! the nodes of a body in a row; which variables are named -/
namespace Ex
/-- whether variable v is named within -/
def names (tk : Nat → Nat) (v : Nat) : Ex → Bool
  | emp => false
  | var w => w == v
  | more e => names tk v e
  | whn w e f => w == v || (names tk v e || names tk v f)
  | pay _ e => names tk v e
  | cal g vs => (List.range (tk g)).any (fun k => vs k == v)
  | thn e f => names tk v e || names tk v f
end Ex
section ROW
variable {W : Nat → Int32} {tk : Nat → Nat} {nf : Nat} {E : Nat → Nat}
/-- trees in a row from p to q -/
def encL (W : Nat → Int32) (tk : Nat → Nat) (nf : Nat) (E : Nat → Nat) : List Ex → Nat → Nat → Prop
  | [], p, q => p = q
  | e :: es, p, q => ∃ m kn, kn + e.deep ≤ 2000 ∧ enc W tk nf E e kn p m ∧ encL W tk nf E es m q
def kids : Ex → List Ex
  | .emp => []
  | .var _ => []
  | .more e => [e]
  | .whn _ e f => [e, f]
  | .pay _ e => [e]
  | .cal _ _ => []
  | .thn e f => [e, f]
/-- what a node itself names -/
def nam1 (tk : Nat → Nat) (v : Nat) : Ex → Bool
  | .var w => w == v
  | .whn w _ _ => w == v
  | .cal g vs => (List.range (tk g)).any (fun k => vs k == v)
  | _ => false
def namL (tk : Nat → Nat) (v : Nat) (es : List Ex) : Bool := es.any (Ex.names tk v)
theorem namL_kids (v : Nat) (e : Ex) (es : List Ex) : namL tk v (e :: es) = (nam1 tk v e || namL tk v (kids e ++ es)) := by
  cases e <;> simp [namL, Ex.names, nam1, kids, List.any_append, Bool.or_assoc]
theorem encL_lt : ∀ {es : List Ex} {p q : Nat}, encL W tk nf E es p q → p ≤ q ∧ (es ≠ [] → p < q)
  | [], p, q, h => by have h : p = q := h; exact ⟨by omega, fun x => absurd rfl x⟩
  | e :: es, p, q, ⟨m, kn, _, h1, h2⟩ => by
    have a := enc_lt e kn p m h1
    have b := (encL_lt h2).1
    exact ⟨by omega, fun _ => by omega⟩
/-- a node's own words, and what comes behind them -/
theorem encL_kids (hnf : nf ≤ 4) {e : Ex} {es : List Ex} {p q : Nat} (h : encL W tk nf E (e :: es) p q) : encL W tk nf E (kids e ++ es) (p + hdN W tk p) q := by
  obtain ⟨m, kn, hk, h1, h2⟩ := h
  cases e with
  | emp =>
    obtain ⟨a, b, -⟩ := h1
    have hd : hdN W tk p = 1 := by unfold hdN; rw [if_pos (Or.inl a)]
    rw [hd, ← b]; exact h2
  | var v =>
    obtain ⟨a, -, -, b, -⟩ := h1
    have hd : hdN W tk p = 2 := by unfold hdN; rw [if_neg (by rw [a]; decide), if_neg (by rw [a]; decide)]
    rw [hd, ← b]; exact h2
  | more e =>
    obtain ⟨a, b, -⟩ := h1
    have hd : hdN W tk p = 1 := by unfold hdN; rw [if_pos (Or.inr (Or.inl a))]
    have hk : kn + (e.deep + 1) ≤ 2000 := hk
    rw [hd]; exact ⟨m, kn, by omega, b, h2⟩
  | whn v e f =>
    obtain ⟨a, -, hv, ⟨m1, b1, b2⟩, -⟩ := h1
    have hd : hdN W tk p = 2 := by unfold hdN; rw [if_neg (by rw [a]; decide), if_neg (by rw [a]; decide)]
    rw [hd]
    have hk : kn + (max e.deep f.deep + 1) ≤ 2000 := hk
    exact ⟨m1, kn, by omega, b1, m, kn + 1, by omega, b2, h2⟩
  | pay n e =>
    obtain ⟨a, -, -, b, -⟩ := h1
    have hd : hdN W tk p = 2 := by unfold hdN; rw [if_neg (by rw [a]; decide), if_neg (by rw [a]; decide)]
    have hk : kn + (e.deep + 1) ≤ 2000 := hk
    rw [hd]; exact ⟨m, kn, by omega, b, h2⟩
  | cal g vs =>
    obtain ⟨a, c, hg, -, b, -⟩ := h1
    have hd : hdN W tk p = 2 + tk g := by
      unfold hdN; rw [if_neg (by rw [a]; decide), if_pos a, c]
      rw [show (nI g).toNatClampNeg = g from nI_clamp (by omega)]
    rw [hd, ← Nat.add_assoc, ← b]; exact h2
  | thn e f =>
    obtain ⟨a, ⟨m1, b1, b2⟩, -⟩ := h1
    have hd : hdN W tk p = 1 := by unfold hdN; rw [if_pos (Or.inr (Or.inr a))]
    rw [hd]
    have hk : kn + (max e.deep f.deep + 1) ≤ 2000 := hk
    exact ⟨m1, kn, by omega, b1, m, kn + 1, by omega, b2, h2⟩
end ROW
