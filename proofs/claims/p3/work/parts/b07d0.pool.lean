/-! all whole numbers of the class as one pool: table cells 0 .. 3730, then under, pivot, left, right, rest; the parts 0 .. 3, under, sum, factor, product, rest of the best bounds -/
abbrev wQ : Type := Nat × Nat × Nat × Int32 × Int32 × (Nat → Nat)
def twQ (k : Nat → ClassId) (q : wQ) : va_W := [(q.1, .inr (2, [.ref q.2.1, .int q.2.2.2.1, .int q.2.2.2.2.1])), (q.2.1, .inl (k 0, q.2.2.1, .inl (fun i => nI (q.2.2.2.2.2 i))))]
def tpl (k : Nat → ClassId) (st : Nat → Option wQ) : Nat → va_W
  | 0 => []
  | n + 1 => tpl k st n ++ (match st n with | none => [] | some q => twQ k q)
theorem tpl_congr {k : Nat → ClassId} {st st' : Nat → Option wQ} : ∀ n, (∀ i, i < n → st i = st' i) → tpl k st n = tpl k st' n
  | 0, _ => rfl
  | n + 1, h => by rw [tpl, tpl, tpl_congr n (fun i hi => h i (by omega)), h n (by omega)]
theorem tpl_out {k : Nat → ClassId} {st : Nat → Option wQ} {i : Nat} {q : wQ} (hq : st i = some q) : ∀ n, i < n → (tpl k st n).Perm (twQ k q ++ tpl k (va_up st i none) n)
  | 0, h => absurd h (Nat.not_lt_zero _)
  | n + 1, h => by
    rw [tpl, tpl]
    by_cases e : i = n
    · subst e
      rw [hq, va_up_self, tpl_congr (st' := va_up st i none) i (fun j hj => by rw [va_up_ne _ _ (by omega)])]
      show (_ ++ twQ k q).Perm (twQ k q ++ (_ ++ []))
      rw [List.append_nil]
      exact List.perm_append_comm
    · rw [va_up_ne _ _ (show n ≠ i by omega)]
      rw [← List.append_assoc]
      exact (tpl_out hq n (by omega)).append_right _
theorem up_up {α : Type} (f : Nat → α) (i : Nat) (a b : α) : va_up (va_up f i a) i b = va_up f i b := by
  funext j
  by_cases q : j = i
  · subst q; rw [va_up_self, va_up_self]
  · rw [va_up_ne _ _ q, va_up_ne _ _ q, va_up_ne _ _ q]
theorem up_id {α : Type} (f : Nat → α) (i : Nat) {a : α} (h : f i = a) : va_up f i a = f := by
  funext j
  by_cases q : j = i
  · subst q; rw [va_up_self, h]
  · rw [va_up_ne _ _ q]
theorem up_comm {α : Type} (f : Nat → α) {i j : Nat} (h : i ≠ j) (a b : α) : va_up (va_up f i a) j b = va_up (va_up f j b) i a := by
  funext x
  by_cases q : x = j
  · subst q; rw [va_up_self, va_up_ne _ _ (show x ≠ i by omega), va_up_self]
  · by_cases w : x = i
    · subst w; rw [va_up_ne _ _ q, va_up_self, va_up_self]
    · rw [va_up_ne _ _ q, va_up_ne _ _ w, va_up_ne _ _ w, va_up_ne _ _ q]
theorem tpl_in {k : Nat → ClassId} {st : Nat → Option wQ} {i : Nat} {q : wQ} {n : Nat} (h : i < n) : (twQ k q ++ tpl k (va_up st i none) n).Perm (tpl k (va_up st i (some q)) n) := by
  have := (tpl_out (k := k) (st := va_up st i (some q)) (i := i) (q := q) (va_up_self _ _ _) n h).symm
  rw [up_up] at this
  exact this
theorem tpl_mem {k : Nat → ClassId} {st : Nat → Option wQ} {i n : Nat} {q : wQ} (hq : st i = some q) (h : i < n) : (q.1, (.inr (2, [.ref q.2.1, .int q.2.2.2.1, .int q.2.2.2.2.1]) : va_E)) ∈ tpl k st n :=
  (tpl_out hq n h).mem_iff.mpr (List.mem_append_left _ (by unfold twQ; simp))
/-- how large each may grow; how much they may still grow -/
def Mb (i : Nat) : Nat := if i < 3731 then 98 else 200
theorem Mb_le (i : Nat) : Mb i ≤ 200 := by unfold Mb; split <;> decide
def cpO (o : Option wQ) : Nat := match o with | none => 0 | some q => q.2.2.1
def pt (st : Nat → Option wQ) : Nat → Nat
  | 0 => 0
  | n + 1 => pt st n + (Mb n - cpO (st n))
theorem pt_congr {st st' : Nat → Option wQ} : ∀ n, (∀ i, i < n → cpO (st i) = cpO (st' i)) → pt st n = pt st' n
  | 0, _ => rfl
  | n + 1, h => by rw [pt, pt, pt_congr n (fun i hi => h i (by omega)), h n (by omega)]
theorem pt_up {st : Nat → Option wQ} {i : Nat} {o : Option wQ} (h1 : cpO (st i) ≤ cpO o) (h2 : cpO o ≤ Mb i) : ∀ n, i < n → pt (va_up st i o) n + (cpO o - cpO (st i)) = pt st n
  | 0, h => absurd h (Nat.not_lt_zero _)
  | n + 1, h => by
    rw [pt, pt]
    by_cases e : i = n
    · subst e
      rw [va_up_self, pt_congr (st' := st) i (fun j hj => by rw [va_up_ne _ _ (by omega)])]
      omega
    · rw [va_up_ne _ _ (show n ≠ i by omega)]
      have := pt_up h1 h2 n (by omega)
      omega
/-- addresses stay -/
def keO (st u : Nat → Option wQ) : Prop := ∀ j q, st j = some q → ∃ q', u j = some q' ∧ q'.1 = q.1
def atO (st : Nat → Option wQ) (i a : Nat) : Prop := ∃ q, st i = some q ∧ q.1 = a
theorem keO.at {st u : Nat → Option wQ} (h : keO st u) {i a : Nat} (g : atO st i a) : atO u i a := by
  obtain ⟨q, h1, h2⟩ := g
  obtain ⟨q', h3, h4⟩ := h i q h1
  exact ⟨q', h3, by rw [h4, h2]⟩
theorem keO.rf (st : Nat → Option wQ) : keO st st := fun _ q h => ⟨q, h, rfl⟩
theorem keO.tr {a b c : Nat → Option wQ} (h : keO a b) (g : keO b c) : keO a c := fun j q hq => by
  obtain ⟨q1, h1, h2⟩ := h j q hq
  obtain ⟨q2, h3, h4⟩ := g j q1 h1
  exact ⟨q2, h3, by rw [h4, h2]⟩
theorem ke_up {st : Nat → Option wQ} {i : Nat} {q q' : wQ} (h : st i = some q) (e : q'.1 = q.1) : keO st (va_up st i (some q')) := fun j x hx => by
  by_cases w : j = i
  · subst w
    rw [h] at hx
    obtain rfl := Option.some.inj hx
    exact ⟨q', va_up_self _ _ _, e⟩
  · exact ⟨x, by rw [va_up_ne _ _ w]; exact hx, rfl⟩
def adO (o : Option wQ) : Option Nat := o.map (·.1)
def saO (st u : Nat → Option wQ) : Prop := (fun j => adO (u j)) = fun j => adO (st j)
theorem saO.tr {a b c : Nat → Option wQ} (h : saO a b) (g : saO b c) : saO a c := Eq.trans g h
theorem sa_up {st : Nat → Option wQ} {i : Nat} {q q' : wQ} (h : st i = some q) (e : q'.1 = q.1) : saO st (va_up st i (some q')) := by
  funext j
  by_cases w : j = i
  · subst w
    rw [va_up_self, h]
    show some q'.1 = some q.1
    rw [e]
  · rw [va_up_ne _ _ w]
/-- what they are: Z by index, where V says that it is so -/
def whQ (q : wQ) (z : Int) : Prop := ∃ n, q.2.2.2.1 = nI n ∧ q.2.2.2.2.1 = sgI z ∧ whO q.2.2.1 n q.2.2.2.2.2 z
def raQ (q : wQ) : Prop := raO q.2.2.1 q.2.2.2.2.2
def gO (st : Nat → Option wQ) (Z : Nat → Int) (V : Nat → Prop) : Prop := ∀ i, i < 3745 → (st i = none ∧ i < 3731 ∧ Z i = 0) ∨ ∃ q, st i = some q ∧ q.2.2.1 ≤ Mb i ∧ raQ q ∧ (V i → whQ q (Z i))
theorem gO.get {st : Nat → Option wQ} {Z : Nat → Int} {V : Nat → Prop} (h : gO st Z V) {i : Nat} {q : wQ} (hi : i < 3745) (hq : st i = some q) : q.2.2.1 ≤ Mb i ∧ raQ q ∧ (V i → whQ q (Z i)) := by
  rcases h i hi with ⟨h1, -, -⟩ | ⟨q', h1, h2⟩
  · rw [hq] at h1; cases h1
  · rw [hq] at h1; obtain rfl := Option.some.inj h1; exact h2
theorem gO.up {st : Nat → Option wQ} {Z : Nat → Int} {V : Nat → Prop} (h : gO st Z V) {i : Nat} {q : wQ} {z : Int} {v : Prop} (h1 : q.2.2.1 ≤ Mb i) (h2 : raQ q) (h3 : v → whQ q z) : gO (va_up st i (some q)) (va_up Z i z) (va_up V i v) := by
  intro j hj
  by_cases w : j = i
  · subst w
    rw [va_up_self, va_up_self, va_up_self]
    exact Or.inr ⟨q, rfl, h1, h2, h3⟩
  · rw [va_up_ne _ _ w, va_up_ne _ _ w, va_up_ne _ _ w]
    exact h j hj
theorem gO.weak {st : Nat → Option wQ} {Z Z' : Nat → Int} {V V' : Nat → Prop} (h : gO st Z V) (h1 : ∀ i, i < 3745 → V' i → V i ∧ Z' i = Z i) (h2 : ∀ i, i < 3731 → Z' i = Z i) : gO st Z' V' := by
  intro i hi
  rcases h i hi with ⟨a, b, c⟩ | ⟨q, a, b, c, d⟩
  · exact Or.inl ⟨a, b, by rw [h2 i b]; exact c⟩
  · refine Or.inr ⟨q, a, b, c, fun v => ?_⟩
    obtain ⟨e1, e2⟩ := h1 i hi v
    rw [e2]; exact d e1
/-- a whole number's digits, by its size -/
theorem whQ_n {q : wQ} {z : Int} (h : whQ q z) : ∃ n, q.2.2.2.1 = nI n ∧ q.2.2.2.2.1 = sgI z ∧ whO q.2.2.1 n q.2.2.2.2.2 z := h
def smB (z : Int) : Nat := if z.natAbs < 2147483648 then 1 else 0
theorem sm_n {L n : Nat} {g : Nat → Nat} {z : Int} (h : whO L n g z) : (if n ≤ 1 then 1 else 0) = smB z := by
  unfold smB
  by_cases q : n ≤ 1
  · rw [if_pos q, if_pos (small_abs h q)]
  · rw [if_neg q, if_neg (fun w => q (wh_size (m := 1) h (by rw [Nat.pow_one]; exact w)))]
/-- numbers out of the pool and back -/
theorem tp1 {k : Nat → ClassId} {st : Nat → Option wQ} {n i : Nat} (hi : i < n) (a : wQ) : (twQ k a ++ tpl k (va_up st i none) n).Perm (tpl k (va_up st i (some a)) n) := tpl_in hi
theorem tp2 {k : Nat → ClassId} {st : Nat → Option wQ} {n i x : Nat} (hi : i < n) (hx : x < n) (hix : i ≠ x) (a b : wQ) : (twQ k a ++ (twQ k b ++ tpl k (va_up (va_up st i none) x none) n)).Perm (tpl k (va_up (va_up st x (some b)) i (some a)) n) := by
  refine List.Perm.trans ((tpl_in (k := k) (q := b) (st := va_up st i none) hx).append_left _) ?_
  rw [up_comm st hix]
  exact tp1 hi a
theorem tp3 {k : Nat → ClassId} {st : Nat → Option wQ} {n i x y : Nat} (hi : i < n) (hx : x < n) (hy : y < n) (hix : i ≠ x) (hiy : i ≠ y) (hxy : x ≠ y) (a b c : wQ) : (twQ k a ++ (twQ k b ++ (twQ k c ++ tpl k (va_up (va_up (va_up st i none) x none) y none) n))).Perm (tpl k (va_up (va_up (va_up st y (some c)) x (some b)) i (some a)) n) := by
  refine List.Perm.trans (((tpl_in (k := k) (q := c) (st := va_up (va_up st i none) x none) hy).append_left _).append_left _) ?_
  rw [up_comm _ hxy, up_comm st hiy]
  exact tp2 hi hx hix a b
theorem tp4 {k : Nat → ClassId} {st : Nat → Option wQ} {n i x y w : Nat} (hi : i < n) (hx : x < n) (hy : y < n) (hw : w < n) (hix : i ≠ x) (hiy : i ≠ y) (hiw : i ≠ w) (hxy : x ≠ y) (hxw : x ≠ w) (hyw : y ≠ w) (a b c d : wQ) : (twQ k a ++ (twQ k b ++ (twQ k c ++ (twQ k d ++ tpl k (va_up (va_up (va_up (va_up st i none) x none) y none) w none) n)))).Perm (tpl k (va_up (va_up (va_up (va_up st w (some d)) y (some c)) x (some b)) i (some a)) n) := by
  refine List.Perm.trans ((((tpl_in (k := k) (q := d) (st := va_up (va_up (va_up st i none) x none) y none) hw).append_left _).append_left _).append_left _) ?_
  rw [up_comm _ hyw, up_comm _ hxw, up_comm st hiw]
  exact tp3 hi hx hy hix hiy hxy a b c
theorem at_mem {k : Nat → ClassId} {X : va_W} {st : Nat → Option wQ} {i a n : Nat} (h : atO st i a) (hi : i < n) : ∃ fs, (a, (.inr (2, fs) : va_E)) ∈ X ++ tpl k st n := by
  obtain ⟨q, h1, rfl⟩ := h
  exact ⟨_, List.mem_append_right _ (tpl_mem h1 hi)⟩
theorem at_mem2 {k : Nat → ClassId} {X Y : va_W} {st : Nat → Option wQ} {i a n : Nat} (h : atO st i a) (hi : i < n) : ∃ fs, (a, (.inr (2, fs) : va_E)) ∈ X ++ (tpl k st n ++ Y) := by
  obtain ⟨q, h1, rfl⟩ := h
  exact ⟨_, List.mem_append_right _ (List.mem_append_left _ (tpl_mem h1 hi))⟩
section TN
variable {G : va_G} {A : Nat → Prop} {H0 H : Heap} {locs : List Loc} {k : Nat → ClassId}
/-- a new number goes into the pool -/
theorem Sw.tnew {X : va_W} {st : Nat → Option wQ} {t n : Nat} {q : wQ} (S : Sw G A H0 H locs ((X ++ twQ k q) ++ tpl k st n)) (h : st t = none) (ht : t < n) : Sw G A H0 H locs (X ++ tpl k (va_up st t (some q)) n) := by
  refine S.perm ?_
  rw [List.append_assoc]
  refine List.Perm.append_left X ?_
  have := tpl_in (k := k) (st := st) (q := q) ht
  rw [up_id st t h] at this
  exact this
end TN
section CGA
variable {l : Launch} {y : MethodName} {cc : ByteArray} {n : Nat} {ret : Option FieldType} {rm : Room} {as : List Value} {G : va_G} {k : Nat → ClassId} {sz sl : Nat} {mc ms : Nat}
theorem cg_as {S : Type} {rv : S → Option Value} {post : S → Prop} {wi t : va_W} {wo tu : S → va_W} {cu nu : S → Nat} (wf : va_W) (h : CG l y cc n ret rm as G k sz sl (wi ++ t) rv post (fun u => wo u ++ tu u) cu nu mc ms) : CG l y cc n ret rm as G k sz sl (wi ++ (t ++ wf)) rv post (fun u => wo u ++ (tu u ++ wf)) cu nu mc ms := by
  have f := cg_frame wf h
  rw [List.append_assoc] at f
  exact cg_imp f (fun u hu => ⟨u, hu, rfl, by rw [List.append_assoc], Nat.le_refl _, Nat.le_refl _⟩)
end CGA
section RN
variable {p : Program} {l : Launch} {e : Env} {R : Room} {s : State} {m : MethodId} {args : Array Value} {below : List Frame} {meth : Method} {c : Code} {H : Heap} {locs : List Loc} {cells slots : Nat} {Q : State → Prop}
variable {cc : ByteArray} {own nm : String} {nL : Nat} {ret : Option FieldType} {G : va_G} {k : Nat → ClassId} {A : Nat → Prop} {ws : va_W} {pc : Nat} {ls : Array Slot} {rest : List Value} {a : Nat}
theorem r_aald0 (C : Cx p s m args meth c cc own nL ret nm) (K : Kn G k s) (S : Sw G A s.heap H locs ws) (q0 t0 : Nat) {cA : ClassId} {N : String} {n : Nat} {f : Nat → Option Nat} (ha : ws[q0]? = some (a, .inl (cA, n, .inr (.inr (.inr (.inr f)))))) (ht : (tyl k)[t0]? = some (cA, .object N)) {i : Int32} (hin : vp_in i n) (hv : f i.toNatClampNeg = none) (hdg : decode cc pc = .ok (.aaload, 1))
    (kk : W p l e R s m args below meth c H locs cells slots Q (F0 m (pc + 1) ls (.null :: rest))) : W p l e R s m args below meth c H locs cells slots Q (F0 m pc ls (.int i :: .ref a :: rest)) :=
  va_aldq C.1 C.2.1 K.1 S.1 q0 t0 ha ht hin hdg (by rw [hv]; exact kk)
end RN
theorem b50 {z : Int} (h : z.natAbs < 2147483648 ^ 49) : z.natAbs < 2147483648 ^ 50 := Nat.lt_trans h (by decide +kernel)
theorem b98 {x y : Int} (hx : x.natAbs < 2147483648 ^ 49) (hy : y.natAbs < 2147483648 ^ 49) : (x * y).natAbs < 2147483648 ^ 98 := by
  rw [Int.natAbs_mul]
  have h1 := Nat.mul_lt_mul'' hx hy
  rw [← Nat.pow_add] at h1
  exact h1
theorem b99 {z : Int} (h : z.natAbs < 2147483648 ^ 98) : z.natAbs < 2147483648 ^ 99 := Nat.lt_trans h (by decide +kernel)
theorem b99s {x y : Int} (hx : x.natAbs < 2147483648 ^ 98) (hy : y.natAbs < 2147483648 ^ 98) : (x - y).natAbs < 2147483648 ^ 99 := by
  have h1 : (2147483648 : Nat) ^ 98 + 2147483648 ^ 98 ≤ 2147483648 ^ 99 := by decide +kernel
  omega
theorem b99z {z : Int} (h : z.natAbs < 2147483648 ^ 49) : z.natAbs < 2147483648 ^ 99 := Nat.lt_trans h (by decide +kernel)
