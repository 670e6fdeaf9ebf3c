/-! how much a method really makes: contracts that say it -/
/-- the slots of all cells -/
def allSl (H : Heap) : Nat := H.foldl (fun n c => n + c.slots.size) 0
section GROW
variable {p : Program} {l : Launch} {e : Env} {R : Room} {s : State} {m : MethodId} {args : Array Value} {below : List Frame} {meth : Method} {c : Code} {H : Heap} {locs : List Loc} {cells slots : Nat} {Q : State → Prop}
variable {cc : ByteArray} {own nm : String} {nL : Nat} {ret : Option FieldType} {G : va_G} {k : Nat → ClassId} {A : Nat → Prop} {ws : va_W} {pc : Nat} {ls : Array Slot} {rest : List Value} {a : Nat}
theorem sl_true {U : State} (h : U.slotsTrue = true) : U.slotsUsed = allSl U.heap := by
  unfold State.slotsTrue at h
  exact eq_of_beq h
theorem st_true {T : State} (X : Stand p l e R s m args below meth c T locs cells slots) : s.slotsTrue = true := by
  have h := X.room
  simp only [State.hasRoom, Bool.and_eq_true] at h
  exact h.2
/-- what is made so far is within what is booked -/
theorem W.know {g : JFrame} (kk : H.size ≤ s.heap.size + cells → allSl H ≤ allSl s.heap + slots → W p l e R s m args below meth c H locs cells slots Q g) : W p l e R s m args below meth c H locs cells slots Q g := by
  intro T hT X
  refine kk (by rw [← hT]; exact X.heapSize) ?_ T hT X
  have h1 := X.used
  rw [sl_true X.book, sl_true (st_true X), hT] at h1
  exact h1
/-- what is booked may be what is made -/
theorem W.real {g : JFrame} {k n : Nat} (h1 : H.size ≤ s.heap.size + k) (h2 : allSl H ≤ allSl s.heap + n) (kk : W p l e R s m args below meth c H locs k n Q g) : W p l e R s m args below meth c H locs cells slots Q g := by
  intro T hT X
  refine kk T hT { X with same := ⟨X.same.1, X.same.2.1, ?_, X.same.2.2.2.1, ?_, X.same.2.2.2.2.2⟩ }
  · show T.heap.size ≤ _
    rw [hT]; exact h1
  · have h3 : T.slotsUsed = s.slotsUsed + _ := X.same.2.2.2.1
    rw [sl_true X.book, sl_true (st_true X), hT] at h3
    have h4 : allSl s.heap + ((((T.setVm s.vm).heap.toList.drop s.heap.size).map (·.slots.size)).sum) ≤ allSl s.heap + n := by rw [← h3]; exact h2
    exact Nat.le_of_add_le_add_left h4
def Prg (G : va_G) (k : Nat → ClassId) (sz sl : Nat) (wi : va_W) (U : State) : Prop := Pr G k sz wi U ∧ allSl U.heap = sl
def Pog {S : Type} (G : va_G) (k : Nat → ClassId) (A : Nat → Prop) (wo : S → va_W) (sz sl : Nat) (cu nu : S → Nat) (u : S) (t : State) : Prop := Po G k A wo u t ∧ t.heap.size ≤ sz + cu u ∧ allSl t.heap ≤ sl + nu u
/-- contracts that say how much is made: void, int, long -/
abbrev CVg {S : Type} (l : Launch) (y : MethodName) (cc : ByteArray) (n : Nat) (rm : Room) (as : List Value) (G : va_G) (k : Nat → ClassId) (sz sl : Nat) (wi : va_W) (post : S → Prop) (wo : S → va_W) (cu nu : S → Nat) (mc ms : Nat) : Prop :=
  Met l y (wy y cc n none) rm (va_Pc as (Prg G k sz sl wi)) (va_Qv post (Pog G k (va_A wi sz) wo sz sl cu nu) (va_A wi sz)) mc ms (va_A wi sz)
abbrev CIg {S : Type} (l : Launch) (y : MethodName) (cc : ByteArray) (n : Nat) (rt : FieldType) (rm : Room) (as : List Value) (G : va_G) (k : Nat → ClassId) (sz sl : Nat) (wi : va_W) (post : Int32 → S → Prop) (wo : S → va_W) (cu nu : S → Nat) (mc ms : Nat) : Prop :=
  Met l y (wy y cc n (some rt)) rm (va_Pc as (Prg G k sz sl wi)) (va_Qi post (Pog G k (va_A wi sz) wo sz sl cu nu) (va_A wi sz)) mc ms (va_A wi sz)
abbrev CLg {S : Type} (l : Launch) (y : MethodName) (cc : ByteArray) (n : Nat) (rm : Room) (as : List Value) (G : va_G) (k : Nat → ClassId) (sz sl : Nat) (wi : va_W) (post : Int64 → S → Prop) (wo : S → va_W) (cu nu : S → Nat) (mc ms : Nat) : Prop :=
  Met l y (wy y cc n (some .long)) rm (va_Pc as (Prg G k sz sl wi)) (va_Ql post (Pog G k (va_A wi sz) wo sz sl cu nu) (va_A wi sz)) mc ms (va_A wi sz)
theorem met_startG {y : MethodName} {n : Nat} {rm : Room} {as : List Value} {sz sl : Nat} {wi : va_W} {mc ms : Nat} {Qc : Array Value → State → Outcome → State → Prop} {free : Addr → Prop} (hy : plainName y.cls = true) (ha : (lg_sl as).length ≤ n)
    (body : ∀ p e s m below meth c, Cx p s m as.toArray meth c cc y.cls n ret y.name → Kn G k s → (∀ q : Nat, s.heap.size ≤ q → va_A wi sz q) → s.heap.size = sz ∧ allSl s.heap = sl → Sw G (va_A wi sz) s.heap s.heap [] wi → ∀ ls, lv_has ls n (lv_args 0 as) →
      W p l e rm s m as.toArray below meth c s.heap [] 0 0 (MQ below Qc as.toArray s mc ms free) (F0 m 0 ls [])) : Met l y (wy y cc n ret) rm (va_Pc as (Prg G k sz sl wi)) Qc mc ms free := by
  refine Met.ofW (cc := cc) (maxL := n) (ret := ret) hy rfl ?_
  intro p e s m args below meth c s₁ B hml hv
  obtain ⟨rfl, ⟨hsz, hP, hK, hD0⟩, hsl⟩ := hv
  have hts := atoms_spec (ws := wy y cc n ret) B.pre
  have hnm := name_of_methodNamed B.named B.method
  have hD := hD0.self (sz := sz)
  rw [lg_entry_eq]
  exact body p e s m below meth c ⟨B.exec, B.bytes, hml, findClass_of_methodNamed B.named, fun w h => hts w (List.mem_cons_of_mem _ h), B.returns, B.notSynchronized, hnm.1⟩ hK (fun q h => Or.inr (by rw [← hsz]; exact h)) ⟨hsz, hsl⟩ ⟨hP, hD, va_S.rf⟩ _ (lv_entry as ha)
theorem r_vretG {S : Type} {post : S → Prop} {wo : S → va_W} {cu nu : S → Nat} {sz sl : Nat} (C : Cx p s m args meth c cc own nL none nm) (K : Kn G k s) (hg : s.heap.size = sz ∧ allSl s.heap = sl) (u : S) (hp : post u) (St : Sw G A s.heap H locs (wo u)) (hdg : decode cc pc = .ok (.return_, 1)) {mc ms : Nat} (c1 : cells ≤ cu u) (c2 : slots ≤ nu u) (h1 : cells ≤ mc) (h2 : slots ≤ ms) : W p l e R s m args below meth c H locs cells slots (MQ below (va_Qv post (Pog G k A wo sz sl cu nu) A) args s mc ms A) (F0 m pc ls []) :=
  W.know (fun g1 g2 => W.widen h1 h2 (W.vret C.1 C.2.1 C.2.2.2.2.2.1 (fun t ht hW => ⟨⟨u, rfl, hp, ⟨by rw [ht]; exact St.1, K.warm hW, St.2.1⟩, by rw [ht, ← hg.1]; omega, by rw [ht, ← hg.2]; omega⟩, St.2.2.F ht⟩) St.2.2.2.2 hdg (hlocks := C.2.2.2.2.2.2.1)))
theorem r_iretG {S : Type} {post : Int32 → S → Prop} {wo : S → va_W} {cu nu : S → Nat} {sz sl : Nat} {rt : FieldType} (C : Cx p s m args meth c cc own nL (some rt) nm) (K : Kn G k s) (hg : s.heap.size = sz ∧ allSl s.heap = sl) {v : Int32} (hn : narrow rt (.int v) = .int v) (u : S) (hp : post v u) (St : Sw G A s.heap H locs (wo u)) (hdg : decode cc pc = .ok (.ireturn, 1)) {mc ms : Nat} (c1 : cells ≤ cu u) (c2 : slots ≤ nu u) (h1 : cells ≤ mc) (h2 : slots ≤ ms) : W p l e R s m args below meth c H locs cells slots (MQ below (va_Qi post (Pog G k A wo sz sl cu nu) A) args s mc ms A) (F0 m pc ls [.int v]) :=
  W.know (fun g1 g2 => W.widen h1 h2 (W.zret C.1 C.2.1 C.2.2.2.2.2.1 hn (fun t ht hW => ⟨⟨v, u, rfl, hp, ⟨by rw [ht]; exact St.1, K.warm hW, St.2.1⟩, by rw [ht, ← hg.1]; omega, by rw [ht, ← hg.2]; omega⟩, St.2.2.F ht⟩) St.2.2.2.2 hdg (hlocks := C.2.2.2.2.2.2.1)))
theorem r_lretG {S : Type} {post : Int64 → S → Prop} {wo : S → va_W} {cu nu : S → Nat} {sz sl : Nat} (C : Cx p s m args meth c cc own nL (some .long) nm) (K : Kn G k s) (hg : s.heap.size = sz ∧ allSl s.heap = sl) {v : Int64} (u : S) (hp : post v u) (St : Sw G A s.heap H locs (wo u)) (hdg : decode cc pc = .ok (.lreturn, 1)) {mc ms : Nat} (c1 : cells ≤ cu u) (c2 : slots ≤ nu u) (h1 : cells ≤ mc) (h2 : slots ≤ ms) : W p l e R s m args below meth c H locs cells slots (MQ below (va_Ql post (Pog G k A wo sz sl cu nu) A) args s mc ms A) (F0 m pc ls [.long v]) :=
  W.know (fun g1 g2 => W.widen h1 h2 (W.lret C.1 C.2.1 C.2.2.2.2.2.1 (fun t ht hW => ⟨⟨v, u, rfl, hp, ⟨by rw [ht]; exact St.1, K.warm hW, St.2.1⟩, by rw [ht, ← hg.1]; omega, by rw [ht, ← hg.2]; omega⟩, St.2.2.F ht⟩) St.2.2.2.2 hdg (hlocks := C.2.2.2.2.2.2.1)))
theorem prg_blind {as : List Value} {sz sl : Nat} {wi : va_W} : FrameBlind (va_Pc as (Prg G k sz sl wi)) := fun a U g mk q => ⟨q.1, (pr_blind (G := G) (k := k) a U g mk ⟨q.1, q.2.1⟩).2, q.2.2⟩
theorem pr_nowG (K : Kn G k s) (S : Sw G A s.heap H locs ws) {wi : va_W} (is : List Nat) (hn : va_nd is = true) (hs : is.map (fun i => ws[i]?) = wi.map some) {as : List Value} : PreS s H (va_Pc as (Prg G k H.size (allSl H) wi)) as := ⟨prg_blind, fun U hU hW => ⟨rfl, ((pr_now K S is hn hs (as := as)).2 U hU hW).2, by rw [hU]⟩⟩
theorem pr_nowVG (K : Kn G k s) (S : Sw G A s.heap H locs ws) {wi : va_W} (is : List Nat) (hn : va_nd is = true) (hs : is.map (fun i => ws[i]?) = wi.map some) {b : Nat} {as : List Value} (q0 : Nat) {ci : Nat} {fs : List Value} (he : ws[q0]? = some (b, .inr (ci, fs))) {q : vw_C} (hc : cls[ci]? = some q) : PreV s H q.1 b (va_Pc (.ref b :: as) (Prg G k H.size (allSl H) wi)) as := ⟨prg_blind, va_recv K.1 S.1 hc he, (pr_nowG K S is hn hs).2⟩
theorem r_backvG {S : Type} {post : S → Prop} {wo : S → va_W} {cu nu : S → Nat} {wi wr : va_W} (St : Sw G A s.heap H locs ws) (hA : ∀ q, s.heap.size ≤ q → A q) (isC isR : List Nat) (hC : isC.map (fun i => ws[i]?) = wi.map some) (hR : isR.map (fun i => ws[i]?) = wr.map some) (hn : va_nd isR = true) (hdis : ∀ i ∈ isR, i ∉ isC) {mc ms : Nat} {av : Array Value} {st0 : List Value} (hr : va_Run p l e R s m args below meth c H locs cells slots mc ms (F0 m pc ls st0) rest (va_Qv post (Pog G k (va_A wi H.size) wo H.size (allSl H) cu nu) (va_A wi H.size) av) (va_A wi H.size))
    (kk : ∀ (u : S) (H1 : Heap) (locs1 : List Loc), post u → Sw G A s.heap H1 locs1 (wr ++ wo u) → W p l e R s m args below meth c H1 locs1 (cells + cu u) (slots + nu u) Q (F0 m (pc + 3) ls rest)) : W p l e R s m args below meth c H locs cells slots Q (F0 m pc ls st0) := by
  have hF := va_free (wc := wi) St.2.1 St.2.2 hA isC hC
  refine W.know (fun g1 g2 => ?_)
  refine va_callv hr St.2.2 (fun q _ h => hF q h) hF (fun u t H1 l1 ht hvm hp hB hz hk hS => ?_)
  obtain ⟨hP, hD⟩ := va_join (wr := wr) (w1 := wo u) St.1 St.2.1 isC isR hC hR hn hdis hk hF (by rw [← ht]; exact hB.1.1) hB.1.2.2
  have e1 := hB.2.1
  have e2 := hB.2.2
  rw [ht] at e1 e2
  exact W.real (by omega) (by omega) (kk u H1 l1 hp ⟨hP, hD, hS⟩)
theorem r_backiG {S : Type} {post : Int32 → S → Prop} {wo : S → va_W} {cu nu : S → Nat} {wi wr : va_W} (St : Sw G A s.heap H locs ws) (hA : ∀ q, s.heap.size ≤ q → A q) (isC isR : List Nat) (hC : isC.map (fun i => ws[i]?) = wi.map some) (hR : isR.map (fun i => ws[i]?) = wr.map some) (hn : va_nd isR = true) (hdis : ∀ i ∈ isR, i ∉ isC) {mc ms : Nat} {av : Array Value} {st0 : List Value} (hr : va_Run p l e R s m args below meth c H locs cells slots mc ms (F0 m pc ls st0) rest (va_Qi post (Pog G k (va_A wi H.size) wo H.size (allSl H) cu nu) (va_A wi H.size) av) (va_A wi H.size))
    (kk : ∀ (r : Int32) (u : S) (H1 : Heap) (locs1 : List Loc), post r u → Sw G A s.heap H1 locs1 (wr ++ wo u) → W p l e R s m args below meth c H1 locs1 (cells + cu u) (slots + nu u) Q (F0 m (pc + 3) ls (.int r :: rest))) : W p l e R s m args below meth c H locs cells slots Q (F0 m pc ls st0) := by
  have hF := va_free (wc := wi) St.2.1 St.2.2 hA isC hC
  refine W.know (fun g1 g2 => ?_)
  refine va_calli hr St.2.2 (fun q _ h => hF q h) hF (fun r u t H1 l1 ht hvm hp hB hz hk hS => ?_)
  obtain ⟨hP, hD⟩ := va_join (wr := wr) (w1 := wo u) St.1 St.2.1 isC isR hC hR hn hdis hk hF (by rw [← ht]; exact hB.1.1) hB.1.2.2
  have e1 := hB.2.1
  have e2 := hB.2.2
  rw [ht] at e1 e2
  exact W.real (by omega) (by omega) (kk r u H1 l1 hp ⟨hP, hD, hS⟩)
end GROW
