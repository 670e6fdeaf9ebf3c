/-! methods that return a reference; worlds with a pool at the end -/
abbrev CR {S : Type} (l : Launch) (y : MethodName) (cc : ByteArray) (n : Nat) (rt : FieldType) (rm : Room) (as : List Value) (G : va_G) (k : Nat → ClassId) (sz : Nat) (wi : va_W) (post : S → Prop) (ra : S → Nat) (wo : S → va_W) (mc ms : Nat) : Prop :=
  Met l y (wy y cc n (some rt)) rm (va_Pc as (Pr G k sz wi)) (va_Qr post (fun u a t => a = ra u ∧ Po G k (va_A wi sz) wo u t) (va_A wi sz)) mc ms (va_A wi sz)
section REFS
variable {p : Program} {l : Launch} {e : Env} {R : Room} {s : State} {m : MethodId} {args : Array Value} {below : List Frame} {meth : Method} {c : Code} {H : Heap} {locs : List Loc} {cells slots : Nat} {Q : State → Prop}
variable {cc : ByteArray} {own nm : String} {nL : Nat} {ret : Option FieldType} {G : va_G} {k : Nat → ClassId} {A : Nat → Prop} {ws X : va_W} {pc : Nat} {ls : Array Slot} {rest : List Value} {a : Nat} {LP : List Nat} {n : Nat} {F : Nat → Nat → Int32}
theorem r_aret {S : Type} {post : S → Prop} {ra : S → Nat} {wo : S → va_W} {t0 : FieldType} (C : Cx p s m args meth c cc own nL (some (.array t0)) nm) (K : Kn G k s) (u : S) {b : Nat} (hp : post u) (hb : b = ra u) (St : Sw G A s.heap H locs (wo u)) (hdg : decode cc pc = .ok (.areturn, 1)) {mc ms : Nat} (h1 : cells ≤ mc) (h2 : slots ≤ ms) : W p l e R s m args below meth c H locs cells slots (MQ below (va_Qr post (fun u a t => a = ra u ∧ Po G k A wo u t) A) args s mc ms A) (F0 m pc ls [.ref b]) :=
  W.widen h1 h2 (W.aret C.1 C.2.1 C.2.2.2.2.2.1 (Or.inr ⟨t0, rfl⟩) (Or.inr ⟨b, rfl⟩) (fun t ht hW => ⟨⟨u, b, rfl, hp, hb, by rw [ht]; exact St.1, K.warm hW, St.2.1⟩, St.2.2.F ht⟩) St.2.2.2.2 hdg (hlocks := C.2.2.2.2.2.2.1))
theorem r_backr {S : Type} {post : S → Prop} {ra : S → Nat} {wo : S → va_W} {wi wr : va_W} (St : Sw G A s.heap H locs ws) (hA : ∀ q, s.heap.size ≤ q → A q) (isC isR : List Nat) (hC : isC.map (fun i => ws[i]?) = wi.map some) (hR : isR.map (fun i => ws[i]?) = wr.map some) (hn : va_nd isR = true) (hdis : ∀ i ∈ isR, i ∉ isC) {mc ms : Nat} {av : Array Value} {st0 : List Value} (hr : va_Run p l e R s m args below meth c H locs cells slots mc ms (F0 m pc ls st0) rest (va_Qr post (fun u a t => a = ra u ∧ Po G k (va_A wi H.size) wo u t) (va_A wi H.size) av) (va_A wi H.size))
    (kk : ∀ (u : S) (H1 : Heap) (locs1 : List Loc), post u → Sw G A s.heap H1 locs1 (wr ++ wo u) → W p l e R s m args below meth c H1 locs1 (cells + mc) (slots + ms) Q (F0 m (pc + 3) ls (.ref (ra u) :: rest))) : W p l e R s m args below meth c H locs cells slots Q (F0 m pc ls st0) := by
  have hF := va_free (wc := wi) St.2.1 St.2.2 hA isC hC
  refine va_callr hr St.2.2 (fun q _ h => hF q h) hF (fun u b t H1 l1 ht hvm hp hB hz hk hS => ?_)
  obtain ⟨hb, hB⟩ := hB
  subst hb
  obtain ⟨hP, hD⟩ := va_join (wr := wr) (w1 := wo u) St.1 St.2.1 isC isR hC hR hn hdis hk hF (by rw [← ht]; exact hB.1) hB.2.2
  exact kk u H1 l1 hp ⟨hP, hD, hS⟩
theorem r_backrQ {S : Type} {post : S → Prop} {ra : S → Nat} {wo : S → va_W} {wi wr pl : va_W} (St : Sw G A s.heap H locs (X ++ pl)) (hA : ∀ q, s.heap.size ≤ q → A q) (isC isR : List Nat) (hC : isC.map (fun i => X[i]?) = wi.map some) (hR : isR.map (fun i => X[i]?) = wr.map some) (hn : va_nd isR = true) (hdis : ∀ i ∈ isR, i ∉ isC) {mc ms : Nat} {av : Array Value} {st0 : List Value} (hr : va_Run p l e R s m args below meth c H locs cells slots mc ms (F0 m pc ls st0) rest (va_Qr post (fun u a t => a = ra u ∧ Po G k (va_A wi H.size) wo u t) (va_A wi H.size) av) (va_A wi H.size))
    (kk : ∀ (u : S) (H1 : Heap) (locs1 : List Loc), post u → Sw G A s.heap H1 locs1 ((wr ++ wo u) ++ pl) → W p l e R s m args below meth c H1 locs1 (cells + mc) (slots + ms) Q (F0 m (pc + 3) ls (.ref (ra u) :: rest))) : W p l e R s m args below meth c H locs cells slots Q (F0 m pc ls st0) := by
  have hF := va_free (wc := wi) St.2.1 St.2.2 hA isC (ap_in hC)
  refine va_callr hr St.2.2 (fun q _ h => hF q h) hF (fun u b t H1 l1 ht hvm hp hB hz hk hS => ?_)
  obtain ⟨hb, hB⟩ := hB
  subst hb
  obtain ⟨hP, hD⟩ := va_joinQ (wr := wr) (w1 := wo u) St.1 St.2.1 isC isR hC hR hn hdis hk hF (by rw [← ht]; exact hB.1) hB.2.2
  exact kk u H1 l1 hp ⟨hP, hD, hS⟩
theorem r_backrP {S : Type} {post : S → Prop} {ra : S → Nat} {wo pl1 : S → va_W} {wi wr pl : va_W} (St : Sw G A s.heap H locs (X ++ pl)) (hA : ∀ q, s.heap.size ≤ q → A q) (isC isR : List Nat) (hC : isC.map (fun i => X[i]?) = wi.map some) (hR : isR.map (fun i => X[i]?) = wr.map some) (hn : va_nd isR = true) (hdis : ∀ i ∈ isR, i ∉ isC) {mc ms : Nat} {av : Array Value} {st0 : List Value} (hr : va_Run p l e R s m args below meth c H locs cells slots mc ms (F0 m pc ls st0) rest (va_Qr post (fun u a t => a = ra u ∧ Po G k (va_A (wi ++ pl) H.size) (fun u => wo u ++ pl1 u) u t) (va_A (wi ++ pl) H.size) av) (va_A (wi ++ pl) H.size))
    (kk : ∀ (u : S) (H1 : Heap) (locs1 : List Loc), post u → Sw G A s.heap H1 locs1 ((wr ++ wo u) ++ pl1 u) → W p l e R s m args below meth c H1 locs1 (cells + mc) (slots + ms) Q (F0 m (pc + 3) ls (.ref (ra u) :: rest))) : W p l e R s m args below meth c H locs cells slots Q (F0 m pc ls st0) := by
  have hF := va_freeP (cx := wi) St.2.1 St.2.2 hA isC hC
  refine va_callr hr St.2.2 (fun q _ h => hF q h) hF (fun u b t H1 l1 ht hvm hp hB hz hk hS => ?_)
  obtain ⟨hb, hB⟩ := hB
  subst hb
  obtain ⟨hP, hD⟩ := va_joinP (wr := wr) (rx := wo u) (pl1 := pl1 u) St.1 St.2.1 isC isR hC hR hn hdis hk hF (by rw [← ht]; exact hB.1) hB.2.2
  exact kk u H1 l1 hp ⟨hP, hD, hS⟩
theorem r_backiP {S : Type} {post : Int32 → S → Prop} {wo pl1 : S → va_W} {wi wr pl : va_W} (St : Sw G A s.heap H locs (X ++ pl)) (hA : ∀ q, s.heap.size ≤ q → A q) (isC isR : List Nat) (hC : isC.map (fun i => X[i]?) = wi.map some) (hR : isR.map (fun i => X[i]?) = wr.map some) (hn : va_nd isR = true) (hdis : ∀ i ∈ isR, i ∉ isC) {mc ms : Nat} {av : Array Value} {st0 : List Value} (hr : va_Run p l e R s m args below meth c H locs cells slots mc ms (F0 m pc ls st0) rest (va_Qi post (Po G k (va_A (wi ++ pl) H.size) (fun u => wo u ++ pl1 u)) (va_A (wi ++ pl) H.size) av) (va_A (wi ++ pl) H.size))
    (kk : ∀ (r : Int32) (u : S) (H1 : Heap) (locs1 : List Loc), post r u → Sw G A s.heap H1 locs1 ((wr ++ wo u) ++ pl1 u) → W p l e R s m args below meth c H1 locs1 (cells + mc) (slots + ms) Q (F0 m (pc + 3) ls (.int r :: rest))) : W p l e R s m args below meth c H locs cells slots Q (F0 m pc ls st0) := by
  have hF := va_freeP (cx := wi) St.2.1 St.2.2 hA isC hC
  refine va_calli hr St.2.2 (fun q _ h => hF q h) hF (fun r u t H1 l1 ht hvm hp hB hz hk hS => ?_)
  obtain ⟨hP, hD⟩ := va_joinP (wr := wr) (rx := wo u) (pl1 := pl1 u) St.1 St.2.1 isC isR hC hR hn hdis hk hF (by rw [← ht]; exact hB.1) hB.2.2
  exact kk r u H1 l1 hp ⟨hP, hD, hS⟩
theorem pr_nowVP (K : Kn G k s) {pl : va_W} (S : Sw G A s.heap H locs (X ++ pl)) {wi : va_W} (is : List Nat) (hn : va_nd is = true) (hs : is.map (fun i => X[i]?) = wi.map some) {b : Nat} {as : List Value} (q0 : Nat) {ci : Nat} {fs : List Value} (he : (X ++ pl)[q0]? = some (b, .inr (ci, fs))) {q : vw_C} (hc : cls[ci]? = some q) : PreV s H q.1 b (va_Pc (.ref b :: as) (Pr G k H.size (wi ++ pl))) as := ⟨pr_blind, va_recv K.1 S.1 hc he, (pr_nowP K S is hn hs).2⟩
/-- other cells before the same pool -/
theorem Sw.subP {H0 : Heap} {X' pl : va_W} (S : Sw G A H0 H locs (X ++ pl)) (is : List Nat) (hn : va_nd is = true) (hs : is.map (fun i => X[i]?) = X'.map some) : Sw G A H0 H locs (X' ++ pl) := by
  refine ⟨S.1.by _ (va_part is hs), ?_, S.2.2⟩
  have h1 := S.2.1
  refine va_D.by (ws := X ++ pl) h1 _ (va_part is hs) ?_
  intro i j hi hj hij
  have hl : is.length = X'.length := by
    have := congrArg List.length hs
    rw [List.length_map, List.length_map] at this
    exact this
  have hin : ∀ t, t < X'.length → (is[t]?).getD 0 < X.length := by
    intro t ht
    have e1 : is[t]? = some (is[t]'(by omega)) := List.getElem?_eq_getElem (by omega)
    rw [e1]
    have e2 : (is.map (fun i => X[i]?))[t]? = some (X[is[t]'(by omega)]?) := by rw [List.getElem?_map, e1]; rfl
    rw [hs, List.getElem?_map, List.getElem?_eq_getElem ht] at e2
    have e3 : some (X'[t]) = X[is[t]'(by omega)]? := Option.some.inj e2
    exact (List.getElem?_eq_some_iff.mp e3.symm).1
  rw [List.length_append] at hi hj
  by_cases w1 : i < X'.length <;> by_cases w2 : j < X'.length
  · simp only [w1, w2, if_true] at hij
    have e1 : is[i]? = some (is[i]'(by omega)) := List.getElem?_eq_getElem (by omega)
    have e2 : is[j]? = some (is[j]'(by omega)) := List.getElem?_eq_getElem (by omega)
    rw [e1, e2] at hij
    have hij : is[i]'(by omega) = is[j]'(by omega) := hij
    exact va_nd_inj is hn i j _ e1 (by rw [e2, hij])
  · simp only [w1, w2, if_true, if_false] at hij
    have := hin i w1
    omega
  · simp only [w1, w2, if_true, if_false] at hij
    have := hin j w2
    omega
  · simp only [w1, w2, if_false] at hij
    omega
theorem wc_acopy {i : Nat} {w : Cond} (h : tables_1[i]? = some w) (hg : goodWord w = true) : w ∈ gt := gt_i i h hg
/-- a row's elements copied to another row -/
theorem p_copy (C : Cx p s m args meth c cc own nL ret nm) (K : Kn G k s) (S : Sw G A s.heap H locs (X ++ va_pl LP (rwp k n F))) (hs : ls.size = nL) {index : Nat} (hl : Cond.methodLink own index arraycopyName ∈ gt) (hnat : Cond.native arraycopyName ∈ gt) (hst : Cond.static arraycopyName ∈ gt) (hin : Cond.initialized "java/lang/System" ∈ gt) {a0 : Nat} (h0 : a0 ∈ LP) (h1 : a ∈ LP) {w : Int32} (hw : ¬ w < 0) (hw2 : w.toNatClampNeg ≤ n) (hf : 1 ≤ R.frames) (hlo : (rest.map fun v => v.category).sum + (nativeFrameWords "java/lang/System" "arraycopy" 5 + 11) ≤ R.locals) (hdg : decode cc pc = .ok (.invokestatic index, 3))
    (kk : ∀ (F' : Nat → Nat → Int32) (H1 : Heap) (locs1 : List Loc), Sw G A s.heap H1 locs1 (X ++ va_pl LP (rwp k n F')) → W p l e R s m args below meth c H1 locs1 cells slots Q (F0 m (pc + 3) ls rest)) : W p l e R s m args below meth c H locs cells slots Q (F0 m pc ls (.int w :: .int 0 :: .ref a :: .int 0 :: .ref a0 :: rest)) := by
  obtain ⟨q0, g0⟩ := va_pl_get (X := X) (f := rwp k n F) h0
  obtain ⟨q1, g1⟩ := va_pl_get (X := X) (f := rwp k n F) h1
  refine va_copyi C.1 C.2.1 (by rw [C.2.2.1, hs]) C.2.2.2.1 (C.2.2.2.2.1 _ hl) (C.2.2.2.2.1 _ hnat) (C.2.2.2.2.1 _ hst) (C.2.2.2.2.1 _ hin) K.1 S.1 S.2.1 S.2.2 q0 q1 0 0 g0 g1 (ty := .int) rfl rfl rfl (by decide) (by decide) hw ?_ ?_ (fun i _ => rfl) hf hlo hdg (fun H1 l1 a1 a2 a3 => ?_)
  · rw [show (0 : Int32).toNatClampNeg = 0 by decide]; omega
  · rw [show (0 : Int32).toNatClampNeg = 0 by decide]; omega
  · have e := va_pl_set (e := .inl (k 0, n, .inl (va_cpy (F a0) (F a) (0 : Int32).toNatClampNeg (0 : Int32).toNatClampNeg w.toNatClampNeg))) S.2.1 h1 g1
    rw [rwp_up] at e
    rw [e] at a1 a2
    exact kk _ H1 l1 ⟨a1, a2, a3⟩
end REFS
