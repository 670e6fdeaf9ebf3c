/-! arrays of arrays: their rows are a pool of int arrays, whose contents are forgotten -/
def rwp (k : Nat → ClassId) (n : Nat) (F : Nat → Nat → Int32) : Nat → va_E := fun a => .inl (k 0, n, .inl (F a))
theorem rwp_up {k : Nat → ClassId} {n : Nat} {F : Nat → Nat → Int32} {a : Nat} {g : Nat → Int32} : va_up (rwp k n F) a (.inl (k 0, n, .inl g)) = rwp k n (va_up F a g) := by
  funext b
  unfold rwp
  by_cases q : b = a
  · subst q; rw [va_up_self, va_up_self]
  · rw [va_up_ne _ _ q, va_up_ne _ _ q]
section GRID
variable {p : Program} {l : Launch} {e : Env} {R : Room} {s : State} {m : MethodId} {args : Array Value} {below : List Frame} {meth : Method} {c : Code} {H : Heap} {locs : List Loc} {cells slots : Nat} {Q : State → Prop}
variable {cc : ByteArray} {own nm : String} {nL : Nat} {ret : Option FieldType} {G : va_G} {k : Nat → ClassId} {A : Nat → Prop} {ws X : va_W} {pc : Nat} {ls : Array Slot} {rest : List Value} {a : Nat} {LP : List Nat} {n : Nat} {F : Nat → Nat → Int32}
theorem r_aaldM (C : Cx p s m args meth c cc own nL ret nm) (K : Kn G k s) (S : Sw G A s.heap H locs ws) (q0 : Nat) {n : Nat} {f : Nat → Option Nat} (ha : ws[q0]? = some (a, .inl (k 5, n, .inr (.inr (.inr (.inr f)))))) {i : Int32} (hin : vp_in i n) {b : Nat} (hv : f i.toNatClampNeg = some b) (hdg : decode cc pc = .ok (.aaload, 1))
    (kk : W p l e R s m args below meth c H locs cells slots Q (F0 m (pc + 1) ls (.ref b :: rest))) : W p l e R s m args below meth c H locs cells slots Q (F0 m pc ls (.int i :: .ref a :: rest)) := by
  have hlt : i.toNatClampNeg < n := Nat.not_le.mp fun q => hin (Or.inr q)
  exact W.aald (v := .ref b) (ty := .array .int) C.1 C.2.1 (S.1 q0 _ ha) ((K.1.2 5 (k 5, .array .int) rfl).1 n (fun j => va_rf (f j))) rfl (fun q => by cases q) (by show ¬ (i < 0 ∨ (arrV _ _ _).slots.size ≤ _); rw [arrV_size]; exact hin) (by show (arrV _ _ _).slots[_]? = _; rw [arrV_read _ _ hlt, hv]; rfl) rfl rfl hdg kk
theorem p_iald (C : Cx p s m args meth c cc own nL ret nm) (K : Kn G k s) (S : Sw G A s.heap H locs (X ++ va_pl LP (rwp k n F))) (hm : a ∈ LP) {i : Int32} (hin : vp_in i n) (hdg : decode cc pc = .ok (.iaload, 1))
    (kk : ∀ v : Int32, W p l e R s m args below meth c H locs cells slots Q (F0 m (pc + 1) ls (.int v :: rest))) : W p l e R s m args below meth c H locs cells slots Q (F0 m pc ls (.int i :: .ref a :: rest)) := by
  obtain ⟨q0, h0⟩ := va_pl_get (X := X) (f := rwp k n F) hm
  exact r_iald C K S q0 h0 hin rfl hdg (kk _)
theorem p_iast (C : Cx p s m args meth c cc own nL ret nm) (K : Kn G k s) (S : Sw G A s.heap H locs (X ++ va_pl LP (rwp k n F))) (hm : a ∈ LP) {i x : Int32} (hin : vp_in i n) (hdg : decode cc pc = .ok (.iastore, 1))
    (kk : ∀ (F' : Nat → Nat → Int32) (H1 : Heap) (locs1 : List Loc), Sw G A s.heap H1 locs1 (X ++ va_pl LP (rwp k n F')) → W p l e R s m args below meth c H1 locs1 cells slots Q (F0 m (pc + 1) ls rest)) : W p l e R s m args below meth c H locs cells slots Q (F0 m pc ls (.int x :: .int i :: .ref a :: rest)) := by
  obtain ⟨q0, h0⟩ := va_pl_get (X := X) (f := rwp k n F) hm
  exact r_iast C K S q0 h0 hin rfl ((va_pl_set S.2.1 hm h0).trans (by rw [rwp_up])) hdg (fun H1 l1 S1 => kk _ H1 l1 S1)
theorem r_alen (C : Cx p s m args meth c cc own nL ret nm) (K : Kn G k s) (S : Sw G A s.heap H locs ws) (q0 : Nat) {n : Nat} {f : Nat → Int32} (ha : ws[q0]? = some (a, .inl (k 0, n, .inl f))) (hdg : decode cc pc = .ok (.arraylength, 1))
    (kk : W p l e R s m args below meth c H locs cells slots Q (F0 m (pc + 1) ls (.int (nI n) :: rest))) : W p l e R s m args below meth c H locs cells slots Q (F0 m pc ls (.ref a :: rest)) :=
  va_alen C.1 C.2.1 K.1 S.1 q0 0 ha (ty := .int) rfl (v := nI n) rfl hdg kk
theorem p_alen (C : Cx p s m args meth c cc own nL ret nm) (K : Kn G k s) (S : Sw G A s.heap H locs (X ++ va_pl LP (rwp k n F))) (hm : a ∈ LP) (hdg : decode cc pc = .ok (.arraylength, 1))
    (kk : W p l e R s m args below meth c H locs cells slots Q (F0 m (pc + 1) ls (.int (nI n) :: rest))) : W p l e R s m args below meth c H locs cells slots Q (F0 m pc ls (.ref a :: rest)) := by
  obtain ⟨q0, h0⟩ := va_pl_get (X := X) (f := rwp k n F) hm
  exact r_alen C K S q0 h0 hdg kk
/-- calls where a pool stands by: the callee doesn't get it (Q), or gets it (P) -/
theorem r_backvQ {S : Type} {post : S → Prop} {wo : S → va_W} {wi wr pl : va_W} (St : Sw G A s.heap H locs (X ++ pl)) (hA : ∀ q, s.heap.size ≤ q → A q) (isC isR : List Nat) (hC : isC.map (fun i => X[i]?) = wi.map some) (hR : isR.map (fun i => X[i]?) = wr.map some) (hn : va_nd isR = true) (hdis : ∀ i ∈ isR, i ∉ isC) {mc ms : Nat} {av : Array Value} {st0 : List Value} (hr : va_Run p l e R s m args below meth c H locs cells slots mc ms (F0 m pc ls st0) rest (va_Qv post (Po G k (va_A wi H.size) wo) (va_A wi H.size) av) (va_A wi H.size))
    (kk : ∀ (u : S) (H1 : Heap) (locs1 : List Loc), post u → Sw G A s.heap H1 locs1 ((wr ++ wo u) ++ pl) → W p l e R s m args below meth c H1 locs1 (cells + mc) (slots + ms) Q (F0 m (pc + 3) ls rest)) : W p l e R s m args below meth c H locs cells slots Q (F0 m pc ls st0) := by
  have hF := va_free (wc := wi) St.2.1 St.2.2 hA isC (ap_in hC)
  refine va_callv hr St.2.2 (fun q _ h => hF q h) hF (fun u t H1 l1 ht hvm hp hB hz hk hS => ?_)
  obtain ⟨hP, hD⟩ := va_joinQ (wr := wr) (w1 := wo u) St.1 St.2.1 isC isR hC hR hn hdis hk hF (by rw [← ht]; exact hB.1) hB.2.2
  exact kk u H1 l1 hp ⟨hP, hD, hS⟩
theorem r_backiQ {S : Type} {post : Int32 → S → Prop} {wo : S → va_W} {wi wr pl : va_W} (St : Sw G A s.heap H locs (X ++ pl)) (hA : ∀ q, s.heap.size ≤ q → A q) (isC isR : List Nat) (hC : isC.map (fun i => X[i]?) = wi.map some) (hR : isR.map (fun i => X[i]?) = wr.map some) (hn : va_nd isR = true) (hdis : ∀ i ∈ isR, i ∉ isC) {mc ms : Nat} {av : Array Value} {st0 : List Value} (hr : va_Run p l e R s m args below meth c H locs cells slots mc ms (F0 m pc ls st0) rest (va_Qi post (Po G k (va_A wi H.size) wo) (va_A wi H.size) av) (va_A wi H.size))
    (kk : ∀ (r : Int32) (u : S) (H1 : Heap) (locs1 : List Loc), post r u → Sw G A s.heap H1 locs1 ((wr ++ wo u) ++ pl) → W p l e R s m args below meth c H1 locs1 (cells + mc) (slots + ms) Q (F0 m (pc + 3) ls (.int r :: rest))) : W p l e R s m args below meth c H locs cells slots Q (F0 m pc ls st0) := by
  have hF := va_free (wc := wi) St.2.1 St.2.2 hA isC (ap_in hC)
  refine va_calli hr St.2.2 (fun q _ h => hF q h) hF (fun r u t H1 l1 ht hvm hp hB hz hk hS => ?_)
  obtain ⟨hP, hD⟩ := va_joinQ (wr := wr) (w1 := wo u) St.1 St.2.1 isC isR hC hR hn hdis hk hF (by rw [← ht]; exact hB.1) hB.2.2
  exact kk r u H1 l1 hp ⟨hP, hD, hS⟩
theorem r_backvP {S : Type} {post : S → Prop} {wo pl1 : S → va_W} {wi wr pl : va_W} (St : Sw G A s.heap H locs (X ++ pl)) (hA : ∀ q, s.heap.size ≤ q → A q) (isC isR : List Nat) (hC : isC.map (fun i => X[i]?) = wi.map some) (hR : isR.map (fun i => X[i]?) = wr.map some) (hn : va_nd isR = true) (hdis : ∀ i ∈ isR, i ∉ isC) {mc ms : Nat} {av : Array Value} {st0 : List Value} (hr : va_Run p l e R s m args below meth c H locs cells slots mc ms (F0 m pc ls st0) rest (va_Qv post (Po G k (va_A (wi ++ pl) H.size) (fun u => wo u ++ pl1 u)) (va_A (wi ++ pl) H.size) av) (va_A (wi ++ pl) H.size))
    (kk : ∀ (u : S) (H1 : Heap) (locs1 : List Loc), post u → Sw G A s.heap H1 locs1 ((wr ++ wo u) ++ pl1 u) → W p l e R s m args below meth c H1 locs1 (cells + mc) (slots + ms) Q (F0 m (pc + 3) ls rest)) : W p l e R s m args below meth c H locs cells slots Q (F0 m pc ls st0) := by
  have hF := va_freeP (cx := wi) St.2.1 St.2.2 hA isC hC
  refine va_callv hr St.2.2 (fun q _ h => hF q h) hF (fun u t H1 l1 ht hvm hp hB hz hk hS => ?_)
  obtain ⟨hP, hD⟩ := va_joinP (wr := wr) (rx := wo u) (pl1 := pl1 u) St.1 St.2.1 isC isR hC hR hn hdis hk hF (by rw [← ht]; exact hB.1) hB.2.2
  exact kk u H1 l1 hp ⟨hP, hD, hS⟩
/-- the words of a call's start: with a pool that the callee gets -/
theorem pr_nowP (K : Kn G k s) {pl : va_W} (S : Sw G A s.heap H locs (X ++ pl)) {wi : va_W} (is : List Nat) (hn : va_nd is = true) (hs : is.map (fun i => X[i]?) = wi.map some) {as : List Value} : PreS s H (va_Pc as (Pr G k H.size (wi ++ pl))) as := by
  refine ⟨pr_blind, fun U hU hW => ⟨rfl, by rw [hU], by rw [hU]; exact S.1.by _ (va_part is hs), K.warm hW, ?_⟩⟩
  have h1 := S.2.1
  refine (va_D.by (A := fun _ => True) (ws := X ++ pl) ⟨h1.1, fun _ _ _ => trivial⟩ _ (va_part is hs) ?_)
  intro i j hi hj hij
  have hl : is.length = wi.length := by
    have := congrArg List.length hs
    rw [List.length_map, List.length_map] at this
    exact this
  have hin : ∀ t, t < wi.length → (is[t]?).getD 0 < X.length := by
    intro t ht
    have e1 : is[t]? = some (is[t]'(by omega)) := List.getElem?_eq_getElem (by omega)
    rw [e1]
    have e2 : (is.map (fun i => X[i]?))[t]? = some (X[is[t]'(by omega)]?) := by rw [List.getElem?_map, e1]; rfl
    rw [hs, List.getElem?_map, List.getElem?_eq_getElem ht] at e2
    have e3 : some (wi[t]) = X[is[t]'(by omega)]? := Option.some.inj e2
    exact (List.getElem?_eq_some_iff.mp e3.symm).1
  rw [List.length_append] at hi hj
  by_cases w1 : i < wi.length <;> by_cases w2 : j < wi.length
  · simp only [w1, w2, if_true] at hij
    have e1 : is[i]? = some (is[i]'(by omega)) := List.getElem?_eq_getElem (by omega)
    have e2 : is[j]? = some (is[j]'(by omega)) := List.getElem?_eq_getElem (by omega)
    rw [e1, e2] at hij
    have hij : is[i]'(by omega) = is[j]'(by omega) := hij
    exact va_nd_inj is hn i j _ e1 (by rw [e2, hij])
  · simp only [w1, w2, if_true, if_false] at hij
    have := hin i w1
    omega
  · simp only [w1, w2, if_true, if_false] at hij
    have := hin j w2
    omega
  · simp only [w1, w2, if_false] at hij
    omega
end GRID
