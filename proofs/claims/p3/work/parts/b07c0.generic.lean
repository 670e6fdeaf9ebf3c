/-! one form of contract for all answers, which says how much is made; frames; worlds in another order -/
theorem lsum_foldl (f : Cell → Nat) : ∀ (L : List Cell) (a : Nat), L.foldl (fun n c => n + f c) a = a + (L.map f).sum
  | [], a => by simp
  | c :: L, a => by
    rw [List.foldl_cons, lsum_foldl f L, List.map_cons, List.sum_cons]
    omega
theorem allSl_eq (H : Heap) : allSl H = (H.toList.map (fun c => c.slots.size)).sum := by
  unfold allSl
  rw [← Array.foldl_toList, lsum_foldl, Nat.zero_add]
/-- what is made is what is booked at most -/
theorem sl_new {s t : State} {L : List Loc} {k n : Nat} (h : s.sameButNew t L k n) : allSl t.heap ≤ allSl s.heap + n := by
  obtain ⟨_, h1, _, _, h5, h6⟩ := h
  rw [allSl_eq, allSl_eq]
  have e : t.heap.toList = t.heap.toList.take s.heap.size ++ t.heap.toList.drop s.heap.size := (List.take_append_drop _ _).symm
  have e2 : (t.heap.toList.take s.heap.size).map (fun c => c.slots.size) = s.heap.toList.map (fun c => c.slots.size) := by
    apply List.ext_getElem?
    intro i
    rw [List.getElem?_map, List.getElem?_map]
    by_cases hi : i < s.heap.size
    · have g1 : s.heap[i]? = some (s.heap[i]'hi) := Array.getElem?_eq_getElem hi
      obtain ⟨c', g2, _, g3, _⟩ := h6 i _ g1
      rw [List.getElem?_take_of_lt hi, Array.getElem?_toList, Array.getElem?_toList, g1, g2, Option.map_some, Option.map_some, g3]
    · rw [List.getElem?_eq_none (by rw [List.length_take, Array.length_toList]; omega), List.getElem?_eq_none (by rw [Array.length_toList]; omega)]
  rw [e, List.map_append, List.sum_append, e2]
  exact Nat.add_le_add_left h5 _
def va_Qg {S : Type} (rv : S → Option Value) (post : S → Prop) (B : S → State → Prop) (A : Nat → Prop) : Array Value → State → Outcome → State → Prop := fun _ st oc t => (∃ u : S, oc = .returned (rv u) ∧ post u ∧ B u t) ∧ va_F A st t
abbrev CG {S : Type} (l : Launch) (y : MethodName) (cc : ByteArray) (n : Nat) (ret : Option FieldType) (rm : Room) (as : List Value) (G : va_G) (k : Nat → ClassId) (sz sl : Nat) (wi : va_W) (rv : S → Option Value) (post : S → Prop) (wo : S → va_W) (cu nu : S → Nat) (mc ms : Nat) : Prop :=
  Met l y (wy y cc n ret) rm (va_Pc as (Prg G k sz sl wi)) (va_Qg rv post (Pog G k (va_A wi sz) wo sz sl cu nu) (va_A wi sz)) mc ms (va_A wi sz)
section CGS
variable {l : Launch} {y : MethodName} {cc : ByteArray} {n : Nat} {ret : Option FieldType} {rm : Room} {as : List Value} {G : va_G} {k : Nat → ClassId} {sz sl : Nat} {wi : va_W} {mc ms : Nat}
theorem range_some (ws : va_W) : (List.range ws.length).map (fun i => ws[i]?) = ws.map some := by
  apply List.ext_getElem?
  intro i
  rw [List.getElem?_map, List.getElem?_map]
  by_cases h : i < ws.length
  · rw [List.getElem?_range h, Option.map_some, List.getElem?_eq_getElem h, Option.map_some]
  · rw [List.getElem?_eq_none (by rw [List.length_range]; omega), List.getElem?_eq_none (by omega)]; rfl
theorem cg_frame {S : Type} {rv : S → Option Value} {post : S → Prop} {wo : S → va_W} {cu nu : S → Nat} (wf : va_W) (h : CG l y cc n ret rm as G k sz sl wi rv post wo cu nu mc ms) : CG l y cc n ret rm as G k sz sl (wi ++ wf) rv post (fun u => wo u ++ wf) cu nu mc ms := by
  have left : ∀ {i : Nat} {q : Nat × va_E}, wi[i]? = some q → (wi ++ wf)[i]? = some q := fun {i q} hk => by rw [List.getElem?_append_left (List.getElem?_eq_some_iff.mp hk).1]; exact hk
  have mon : ∀ q, va_A wi sz q → va_A (wi ++ wf) sz q := by
    intro q hq
    rcases hq with ⟨i, e, hi⟩ | hq
    · exact Or.inl ⟨i, e, left hi⟩
    · exact Or.inr hq
  refine Jvm.Free.MetFree.mono h (fun a s hp => ?_) (fun _ _ _ _ _ x => x) (fun a s o t hp hh => ?_)
  · obtain ⟨e1, ⟨h1, h2, h3, h4⟩, h5⟩ := hp
    exact ⟨e1, ⟨h1, fun k q hk => h2 k q (left hk), h3, ⟨fun i j p q hi hj e => h4.1 i j p q (left hi) (left hj) e, fun _ _ _ => trivial⟩⟩, h5⟩
  · obtain ⟨e1, ⟨h1, h2, h3, h4⟩, h5⟩ := hp
    obtain ⟨⟨⟨u, g1, g2, ⟨g3, g4, g5⟩, g6, g7⟩, g8, g9⟩, L, gL, gF⟩ := hh
    have hj := va_joinQ (A0 := va_A (wi ++ wf) sz) (X := wi) (cx := wi) (wr := []) (w1 := wo u) (pl := wf) (H := s.heap) (H1 := t.heap) h2 (h4.self (sz := sz)) (List.range wi.length) [] (range_some wi) rfl rfl (fun i hi => absurd hi (by simp)) (fun q hq hn => g9 q hq (by rw [h1] at hn; exact hn)) (by rw [h1]; exact mon) g3 (by rw [h1]; exact g5)
    exact ⟨⟨⟨u, g1, g2, ⟨hj.1, g4, hj.2⟩, g6, g7⟩, g8, fun q hq hn => g9 q hq (fun z => hn (mon q z))⟩, L, gL, fun q hq => mon _ (gF q hq)⟩
theorem vaP_perm {ws ws' : va_W} {H : Heap} (h : ws.Perm ws') (hP : va_P G cls ws H) : va_P G cls ws' H := fun k q hk => by
  obtain ⟨i, hi⟩ := List.getElem?_of_mem (h.mem_iff.mpr (List.mem_of_getElem? hk))
  exact hP i q hi
theorem vaD_perm {A : Nat → Prop} {ws ws' : va_W} (h : ws.Perm ws') (hD : va_D A ws) : va_D A ws' := by
  have h1 := vaD_iff.mp hD
  exact vaD_iff.mpr ⟨(h.map _).nodup_iff.mp h1.1, fun q hq => h1.2 q (h.mem_iff.mpr hq)⟩
theorem vaA_perm {ws ws' : va_W} (h : ws.Perm ws') (sz : Nat) : va_A ws sz = va_A ws' sz := by
  have key : ∀ {a b : va_W}, a.Perm b → ∀ q, va_A a sz q → va_A b sz q := by
    intro a b hab q hq
    rcases hq with ⟨i, e, hi⟩ | hq
    · obtain ⟨j, hj⟩ := List.getElem?_of_mem (hab.mem_iff.mp (List.mem_of_getElem? hi))
      exact Or.inl ⟨j, e, hj⟩
    · exact Or.inr hq
  exact funext (fun q => propext ⟨key h q, key h.symm q⟩)
theorem cg_perm {S : Type} {rv : S → Option Value} {post : S → Prop} {wo : S → va_W} {cu nu : S → Nat} {wi' : va_W} (hw : wi.Perm wi') (h : CG l y cc n ret rm as G k sz sl wi rv post wo cu nu mc ms) : CG l y cc n ret rm as G k sz sl wi' rv post wo cu nu mc ms := by
  have e := vaA_perm hw sz
  unfold CG at h ⊢
  rw [← e]
  refine Jvm.Free.MetFree.mono h (fun a s hp => ?_) (fun _ _ _ _ _ x => x) (fun a s o t hp hh => hh)
  obtain ⟨e1, ⟨h1, h2, h3, h4⟩, h5⟩ := hp
  exact ⟨e1, ⟨h1, vaP_perm hw.symm h2, h3, vaD_perm hw.symm h4⟩, h5⟩
theorem cg_imp {S S' : Type} {rv : S → Option Value} {post : S → Prop} {wo : S → va_W} {cu nu : S → Nat} {rv' : S' → Option Value} {post' : S' → Prop} {wo' : S' → va_W} {cu' nu' : S' → Nat} (h : CG l y cc n ret rm as G k sz sl wi rv post wo cu nu mc ms) (hq : ∀ u, post u → ∃ u', post' u' ∧ rv' u' = rv u ∧ (wo u).Perm (wo' u') ∧ cu u ≤ cu' u' ∧ nu u ≤ nu' u') : CG l y cc n ret rm as G k sz sl wi rv' post' wo' cu' nu' mc ms := by
  refine Jvm.Free.MetFree.mono h (fun _ _ x => x) (fun _ _ _ _ _ x => x) (fun a s o t hp hh => ?_)
  obtain ⟨⟨⟨u, g1, g2, ⟨g3, g4, g5⟩, g6, g7⟩, g8⟩, gL⟩ := hh
  obtain ⟨u', q1, q2, q3, q4, q5⟩ := hq u g2
  exact ⟨⟨⟨u', by rw [q2]; exact g1, q1, ⟨vaP_perm q3 g3, g4, vaD_perm q3 g5⟩, Nat.le_trans g6 (Nat.add_le_add_left q4 _), Nat.le_trans g7 (Nat.add_le_add_left q5 _)⟩, g8⟩, gL⟩
/-- contracts of the other forms -/
theorem cg_v {S : Type} {post : S → Prop} {wo : S → va_W} (h : CV l y cc n rm as G k sz wi post wo mc ms) : CG l y cc n none rm as G k sz sl wi (fun _ => none) post wo (fun _ => mc) (fun _ => ms) mc ms := by
  refine Jvm.Free.MetFree.mono h (fun a s hp => ⟨hp.1, hp.2.1⟩) (fun _ _ _ _ _ x => x) (fun a s o t hp hh => ?_)
  obtain ⟨⟨⟨u, g1, g2, g3⟩, g8⟩, L, gL, gF⟩ := hh
  obtain ⟨e1, ⟨h1, h2, h3, h4⟩, h5⟩ := hp
  refine ⟨⟨⟨u, g1, g2, g3, ?_, ?_⟩, g8⟩, L, gL, gF⟩
  · have := gL.2.2.2.2.1; rw [h1] at this; exact this
  · have := sl_new gL.2.2; rw [h5] at this; exact this
theorem cg_i {S : Type} {rt : FieldType} {post : Int32 → S → Prop} {wo : S → va_W} (h : CI l y cc n rt rm as G k sz wi post wo mc ms) : CG l y cc n (some rt) rm as G k sz sl wi (fun u : Int32 × S => some (.int u.1)) (fun u => post u.1 u.2) (fun u => wo u.2) (fun _ => mc) (fun _ => ms) mc ms := by
  refine Jvm.Free.MetFree.mono h (fun a s hp => ⟨hp.1, hp.2.1⟩) (fun _ _ _ _ _ x => x) (fun a s o t hp hh => ?_)
  obtain ⟨⟨⟨r, u, g1, g2, g3⟩, g8⟩, L, gL, gF⟩ := hh
  obtain ⟨e1, ⟨h1, h2, h3, h4⟩, h5⟩ := hp
  refine ⟨⟨⟨(r, u), g1, g2, g3, ?_, ?_⟩, g8⟩, L, gL, gF⟩
  · have := gL.2.2.2.2.1; rw [h1] at this; exact this
  · have := sl_new gL.2.2; rw [h5] at this; exact this
theorem cg_l {S : Type} {post : Int64 → S → Prop} {wo : S → va_W} (h : CL l y cc n rm as G k sz wi post wo mc ms) : CG l y cc n (some .long) rm as G k sz sl wi (fun u : Int64 × S => some (.long u.1)) (fun u => post u.1 u.2) (fun u => wo u.2) (fun _ => mc) (fun _ => ms) mc ms := by
  refine Jvm.Free.MetFree.mono h (fun a s hp => ⟨hp.1, hp.2.1⟩) (fun _ _ _ _ _ x => x) (fun a s o t hp hh => ?_)
  obtain ⟨⟨⟨r, u, g1, g2, g3⟩, g8⟩, L, gL, gF⟩ := hh
  obtain ⟨e1, ⟨h1, h2, h3, h4⟩, h5⟩ := hp
  refine ⟨⟨⟨(r, u), g1, g2, g3, ?_, ?_⟩, g8⟩, L, gL, gF⟩
  · have := gL.2.2.2.2.1; rw [h1] at this; exact this
  · have := sl_new gL.2.2; rw [h5] at this; exact this
end CGS
section CGR
variable {p : Program} {l : Launch} {e : Env} {R : Room} {s : State} {m : MethodId} {args : Array Value} {below : List Frame} {meth : Method} {c : Code} {H : Heap} {locs : List Loc} {cells slots : Nat} {Q : State → Prop}
variable {cc : ByteArray} {own nm : String} {nL : Nat} {ret : Option FieldType} {G : va_G} {k : Nat → ClassId} {A : Nat → Prop} {ws X : va_W} {pc : Nat} {ls : Array Slot} {rest : List Value} {a : Nat}
theorem q_vret {S : Type} {post : S → Prop} {wo : S → va_W} {cu nu : S → Nat} {sz sl : Nat} (C : Cx p s m args meth c cc own nL none nm) (K : Kn G k s) (hg : s.heap.size = sz ∧ allSl s.heap = sl) (u : S) (hp : post u) (St : Sw G A s.heap H locs (wo u)) (hdg : decode cc pc = .ok (.return_, 1)) {mc ms : Nat} (c1 : cells ≤ cu u) (c2 : slots ≤ nu u) (h1 : cells ≤ mc) (h2 : slots ≤ ms) : W p l e R s m args below meth c H locs cells slots (MQ below (va_Qg (fun _ => none) post (Pog G k A wo sz sl cu nu) A) args s mc ms A) (F0 m pc ls []) :=
  W.know (fun g1 g2 => W.widen h1 h2 (W.vret C.1 C.2.1 C.2.2.2.2.2.1 (fun t ht hW => ⟨⟨u, rfl, hp, ⟨by rw [ht]; exact St.1, K.warm hW, St.2.1⟩, by rw [ht, ← hg.1]; omega, by rw [ht, ← hg.2]; omega⟩, St.2.2.F ht⟩) St.2.2.2.2 hdg (hlocks := C.2.2.2.2.2.2.1)))
theorem q_iret {S : Type} {rv : S → Option Value} {post : S → Prop} {wo : S → va_W} {cu nu : S → Nat} {sz sl : Nat} {rt : FieldType} (C : Cx p s m args meth c cc own nL (some rt) nm) (K : Kn G k s) (hg : s.heap.size = sz ∧ allSl s.heap = sl) {v : Int32} (hn : narrow rt (.int v) = .int v) (u : S) (hv : some (.int v) = rv u) (hp : post u) (St : Sw G A s.heap H locs (wo u)) (hdg : decode cc pc = .ok (.ireturn, 1)) {mc ms : Nat} (c1 : cells ≤ cu u) (c2 : slots ≤ nu u) (h1 : cells ≤ mc) (h2 : slots ≤ ms) : W p l e R s m args below meth c H locs cells slots (MQ below (va_Qg rv post (Pog G k A wo sz sl cu nu) A) args s mc ms A) (F0 m pc ls [.int v]) :=
  W.know (fun g1 g2 => W.widen h1 h2 (W.zret C.1 C.2.1 C.2.2.2.2.2.1 hn (fun t ht hW => ⟨⟨u, by rw [← hv], hp, ⟨by rw [ht]; exact St.1, K.warm hW, St.2.1⟩, by rw [ht, ← hg.1]; omega, by rw [ht, ← hg.2]; omega⟩, St.2.2.F ht⟩) St.2.2.2.2 hdg (hlocks := C.2.2.2.2.2.2.1)))
theorem q_lret {S : Type} {rv : S → Option Value} {post : S → Prop} {wo : S → va_W} {cu nu : S → Nat} {sz sl : Nat} (C : Cx p s m args meth c cc own nL (some .long) nm) (K : Kn G k s) (hg : s.heap.size = sz ∧ allSl s.heap = sl) {v : Int64} (u : S) (hv : some (.long v) = rv u) (hp : post u) (St : Sw G A s.heap H locs (wo u)) (hdg : decode cc pc = .ok (.lreturn, 1)) {mc ms : Nat} (c1 : cells ≤ cu u) (c2 : slots ≤ nu u) (h1 : cells ≤ mc) (h2 : slots ≤ ms) : W p l e R s m args below meth c H locs cells slots (MQ below (va_Qg rv post (Pog G k A wo sz sl cu nu) A) args s mc ms A) (F0 m pc ls [.long v]) :=
  W.know (fun g1 g2 => W.widen h1 h2 (W.lret C.1 C.2.1 C.2.2.2.2.2.1 (fun t ht hW => ⟨⟨u, by rw [← hv], hp, ⟨by rw [ht]; exact St.1, K.warm hW, St.2.1⟩, by rw [ht, ← hg.1]; omega, by rw [ht, ← hg.2]; omega⟩, St.2.2.F ht⟩) St.2.2.2.2 hdg (hlocks := C.2.2.2.2.2.2.1)))
theorem q_aret {S : Type} {rv : S → Option Value} {post : S → Prop} {wo : S → va_W} {cu nu : S → Nat} {sz sl : Nat} {rt : FieldType} (C : Cx p s m args meth c cc own nL (some rt) nm) (hrt : (∃ N, rt = .object N) ∨ ∃ t0, rt = .array t0) (K : Kn G k s) (hg : s.heap.size = sz ∧ allSl s.heap = sl) {b : Nat} (u : S) (hv : some (.ref b) = rv u) (hp : post u) (St : Sw G A s.heap H locs (wo u)) (hdg : decode cc pc = .ok (.areturn, 1)) {mc ms : Nat} (c1 : cells ≤ cu u) (c2 : slots ≤ nu u) (h1 : cells ≤ mc) (h2 : slots ≤ ms) : W p l e R s m args below meth c H locs cells slots (MQ below (va_Qg rv post (Pog G k A wo sz sl cu nu) A) args s mc ms A) (F0 m pc ls [.ref b]) :=
  W.know (fun g1 g2 => W.widen h1 h2 (W.aret C.1 C.2.1 C.2.2.2.2.2.1 hrt (Or.inr ⟨b, rfl⟩) (fun t ht hW => ⟨⟨u, by rw [← hv], hp, ⟨by rw [ht]; exact St.1, K.warm hW, St.2.1⟩, by rw [ht, ← hg.1]; omega, by rw [ht, ← hg.2]; omega⟩, St.2.2.F ht⟩) St.2.2.2.2 hdg (hlocks := C.2.2.2.2.2.2.1)))
theorem va_callg {S : Type} {rv : S → Option Value} {post : S → Prop} {B : S → State → Prop} {mc ms : Nat} {st0 : List Value} {av : Array Value} {A0 A1 : Nat → Prop} {H0 : Heap} {free : Addr → Prop} (hr : va_Run p l e R s m args below meth c H locs cells slots mc ms (F0 m pc ls st0) rest (va_Qg rv post B A1 av) free) (hS : va_S A0 H0 H locs) (hA : ∀ q, q < H.size → A1 q → A0 q) (hf : ∀ q, free q → A0 q)
    (kk : ∀ (u : S) (t : State) (H1 : Heap) (locs1 : List Loc), t.heap = H1 → post u → B u t → H.size ≤ H1.size → (∀ q : Nat, q < H.size → ¬ A1 q → H1[q]? = H[q]?) → va_S A0 H0 H1 locs1 → W p l e R s m args below meth c H1 locs1 (cells + mc) (slots + ms) Q (F0 m (pc + 3) ls ((rv u).toList ++ rest))) : W p l e R s m args below meth c H locs cells slots Q (F0 m pc ls st0) := by
  intro T hT X
  obtain ⟨v, st₀, t, T', L, h0, X', hL, e1, e2, ⟨⟨u, hv, hp, hb⟩, hz, hk⟩, st⟩ := hr T hT X
  cases hv
  rw [h0] at hz hk
  obtain ⟨t2, a1, b1⟩ := kk u t T'.heap (locs ++ L) e1.symm hp hb (by rw [e1]; exact hz) (fun q h1 h2 => by rw [e1]; exact hk q h1 h2)
    ⟨Nat.le_trans hS.1 (by rw [e1]; exact hz), fun q h1 h2 => by rw [e1, hk q (Nat.lt_of_lt_of_le h1 hS.1) (fun z => h2 (hA q (Nat.lt_of_lt_of_le h1 hS.1) z))]; exact hS.2.1 q h1 h2, fun q hq => by
      rcases List.mem_append.mp hq with h | h
      · exact hS.2.2 q h
      · exact hf _ (hL q h)⟩ T' rfl X'
  exact ⟨t2, st t2 a1, b1⟩
theorem q_back0 {S : Type} {rv : S → Option Value} {post : S → Prop} {wo : S → va_W} {cu nu : S → Nat} {wi wr : va_W} (St : Sw G A s.heap H locs ws) (hA : ∀ q, s.heap.size ≤ q → A q) (isC isR : List Nat) (hC : isC.map (fun i => ws[i]?) = wi.map some) (hR : isR.map (fun i => ws[i]?) = wr.map some) (hn : va_nd isR = true) (hdis : ∀ i ∈ isR, i ∉ isC) {mc ms : Nat} {av : Array Value} {st0 : List Value} (hr : va_Run p l e R s m args below meth c H locs cells slots mc ms (F0 m pc ls st0) rest (va_Qg rv post (Pog G k (va_A wi H.size) wo H.size (allSl H) cu nu) (va_A wi H.size) av) (va_A wi H.size))
    (kk : ∀ (u : S) (H1 : Heap) (locs1 : List Loc), post u → Sw G A s.heap H1 locs1 (wr ++ wo u) → W p l e R s m args below meth c H1 locs1 (cells + cu u) (slots + nu u) Q (F0 m (pc + 3) ls ((rv u).toList ++ rest))) : W p l e R s m args below meth c H locs cells slots Q (F0 m pc ls st0) := by
  have hF := va_free (wc := wi) St.2.1 St.2.2 hA isC hC
  refine W.know (fun g1 g2 => ?_)
  refine va_callg hr St.2.2 (fun q _ h => hF q h) hF (fun u t H1 l1 ht hp hB hz hk hS => ?_)
  obtain ⟨hP, hD⟩ := va_join (wr := wr) (w1 := wo u) St.1 St.2.1 isC isR hC hR hn hdis hk hF (by rw [← ht]; exact hB.1.1) hB.1.2.2
  have e1 := hB.2.1
  have e2 := hB.2.2
  rw [ht] at e1 e2
  exact W.real (by omega) (by omega) (kk u H1 l1 hp ⟨hP, hD, hS⟩)
theorem q_backP {S : Type} {rv : S → Option Value} {post : S → Prop} {wo pl1 : S → va_W} {cu nu : S → Nat} {wi wr pl : va_W} (St : Sw G A s.heap H locs (X ++ pl)) (hA : ∀ q, s.heap.size ≤ q → A q) (isC isR : List Nat) (hC : isC.map (fun i => X[i]?) = wi.map some) (hR : isR.map (fun i => X[i]?) = wr.map some) (hn : va_nd isR = true) (hdis : ∀ i ∈ isR, i ∉ isC) {mc ms : Nat} {av : Array Value} {st0 : List Value} (hr : va_Run p l e R s m args below meth c H locs cells slots mc ms (F0 m pc ls st0) rest (va_Qg rv post (Pog G k (va_A (wi ++ pl) H.size) (fun u => wo u ++ pl1 u) H.size (allSl H) cu nu) (va_A (wi ++ pl) H.size) av) (va_A (wi ++ pl) H.size))
    (kk : ∀ (u : S) (H1 : Heap) (locs1 : List Loc), post u → Sw G A s.heap H1 locs1 ((wr ++ wo u) ++ pl1 u) → W p l e R s m args below meth c H1 locs1 (cells + cu u) (slots + nu u) Q (F0 m (pc + 3) ls ((rv u).toList ++ rest))) : W p l e R s m args below meth c H locs cells slots Q (F0 m pc ls st0) := by
  have hF := va_freeP (cx := wi) St.2.1 St.2.2 hA isC hC
  refine W.know (fun g1 g2 => ?_)
  refine va_callg hr St.2.2 (fun q _ h => hF q h) hF (fun u t H1 l1 ht hp hB hz hk hS => ?_)
  obtain ⟨hP, hD⟩ := va_joinP (wr := wr) (rx := wo u) (pl1 := pl1 u) St.1 St.2.1 isC isR hC hR hn hdis hk hF (by rw [← ht]; exact hB.1.1) hB.1.2.2
  have e1 := hB.2.1
  have e2 := hB.2.2
  rw [ht] at e1 e2
  exact W.real (by omega) (by omega) (kk u H1 l1 hp ⟨hP, hD, hS⟩)
theorem pr_nowGP (K : Kn G k s) {pl : va_W} (S : Sw G A s.heap H locs (X ++ pl)) {wi : va_W} (is : List Nat) (hn : va_nd is = true) (hs : is.map (fun i => X[i]?) = wi.map some) {as : List Value} : PreS s H (va_Pc as (Prg G k H.size (allSl H) (wi ++ pl))) as := ⟨prg_blind, fun U hU hW => ⟨rfl, ((pr_nowP K S is hn hs (as := as)).2 U hU hW).2, by rw [hU]⟩⟩
theorem pr_nowVGP (K : Kn G k s) {pl : va_W} (S : Sw G A s.heap H locs (X ++ pl)) {wi : va_W} (is : List Nat) (hn : va_nd is = true) (hs : is.map (fun i => X[i]?) = wi.map some) {b : Nat} {as : List Value} {ci : Nat} {fs : List Value} (he : (b, .inr (ci, fs)) ∈ X ++ pl) {q : vw_C} (hc : cls[ci]? = some q) : PreV s H q.1 b (va_Pc (.ref b :: as) (Prg G k H.size (allSl H) (wi ++ pl))) as := by
  obtain ⟨q0, hq⟩ := List.getElem?_of_mem he
  exact ⟨prg_blind, va_recv K.1 S.1 hc hq, (pr_nowGP K S is hn hs).2⟩
/-- a copy of an array's first elements into another -/
theorem r_copyI (C : Cx p s m args meth c cc own nL ret nm) (K : Kn G k s) (S : Sw G A s.heap H locs ws) (hs : ls.size = nL) {index : Nat} (hl : Cond.methodLink own index arraycopyName ∈ gt) (hnat : Cond.native arraycopyName ∈ gt) (hst : Cond.static arraycopyName ∈ gt) (hin : Cond.initialized "java/lang/System" ∈ gt) (q0 q1 : Nat) {a0 n0 n1 : Nat} {f g : Nat → Int32} (h0 : ws[q0]? = some (a0, .inl (k 0, n0, .inl f))) (h1 : ws[q1]? = some (a, .inl (k 0, n1, .inl g))) {w : Int32} (hw : ¬ w < 0) (hw0 : w.toNatClampNeg ≤ n0) (hw1 : w.toNatClampNeg ≤ n1) (hf : 1 ≤ R.frames) (hlo : (rest.map fun v => v.category).sum + (nativeFrameWords "java/lang/System" "arraycopy" 5 + 11) ≤ R.locals) (hdg : decode cc pc = .ok (.invokestatic index, 3)) {ws' : va_W} {g' : Nat → Int32} (hg' : ∀ i, i < n1 → g' i = if i < w.toNatClampNeg then f i else g i) (hws : ws.set q1 (a, .inl (k 0, n1, .inl g')) = ws')
    (kk : ∀ (H1 : Heap) (locs1 : List Loc), Sw G A s.heap H1 locs1 ws' → W p l e R s m args below meth c H1 locs1 cells slots Q (F0 m (pc + 3) ls rest)) : W p l e R s m args below meth c H locs cells slots Q (F0 m pc ls (.int w :: .int 0 :: .ref a :: .int 0 :: .ref a0 :: rest)) := by
  refine va_copyi C.1 C.2.1 (by rw [C.2.2.1, hs]) C.2.2.2.1 (C.2.2.2.2.1 _ hl) (C.2.2.2.2.1 _ hnat) (C.2.2.2.2.1 _ hst) (C.2.2.2.2.1 _ hin) K.1 S.1 S.2.1 S.2.2 q0 q1 0 0 h0 h1 (ty := .int) rfl rfl rfl (by decide) (by decide) hw ?_ ?_ (fun i _ => rfl) hf hlo hdg (fun H1 l1 a1 a2 a3 => ?_)
  · rw [show (0 : Int32).toNatClampNeg = 0 by decide]; omega
  · rw [show (0 : Int32).toNatClampNeg = 0 by decide]; omega
  · have hq1 : q1 < ws.length := (List.getElem?_eq_some_iff.mp h1).1
    have S1 : Sw G A s.heap H1 l1 _ := ⟨a1, a2, a3⟩
    refine kk H1 l1 (Sw.arr S1 q1 (List.getElem?_set_self hq1) (f' := g') (fun i hi => ?_) (by rw [List.set_set]; exact hws))
    rw [hg' i hi]
    unfold va_cpy
    rw [show (0 : Int32).toNatClampNeg = 0 by decide]
    by_cases q : i < w.toNatClampNeg
    · simp [q]
    · simp [q]
end CGR
