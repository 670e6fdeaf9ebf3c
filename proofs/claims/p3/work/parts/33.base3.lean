/-! rows for arrays of longs and booleans, and for static calls -/
section ROWS3
variable {p : Program} {l : Launch} {e : Env} {R : Room} {s : State} {m : MethodId} {args : Array Value} {below : List Frame} {meth : Method} {c : Code} {H : Heap} {locs : List Loc} {cells slots : Nat} {Q : State → Prop}
variable {cc : ByteArray} {own nm : String} {nL : Nat} {ret : Option FieldType} {G : va_G} {k : Nat → ClassId} {A : Nat → Prop} {ws : va_W} {pc : Nat} {ls : Array Slot} {rest : List Value} {a : Nat}
theorem r_lald (C : Cx p s m args meth c cc own nL ret nm) (K : Kn G k s) (S : Sw G A s.heap H locs ws) (q0 : Nat) {n : Nat} {f : Nat → Int64} (ha : ws[q0]? = some (a, .inl (k 1, n, .inr (.inl f)))) {i : Int32} (hin : vp_in i n) {v : Int64} (hv : f i.toNatClampNeg = v) (hdg : decode cc pc = .ok (.laload, 1))
    (kk : W p l e R s m args below meth c H locs cells slots Q (F0 m (pc + 1) ls (.long v :: rest))) : W p l e R s m args below meth c H locs cells slots Q (F0 m pc ls (.int i :: .ref a :: rest)) :=
  va_lald C.1 C.2.1 K.1 S.1 q0 1 ha rfl hin hdg (by rw [hv]; exact kk)
theorem r_last (C : Cx p s m args meth c cc own nL ret nm) (K : Kn G k s) (S : Sw G A s.heap H locs ws) (q0 : Nat) {n : Nat} {f : Nat → Int64} (ha : ws[q0]? = some (a, .inl (k 1, n, .inr (.inl f)))) {i : Int32} {x : Int64} (hin : vp_in i n) {f' : Nat → Int64} {ws' : va_W} (h1 : vp_updL f i.toNatClampNeg x = f') (h2 : ws.set q0 (a, .inl (k 1, n, .inr (.inl f'))) = ws') (hdg : decode cc pc = .ok (.lastore, 1))
    (kk : ∀ (H1 : Heap) (locs1 : List Loc), Sw G A s.heap H1 locs1 ws' → W p l e R s m args below meth c H1 locs1 cells slots Q (F0 m (pc + 1) ls rest)) : W p l e R s m args below meth c H locs cells slots Q (F0 m pc ls (.long x :: .int i :: .ref a :: rest)) := by
  subst h1; subst h2
  exact va_last C.1 C.2.1 K.1 S.1 S.2.1 S.2.2 q0 1 ha rfl hin hdg (fun H1 l1 a1 a2 a3 => kk H1 l1 ⟨a1, a2, a3⟩)
theorem r_zald (C : Cx p s m args meth c cc own nL ret nm) (K : Kn G k s) (S : Sw G A s.heap H locs ws) (q0 : Nat) {n : Nat} {f : Nat → Int32} (ha : ws[q0]? = some (a, .inl (k 2, n, .inl f))) {i : Int32} (hin : vp_in i n) {v : Int32} (hv : f i.toNatClampNeg = v) (hdg : decode cc pc = .ok (.baload, 1))
    (kk : W p l e R s m args below meth c H locs cells slots Q (F0 m (pc + 1) ls (.int v :: rest))) : W p l e R s m args below meth c H locs cells slots Q (F0 m pc ls (.int i :: .ref a :: rest)) :=
  va_zald C.1 C.2.1 K.1 S.1 q0 2 ha rfl hin hdg (by rw [hv]; exact kk)
theorem k_stat (C : Cx p s m args meth c cc own nL ret nm) {y : MethodName} {bytes : ByteArray} {maxL mc ms n index : Nat} {rm : Room} {rt : Option FieldType} (hw : Cond.code y bytes maxL rt ∈ gt) (hrc : rm.cells = mc) (hrs : rm.slots = ms) (hz : Cond.initialized y.cls ∈ gt) (hl : Cond.methodLink own index y ∈ gt) (ht : Cond.static y ∈ gt) (hd : y.cls ≠ "java/lang/invoke/MethodHandle" ∧ y.cls ≠ "java/lang/invoke/VarHandle" ∧ (parseMethodDescriptor y.desc).map (fun d => d.parameters.length) = some n) (hR : rm.frames + 1 ≤ R.frames ∧ 8 + (maxL + 11) + rm.locals ≤ R.locals) : CallB R s args own index y bytes maxL rt (wy y bytes maxL rt) rm mc ms n ∧ (Cond.static y).before args s = true :=
  ⟨callB_of n C.2.2.2.2.1 (gt_self hw) rfl hrc hrs (C.2.2.2.2.1 _ hz) (C.2.2.2.2.1 _ hl) hd hR, C.2.2.2.2.1 _ ht⟩
end ROWS3
theorem vp_updL_eq (f : Nat → Int64) {j : Nat} (hj : j < 2 ^ 31) (v : Int64) : vp_updL f (nI j).toNatClampNeg v = va_up f j v := by
  rw [nI_clamp hj]
  funext i
  by_cases q : i = j
  · rw [q, pk_uLs, va_up_self]
  · rw [pk_uLn q, va_up_ne f v q]
