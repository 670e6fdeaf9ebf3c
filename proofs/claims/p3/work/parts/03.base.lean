/-! the place's own rows over the kit's: one list of words for all methods, one world, one form of contract -/
/-- the array classes that the worlds use -/
abbrev tyl (k : Nat → ClassId) : List (ClassId × FieldType) := [(k 0, .int), (k 1, .long), (k 2, .boolean), (k 3, .object "PotentialBench$Body"), (k 4, .object "PotentialBench$Whole"), (k 5, .array .int)]
def nxOk : Cond → Bool
  | .fieldLinkNest .. => true
  | .methodLinkNest .. => true
  | _ => false
theorem nx_warm {w : Cond} (h : nxOk w = true) {s U : State} (hW : s.WarmedH U.vm) (hZ : va_Nw w s) : va_Nw w U := by
  cases w <;> simp [nxOk] at h
  · exact va_Nw.warmM hW hZ
  · exact va_Nw.warmF hW hZ
theorem nx_tab {w : Cond} (h : nxOk w = true) : w.onTables = true := by
  cases w <;> simp [nxOk] at h <;> rfl
/-- an array class over arrays of ints is known -/
def ao_I (U : State) : Prop := (Cond.arrayOver (.array .int)).before #[] U = true
theorem ao_I_moved {u U : State} (hvm : u.vm.Alike U.vm) (h : ao_I u) : ao_I U := by
  obtain ⟨comp, c, k, h1, h2, h3, h4, h5⟩ := arrayOverA_spec h
  obtain ⟨k', hk', he⟩ := hvm.2.2 _ _ h3
  have hi : (U.vm.classes.findIdx? fun (x : Class) => match x.kind with | .array component _ => component == comp | _ => false) = some c := by
    rw [hvm.findIdx?_eq _ (fun _ => rfl)]
    exact h2
  have hkind : k'.kind = .array comp (.array .int) := by rw [he]; exact h4
  have f1 : U.vm.findClass (FieldType.array .int).toString = some comp := by rw [hvm.findClass]; exact h1
  have f2 : U.vm.findClass ("[" ++ (FieldType.array .int).toString) = some c := by rw [hvm.findClass]; exact h5
  unfold ao_I Cond.before Cond.holds
  simp only [Cond.value]
  rw [f1, Option.bind_some]
  refine (congrArg (fun o : Option Nat => (o.bind (fun c => (U.vm.classes[c]?).map fun (k : Class) => match k.kind with | .array _ ty => decide (ty = FieldType.array .int) && decide (U.vm.findClass ("[" ++ (FieldType.array .int).toString) = some c) | _ => false) == some true)) hi).trans ?_
  simp [hk', hkind, f2]
/-- what every method knows of the tables besides its words -/
def Kn (G : va_G) (k : Nat → ClassId) (U : State) : Prop := va_K G cls (tyl k) U ∧ (∀ w ∈ tables_1, nxOk w = true → va_Nw w U) ∧ va_AO "PotentialBench$Body" U ∧ va_AO "PotentialBench$Whole" U ∧ ao_I U
theorem Kn.warm {G : va_G} {k : Nat → ClassId} {s U : State} (hW : s.WarmedH U.vm) (h : Kn G k s) : Kn G k U := ⟨va_K.moved hW.alike h.1, fun w hw ho => nx_warm ho hW (h.2.1 w hw ho), va_AO.moved hW.alike h.2.2.1, va_AO.moved hW.alike h.2.2.2.1, ao_I_moved hW.alike h.2.2.2.2⟩
theorem Kn.same {G : va_G} {k : Nat → ClassId} {s U : State} (hv : s.vm = U.vm) (h : Kn G k s) : Kn G k U := by
  have ha : s.vm.Alike U.vm := by rw [← hv]; exact Vm.Alike.refl s.vm
  exact ⟨va_K.moved ha h.1, fun w hw ho => va_Nw.same (nx_tab ho) hv (h.2.1 w hw ho), va_AO.moved ha h.2.2.1, va_AO.moved ha h.2.2.2.1, ao_I_moved ha h.2.2.2.2⟩
/-- a method's start: the heap has sz cells, holds the world wi -/
def Pr (G : va_G) (k : Nat → ClassId) (sz : Nat) (wi : va_W) (U : State) : Prop := U.heap.size = sz ∧ va_P G cls wi U.heap ∧ Kn G k U ∧ va_D (fun _ => True) wi
/-- a method's end: the world wo of its answer -/
def Po {S : Type} (G : va_G) (k : Nat → ClassId) (A : Nat → Prop) (wo : S → va_W) (u : S) (t : State) : Prop := va_P G cls (wo u) t.heap ∧ Kn G k t ∧ va_D A (wo u)
abbrev wy (y : MethodName) (cc : ByteArray) (n : Nat) (r : Option FieldType) : List Cond := Cond.code y cc n r :: gt
/-- contracts: void, int (boolean too), long -/
abbrev CV {S : Type} (l : Launch) (y : MethodName) (cc : ByteArray) (n : Nat) (rm : Room) (as : List Value) (G : va_G) (k : Nat → ClassId) (sz : Nat) (wi : va_W) (post : S → Prop) (wo : S → va_W) (mc ms : Nat) : Prop :=
  Met l y (wy y cc n none) rm (va_Pc as (Pr G k sz wi)) (va_Qv post (Po G k (va_A wi sz) wo) (va_A wi sz)) mc ms (va_A wi sz)
abbrev CI {S : Type} (l : Launch) (y : MethodName) (cc : ByteArray) (n : Nat) (rt : FieldType) (rm : Room) (as : List Value) (G : va_G) (k : Nat → ClassId) (sz : Nat) (wi : va_W) (post : Int32 → S → Prop) (wo : S → va_W) (mc ms : Nat) : Prop :=
  Met l y (wy y cc n (some rt)) rm (va_Pc as (Pr G k sz wi)) (va_Qi post (Po G k (va_A wi sz) wo) (va_A wi sz)) mc ms (va_A wi sz)
abbrev CL {S : Type} (l : Launch) (y : MethodName) (cc : ByteArray) (n : Nat) (rm : Room) (as : List Value) (G : va_G) (k : Nat → ClassId) (sz : Nat) (wi : va_W) (post : Int64 → S → Prop) (wo : S → va_W) (mc ms : Nat) : Prop :=
  Met l y (wy y cc n (some .long)) rm (va_Pc as (Pr G k sz wi)) (va_Ql post (Po G k (va_A wi sz) wo) (va_A wi sz)) mc ms (va_A wi sz)
/-- the heap now: it holds ws, of A alone, and nothing outside A has changed since H0 -/
def Sw (G : va_G) (A : Nat → Prop) (H0 H : Heap) (locs : List Loc) (ws : va_W) : Prop := va_P G cls ws H ∧ va_D A ws ∧ va_S A H0 H locs
theorem Sw.sub {G : va_G} {A : Nat → Prop} {H0 H : Heap} {locs : List Loc} {ws ws' : va_W} (h : Sw G A H0 H locs ws) (is : List Nat) (hn : va_nd is = true) (hs : is.map (fun i => ws[i]?) = ws'.map some) : Sw G A H0 H locs ws' := by
  refine ⟨h.1.sub is ?_, h.2.1.sub is hn hs, h.2.2⟩
  have h1 : (is.map (fun i => ws[i]?)).filterMap id = (ws'.map some).filterMap id := by rw [hs]
  simpa [List.filterMap_map, Function.comp_def] using h1
/-- what is known inside a method's body -/
def Cx (p : Program) (s : State) (m : MethodId) (args : Array Value) (meth : Method) (c : Code) (cc : ByteArray) (own : String) (nL : Nat) (ret : Option FieldType) (nm : String) : Prop :=
  p.tables.exec = Jvm.exec ∧ c.code = cc ∧ c.maxLocals = nL ∧ s.vm.findClass own = some m.cls ∧ (∀ w ∈ gt, w.before args s = true) ∧ meth.sig.returnType = ret ∧ meth.locks = false ∧ meth.name = nm
section START
variable {l : Launch} {y : MethodName} {cc : ByteArray} {n : Nat} {rm : Room} {as : List Value} {G : va_G} {k : Nat → ClassId} {sz : Nat} {wi : va_W} {mc ms : Nat}
theorem met_start {ret : Option FieldType} {Q : Array Value → State → Outcome → State → Prop} {free : Addr → Prop} (hy : plainName y.cls = true) (ha : (lg_sl as).length ≤ n)
    (body : ∀ p e s m below meth c, Cx p s m as.toArray meth c cc y.cls n ret y.name → Kn G k s → (∀ q : Nat, s.heap.size ≤ q → va_A wi sz q) → s.heap.size = sz → Sw G (va_A wi sz) s.heap s.heap [] wi → ∀ ls, lv_has ls n (lv_args 0 as) →
      W p l e rm s m as.toArray below meth c s.heap [] 0 0 (MQ below Q as.toArray s mc ms free) (F0 m 0 ls [])) : Met l y (wy y cc n ret) rm (va_Pc as (Pr G k sz wi)) Q mc ms free := by
  refine Met.ofW (cc := cc) (maxL := n) (ret := ret) hy rfl ?_
  intro p e s m args below meth c s₁ B hml hv
  obtain ⟨rfl, hsz, hP, hK, hD0⟩ := hv
  have hts := atoms_spec (ws := wy y cc n ret) B.pre
  have hnm := name_of_methodNamed B.named B.method
  have hD := hD0.self (sz := sz)
  rw [lg_entry_eq]
  exact body p e s m below meth c ⟨B.exec, B.bytes, hml, findClass_of_methodNamed B.named, fun w h => hts w (List.mem_cons_of_mem _ h), B.returns, B.notSynchronized, hnm.1⟩ hK (fun q h => Or.inr (by rw [← hsz]; exact h)) hsz ⟨hP, hD, va_S.rf⟩ _ (lv_entry as ha)
end START
section ROWS
variable {p : Program} {l : Launch} {e : Env} {R : Room} {s : State} {m : MethodId} {args : Array Value} {below : List Frame} {meth : Method} {c : Code} {H : Heap} {locs : List Loc} {cells slots : Nat} {Q : State → Prop}
variable {cc : ByteArray} {own nm : String} {nL : Nat} {ret : Option FieldType} {G : va_G} {k : Nat → ClassId} {A : Nat → Prop} {ws : va_W} {pc : Nat} {ls : Array Slot} {rest : List Value} {a : Nat}
/-- a class's own rows, by its place in cls -/
def clOk (q : vw_C) : Prop := (∀ w ∈ u_ws q.1 q.2.1 q.2.2, w ∈ gt) ∧ ∃ ty : Nat → FieldType, (∀ j, j < q.2.2 → parseFieldDescriptor (q.2.1 j).2.2.1 = some (ty j)) ∧ ∀ a, a < q.2.2 → ∀ b, b < q.2.2 → a ≠ b → (q.2.1 a).2.1 ≠ (q.2.1 b).2.1
theorem r_get (C : Cx p s m args meth c cc own nL ret nm) (K : Kn G k s) (S : Sw G A s.heap H locs ws) (q0 : Nat) {ci : Nat} {fs : List Value} (he : ws[q0]? = some (a, .inr (ci, fs))) {q : vw_C} (hc : cls[ci]? = some q) (hq : clOk q) (f : Nat) (hf : f < q.2.2) {index : Nat} (hlink : Cond.fieldLink own index (q.2.1 f).1 (q.2.1 f).2.1 (q.2.1 f).2.2.1 ∈ gt) {v : Value} (hv : fs[f]? = some v) (hdg : decode cc pc = .ok (.getfield index, 3))
    (kk : W p l e R s m args below meth c H locs cells slots Q (F0 m (pc + 3) ls (v :: rest))) : W p l e R s m args below meth c H locs cells slots Q (F0 m pc ls (.ref a :: rest)) :=
  va_get (C := q.1) (T := q.2.1) (N := q.2.2) C.1 C.2.1 C.2.2.2.2.1 hq.1 C.2.2.2.1 K.1 S.1 q0 he hc f hf (C.2.2.2.2.1 _ hlink) (fun _ h => h) hv hdg kk
theorem r_getN (C : Cx p s m args meth c cc own nL ret nm) (K : Kn G k s) (S : Sw G A s.heap H locs ws) (q0 : Nat) {ci : Nat} {fs : List Value} (he : ws[q0]? = some (a, .inr (ci, fs))) {q : vw_C} (hc : cls[ci]? = some q) (hq : clOk q) (f : Nat) (hf : f < q.2.2) {index : Nat} {host : String} (hlink : Cond.fieldLinkNest own index (q.2.1 f).1 (q.2.1 f).2.1 (q.2.1 f).2.2.1 host ∈ tables_1) {v : Value} (hv : fs[f]? = some v) (hdg : decode cc pc = .ok (.getfield index, 3))
    (kk : W p l e R s m args below meth c H locs cells slots Q (F0 m (pc + 3) ls (v :: rest))) : W p l e R s m args below meth c H locs cells slots Q (F0 m pc ls (.ref a :: rest)) :=
  va_getN (C := q.1) (T := q.2.1) (N := q.2.2) C.1 C.2.1 C.2.2.2.2.1 hq.1 C.2.2.2.1 K.1 S.1 q0 he hc f hf (va_Nw.use rfl (K.2.1 _ hlink rfl)) (fun _ h => h) hv hdg kk
theorem r_put (C : Cx p s m args meth c cc own nL ret nm) (K : Kn G k s) (S : Sw G A s.heap H locs ws) (q0 : Nat) {ci : Nat} {fs : List Value} (he : ws[q0]? = some (a, .inr (ci, fs))) {q : vw_C} (hc : cls[ci]? = some q) (hq : clOk q) (f : Nat) (hf : f < q.2.2) {index : Nat} (hlink : Cond.fieldLink own index (q.2.1 f).1 (q.2.1 f).2.1 (q.2.1 f).2.2.1 ∈ gt) (hfin : (q.2.1 f).2.2.2 = false) {ty : FieldType} {v : Value} (hd : parseFieldDescriptor (q.2.1 f).2.2.1 = some ty) (hn : narrow ty v = v) (hfit : fits ty v = true) (hl : f < fs.length) {fs' : List Value} {ws' : va_W} (h1 : fs.set f v = fs') (h2 : ws.set q0 (a, .inr (ci, fs')) = ws') (hdg : decode cc pc = .ok (.putfield index, 3))
    (kk : ∀ (H1 : Heap) (locs1 : List Loc), Sw G A s.heap H1 locs1 ws' → W p l e R s m args below meth c H1 locs1 cells slots Q (F0 m (pc + 3) ls rest)) : W p l e R s m args below meth c H locs cells slots Q (F0 m pc ls (v :: .ref a :: rest)) := by
  subst h1; subst h2
  obtain ⟨t0, ht0, hn0⟩ := hq.2
  exact va_put (C := q.1) (T := q.2.1) (N := q.2.2) C.1 C.2.1 C.2.2.2.2.1 hq.1 t0 ht0 hn0 C.2.2.2.1 K.1 S.1 S.2.1 S.2.2 q0 he hc f hf (C.2.2.2.2.1 _ hlink) (fun _ h => h) hfin hd hn hfit hl hdg (fun H1 l1 a1 a2 a3 => kk H1 l1 ⟨a1, a2, a3⟩)
theorem r_putN (C : Cx p s m args meth c cc own nL ret nm) (K : Kn G k s) (S : Sw G A s.heap H locs ws) (q0 : Nat) {ci : Nat} {fs : List Value} (he : ws[q0]? = some (a, .inr (ci, fs))) {q : vw_C} (hc : cls[ci]? = some q) (hq : clOk q) (f : Nat) (hf : f < q.2.2) {index : Nat} {host : String} (hlink : Cond.fieldLinkNest own index (q.2.1 f).1 (q.2.1 f).2.1 (q.2.1 f).2.2.1 host ∈ tables_1) (hfin : (q.2.1 f).2.2.2 = false) {ty : FieldType} {v : Value} (hd : parseFieldDescriptor (q.2.1 f).2.2.1 = some ty) (hn : narrow ty v = v) (hfit : fits ty v = true) (hl : f < fs.length) {fs' : List Value} {ws' : va_W} (h1 : fs.set f v = fs') (h2 : ws.set q0 (a, .inr (ci, fs')) = ws') (hdg : decode cc pc = .ok (.putfield index, 3))
    (kk : ∀ (H1 : Heap) (locs1 : List Loc), Sw G A s.heap H1 locs1 ws' → W p l e R s m args below meth c H1 locs1 cells slots Q (F0 m (pc + 3) ls rest)) : W p l e R s m args below meth c H locs cells slots Q (F0 m pc ls (v :: .ref a :: rest)) := by
  subst h1; subst h2
  obtain ⟨t0, ht0, hn0⟩ := hq.2
  exact va_putN (C := q.1) (T := q.2.1) (N := q.2.2) C.1 C.2.1 C.2.2.2.2.1 hq.1 t0 ht0 hn0 C.2.2.2.1 K.1 S.1 S.2.1 S.2.2 q0 he hc f hf (va_Nw.use rfl (K.2.1 _ hlink rfl)) (fun _ h => h) hfin hd hn hfit hl hdg (fun H1 l1 a1 a2 a3 => kk H1 l1 ⟨a1, a2, a3⟩)
theorem r_putF (C : Cx p s m args meth c cc own nL ret "<init>") (K : Kn G k s) (S : Sw G A s.heap H locs ws) (q0 : Nat) {ci : Nat} {fs : List Value} (he : ws[q0]? = some (a, .inr (ci, fs))) {q : vw_C} (hc : cls[ci]? = some q) (hq : clOk q) (f : Nat) (hf : f < q.2.2) {index : Nat} (hlink : Cond.fieldLink own index (q.2.1 f).1 (q.2.1 f).2.1 (q.2.1 f).2.2.1 ∈ gt) (hfin : (q.2.1 f).2.2.2 = true) (hdecl : (q.2.1 f).1 = own) {ty : FieldType} {v : Value} (hd : parseFieldDescriptor (q.2.1 f).2.2.1 = some ty) (hn : narrow ty v = v) (hfit : fits ty v = true) (hl : f < fs.length) {fs' : List Value} {ws' : va_W} (h1 : fs.set f v = fs') (h2 : ws.set q0 (a, .inr (ci, fs')) = ws') (hdg : decode cc pc = .ok (.putfield index, 3))
    (kk : ∀ (H1 : Heap) (locs1 : List Loc), Sw G A s.heap H1 locs1 ws' → W p l e R s m args below meth c H1 locs1 cells slots Q (F0 m (pc + 3) ls rest)) : W p l e R s m args below meth c H locs cells slots Q (F0 m pc ls (v :: .ref a :: rest)) := by
  subst h1; subst h2
  obtain ⟨t0, ht0, hn0⟩ := hq.2
  exact va_putF (C := q.1) (T := q.2.1) (N := q.2.2) C.1 C.2.1 C.2.2.2.2.1 hq.1 t0 ht0 hn0 C.2.2.2.1 K.1 S.1 S.2.1 S.2.2 q0 he hc f hf (C.2.2.2.2.1 _ hlink) (fun _ h => h) hfin C.2.2.2.2.2.2.2 hdecl hd hn hfit hl hdg (fun H1 l1 a1 a2 a3 => kk H1 l1 ⟨a1, a2, a3⟩)
theorem r_objInit (C : Cx p s m args meth c cc own nL ret nm) {idx : Nat} (hl : Cond.methodLink own idx Lib.objectInit ∈ gt) (hs : ls.size = nL) (hd : decode cc pc = .ok (.invokespecial idx, 3)) (hf : 1 ≤ R.frames) (hlo : (rest.map fun v => v.category).sum + 12 ≤ R.locals)
    (kk : W p l e R s m args below meth c H locs cells slots Q (F0 m (pc + 3) ls rest)) : W p l e R s m args below meth c H locs cells slots Q (F0 m pc ls (.ref a :: rest)) :=
  W.objInit C.1 C.2.1 C.2.2.2.1 (C.2.2.2.2.1 _ hl) (C.2.2.2.2.1 _ wn_JO_init) (C.2.2.2.2.1 _ wc_JO_init) rfl (by rw [C.2.2.1]; exact hs) rfl hd hf (by show 2 * 0 + _ + 12 ≤ _; omega) kk
end ROWS
