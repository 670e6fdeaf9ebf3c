/-! an array of arrays of numbers (multianewarray of two dimensions): the row that the kit has not -/
def mz_o (cA : ClassId) (N b i : Nat) : Cell := arrV cA N (fun j => if j < i then .ref (b + 1 + j) else .null)
def mz_t (T : State) (cA comp : ClassId) (N M : Nat) (dv : Value) : Nat → State
  | 0 => T.pushCell (mz_o cA N T.heap.size 0)
  | i + 1 => ((mz_t T cA comp N M dv i).pushCell (arrV comp M (fun _ => dv))).setCell T.heap.size (mz_o cA N T.heap.size (i + 1))
theorem mz_o_set (cA : ClassId) (N b i : Nat) : (mz_o cA N b i).setSlot i (.ref (b + 1 + i)) = mz_o cA N b (i + 1) := by
  rw [mz_o, arrV_store]
  show arrV cA N _ = arrV cA N _
  congr 1
  funext j
  by_cases h : j = i
  · subst h
    simp [updV]
  · by_cases h2 : j < i
    · have h3 : j < i + 1 := by omega
      simp [updV, h, h2, h3]
    · have h3 : ¬ j < i + 1 := by omega
      simp [updV, h, h2, h3]
theorem mz_size (T : State) (cA comp : ClassId) (N M : Nat) (dv : Value) : ∀ i, (mz_t T cA comp N M dv i).heap.size = T.heap.size + 1 + i
  | 0 => by simp [mz_t]
  | i + 1 => by
    have h := mz_size T cA comp N M dv i
    simp [mz_t, State.setCell, h]
    omega
theorem mz_vm (T : State) (cA comp : ClassId) (N M : Nat) (dv : Value) : ∀ i, (mz_t T cA comp N M dv i).vm = T.vm
  | 0 => rfl
  | i + 1 => by
    have h := mz_vm T cA comp N M dv i
    simp [mz_t, h]
theorem mz_used (T : State) (cA comp : ClassId) (N M : Nat) (dv : Value) : ∀ i, (mz_t T cA comp N M dv i).slotsUsed = T.slotsUsed + N + i * M
  | 0 => by simp [mz_t, mz_o, arrV_size]
  | i + 1 => by
    have h := mz_used T cA comp N M dv i
    simp [mz_t, h, arrV_size, Nat.succ_mul]
    omega
theorem mz_top (T : State) (g : JFrame) (cA comp : ClassId) (N M : Nat) (dv : Value) : ∀ i, mz_t (T.setTop g) cA comp N M dv i = (mz_t T cA comp N M dv i).setTop g
  | 0 => rfl
  | i + 1 => by
    simp only [mz_t, mz_top T g cA comp N M dv i, State.heap_setTop, State.pushCell_setTop, State.setCell_setTop]
theorem mz_outer (T : State) (cA comp : ClassId) (N M : Nat) (dv : Value) : ∀ i, (mz_t T cA comp N M dv i).heap[T.heap.size]? = some (mz_o cA N T.heap.size i)
  | 0 => by simp [mz_t]
  | i + 1 => by
    have h := mz_outer T cA comp N M dv i
    have hs := mz_size T cA comp N M dv i
    have hlt : T.heap.size < (mz_t T cA comp N M dv i).heap.size := by rw [hs]; omega
    refine State.heap_setCell_self (c := mz_o cA N T.heap.size i) ?_
    rw [State.heap_pushCell_of_lt (h := hlt)]
    exact h
theorem mz_old (T : State) (cA comp : ClassId) (N M : Nat) (dv : Value) {a : Addr} (ha : a < T.heap.size) : ∀ i, (mz_t T cA comp N M dv i).heap[a]? = T.heap[a]?
  | 0 => State.heap_pushCell_of_lt _ _ ha
  | i + 1 => by
    have h := mz_old T cA comp N M dv ha i
    have hs := mz_size T cA comp N M dv i
    have hlt : a < (mz_t T cA comp N M dv i).heap.size := Nat.lt_of_lt_of_le ha (by rw [hs]; omega)
    show (((mz_t T cA comp N M dv i).pushCell _).setCell T.heap.size _).heap[a]? = _
    rw [State.heap_setCell_other (Nat.ne_of_gt ha), State.heap_pushCell_of_lt (h := hlt)]
    exact h
theorem mz_row (T : State) (cA comp : ClassId) (N M : Nat) (dv : Value) : ∀ i j, j < i → (mz_t T cA comp N M dv i).heap[T.heap.size + 1 + j]? = some (arrV comp M (fun _ => dv))
  | 0, _, h => absurd h (Nat.not_lt_zero _)
  | i + 1, j, hj => by
    have hs := mz_size T cA comp N M dv i
    show (((mz_t T cA comp N M dv i).pushCell _).setCell T.heap.size _).heap[T.heap.size + 1 + j]? = _
    rw [State.heap_setCell_other (show T.heap.size ≠ T.heap.size + 1 + j by omega)]
    by_cases h : j < i
    · have hlt : T.heap.size + 1 + j < (mz_t T cA comp N M dv i).heap.size := by rw [hs]; omega
      rw [State.heap_pushCell_of_lt (h := hlt)]
      exact mz_row T cA comp N M dv i j h
    · have e : j = i := by omega
      subst e
      rw [← hs]
      exact State.heap_pushCell_size _ _
theorem mz_stand {p : Program} {l : Launch} {e : Env} {R : Room} {s : State} {m : MethodId} {args : Array Value} {below : List Frame} {meth : Method} {c : Code} {T : State} {locs : List Loc} {cells slots : Nat} (X : Stand p l e R s m args below meth c T locs cells slots) (cA comp : ClassId) (N M : Nat) (dv : Value) :
    ∀ i, Stand p l e R s m args below meth c (mz_t T cA comp N M dv i) (locs ++ (List.range i).map fun j => ⟨T.heap.size, j⟩) (cells + 1 + i) (slots + N + i * M)
  | 0 => by
    have h := X.pushed (mz_o cA N T.heap.size 0)
    have hz : (mz_o cA N T.heap.size 0).slots.size = N := arrV_size _ _ _
    rw [hz] at h
    simpa [mz_t] using h
  | i + 1 => by
    have Xi := mz_stand X cA comp N M dv i
    have hs := mz_size T cA comp N M dv i
    have hc : ((mz_t T cA comp N M dv i).pushCell (arrV comp M (fun _ => dv))).heap[T.heap.size]? = some (mz_o cA N T.heap.size i) := by
      have hlt : T.heap.size < (mz_t T cA comp N M dv i).heap.size := by rw [hs]; omega
      rw [State.heap_pushCell_of_lt (h := hlt)]
      exact mz_outer T cA comp N M dv i
    have h := (Xi.pushed (arrV comp M (fun _ => dv))).stored hc i (.ref (T.heap.size + 1 + i))
    rw [mz_o_set, arrV_size] at h
    have e1 : (locs ++ (List.range (i + 1)).map fun j => (⟨T.heap.size, j⟩ : Loc)) = (locs ++ (List.range i).map fun j => (⟨T.heap.size, j⟩ : Loc)) ++ [⟨T.heap.size, i⟩] := by simp [List.range_succ, List.append_assoc]
    have e2 : slots + N + (i + 1) * M = slots + N + i * M + M := by rw [Nat.succ_mul]; omega
    rw [e1, e2]
    exact h
theorem mz_fit {t : FieldType} (h : t.isReference = true) (a : Addr) : fits t (.ref a) = true ∧ fits t .null = true := by
  cases t <;> simp [FieldType.isReference] at h <;> exact ⟨rfl, rfl⟩
theorem mz_make {E : CtlPost} {e : Env} {d : Bool} {acts : List Action} {T : State} {cA comp c1 : ClassId} {kA kC : Class} {t0 ty : FieldType} {n k : Int32} {N M : Nat} (hN : n.toNatClampNeg = N) (hM : k.toNatClampNeg = M) (hkA : T.vm.classes[cA]? = some kA) (hA : kA.kind = .array comp t0) (href : t0.isReference = true)
    (hkC : T.vm.classes[comp]? = some kC) (hC : kC.kind = .array c1 ty) (hn : ¬ n < 0) (hk : ¬ k < 0) (hl1 : ¬ N > e.platform.arrayLengthLimit) (hh1 : ¬ N * componentBytes t0 > e.platform.maxHeapBytes) (hl2 : ¬ M > e.platform.arrayLengthLimit) (hh2 : ¬ M * componentBytes ty > e.platform.maxHeapBytes)
    (hdf : fits ty (defaultValue ty) = true) (hc : T.heap.size + 1 + N ≤ e.platform.maxCells) (hs : T.slotsUsed + N + N * M ≤ e.platform.maxSlots) {Q : Addr → Pre} (hq : ∀ d' acts', Q T.heap.size d' acts' (mz_t T cA comp N M (defaultValue ty) N)) : wp (multianewarray.make cA [n, k]) Q E e d acts T := by
  subst hN
  subst hM
  have hneg : ([k].find? (· < 0)) = none := by simp [hk]
  rw [multianewarray.make]
  simp only [wp_bind', W.ite, hn, if_false, wp_pure', W.theClass, hkA, hA, Option.some.injEq, exists_eq_left']
  refine W.newArray_of hkA hA hl1 hh1 (by omega) (by have := Nat.zero_le (n.toNatClampNeg * k.toNatClampNeg); omega) (mz_fit href 0).2 (fun acts0 => ?_)
  simp only [hneg]
  rw [ite_self, wp_bind', Std.Legacy.Range.forIn_eq_forIn_range']
  have hz : ([:n.toNatClampNeg] : Std.Legacy.Range).size = n.toNatClampNeg := by simp [Std.Legacy.Range.size]
  rw [hz]
  show wp (forIn (List.range' 0 n.toNatClampNeg 1) PUnit.unit _) _ E e d acts0 _
  refine wp_forIn_inv (fun rest S => ∃ i, i + rest.length = n.toNatClampNeg ∧ rest = List.range' i rest.length ∧ S = mz_t T cA comp n.toNatClampNeg k.toNatClampNeg (defaultValue ty) i) _ _ ⟨0, by simp, by simp, by rw [mz_t, mz_o, arrV_new]; simp⟩ ?_ ?_
  · rintro x rest S d' acts' Q' ⟨i, hi, hl, rfl⟩ hnext
    rw [List.length_cons] at hi
    rw [List.length_cons, List.range'_succ] at hl
    obtain ⟨rfl, hrest⟩ := List.cons.inj hl
    have f1 := mz_size T cA comp n.toNatClampNeg k.toNatClampNeg (defaultValue ty) x
    have f2 := mz_outer T cA comp n.toNatClampNeg k.toNatClampNeg (defaultValue ty) x
    have f3 := mz_vm T cA comp n.toNatClampNeg k.toNatClampNeg (defaultValue ty) x
    have f4 := mz_used T cA comp n.toNatClampNeg k.toNatClampNeg (defaultValue ty) x
    have hmul : x * k.toNatClampNeg + k.toNatClampNeg ≤ n.toNatClampNeg * k.toNatClampNeg := by
      have := Nat.mul_le_mul_right k.toNatClampNeg (show x + 1 ≤ n.toNatClampNeg by omega)
      rw [Nat.succ_mul] at this
      exact this
    simp only [wp_bind']
    rw [multianewarray.make]
    simp only [wp_bind', W.ite, hk, if_false, wp_pure', W.theClass, f3, hkC, hC, Option.some.injEq, exists_eq_left']
    refine W.newArray_of (by rw [f3]; exact hkC) hC hl2 hh2 (by rw [f1]; omega) (by rw [f4]; omega) hdf (fun acts1 => ?_)
    simp only [wp_bind', W.writeLoc, wp_pure']
    have hlt : T.heap.size < (mz_t T cA comp n.toNatClampNeg k.toNatClampNeg (defaultValue ty) x).heap.size := by rw [f1]; omega
    refine ⟨mz_o cA n.toNatClampNeg T.heap.size x, by rw [State.heap_pushCell_of_lt (h := hlt)]; exact f2, by simp [mz_o, arrV], by rw [mz_o, arrV_size]; omega, ?_, hnext _ _ _ ⟨x + 1, by omega, hrest, ?_⟩⟩
    · simp [mz_o, arrV, State.fitsSlot, State.slotType?, f3, hkA, hA, (mz_fit href _).1]
    · rw [f1, mz_o_set, mz_t, arrV_new]
  · rintro S d' acts' ⟨i, hi, -, rfl⟩
    rw [List.length_nil, Nat.add_zero] at hi
    subst hi
    simp only [wp_pure']
    exact hq _ _
theorem mz_o_full (cA : ClassId) (N b : Nat) : mz_o cA N b N = arrV cA N (fun j => va_rf (some (b + 1 + j))) := by
  unfold mz_o arrV
  congr 1
  congr 1
  funext j
  show (if j.val < N then Value.ref (b + 1 + j.val) else Value.null) = _
  rw [if_pos j.isLt]
  rfl
section MZW
variable {p : Program} {l : Launch} {e : Env} {R : Room} {s : State} {m : MethodId} {args : Array Value} {below : List Frame} {meth : Method} {c : Code} {H : Heap} {locs : List Loc} {cells slots : Nat} {Q : State → Prop}
theorem mz_W {cc : ByteArray} (hexec : p.tables.exec = Jvm.exec) (hb : c.code = cc) {own : String} {index : Nat} {ty : FieldType} (hown : s.vm.findClass own = some m.cls) (hclink : (Cond.classLink own index ("[" ++ (FieldType.array ty).toString)).before args s = true)
    (hover : (Cond.arrayOver (.array ty)).before args s = true) (harr : (Cond.arrayClass ty).before args s = true) {pc : Nat} {ls : Array Slot} {rest : List Value} (hdg : decode cc pc = .ok (.multianewarray index 2, 4)) {n k : Int32} {N M : Nat} (hN : n.toNatClampNeg = N) (hM : k.toNatClampNeg = M) (hn : ¬ n < 0) (hk : ¬ k < 0)
    (hb1 : N * 4 ≤ 536870912) (hb2 : M * componentBytes ty ≤ 536870912) (hb3 : M ≤ 536870912) (hdf : fits ty (defaultValue ty) = true) (hcells : cells + (1 + N) ≤ R.cells) (hslots : slots + (N + N * M) ≤ R.slots) (hz : s.heap.size ≤ H.size)
    (kk : ∀ (cA comp : ClassId) (H1 : Heap), ArrOfT s cA (.array ty) → s.vm.findClass ("[" ++ (FieldType.array ty).toString) = some cA → ArrOfT s comp ty → s.vm.findClass (FieldType.array ty).toString = some comp → H1.size = H.size + 1 + N → H1[H.size]? = some (arrV cA N (fun j => va_rf (some (H.size + 1 + j)))) → (∀ j, j < N → H1[H.size + 1 + j]? = some (arrV comp M (fun _ => defaultValue ty))) → (∀ q, q < H.size → H1[q]? = H[q]?) →
      W p l e R s m args below meth c H1 locs (cells + (1 + N)) (slots + (N + N * M)) Q (F0 m (pc + 4) ls (.ref H.size :: rest))) : W p l e R s m args below meth c H locs cells slots Q (F0 m pc ls (.int k :: .int n :: rest)) := by
  intro T hT X
  subst hT; subst hb
  have hpl : e.platform.magicAccessors = ({} : Platform).magicAccessors := by rw [X.admits.platform]
  obtain ⟨comp, cA, kA, hcomp, -, hkA, hkindA, hnameA⟩ := arrayOverA_spec hover
  obtain ⟨comp', kC, c1, hcomp', hkC, hkindC⟩ := Cond.arrayClass_spec harr
  have ecomp : comp' = comp := Option.some.inj (hcomp'.symm.trans hcomp)
  subst ecomp
  obtain ⟨c0, hfc0, hcl⟩ := Cond.classLink_spec hown hclink e.platform hpl
  cases hnameA.symm.trans hfc0
  obtain ⟨hg₁, hwarm₁, hready₁⟩ := State.classEntry (e := e) X.warmed hcl
  generalize T.vm.noted m.cls index (.cls cA) = vm₁ at hg₁ hwarm₁ hready₁
  have hal : s.vm.Alike vm₁ := hwarm₁.alike
  obtain ⟨kA₁, hkA₁, heA⟩ := hal.2.2 _ _ hkA
  obtain ⟨kC₁, hkC₁, heC⟩ := hal.2.2 _ _ hkC
  have hkindA₁ : kA₁.kind = .array comp' (.array ty) := by rw [heA]; exact hkindA
  have hkindC₁ : kC₁.kind = .array c1 ty := by rw [heC]; exact hkindC
  have X₁ := X.noted hwarm₁
  obtain ⟨hr1, hr2⟩ := X.roomAbove hcells hslots
  have XF := mz_stand X₁ cA comp' N M (defaultValue ty) N
  have XG := Stand.forget (locs := locs) XF (fun q hq => by
    obtain ⟨j, -, rfl⟩ := List.mem_map.mp hq
    exact hz)
  rw [Nat.add_assoc cells 1 N, Nat.add_assoc slots N (N * M)] at XG
  have hsz := mz_size (T.setVm vm₁) cA comp' N M (defaultValue ty) N
  have hou := mz_outer (T.setVm vm₁) cA comp' N M (defaultValue ty) N
  rw [mz_o_full] at hou
  obtain ⟨t, a1, b1⟩ := kk cA comp' (mz_t (T.setVm vm₁) cA comp' N M (defaultValue ty) N).heap (fun n z => ⟨(fun k h => by cases h), kA, hkA, comp', hkindA⟩) hnameA (fun n z => ⟨(fun k h => by cases h), kC, hkC, c1, hkindC⟩) hcomp hsz hou (fun j hj => mz_row (T.setVm vm₁) cA comp' N M (defaultValue ty) N j hj) (fun q hq => mz_old (T.setVm vm₁) cA comp' N M (defaultValue ty) hq N) _ rfl XG
  refine ⟨t, ?_, b1⟩
  have hl1 : ¬ N > e.platform.arrayLengthLimit := by rw [Launch.admits_arrayLengthLimit X.admits]; omega
  have hh1 : ¬ N * componentBytes (.array ty) > e.platform.maxHeapBytes := by
    rw [Launch.admits_maxHeapBytes X.admits]; show ¬ N * 4 > 536870912; omega
  have hl2 : ¬ M > e.platform.arrayLengthLimit := by rw [Launch.admits_arrayLengthLimit X.admits]; omega
  have hh2 : ¬ M * componentBytes ty > e.platform.maxHeapBytes := by rw [Launch.admits_maxHeapBytes X.admits]; omega
  jvm_step X.here [hexec, hdg]
  simp only [multianewarray.sem, wp_bind', W.resolveClassAt_links (State.method?_setTop (F0 m pc ls (.int k :: .int n :: rest)) X.here.top) hg₁]
  rw [W.popN, if_neg (by decide)]
  refine ⟨F0 m pc ls (.int k :: .int n :: rest), State.topJava?_setTop' (s := T.setVm vm₁) _ X.here.top, [.int n, .int k], rest, rfl, rfl, ?_⟩
  simp only [List.mapM_cons, List.mapM_nil, wp_bind', wp_pure']
  refine mz_make (kA := kA₁) (kC := kC₁) (comp := comp') (c1 := c1) (t0 := .array ty) (ty := ty) hN hM hkA₁ hkindA₁ rfl hkC₁ hkindC₁ hn hk hl1 hh1 hl2 hh2 hdf (by show T.heap.size + 1 + _ ≤ _; omega) (by show T.slotsUsed + _ + _ ≤ _; omega) (fun d' acts' => ?_)
  have eS : ((T.setTop (F0 m pc ls (.int k :: .int n :: rest))).setVm vm₁).setTop (F0 m pc ls rest) = (T.setVm vm₁).setTop (F0 m pc ls rest) := by
    show ((T.setVm vm₁).setTop (F0 m pc ls (.int k :: .int n :: rest))).setTop _ = _
    rw [State.setTop_setTop]
  rw [eS, mz_top]
  simp only [wp_bind', W.mark, W.pushRef, State.topJava?_setTop' _ XF.here.top, Option.some.injEq, exists_eq_left', State.setTop_setTop, State.heap_setTop]
  intro acts
  simp [jvm, XF.here.top]
  exact a1
end MZW
section MZV
variable {p : Program} {l : Launch} {e : Env} {R : Room} {s : State} {m : MethodId} {args : Array Value} {below : List Frame} {meth : Method} {c : Code} {H : Heap} {locs : List Loc} {cells slots : Nat} {Q : State → Prop}
variable {D : va_G} {cl : List vw_C} {tys : List (ClassId × FieldType)} {ws : va_W} {A : Nat → Prop} {cc : ByteArray} {pc : Nat} {ls : Array Slot} {rest : List Value}
/-- the rows of ints of a new array of arrays stand behind it -/
def mz_rows (q N : Nat) : List Nat := (List.range N).map (fun j => q + 1 + j)
theorem mz_int (hexec : p.tables.exec = Jvm.exec) (hb : c.code = cc) {own : String} {index : Nat} (hown : s.vm.findClass own = some m.cls) (hclink : (Cond.classLink own index ("[" ++ (FieldType.array .int).toString)).before args s = true)
    (hover : (Cond.arrayOver (.array .int)).before args s = true) (harr : (Cond.arrayClass .int).before args s = true) (hK : va_K D cl tys s) (hP : va_P D cl ws H) (hD : va_D A ws) (hS : va_S A s.heap H locs) (hA : ∀ q, s.heap.size ≤ q → A q)
    {n k : Int32} {N M : Nat} (hn : ¬ n < 0) (hk : ¬ k < 0) (hN : n.toNatClampNeg = N) (hM : k.toNatClampNeg = M) (hb1 : N * 4 ≤ 536870912) (hb2 : M * 4 ≤ 536870912) (hcells : cells + (1 + N) ≤ R.cells) (hslots : slots + (N + N * M) ≤ R.slots) (hdg : decode cc pc = .ok (.multianewarray index 2, 4))
    (kk : ∀ (q : Nat) (cA cR : ClassId) (H1 : Heap), va_K D cl (tys ++ [(cA, .array .int), (cR, .int)]) s → va_P D cl ((ws ++ [(q, .inl (cA, N, .inr (.inr (.inr (.inr (fun j => some (q + 1 + j)))))))]) ++ va_pl (mz_rows q N) (fun _ => .inl (cR, M, .inl (fun _ => 0)))) H1 →
      va_D A ((ws ++ [(q, .inl (cA, N, .inr (.inr (.inr (.inr (fun j => some (q + 1 + j)))))))]) ++ va_pl (mz_rows q N) (fun _ => .inl (cR, M, .inl (fun _ => 0)))) → va_S A s.heap H1 locs →
      W p l e R s m args below meth c H1 locs (cells + (1 + N)) (slots + (N + N * M)) Q (F0 m (pc + 4) ls (.ref q :: rest))) : W p l e R s m args below meth c H locs cells slots Q (F0 m pc ls (.int k :: .int n :: rest)) := by
  refine mz_W hexec hb hown hclink hover harr hdg hN hM hn hk hb1 hb2 (by omega) rfl hcells hslots hS.1 (fun cA comp H1 k1 k2 k3 k4 hz h0 hr ho => ?_)
  have hkeep : va_P D cl ws H1 := hP.kept (fun k x hx => ho x.1 ((hP k x hx).lt))
  have hlt : ∀ (k : Nat) (x : Nat × va_E), ws[k]? = some x → x.1 < H.size := fun k x hx => (hP k x hx).lt
  have hrow : ∀ (i : Nat) (x : Nat × va_E), (va_pl (mz_rows H.size N) (fun _ => .inl (comp, M, .inl (fun _ => 0))))[i]? = some x → i < N ∧ x = (H.size + 1 + i, .inl (comp, M, .inl (fun _ => 0))) := by
    intro i x hx
    have hi : i < N := by
      have := (List.getElem?_eq_some_iff.mp hx).1
      simpa [va_pl, mz_rows] using this
    refine ⟨hi, ?_⟩
    simp [va_pl, mz_rows, hi] at hx
    exact hx.symm
  have hD1 : va_D A (ws ++ [(H.size, .inl (cA, N, .inr (.inr (.inr (.inr (fun j => some (H.size + 1 + j)))))))]) := hD.push hP rfl (hA _ hS.1)
  have hP1 : va_P D cl (ws ++ [(H.size, .inl (cA, N, .inr (.inr (.inr (.inr (fun j => some (H.size + 1 + j)))))))]) H1 := by
    refine hkeep.app (fun k x hx => ?_)
    have hk0 : k < 1 := (List.getElem?_eq_some_iff.mp hx).1
    rw [show k = 0 by omega] at hx
    cases hx
    show H1[H.size]? = some (vp_cell _ _)
    rw [vp_cell_q]
    exact h0
  refine kk H.size cA comp H1 ⟨hK.1, fun k x hx => ?_⟩ (hP1.app (fun k x hx => ?_)) (hD1.app ⟨fun i j x y hx hy exy => ?_, fun k x hx => ?_⟩ (fun i j x y hx hy => ?_)) ⟨by have := hS.1; omega, fun x h1 h2 => (ho x (Nat.lt_of_lt_of_le h1 hS.1)).trans (hS.2.1 x h1 h2), hS.2.2⟩
  · by_cases hl : k < tys.length
    · rw [List.getElem?_append_left hl] at hx
      exact hK.2 k x hx
    · rw [List.getElem?_append_right (by omega)] at hx
      have hz2 : k - tys.length < 2 := (List.getElem?_eq_some_iff.mp hx).1
      rcases (show k - tys.length = 0 ∨ k - tys.length = 1 by omega) with h | h
      · rw [h] at hx
        cases hx
        exact ⟨k1, k2⟩
      · rw [h] at hx
        cases hx
        exact ⟨k3, k4⟩
  · obtain ⟨hi, rfl⟩ := hrow k x hx
    show H1[H.size + 1 + k]? = some (vp_cell _ _)
    rw [vp_cell_i]
    exact hr k hi
  · obtain ⟨hi, rfl⟩ := hrow i x hx
    obtain ⟨hj, rfl⟩ := hrow j y hy
    have : H.size + 1 + i = H.size + 1 + j := exy
    omega
  · obtain ⟨hi, rfl⟩ := hrow k x hx
    have := hS.1
    exact hA _ (by show s.heap.size ≤ H.size + 1 + k; omega)
  · obtain ⟨hj, rfl⟩ := hrow j y hy
    intro exy
    have exy : x.1 = H.size + 1 + j := exy
    by_cases hl : i < ws.length
    · rw [List.getElem?_append_left hl] at hx
      have := hlt i x hx
      omega
    · rw [List.getElem?_append_right (by omega)] at hx
      have hk0 : i - ws.length < 1 := (List.getElem?_eq_some_iff.mp hx).1
      rw [show i - ws.length = 0 by omega] at hx
      cases hx
      have exy : H.size = H.size + 1 + j := exy
      omega
end MZV
