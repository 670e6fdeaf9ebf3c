section
/-! an array of arrays of numbers (multianewarray of two dimensions): the row that the kit has not -/
def mz_o (cA : ClassId) (N b i : Nat) : Cell := arrV cA N (fun j => if j < i then .ref (b + 1 + j) else .null)
def mz_t (T : State) (cA comp : ClassId) (N M : Nat) (dv : Value) : Nat → State
  | 0 => T.pushCell (mz_o cA N T.heap.size 0)
  | i + 1 => ((mz_t T cA comp N M dv i).pushCell (arrV comp M (fun _ => dv))).setCell T.heap.size (mz_o cA N T.heap.size (i + 1))
theorem mz_o_set (cA : ClassId) (N b i : Nat) : (mz_o cA N b i).setSlot i (.ref (b + 1 + i)) = mz_o cA N b (i + 1) := by
  rw [mz_o, arrV_store]
  show arrV cA N _ = arrV cA N _
  congr 1
  funext j
  by_cases h : j = i
  · subst h
    simp [updV]
  · by_cases h2 : j < i
    · have h3 : j < i + 1 := by omega
      simp [updV, h, h2, h3]
    · have h3 : ¬ j < i + 1 := by omega
      simp [updV, h, h2, h3]
theorem mz_size (T : State) (cA comp : ClassId) (N M : Nat) (dv : Value) : ∀ i, (mz_t T cA comp N M dv i).heap.size = T.heap.size + 1 + i
  | 0 => by simp [mz_t]
  | i + 1 => by
    have h := mz_size T cA comp N M dv i
    simp [mz_t, State.setCell, h]
    omega
theorem mz_vm (T : State) (cA comp : ClassId) (N M : Nat) (dv : Value) : ∀ i, (mz_t T cA comp N M dv i).vm = T.vm
  | 0 => rfl
  | i + 1 => by
    have h := mz_vm T cA comp N M dv i
    simp [mz_t, h]
theorem mz_used (T : State) (cA comp : ClassId) (N M : Nat) (dv : Value) : ∀ i, (mz_t T cA comp N M dv i).slotsUsed = T.slotsUsed + N + i * M
  | 0 => by simp [mz_t, mz_o, arrV_size]
  | i + 1 => by
    have h := mz_used T cA comp N M dv i
    simp [mz_t, h, arrV_size, Nat.succ_mul]
    omega
theorem mz_top (T : State) (g : JFrame) (cA comp : ClassId) (N M : Nat) (dv : Value) : ∀ i, mz_t (T.setTop g) cA comp N M dv i = (mz_t T cA comp N M dv i).setTop g
  | 0 => rfl
  | i + 1 => by
    simp only [mz_t, mz_top T g cA comp N M dv i, State.heap_setTop, State.pushCell_setTop, State.setCell_setTop]
theorem mz_outer (T : State) (cA comp : ClassId) (N M : Nat) (dv : Value) : ∀ i, (mz_t T cA comp N M dv i).heap[T.heap.size]? = some (mz_o cA N T.heap.size i)
  | 0 => by simp [mz_t]
  | i + 1 => by
    have h := mz_outer T cA comp N M dv i
    have hs := mz_size T cA comp N M dv i
    have hlt : T.heap.size < (mz_t T cA comp N M dv i).heap.size := by rw [hs]; omega
    refine State.heap_setCell_self (c := mz_o cA N T.heap.size i) ?_
    rw [State.heap_pushCell_of_lt (h := hlt)]
    exact h
theorem mz_old (T : State) (cA comp : ClassId) (N M : Nat) (dv : Value) {a : Addr} (ha : a < T.heap.size) : ∀ i, (mz_t T cA comp N M dv i).heap[a]? = T.heap[a]?
  | 0 => State.heap_pushCell_of_lt _ _ ha
  | i + 1 => by
    have h := mz_old T cA comp N M dv ha i
    have hs := mz_size T cA comp N M dv i
    have hlt : a < (mz_t T cA comp N M dv i).heap.size := Nat.lt_of_lt_of_le ha (by rw [hs]; omega)
    show (((mz_t T cA comp N M dv i).pushCell _).setCell T.heap.size _).heap[a]? = _
    rw [State.heap_setCell_other (Nat.ne_of_gt ha), State.heap_pushCell_of_lt (h := hlt)]
    exact h
theorem mz_row (T : State) (cA comp : ClassId) (N M : Nat) (dv : Value) : ∀ i j, j < i → (mz_t T cA comp N M dv i).heap[T.heap.size + 1 + j]? = some (arrV comp M (fun _ => dv))
  | 0, _, h => absurd h (Nat.not_lt_zero _)
  | i + 1, j, hj => by
    have hs := mz_size T cA comp N M dv i
    show (((mz_t T cA comp N M dv i).pushCell _).setCell T.heap.size _).heap[T.heap.size + 1 + j]? = _
    rw [State.heap_setCell_other (show T.heap.size ≠ T.heap.size + 1 + j by omega)]
    by_cases h : j < i
    · have hlt : T.heap.size + 1 + j < (mz_t T cA comp N M dv i).heap.size := by rw [hs]; omega
      rw [State.heap_pushCell_of_lt (h := hlt)]
      exact mz_row T cA comp N M dv i j h
    · have e : j = i := by omega
      subst e
      rw [← hs]
      exact State.heap_pushCell_size _ _
theorem mz_stand {p : Program} {l : Launch} {e : Env} {R : Room} {s : State} {m : MethodId} {args : Array Value} {below : List Frame} {meth : Method} {c : Code} {T : State} {locs : List Loc} {cells slots : Nat} (X : Stand p l e R s m args below meth c T locs cells slots) (cA comp : ClassId) (N M : Nat) (dv : Value) :
    ∀ i, Stand p l e R s m args below meth c (mz_t T cA comp N M dv i) (locs ++ (List.range i).map fun j => ⟨T.heap.size, j⟩) (cells + 1 + i) (slots + N + i * M)
  | 0 => by
    have h := X.pushed (mz_o cA N T.heap.size 0)
    have hz : (mz_o cA N T.heap.size 0).slots.size = N := arrV_size _ _ _
    rw [hz] at h
    simpa [mz_t] using h
  | i + 1 => by
    have Xi := mz_stand X cA comp N M dv i
    have hs := mz_size T cA comp N M dv i
    have hc : ((mz_t T cA comp N M dv i).pushCell (arrV comp M (fun _ => dv))).heap[T.heap.size]? = some (mz_o cA N T.heap.size i) := by
      have hlt : T.heap.size < (mz_t T cA comp N M dv i).heap.size := by rw [hs]; omega
      rw [State.heap_pushCell_of_lt (h := hlt)]
      exact mz_outer T cA comp N M dv i
    have h := (Xi.pushed (arrV comp M (fun _ => dv))).stored hc i (.ref (T.heap.size + 1 + i))
    rw [mz_o_set, arrV_size] at h
    have e1 : (locs ++ (List.range (i + 1)).map fun j => (⟨T.heap.size, j⟩ : Loc)) = (locs ++ (List.range i).map fun j => (⟨T.heap.size, j⟩ : Loc)) ++ [⟨T.heap.size, i⟩] := by simp [List.range_succ, List.append_assoc]
    have e2 : slots + N + (i + 1) * M = slots + N + i * M + M := by rw [Nat.succ_mul]; omega
    rw [e1, e2]
    exact h
theorem mz_fit {t : FieldType} (h : t.isReference = true) (a : Addr) : fits t (.ref a) = true ∧ fits t .null = true := by
  cases t <;> simp [FieldType.isReference] at h <;> exact ⟨rfl, rfl⟩
theorem mz_make {E : CtlPost} {e : Env} {d : Bool} {acts : List Action} {T : State} {cA comp c1 : ClassId} {kA kC : Class} {t0 ty : FieldType} {n k : Int32} {N M : Nat} (hN : n.toNatClampNeg = N) (hM : k.toNatClampNeg = M) (hkA : T.vm.classes[cA]? = some kA) (hA : kA.kind = .array comp t0) (href : t0.isReference = true)
    (hkC : T.vm.classes[comp]? = some kC) (hC : kC.kind = .array c1 ty) (hn : ¬ n < 0) (hk : ¬ k < 0) (hl1 : ¬ N > e.platform.arrayLengthLimit) (hh1 : ¬ N * componentBytes t0 > e.platform.maxHeapBytes) (hl2 : ¬ M > e.platform.arrayLengthLimit) (hh2 : ¬ M * componentBytes ty > e.platform.maxHeapBytes)
    (hdf : fits ty (defaultValue ty) = true) (hc : T.heap.size + 1 + N ≤ e.platform.maxCells) (hs : T.slotsUsed + N + N * M ≤ e.platform.maxSlots) {Q : Addr → Pre} (hq : ∀ d' acts', Q T.heap.size d' acts' (mz_t T cA comp N M (defaultValue ty) N)) : wp (multianewarray.make cA [n, k]) Q E e d acts T := by
  subst hN
  subst hM
  have hneg : ([k].find? (· < 0)) = none := by simp [hk]
  rw [multianewarray.make]
  simp only [wp_bind', W.ite, hn, if_false, wp_pure', W.theClass, hkA, hA, Option.some.injEq, exists_eq_left']
  refine W.newArray_of hkA hA hl1 hh1 (by omega) (by have := Nat.zero_le (n.toNatClampNeg * k.toNatClampNeg); omega) (mz_fit href 0).2 (fun acts0 => ?_)
  simp only [hneg]
  rw [ite_self, wp_bind', Std.Legacy.Range.forIn_eq_forIn_range']
  have hz : ([:n.toNatClampNeg] : Std.Legacy.Range).size = n.toNatClampNeg := by simp [Std.Legacy.Range.size]
  rw [hz]
  show wp (forIn (List.range' 0 n.toNatClampNeg 1) PUnit.unit _) _ E e d acts0 _
  refine wp_forIn_inv (fun rest S => ∃ i, i + rest.length = n.toNatClampNeg ∧ rest = List.range' i rest.length ∧ S = mz_t T cA comp n.toNatClampNeg k.toNatClampNeg (defaultValue ty) i) _ _ ⟨0, by simp, by simp, by rw [mz_t, mz_o, arrV_new]; simp⟩ ?_ ?_
  · rintro x rest S d' acts' Q' ⟨i, hi, hl, rfl⟩ hnext
    rw [List.length_cons] at hi
    rw [List.length_cons, List.range'_succ] at hl
    obtain ⟨rfl, hrest⟩ := List.cons.inj hl
    have f1 := mz_size T cA comp n.toNatClampNeg k.toNatClampNeg (defaultValue ty) x
    have f2 := mz_outer T cA comp n.toNatClampNeg k.toNatClampNeg (defaultValue ty) x
    have f3 := mz_vm T cA comp n.toNatClampNeg k.toNatClampNeg (defaultValue ty) x
    have f4 := mz_used T cA comp n.toNatClampNeg k.toNatClampNeg (defaultValue ty) x
    have hmul : x * k.toNatClampNeg + k.toNatClampNeg ≤ n.toNatClampNeg * k.toNatClampNeg := by
      have := Nat.mul_le_mul_right k.toNatClampNeg (show x + 1 ≤ n.toNatClampNeg by omega)
      rw [Nat.succ_mul] at this
      exact this
    simp only [wp_bind']
    rw [multianewarray.make]
    simp only [wp_bind', W.ite, hk, if_false, wp_pure', W.theClass, f3, hkC, hC, Option.some.injEq, exists_eq_left']
    refine W.newArray_of (by rw [f3]; exact hkC) hC hl2 hh2 (by rw [f1]; omega) (by rw [f4]; omega) hdf (fun acts1 => ?_)
    simp only [wp_bind', W.writeLoc, wp_pure']
    have hlt : T.heap.size < (mz_t T cA comp n.toNatClampNeg k.toNatClampNeg (defaultValue ty) x).heap.size := by rw [f1]; omega
    refine ⟨mz_o cA n.toNatClampNeg T.heap.size x, by rw [State.heap_pushCell_of_lt (h := hlt)]; exact f2, by simp [mz_o, arrV], by rw [mz_o, arrV_size]; omega, ?_, hnext _ _ _ ⟨x + 1, by omega, hrest, ?_⟩⟩
    · simp [mz_o, arrV, State.fitsSlot, State.slotType?, f3, hkA, hA, (mz_fit href _).1]
    · rw [f1, mz_o_set, mz_t, arrV_new]
  · rintro S d' acts' ⟨i, hi, -, rfl⟩
    rw [List.length_nil, Nat.add_zero] at hi
    subst hi
    simp only [wp_pure']
    exact hq _ _
theorem mz_o_full (cA : ClassId) (N b : Nat) : mz_o cA N b N = arrV cA N (fun j => va_rf (some (b + 1 + j))) := by
  unfold mz_o arrV
  congr 1
  congr 1
  funext j
  show (if j.val < N then Value.ref (b + 1 + j.val) else Value.null) = _
  rw [if_pos j.isLt]
  rfl
section MZW
variable {p : Program} {l : Launch} {e : Env} {R : Room} {s : State} {m : MethodId} {args : Array Value} {below : List Frame} {meth : Method} {c : Code} {H : Heap} {locs : List Loc} {cells slots : Nat} {Q : State → Prop}
theorem mz_W {cc : ByteArray} (hexec : p.tables.exec = Jvm.exec) (hb : c.code = cc) {own : String} {index : Nat} {ty : FieldType} (hown : s.vm.findClass own = some m.cls) (hclink : (Cond.classLink own index ("[" ++ (FieldType.array ty).toString)).before args s = true)
    (hover : (Cond.arrayOver (.array ty)).before args s = true) (harr : (Cond.arrayClass ty).before args s = true) {pc : Nat} {ls : Array Slot} {rest : List Value} (hdg : decode cc pc = .ok (.multianewarray index 2, 4)) {n k : Int32} {N M : Nat} (hN : n.toNatClampNeg = N) (hM : k.toNatClampNeg = M) (hn : ¬ n < 0) (hk : ¬ k < 0)
    (hb1 : N * 4 ≤ 536870912) (hb2 : M * componentBytes ty ≤ 536870912) (hb3 : M ≤ 536870912) (hdf : fits ty (defaultValue ty) = true) (hcells : cells + (1 + N) ≤ R.cells) (hslots : slots + (N + N * M) ≤ R.slots) (hz : s.heap.size ≤ H.size)
    (kk : ∀ (cA comp : ClassId) (H1 : Heap), ArrOfT s cA (.array ty) → s.vm.findClass ("[" ++ (FieldType.array ty).toString) = some cA → ArrOfT s comp ty → s.vm.findClass (FieldType.array ty).toString = some comp → H1.size = H.size + 1 + N → H1[H.size]? = some (arrV cA N (fun j => va_rf (some (H.size + 1 + j)))) → (∀ j, j < N → H1[H.size + 1 + j]? = some (arrV comp M (fun _ => defaultValue ty))) → (∀ q, q < H.size → H1[q]? = H[q]?) →
      W p l e R s m args below meth c H1 locs (cells + (1 + N)) (slots + (N + N * M)) Q (F0 m (pc + 4) ls (.ref H.size :: rest))) : W p l e R s m args below meth c H locs cells slots Q (F0 m pc ls (.int k :: .int n :: rest)) := by
  intro T hT X
  subst hT; subst hb
  have hpl : e.platform.magicAccessors = ({} : Platform).magicAccessors := by rw [X.admits.platform]
  obtain ⟨comp, cA, kA, hcomp, -, hkA, hkindA, hnameA⟩ := arrayOverA_spec hover
  obtain ⟨comp', kC, c1, hcomp', hkC, hkindC⟩ := Cond.arrayClass_spec harr
  have ecomp : comp' = comp := Option.some.inj (hcomp'.symm.trans hcomp)
  subst ecomp
  obtain ⟨c0, hfc0, hcl⟩ := Cond.classLink_spec hown hclink e.platform hpl
  cases hnameA.symm.trans hfc0
  obtain ⟨hg₁, hwarm₁, hready₁⟩ := State.classEntry (e := e) X.warmed hcl
  generalize T.vm.noted m.cls index (.cls cA) = vm₁ at hg₁ hwarm₁ hready₁
  have hal : s.vm.Alike vm₁ := hwarm₁.alike
  obtain ⟨kA₁, hkA₁, heA⟩ := hal.2.2 _ _ hkA
  obtain ⟨kC₁, hkC₁, heC⟩ := hal.2.2 _ _ hkC
  have hkindA₁ : kA₁.kind = .array comp' (.array ty) := by rw [heA]; exact hkindA
  have hkindC₁ : kC₁.kind = .array c1 ty := by rw [heC]; exact hkindC
  have X₁ := X.noted hwarm₁
  obtain ⟨hr1, hr2⟩ := X.roomAbove hcells hslots
  have XF := mz_stand X₁ cA comp' N M (defaultValue ty) N
  have XG := Stand.forget (locs := locs) XF (fun q hq => by
    obtain ⟨j, -, rfl⟩ := List.mem_map.mp hq
    exact hz)
  rw [Nat.add_assoc cells 1 N, Nat.add_assoc slots N (N * M)] at XG
  have hsz := mz_size (T.setVm vm₁) cA comp' N M (defaultValue ty) N
  have hou := mz_outer (T.setVm vm₁) cA comp' N M (defaultValue ty) N
  rw [mz_o_full] at hou
  obtain ⟨t, a1, b1⟩ := kk cA comp' (mz_t (T.setVm vm₁) cA comp' N M (defaultValue ty) N).heap (fun n z => ⟨(fun k h => by cases h), kA, hkA, comp', hkindA⟩) hnameA (fun n z => ⟨(fun k h => by cases h), kC, hkC, c1, hkindC⟩) hcomp hsz hou (fun j hj => mz_row (T.setVm vm₁) cA comp' N M (defaultValue ty) N j hj) (fun q hq => mz_old (T.setVm vm₁) cA comp' N M (defaultValue ty) hq N) _ rfl XG
  refine ⟨t, ?_, b1⟩
  have hl1 : ¬ N > e.platform.arrayLengthLimit := by rw [Launch.admits_arrayLengthLimit X.admits]; omega
  have hh1 : ¬ N * componentBytes (.array ty) > e.platform.maxHeapBytes := by
    rw [Launch.admits_maxHeapBytes X.admits]; show ¬ N * 4 > 536870912; omega
  have hl2 : ¬ M > e.platform.arrayLengthLimit := by rw [Launch.admits_arrayLengthLimit X.admits]; omega
  have hh2 : ¬ M * componentBytes ty > e.platform.maxHeapBytes := by rw [Launch.admits_maxHeapBytes X.admits]; omega
  jvm_step X.here [hexec, hdg]
  simp only [multianewarray.sem, wp_bind', W.resolveClassAt_links (State.method?_setTop (F0 m pc ls (.int k :: .int n :: rest)) X.here.top) hg₁]
  rw [W.popN, if_neg (by decide)]
  refine ⟨F0 m pc ls (.int k :: .int n :: rest), State.topJava?_setTop' (s := T.setVm vm₁) _ X.here.top, [.int n, .int k], rest, rfl, rfl, ?_⟩
  simp only [List.mapM_cons, List.mapM_nil, wp_bind', wp_pure']
  refine mz_make (kA := kA₁) (kC := kC₁) (comp := comp') (c1 := c1) (t0 := .array ty) (ty := ty) hN hM hkA₁ hkindA₁ rfl hkC₁ hkindC₁ hn hk hl1 hh1 hl2 hh2 hdf (by show T.heap.size + 1 + _ ≤ _; omega) (by show T.slotsUsed + _ + _ ≤ _; omega) (fun d' acts' => ?_)
  have eS : ((T.setTop (F0 m pc ls (.int k :: .int n :: rest))).setVm vm₁).setTop (F0 m pc ls rest) = (T.setVm vm₁).setTop (F0 m pc ls rest) := by
    show ((T.setVm vm₁).setTop (F0 m pc ls (.int k :: .int n :: rest))).setTop _ = _
    rw [State.setTop_setTop]
  rw [eS, mz_top]
  simp only [wp_bind', W.mark, W.pushRef, State.topJava?_setTop' _ XF.here.top, Option.some.injEq, exists_eq_left', State.setTop_setTop, State.heap_setTop]
  intro acts
  simp [jvm, XF.here.top]
  exact a1
end MZW
section MZV
variable {p : Program} {l : Launch} {e : Env} {R : Room} {s : State} {m : MethodId} {args : Array Value} {below : List Frame} {meth : Method} {c : Code} {H : Heap} {locs : List Loc} {cells slots : Nat} {Q : State → Prop}
variable {D : va_G} {cl : List vw_C} {tys : List (ClassId × FieldType)} {ws : va_W} {A : Nat → Prop} {cc : ByteArray} {pc : Nat} {ls : Array Slot} {rest : List Value}
/-- the rows of ints of a new array of arrays stand behind it -/
def mz_rows (q N : Nat) : List Nat := (List.range N).map (fun j => q + 1 + j)
theorem mz_int (hexec : p.tables.exec = Jvm.exec) (hb : c.code = cc) {own : String} {index : Nat} (hown : s.vm.findClass own = some m.cls) (hclink : (Cond.classLink own index ("[" ++ (FieldType.array .int).toString)).before args s = true)
    (hover : (Cond.arrayOver (.array .int)).before args s = true) (harr : (Cond.arrayClass .int).before args s = true) (hK : va_K D cl tys s) (hP : va_P D cl ws H) (hD : va_D A ws) (hS : va_S A s.heap H locs) (hA : ∀ q, s.heap.size ≤ q → A q)
    {n k : Int32} {N M : Nat} (hn : ¬ n < 0) (hk : ¬ k < 0) (hN : n.toNatClampNeg = N) (hM : k.toNatClampNeg = M) (hb1 : N * 4 ≤ 536870912) (hb2 : M * 4 ≤ 536870912) (hcells : cells + (1 + N) ≤ R.cells) (hslots : slots + (N + N * M) ≤ R.slots) (hdg : decode cc pc = .ok (.multianewarray index 2, 4))
    (kk : ∀ (q : Nat) (cA cR : ClassId) (H1 : Heap), va_K D cl (tys ++ [(cA, .array .int), (cR, .int)]) s → va_P D cl ((ws ++ [(q, .inl (cA, N, .inr (.inr (.inr (.inr (fun j => some (q + 1 + j)))))))]) ++ va_pl (mz_rows q N) (fun _ => .inl (cR, M, .inl (fun _ => 0)))) H1 →
      va_D A ((ws ++ [(q, .inl (cA, N, .inr (.inr (.inr (.inr (fun j => some (q + 1 + j)))))))]) ++ va_pl (mz_rows q N) (fun _ => .inl (cR, M, .inl (fun _ => 0)))) → va_S A s.heap H1 locs →
      W p l e R s m args below meth c H1 locs (cells + (1 + N)) (slots + (N + N * M)) Q (F0 m (pc + 4) ls (.ref q :: rest))) : W p l e R s m args below meth c H locs cells slots Q (F0 m pc ls (.int k :: .int n :: rest)) := by
  refine mz_W hexec hb hown hclink hover harr hdg hN hM hn hk hb1 hb2 (by omega) rfl hcells hslots hS.1 (fun cA comp H1 k1 k2 k3 k4 hz h0 hr ho => ?_)
  have hkeep : va_P D cl ws H1 := hP.kept (fun k x hx => ho x.1 ((hP k x hx).lt))
  have hlt : ∀ (k : Nat) (x : Nat × va_E), ws[k]? = some x → x.1 < H.size := fun k x hx => (hP k x hx).lt
  have hrow : ∀ (i : Nat) (x : Nat × va_E), (va_pl (mz_rows H.size N) (fun _ => .inl (comp, M, .inl (fun _ => 0))))[i]? = some x → i < N ∧ x = (H.size + 1 + i, .inl (comp, M, .inl (fun _ => 0))) := by
    intro i x hx
    have hi : i < N := by
      have := (List.getElem?_eq_some_iff.mp hx).1
      simpa [va_pl, mz_rows] using this
    refine ⟨hi, ?_⟩
    simp [va_pl, mz_rows, hi] at hx
    exact hx.symm
  have hD1 : va_D A (ws ++ [(H.size, .inl (cA, N, .inr (.inr (.inr (.inr (fun j => some (H.size + 1 + j)))))))]) := hD.push hP rfl (hA _ hS.1)
  have hP1 : va_P D cl (ws ++ [(H.size, .inl (cA, N, .inr (.inr (.inr (.inr (fun j => some (H.size + 1 + j)))))))]) H1 := by
    refine hkeep.app (fun k x hx => ?_)
    have hk0 : k < 1 := (List.getElem?_eq_some_iff.mp hx).1
    rw [show k = 0 by omega] at hx
    cases hx
    show H1[H.size]? = some (vp_cell _ _)
    rw [vp_cell_q]
    exact h0
  refine kk H.size cA comp H1 ⟨hK.1, fun k x hx => ?_⟩ (hP1.app (fun k x hx => ?_)) (hD1.app ⟨fun i j x y hx hy exy => ?_, fun k x hx => ?_⟩ (fun i j x y hx hy => ?_)) ⟨by have := hS.1; omega, fun x h1 h2 => (ho x (Nat.lt_of_lt_of_le h1 hS.1)).trans (hS.2.1 x h1 h2), hS.2.2⟩
  · by_cases hl : k < tys.length
    · rw [List.getElem?_append_left hl] at hx
      exact hK.2 k x hx
    · rw [List.getElem?_append_right (by omega)] at hx
      have hz2 : k - tys.length < 2 := (List.getElem?_eq_some_iff.mp hx).1
      rcases (show k - tys.length = 0 ∨ k - tys.length = 1 by omega) with h | h
      · rw [h] at hx
        cases hx
        exact ⟨k1, k2⟩
      · rw [h] at hx
        cases hx
        exact ⟨k3, k4⟩
  · obtain ⟨hi, rfl⟩ := hrow k x hx
    show H1[H.size + 1 + k]? = some (vp_cell _ _)
    rw [vp_cell_i]
    exact hr k hi
  · obtain ⟨hi, rfl⟩ := hrow i x hx
    obtain ⟨hj, rfl⟩ := hrow j y hy
    have : H.size + 1 + i = H.size + 1 + j := exy
    omega
  · obtain ⟨hi, rfl⟩ := hrow k x hx
    have := hS.1
    exact hA _ (by show s.heap.size ≤ H.size + 1 + k; omega)
  · obtain ⟨hj, rfl⟩ := hrow j y hy
    intro exy
    have exy : x.1 = H.size + 1 + j := exy
    by_cases hl : i < ws.length
    · rw [List.getElem?_append_left hl] at hx
      have := hlt i x hx
      omega
    · rw [List.getElem?_append_right (by omega)] at hx
      have hk0 : i - ws.length < 1 := (List.getElem?_eq_some_iff.mp hx).1
      rw [show i - ws.length = 0 by omega] at hx
      cases hx
      have exy : H.size = H.size + 1 + j := exy
      omega
end MZV
end
section
/-! the place's own rows over the kit's: one list of words for all methods, one world, one form of contract -/
/-- the array classes that the worlds use -/
abbrev tyl (k : Nat → ClassId) : List (ClassId × FieldType) := [(k 0, .int), (k 1, .long), (k 2, .boolean), (k 3, .object "PotentialBench$Body"), (k 4, .object "PotentialBench$Whole"), (k 5, .array .int)]
def nxOk : Cond → Bool
  | .fieldLinkNest .. => true
  | .methodLinkNest .. => true
  | _ => false
theorem nx_warm {w : Cond} (h : nxOk w = true) {s U : State} (hW : s.WarmedH U.vm) (hZ : va_Nw w s) : va_Nw w U := by
  cases w <;> simp [nxOk] at h
  · exact va_Nw.warmM hW hZ
  · exact va_Nw.warmF hW hZ
theorem nx_tab {w : Cond} (h : nxOk w = true) : w.onTables = true := by
  cases w <;> simp [nxOk] at h <;> rfl
/-- an array class over arrays of ints is known -/
def ao_I (U : State) : Prop := (Cond.arrayOver (.array .int)).before #[] U = true
theorem ao_I_moved {u U : State} (hvm : u.vm.Alike U.vm) (h : ao_I u) : ao_I U := by
  obtain ⟨comp, c, k, h1, h2, h3, h4, h5⟩ := arrayOverA_spec h
  obtain ⟨k', hk', he⟩ := hvm.2.2 _ _ h3
  have hi : (U.vm.classes.findIdx? fun (x : Class) => match x.kind with | .array component _ => component == comp | _ => false) = some c := by
    rw [hvm.findIdx?_eq _ (fun _ => rfl)]
    exact h2
  have hkind : k'.kind = .array comp (.array .int) := by rw [he]; exact h4
  have f1 : U.vm.findClass (FieldType.array .int).toString = some comp := by rw [hvm.findClass]; exact h1
  have f2 : U.vm.findClass ("[" ++ (FieldType.array .int).toString) = some c := by rw [hvm.findClass]; exact h5
  unfold ao_I Cond.before Cond.holds
  simp only [Cond.value]
  rw [f1, Option.bind_some]
  refine (congrArg (fun o : Option Nat => (o.bind (fun c => (U.vm.classes[c]?).map fun (k : Class) => match k.kind with | .array _ ty => decide (ty = FieldType.array .int) && decide (U.vm.findClass ("[" ++ (FieldType.array .int).toString) = some c) | _ => false) == some true)) hi).trans ?_
  simp [hk', hkind, f2]
/-- what every method knows of the tables besides its words -/
def Kn (G : va_G) (k : Nat → ClassId) (U : State) : Prop := va_K G cls (tyl k) U ∧ (∀ w ∈ tables_1, nxOk w = true → va_Nw w U) ∧ va_AO "PotentialBench$Body" U ∧ va_AO "PotentialBench$Whole" U ∧ ao_I U
theorem Kn.warm {G : va_G} {k : Nat → ClassId} {s U : State} (hW : s.WarmedH U.vm) (h : Kn G k s) : Kn G k U := ⟨va_K.moved hW.alike h.1, fun w hw ho => nx_warm ho hW (h.2.1 w hw ho), va_AO.moved hW.alike h.2.2.1, va_AO.moved hW.alike h.2.2.2.1, ao_I_moved hW.alike h.2.2.2.2⟩
theorem Kn.same {G : va_G} {k : Nat → ClassId} {s U : State} (hv : s.vm = U.vm) (h : Kn G k s) : Kn G k U := by
  have ha : s.vm.Alike U.vm := by rw [← hv]; exact Vm.Alike.refl s.vm
  exact ⟨va_K.moved ha h.1, fun w hw ho => va_Nw.same (nx_tab ho) hv (h.2.1 w hw ho), va_AO.moved ha h.2.2.1, va_AO.moved ha h.2.2.2.1, ao_I_moved ha h.2.2.2.2⟩
/-- a method's start: the heap has sz cells, holds the world wi -/
def Pr (G : va_G) (k : Nat → ClassId) (sz : Nat) (wi : va_W) (U : State) : Prop := U.heap.size = sz ∧ va_P G cls wi U.heap ∧ Kn G k U ∧ va_D (fun _ => True) wi
/-- a method's end: the world wo of its answer -/
def Po {S : Type} (G : va_G) (k : Nat → ClassId) (A : Nat → Prop) (wo : S → va_W) (u : S) (t : State) : Prop := va_P G cls (wo u) t.heap ∧ Kn G k t ∧ va_D A (wo u)
abbrev wy (y : MethodName) (cc : ByteArray) (n : Nat) (r : Option FieldType) : List Cond := Cond.code y cc n r :: gt
/-- contracts: void, int (boolean too), long -/
abbrev CV {S : Type} (l : Launch) (y : MethodName) (cc : ByteArray) (n : Nat) (rm : Room) (as : List Value) (G : va_G) (k : Nat → ClassId) (sz : Nat) (wi : va_W) (post : S → Prop) (wo : S → va_W) (mc ms : Nat) : Prop :=
  Met l y (wy y cc n none) rm (va_Pc as (Pr G k sz wi)) (va_Qv post (Po G k (va_A wi sz) wo) (va_A wi sz)) mc ms (va_A wi sz)
abbrev CI {S : Type} (l : Launch) (y : MethodName) (cc : ByteArray) (n : Nat) (rt : FieldType) (rm : Room) (as : List Value) (G : va_G) (k : Nat → ClassId) (sz : Nat) (wi : va_W) (post : Int32 → S → Prop) (wo : S → va_W) (mc ms : Nat) : Prop :=
  Met l y (wy y cc n (some rt)) rm (va_Pc as (Pr G k sz wi)) (va_Qi post (Po G k (va_A wi sz) wo) (va_A wi sz)) mc ms (va_A wi sz)
abbrev CL {S : Type} (l : Launch) (y : MethodName) (cc : ByteArray) (n : Nat) (rm : Room) (as : List Value) (G : va_G) (k : Nat → ClassId) (sz : Nat) (wi : va_W) (post : Int64 → S → Prop) (wo : S → va_W) (mc ms : Nat) : Prop :=
  Met l y (wy y cc n (some .long)) rm (va_Pc as (Pr G k sz wi)) (va_Ql post (Po G k (va_A wi sz) wo) (va_A wi sz)) mc ms (va_A wi sz)
/-- the heap now: it holds ws, of A alone, and nothing outside A has changed since H0 -/
def Sw (G : va_G) (A : Nat → Prop) (H0 H : Heap) (locs : List Loc) (ws : va_W) : Prop := va_P G cls ws H ∧ va_D A ws ∧ va_S A H0 H locs
theorem Sw.sub {G : va_G} {A : Nat → Prop} {H0 H : Heap} {locs : List Loc} {ws ws' : va_W} (h : Sw G A H0 H locs ws) (is : List Nat) (hn : va_nd is = true) (hs : is.map (fun i => ws[i]?) = ws'.map some) : Sw G A H0 H locs ws' := by
  refine ⟨h.1.sub is ?_, h.2.1.sub is hn hs, h.2.2⟩
  have h1 : (is.map (fun i => ws[i]?)).filterMap id = (ws'.map some).filterMap id := by rw [hs]
  simpa [List.filterMap_map, Function.comp_def] using h1
/-- what is known inside a method's body -/
def Cx (p : Program) (s : State) (m : MethodId) (args : Array Value) (meth : Method) (c : Code) (cc : ByteArray) (own : String) (nL : Nat) (ret : Option FieldType) (nm : String) : Prop :=
  p.tables.exec = Jvm.exec ∧ c.code = cc ∧ c.maxLocals = nL ∧ s.vm.findClass own = some m.cls ∧ (∀ w ∈ gt, w.before args s = true) ∧ meth.sig.returnType = ret ∧ meth.locks = false ∧ meth.name = nm
section START
variable {l : Launch} {y : MethodName} {cc : ByteArray} {n : Nat} {rm : Room} {as : List Value} {G : va_G} {k : Nat → ClassId} {sz : Nat} {wi : va_W} {mc ms : Nat}
theorem met_start {ret : Option FieldType} {Q : Array Value → State → Outcome → State → Prop} {free : Addr → Prop} (hy : plainName y.cls = true) (ha : (lg_sl as).length ≤ n)
    (body : ∀ p e s m below meth c, Cx p s m as.toArray meth c cc y.cls n ret y.name → Kn G k s → (∀ q : Nat, s.heap.size ≤ q → va_A wi sz q) → s.heap.size = sz → Sw G (va_A wi sz) s.heap s.heap [] wi → ∀ ls, lv_has ls n (lv_args 0 as) →
      W p l e rm s m as.toArray below meth c s.heap [] 0 0 (MQ below Q as.toArray s mc ms free) (F0 m 0 ls [])) : Met l y (wy y cc n ret) rm (va_Pc as (Pr G k sz wi)) Q mc ms free := by
  refine Met.ofW (cc := cc) (maxL := n) (ret := ret) hy rfl ?_
  intro p e s m args below meth c s₁ B hml hv
  obtain ⟨rfl, hsz, hP, hK, hD0⟩ := hv
  have hts := atoms_spec (ws := wy y cc n ret) B.pre
  have hnm := name_of_methodNamed B.named B.method
  have hD := hD0.self (sz := sz)
  rw [lg_entry_eq]
  exact body p e s m below meth c ⟨B.exec, B.bytes, hml, findClass_of_methodNamed B.named, fun w h => hts w (List.mem_cons_of_mem _ h), B.returns, B.notSynchronized, hnm.1⟩ hK (fun q h => Or.inr (by rw [← hsz]; exact h)) hsz ⟨hP, hD, va_S.rf⟩ _ (lv_entry as ha)
end START
section ROWS
variable {p : Program} {l : Launch} {e : Env} {R : Room} {s : State} {m : MethodId} {args : Array Value} {below : List Frame} {meth : Method} {c : Code} {H : Heap} {locs : List Loc} {cells slots : Nat} {Q : State → Prop}
variable {cc : ByteArray} {own nm : String} {nL : Nat} {ret : Option FieldType} {G : va_G} {k : Nat → ClassId} {A : Nat → Prop} {ws : va_W} {pc : Nat} {ls : Array Slot} {rest : List Value} {a : Nat}
/-- a class's own rows, by its place in cls -/
def clOk (q : vw_C) : Prop := (∀ w ∈ u_ws q.1 q.2.1 q.2.2, w ∈ gt) ∧ ∃ ty : Nat → FieldType, (∀ j, j < q.2.2 → parseFieldDescriptor (q.2.1 j).2.2.1 = some (ty j)) ∧ ∀ a, a < q.2.2 → ∀ b, b < q.2.2 → a ≠ b → (q.2.1 a).2.1 ≠ (q.2.1 b).2.1
theorem r_get (C : Cx p s m args meth c cc own nL ret nm) (K : Kn G k s) (S : Sw G A s.heap H locs ws) (q0 : Nat) {ci : Nat} {fs : List Value} (he : ws[q0]? = some (a, .inr (ci, fs))) {q : vw_C} (hc : cls[ci]? = some q) (hq : clOk q) (f : Nat) (hf : f < q.2.2) {index : Nat} (hlink : Cond.fieldLink own index (q.2.1 f).1 (q.2.1 f).2.1 (q.2.1 f).2.2.1 ∈ gt) {v : Value} (hv : fs[f]? = some v) (hdg : decode cc pc = .ok (.getfield index, 3))
    (kk : W p l e R s m args below meth c H locs cells slots Q (F0 m (pc + 3) ls (v :: rest))) : W p l e R s m args below meth c H locs cells slots Q (F0 m pc ls (.ref a :: rest)) :=
  va_get (C := q.1) (T := q.2.1) (N := q.2.2) C.1 C.2.1 C.2.2.2.2.1 hq.1 C.2.2.2.1 K.1 S.1 q0 he hc f hf (C.2.2.2.2.1 _ hlink) (fun _ h => h) hv hdg kk
theorem r_getN (C : Cx p s m args meth c cc own nL ret nm) (K : Kn G k s) (S : Sw G A s.heap H locs ws) (q0 : Nat) {ci : Nat} {fs : List Value} (he : ws[q0]? = some (a, .inr (ci, fs))) {q : vw_C} (hc : cls[ci]? = some q) (hq : clOk q) (f : Nat) (hf : f < q.2.2) {index : Nat} {host : String} (hlink : Cond.fieldLinkNest own index (q.2.1 f).1 (q.2.1 f).2.1 (q.2.1 f).2.2.1 host ∈ tables_1) {v : Value} (hv : fs[f]? = some v) (hdg : decode cc pc = .ok (.getfield index, 3))
    (kk : W p l e R s m args below meth c H locs cells slots Q (F0 m (pc + 3) ls (v :: rest))) : W p l e R s m args below meth c H locs cells slots Q (F0 m pc ls (.ref a :: rest)) :=
  va_getN (C := q.1) (T := q.2.1) (N := q.2.2) C.1 C.2.1 C.2.2.2.2.1 hq.1 C.2.2.2.1 K.1 S.1 q0 he hc f hf (va_Nw.use rfl (K.2.1 _ hlink rfl)) (fun _ h => h) hv hdg kk
theorem r_put (C : Cx p s m args meth c cc own nL ret nm) (K : Kn G k s) (S : Sw G A s.heap H locs ws) (q0 : Nat) {ci : Nat} {fs : List Value} (he : ws[q0]? = some (a, .inr (ci, fs))) {q : vw_C} (hc : cls[ci]? = some q) (hq : clOk q) (f : Nat) (hf : f < q.2.2) {index : Nat} (hlink : Cond.fieldLink own index (q.2.1 f).1 (q.2.1 f).2.1 (q.2.1 f).2.2.1 ∈ gt) (hfin : (q.2.1 f).2.2.2 = false) {ty : FieldType} {v : Value} (hd : parseFieldDescriptor (q.2.1 f).2.2.1 = some ty) (hn : narrow ty v = v) (hfit : fits ty v = true) (hl : f < fs.length) {fs' : List Value} {ws' : va_W} (h1 : fs.set f v = fs') (h2 : ws.set q0 (a, .inr (ci, fs')) = ws') (hdg : decode cc pc = .ok (.putfield index, 3))
    (kk : ∀ (H1 : Heap) (locs1 : List Loc), Sw G A s.heap H1 locs1 ws' → W p l e R s m args below meth c H1 locs1 cells slots Q (F0 m (pc + 3) ls rest)) : W p l e R s m args below meth c H locs cells slots Q (F0 m pc ls (v :: .ref a :: rest)) := by
  subst h1; subst h2
  obtain ⟨t0, ht0, hn0⟩ := hq.2
  exact va_put (C := q.1) (T := q.2.1) (N := q.2.2) C.1 C.2.1 C.2.2.2.2.1 hq.1 t0 ht0 hn0 C.2.2.2.1 K.1 S.1 S.2.1 S.2.2 q0 he hc f hf (C.2.2.2.2.1 _ hlink) (fun _ h => h) hfin hd hn hfit hl hdg (fun H1 l1 a1 a2 a3 => kk H1 l1 ⟨a1, a2, a3⟩)
theorem r_putN (C : Cx p s m args meth c cc own nL ret nm) (K : Kn G k s) (S : Sw G A s.heap H locs ws) (q0 : Nat) {ci : Nat} {fs : List Value} (he : ws[q0]? = some (a, .inr (ci, fs))) {q : vw_C} (hc : cls[ci]? = some q) (hq : clOk q) (f : Nat) (hf : f < q.2.2) {index : Nat} {host : String} (hlink : Cond.fieldLinkNest own index (q.2.1 f).1 (q.2.1 f).2.1 (q.2.1 f).2.2.1 host ∈ tables_1) (hfin : (q.2.1 f).2.2.2 = false) {ty : FieldType} {v : Value} (hd : parseFieldDescriptor (q.2.1 f).2.2.1 = some ty) (hn : narrow ty v = v) (hfit : fits ty v = true) (hl : f < fs.length) {fs' : List Value} {ws' : va_W} (h1 : fs.set f v = fs') (h2 : ws.set q0 (a, .inr (ci, fs')) = ws') (hdg : decode cc pc = .ok (.putfield index, 3))
    (kk : ∀ (H1 : Heap) (locs1 : List Loc), Sw G A s.heap H1 locs1 ws' → W p l e R s m args below meth c H1 locs1 cells slots Q (F0 m (pc + 3) ls rest)) : W p l e R s m args below meth c H locs cells slots Q (F0 m pc ls (v :: .ref a :: rest)) := by
  subst h1; subst h2
  obtain ⟨t0, ht0, hn0⟩ := hq.2
  exact va_putN (C := q.1) (T := q.2.1) (N := q.2.2) C.1 C.2.1 C.2.2.2.2.1 hq.1 t0 ht0 hn0 C.2.2.2.1 K.1 S.1 S.2.1 S.2.2 q0 he hc f hf (va_Nw.use rfl (K.2.1 _ hlink rfl)) (fun _ h => h) hfin hd hn hfit hl hdg (fun H1 l1 a1 a2 a3 => kk H1 l1 ⟨a1, a2, a3⟩)
theorem r_putF (C : Cx p s m args meth c cc own nL ret "<init>") (K : Kn G k s) (S : Sw G A s.heap H locs ws) (q0 : Nat) {ci : Nat} {fs : List Value} (he : ws[q0]? = some (a, .inr (ci, fs))) {q : vw_C} (hc : cls[ci]? = some q) (hq : clOk q) (f : Nat) (hf : f < q.2.2) {index : Nat} (hlink : Cond.fieldLink own index (q.2.1 f).1 (q.2.1 f).2.1 (q.2.1 f).2.2.1 ∈ gt) (hfin : (q.2.1 f).2.2.2 = true) (hdecl : (q.2.1 f).1 = own) {ty : FieldType} {v : Value} (hd : parseFieldDescriptor (q.2.1 f).2.2.1 = some ty) (hn : narrow ty v = v) (hfit : fits ty v = true) (hl : f < fs.length) {fs' : List Value} {ws' : va_W} (h1 : fs.set f v = fs') (h2 : ws.set q0 (a, .inr (ci, fs')) = ws') (hdg : decode cc pc = .ok (.putfield index, 3))
    (kk : ∀ (H1 : Heap) (locs1 : List Loc), Sw G A s.heap H1 locs1 ws' → W p l e R s m args below meth c H1 locs1 cells slots Q (F0 m (pc + 3) ls rest)) : W p l e R s m args below meth c H locs cells slots Q (F0 m pc ls (v :: .ref a :: rest)) := by
  subst h1; subst h2
  obtain ⟨t0, ht0, hn0⟩ := hq.2
  exact va_putF (C := q.1) (T := q.2.1) (N := q.2.2) C.1 C.2.1 C.2.2.2.2.1 hq.1 t0 ht0 hn0 C.2.2.2.1 K.1 S.1 S.2.1 S.2.2 q0 he hc f hf (C.2.2.2.2.1 _ hlink) (fun _ h => h) hfin C.2.2.2.2.2.2.2 hdecl hd hn hfit hl hdg (fun H1 l1 a1 a2 a3 => kk H1 l1 ⟨a1, a2, a3⟩)
theorem r_objInit (C : Cx p s m args meth c cc own nL ret nm) {idx : Nat} (hl : Cond.methodLink own idx Lib.objectInit ∈ gt) (hs : ls.size = nL) (hd : decode cc pc = .ok (.invokespecial idx, 3)) (hf : 1 ≤ R.frames) (hlo : (rest.map fun v => v.category).sum + 12 ≤ R.locals)
    (kk : W p l e R s m args below meth c H locs cells slots Q (F0 m (pc + 3) ls rest)) : W p l e R s m args below meth c H locs cells slots Q (F0 m pc ls (.ref a :: rest)) :=
  W.objInit C.1 C.2.1 C.2.2.2.1 (C.2.2.2.2.1 _ hl) (C.2.2.2.2.1 _ wn_JO_init) (C.2.2.2.2.1 _ wc_JO_init) rfl (by rw [C.2.2.1]; exact hs) rfl hd hf (by show 2 * 0 + _ + 12 ≤ _; omega) kk
end ROWS
end
section
/-! the place's own rows, second part: what is made, arrays, calls, ends -/
theorem clOk_PB : clOk (R_PB, T_PB, 9) := ⟨in_PB, t_PB, k_PB, n_PB⟩
theorem clOk_So : clOk (R_So, T_So, 14) := ⟨in_So, t_So, k_So, n_So⟩
theorem clOk_Wh : clOk (R_Wh, T_Wh, 3) := ⟨in_Wh, t_Wh, k_Wh, n_Wh⟩
theorem clOk_Be : clOk (R_Be, T_Be, 8) := ⟨in_Be, t_Be, k_Be, n_Be⟩
theorem clOk_Bo : clOk (R_Bo, T_Bo, 9) := ⟨in_Bo, t_Bo, k_Bo, n_Bo⟩
theorem clOk_Re : clOk (R_Re, T_Re, 5) := ⟨in_Re, t_Re, k_Re, n_Re⟩
theorem clOk_Ru : clOk (R_Ru, T_Ru, 12) := ⟨in_Ru, t_Ru, k_Ru, n_Ru⟩
theorem clOk_Ne : clOk (R_Ne, T_Ne, 12) := ⟨in_Ne, t_Ne, k_Ne, n_Ne⟩
theorem clOk_Mo : clOk (R_Mo, T_Mo, 61) := ⟨in_Mo, t_Mo, k_Mo, n_Mo⟩
/-- an array class is told by its name -/
theorem ra_same {U : State} {cA cB : ClassId} {ty : FieldType} (h1 : va_RA U cA ty) (h2 : va_RA U cB ty) : cA = cB := by
  cases ty with
  | object C =>
    obtain ⟨_, _, _, _, _, h1⟩ := h1
    obtain ⟨_, _, _, _, _, h2⟩ := h2
    exact Option.some.inj (h1.symm.trans h2)
  | _ => exact Option.some.inj (Eq.trans (Eq.symm h1) h2)
section ROWS2
variable {p : Program} {l : Launch} {e : Env} {R : Room} {s : State} {m : MethodId} {args : Array Value} {below : List Frame} {meth : Method} {c : Code} {H : Heap} {locs : List Loc} {cells slots : Nat} {Q : State → Prop}
variable {cc : ByteArray} {own nm : String} {nL : Nat} {ret : Option FieldType} {G : va_G} {k : Nat → ClassId} {A : Nat → Prop} {ws : va_W} {pc : Nat} {ls : Array Slot} {rest : List Value} {a : Nat}
theorem r_newI (C : Cx p s m args meth c cc own nL ret nm) (K : Kn G k s) (S : Sw G A s.heap H locs ws) (hA : ∀ q, s.heap.size ≤ q → A q) {n : Int32} (N' : Nat) (hn : ¬ n < 0) (hN : n.toNatClampNeg = N') (hbytes : N' * 4 ≤ 536870912) (hcells : cells + 1 ≤ R.cells) (hslots : slots + N' ≤ R.slots) (hdg : decode cc pc = .ok (.newarray .int, 2))
    (kk : ∀ (q : Nat) (H1 : Heap), Sw G A s.heap H1 locs (ws ++ [(q, .inl (k 0, N', .inl (fun _ => 0)))]) → W p l e R s m args below meth c H1 locs (cells + 1) (slots + N') Q (F0 m (pc + 2) ls (.ref q :: rest))) : W p l e R s m args below meth c H locs cells slots Q (F0 m pc ls (.int n :: rest)) := by
  refine va_newa (atype := .int) (ty := .int) (a0 := (N', .inl (fun _ => 0))) C.1 C.2.1 (C.2.2.2.2.1 _ wa_int) rfl K.1 S.1 S.2.1 S.2.2 hA (fun cA => rfl) hn hN hbytes hcells hslots hdg (fun q cA H1 hK hP hD hS => ?_)
  have e1 : cA = k 0 := ra_same (hK.2 6 (cA, .int) rfl).2 (K.1.2 0 (k 0, .int) rfl).2
  subst e1
  exact kk q H1 ⟨hP, hD, hS⟩
theorem r_newJ (C : Cx p s m args meth c cc own nL ret nm) (K : Kn G k s) (S : Sw G A s.heap H locs ws) (hA : ∀ q, s.heap.size ≤ q → A q) {n : Int32} (N' : Nat) (hn : ¬ n < 0) (hN : n.toNatClampNeg = N') (hbytes : N' * 8 ≤ 536870912) (hcells : cells + 1 ≤ R.cells) (hslots : slots + N' ≤ R.slots) (hdg : decode cc pc = .ok (.newarray .long, 2))
    (kk : ∀ (q : Nat) (H1 : Heap), Sw G A s.heap H1 locs (ws ++ [(q, .inl (k 1, N', .inr (.inl (fun _ => 0))))]) → W p l e R s m args below meth c H1 locs (cells + 1) (slots + N') Q (F0 m (pc + 2) ls (.ref q :: rest))) : W p l e R s m args below meth c H locs cells slots Q (F0 m pc ls (.int n :: rest)) := by
  refine va_newa (atype := .long) (ty := .long) (a0 := (N', .inr (.inl (fun _ => 0)))) C.1 C.2.1 (C.2.2.2.2.1 _ wa_long) rfl K.1 S.1 S.2.1 S.2.2 hA (fun cA => rfl) hn hN hbytes hcells hslots hdg (fun q cA H1 hK hP hD hS => ?_)
  have e1 : cA = k 1 := ra_same (hK.2 6 (cA, .long) rfl).2 (K.1.2 1 (k 1, .long) rfl).2
  subst e1
  exact kk q H1 ⟨hP, hD, hS⟩
theorem r_newZ (C : Cx p s m args meth c cc own nL ret nm) (K : Kn G k s) (S : Sw G A s.heap H locs ws) (hA : ∀ q, s.heap.size ≤ q → A q) {n : Int32} (N' : Nat) (hn : ¬ n < 0) (hN : n.toNatClampNeg = N') (hbytes : N' * 1 ≤ 536870912) (hcells : cells + 1 ≤ R.cells) (hslots : slots + N' ≤ R.slots) (hdg : decode cc pc = .ok (.newarray .boolean, 2))
    (kk : ∀ (q : Nat) (H1 : Heap), Sw G A s.heap H1 locs (ws ++ [(q, .inl (k 2, N', .inl (fun _ => 0)))]) → W p l e R s m args below meth c H1 locs (cells + 1) (slots + N') Q (F0 m (pc + 2) ls (.ref q :: rest))) : W p l e R s m args below meth c H locs cells slots Q (F0 m pc ls (.int n :: rest)) := by
  refine va_newa (atype := .boolean) (ty := .boolean) (a0 := (N', .inl (fun _ => 0))) C.1 C.2.1 (C.2.2.2.2.1 _ wa_boolean) rfl K.1 S.1 S.2.1 S.2.2 hA (fun cA => rfl) hn hN hbytes hcells hslots hdg (fun q cA H1 hK hP hD hS => ?_)
  have e1 : cA = k 2 := ra_same (hK.2 6 (cA, .boolean) rfl).2 (K.1.2 2 (k 2, .boolean) rfl).2
  subst e1
  exact kk q H1 ⟨hP, hD, hS⟩
theorem r_newB (C : Cx p s m args meth c cc own nL ret nm) (K : Kn G k s) (S : Sw G A s.heap H locs ws) (hA : ∀ q, s.heap.size ≤ q → A q) {index : Nat} (hl : Cond.classLink own index "PotentialBench$Body" ∈ gt) {n : Int32} (N' : Nat) (hn : ¬ n < 0) (hN : n.toNatClampNeg = N') (hbytes : N' * 4 ≤ 536870912) (hcells : cells + 1 ≤ R.cells) (hslots : slots + N' ≤ R.slots) (hdg : decode cc pc = .ok (.anewarray index, 3))
    (kk : ∀ (q : Nat) (H1 : Heap), Sw G A s.heap H1 locs (ws ++ [(q, .inl (k 3, N', .inr (.inr (.inr (.inr (fun _ => none))))))]) → W p l e R s m args below meth c H1 locs (cells + 1) (slots + N') Q (F0 m (pc + 3) ls (.ref q :: rest))) : W p l e R s m args below meth c H locs cells slots Q (F0 m pc ls (.int n :: rest)) := by
  refine va_newq (C := "PotentialBench$Body") C.1 C.2.1 C.2.2.2.1 (C.2.2.2.2.1 _ hl) K.2.2.1 K.1 S.1 S.2.1 S.2.2 hA hn hN hbytes hcells hslots hdg (fun q cA H1 hK hP hD hS => ?_)
  have e1 : cA = k 3 := ra_same (hK.2 6 (cA, .object "PotentialBench$Body") rfl).2 (K.1.2 3 (k 3, .object "PotentialBench$Body") rfl).2
  subst e1
  exact kk q H1 ⟨hP, hD, hS⟩
theorem r_newW (C : Cx p s m args meth c cc own nL ret nm) (K : Kn G k s) (S : Sw G A s.heap H locs ws) (hA : ∀ q, s.heap.size ≤ q → A q) {index : Nat} (hl : Cond.classLink own index "PotentialBench$Whole" ∈ gt) {n : Int32} (N' : Nat) (hn : ¬ n < 0) (hN : n.toNatClampNeg = N') (hbytes : N' * 4 ≤ 536870912) (hcells : cells + 1 ≤ R.cells) (hslots : slots + N' ≤ R.slots) (hdg : decode cc pc = .ok (.anewarray index, 3))
    (kk : ∀ (q : Nat) (H1 : Heap), Sw G A s.heap H1 locs (ws ++ [(q, .inl (k 4, N', .inr (.inr (.inr (.inr (fun _ => none))))))]) → W p l e R s m args below meth c H1 locs (cells + 1) (slots + N') Q (F0 m (pc + 3) ls (.ref q :: rest))) : W p l e R s m args below meth c H locs cells slots Q (F0 m pc ls (.int n :: rest)) := by
  refine va_newq (C := "PotentialBench$Whole") C.1 C.2.1 C.2.2.2.1 (C.2.2.2.2.1 _ hl) K.2.2.2.1 K.1 S.1 S.2.1 S.2.2 hA hn hN hbytes hcells hslots hdg (fun q cA H1 hK hP hD hS => ?_)
  have e1 : cA = k 4 := ra_same (hK.2 6 (cA, .object "PotentialBench$Whole") rfl).2 (K.1.2 4 (k 4, .object "PotentialBench$Whole") rfl).2
  subst e1
  exact kk q H1 ⟨hP, hD, hS⟩
theorem r_multi (C : Cx p s m args meth c cc own nL ret nm) (K : Kn G k s) (S : Sw G A s.heap H locs ws) (hA : ∀ q, s.heap.size ≤ q → A q) {index : Nat} (hl : Cond.classLink own index "[[I" ∈ gt) {n j : Int32} (N M : Nat) (hn : ¬ n < 0) (hj : ¬ j < 0) (hN : n.toNatClampNeg = N) (hM : j.toNatClampNeg = M) (hb1 : N * 4 ≤ 536870912) (hb2 : M * 4 ≤ 536870912) (hcells : cells + (1 + N) ≤ R.cells) (hslots : slots + (N + N * M) ≤ R.slots) (hdg : decode cc pc = .ok (.multianewarray index 2, 4))
    (kk : ∀ (q : Nat) (H1 : Heap), Sw G A s.heap H1 locs ((ws ++ [(q, .inl (k 5, N, .inr (.inr (.inr (.inr (fun j => some (q + 1 + j)))))))]) ++ va_pl (mz_rows q N) (fun _ => .inl (k 0, M, .inl (fun _ => 0)))) → W p l e R s m args below meth c H1 locs (cells + (1 + N)) (slots + (N + N * M)) Q (F0 m (pc + 4) ls (.ref q :: rest))) : W p l e R s m args below meth c H locs cells slots Q (F0 m pc ls (.int j :: .int n :: rest)) := by
  refine mz_int C.1 C.2.1 C.2.2.2.1 (C.2.2.2.2.1 _ hl) K.2.2.2.2 (C.2.2.2.2.1 _ wa_int) K.1 S.1 S.2.1 S.2.2 hA hn hj hN hM hb1 hb2 hcells hslots hdg (fun q cA cR H1 hK hP hD hS => ?_)
  have e1 : cA = k 5 := ra_same (hK.2 6 (cA, .array .int) rfl).2 (K.1.2 5 (k 5, .array .int) rfl).2
  have e2 : cR = k 0 := ra_same (hK.2 7 (cR, .int) rfl).2 (K.1.2 0 (k 0, .int) rfl).2
  subst e1; subst e2
  exact kk q H1 ⟨hP, hD, hS⟩
theorem r_new (C : Cx p s m args meth c cc own nL ret nm) (K : Kn G k s) (S : Sw G A s.heap H locs ws) (hA : ∀ q, s.heap.size ≤ q → A q) (ci : Nat) {q : vw_C} (hc : cls[ci]? = some q) (hq : clOk q) {index : Nat} (hl : Cond.classLink own index q.1 ∈ gt) (hi : Cond.instantiable q.1 q.2.2 ∈ gt) (hz : Cond.initialized q.1 ∈ gt) (ty : Nat → FieldType) (hty : ∀ j, j < q.2.2 → parseFieldDescriptor (q.2.1 j).2.2.1 = some (ty j)) {fs : List Value} (hfs : ∀ j, j < q.2.2 → defaultValue (ty j) = vp_V fs j) (hcells : cells + 1 ≤ R.cells) (hslots : slots + q.2.2 ≤ R.slots) (hdg : decode cc pc = .ok (.new index, 3))
    (kk : ∀ (b : Nat) (H1 : Heap), Sw G A s.heap H1 locs (ws ++ [(b, .inr (ci, fs))]) → W p l e R s m args below meth c H1 locs (cells + 1) (slots + q.2.2) Q (F0 m (pc + 3) ls (.ref b :: rest))) : W p l e R s m args below meth c H locs cells slots Q (F0 m pc ls rest) :=
  va_new (C := q.1) (T := q.2.1) (N := q.2.2) C.1 C.2.1 C.2.2.2.2.1 hq.1 ty hty C.2.2.2.1 (C.2.2.2.2.1 _ hl) (C.2.2.2.2.1 _ hi) (C.2.2.2.2.1 _ hz) K.1 S.1 S.2.1 S.2.2 hA hc hfs hcells hslots hdg (fun b H1 hP hD hS => kk b H1 ⟨hP, hD, hS⟩)
theorem r_aald (C : Cx p s m args meth c cc own nL ret nm) (K : Kn G k s) (S : Sw G A s.heap H locs ws) (q0 t0 : Nat) {cA : ClassId} {N : String} {n : Nat} {f : Nat → Option Nat} (ha : ws[q0]? = some (a, .inl (cA, n, .inr (.inr (.inr (.inr f)))))) (ht : (tyl k)[t0]? = some (cA, .object N)) {i : Int32} (hin : vp_in i n) {b : Nat} (hv : f i.toNatClampNeg = some b) (hdg : decode cc pc = .ok (.aaload, 1))
    (kk : W p l e R s m args below meth c H locs cells slots Q (F0 m (pc + 1) ls (.ref b :: rest))) : W p l e R s m args below meth c H locs cells slots Q (F0 m pc ls (.int i :: .ref a :: rest)) :=
  va_aldq C.1 C.2.1 K.1 S.1 q0 t0 ha ht hin hdg (by rw [hv]; exact kk)
theorem r_aast (C : Cx p s m args meth c cc own nL ret nm) (K : Kn G k s) (S : Sw G A s.heap H locs ws) (q0 t0 qk ci : Nat) {cA : ClassId} {r : vw_C} {n v : Nat} {vs : List Value} {f : Nat → Option Nat} (ha : ws[q0]? = some (a, .inl (cA, n, .inr (.inr (.inr (.inr f)))))) (ht : (tyl k)[t0]? = some (cA, .object r.1)) (hv : ws[qk]? = some (v, .inr (ci, vs))) (hc : cls[ci]? = some r) {i : Int32} (hin : vp_in i n) {f' : Nat → Option Nat} {ws' : va_W} (h1 : va_up f i.toNatClampNeg (some v) = f') (h2 : ws.set q0 (a, .inl (cA, n, .inr (.inr (.inr (.inr f'))))) = ws') (hdg : decode cc pc = .ok (.aastore, 1))
    (kk : ∀ (H1 : Heap) (locs1 : List Loc), Sw G A s.heap H1 locs1 ws' → W p l e R s m args below meth c H1 locs1 cells slots Q (F0 m (pc + 1) ls rest)) : W p l e R s m args below meth c H locs cells slots Q (F0 m pc ls (.ref v :: .int i :: .ref a :: rest)) := by
  subst h1; subst h2
  exact va_astq C.1 C.2.1 K.1 S.1 S.2.1 S.2.2 q0 t0 qk ci ha ht hv hc hin hdg (fun H1 l1 a1 a2 a3 => kk H1 l1 ⟨a1, a2, a3⟩)
theorem r_iald (C : Cx p s m args meth c cc own nL ret nm) (K : Kn G k s) (S : Sw G A s.heap H locs ws) (q0 : Nat) {n : Nat} {f : Nat → Int32} (ha : ws[q0]? = some (a, .inl (k 0, n, .inl f))) {i : Int32} (hin : vp_in i n) {v : Int32} (hv : f i.toNatClampNeg = v) (hdg : decode cc pc = .ok (.iaload, 1))
    (kk : W p l e R s m args below meth c H locs cells slots Q (F0 m (pc + 1) ls (.int v :: rest))) : W p l e R s m args below meth c H locs cells slots Q (F0 m pc ls (.int i :: .ref a :: rest)) :=
  va_iald C.1 C.2.1 K.1 S.1 q0 0 ha rfl hin hdg (by rw [hv]; exact kk)
theorem r_iast (C : Cx p s m args meth c cc own nL ret nm) (K : Kn G k s) (S : Sw G A s.heap H locs ws) (q0 : Nat) {n : Nat} {f : Nat → Int32} (ha : ws[q0]? = some (a, .inl (k 0, n, .inl f))) {i x : Int32} (hin : vp_in i n) {f' : Nat → Int32} {ws' : va_W} (h1 : upd f i.toNatClampNeg x = f') (h2 : ws.set q0 (a, .inl (k 0, n, .inl f')) = ws') (hdg : decode cc pc = .ok (.iastore, 1))
    (kk : ∀ (H1 : Heap) (locs1 : List Loc), Sw G A s.heap H1 locs1 ws' → W p l e R s m args below meth c H1 locs1 cells slots Q (F0 m (pc + 1) ls rest)) : W p l e R s m args below meth c H locs cells slots Q (F0 m pc ls (.int x :: .int i :: .ref a :: rest)) := by
  subst h1; subst h2
  exact va_iast C.1 C.2.1 K.1 S.1 S.2.1 S.2.2 q0 0 ha rfl hin hdg (fun H1 l1 a1 a2 a3 => kk H1 l1 ⟨a1, a2, a3⟩)
/-- ends -/
theorem r_vret {S : Type} {post : S → Prop} {wo : S → va_W} (C : Cx p s m args meth c cc own nL none nm) (K : Kn G k s) (u : S) (hp : post u) (St : Sw G A s.heap H locs (wo u)) (hdg : decode cc pc = .ok (.return_, 1)) {mc ms : Nat} (h1 : cells ≤ mc) (h2 : slots ≤ ms) : W p l e R s m args below meth c H locs cells slots (MQ below (va_Qv post (Po G k A wo) A) args s mc ms A) (F0 m pc ls []) :=
  W.widen h1 h2 (W.vret C.1 C.2.1 C.2.2.2.2.2.1 (fun t ht hW => ⟨⟨u, rfl, hp, by rw [ht]; exact St.1, K.warm hW, St.2.1⟩, St.2.2.F ht⟩) St.2.2.2.2 hdg (hlocks := C.2.2.2.2.2.2.1))
theorem r_iret {S : Type} {post : Int32 → S → Prop} {wo : S → va_W} {rt : FieldType} (C : Cx p s m args meth c cc own nL (some rt) nm) (K : Kn G k s) {v : Int32} (hn : narrow rt (.int v) = .int v) (u : S) (hp : post v u) (St : Sw G A s.heap H locs (wo u)) (hdg : decode cc pc = .ok (.ireturn, 1)) {mc ms : Nat} (h1 : cells ≤ mc) (h2 : slots ≤ ms) : W p l e R s m args below meth c H locs cells slots (MQ below (va_Qi post (Po G k A wo) A) args s mc ms A) (F0 m pc ls [.int v]) :=
  W.widen h1 h2 (W.zret C.1 C.2.1 C.2.2.2.2.2.1 hn (fun t ht hW => ⟨⟨v, u, rfl, hp, by rw [ht]; exact St.1, K.warm hW, St.2.1⟩, St.2.2.F ht⟩) St.2.2.2.2 hdg (hlocks := C.2.2.2.2.2.2.1))
theorem r_lret {S : Type} {post : Int64 → S → Prop} {wo : S → va_W} (C : Cx p s m args meth c cc own nL (some .long) nm) (K : Kn G k s) {v : Int64} (u : S) (hp : post v u) (St : Sw G A s.heap H locs (wo u)) (hdg : decode cc pc = .ok (.lreturn, 1)) {mc ms : Nat} (h1 : cells ≤ mc) (h2 : slots ≤ ms) : W p l e R s m args below meth c H locs cells slots (MQ below (va_Ql post (Po G k A wo) A) args s mc ms A) (F0 m pc ls [.long v]) :=
  W.widen h1 h2 (W.lret C.1 C.2.1 C.2.2.2.2.2.1 (fun t ht hW => ⟨⟨v, u, rfl, hp, by rw [ht]; exact St.1, K.warm hW, St.2.1⟩, St.2.2.F ht⟩) St.2.2.2.2 hdg (hlocks := C.2.2.2.2.2.2.1))
/-- calls: the callee's cells are cut out, what comes back stands behind the rest -/
theorem pr_blind {as : List Value} {sz : Nat} {wi : va_W} : FrameBlind (va_Pc as (Pr G k sz wi)) := fun a U g mk q => ⟨q.1, q.2.1, q.2.2.1, Kn.same (s := U) (U := U.calling g mk a) rfl q.2.2.2.1, q.2.2.2.2⟩
theorem pr_now (K : Kn G k s) (S : Sw G A s.heap H locs ws) {wi : va_W} (is : List Nat) (hn : va_nd is = true) (hs : is.map (fun i => ws[i]?) = wi.map some) {as : List Value} : PreS s H (va_Pc as (Pr G k H.size wi)) as := ⟨pr_blind, fun U hU hW => ⟨rfl, by rw [hU], by rw [hU]; exact (S.sub is hn hs).1, K.warm hW, (S.sub is hn hs).2.1.weaken (fun _ _ _ _ => trivial)⟩⟩
theorem pr_nowV (K : Kn G k s) (S : Sw G A s.heap H locs ws) {wi : va_W} (is : List Nat) (hn : va_nd is = true) (hs : is.map (fun i => ws[i]?) = wi.map some) {b : Nat} {as : List Value} (q0 : Nat) {ci : Nat} {fs : List Value} (he : ws[q0]? = some (b, .inr (ci, fs))) {q : vw_C} (hc : cls[ci]? = some q) : PreV s H q.1 b (va_Pc (.ref b :: as) (Pr G k H.size wi)) as := ⟨pr_blind, va_recv K.1 S.1 hc he, (pr_now K S is hn hs).2⟩
theorem r_backv {S : Type} {post : S → Prop} {wo : S → va_W} {wi wr : va_W} (St : Sw G A s.heap H locs ws) (hA : ∀ q, s.heap.size ≤ q → A q) (isC isR : List Nat) (hC : isC.map (fun i => ws[i]?) = wi.map some) (hR : isR.map (fun i => ws[i]?) = wr.map some) (hn : va_nd isR = true) (hdis : ∀ i ∈ isR, i ∉ isC) {mc ms : Nat} {av : Array Value} {st0 : List Value} (hr : va_Run p l e R s m args below meth c H locs cells slots mc ms (F0 m pc ls st0) rest (va_Qv post (Po G k (va_A wi H.size) wo) (va_A wi H.size) av) (va_A wi H.size))
    (kk : ∀ (u : S) (H1 : Heap) (locs1 : List Loc), post u → Sw G A s.heap H1 locs1 (wr ++ wo u) → W p l e R s m args below meth c H1 locs1 (cells + mc) (slots + ms) Q (F0 m (pc + 3) ls rest)) : W p l e R s m args below meth c H locs cells slots Q (F0 m pc ls st0) := by
  have hF := va_free (wc := wi) St.2.1 St.2.2 hA isC hC
  refine va_callv hr St.2.2 (fun q _ h => hF q h) hF (fun u t H1 l1 ht hvm hp hB hz hk hS => ?_)
  obtain ⟨hP, hD⟩ := va_join (wr := wr) (w1 := wo u) St.1 St.2.1 isC isR hC hR hn hdis hk hF (by rw [← ht]; exact hB.1) hB.2.2
  exact kk u H1 l1 hp ⟨hP, hD, hS⟩
theorem r_backi {S : Type} {post : Int32 → S → Prop} {wo : S → va_W} {wi wr : va_W} (St : Sw G A s.heap H locs ws) (hA : ∀ q, s.heap.size ≤ q → A q) (isC isR : List Nat) (hC : isC.map (fun i => ws[i]?) = wi.map some) (hR : isR.map (fun i => ws[i]?) = wr.map some) (hn : va_nd isR = true) (hdis : ∀ i ∈ isR, i ∉ isC) {mc ms : Nat} {av : Array Value} {st0 : List Value} (hr : va_Run p l e R s m args below meth c H locs cells slots mc ms (F0 m pc ls st0) rest (va_Qi post (Po G k (va_A wi H.size) wo) (va_A wi H.size) av) (va_A wi H.size))
    (kk : ∀ (r : Int32) (u : S) (H1 : Heap) (locs1 : List Loc), post r u → Sw G A s.heap H1 locs1 (wr ++ wo u) → W p l e R s m args below meth c H1 locs1 (cells + mc) (slots + ms) Q (F0 m (pc + 3) ls (.int r :: rest))) : W p l e R s m args below meth c H locs cells slots Q (F0 m pc ls st0) := by
  have hF := va_free (wc := wi) St.2.1 St.2.2 hA isC hC
  refine va_calli hr St.2.2 (fun q _ h => hF q h) hF (fun r u t H1 l1 ht hvm hp hB hz hk hS => ?_)
  obtain ⟨hP, hD⟩ := va_join (wr := wr) (w1 := wo u) St.1 St.2.1 isC isR hC hR hn hdis hk hF (by rw [← ht]; exact hB.1) hB.2.2
  exact kk r u H1 l1 hp ⟨hP, hD, hS⟩
theorem r_backl {S : Type} {post : Int64 → S → Prop} {wo : S → va_W} {wi wr : va_W} (St : Sw G A s.heap H locs ws) (hA : ∀ q, s.heap.size ≤ q → A q) (isC isR : List Nat) (hC : isC.map (fun i => ws[i]?) = wi.map some) (hR : isR.map (fun i => ws[i]?) = wr.map some) (hn : va_nd isR = true) (hdis : ∀ i ∈ isR, i ∉ isC) {mc ms : Nat} {av : Array Value} {st0 : List Value} (hr : va_Run p l e R s m args below meth c H locs cells slots mc ms (F0 m pc ls st0) rest (va_Ql post (Po G k (va_A wi H.size) wo) (va_A wi H.size) av) (va_A wi H.size))
    (kk : ∀ (r : Int64) (u : S) (H1 : Heap) (locs1 : List Loc), post r u → Sw G A s.heap H1 locs1 (wr ++ wo u) → W p l e R s m args below meth c H1 locs1 (cells + mc) (slots + ms) Q (F0 m (pc + 3) ls (.long r :: rest))) : W p l e R s m args below meth c H locs cells slots Q (F0 m pc ls st0) := by
  have hF := va_free (wc := wi) St.2.1 St.2.2 hA isC hC
  refine va_calll hr St.2.2 (fun q _ h => hF q h) hF (fun r u t H1 l1 ht hvm hp hB hz hk hS => ?_)
  obtain ⟨hP, hD⟩ := va_join (wr := wr) (w1 := wo u) St.1 St.2.1 isC isR hC hR hn hdis hk hF (by rw [← ht]; exact hB.1) hB.2.2
  exact kk r u H1 l1 hp ⟨hP, hD, hS⟩
/-- the callee's side of a call: a constructor of the same class file's own, or of a nest mate; a method; a private one; a static one -/
theorem k_ctor (C : Cx p s m args meth c cc own nL ret nm) {y : MethodName} {bytes : ByteArray} {maxL mc ms n index : Nat} {rm : Room} (hw : Cond.code y bytes maxL none ∈ gt) (hrc : rm.cells = mc) (hrs : rm.slots = ms) (hz : Cond.initialized y.cls ∈ gt) (hl : Cond.methodLink own index y ∈ gt) (hi : Cond.instanceMethod y ∈ gt) (hy : y.name = "<init>") (hd : y.cls ≠ "java/lang/invoke/MethodHandle" ∧ y.cls ≠ "java/lang/invoke/VarHandle" ∧ (parseMethodDescriptor y.desc).map (fun d => d.parameters.length) = some n) (hR : rm.frames + 1 ≤ R.frames ∧ 8 + (maxL + 11) + rm.locals ≤ R.locals) : CallB R s args own index y bytes maxL none (wy y bytes maxL none) rm mc ms n ∧ y.name = "<init>" ∧ (Cond.instanceMethod y).before args s = true :=
  cwI n C.2.2.2.2.1 (gt_self hw) rfl hrc hrs (C.2.2.2.2.1 _ hz) (C.2.2.2.2.1 _ hl) (C.2.2.2.2.1 _ hi) hy hd hR
theorem k_ctorN (C : Cx p s m args meth c cc own nL ret nm) (K : Kn G k s) {y : MethodName} {bytes : ByteArray} {maxL mc ms n index : Nat} {rm : Room} {host : String} (hw : Cond.code y bytes maxL none ∈ gt) (hrc : rm.cells = mc) (hrs : rm.slots = ms) (hz : Cond.initialized y.cls ∈ gt) (hl : Cond.methodLinkNest own index y host ∈ tables_1) (hi : Cond.instanceMethod y ∈ gt) (hy : y.name = "<init>") (hd : y.cls ≠ "java/lang/invoke/MethodHandle" ∧ y.cls ≠ "java/lang/invoke/VarHandle" ∧ (parseMethodDescriptor y.desc).map (fun d => d.parameters.length) = some n) (hR : rm.frames + 1 ≤ R.frames ∧ 8 + (maxL + 11) + rm.locals ≤ R.locals) : va_CN R s args own index y host bytes maxL none (wy y bytes maxL none) rm mc ms n ∧ y.name = "<init>" ∧ (Cond.instanceMethod y).before args s = true :=
  ⟨va_cnB n C.2.2.2.2.1 (gt_self hw) rfl hrc hrs (K.2.1 _ hl rfl) (C.2.2.2.2.1 _ hz) hd hR, hy, C.2.2.2.2.1 _ hi⟩
theorem k_virt (C : Cx p s m args meth c cc own nL ret nm) {y : MethodName} {bytes : ByteArray} {maxL mc ms n index : Nat} {rm : Room} {rt : Option FieldType} {N : String} (hw : Cond.code y bytes maxL rt ∈ gt) (hrc : rm.cells = mc) (hrs : rm.slots = ms) (hz : Cond.initialized y.cls ∈ gt) (hl : Cond.methodLink own index y ∈ gt) (hi : Cond.instanceMethod y ∈ gt) (hs : Cond.selects N y y ∈ gt) (hd : y.cls ≠ "java/lang/invoke/MethodHandle" ∧ y.cls ≠ "java/lang/invoke/VarHandle" ∧ (parseMethodDescriptor y.desc).map (fun d => d.parameters.length) = some n) (hR : rm.frames + 1 ≤ R.frames ∧ 8 + (maxL + 11) + rm.locals ≤ R.locals) : CallW R s args own N index y bytes maxL rt (wy y bytes maxL rt) rm mc ms n :=
  ⟨callB_of n C.2.2.2.2.1 (gt_self hw) rfl hrc hrs (C.2.2.2.2.1 _ hz) (C.2.2.2.2.1 _ hl) hd hR, C.2.2.2.2.1 _ hi, C.2.2.2.2.1 _ hs⟩
theorem k_virtN (C : Cx p s m args meth c cc own nL ret nm) (K : Kn G k s) {y : MethodName} {bytes : ByteArray} {maxL mc ms n index : Nat} {rm : Room} {rt : Option FieldType} {host N : String} (hw : Cond.code y bytes maxL rt ∈ gt) (hrc : rm.cells = mc) (hrs : rm.slots = ms) (hz : Cond.initialized y.cls ∈ gt) (hl : Cond.methodLinkNest own index y host ∈ tables_1) (hi : Cond.instanceMethod y ∈ gt) (hs : Cond.selects N y y ∈ gt) (hd : y.cls ≠ "java/lang/invoke/MethodHandle" ∧ y.cls ≠ "java/lang/invoke/VarHandle" ∧ (parseMethodDescriptor y.desc).map (fun d => d.parameters.length) = some n) (hR : rm.frames + 1 ≤ R.frames ∧ 8 + (maxL + 11) + rm.locals ≤ R.locals) : va_CN R s args own index y host bytes maxL rt (wy y bytes maxL rt) rm mc ms n ∧ (Cond.instanceMethod y).before args s = true ∧ (Cond.selects N y y).before args s = true :=
  ⟨va_cnB n C.2.2.2.2.1 (gt_self hw) rfl hrc hrs (K.2.1 _ hl rfl) (C.2.2.2.2.1 _ hz) hd hR, C.2.2.2.2.1 _ hi, C.2.2.2.2.1 _ hs⟩
end ROWS2
end
section
abbrev ul (l : List Nat) : Nat → Nat := fun j => l.getD j 0
theorem df_So : ∀ j, j < 14 → defaultValue (t_So j) = vp_V [.null, .null, .null, .null, .null, .null, .null, .null, .null, .null, .int 0, .int 0, .int 0, .int 0] j := by decide +kernel
theorem df_Wh : ∀ j, j < 3 → defaultValue (t_Wh j) = vp_V [.null, .int 0, .int 0] j := by decide +kernel
theorem df_Be : ∀ j, j < 8 → defaultValue (t_Be j) = vp_V [.null, .null, .null, .null, .null, .null, .int 0, .int 0] j := by decide +kernel
theorem df_Bo : ∀ j, j < 9 → defaultValue (t_Bo j) = vp_V [.null, .null, .null, .null, .null, .null, .int 0, .int 0, .int 0] j := by decide +kernel
theorem df_Re : ∀ j, j < 5 → defaultValue (t_Re j) = vp_V [.null, .null, .int 0, .int 0, .int 0] j := by decide +kernel
theorem df_Ru : ∀ j, j < 12 → defaultValue (t_Ru j) = vp_V [.null, .null, .null, .null, .null, .int 0, .int 0, .int 0, .int 0, .int 0, .long 0, .int 0] j := by decide +kernel
theorem df_Ne : ∀ j, j < 12 → defaultValue (t_Ne j) = vp_V [.null, .null, .null, .null, .null, .null, .null, .null, .null, .int 0, .int 0, .int 0] j := by decide +kernel
theorem df_PB : ∀ j, j < 9 → defaultValue (t_PB j) = vp_V [.null, .null, .null, .null, .null, .null, .int 0, .int 0, .int 0] j := by decide +kernel
theorem df_Mo : ∀ j, j < 61 → defaultValue (t_Mo j) = vp_V [.int 0, .null, .null, .null, .int 0, .null, .null, .null, .null, .int 0, .long 0, .int 0, .int 0, .null, .null, .null, .null, .null, .int 0, .null, .int 0, .int 0, .int 0, .int 0, .int 0, .int 0, .int 0, .null, .int 0, .int 0, .int 0, .int 0, .null, .null, .int 0, .null, .null, .null, .null, .null, .int 0, .null, .null, .null, .null, .null, .null, .null, .int 0, .int 0, .int 0, .int 0, .int 0, .int 0, .int 0, .null, .null, .int 0, .int 0, .int 0, .int 0] j := by decide +kernel
theorem d_Wh_init_0 : decode c_Wh_init 0 = .ok (.aload_n 0, 1) := by decide +kernel
theorem d_Wh_init_1 : decode c_Wh_init 1 = .ok (.invokespecial 3, 3) := by decide +kernel
theorem d_Wh_init_4 : decode c_Wh_init 4 = .ok (.aload_n 0, 1) := by decide +kernel
theorem d_Wh_init_5 : decode c_Wh_init 5 = .ok (.iconst 3, 1) := by decide +kernel
theorem d_Wh_init_6 : decode c_Wh_init 6 = .ok (.newarray .int, 2) := by decide +kernel
theorem d_Wh_init_8 : decode c_Wh_init 8 = .ok (.putfield 9, 3) := by decide +kernel
theorem d_Wh_init_11 : decode c_Wh_init 11 = .ok (.return_, 1) := by decide +kernel
set_option maxRecDepth 100000 in
set_option maxHeartbeats 4000000 in
/-- Whole(): three digits, 0 -/
theorem k_Wh_init (l : Launch) (G : va_G) (k : Nat → ClassId) (h0 sz : Nat) : CV l y_Wh_init c_Wh_init 1 { frames := 1, cells := 1, slots := 3, locals := 20 } [.ref h0] G k sz [(h0, .inr (2, [.null, .int 0, .int 0]))] (fun _ : Nat → Nat => True) (fun u => [(h0, .inr (2, [.ref (u 0), .int 0, .int 0])), ((u 0), .inl (k 0, 3, .inl (fun _ => 0)))]) 1 3 := by
  refine met_start (by decide) (Nat.le_of_ble_eq_true rfl) ?_
  intro p e s m below meth c C K hA hsz S ls hl
  generalize va_A [(h0, .inr (2, [.null, .int 0, .int 0]))] sz = A at hA S ⊢
  have hx := C.1
  have hb := C.2.1
  have hl : lv_has ls 1 [(0, .ref h0)] := hl
  refine lv_aload_n hx hb d_Wh_init_0 rfl (lv_at hl 0 rfl) ?_
  refine r_objInit C wm_Wh_3 hl.1 d_Wh_init_1 (Nat.le_of_ble_eq_true rfl) (Nat.le_of_ble_eq_true rfl) ?_
  refine lv_aload_n hx hb d_Wh_init_4 rfl (lv_at hl 0 rfl) ?_
  refine lv_iconst (v := 3) hx hb d_Wh_init_5 (by decide) ?_
  refine r_newI C K S hA 3 (by decide) (by decide) (by decide) (Nat.le_of_ble_eq_true rfl) (Nat.le_of_ble_eq_true rfl) d_Wh_init_6 (fun q1 H S => ?_)
  have S : Sw G A s.heap _ _ [(h0, .inr (2, [.null, .int 0, .int 0])), (q1, .inl (k 0, 3, .inl (fun _ => 0)))] := S
  refine r_put C K S 0 rfl rfl clOk_Wh 0 (by decide) wf_Wh_9 rfl (ty := .array .int) (v := .ref q1) (by decide +kernel) rfl rfl (Nat.le_of_ble_eq_true rfl) (fs' := [.ref q1, .int 0, .int 0]) (ws' := [(h0, .inr (2, [.ref q1, .int 0, .int 0])), (q1, .inl (k 0, 3, .inl (fun _ => 0)))]) rfl rfl d_Wh_init_8 (fun H locs S => ?_)
  exact r_vret C K (ul [q1]) trivial (S.sub [0, 1] (by decide) rfl) d_Wh_init_11 (Nat.le_of_ble_eq_true rfl) (Nat.le_of_ble_eq_true rfl)
theorem d_Bo_init_0 : decode c_Bo_init 0 = .ok (.aload_n 0, 1) := by decide +kernel
theorem d_Bo_init_1 : decode c_Bo_init 1 = .ok (.invokespecial 3, 3) := by decide +kernel
theorem d_Bo_init_4 : decode c_Bo_init 4 = .ok (.aload_n 0, 1) := by decide +kernel
theorem d_Bo_init_5 : decode c_Bo_init 5 = .ok (.sipush 200, 3) := by decide +kernel
theorem d_Bo_init_8 : decode c_Bo_init 8 = .ok (.newarray .int, 2) := by decide +kernel
theorem d_Bo_init_10 : decode c_Bo_init 10 = .ok (.putfield 9, 3) := by decide +kernel
theorem d_Bo_init_13 : decode c_Bo_init 13 = .ok (.aload_n 0, 1) := by decide +kernel
theorem d_Bo_init_14 : decode c_Bo_init 14 = .ok (.bipush 40, 2) := by decide +kernel
theorem d_Bo_init_16 : decode c_Bo_init 16 = .ok (.newarray .int, 2) := by decide +kernel
theorem d_Bo_init_18 : decode c_Bo_init 18 = .ok (.putfield 15, 3) := by decide +kernel
theorem d_Bo_init_21 : decode c_Bo_init 21 = .ok (.aload_n 0, 1) := by decide +kernel
theorem d_Bo_init_22 : decode c_Bo_init 22 = .ok (.bipush 40, 2) := by decide +kernel
theorem d_Bo_init_24 : decode c_Bo_init 24 = .ok (.newarray .int, 2) := by decide +kernel
theorem d_Bo_init_26 : decode c_Bo_init 26 = .ok (.putfield 18, 3) := by decide +kernel
theorem d_Bo_init_29 : decode c_Bo_init 29 = .ok (.aload_n 0, 1) := by decide +kernel
theorem d_Bo_init_30 : decode c_Bo_init 30 = .ok (.bipush 40, 2) := by decide +kernel
theorem d_Bo_init_32 : decode c_Bo_init 32 = .ok (.newarray .int, 2) := by decide +kernel
theorem d_Bo_init_34 : decode c_Bo_init 34 = .ok (.putfield 21, 3) := by decide +kernel
theorem d_Bo_init_37 : decode c_Bo_init 37 = .ok (.aload_n 0, 1) := by decide +kernel
theorem d_Bo_init_38 : decode c_Bo_init 38 = .ok (.bipush 40, 2) := by decide +kernel
theorem d_Bo_init_40 : decode c_Bo_init 40 = .ok (.newarray .int, 2) := by decide +kernel
theorem d_Bo_init_42 : decode c_Bo_init 42 = .ok (.putfield 24, 3) := by decide +kernel
theorem d_Bo_init_45 : decode c_Bo_init 45 = .ok (.aload_n 0, 1) := by decide +kernel
theorem d_Bo_init_46 : decode c_Bo_init 46 = .ok (.bipush 40, 2) := by decide +kernel
theorem d_Bo_init_48 : decode c_Bo_init 48 = .ok (.newarray .int, 2) := by decide +kernel
theorem d_Bo_init_50 : decode c_Bo_init 50 = .ok (.putfield 27, 3) := by decide +kernel
theorem d_Bo_init_53 : decode c_Bo_init 53 = .ok (.return_, 1) := by decide +kernel
theorem d_Re_init_0 : decode c_Re_init 0 = .ok (.aload_n 0, 1) := by decide +kernel
theorem d_Re_init_1 : decode c_Re_init 1 = .ok (.invokespecial 3, 3) := by decide +kernel
theorem d_Re_init_4 : decode c_Re_init 4 = .ok (.aload_n 0, 1) := by decide +kernel
theorem d_Re_init_5 : decode c_Re_init 5 = .ok (.bipush (-2), 2) := by decide +kernel
theorem d_Re_init_7 : decode c_Re_init 7 = .ok (.putfield 9, 3) := by decide +kernel
theorem d_Re_init_10 : decode c_Re_init 10 = .ok (.aload_n 0, 1) := by decide +kernel
theorem d_Re_init_11 : decode c_Re_init 11 = .ok (.aload_n 1, 1) := by decide +kernel
theorem d_Re_init_12 : decode c_Re_init 12 = .ok (.putfield 15, 3) := by decide +kernel
theorem d_Re_init_15 : decode c_Re_init 15 = .ok (.aload_n 0, 1) := by decide +kernel
theorem d_Re_init_16 : decode c_Re_init 16 = .ok (.aload_n 1, 1) := by decide +kernel
theorem d_Re_init_17 : decode c_Re_init 17 = .ok (.iconst 0, 1) := by decide +kernel
theorem d_Re_init_18 : decode c_Re_init 18 = .ok (.aaload, 1) := by decide +kernel
theorem d_Re_init_19 : decode c_Re_init 19 = .ok (.putfield 19, 3) := by decide +kernel
theorem d_Re_init_22 : decode c_Re_init 22 = .ok (.return_, 1) := by decide +kernel
theorem d_Ru_init_0 : decode c_Ru_init 0 = .ok (.aload_n 0, 1) := by decide +kernel
theorem d_Ru_init_1 : decode c_Ru_init 1 = .ok (.invokespecial 3, 3) := by decide +kernel
theorem d_Ru_init_4 : decode c_Ru_init 4 = .ok (.aload_n 0, 1) := by decide +kernel
theorem d_Ru_init_5 : decode c_Ru_init 5 = .ok (.bipush 60, 2) := by decide +kernel
theorem d_Ru_init_7 : decode c_Ru_init 7 = .ok (.newarray .int, 2) := by decide +kernel
theorem d_Ru_init_9 : decode c_Ru_init 9 = .ok (.putfield 9, 3) := by decide +kernel
theorem d_Ru_init_12 : decode c_Ru_init 12 = .ok (.aload_n 0, 1) := by decide +kernel
theorem d_Ru_init_13 : decode c_Ru_init 13 = .ok (.sipush 1080, 3) := by decide +kernel
theorem d_Ru_init_16 : decode c_Ru_init 16 = .ok (.newarray .int, 2) := by decide +kernel
theorem d_Ru_init_18 : decode c_Ru_init 18 = .ok (.putfield 15, 3) := by decide +kernel
theorem d_Ru_init_21 : decode c_Ru_init 21 = .ok (.aload_n 0, 1) := by decide +kernel
theorem d_Ru_init_22 : decode c_Ru_init 22 = .ok (.sipush 960, 3) := by decide +kernel
theorem d_Ru_init_25 : decode c_Ru_init 25 = .ok (.newarray .int, 2) := by decide +kernel
theorem d_Ru_init_27 : decode c_Ru_init 27 = .ok (.putfield 18, 3) := by decide +kernel
theorem d_Ru_init_30 : decode c_Ru_init 30 = .ok (.aload_n 0, 1) := by decide +kernel
theorem d_Ru_init_31 : decode c_Ru_init 31 = .ok (.bipush 60, 2) := by decide +kernel
theorem d_Ru_init_33 : decode c_Ru_init 33 = .ok (.newarray .int, 2) := by decide +kernel
theorem d_Ru_init_35 : decode c_Ru_init 35 = .ok (.putfield 21, 3) := by decide +kernel
theorem d_Ru_init_38 : decode c_Ru_init 38 = .ok (.aload_n 0, 1) := by decide +kernel
theorem d_Ru_init_39 : decode c_Ru_init 39 = .ok (.bipush (-2), 2) := by decide +kernel
theorem d_Ru_init_41 : decode c_Ru_init 41 = .ok (.putfield 24, 3) := by decide +kernel
theorem d_Ru_init_44 : decode c_Ru_init 44 = .ok (.aload_n 0, 1) := by decide +kernel
theorem d_Ru_init_45 : decode c_Ru_init 45 = .ok (.aload_n 1, 1) := by decide +kernel
theorem d_Ru_init_46 : decode c_Ru_init 46 = .ok (.putfield 28, 3) := by decide +kernel
theorem d_Ru_init_49 : decode c_Ru_init 49 = .ok (.return_, 1) := by decide +kernel
theorem d_Ne_init_0 : decode c_Ne_init 0 = .ok (.aload_n 0, 1) := by decide +kernel
theorem d_Ne_init_1 : decode c_Ne_init 1 = .ok (.invokespecial 3, 3) := by decide +kernel
theorem d_Ne_init_4 : decode c_Ne_init 4 = .ok (.aload_n 0, 1) := by decide +kernel
theorem d_Ne_init_5 : decode c_Ne_init 5 = .ok (.iconst 4, 1) := by decide +kernel
theorem d_Ne_init_6 : decode c_Ne_init 6 = .ok (.newarray .int, 2) := by decide +kernel
theorem d_Ne_init_8 : decode c_Ne_init 8 = .ok (.putfield 9, 3) := by decide +kernel
theorem d_Ne_init_11 : decode c_Ne_init 11 = .ok (.aload_n 0, 1) := by decide +kernel
theorem d_Ne_init_12 : decode c_Ne_init 12 = .ok (.bipush 90, 2) := by decide +kernel
theorem d_Ne_init_14 : decode c_Ne_init 14 = .ok (.bipush 41, 2) := by decide +kernel
theorem d_Ne_init_16 : decode c_Ne_init 16 = .ok (.multianewarray 15 2, 4) := by decide +kernel
theorem d_Ne_init_20 : decode c_Ne_init 20 = .ok (.putfield 17, 3) := by decide +kernel
theorem d_Ne_init_23 : decode c_Ne_init 23 = .ok (.aload_n 0, 1) := by decide +kernel
theorem d_Ne_init_24 : decode c_Ne_init 24 = .ok (.bipush 41, 2) := by decide +kernel
theorem d_Ne_init_26 : decode c_Ne_init 26 = .ok (.newarray .int, 2) := by decide +kernel
theorem d_Ne_init_28 : decode c_Ne_init 28 = .ok (.putfield 20, 3) := by decide +kernel
theorem d_Ne_init_31 : decode c_Ne_init 31 = .ok (.aload_n 0, 1) := by decide +kernel
theorem d_Ne_init_32 : decode c_Ne_init 32 = .ok (.bipush 41, 2) := by decide +kernel
theorem d_Ne_init_34 : decode c_Ne_init 34 = .ok (.newarray .int, 2) := by decide +kernel
theorem d_Ne_init_36 : decode c_Ne_init 36 = .ok (.putfield 23, 3) := by decide +kernel
theorem d_Ne_init_39 : decode c_Ne_init 39 = .ok (.aload_n 0, 1) := by decide +kernel
theorem d_Ne_init_40 : decode c_Ne_init 40 = .ok (.sipush 306, 3) := by decide +kernel
theorem d_Ne_init_43 : decode c_Ne_init 43 = .ok (.bipush 41, 2) := by decide +kernel
theorem d_Ne_init_45 : decode c_Ne_init 45 = .ok (.multianewarray 15 2, 4) := by decide +kernel
theorem d_Ne_init_49 : decode c_Ne_init 49 = .ok (.putfield 26, 3) := by decide +kernel
theorem d_Ne_init_52 : decode c_Ne_init 52 = .ok (.aload_n 0, 1) := by decide +kernel
theorem d_Ne_init_53 : decode c_Ne_init 53 = .ok (.bipush 17, 2) := by decide +kernel
theorem d_Ne_init_55 : decode c_Ne_init 55 = .ok (.bipush 41, 2) := by decide +kernel
theorem d_Ne_init_57 : decode c_Ne_init 57 = .ok (.multianewarray 15 2, 4) := by decide +kernel
theorem d_Ne_init_61 : decode c_Ne_init 61 = .ok (.putfield 29, 3) := by decide +kernel
theorem d_Ne_init_64 : decode c_Ne_init 64 = .ok (.aload_n 0, 1) := by decide +kernel
theorem d_Ne_init_65 : decode c_Ne_init 65 = .ok (.bipush 17, 2) := by decide +kernel
theorem d_Ne_init_67 : decode c_Ne_init 67 = .ok (.bipush 41, 2) := by decide +kernel
theorem d_Ne_init_69 : decode c_Ne_init 69 = .ok (.multianewarray 15 2, 4) := by decide +kernel
theorem d_Ne_init_73 : decode c_Ne_init 73 = .ok (.putfield 32, 3) := by decide +kernel
theorem d_Ne_init_76 : decode c_Ne_init 76 = .ok (.aload_n 0, 1) := by decide +kernel
theorem d_Ne_init_77 : decode c_Ne_init 77 = .ok (.aload_n 1, 1) := by decide +kernel
theorem d_Ne_init_78 : decode c_Ne_init 78 = .ok (.putfield 35, 3) := by decide +kernel
theorem d_Ne_init_81 : decode c_Ne_init 81 = .ok (.aload_n 0, 1) := by decide +kernel
theorem d_Ne_init_82 : decode c_Ne_init 82 = .ok (.aload_n 1, 1) := by decide +kernel
theorem d_Ne_init_83 : decode c_Ne_init 83 = .ok (.iconst 0, 1) := by decide +kernel
theorem d_Ne_init_84 : decode c_Ne_init 84 = .ok (.aaload, 1) := by decide +kernel
theorem d_Ne_init_85 : decode c_Ne_init 85 = .ok (.putfield 39, 3) := by decide +kernel
theorem d_Ne_init_88 : decode c_Ne_init 88 = .ok (.return_, 1) := by decide +kernel
end
section
theorem d_So_init_0 : decode c_So_init 0 = .ok (.aload_n 0, 1) := by decide +kernel
theorem d_So_init_1 : decode c_So_init 1 = .ok (.invokespecial 3, 3) := by decide +kernel
theorem d_So_init_4 : decode c_So_init 4 = .ok (.aload_n 0, 1) := by decide +kernel
theorem d_So_init_5 : decode c_So_init 5 = .ok (.sipush 3731, 3) := by decide +kernel
theorem d_So_init_8 : decode c_So_init 8 = .ok (.anewarray 9, 3) := by decide +kernel
theorem d_So_init_11 : decode c_So_init 11 = .ok (.putfield 11, 3) := by decide +kernel
theorem d_So_init_14 : decode c_So_init 14 = .ok (.aload_n 0, 1) := by decide +kernel
theorem d_So_init_15 : decode c_So_init 15 = .ok (.bipush 40, 2) := by decide +kernel
theorem d_So_init_17 : decode c_So_init 17 = .ok (.newarray .int, 2) := by decide +kernel
theorem d_So_init_19 : decode c_So_init 19 = .ok (.putfield 17, 3) := by decide +kernel
theorem d_So_init_22 : decode c_So_init 22 = .ok (.aload_n 0, 1) := by decide +kernel
theorem d_So_init_23 : decode c_So_init 23 = .ok (.bipush 40, 2) := by decide +kernel
theorem d_So_init_25 : decode c_So_init 25 = .ok (.newarray .int, 2) := by decide +kernel
theorem d_So_init_27 : decode c_So_init 27 = .ok (.putfield 21, 3) := by decide +kernel
theorem d_So_init_30 : decode c_So_init 30 = .ok (.aload_n 0, 1) := by decide +kernel
theorem d_So_init_31 : decode c_So_init 31 = .ok (.bipush 91, 2) := by decide +kernel
theorem d_So_init_33 : decode c_So_init 33 = .ok (.newarray .int, 2) := by decide +kernel
theorem d_So_init_35 : decode c_So_init 35 = .ok (.putfield 24, 3) := by decide +kernel
theorem d_So_init_38 : decode c_So_init 38 = .ok (.aload_n 0, 1) := by decide +kernel
theorem d_So_init_39 : decode c_So_init 39 = .ok (.bipush 40, 2) := by decide +kernel
theorem d_So_init_41 : decode c_So_init 41 = .ok (.newarray .int, 2) := by decide +kernel
theorem d_So_init_43 : decode c_So_init 43 = .ok (.putfield 27, 3) := by decide +kernel
theorem d_So_init_46 : decode c_So_init 46 = .ok (.aload_n 0, 1) := by decide +kernel
theorem d_So_init_47 : decode c_So_init 47 = .ok (.new 9, 3) := by decide +kernel
theorem d_So_init_50 : decode c_So_init 50 = .ok (.dup, 1) := by decide +kernel
theorem d_So_init_51 : decode c_So_init 51 = .ok (.invokespecial 30, 3) := by decide +kernel
theorem d_So_init_54 : decode c_So_init 54 = .ok (.putfield 31, 3) := by decide +kernel
theorem d_So_init_57 : decode c_So_init 57 = .ok (.aload_n 0, 1) := by decide +kernel
theorem d_So_init_58 : decode c_So_init 58 = .ok (.new 9, 3) := by decide +kernel
theorem d_So_init_61 : decode c_So_init 61 = .ok (.dup, 1) := by decide +kernel
theorem d_So_init_62 : decode c_So_init 62 = .ok (.invokespecial 30, 3) := by decide +kernel
theorem d_So_init_65 : decode c_So_init 65 = .ok (.putfield 35, 3) := by decide +kernel
theorem d_So_init_68 : decode c_So_init 68 = .ok (.aload_n 0, 1) := by decide +kernel
theorem d_So_init_69 : decode c_So_init 69 = .ok (.new 9, 3) := by decide +kernel
theorem d_So_init_72 : decode c_So_init 72 = .ok (.dup, 1) := by decide +kernel
theorem d_So_init_73 : decode c_So_init 73 = .ok (.invokespecial 30, 3) := by decide +kernel
theorem d_So_init_76 : decode c_So_init 76 = .ok (.putfield 38, 3) := by decide +kernel
theorem d_So_init_79 : decode c_So_init 79 = .ok (.aload_n 0, 1) := by decide +kernel
theorem d_So_init_80 : decode c_So_init 80 = .ok (.new 9, 3) := by decide +kernel
theorem d_So_init_83 : decode c_So_init 83 = .ok (.dup, 1) := by decide +kernel
theorem d_So_init_84 : decode c_So_init 84 = .ok (.invokespecial 30, 3) := by decide +kernel
theorem d_So_init_87 : decode c_So_init 87 = .ok (.putfield 41, 3) := by decide +kernel
theorem d_So_init_90 : decode c_So_init 90 = .ok (.aload_n 0, 1) := by decide +kernel
theorem d_So_init_91 : decode c_So_init 91 = .ok (.new 9, 3) := by decide +kernel
theorem d_So_init_94 : decode c_So_init 94 = .ok (.dup, 1) := by decide +kernel
theorem d_So_init_95 : decode c_So_init 95 = .ok (.invokespecial 30, 3) := by decide +kernel
theorem d_So_init_98 : decode c_So_init 98 = .ok (.putfield 44, 3) := by decide +kernel
theorem d_So_init_101 : decode c_So_init 101 = .ok (.return_, 1) := by decide +kernel
theorem d_Be_init_0 : decode c_Be_init 0 = .ok (.aload_n 0, 1) := by decide +kernel
theorem d_Be_init_1 : decode c_Be_init 1 = .ok (.invokespecial 3, 3) := by decide +kernel
theorem d_Be_init_4 : decode c_Be_init 4 = .ok (.aload_n 0, 1) := by decide +kernel
theorem d_Be_init_5 : decode c_Be_init 5 = .ok (.iconst 4, 1) := by decide +kernel
theorem d_Be_init_6 : decode c_Be_init 6 = .ok (.anewarray 9, 3) := by decide +kernel
theorem d_Be_init_9 : decode c_Be_init 9 = .ok (.putfield 11, 3) := by decide +kernel
theorem d_Be_init_12 : decode c_Be_init 12 = .ok (.aload_n 0, 1) := by decide +kernel
theorem d_Be_init_13 : decode c_Be_init 13 = .ok (.new 9, 3) := by decide +kernel
theorem d_Be_init_16 : decode c_Be_init 16 = .ok (.dup, 1) := by decide +kernel
theorem d_Be_init_17 : decode c_Be_init 17 = .ok (.invokespecial 17, 3) := by decide +kernel
theorem d_Be_init_20 : decode c_Be_init 20 = .ok (.putfield 18, 3) := by decide +kernel
theorem d_Be_init_23 : decode c_Be_init 23 = .ok (.aload_n 0, 1) := by decide +kernel
theorem d_Be_init_24 : decode c_Be_init 24 = .ok (.new 9, 3) := by decide +kernel
theorem d_Be_init_27 : decode c_Be_init 27 = .ok (.dup, 1) := by decide +kernel
theorem d_Be_init_28 : decode c_Be_init 28 = .ok (.invokespecial 17, 3) := by decide +kernel
theorem d_Be_init_31 : decode c_Be_init 31 = .ok (.putfield 22, 3) := by decide +kernel
theorem d_Be_init_34 : decode c_Be_init 34 = .ok (.aload_n 0, 1) := by decide +kernel
theorem d_Be_init_35 : decode c_Be_init 35 = .ok (.new 9, 3) := by decide +kernel
theorem d_Be_init_38 : decode c_Be_init 38 = .ok (.dup, 1) := by decide +kernel
theorem d_Be_init_39 : decode c_Be_init 39 = .ok (.invokespecial 17, 3) := by decide +kernel
theorem d_Be_init_42 : decode c_Be_init 42 = .ok (.putfield 25, 3) := by decide +kernel
theorem d_Be_init_45 : decode c_Be_init 45 = .ok (.aload_n 0, 1) := by decide +kernel
theorem d_Be_init_46 : decode c_Be_init 46 = .ok (.new 9, 3) := by decide +kernel
theorem d_Be_init_49 : decode c_Be_init 49 = .ok (.dup, 1) := by decide +kernel
theorem d_Be_init_50 : decode c_Be_init 50 = .ok (.invokespecial 17, 3) := by decide +kernel
theorem d_Be_init_53 : decode c_Be_init 53 = .ok (.putfield 28, 3) := by decide +kernel
theorem d_Be_init_56 : decode c_Be_init 56 = .ok (.aload_n 0, 1) := by decide +kernel
theorem d_Be_init_57 : decode c_Be_init 57 = .ok (.new 9, 3) := by decide +kernel
theorem d_Be_init_60 : decode c_Be_init 60 = .ok (.dup, 1) := by decide +kernel
theorem d_Be_init_61 : decode c_Be_init 61 = .ok (.invokespecial 17, 3) := by decide +kernel
theorem d_Be_init_64 : decode c_Be_init 64 = .ok (.putfield 31, 3) := by decide +kernel
theorem d_Be_init_67 : decode c_Be_init 67 = .ok (.iconst 0, 1) := by decide +kernel
theorem d_Be_init_68 : decode c_Be_init 68 = .ok (.istore_n 1, 1) := by decide +kernel
theorem d_Be_init_69 : decode c_Be_init 69 = .ok (.iload_n 1, 1) := by decide +kernel
theorem d_Be_init_70 : decode c_Be_init 70 = .ok (.iconst 3, 1) := by decide +kernel
theorem d_Be_init_71 : decode c_Be_init 71 = .ok (.if_icmp .gt 22, 3) := by decide +kernel
theorem d_Be_init_74 : decode c_Be_init 74 = .ok (.aload_n 0, 1) := by decide +kernel
theorem d_Be_init_75 : decode c_Be_init 75 = .ok (.getfield 11, 3) := by decide +kernel
theorem d_Be_init_78 : decode c_Be_init 78 = .ok (.iload_n 1, 1) := by decide +kernel
theorem d_Be_init_79 : decode c_Be_init 79 = .ok (.new 9, 3) := by decide +kernel
theorem d_Be_init_82 : decode c_Be_init 82 = .ok (.dup, 1) := by decide +kernel
theorem d_Be_init_83 : decode c_Be_init 83 = .ok (.invokespecial 17, 3) := by decide +kernel
theorem d_Be_init_86 : decode c_Be_init 86 = .ok (.aastore, 1) := by decide +kernel
theorem d_Be_init_87 : decode c_Be_init 87 = .ok (.iinc 1 1, 3) := by decide +kernel
theorem d_Be_init_90 : decode c_Be_init 90 = .ok (.goto (-21), 3) := by decide +kernel
theorem d_Be_init_93 : decode c_Be_init 93 = .ok (.return_, 1) := by decide +kernel
end
section
theorem d_PB_init_0 : decode c_PB_init 0 = .ok (.aload_n 0, 1) := by decide +kernel
theorem d_PB_init_1 : decode c_PB_init 1 = .ok (.invokespecial 3, 3) := by decide +kernel
theorem d_PB_init_4 : decode c_PB_init 4 = .ok (.aload_n 0, 1) := by decide +kernel
theorem d_PB_init_5 : decode c_PB_init 5 = .ok (.iconst 4, 1) := by decide +kernel
theorem d_PB_init_6 : decode c_PB_init 6 = .ok (.anewarray 9, 3) := by decide +kernel
theorem d_PB_init_9 : decode c_PB_init 9 = .ok (.putfield 11, 3) := by decide +kernel
theorem d_PB_init_12 : decode c_PB_init 12 = .ok (.aload_n 0, 1) := by decide +kernel
theorem d_PB_init_13 : decode c_PB_init 13 = .ok (.new 15, 3) := by decide +kernel
theorem d_PB_init_16 : decode c_PB_init 16 = .ok (.dup, 1) := by decide +kernel
theorem d_PB_init_17 : decode c_PB_init 17 = .ok (.invokespecial 17, 3) := by decide +kernel
theorem d_PB_init_20 : decode c_PB_init 20 = .ok (.putfield 18, 3) := by decide +kernel
theorem d_PB_init_23 : decode c_PB_init 23 = .ok (.aload_n 0, 1) := by decide +kernel
theorem d_PB_init_24 : decode c_PB_init 24 = .ok (.new 22, 3) := by decide +kernel
theorem d_PB_init_27 : decode c_PB_init 27 = .ok (.dup, 1) := by decide +kernel
theorem d_PB_init_28 : decode c_PB_init 28 = .ok (.invokespecial 24, 3) := by decide +kernel
theorem d_PB_init_31 : decode c_PB_init 31 = .ok (.putfield 25, 3) := by decide +kernel
theorem d_PB_init_34 : decode c_PB_init 34 = .ok (.aload_n 0, 1) := by decide +kernel
theorem d_PB_init_35 : decode c_PB_init 35 = .ok (.bipush (-2), 2) := by decide +kernel
theorem d_PB_init_37 : decode c_PB_init 37 = .ok (.putfield 29, 3) := by decide +kernel
theorem d_PB_init_40 : decode c_PB_init 40 = .ok (.iconst 0, 1) := by decide +kernel
theorem d_PB_init_41 : decode c_PB_init 41 = .ok (.istore_n 1, 1) := by decide +kernel
theorem d_PB_init_42 : decode c_PB_init 42 = .ok (.iload_n 1, 1) := by decide +kernel
theorem d_PB_init_43 : decode c_PB_init 43 = .ok (.iconst 4, 1) := by decide +kernel
theorem d_PB_init_44 : decode c_PB_init 44 = .ok (.if_icmp .ge 22, 3) := by decide +kernel
theorem d_PB_init_47 : decode c_PB_init 47 = .ok (.aload_n 0, 1) := by decide +kernel
theorem d_PB_init_48 : decode c_PB_init 48 = .ok (.getfield 11, 3) := by decide +kernel
theorem d_PB_init_51 : decode c_PB_init 51 = .ok (.iload_n 1, 1) := by decide +kernel
theorem d_PB_init_52 : decode c_PB_init 52 = .ok (.new 9, 3) := by decide +kernel
theorem d_PB_init_55 : decode c_PB_init 55 = .ok (.dup, 1) := by decide +kernel
theorem d_PB_init_56 : decode c_PB_init 56 = .ok (.invokespecial 33, 3) := by decide +kernel
theorem d_PB_init_59 : decode c_PB_init 59 = .ok (.aastore, 1) := by decide +kernel
theorem d_PB_init_60 : decode c_PB_init 60 = .ok (.iinc 1 1, 3) := by decide +kernel
theorem d_PB_init_63 : decode c_PB_init 63 = .ok (.goto (-21), 3) := by decide +kernel
theorem d_PB_init_66 : decode c_PB_init 66 = .ok (.aload_n 0, 1) := by decide +kernel
theorem d_PB_init_67 : decode c_PB_init 67 = .ok (.new 34, 3) := by decide +kernel
theorem d_PB_init_70 : decode c_PB_init 70 = .ok (.dup, 1) := by decide +kernel
theorem d_PB_init_71 : decode c_PB_init 71 = .ok (.aload_n 0, 1) := by decide +kernel
theorem d_PB_init_72 : decode c_PB_init 72 = .ok (.getfield 11, 3) := by decide +kernel
theorem d_PB_init_75 : decode c_PB_init 75 = .ok (.invokespecial 36, 3) := by decide +kernel
theorem d_PB_init_78 : decode c_PB_init 78 = .ok (.putfield 39, 3) := by decide +kernel
theorem d_PB_init_81 : decode c_PB_init 81 = .ok (.aload_n 0, 1) := by decide +kernel
theorem d_PB_init_82 : decode c_PB_init 82 = .ok (.new 43, 3) := by decide +kernel
theorem d_PB_init_85 : decode c_PB_init 85 = .ok (.dup, 1) := by decide +kernel
theorem d_PB_init_86 : decode c_PB_init 86 = .ok (.aload_n 0, 1) := by decide +kernel
theorem d_PB_init_87 : decode c_PB_init 87 = .ok (.getfield 11, 3) := by decide +kernel
theorem d_PB_init_90 : decode c_PB_init 90 = .ok (.invokespecial 45, 3) := by decide +kernel
theorem d_PB_init_93 : decode c_PB_init 93 = .ok (.putfield 46, 3) := by decide +kernel
theorem d_PB_init_96 : decode c_PB_init 96 = .ok (.aload_n 0, 1) := by decide +kernel
theorem d_PB_init_97 : decode c_PB_init 97 = .ok (.new 50, 3) := by decide +kernel
theorem d_PB_init_100 : decode c_PB_init 100 = .ok (.dup, 1) := by decide +kernel
theorem d_PB_init_101 : decode c_PB_init 101 = .ok (.aload_n 0, 1) := by decide +kernel
theorem d_PB_init_102 : decode c_PB_init 102 = .ok (.getfield 11, 3) := by decide +kernel
theorem d_PB_init_105 : decode c_PB_init 105 = .ok (.invokespecial 52, 3) := by decide +kernel
theorem d_PB_init_108 : decode c_PB_init 108 = .ok (.putfield 53, 3) := by decide +kernel
theorem d_PB_init_111 : decode c_PB_init 111 = .ok (.return_, 1) := by decide +kernel
end
