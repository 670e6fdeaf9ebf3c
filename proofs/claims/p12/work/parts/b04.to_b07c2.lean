section
/-! methods that return a reference; worlds with a pool at the end -/
abbrev CR {S : Type} (l : Launch) (y : MethodName) (cc : ByteArray) (n : Nat) (rt : FieldType) (rm : Room) (as : List Value) (G : va_G) (k : Nat → ClassId) (sz : Nat) (wi : va_W) (post : S → Prop) (ra : S → Nat) (wo : S → va_W) (mc ms : Nat) : Prop :=
  Met l y (wy y cc n (some rt)) rm (va_Pc as (Pr G k sz wi)) (va_Qr post (fun u a t => a = ra u ∧ Po G k (va_A wi sz) wo u t) (va_A wi sz)) mc ms (va_A wi sz)
section REFS
variable {p : Program} {l : Launch} {e : Env} {R : Room} {s : State} {m : MethodId} {args : Array Value} {below : List Frame} {meth : Method} {c : Code} {H : Heap} {locs : List Loc} {cells slots : Nat} {Q : State → Prop}
variable {cc : ByteArray} {own nm : String} {nL : Nat} {ret : Option FieldType} {G : va_G} {k : Nat → ClassId} {A : Nat → Prop} {ws X : va_W} {pc : Nat} {ls : Array Slot} {rest : List Value} {a : Nat} {LP : List Nat} {n : Nat} {F : Nat → Nat → Int32}
theorem r_aret {S : Type} {post : S → Prop} {ra : S → Nat} {wo : S → va_W} {t0 : FieldType} (C : Cx p s m args meth c cc own nL (some (.array t0)) nm) (K : Kn G k s) (u : S) {b : Nat} (hp : post u) (hb : b = ra u) (St : Sw G A s.heap H locs (wo u)) (hdg : decode cc pc = .ok (.areturn, 1)) {mc ms : Nat} (h1 : cells ≤ mc) (h2 : slots ≤ ms) : W p l e R s m args below meth c H locs cells slots (MQ below (va_Qr post (fun u a t => a = ra u ∧ Po G k A wo u t) A) args s mc ms A) (F0 m pc ls [.ref b]) :=
  W.widen h1 h2 (W.aret C.1 C.2.1 C.2.2.2.2.2.1 (Or.inr ⟨t0, rfl⟩) (Or.inr ⟨b, rfl⟩) (fun t ht hW => ⟨⟨u, b, rfl, hp, hb, by rw [ht]; exact St.1, K.warm hW, St.2.1⟩, St.2.2.F ht⟩) St.2.2.2.2 hdg (hlocks := C.2.2.2.2.2.2.1))
theorem r_backr {S : Type} {post : S → Prop} {ra : S → Nat} {wo : S → va_W} {wi wr : va_W} (St : Sw G A s.heap H locs ws) (hA : ∀ q, s.heap.size ≤ q → A q) (isC isR : List Nat) (hC : isC.map (fun i => ws[i]?) = wi.map some) (hR : isR.map (fun i => ws[i]?) = wr.map some) (hn : va_nd isR = true) (hdis : ∀ i ∈ isR, i ∉ isC) {mc ms : Nat} {av : Array Value} {st0 : List Value} (hr : va_Run p l e R s m args below meth c H locs cells slots mc ms (F0 m pc ls st0) rest (va_Qr post (fun u a t => a = ra u ∧ Po G k (va_A wi H.size) wo u t) (va_A wi H.size) av) (va_A wi H.size))
    (kk : ∀ (u : S) (H1 : Heap) (locs1 : List Loc), post u → Sw G A s.heap H1 locs1 (wr ++ wo u) → W p l e R s m args below meth c H1 locs1 (cells + mc) (slots + ms) Q (F0 m (pc + 3) ls (.ref (ra u) :: rest))) : W p l e R s m args below meth c H locs cells slots Q (F0 m pc ls st0) := by
  have hF := va_free (wc := wi) St.2.1 St.2.2 hA isC hC
  refine va_callr hr St.2.2 (fun q _ h => hF q h) hF (fun u b t H1 l1 ht hvm hp hB hz hk hS => ?_)
  obtain ⟨hb, hB⟩ := hB
  subst hb
  obtain ⟨hP, hD⟩ := va_join (wr := wr) (w1 := wo u) St.1 St.2.1 isC isR hC hR hn hdis hk hF (by rw [← ht]; exact hB.1) hB.2.2
  exact kk u H1 l1 hp ⟨hP, hD, hS⟩
theorem r_backrQ {S : Type} {post : S → Prop} {ra : S → Nat} {wo : S → va_W} {wi wr pl : va_W} (St : Sw G A s.heap H locs (X ++ pl)) (hA : ∀ q, s.heap.size ≤ q → A q) (isC isR : List Nat) (hC : isC.map (fun i => X[i]?) = wi.map some) (hR : isR.map (fun i => X[i]?) = wr.map some) (hn : va_nd isR = true) (hdis : ∀ i ∈ isR, i ∉ isC) {mc ms : Nat} {av : Array Value} {st0 : List Value} (hr : va_Run p l e R s m args below meth c H locs cells slots mc ms (F0 m pc ls st0) rest (va_Qr post (fun u a t => a = ra u ∧ Po G k (va_A wi H.size) wo u t) (va_A wi H.size) av) (va_A wi H.size))
    (kk : ∀ (u : S) (H1 : Heap) (locs1 : List Loc), post u → Sw G A s.heap H1 locs1 ((wr ++ wo u) ++ pl) → W p l e R s m args below meth c H1 locs1 (cells + mc) (slots + ms) Q (F0 m (pc + 3) ls (.ref (ra u) :: rest))) : W p l e R s m args below meth c H locs cells slots Q (F0 m pc ls st0) := by
  have hF := va_free (wc := wi) St.2.1 St.2.2 hA isC (ap_in hC)
  refine va_callr hr St.2.2 (fun q _ h => hF q h) hF (fun u b t H1 l1 ht hvm hp hB hz hk hS => ?_)
  obtain ⟨hb, hB⟩ := hB
  subst hb
  obtain ⟨hP, hD⟩ := va_joinQ (wr := wr) (w1 := wo u) St.1 St.2.1 isC isR hC hR hn hdis hk hF (by rw [← ht]; exact hB.1) hB.2.2
  exact kk u H1 l1 hp ⟨hP, hD, hS⟩
theorem r_backrP {S : Type} {post : S → Prop} {ra : S → Nat} {wo pl1 : S → va_W} {wi wr pl : va_W} (St : Sw G A s.heap H locs (X ++ pl)) (hA : ∀ q, s.heap.size ≤ q → A q) (isC isR : List Nat) (hC : isC.map (fun i => X[i]?) = wi.map some) (hR : isR.map (fun i => X[i]?) = wr.map some) (hn : va_nd isR = true) (hdis : ∀ i ∈ isR, i ∉ isC) {mc ms : Nat} {av : Array Value} {st0 : List Value} (hr : va_Run p l e R s m args below meth c H locs cells slots mc ms (F0 m pc ls st0) rest (va_Qr post (fun u a t => a = ra u ∧ Po G k (va_A (wi ++ pl) H.size) (fun u => wo u ++ pl1 u) u t) (va_A (wi ++ pl) H.size) av) (va_A (wi ++ pl) H.size))
    (kk : ∀ (u : S) (H1 : Heap) (locs1 : List Loc), post u → Sw G A s.heap H1 locs1 ((wr ++ wo u) ++ pl1 u) → W p l e R s m args below meth c H1 locs1 (cells + mc) (slots + ms) Q (F0 m (pc + 3) ls (.ref (ra u) :: rest))) : W p l e R s m args below meth c H locs cells slots Q (F0 m pc ls st0) := by
  have hF := va_freeP (cx := wi) St.2.1 St.2.2 hA isC hC
  refine va_callr hr St.2.2 (fun q _ h => hF q h) hF (fun u b t H1 l1 ht hvm hp hB hz hk hS => ?_)
  obtain ⟨hb, hB⟩ := hB
  subst hb
  obtain ⟨hP, hD⟩ := va_joinP (wr := wr) (rx := wo u) (pl1 := pl1 u) St.1 St.2.1 isC isR hC hR hn hdis hk hF (by rw [← ht]; exact hB.1) hB.2.2
  exact kk u H1 l1 hp ⟨hP, hD, hS⟩
theorem r_backiP {S : Type} {post : Int32 → S → Prop} {wo pl1 : S → va_W} {wi wr pl : va_W} (St : Sw G A s.heap H locs (X ++ pl)) (hA : ∀ q, s.heap.size ≤ q → A q) (isC isR : List Nat) (hC : isC.map (fun i => X[i]?) = wi.map some) (hR : isR.map (fun i => X[i]?) = wr.map some) (hn : va_nd isR = true) (hdis : ∀ i ∈ isR, i ∉ isC) {mc ms : Nat} {av : Array Value} {st0 : List Value} (hr : va_Run p l e R s m args below meth c H locs cells slots mc ms (F0 m pc ls st0) rest (va_Qi post (Po G k (va_A (wi ++ pl) H.size) (fun u => wo u ++ pl1 u)) (va_A (wi ++ pl) H.size) av) (va_A (wi ++ pl) H.size))
    (kk : ∀ (r : Int32) (u : S) (H1 : Heap) (locs1 : List Loc), post r u → Sw G A s.heap H1 locs1 ((wr ++ wo u) ++ pl1 u) → W p l e R s m args below meth c H1 locs1 (cells + mc) (slots + ms) Q (F0 m (pc + 3) ls (.int r :: rest))) : W p l e R s m args below meth c H locs cells slots Q (F0 m pc ls st0) := by
  have hF := va_freeP (cx := wi) St.2.1 St.2.2 hA isC hC
  refine va_calli hr St.2.2 (fun q _ h => hF q h) hF (fun r u t H1 l1 ht hvm hp hB hz hk hS => ?_)
  obtain ⟨hP, hD⟩ := va_joinP (wr := wr) (rx := wo u) (pl1 := pl1 u) St.1 St.2.1 isC isR hC hR hn hdis hk hF (by rw [← ht]; exact hB.1) hB.2.2
  exact kk r u H1 l1 hp ⟨hP, hD, hS⟩
theorem pr_nowVP (K : Kn G k s) {pl : va_W} (S : Sw G A s.heap H locs (X ++ pl)) {wi : va_W} (is : List Nat) (hn : va_nd is = true) (hs : is.map (fun i => X[i]?) = wi.map some) {b : Nat} {as : List Value} (q0 : Nat) {ci : Nat} {fs : List Value} (he : (X ++ pl)[q0]? = some (b, .inr (ci, fs))) {q : vw_C} (hc : cls[ci]? = some q) : PreV s H q.1 b (va_Pc (.ref b :: as) (Pr G k H.size (wi ++ pl))) as := ⟨pr_blind, va_recv K.1 S.1 hc he, (pr_nowP K S is hn hs).2⟩
/-- other cells before the same pool -/
theorem Sw.subP {H0 : Heap} {X' pl : va_W} (S : Sw G A H0 H locs (X ++ pl)) (is : List Nat) (hn : va_nd is = true) (hs : is.map (fun i => X[i]?) = X'.map some) : Sw G A H0 H locs (X' ++ pl) := by
  refine ⟨S.1.by _ (va_part is hs), ?_, S.2.2⟩
  have h1 := S.2.1
  refine va_D.by (ws := X ++ pl) h1 _ (va_part is hs) ?_
  intro i j hi hj hij
  have hl : is.length = X'.length := by
    have := congrArg List.length hs
    rw [List.length_map, List.length_map] at this
    exact this
  have hin : ∀ t, t < X'.length → (is[t]?).getD 0 < X.length := by
    intro t ht
    have e1 : is[t]? = some (is[t]'(by omega)) := List.getElem?_eq_getElem (by omega)
    rw [e1]
    have e2 : (is.map (fun i => X[i]?))[t]? = some (X[is[t]'(by omega)]?) := by rw [List.getElem?_map, e1]; rfl
    rw [hs, List.getElem?_map, List.getElem?_eq_getElem ht] at e2
    have e3 : some (X'[t]) = X[is[t]'(by omega)]? := Option.some.inj e2
    exact (List.getElem?_eq_some_iff.mp e3.symm).1
  rw [List.length_append] at hi hj
  by_cases w1 : i < X'.length <;> by_cases w2 : j < X'.length
  · simp only [w1, w2, if_true] at hij
    have e1 : is[i]? = some (is[i]'(by omega)) := List.getElem?_eq_getElem (by omega)
    have e2 : is[j]? = some (is[j]'(by omega)) := List.getElem?_eq_getElem (by omega)
    rw [e1, e2] at hij
    have hij : is[i]'(by omega) = is[j]'(by omega) := hij
    exact va_nd_inj is hn i j _ e1 (by rw [e2, hij])
  · simp only [w1, w2, if_true, if_false] at hij
    have := hin i w1
    omega
  · simp only [w1, w2, if_true, if_false] at hij
    have := hin j w2
    omega
  · simp only [w1, w2, if_false] at hij
    omega
theorem wc_acopy {i : Nat} {w : Cond} (h : tables_1[i]? = some w) (hg : goodWord w = true) : w ∈ gt := gt_i i h hg
/-- a row's elements copied to another row -/
theorem p_copy (C : Cx p s m args meth c cc own nL ret nm) (K : Kn G k s) (S : Sw G A s.heap H locs (X ++ va_pl LP (rwp k n F))) (hs : ls.size = nL) {index : Nat} (hl : Cond.methodLink own index arraycopyName ∈ gt) (hnat : Cond.native arraycopyName ∈ gt) (hst : Cond.static arraycopyName ∈ gt) (hin : Cond.initialized "java/lang/System" ∈ gt) {a0 : Nat} (h0 : a0 ∈ LP) (h1 : a ∈ LP) {w : Int32} (hw : ¬ w < 0) (hw2 : w.toNatClampNeg ≤ n) (hf : 1 ≤ R.frames) (hlo : (rest.map fun v => v.category).sum + (nativeFrameWords "java/lang/System" "arraycopy" 5 + 11) ≤ R.locals) (hdg : decode cc pc = .ok (.invokestatic index, 3))
    (kk : ∀ (F' : Nat → Nat → Int32) (H1 : Heap) (locs1 : List Loc), Sw G A s.heap H1 locs1 (X ++ va_pl LP (rwp k n F')) → W p l e R s m args below meth c H1 locs1 cells slots Q (F0 m (pc + 3) ls rest)) : W p l e R s m args below meth c H locs cells slots Q (F0 m pc ls (.int w :: .int 0 :: .ref a :: .int 0 :: .ref a0 :: rest)) := by
  obtain ⟨q0, g0⟩ := va_pl_get (X := X) (f := rwp k n F) h0
  obtain ⟨q1, g1⟩ := va_pl_get (X := X) (f := rwp k n F) h1
  refine va_copyi C.1 C.2.1 (by rw [C.2.2.1, hs]) C.2.2.2.1 (C.2.2.2.2.1 _ hl) (C.2.2.2.2.1 _ hnat) (C.2.2.2.2.1 _ hst) (C.2.2.2.2.1 _ hin) K.1 S.1 S.2.1 S.2.2 q0 q1 0 0 g0 g1 (ty := .int) rfl rfl rfl (by decide) (by decide) hw ?_ ?_ (fun i _ => rfl) hf hlo hdg (fun H1 l1 a1 a2 a3 => ?_)
  · rw [show (0 : Int32).toNatClampNeg = 0 by decide]; omega
  · rw [show (0 : Int32).toNatClampNeg = 0 by decide]; omega
  · have e := va_pl_set (e := .inl (k 0, n, .inl (va_cpy (F a0) (F a) (0 : Int32).toNatClampNeg (0 : Int32).toNatClampNeg w.toNatClampNeg))) S.2.1 h1 g1
    rw [rwp_up] at e
    rw [e] at a1 a2
    exact kk _ H1 l1 ⟨a1, a2, a3⟩
end REFS
end
section
theorem wm_Ne_149 : Cond.methodLink "PotentialBench$Needs" 149 arraycopyName ∈ gt := gt_i 514 (by decide +kernel) (by decide +kernel)
theorem wa_static : Cond.static arraycopyName ∈ gt := gt_i 515 (by decide +kernel) (by decide +kernel)
theorem wa_native : Cond.native arraycopyName ∈ gt := gt_i 516 (by decide +kernel) (by decide +kernel)
/-- the rows that Needs works with -/
def lpO (LP : List Nat) (sm cd br bs : Nat → Nat) (nsp nno : Nat) : Prop := (∀ j, j < 306 → sm j ∈ LP) ∧ (∀ j, j < 90 → cd j ∈ LP) ∧ (∀ j, j < 17 → br j ∈ LP) ∧ (∀ j, j < 17 → bs j ∈ LP) ∧ nsp ∈ LP ∧ nno ∈ LP
theorem d_JA_fill_0 : decode c_JA_fill 0 = .ok (.iconst 0, 1) := by decide +kernel
theorem d_JA_fill_1 : decode c_JA_fill 1 = .ok (.istore_n 2, 1) := by decide +kernel
theorem d_JA_fill_2 : decode c_JA_fill 2 = .ok (.aload_n 0, 1) := by decide +kernel
theorem d_JA_fill_3 : decode c_JA_fill 3 = .ok (.arraylength, 1) := by decide +kernel
theorem d_JA_fill_4 : decode c_JA_fill 4 = .ok (.istore_n 3, 1) := by decide +kernel
theorem d_JA_fill_5 : decode c_JA_fill 5 = .ok (.iload_n 2, 1) := by decide +kernel
theorem d_JA_fill_6 : decode c_JA_fill 6 = .ok (.iload_n 3, 1) := by decide +kernel
theorem d_JA_fill_7 : decode c_JA_fill 7 = .ok (.if_icmp .ge 13, 3) := by decide +kernel
theorem d_JA_fill_10 : decode c_JA_fill 10 = .ok (.aload_n 0, 1) := by decide +kernel
theorem d_JA_fill_11 : decode c_JA_fill 11 = .ok (.iload_n 2, 1) := by decide +kernel
theorem d_JA_fill_12 : decode c_JA_fill 12 = .ok (.iload_n 1, 1) := by decide +kernel
theorem d_JA_fill_13 : decode c_JA_fill 13 = .ok (.iastore, 1) := by decide +kernel
theorem d_JA_fill_14 : decode c_JA_fill 14 = .ok (.iinc 2 1, 3) := by decide +kernel
theorem d_JA_fill_17 : decode c_JA_fill 17 = .ok (.goto (-12), 3) := by decide +kernel
theorem d_JA_fill_20 : decode c_JA_fill 20 = .ok (.return_, 1) := by decide +kernel
set_option maxRecDepth 100000 in
set_option maxHeartbeats 16000000 in
/-- Arrays.fill -/
theorem g_JA_fill (l : Launch) (G : va_G) (k : Nat → ClassId) (s0 : Nat) (ra9 : Nat) (v9 : Int32) (LP : List Nat) (F : Nat → Nat → Int32) (hmr : ra9 ∈ LP) : CV l y_JA_fill c_JA_fill 4 { frames := 0, cells := 0, slots := 0, locals := 0 } [.ref ra9, .int v9] G k s0 ([] ++ va_pl LP (rwp k 41 F)) (fun (u : Nat → Nat → Int32) => True) (fun u => ([] ++ va_pl LP (rwp k 41 u))) 0 0 := by
  refine met_start (by decide) (Nat.le_of_ble_eq_true rfl) ?_
  intro p e s m below meth c C K hA hsz S ls hl
  generalize va_A ([] ++ va_pl LP (rwp k 41 F)) s0 = A at hA S ⊢
  have hx := C.1
  have hb := C.2.1
  have hl : lv_has ls 4 [(0, .ref ra9), (1, .int v9)] := hl
  refine lv_iconst (v := 0) hx hb d_JA_fill_0 (by decide) ?_
  refine lv_istore_n (lv' := [(2, .int 0), (0, .ref ra9), (1, .int v9)]) hx hb d_JA_fill_1 rfl hl (by decide) rfl (fun ls hl => ?_)
  refine lv_aload_n hx hb d_JA_fill_2 rfl (lv_at hl 1 rfl) ?_
  refine p_alen C K S hmr d_JA_fill_3 ?_
  refine lv_istore_n (lv' := [(3, .int 41), (2, .int 0), (0, .ref ra9), (1, .int v9)]) hx hb d_JA_fill_4 rfl hl (by decide) rfl (fun ls hl => ?_)
  have lp : ∀ d9, ∀ (i9 : Nat), ∀ (F8 : Nat → Nat → Int32), (41 - i9) < d9 → (i9 ≤ 41) → ∀ (H : Heap) (locs : List Loc), Sw G A s.heap H locs ([] ++ va_pl LP (rwp k 41 F8)) → ∀ ls : Array Slot, lv_has ls 4 [(2, .int (nI i9)), (3, .int 41), (0, .ref ra9), (1, .int v9)] → W p l e { frames := 0, cells := 0, slots := 0, locals := 0 } s m [Value.ref ra9, Value.int v9].toArray below meth c H locs 0 0 (MQ below (va_Qv (fun (u : Nat → Nat → Int32) => True) (Po G k A (fun u => ([] ++ va_pl LP (rwp k 41 u)))) A) [Value.ref ra9, Value.int v9].toArray s 0 0 A) (F0 m 5 ls []) := by
    intro d9
    induction d9 with
    | zero => intro i9 F8 hm; exact absurd hm (Nat.not_lt_zero _)
    | succ d9 ih_lp =>
      intro i9 F8 hm hi H locs S ls hl
      refine lv_iload_n hx hb d_JA_fill_5 rfl (lv_at hl 0 rfl) ?_
      refine lv_iload_n hx hb d_JA_fill_6 rfl (lv_at hl 1 rfl) ?_
      refine z_icmp_ge (a := i9) (b := 41) (tgt := 20) hx hb d_JA_fill_7 (by decide) (by omega) (by omega) (fun hc1 => ?_) (fun hc1 => ?_)
      · exact r_vret C K F8 trivial (S.subP [] (by decide) rfl) d_JA_fill_20 (Nat.le_of_ble_eq_true rfl) (Nat.le_of_ble_eq_true rfl)
      · refine lv_aload_n hx hb d_JA_fill_10 rfl (lv_at hl 2 rfl) ?_
        refine lv_iload_n hx hb d_JA_fill_11 rfl (lv_at hl 0 rfl) ?_
        refine lv_iload_n hx hb d_JA_fill_12 rfl (lv_at hl 3 rfl) ?_
        refine p_iast C K S hmr (i := nI i9) (x := v9) (show vp_in (nI i9) _ from vp_in_nI (n := i9) (by omega) (by omega)) d_JA_fill_13 (fun F2 H locs S => ?_)
        refine lv_iinc (v := nI (i9 + 1)) (lv' := [(2, .int (nI (i9 + 1))), (3, .int 41), (0, .ref ra9), (1, .int v9)]) hx hb d_JA_fill_14 hl (k := 0) rfl (show nI i9 + Int32.ofInt 1 = nI (i9 + 1) from (nI_add i9 1).trans (congrArg nI (by omega))) (by decide) rfl (fun ls hl => ?_)
        refine lv_goto (tgt := 5) hx hb d_JA_fill_17 (by decide) ?_
        exact ih_lp (i9 + 1) F2 (by omega) (by omega) _ _ (S.subP [] (by decide) rfl) ls (lv_sub hl [0, 1, 2, 3] rfl)
  exact lp _ 0 F (Nat.lt_succ_self _) (by omega) _ _ (S.subP [] (by decide) rfl) ls (lv_sub hl [1, 0, 2, 3] rfl)
theorem d_Ne_copy_0 : decode c_Ne_copy 0 = .ok (.aload_n 0, 1) := by decide +kernel
theorem d_Ne_copy_1 : decode c_Ne_copy 1 = .ok (.iconst 0, 1) := by decide +kernel
theorem d_Ne_copy_2 : decode c_Ne_copy 2 = .ok (.aload_n 1, 1) := by decide +kernel
theorem d_Ne_copy_3 : decode c_Ne_copy 3 = .ok (.iconst 0, 1) := by decide +kernel
theorem d_Ne_copy_4 : decode c_Ne_copy 4 = .ok (.bipush 41, 2) := by decide +kernel
theorem d_Ne_copy_6 : decode c_Ne_copy 6 = .ok (.invokestatic 149, 3) := by decide +kernel
theorem d_Ne_copy_9 : decode c_Ne_copy 9 = .ok (.return_, 1) := by decide +kernel
set_option maxRecDepth 100000 in
set_option maxHeartbeats 16000000 in
/-- copy -/
theorem g_Ne_copy (l : Launch) (G : va_G) (k : Nat → ClassId) (s0 : Nat) (ra9 : Nat) (rb9 : Nat) (LP : List Nat) (F : Nat → Nat → Int32) (hmr : ra9 ∈ LP) (hms : rb9 ∈ LP) : CV l y_Ne_copy c_Ne_copy 2 { frames := 1, cells := 0, slots := 0, locals := 60 } [.ref ra9, .ref rb9] G k s0 ([] ++ va_pl LP (rwp k 41 F)) (fun (u : Nat → Nat → Int32) => True) (fun u => ([] ++ va_pl LP (rwp k 41 u))) 0 0 := by
  refine met_start (by decide) (Nat.le_of_ble_eq_true rfl) ?_
  intro p e s m below meth c C K hA hsz S ls hl
  generalize va_A ([] ++ va_pl LP (rwp k 41 F)) s0 = A at hA S ⊢
  have hx := C.1
  have hb := C.2.1
  have hl : lv_has ls 2 [(0, .ref ra9), (1, .ref rb9)] := hl
  refine lv_aload_n hx hb d_Ne_copy_0 rfl (lv_at hl 0 rfl) ?_
  refine lv_iconst (v := 0) hx hb d_Ne_copy_1 (by decide) ?_
  refine lv_aload_n hx hb d_Ne_copy_2 rfl (lv_at hl 1 rfl) ?_
  refine lv_iconst (v := 0) hx hb d_Ne_copy_3 (by decide) ?_
  refine lv_bipush (v := 41) hx hb d_Ne_copy_4 (by decide) ?_
  refine p_copy C K S hl.1 wm_Ne_149 wa_native wa_static wz_JS hmr hms (w := 41) (by decide) (by decide) (Nat.le_of_ble_eq_true rfl) (Nat.le_of_ble_eq_true rfl) d_Ne_copy_6 (fun F1 H locs S => ?_)
  exact r_vret C K F1 trivial (S.subP [] (by decide) rfl) d_Ne_copy_9 (Nat.le_of_ble_eq_true rfl) (Nat.le_of_ble_eq_true rfl)
theorem d_Ne_plus_0 : decode c_Ne_plus 0 = .ok (.iconst 0, 1) := by decide +kernel
theorem d_Ne_plus_1 : decode c_Ne_plus 1 = .ok (.istore_n 2, 1) := by decide +kernel
theorem d_Ne_plus_2 : decode c_Ne_plus 2 = .ok (.iload_n 2, 1) := by decide +kernel
theorem d_Ne_plus_3 : decode c_Ne_plus 3 = .ok (.bipush 40, 2) := by decide +kernel
theorem d_Ne_plus_5 : decode c_Ne_plus 5 = .ok (.if_icmp .gt 18, 3) := by decide +kernel
theorem d_Ne_plus_8 : decode c_Ne_plus 8 = .ok (.aload_n 0, 1) := by decide +kernel
theorem d_Ne_plus_9 : decode c_Ne_plus 9 = .ok (.iload_n 2, 1) := by decide +kernel
theorem d_Ne_plus_10 : decode c_Ne_plus 10 = .ok (.dup2, 1) := by decide +kernel
theorem d_Ne_plus_11 : decode c_Ne_plus 11 = .ok (.iaload, 1) := by decide +kernel
theorem d_Ne_plus_12 : decode c_Ne_plus 12 = .ok (.aload_n 1, 1) := by decide +kernel
theorem d_Ne_plus_13 : decode c_Ne_plus 13 = .ok (.iload_n 2, 1) := by decide +kernel
theorem d_Ne_plus_14 : decode c_Ne_plus 14 = .ok (.iaload, 1) := by decide +kernel
theorem d_Ne_plus_15 : decode c_Ne_plus 15 = .ok (.iadd, 1) := by decide +kernel
theorem d_Ne_plus_16 : decode c_Ne_plus 16 = .ok (.iastore, 1) := by decide +kernel
theorem d_Ne_plus_17 : decode c_Ne_plus 17 = .ok (.iinc 2 1, 3) := by decide +kernel
theorem d_Ne_plus_20 : decode c_Ne_plus 20 = .ok (.goto (-18), 3) := by decide +kernel
theorem d_Ne_plus_23 : decode c_Ne_plus 23 = .ok (.return_, 1) := by decide +kernel
set_option maxRecDepth 100000 in
set_option maxHeartbeats 16000000 in
/-- plus -/
theorem g_Ne_plus (l : Launch) (G : va_G) (k : Nat → ClassId) (s0 : Nat) (ra9 : Nat) (rb9 : Nat) (LP : List Nat) (F : Nat → Nat → Int32) (hmr : ra9 ∈ LP) (hms : rb9 ∈ LP) : CV l y_Ne_plus c_Ne_plus 3 { frames := 0, cells := 0, slots := 0, locals := 0 } [.ref ra9, .ref rb9] G k s0 ([] ++ va_pl LP (rwp k 41 F)) (fun (u : Nat → Nat → Int32) => True) (fun u => ([] ++ va_pl LP (rwp k 41 u))) 0 0 := by
  refine met_start (by decide) (Nat.le_of_ble_eq_true rfl) ?_
  intro p e s m below meth c C K hA hsz S ls hl
  generalize va_A ([] ++ va_pl LP (rwp k 41 F)) s0 = A at hA S ⊢
  have hx := C.1
  have hb := C.2.1
  have hl : lv_has ls 3 [(0, .ref ra9), (1, .ref rb9)] := hl
  refine lv_iconst (v := 0) hx hb d_Ne_plus_0 (by decide) ?_
  refine lv_istore_n (lv' := [(2, .int 0), (0, .ref ra9), (1, .ref rb9)]) hx hb d_Ne_plus_1 rfl hl (by decide) rfl (fun ls hl => ?_)
  have lp : ∀ d9, ∀ (i9 : Nat), ∀ (F8 : Nat → Nat → Int32), (41 - i9) < d9 → (i9 ≤ 41) → ∀ (H : Heap) (locs : List Loc), Sw G A s.heap H locs ([] ++ va_pl LP (rwp k 41 F8)) → ∀ ls : Array Slot, lv_has ls 3 [(2, .int (nI i9)), (0, .ref ra9), (1, .ref rb9)] → W p l e { frames := 0, cells := 0, slots := 0, locals := 0 } s m [Value.ref ra9, Value.ref rb9].toArray below meth c H locs 0 0 (MQ below (va_Qv (fun (u : Nat → Nat → Int32) => True) (Po G k A (fun u => ([] ++ va_pl LP (rwp k 41 u)))) A) [Value.ref ra9, Value.ref rb9].toArray s 0 0 A) (F0 m 2 ls []) := by
    intro d9
    induction d9 with
    | zero => intro i9 F8 hm; exact absurd hm (Nat.not_lt_zero _)
    | succ d9 ih_lp =>
      intro i9 F8 hm hi H locs S ls hl
      refine lv_iload_n hx hb d_Ne_plus_2 rfl (lv_at hl 0 rfl) ?_
      refine lv_bipush (v := 40) hx hb d_Ne_plus_3 (by decide) ?_
      refine z_icmp_gt (a := i9) (b := 40) (tgt := 23) hx hb d_Ne_plus_5 (by decide) (by omega) (by omega) (fun hc1 => ?_) (fun hc1 => ?_)
      · exact r_vret C K F8 trivial (S.subP [] (by decide) rfl) d_Ne_plus_23 (Nat.le_of_ble_eq_true rfl) (Nat.le_of_ble_eq_true rfl)
      · refine lv_aload_n hx hb d_Ne_plus_8 rfl (lv_at hl 1 rfl) ?_
        refine lv_iload_n hx hb d_Ne_plus_9 rfl (lv_at hl 0 rfl) ?_
        refine lv_dup2_11 hx hb d_Ne_plus_10 rfl rfl ?_
        refine p_iald C K S hmr (i := nI i9) (show vp_in (nI i9) _ from vp_in_nI (n := i9) (by omega) (by omega)) d_Ne_plus_11 (fun iv2 => ?_)
        refine lv_aload_n hx hb d_Ne_plus_12 rfl (lv_at hl 2 rfl) ?_
        refine lv_iload_n hx hb d_Ne_plus_13 rfl (lv_at hl 0 rfl) ?_
        refine p_iald C K S hms (i := nI i9) (show vp_in (nI i9) _ from vp_in_nI (n := i9) (by omega) (by omega)) d_Ne_plus_14 (fun iv3 => ?_)
        refine lv_iadd hx hb d_Ne_plus_15 ?_
        refine p_iast C K S hmr (i := nI i9) (x := iv2 + iv3) (show vp_in (nI i9) _ from vp_in_nI (n := i9) (by omega) (by omega)) d_Ne_plus_16 (fun F4 H locs S => ?_)
        refine lv_iinc (v := nI (i9 + 1)) (lv' := [(2, .int (nI (i9 + 1))), (0, .ref ra9), (1, .ref rb9)]) hx hb d_Ne_plus_17 hl (k := 0) rfl (show nI i9 + Int32.ofInt 1 = nI (i9 + 1) from (nI_add i9 1).trans (congrArg nI (by omega))) (by decide) rfl (fun ls hl => ?_)
        refine lv_goto (tgt := 2) hx hb d_Ne_plus_20 (by decide) ?_
        exact ih_lp (i9 + 1) F4 (by omega) (by omega) _ _ (S.subP [] (by decide) rfl) ls (lv_sub hl [0, 1, 2] rfl)
  exact lp _ 0 F (Nat.lt_succ_self _) (by omega) _ _ (S.subP [] (by decide) rfl) ls (lv_sub hl [0, 1, 2] rfl)
theorem d_Ne_sum_0 : decode c_Ne_sum 0 = .ok (.aload_n 0, 1) := by decide +kernel
theorem d_Ne_sum_1 : decode c_Ne_sum 1 = .ok (.getfield 26, 3) := by decide +kernel
theorem d_Ne_sum_4 : decode c_Ne_sum 4 = .ok (.iload_n 1, 1) := by decide +kernel
theorem d_Ne_sum_5 : decode c_Ne_sum 5 = .ok (.bipush 18, 2) := by decide +kernel
theorem d_Ne_sum_7 : decode c_Ne_sum 7 = .ok (.imul, 1) := by decide +kernel
theorem d_Ne_sum_8 : decode c_Ne_sum 8 = .ok (.iload_n 2, 1) := by decide +kernel
theorem d_Ne_sum_9 : decode c_Ne_sum 9 = .ok (.iadd, 1) := by decide +kernel
theorem d_Ne_sum_10 : decode c_Ne_sum 10 = .ok (.aaload, 1) := by decide +kernel
theorem d_Ne_sum_11 : decode c_Ne_sum 11 = .ok (.areturn, 1) := by decide +kernel
set_option maxRecDepth 100000 in
set_option maxHeartbeats 16000000 in
/-- sum -/
theorem g_Ne_sum (l : Launch) (G : va_G) (k : Nat → ClassId) (h0 : Nat) (s0 : Nat) (lv9 : Nat) (v9 : Nat) (ca : Nat) (nfo : Nat) (ncd : Nat) (nsp : Nat) (nno : Nat) (nsm : Nat) (nbr : Nat) (nbs : Nat) (nbd : Nat) (un9 : Nat) (co9 : Nat) (fl9 : Nat) (sm : Nat → Nat) (hlv : 18 * lv9 + v9 < 306) : CR l y_Ne_sum c_Ne_sum 3 (.array .int) { frames := 0, cells := 0, slots := 0, locals := 0 } [.ref h0, .int (nI lv9), .int (nI v9)] G k s0 [(h0, .inr (7, [.ref ca, .ref nfo, .ref ncd, .ref nsp, .ref nno, .ref nsm, .ref nbr, .ref nbs, .ref nbd, .int (nI un9), .int (nI co9), .int (nI fl9)])), (nsm, .inl (k 5, 306, .inr (.inr (.inr (.inr (fun j => some (sm j)))))))] (fun (u : Unit) => True) (fun (u : Unit) => sm (18 * lv9 + v9)) (fun u => [(h0, .inr (7, [.ref ca, .ref nfo, .ref ncd, .ref nsp, .ref nno, .ref nsm, .ref nbr, .ref nbs, .ref nbd, .int (nI un9), .int (nI co9), .int (nI fl9)])), (nsm, .inl (k 5, 306, .inr (.inr (.inr (.inr (fun j => some (sm j)))))))]) 0 0 := by
  refine met_start (by decide) (Nat.le_of_ble_eq_true rfl) ?_
  intro p e s m below meth c C K hA hsz S ls hl
  generalize va_A [(h0, .inr (7, [.ref ca, .ref nfo, .ref ncd, .ref nsp, .ref nno, .ref nsm, .ref nbr, .ref nbs, .ref nbd, .int (nI un9), .int (nI co9), .int (nI fl9)])), (nsm, .inl (k 5, 306, .inr (.inr (.inr (.inr (fun j => some (sm j)))))))] s0 = A at hA S ⊢
  have hx := C.1
  have hb := C.2.1
  have hl : lv_has ls 3 [(0, .ref h0), (1, .int (nI lv9)), (2, .int (nI v9))] := hl
  refine lv_aload_n hx hb d_Ne_sum_0 rfl (lv_at hl 0 rfl) ?_
  refine r_get C K S 0 rfl rfl clOk_Ne 5 (by decide) wf_Ne_26 (v := .ref nsm) rfl d_Ne_sum_1 ?_
  refine lv_iload_n hx hb d_Ne_sum_4 rfl (lv_at hl 1 rfl) ?_
  refine lv_bipush (v := 18) hx hb d_Ne_sum_5 (by decide) ?_
  refine z_imul (x := nI lv9) (y := 18) (v := nI (lv9 * 18)) hx hb d_Ne_sum_7 (pk_mul lv9 18) ?_
  refine lv_iload_n hx hb d_Ne_sum_8 rfl (lv_at hl 2 rfl) ?_
  refine z_iadd (x := nI (lv9 * 18)) (y := nI v9) (v := nI (lv9 * 18 + v9)) hx hb d_Ne_sum_9 (nI_add (lv9 * 18) v9) ?_
  refine r_aaldM C K S 1 rfl (i := nI (lv9 * 18 + v9)) (show vp_in (nI (lv9 * 18 + v9)) _ from vp_in_nI (n := (lv9 * 18 + v9)) (by omega) (by decide)) (b := (sm (lv9 * 18 + v9))) (by rw [nI_clamp (by omega)]) d_Ne_sum_10 ?_
  exact r_aret C K () trivial (congrArg sm (by omega)) (S.sub [0, 1] (by decide) rfl) d_Ne_sum_11 (Nat.le_of_ble_eq_true rfl) (Nat.le_of_ble_eq_true rfl)
def caN (co : Nat) : Nat := if co < 90 then co + 1 else co
def flN (co fl : Nat) : Nat := if co < 90 then fl else 1
theorem caN_le {co : Nat} (h : co ≤ 90) : caN co ≤ 90 := by
  unfold caN
  split <;> omega
theorem flN_le {co fl : Nat} (h : fl ≤ 1) : flN co fl ≤ 1 := by
  unfold flN
  split <;> omega
theorem d_Ne_atLeast_0 : decode c_Ne_atLeast 0 = .ok (.aload_n 0, 1) := by decide +kernel
theorem d_Ne_atLeast_1 : decode c_Ne_atLeast 1 = .ok (.getfield 20, 3) := by decide +kernel
theorem d_Ne_atLeast_4 : decode c_Ne_atLeast 4 = .ok (.astore_n 3, 1) := by decide +kernel
theorem d_Ne_atLeast_5 : decode c_Ne_atLeast 5 = .ok (.aload_n 0, 1) := by decide +kernel
theorem d_Ne_atLeast_6 : decode c_Ne_atLeast 6 = .ok (.getfield 47, 3) := by decide +kernel
theorem d_Ne_atLeast_9 : decode c_Ne_atLeast 9 = .ok (.bipush 90, 2) := by decide +kernel
theorem d_Ne_atLeast_11 : decode c_Ne_atLeast 11 = .ok (.if_icmp .ge 26, 3) := by decide +kernel
theorem d_Ne_atLeast_14 : decode c_Ne_atLeast 14 = .ok (.aload_n 0, 1) := by decide +kernel
theorem d_Ne_atLeast_15 : decode c_Ne_atLeast 15 = .ok (.getfield 17, 3) := by decide +kernel
theorem d_Ne_atLeast_18 : decode c_Ne_atLeast 18 = .ok (.aload_n 0, 1) := by decide +kernel
theorem d_Ne_atLeast_19 : decode c_Ne_atLeast 19 = .ok (.getfield 47, 3) := by decide +kernel
theorem d_Ne_atLeast_22 : decode c_Ne_atLeast 22 = .ok (.aaload, 1) := by decide +kernel
theorem d_Ne_atLeast_23 : decode c_Ne_atLeast 23 = .ok (.astore_n 3, 1) := by decide +kernel
theorem d_Ne_atLeast_24 : decode c_Ne_atLeast 24 = .ok (.aload_n 0, 1) := by decide +kernel
theorem d_Ne_atLeast_25 : decode c_Ne_atLeast 25 = .ok (.dup, 1) := by decide +kernel
theorem d_Ne_atLeast_26 : decode c_Ne_atLeast 26 = .ok (.getfield 47, 3) := by decide +kernel
theorem d_Ne_atLeast_29 : decode c_Ne_atLeast 29 = .ok (.iconst 1, 1) := by decide +kernel
theorem d_Ne_atLeast_30 : decode c_Ne_atLeast 30 = .ok (.iadd, 1) := by decide +kernel
theorem d_Ne_atLeast_31 : decode c_Ne_atLeast 31 = .ok (.putfield 47, 3) := by decide +kernel
theorem d_Ne_atLeast_34 : decode c_Ne_atLeast 34 = .ok (.goto 8, 3) := by decide +kernel
theorem d_Ne_atLeast_37 : decode c_Ne_atLeast 37 = .ok (.aload_n 0, 1) := by decide +kernel
theorem d_Ne_atLeast_38 : decode c_Ne_atLeast 38 = .ok (.iconst 1, 1) := by decide +kernel
theorem d_Ne_atLeast_39 : decode c_Ne_atLeast 39 = .ok (.putfield 50, 3) := by decide +kernel
theorem d_Ne_atLeast_42 : decode c_Ne_atLeast 42 = .ok (.iconst 0, 1) := by decide +kernel
theorem d_Ne_atLeast_43 : decode c_Ne_atLeast 43 = .ok (.istore 4, 2) := by decide +kernel
theorem d_Ne_atLeast_45 : decode c_Ne_atLeast 45 = .ok (.iload 4, 2) := by decide +kernel
theorem d_Ne_atLeast_47 : decode c_Ne_atLeast 47 = .ok (.bipush 40, 2) := by decide +kernel
theorem d_Ne_atLeast_49 : decode c_Ne_atLeast 49 = .ok (.if_icmp .gt 18, 3) := by decide +kernel
theorem d_Ne_atLeast_52 : decode c_Ne_atLeast 52 = .ok (.aload_n 3, 1) := by decide +kernel
theorem d_Ne_atLeast_53 : decode c_Ne_atLeast 53 = .ok (.iload 4, 2) := by decide +kernel
theorem d_Ne_atLeast_55 : decode c_Ne_atLeast 55 = .ok (.aload_n 2, 1) := by decide +kernel
theorem d_Ne_atLeast_56 : decode c_Ne_atLeast 56 = .ok (.iload 4, 2) := by decide +kernel
theorem d_Ne_atLeast_58 : decode c_Ne_atLeast 58 = .ok (.iaload, 1) := by decide +kernel
theorem d_Ne_atLeast_59 : decode c_Ne_atLeast 59 = .ok (.ineg, 1) := by decide +kernel
theorem d_Ne_atLeast_60 : decode c_Ne_atLeast 60 = .ok (.iastore, 1) := by decide +kernel
theorem d_Ne_atLeast_61 : decode c_Ne_atLeast 61 = .ok (.iinc 4 1, 3) := by decide +kernel
theorem d_Ne_atLeast_64 : decode c_Ne_atLeast 64 = .ok (.goto (-19), 3) := by decide +kernel
theorem d_Ne_atLeast_67 : decode c_Ne_atLeast 67 = .ok (.aload_n 3, 1) := by decide +kernel
theorem d_Ne_atLeast_68 : decode c_Ne_atLeast 68 = .ok (.iload_n 1, 1) := by decide +kernel
theorem d_Ne_atLeast_69 : decode c_Ne_atLeast 69 = .ok (.dup2, 1) := by decide +kernel
theorem d_Ne_atLeast_70 : decode c_Ne_atLeast 70 = .ok (.iaload, 1) := by decide +kernel
theorem d_Ne_atLeast_71 : decode c_Ne_atLeast 71 = .ok (.iconst 1, 1) := by decide +kernel
theorem d_Ne_atLeast_72 : decode c_Ne_atLeast 72 = .ok (.iadd, 1) := by decide +kernel
theorem d_Ne_atLeast_73 : decode c_Ne_atLeast 73 = .ok (.iastore, 1) := by decide +kernel
theorem d_Ne_atLeast_74 : decode c_Ne_atLeast 74 = .ok (.aload_n 3, 1) := by decide +kernel
theorem d_Ne_atLeast_75 : decode c_Ne_atLeast 75 = .ok (.areturn, 1) := by decide +kernel
set_option maxRecDepth 100000 in
set_option maxHeartbeats 16000000 in
/-- atLeast -/
theorem g_Ne_atLeast (l : Launch) (G : va_G) (k : Nat → ClassId) (h0 : Nat) (s0 : Nat) (xu : Nat) (rs9 : Nat) (ca : Nat) (nfo : Nat) (ncd : Nat) (nsp : Nat) (nno : Nat) (nsm : Nat) (nbr : Nat) (nbs : Nat) (nbd : Nat) (un9 : Nat) (co9 : Nat) (fl9 : Nat) (cd : Nat → Nat) (LP : List Nat) (F : Nat → Nat → Int32) (hxu : xu ≤ 40) (hco : co9 ≤ 90) (hms : rs9 ∈ LP) (hcd : ∀ j, j < 90 → cd j ∈ LP) (hsp : nsp ∈ LP) : CR l y_Ne_atLeast c_Ne_atLeast 5 (.array .int) { frames := 0, cells := 0, slots := 0, locals := 0 } [.ref h0, .int (nI xu), .ref rs9] G k s0 ([(h0, .inr (7, [.ref ca, .ref nfo, .ref ncd, .ref nsp, .ref nno, .ref nsm, .ref nbr, .ref nbs, .ref nbd, .int (nI un9), .int (nI co9), .int (nI fl9)])), (ncd, .inl (k 5, 90, .inr (.inr (.inr (.inr (fun j => some (cd j)))))))] ++ va_pl LP (rwp k 41 F)) (fun (u : (Nat → Nat → Int32) × Nat) => u.2 ∈ LP) (fun (u : (Nat → Nat → Int32) × Nat) => u.2) (fun u => ([(h0, .inr (7, [.ref ca, .ref nfo, .ref ncd, .ref nsp, .ref nno, .ref nsm, .ref nbr, .ref nbs, .ref nbd, .int (nI un9), .int (nI (caN co9)), .int (nI (flN co9 fl9))])), (ncd, .inl (k 5, 90, .inr (.inr (.inr (.inr (fun j => some (cd j)))))))] ++ va_pl LP (rwp k 41 u.1))) 0 0 := by
  refine met_start (by decide) (Nat.le_of_ble_eq_true rfl) ?_
  intro p e s m below meth c C K hA hsz S ls hl
  generalize va_A ([(h0, .inr (7, [.ref ca, .ref nfo, .ref ncd, .ref nsp, .ref nno, .ref nsm, .ref nbr, .ref nbs, .ref nbd, .int (nI un9), .int (nI co9), .int (nI fl9)])), (ncd, .inl (k 5, 90, .inr (.inr (.inr (.inr (fun j => some (cd j)))))))] ++ va_pl LP (rwp k 41 F)) s0 = A at hA S ⊢
  have hx := C.1
  have hb := C.2.1
  have hl : lv_has ls 5 [(0, .ref h0), (1, .int (nI xu)), (2, .ref rs9)] := hl
  refine lv_aload_n hx hb d_Ne_atLeast_0 rfl (lv_at hl 0 rfl) ?_
  refine r_get C K S 0 rfl rfl clOk_Ne 3 (by decide) wf_Ne_20 (v := .ref nsp) rfl d_Ne_atLeast_1 ?_
  refine lv_astore_n (lv' := [(3, .ref nsp), (0, .ref h0), (1, .int (nI xu)), (2, .ref rs9)]) hx hb d_Ne_atLeast_4 rfl hl (by decide) rfl (fun ls hl => ?_)
  have key : ∀ (rr : Nat), ∀ (co8 : Nat), ∀ (fl8 : Nat), (rr ∈ LP) → (co8 = caN co9) → (fl8 = flN co9 fl9) → ∀ (H : Heap) (locs : List Loc), Sw G A s.heap H locs ([(h0, .inr (7, [.ref ca, .ref nfo, .ref ncd, .ref nsp, .ref nno, .ref nsm, .ref nbr, .ref nbs, .ref nbd, .int (nI un9), .int (nI co8), .int (nI fl8)])), (ncd, .inl (k 5, 90, .inr (.inr (.inr (.inr (fun j => some (cd j)))))))] ++ va_pl LP (rwp k 41 F)) → ∀ ls : Array Slot, lv_has ls 5 [(3, .ref rr), (0, .ref h0), (1, .int (nI xu)), (2, .ref rs9)] → W p l e { frames := 0, cells := 0, slots := 0, locals := 0 } s m [Value.ref h0, Value.int (nI xu), Value.ref rs9].toArray below meth c H locs 0 0 (MQ below (va_Qr (fun (u : (Nat → Nat → Int32) × Nat) => u.2 ∈ LP) (fun u a t => a = (fun (u : (Nat → Nat → Int32) × Nat) => u.2)  u ∧ Po G k A (fun u => ([(h0, .inr (7, [.ref ca, .ref nfo, .ref ncd, .ref nsp, .ref nno, .ref nsm, .ref nbr, .ref nbs, .ref nbd, .int (nI un9), .int (nI (caN co9)), .int (nI (flN co9 fl9))])), (ncd, .inl (k 5, 90, .inr (.inr (.inr (.inr (fun j => some (cd j)))))))] ++ va_pl LP (rwp k 41 u.1))) u t) A) [Value.ref h0, Value.int (nI xu), Value.ref rs9].toArray s 0 0 A) (F0 m 42 ls []) := by
    intro rr co8 fl8 hrr hc8 hf8 H locs S ls hl
    subst hc8
    subst hf8
    refine lv_iconst (v := 0) hx hb d_Ne_atLeast_42 (by decide) ?_
    refine lv_istore (lv' := [(4, .int 0), (3, .ref rr), (0, .ref h0), (1, .int (nI xu)), (2, .ref rs9)]) hx hb d_Ne_atLeast_43 hl (by decide) rfl (fun ls hl => ?_)
    have lp : ∀ d9, ∀ (i9 : Nat), ∀ (F8 : Nat → Nat → Int32), (41 - i9) < d9 → (i9 ≤ 41) → ∀ (H : Heap) (locs : List Loc), Sw G A s.heap H locs ([(h0, .inr (7, [.ref ca, .ref nfo, .ref ncd, .ref nsp, .ref nno, .ref nsm, .ref nbr, .ref nbs, .ref nbd, .int (nI un9), .int (nI (caN co9)), .int (nI (flN co9 fl9))])), (ncd, .inl (k 5, 90, .inr (.inr (.inr (.inr (fun j => some (cd j)))))))] ++ va_pl LP (rwp k 41 F8)) → ∀ ls : Array Slot, lv_has ls 5 [(4, .int (nI i9)), (3, .ref rr), (0, .ref h0), (1, .int (nI xu)), (2, .ref rs9)] → W p l e { frames := 0, cells := 0, slots := 0, locals := 0 } s m [Value.ref h0, Value.int (nI xu), Value.ref rs9].toArray below meth c H locs 0 0 (MQ below (va_Qr (fun (u : (Nat → Nat → Int32) × Nat) => u.2 ∈ LP) (fun u a t => a = (fun (u : (Nat → Nat → Int32) × Nat) => u.2)  u ∧ Po G k A (fun u => ([(h0, .inr (7, [.ref ca, .ref nfo, .ref ncd, .ref nsp, .ref nno, .ref nsm, .ref nbr, .ref nbs, .ref nbd, .int (nI un9), .int (nI (caN co9)), .int (nI (flN co9 fl9))])), (ncd, .inl (k 5, 90, .inr (.inr (.inr (.inr (fun j => some (cd j)))))))] ++ va_pl LP (rwp k 41 u.1))) u t) A) [Value.ref h0, Value.int (nI xu), Value.ref rs9].toArray s 0 0 A) (F0 m 45 ls []) := by
      intro d9
      induction d9 with
      | zero => intro i9 F8 hm; exact absurd hm (Nat.not_lt_zero _)
      | succ d9 ih_lp =>
        intro i9 F8 hm hi H locs S ls hl
        refine lv_iload hx hb d_Ne_atLeast_45 (lv_at hl 0 rfl) ?_
        refine lv_bipush (v := 40) hx hb d_Ne_atLeast_47 (by decide) ?_
        refine z_icmp_gt (a := i9) (b := 40) (tgt := 67) hx hb d_Ne_atLeast_49 (by decide) (by omega) (by omega) (fun hc1 => ?_) (fun hc1 => ?_)
        · refine lv_aload_n hx hb d_Ne_atLeast_67 rfl (lv_at hl 1 rfl) ?_
          refine lv_iload_n hx hb d_Ne_atLeast_68 rfl (lv_at hl 3 rfl) ?_
          refine lv_dup2_11 hx hb d_Ne_atLeast_69 rfl rfl ?_
          refine p_iald C K S hrr (i := nI xu) (show vp_in (nI xu) _ from vp_in_nI (n := xu) (by omega) (by omega)) d_Ne_atLeast_70 (fun iv2 => ?_)
          refine lv_iconst (v := 1) hx hb d_Ne_atLeast_71 (by decide) ?_
          refine lv_iadd hx hb d_Ne_atLeast_72 ?_
          refine p_iast C K S hrr (i := nI xu) (x := iv2 + 1) (show vp_in (nI xu) _ from vp_in_nI (n := xu) (by omega) (by omega)) d_Ne_atLeast_73 (fun F3 H locs S => ?_)
          refine lv_aload_n hx hb d_Ne_atLeast_74 rfl (lv_at hl 1 rfl) ?_
          exact r_aret C K (F3, rr) hrr rfl (S.subP [0, 1] (by decide) rfl) d_Ne_atLeast_75 (Nat.le_of_ble_eq_true rfl) (Nat.le_of_ble_eq_true rfl)
        · refine lv_aload_n hx hb d_Ne_atLeast_52 rfl (lv_at hl 1 rfl) ?_
          refine lv_iload hx hb d_Ne_atLeast_53 (lv_at hl 0 rfl) ?_
          refine lv_aload_n hx hb d_Ne_atLeast_55 rfl (lv_at hl 4 rfl) ?_
          refine lv_iload hx hb d_Ne_atLeast_56 (lv_at hl 0 rfl) ?_
          refine p_iald C K S hms (i := nI i9) (show vp_in (nI i9) _ from vp_in_nI (n := i9) (by omega) (by omega)) d_Ne_atLeast_58 (fun iv4 => ?_)
          refine lv_ineg hx hb d_Ne_atLeast_59 ?_
          refine p_iast C K S hrr (i := nI i9) (x := -iv4) (show vp_in (nI i9) _ from vp_in_nI (n := i9) (by omega) (by omega)) d_Ne_atLeast_60 (fun F5 H locs S => ?_)
          refine lv_iinc (v := nI (i9 + 1)) (lv' := [(4, .int (nI (i9 + 1))), (3, .ref rr), (0, .ref h0), (1, .int (nI xu)), (2, .ref rs9)]) hx hb d_Ne_atLeast_61 hl (k := 0) rfl (show nI i9 + Int32.ofInt 1 = nI (i9 + 1) from (nI_add i9 1).trans (congrArg nI (by omega))) (by decide) rfl (fun ls hl => ?_)
          refine lv_goto (tgt := 45) hx hb d_Ne_atLeast_64 (by decide) ?_
          exact ih_lp (i9 + 1) F5 (by omega) (by omega) _ _ (S.subP [0, 1] (by decide) rfl) ls (lv_sub hl [0, 1, 2, 3, 4] rfl)
    exact lp _ 0 F (Nat.lt_succ_self _) (by omega) _ _ (S.subP [0, 1] (by decide) rfl) ls (lv_sub hl [0, 1, 2, 3, 4] rfl)
  refine lv_aload_n hx hb d_Ne_atLeast_5 rfl (lv_at hl 1 rfl) ?_
  refine r_get C K S 0 rfl rfl clOk_Ne 10 (by decide) wf_Ne_47 (v := .int (nI co9)) rfl d_Ne_atLeast_6 ?_
  refine lv_bipush (v := 90) hx hb d_Ne_atLeast_9 (by decide) ?_
  refine z_icmp_ge (a := co9) (b := 90) (tgt := 37) hx hb d_Ne_atLeast_11 (by decide) (by omega) (by omega) (fun hc6 => ?_) (fun hc6 => ?_)
  · refine lv_aload_n hx hb d_Ne_atLeast_37 rfl (lv_at hl 1 rfl) ?_
    refine lv_iconst (v := 1) hx hb d_Ne_atLeast_38 (by decide) ?_
    refine r_put C K S 0 rfl rfl clOk_Ne 11 (by decide) wf_Ne_50 rfl (ty := .boolean) (v := .int 1) (by decide +kernel) rfl rfl (Nat.le_of_ble_eq_true rfl) (fs' := [.ref ca, .ref nfo, .ref ncd, .ref nsp, .ref nno, .ref nsm, .ref nbr, .ref nbs, .ref nbd, .int (nI un9), .int (nI co9), .int 1]) (ws' := ([(h0, .inr (7, [.ref ca, .ref nfo, .ref ncd, .ref nsp, .ref nno, .ref nsm, .ref nbr, .ref nbs, .ref nbd, .int (nI un9), .int (nI co9), .int 1])), (ncd, .inl (k 5, 90, .inr (.inr (.inr (.inr (fun j => some (cd j)))))))] ++ va_pl LP (rwp k 41 F))) rfl rfl d_Ne_atLeast_39 (fun H locs S => ?_)
    exact key nsp co9 1 hsp (by unfold caN; rw [if_neg (by omega)]) (by unfold flN; rw [if_neg (by omega)]) _ _ (S.subP [0, 1] (by decide) rfl) ls (lv_sub hl [0, 1, 2, 3] rfl)
  · refine lv_aload_n hx hb d_Ne_atLeast_14 rfl (lv_at hl 1 rfl) ?_
    refine r_get C K S 0 rfl rfl clOk_Ne 2 (by decide) wf_Ne_17 (v := .ref ncd) rfl d_Ne_atLeast_15 ?_
    refine lv_aload_n hx hb d_Ne_atLeast_18 rfl (lv_at hl 1 rfl) ?_
    refine r_get C K S 0 rfl rfl clOk_Ne 10 (by decide) wf_Ne_47 (v := .int (nI co9)) rfl d_Ne_atLeast_19 ?_
    refine r_aaldM C K S 1 rfl (i := nI co9) (show vp_in (nI co9) _ from vp_in_nI (n := co9) (by omega) (by decide)) (b := (cd co9)) (by rw [nI_clamp (by omega)]) d_Ne_atLeast_22 ?_
    refine lv_astore_n (lv' := [(3, .ref (cd co9)), (0, .ref h0), (1, .int (nI xu)), (2, .ref rs9)]) hx hb d_Ne_atLeast_23 rfl hl (by decide) rfl (fun ls hl => ?_)
    refine lv_aload_n hx hb d_Ne_atLeast_24 rfl (lv_at hl 1 rfl) ?_
    refine lv_dup hx hb d_Ne_atLeast_25 rfl ?_
    refine r_get C K S 0 rfl rfl clOk_Ne 10 (by decide) wf_Ne_47 (v := .int (nI co9)) rfl d_Ne_atLeast_26 ?_
    refine lv_iconst (v := 1) hx hb d_Ne_atLeast_29 (by decide) ?_
    refine z_iadd (x := nI co9) (y := 1) (v := nI (co9 + 1)) hx hb d_Ne_atLeast_30 (nI_add co9 1) ?_
    refine r_put C K S 0 rfl rfl clOk_Ne 10 (by decide) wf_Ne_47 rfl (ty := .int) (v := .int (nI (co9 + 1))) (by decide +kernel) rfl rfl (Nat.le_of_ble_eq_true rfl) (fs' := [.ref ca, .ref nfo, .ref ncd, .ref nsp, .ref nno, .ref nsm, .ref nbr, .ref nbs, .ref nbd, .int (nI un9), .int (nI (co9 + 1)), .int (nI fl9)]) (ws' := ([(h0, .inr (7, [.ref ca, .ref nfo, .ref ncd, .ref nsp, .ref nno, .ref nsm, .ref nbr, .ref nbs, .ref nbd, .int (nI un9), .int (nI (co9 + 1)), .int (nI fl9)])), (ncd, .inl (k 5, 90, .inr (.inr (.inr (.inr (fun j => some (cd j)))))))] ++ va_pl LP (rwp k 41 F))) rfl rfl d_Ne_atLeast_31 (fun H locs S => ?_)
    refine lv_goto (tgt := 42) hx hb d_Ne_atLeast_34 (by decide) ?_
    exact key (cd co9) (co9 + 1) fl9 (hcd _ (by omega)) (by unfold caN; rw [if_pos (by omega)]) (by unfold flN; rw [if_pos (by omega)]) _ _ (S.subP [0, 1] (by decide) rfl) ls (lv_sub hl [0, 1, 2, 3] rfl)
theorem d_Ne_handDown_0 : decode c_Ne_handDown 0 = .ok (.aload_n 0, 1) := by decide +kernel
theorem d_Ne_handDown_1 : decode c_Ne_handDown 1 = .ok (.getfield 29, 3) := by decide +kernel
theorem d_Ne_handDown_4 : decode c_Ne_handDown 4 = .ok (.iload_n 1, 1) := by decide +kernel
theorem d_Ne_handDown_5 : decode c_Ne_handDown 5 = .ok (.aaload, 1) := by decide +kernel
theorem d_Ne_handDown_6 : decode c_Ne_handDown 6 = .ok (.aload_n 0, 1) := by decide +kernel
theorem d_Ne_handDown_7 : decode c_Ne_handDown 7 = .ok (.getfield 29, 3) := by decide +kernel
theorem d_Ne_handDown_10 : decode c_Ne_handDown 10 = .ok (.iload_n 1, 1) := by decide +kernel
theorem d_Ne_handDown_11 : decode c_Ne_handDown 11 = .ok (.iconst 1, 1) := by decide +kernel
theorem d_Ne_handDown_12 : decode c_Ne_handDown 12 = .ok (.iadd, 1) := by decide +kernel
theorem d_Ne_handDown_13 : decode c_Ne_handDown 13 = .ok (.aaload, 1) := by decide +kernel
theorem d_Ne_handDown_14 : decode c_Ne_handDown 14 = .ok (.invokestatic 122, 3) := by decide +kernel
theorem d_Ne_handDown_17 : decode c_Ne_handDown 17 = .ok (.aload_n 0, 1) := by decide +kernel
theorem d_Ne_handDown_18 : decode c_Ne_handDown 18 = .ok (.getfield 32, 3) := by decide +kernel
theorem d_Ne_handDown_21 : decode c_Ne_handDown 21 = .ok (.iload_n 1, 1) := by decide +kernel
theorem d_Ne_handDown_22 : decode c_Ne_handDown 22 = .ok (.aaload, 1) := by decide +kernel
theorem d_Ne_handDown_23 : decode c_Ne_handDown 23 = .ok (.aload_n 0, 1) := by decide +kernel
theorem d_Ne_handDown_24 : decode c_Ne_handDown 24 = .ok (.getfield 32, 3) := by decide +kernel
theorem d_Ne_handDown_27 : decode c_Ne_handDown 27 = .ok (.iload_n 1, 1) := by decide +kernel
theorem d_Ne_handDown_28 : decode c_Ne_handDown 28 = .ok (.iconst 1, 1) := by decide +kernel
theorem d_Ne_handDown_29 : decode c_Ne_handDown 29 = .ok (.iadd, 1) := by decide +kernel
theorem d_Ne_handDown_30 : decode c_Ne_handDown 30 = .ok (.aaload, 1) := by decide +kernel
theorem d_Ne_handDown_31 : decode c_Ne_handDown 31 = .ok (.invokestatic 122, 3) := by decide +kernel
theorem d_Ne_handDown_34 : decode c_Ne_handDown 34 = .ok (.return_, 1) := by decide +kernel
set_option maxRecDepth 100000 in
set_option maxHeartbeats 16000000 in
/-- handDown -/
theorem g_Ne_handDown (l : Launch) (G : va_G) (k : Nat → ClassId) (h0 : Nat) (s0 : Nat) (dp : Nat) (ca : Nat) (nfo : Nat) (ncd : Nat) (nsp : Nat) (nno : Nat) (nsm : Nat) (nbr : Nat) (nbs : Nat) (nbd : Nat) (un9 : Nat) (co9 : Nat) (fl9 : Nat) (sm : Nat → Nat) (cd : Nat → Nat) (br : Nat → Nat) (bs : Nat → Nat) (LP : List Nat) (F : Nat → Nat → Int32) (hLP : lpO LP sm cd br bs nsp nno) (hdp : dp < 16) : CV l y_Ne_handDown c_Ne_handDown 2 { frames := 2, cells := 0, slots := 0, locals := 81 } [.ref h0, .int (nI dp)] G k s0 ([(h0, .inr (7, [.ref ca, .ref nfo, .ref ncd, .ref nsp, .ref nno, .ref nsm, .ref nbr, .ref nbs, .ref nbd, .int (nI un9), .int (nI co9), .int (nI fl9)])), (nbr, .inl (k 5, 17, .inr (.inr (.inr (.inr (fun j => some (br j))))))), (nbs, .inl (k 5, 17, .inr (.inr (.inr (.inr (fun j => some (bs j)))))))] ++ va_pl LP (rwp k 41 F)) (fun (u : Nat → Nat → Int32) => True) (fun u => ([(h0, .inr (7, [.ref ca, .ref nfo, .ref ncd, .ref nsp, .ref nno, .ref nsm, .ref nbr, .ref nbs, .ref nbd, .int (nI un9), .int (nI co9), .int (nI fl9)])), (nbr, .inl (k 5, 17, .inr (.inr (.inr (.inr (fun j => some (br j))))))), (nbs, .inl (k 5, 17, .inr (.inr (.inr (.inr (fun j => some (bs j)))))))] ++ va_pl LP (rwp k 41 u))) 0 0 := by
  refine met_start (by decide) (Nat.le_of_ble_eq_true rfl) ?_
  intro p e s m below meth c C K hA hsz S ls hl
  generalize va_A ([(h0, .inr (7, [.ref ca, .ref nfo, .ref ncd, .ref nsp, .ref nno, .ref nsm, .ref nbr, .ref nbs, .ref nbd, .int (nI un9), .int (nI co9), .int (nI fl9)])), (nbr, .inl (k 5, 17, .inr (.inr (.inr (.inr (fun j => some (br j))))))), (nbs, .inl (k 5, 17, .inr (.inr (.inr (.inr (fun j => some (bs j)))))))] ++ va_pl LP (rwp k 41 F)) s0 = A at hA S ⊢
  have hx := C.1
  have hb := C.2.1
  have hl : lv_has ls 2 [(0, .ref h0), (1, .int (nI dp))] := hl
  refine lv_aload_n hx hb d_Ne_handDown_0 rfl (lv_at hl 0 rfl) ?_
  refine r_get C K S 0 rfl rfl clOk_Ne 6 (by decide) wf_Ne_29 (v := .ref nbr) rfl d_Ne_handDown_1 ?_
  refine lv_iload_n hx hb d_Ne_handDown_4 rfl (lv_at hl 1 rfl) ?_
  refine r_aaldM C K S 1 rfl (i := nI dp) (show vp_in (nI dp) _ from vp_in_nI (n := dp) (by omega) (by decide)) (b := (br dp)) (by rw [nI_clamp (by omega)]) d_Ne_handDown_5 ?_
  refine lv_aload_n hx hb d_Ne_handDown_6 rfl (lv_at hl 0 rfl) ?_
  refine r_get C K S 0 rfl rfl clOk_Ne 6 (by decide) wf_Ne_29 (v := .ref nbr) rfl d_Ne_handDown_7 ?_
  refine lv_iload_n hx hb d_Ne_handDown_10 rfl (lv_at hl 1 rfl) ?_
  refine lv_iconst (v := 1) hx hb d_Ne_handDown_11 (by decide) ?_
  refine z_iadd (x := nI dp) (y := 1) (v := nI (dp + 1)) hx hb d_Ne_handDown_12 (nI_add dp 1) ?_
  refine r_aaldM C K S 1 rfl (i := nI (dp + 1)) (show vp_in (nI (dp + 1)) _ from vp_in_nI (n := (dp + 1)) (by omega) (by decide)) (b := (br (dp + 1))) (by rw [nI_clamp (by omega)]) d_Ne_handDown_13 ?_
  refine r_backvP (wi := []) (wr := [(h0, .inr (7, [.ref ca, .ref nfo, .ref ncd, .ref nsp, .ref nno, .ref nsm, .ref nbr, .ref nbs, .ref nbd, .int (nI un9), .int (nI co9), .int (nI fl9)])), (nbr, .inl (k 5, 17, .inr (.inr (.inr (.inr (fun j => some (br j))))))), (nbs, .inl (k 5, 17, .inr (.inr (.inr (.inr (fun j => some (bs j)))))))]) S hA [] [0, 1, 2] rfl rfl (by decide) (by decide) (va_runS (As := [.ref (br dp), .ref (br (dp + 1))]) (rest := []) ⟨hx, hb, C.2.2.1, C.2.2.2.1, C.2.2.2.2.1⟩ (g_Ne_copy l G k _ (br dp) (br (dp + 1)) LP F (hLP.2.2.1 _ (by omega)) (hLP.2.2.1 _ (by omega))) (k_stat (n := 2) C wc_Ne_copy rfl rfl wz_Ne wm_Ne_122 wt_Ne_copy (by decide +kernel) ⟨(Nat.le_of_ble_eq_true rfl), (Nat.le_of_ble_eq_true rfl)⟩) (pr_nowP K S [] (by decide) rfl) rfl rfl hl.1 rfl (lv_room (Nat.le_of_ble_eq_true rfl)) d_Ne_handDown_14 ⟨(Nat.le_of_ble_eq_true rfl), (Nat.le_of_ble_eq_true rfl)⟩) (fun u1 H locs hw2 S => ?_)
  have S : Sw G A s.heap _ _ ([(h0, .inr (7, [.ref ca, .ref nfo, .ref ncd, .ref nsp, .ref nno, .ref nsm, .ref nbr, .ref nbs, .ref nbd, .int (nI un9), .int (nI co9), .int (nI fl9)])), (nbr, .inl (k 5, 17, .inr (.inr (.inr (.inr (fun j => some (br j))))))), (nbs, .inl (k 5, 17, .inr (.inr (.inr (.inr (fun j => some (bs j)))))))] ++ va_pl LP (rwp k 41 u1)) := S
  refine lv_aload_n hx hb d_Ne_handDown_17 rfl (lv_at hl 0 rfl) ?_
  refine r_get C K S 0 rfl rfl clOk_Ne 7 (by decide) wf_Ne_32 (v := .ref nbs) rfl d_Ne_handDown_18 ?_
  refine lv_iload_n hx hb d_Ne_handDown_21 rfl (lv_at hl 1 rfl) ?_
  refine r_aaldM C K S 2 rfl (i := nI dp) (show vp_in (nI dp) _ from vp_in_nI (n := dp) (by omega) (by decide)) (b := (bs dp)) (by rw [nI_clamp (by omega)]) d_Ne_handDown_22 ?_
  refine lv_aload_n hx hb d_Ne_handDown_23 rfl (lv_at hl 0 rfl) ?_
  refine r_get C K S 0 rfl rfl clOk_Ne 7 (by decide) wf_Ne_32 (v := .ref nbs) rfl d_Ne_handDown_24 ?_
  refine lv_iload_n hx hb d_Ne_handDown_27 rfl (lv_at hl 1 rfl) ?_
  refine lv_iconst (v := 1) hx hb d_Ne_handDown_28 (by decide) ?_
  refine z_iadd (x := nI dp) (y := 1) (v := nI (dp + 1)) hx hb d_Ne_handDown_29 (nI_add dp 1) ?_
  refine r_aaldM C K S 2 rfl (i := nI (dp + 1)) (show vp_in (nI (dp + 1)) _ from vp_in_nI (n := (dp + 1)) (by omega) (by decide)) (b := (bs (dp + 1))) (by rw [nI_clamp (by omega)]) d_Ne_handDown_30 ?_
  refine r_backvP (wi := []) (wr := [(h0, .inr (7, [.ref ca, .ref nfo, .ref ncd, .ref nsp, .ref nno, .ref nsm, .ref nbr, .ref nbs, .ref nbd, .int (nI un9), .int (nI co9), .int (nI fl9)])), (nbr, .inl (k 5, 17, .inr (.inr (.inr (.inr (fun j => some (br j))))))), (nbs, .inl (k 5, 17, .inr (.inr (.inr (.inr (fun j => some (bs j)))))))]) S hA [] [0, 1, 2] rfl rfl (by decide) (by decide) (va_runS (As := [.ref (bs dp), .ref (bs (dp + 1))]) (rest := []) ⟨hx, hb, C.2.2.1, C.2.2.2.1, C.2.2.2.2.1⟩ (g_Ne_copy l G k _ (bs dp) (bs (dp + 1)) LP u1 (hLP.2.2.2.1 _ (by omega)) (hLP.2.2.2.1 _ (by omega))) (k_stat (n := 2) C wc_Ne_copy rfl rfl wz_Ne wm_Ne_122 wt_Ne_copy (by decide +kernel) ⟨(Nat.le_of_ble_eq_true rfl), (Nat.le_of_ble_eq_true rfl)⟩) (pr_nowP K S [] (by decide) rfl) rfl rfl hl.1 rfl (lv_room (Nat.le_of_ble_eq_true rfl)) d_Ne_handDown_31 ⟨(Nat.le_of_ble_eq_true rfl), (Nat.le_of_ble_eq_true rfl)⟩) (fun u3 H locs hw4 S => ?_)
  have S : Sw G A s.heap _ _ ([(h0, .inr (7, [.ref ca, .ref nfo, .ref ncd, .ref nsp, .ref nno, .ref nsm, .ref nbr, .ref nbs, .ref nbd, .int (nI un9), .int (nI co9), .int (nI fl9)])), (nbr, .inl (k 5, 17, .inr (.inr (.inr (.inr (fun j => some (br j))))))), (nbs, .inl (k 5, 17, .inr (.inr (.inr (.inr (fun j => some (bs j)))))))] ++ va_pl LP (rwp k 41 u3)) := S
  exact r_vret C K u3 trivial (S.subP [0, 1, 2] (by decide) rfl) d_Ne_handDown_34 (Nat.le_of_ble_eq_true rfl) (Nat.le_of_ble_eq_true rfl)
theorem d_Ne_clear_0 : decode c_Ne_clear 0 = .ok (.iconst 0, 1) := by decide +kernel
theorem d_Ne_clear_1 : decode c_Ne_clear 1 = .ok (.istore_n 2, 1) := by decide +kernel
theorem d_Ne_clear_2 : decode c_Ne_clear 2 = .ok (.iload_n 2, 1) := by decide +kernel
theorem d_Ne_clear_3 : decode c_Ne_clear 3 = .ok (.bipush 18, 2) := by decide +kernel
theorem d_Ne_clear_5 : decode c_Ne_clear 5 = .ok (.if_icmp .ge 19, 3) := by decide +kernel
theorem d_Ne_clear_8 : decode c_Ne_clear 8 = .ok (.aload_n 0, 1) := by decide +kernel
theorem d_Ne_clear_9 : decode c_Ne_clear 9 = .ok (.iload_n 1, 1) := by decide +kernel
theorem d_Ne_clear_10 : decode c_Ne_clear 10 = .ok (.iload_n 2, 1) := by decide +kernel
theorem d_Ne_clear_11 : decode c_Ne_clear 11 = .ok (.invokevirtual 83, 3) := by decide +kernel
theorem d_Ne_clear_14 : decode c_Ne_clear 14 = .ok (.iconst 0, 1) := by decide +kernel
theorem d_Ne_clear_15 : decode c_Ne_clear 15 = .ok (.invokestatic 63, 3) := by decide +kernel
theorem d_Ne_clear_18 : decode c_Ne_clear 18 = .ok (.iinc 2 1, 3) := by decide +kernel
theorem d_Ne_clear_21 : decode c_Ne_clear 21 = .ok (.goto (-19), 3) := by decide +kernel
theorem d_Ne_clear_24 : decode c_Ne_clear 24 = .ok (.return_, 1) := by decide +kernel
set_option maxRecDepth 100000 in
set_option maxHeartbeats 16000000 in
/-- clear -/
theorem g_Ne_clear (l : Launch) (G : va_G) (k : Nat → ClassId) (h0 : Nat) (s0 : Nat) (lv9 : Nat) (ca : Nat) (nfo : Nat) (ncd : Nat) (nsp : Nat) (nno : Nat) (nsm : Nat) (nbr : Nat) (nbs : Nat) (nbd : Nat) (un9 : Nat) (co9 : Nat) (fl9 : Nat) (sm : Nat → Nat) (cd : Nat → Nat) (br : Nat → Nat) (bs : Nat → Nat) (LP : List Nat) (F : Nat → Nat → Int32) (hLP : lpO LP sm cd br bs nsp nno) (hlv : lv9 ≤ 16) : CV l y_Ne_clear c_Ne_clear 3 { frames := 1, cells := 0, slots := 0, locals := 23 } [.ref h0, .int (nI lv9)] G k s0 ([(h0, .inr (7, [.ref ca, .ref nfo, .ref ncd, .ref nsp, .ref nno, .ref nsm, .ref nbr, .ref nbs, .ref nbd, .int (nI un9), .int (nI co9), .int (nI fl9)])), (nsm, .inl (k 5, 306, .inr (.inr (.inr (.inr (fun j => some (sm j)))))))] ++ va_pl LP (rwp k 41 F)) (fun (u : Nat → Nat → Int32) => True) (fun u => ([(h0, .inr (7, [.ref ca, .ref nfo, .ref ncd, .ref nsp, .ref nno, .ref nsm, .ref nbr, .ref nbs, .ref nbd, .int (nI un9), .int (nI co9), .int (nI fl9)])), (nsm, .inl (k 5, 306, .inr (.inr (.inr (.inr (fun j => some (sm j)))))))] ++ va_pl LP (rwp k 41 u))) 0 0 := by
  refine met_start (by decide) (Nat.le_of_ble_eq_true rfl) ?_
  intro p e s m below meth c C K hA hsz S ls hl
  generalize va_A ([(h0, .inr (7, [.ref ca, .ref nfo, .ref ncd, .ref nsp, .ref nno, .ref nsm, .ref nbr, .ref nbs, .ref nbd, .int (nI un9), .int (nI co9), .int (nI fl9)])), (nsm, .inl (k 5, 306, .inr (.inr (.inr (.inr (fun j => some (sm j)))))))] ++ va_pl LP (rwp k 41 F)) s0 = A at hA S ⊢
  have hx := C.1
  have hb := C.2.1
  have hl : lv_has ls 3 [(0, .ref h0), (1, .int (nI lv9))] := hl
  refine lv_iconst (v := 0) hx hb d_Ne_clear_0 (by decide) ?_
  refine lv_istore_n (lv' := [(2, .int 0), (0, .ref h0), (1, .int (nI lv9))]) hx hb d_Ne_clear_1 rfl hl (by decide) rfl (fun ls hl => ?_)
  have lp : ∀ d9, ∀ (i9 : Nat), ∀ (F8 : Nat → Nat → Int32), (18 - i9) < d9 → (i9 ≤ 18) → ∀ (H : Heap) (locs : List Loc), Sw G A s.heap H locs ([(h0, .inr (7, [.ref ca, .ref nfo, .ref ncd, .ref nsp, .ref nno, .ref nsm, .ref nbr, .ref nbs, .ref nbd, .int (nI un9), .int (nI co9), .int (nI fl9)])), (nsm, .inl (k 5, 306, .inr (.inr (.inr (.inr (fun j => some (sm j)))))))] ++ va_pl LP (rwp k 41 F8)) → ∀ ls : Array Slot, lv_has ls 3 [(2, .int (nI i9)), (0, .ref h0), (1, .int (nI lv9))] → W p l e { frames := 1, cells := 0, slots := 0, locals := 23 } s m [Value.ref h0, Value.int (nI lv9)].toArray below meth c H locs 0 0 (MQ below (va_Qv (fun (u : Nat → Nat → Int32) => True) (Po G k A (fun u => ([(h0, .inr (7, [.ref ca, .ref nfo, .ref ncd, .ref nsp, .ref nno, .ref nsm, .ref nbr, .ref nbs, .ref nbd, .int (nI un9), .int (nI co9), .int (nI fl9)])), (nsm, .inl (k 5, 306, .inr (.inr (.inr (.inr (fun j => some (sm j)))))))] ++ va_pl LP (rwp k 41 u)))) A) [Value.ref h0, Value.int (nI lv9)].toArray s 0 0 A) (F0 m 2 ls []) := by
    intro d9
    induction d9 with
    | zero => intro i9 F8 hm; exact absurd hm (Nat.not_lt_zero _)
    | succ d9 ih_lp =>
      intro i9 F8 hm hi H locs S ls hl
      refine lv_iload_n hx hb d_Ne_clear_2 rfl (lv_at hl 0 rfl) ?_
      refine lv_bipush (v := 18) hx hb d_Ne_clear_3 (by decide) ?_
      refine z_icmp_ge (a := i9) (b := 18) (tgt := 24) hx hb d_Ne_clear_5 (by decide) (by omega) (by omega) (fun hc1 => ?_) (fun hc1 => ?_)
      · exact r_vret C K F8 trivial (S.subP [0, 1] (by decide) rfl) d_Ne_clear_24 (Nat.le_of_ble_eq_true rfl) (Nat.le_of_ble_eq_true rfl)
      · refine lv_aload_n hx hb d_Ne_clear_8 rfl (lv_at hl 1 rfl) ?_
        refine lv_iload_n hx hb d_Ne_clear_9 rfl (lv_at hl 2 rfl) ?_
        refine lv_iload_n hx hb d_Ne_clear_10 rfl (lv_at hl 0 rfl) ?_
        refine r_backrQ (wi := [(h0, .inr (7, [.ref ca, .ref nfo, .ref ncd, .ref nsp, .ref nno, .ref nsm, .ref nbr, .ref nbs, .ref nbd, .int (nI un9), .int (nI co9), .int (nI fl9)])), (nsm, .inl (k 5, 306, .inr (.inr (.inr (.inr (fun j => some (sm j)))))))]) (wr := []) S hA [0, 1] [] rfl rfl (by decide) (by decide) (va_runV (As := [.int (nI lv9), .int (nI i9)]) (rest := []) ⟨hx, hb, C.2.2.1, C.2.2.2.1, C.2.2.2.2.1⟩ (g_Ne_sum l G k h0 _ lv9 i9 ca nfo ncd nsp nno nsm nbr nbs nbd un9 co9 fl9 sm (by first | assumption | omega)) (k_virt (n := 2) C wc_Ne_sum rfl rfl wz_Ne wm_Ne_83 wn_Ne_sum ws_Ne_sum (by decide +kernel) ⟨(Nat.le_of_ble_eq_true rfl), (Nat.le_of_ble_eq_true rfl)⟩) (pr_nowV K S [0, 1] (by decide) (ap_in rfl) 0 rfl rfl) rfl rfl hl.1 rfl (lv_room (Nat.le_of_ble_eq_true rfl)) d_Ne_clear_11 ⟨(Nat.le_of_ble_eq_true rfl), (Nat.le_of_ble_eq_true rfl)⟩) (fun u2 H locs hw3 S => ?_)
        have S : Sw G A s.heap _ _ ([(h0, .inr (7, [.ref ca, .ref nfo, .ref ncd, .ref nsp, .ref nno, .ref nsm, .ref nbr, .ref nbs, .ref nbd, .int (nI un9), .int (nI co9), .int (nI fl9)])), (nsm, .inl (k 5, 306, .inr (.inr (.inr (.inr (fun j => some (sm j)))))))] ++ va_pl LP (rwp k 41 F8)) := S
        refine lv_iconst (v := 0) hx hb d_Ne_clear_14 (by decide) ?_
        refine r_backvP (wi := []) (wr := [(h0, .inr (7, [.ref ca, .ref nfo, .ref ncd, .ref nsp, .ref nno, .ref nsm, .ref nbr, .ref nbs, .ref nbd, .int (nI un9), .int (nI co9), .int (nI fl9)])), (nsm, .inl (k 5, 306, .inr (.inr (.inr (.inr (fun j => some (sm j)))))))]) S hA [] [0, 1] rfl rfl (by decide) (by decide) (va_runS (As := [.ref (sm (18 * lv9 + i9)), .int 0]) (rest := []) ⟨hx, hb, C.2.2.1, C.2.2.2.1, C.2.2.2.2.1⟩ (g_JA_fill l G k _ (sm (18 * lv9 + i9)) 0 LP F8 (hLP.1 _ (by omega))) (k_stat (n := 2) C wc_JA_fill rfl rfl wz_JA wm_Ne_63 wt_JA_fill (by decide +kernel) ⟨(Nat.le_of_ble_eq_true rfl), (Nat.le_of_ble_eq_true rfl)⟩) (pr_nowP K S [] (by decide) rfl) rfl rfl hl.1 rfl (lv_room (Nat.le_of_ble_eq_true rfl)) d_Ne_clear_15 ⟨(Nat.le_of_ble_eq_true rfl), (Nat.le_of_ble_eq_true rfl)⟩) (fun u4 H locs hw5 S => ?_)
        have S : Sw G A s.heap _ _ ([(h0, .inr (7, [.ref ca, .ref nfo, .ref ncd, .ref nsp, .ref nno, .ref nsm, .ref nbr, .ref nbs, .ref nbd, .int (nI un9), .int (nI co9), .int (nI fl9)])), (nsm, .inl (k 5, 306, .inr (.inr (.inr (.inr (fun j => some (sm j)))))))] ++ va_pl LP (rwp k 41 u4)) := S
        refine lv_iinc (v := nI (i9 + 1)) (lv' := [(2, .int (nI (i9 + 1))), (0, .ref h0), (1, .int (nI lv9))]) hx hb d_Ne_clear_18 hl (k := 0) rfl (show nI i9 + Int32.ofInt 1 = nI (i9 + 1) from (nI_add i9 1).trans (congrArg nI (by omega))) (by decide) rfl (fun ls hl => ?_)
        refine lv_goto (tgt := 2) hx hb d_Ne_clear_21 (by decide) ?_
        exact ih_lp (i9 + 1) u4 (by omega) (by omega) _ _ (S.subP [0, 1] (by decide) rfl) ls (lv_sub hl [0, 1, 2] rfl)
  exact lp _ 0 F (Nat.lt_succ_self _) (by omega) _ _ (S.subP [0, 1] (by decide) rfl) ls (lv_sub hl [0, 1, 2] rfl)
end
section
/-! how many bits are set, the JDK's way -/
theorem land_split {r q s t : Nat} (hr : r < 256) (hs : s < 256) : (256 * q + r) &&& (256 * t + s) = 256 * (q &&& t) + (r &&& s) := by
  have h8 : (r &&& s) < 2 ^ 8 := Nat.and_lt_two_pow _ hs
  apply Nat.eq_of_testBit_eq
  intro j
  rw [Nat.testBit_and, show (256 : Nat) = 2 ^ 8 from rfl, Nat.testBit_two_pow_mul_add q hr, Nat.testBit_two_pow_mul_add t hs, Nat.testBit_two_pow_mul_add (q &&& t) h8]
  split
  · rw [Nat.testBit_and]
  · rw [Nat.testBit_and]
def pc8 (n : Nat) : Nat := n % 2 + n / 2 % 2 + n / 4 % 2 + n / 8 % 2 + n / 16 % 2 + n / 32 % 2 + n / 64 % 2 + n / 128 % 2
def t8 (x : Nat) : Nat := (x / 2) &&& 85
def b8 (x : Nat) : Nat := x - t8 x
def c8 (b : Nat) : Nat := (b &&& 51) + ((b / 4) &&& 51)
def d8 (c : Nat) : Nat := (c + c / 16) &&& 15
set_option maxRecDepth 20000 in
theorem q1 : ∀ x, x < 256 → ∀ e, e < 2 → (x / 2 + 128 * e) &&& 85 = t8 x := by decide +kernel
set_option maxRecDepth 20000 in
theorem q1b : ∀ x, x < 256 → t8 x ≤ x := by decide +kernel
set_option maxRecDepth 20000 in
theorem q2 : ∀ b, b < 256 → ∀ e, e < 4 → (b / 4 + 64 * e) &&& 51 = (b / 4) &&& 51 := by decide +kernel
set_option maxRecDepth 20000 in
theorem q2b : ∀ x, x < 256 → c8 (b8 x) ≤ 68 ∧ c8 (b8 x) % 16 ≤ 4 := by decide +kernel
set_option maxRecDepth 20000 in
theorem q3 : ∀ c, c < 69 → ∀ e, e < 5 → (c + c / 16 + 16 * e) &&& 15 = d8 c := by decide +kernel
set_option maxRecDepth 20000 in
theorem q4 : ∀ x, x < 256 → d8 (c8 (b8 x)) = pc8 x ∧ pc8 x ≤ 8 := by decide +kernel
theorem s1_step {x Y M : Nat} (hx : x < 256) : ((x + 256 * Y) / 2) &&& (85 + 256 * M) = t8 x + 256 * ((Y / 2) &&& M) := by
  rw [show (x + 256 * Y) / 2 = 256 * (Y / 2) + (x / 2 + 128 * (Y % 2)) by omega, Nat.add_comm 85, land_split (by omega) (by decide), q1 x hx _ (by omega), Nat.add_comm]
theorem s2_step {b B M : Nat} (hb : b < 256) : ((b + 256 * B) / 4) &&& (51 + 256 * M) = ((b / 4) &&& 51) + 256 * ((B / 4) &&& M) := by
  rw [show (b + 256 * B) / 4 = 256 * (B / 4) + (b / 4 + 64 * (B % 4)) by omega, Nat.add_comm 51, land_split (by omega) (by decide), q2 b hb _ (by omega), Nat.add_comm]
theorem s2_low {b B M : Nat} (hb : b < 256) : (b + 256 * B) &&& (51 + 256 * M) = (b &&& 51) + 256 * (B &&& M) := by
  rw [Nat.add_comm b, Nat.add_comm 51, land_split hb (by decide), Nat.add_comm]
theorem s3_step {c C M : Nat} (hc : c < 69) (hC : C % 16 < 5) : ((c + 256 * C) + (c + 256 * C) / 16) &&& (15 + 256 * M) = d8 c + 256 * ((C + C / 16) &&& M) := by
  rw [show (c + 256 * C) + (c + 256 * C) / 16 = 256 * (C + C / 16) + (c + c / 16 + 16 * (C % 16)) by omega, Nat.add_comm 15, land_split (by omega) (by decide), q3 c hc _ hC, Nat.add_comm]
def bcN (a : Nat) : Nat :=
  let b := a - ((a / 2) &&& 1431655765)
  let c := (b &&& 858993459) + ((b / 4) &&& 858993459)
  let d := (c + c / 16) &&& 252645135
  let e := d + d / 256
  let f := e + e / 65536
  f &&& 63
theorem bcN_eq {x y z : Nat} (hx : x < 256) (hy : y < 256) (hz : z < 256) : bcN (x + 256 * (y + 256 * z)) = pc8 x + pc8 y + pc8 z := by
  have e1 : ((x + 256 * (y + 256 * z)) / 2) &&& 1431655765 = t8 x + 256 * (t8 y + 256 * t8 z) := by
    rw [show (1431655765 : Nat) = 85 + 256 * (85 + 256 * (85 + 256 * 85)) from rfl, s1_step hx, s1_step hy, show z / 2 = (z + 256 * 0) / 2 by omega, s1_step hz]
    rfl
  have l1 := q1b x hx
  have l2 := q1b y hy
  have l3 := q1b z hz
  have e2 : x + 256 * (y + 256 * z) - (t8 x + 256 * (t8 y + 256 * t8 z)) = b8 x + 256 * (b8 y + 256 * b8 z) := by unfold b8; omega
  have bx : b8 x < 256 := by unfold b8; omega
  have by' : b8 y < 256 := by unfold b8; omega
  have bz : b8 z < 256 := by unfold b8; omega
  have e3 : ((b8 x + 256 * (b8 y + 256 * b8 z)) &&& 858993459) + (((b8 x + 256 * (b8 y + 256 * b8 z)) / 4) &&& 858993459) = c8 (b8 x) + 256 * (c8 (b8 y) + 256 * c8 (b8 z)) := by
    have h1 : (b8 x + 256 * (b8 y + 256 * b8 z)) &&& 858993459 = (b8 x &&& 51) + 256 * ((b8 y &&& 51) + 256 * (b8 z &&& 51)) := by
      rw [show (858993459 : Nat) = 51 + 256 * (51 + 256 * (51 + 256 * 51)) from rfl, s2_low bx, s2_low by']
      have := s2_low (b := b8 z) (B := 0) (M := 51) bz
      rw [Nat.mul_zero, Nat.add_zero, Nat.zero_and, Nat.mul_zero, Nat.add_zero] at this
      rw [this, Nat.add_zero]
    have h2 : ((b8 x + 256 * (b8 y + 256 * b8 z)) / 4) &&& 858993459 = ((b8 x / 4) &&& 51) + 256 * (((b8 y / 4) &&& 51) + 256 * ((b8 z / 4) &&& 51)) := by
      rw [show (858993459 : Nat) = 51 + 256 * (51 + 256 * (51 + 256 * 51)) from rfl, s2_step bx, s2_step by']
      have := s2_step (b := b8 z) (B := 0) (M := 51) bz
      rw [Nat.mul_zero, Nat.add_zero, Nat.zero_div, Nat.zero_and, Nat.mul_zero, Nat.add_zero] at this
      rw [this, Nat.add_zero]
    rw [h1, h2]
    unfold c8
    omega
  have c1 := q2b x hx
  have c2 := q2b y hy
  have c3 := q2b z hz
  have e4 : ((c8 (b8 x) + 256 * (c8 (b8 y) + 256 * c8 (b8 z))) + (c8 (b8 x) + 256 * (c8 (b8 y) + 256 * c8 (b8 z))) / 16) &&& 252645135 = pc8 x + 256 * (pc8 y + 256 * pc8 z) := by
    rw [show (252645135 : Nat) = 15 + 256 * (15 + 256 * (15 + 256 * 15)) from rfl, s3_step (by omega) (by omega), s3_step (by omega) (by omega)]
    have := s3_step (c := c8 (b8 z)) (C := 0) (M := 15) (by omega) (by decide)
    rw [Nat.mul_zero, Nat.add_zero, Nat.zero_div, Nat.add_zero, Nat.zero_and, Nat.mul_zero, Nat.add_zero] at this
    rw [this, Nat.add_zero, (q4 x hx).1, (q4 y hy).1, (q4 z hz).1]
  have p1 := (q4 x hx).2
  have p2 := (q4 y hy).2
  have p3 := (q4 z hz).2
  unfold bcN
  simp only []
  rw [e1, e2, e3, e4]
  generalize pc8 x = P at *
  generalize pc8 y = R at *
  generalize pc8 z = T at *
  clear e1 e2 e3 e4 c1 c2 c3 l1 l2 l3 bx by' bz hx hy hz
  rw [show (P + 256 * (R + 256 * T)) / 256 = R + 256 * T by omega, show (63 : Nat) = 2 ^ 6 - 1 from rfl, Nat.and_two_pow_sub_one_eq_mod, show (P + 256 * (R + 256 * T) + (R + 256 * T)) / 65536 = T by omega]
  show (P + 256 * (R + 256 * T) + (R + 256 * T) + T) % 64 = P + R + T
  omega
/-- how many of the bits below v are set -/
def pcK (o : Nat) : Nat → Nat
  | 0 => 0
  | v + 1 => pcK o v + (o / 2 ^ v) % 2
theorem pcK_add (o a : Nat) : ∀ b, pcK o (a + b) = pcK o a + pcK (o / 2 ^ a) b
  | 0 => rfl
  | b + 1 => by
    rw [← Nat.add_assoc, pcK, pcK, pcK_add o a b, Nat.div_div_eq_div_mul, ← Nat.pow_add, Nat.add_assoc]
theorem pcK_mod (o k : Nat) : ∀ b, b ≤ k → pcK (o % 2 ^ k) b = pcK o b
  | 0, _ => rfl
  | b + 1, h => by
    rw [pcK, pcK, pcK_mod o k b (by omega)]
    congr 1
    obtain ⟨d, rfl⟩ : ∃ d, k = b + 1 + d := ⟨k - (b + 1), by omega⟩
    rw [Nat.add_assoc, Nat.pow_add, Nat.mod_mul_right_div_self, Nat.pow_add, Nat.pow_one, Nat.mod_mul_right_mod]
theorem pc8_eq (n : Nat) : pc8 n = pcK n 8 := by
  unfold pc8
  simp only [pcK, Nat.zero_add, Nat.pow_zero, Nat.div_one]
theorem pcK_small : ∀ (b n : Nat), n < 4 → 2 ≤ b → pcK n b = pcK n 2
  | 0, n, _, h => absurd h (by decide)
  | 1, n, _, h => absurd h (by decide)
  | 2, n, _, _ => rfl
  | b + 3, n, hn, _ => by
    rw [pcK, pcK_small (b + 2) n hn (by omega)]
    have h1 : 4 ≤ 2 ^ (b + 2) := by
      have := Nat.pow_le_pow_right (show 1 ≤ 2 by decide) (show 2 ≤ b + 2 by omega)
      omega
    rw [Nat.div_eq_of_lt (by omega)]
    rfl
theorem bc_eq {o : Nat} (h : o < 262144) : bcN o = pcK o 18 := by
  have e := bcN_eq (x := o % 256) (y := o / 256 % 256) (z := o / 65536) (by omega) (by omega) (by omega)
  have h0 : o % 256 + 256 * (o / 256 % 256 + 256 * (o / 65536)) = o := by omega
  rw [h0] at e
  have e1 : pcK (o % 256) 8 = pcK o 8 := pcK_mod o 8 8 (by decide)
  have e2 : pcK (o / 256 % 256) 8 = pcK (o / 256) 8 := pcK_mod (o / 256) 8 8 (by decide)
  have e3 : pcK (o / 65536) 8 = pcK (o / 65536) 2 := pcK_small 8 _ (by omega) (by decide)
  have e4 : pcK o 18 = pcK o 8 + pcK (o / 256) 10 := pcK_add o 8 10
  have e5 : pcK (o / 256) 10 = pcK (o / 256) 8 + pcK (o / 256 / 256) 2 := pcK_add (o / 256) 8 2
  have e6 : o / 256 / 256 = o / 65536 := by rw [Nat.div_div_eq_div_mul]
  rw [e, pc8_eq, pc8_eq, pc8_eq, e1, e2, e3, e4, e5, e6, Nat.add_assoc]
end
section
theorem d_Ne_paysOf_0 : decode c_Ne_paysOf 0 = .ok (.aload_n 0, 1) := by decide +kernel
theorem d_Ne_paysOf_1 : decode c_Ne_paysOf 1 = .ok (.getfield 9, 3) := by decide +kernel
theorem d_Ne_paysOf_4 : decode c_Ne_paysOf 4 = .ok (.iload_n 1, 1) := by decide +kernel
theorem d_Ne_paysOf_5 : decode c_Ne_paysOf 5 = .ok (.iaload, 1) := by decide +kernel
theorem d_Ne_paysOf_6 : decode c_Ne_paysOf 6 = .ok (.aload_n 0, 1) := by decide +kernel
theorem d_Ne_paysOf_7 : decode c_Ne_paysOf 7 = .ok (.getfield 35, 3) := by decide +kernel
theorem d_Ne_paysOf_10 : decode c_Ne_paysOf 10 = .ok (.iload_n 1, 1) := by decide +kernel
theorem d_Ne_paysOf_11 : decode c_Ne_paysOf 11 = .ok (.aaload, 1) := by decide +kernel
theorem d_Ne_paysOf_12 : decode c_Ne_paysOf 12 = .ok (.getfield 54, 3) := by decide +kernel
theorem d_Ne_paysOf_15 : decode c_Ne_paysOf 15 = .ok (.iadd, 1) := by decide +kernel
theorem d_Ne_paysOf_16 : decode c_Ne_paysOf 16 = .ok (.ireturn, 1) := by decide +kernel
set_option maxRecDepth 100000 in
set_option maxHeartbeats 16000000 in
/-- paysOf -/
theorem g_Ne_paysOf (l : Launch) (G : va_G) (k : Nat → ClassId) (h0 : Nat) (s0 : Nat) (g9 : Nat) (ca : Nat) (nfo : Nat) (ncd : Nat) (nsp : Nat) (nno : Nat) (nsm : Nat) (nbr : Nat) (nbs : Nat) (nbd : Nat) (un9 : Nat) (co9 : Nat) (fl9 : Nat) (fo : Nat → Nat) (ad : Nat → Nat → Nat) (tk : Nat → Nat) (ct : Nat → Nat) (no : Nat → Nat) (hg4 : g9 < 4) : CI l y_Ne_paysOf c_Ne_paysOf 2 .int { frames := 0, cells := 0, slots := 0, locals := 0 } [.ref h0, .int (nI g9)] G k s0 [(h0, .inr (7, [.ref ca, .ref nfo, .ref ncd, .ref nsp, .ref nno, .ref nsm, .ref nbr, .ref nbs, .ref nbd, .int (nI un9), .int (nI co9), .int (nI fl9)])), (nfo, .inl (k 0, 4, .inl (fun i => nI (fo i)))), (ca, .inl (k 3, 4, .inr (.inr (.inr (.inr (fun g => some (ad g 0))))))), ((ad g9 0), .inr (4, [.ref (ad g9 1), .ref (ad g9 2), .ref (ad g9 3), .ref (ad g9 4), .ref (ad g9 5), .ref (ad g9 6), .int (nI (tk g9)), .int (nI (ct g9)), .int (nI (no g9))]))] (fun (r : Int32) (u : Unit) => r = nI (fo g9 + tk g9) ∧ True) (fun u => [(h0, .inr (7, [.ref ca, .ref nfo, .ref ncd, .ref nsp, .ref nno, .ref nsm, .ref nbr, .ref nbs, .ref nbd, .int (nI un9), .int (nI co9), .int (nI fl9)])), (nfo, .inl (k 0, 4, .inl (fun i => nI (fo i)))), (ca, .inl (k 3, 4, .inr (.inr (.inr (.inr (fun g => some (ad g 0))))))), ((ad g9 0), .inr (4, [.ref (ad g9 1), .ref (ad g9 2), .ref (ad g9 3), .ref (ad g9 4), .ref (ad g9 5), .ref (ad g9 6), .int (nI (tk g9)), .int (nI (ct g9)), .int (nI (no g9))]))]) 0 0 := by
  refine met_start (by decide) (Nat.le_of_ble_eq_true rfl) ?_
  intro p e s m below meth c C K hA hsz S ls hl
  generalize va_A [(h0, .inr (7, [.ref ca, .ref nfo, .ref ncd, .ref nsp, .ref nno, .ref nsm, .ref nbr, .ref nbs, .ref nbd, .int (nI un9), .int (nI co9), .int (nI fl9)])), (nfo, .inl (k 0, 4, .inl (fun i => nI (fo i)))), (ca, .inl (k 3, 4, .inr (.inr (.inr (.inr (fun g => some (ad g 0))))))), ((ad g9 0), .inr (4, [.ref (ad g9 1), .ref (ad g9 2), .ref (ad g9 3), .ref (ad g9 4), .ref (ad g9 5), .ref (ad g9 6), .int (nI (tk g9)), .int (nI (ct g9)), .int (nI (no g9))]))] s0 = A at hA S ⊢
  have hx := C.1
  have hb := C.2.1
  have hl : lv_has ls 2 [(0, .ref h0), (1, .int (nI g9))] := hl
  refine lv_aload_n hx hb d_Ne_paysOf_0 rfl (lv_at hl 0 rfl) ?_
  refine r_get C K S 0 rfl rfl clOk_Ne 1 (by decide) wf_Ne_9 (v := .ref nfo) rfl d_Ne_paysOf_1 ?_
  refine lv_iload_n hx hb d_Ne_paysOf_4 rfl (lv_at hl 1 rfl) ?_
  refine r_iald C K S 1 rfl (i := nI g9) (show vp_in (nI g9) _ from vp_in_nI (n := g9) (by omega) (by decide)) (v := nI (fo g9)) (by rw [nI_clamp (by omega)]) d_Ne_paysOf_5 ?_
  refine lv_aload_n hx hb d_Ne_paysOf_6 rfl (lv_at hl 0 rfl) ?_
  refine r_get C K S 0 rfl rfl clOk_Ne 0 (by decide) wf_Ne_35 (v := .ref ca) rfl d_Ne_paysOf_7 ?_
  refine lv_iload_n hx hb d_Ne_paysOf_10 rfl (lv_at hl 1 rfl) ?_
  refine r_aald C K S 2 3 rfl rfl (i := nI g9) (show vp_in (nI g9) _ from vp_in_nI (n := g9) (by omega) (by decide)) (b := (ad g9 0)) (by rw [nI_clamp (by omega)]) d_Ne_paysOf_11 ?_
  refine r_getN C K S 3 rfl rfl clOk_Bo 6 (by decide) xf_Ne_54 (v := .int (nI (tk g9))) rfl d_Ne_paysOf_12 ?_
  refine z_iadd (x := nI (fo g9)) (y := nI (tk g9)) (v := nI (fo g9 + tk g9)) hx hb d_Ne_paysOf_15 (nI_add (fo g9) (tk g9)) ?_
  exact r_iret C K rfl () ⟨rfl, trivial⟩ (S.sub [0, 1, 2, 3] (by decide) rfl) d_Ne_paysOf_16 (Nat.le_of_ble_eq_true rfl) (Nat.le_of_ble_eq_true rfl)
theorem d_Ne_bringsOf_0 : decode c_Ne_bringsOf 0 = .ok (.aload_n 0, 1) := by decide +kernel
theorem d_Ne_bringsOf_1 : decode c_Ne_bringsOf 1 = .ok (.iload_n 1, 1) := by decide +kernel
theorem d_Ne_bringsOf_2 : decode c_Ne_bringsOf 2 = .ok (.invokevirtual 91, 3) := by decide +kernel
theorem d_Ne_bringsOf_5 : decode c_Ne_bringsOf 5 = .ok (.iconst 1, 1) := by decide +kernel
theorem d_Ne_bringsOf_6 : decode c_Ne_bringsOf 6 = .ok (.iadd, 1) := by decide +kernel
theorem d_Ne_bringsOf_7 : decode c_Ne_bringsOf 7 = .ok (.ireturn, 1) := by decide +kernel
set_option maxRecDepth 100000 in
set_option maxHeartbeats 16000000 in
/-- bringsOf -/
theorem g_Ne_bringsOf (l : Launch) (G : va_G) (k : Nat → ClassId) (h0 : Nat) (s0 : Nat) (g9 : Nat) (ca : Nat) (nfo : Nat) (ncd : Nat) (nsp : Nat) (nno : Nat) (nsm : Nat) (nbr : Nat) (nbs : Nat) (nbd : Nat) (un9 : Nat) (co9 : Nat) (fl9 : Nat) (fo : Nat → Nat) (ad : Nat → Nat → Nat) (tk : Nat → Nat) (ct : Nat → Nat) (no : Nat → Nat) (hg4 : g9 < 4) : CI l y_Ne_bringsOf c_Ne_bringsOf 2 .int { frames := 1, cells := 0, slots := 0, locals := 21 } [.ref h0, .int (nI g9)] G k s0 [(h0, .inr (7, [.ref ca, .ref nfo, .ref ncd, .ref nsp, .ref nno, .ref nsm, .ref nbr, .ref nbs, .ref nbd, .int (nI un9), .int (nI co9), .int (nI fl9)])), (nfo, .inl (k 0, 4, .inl (fun i => nI (fo i)))), (ca, .inl (k 3, 4, .inr (.inr (.inr (.inr (fun g => some (ad g 0))))))), ((ad g9 0), .inr (4, [.ref (ad g9 1), .ref (ad g9 2), .ref (ad g9 3), .ref (ad g9 4), .ref (ad g9 5), .ref (ad g9 6), .int (nI (tk g9)), .int (nI (ct g9)), .int (nI (no g9))]))] (fun (r : Int32) (u : Unit) => r = nI (fo g9 + tk g9 + 1) ∧ True) (fun u => [(h0, .inr (7, [.ref ca, .ref nfo, .ref ncd, .ref nsp, .ref nno, .ref nsm, .ref nbr, .ref nbs, .ref nbd, .int (nI un9), .int (nI co9), .int (nI fl9)])), (nfo, .inl (k 0, 4, .inl (fun i => nI (fo i)))), (ca, .inl (k 3, 4, .inr (.inr (.inr (.inr (fun g => some (ad g 0))))))), ((ad g9 0), .inr (4, [.ref (ad g9 1), .ref (ad g9 2), .ref (ad g9 3), .ref (ad g9 4), .ref (ad g9 5), .ref (ad g9 6), .int (nI (tk g9)), .int (nI (ct g9)), .int (nI (no g9))]))]) 0 0 := by
  refine met_start (by decide) (Nat.le_of_ble_eq_true rfl) ?_
  intro p e s m below meth c C K hA hsz S ls hl
  generalize va_A [(h0, .inr (7, [.ref ca, .ref nfo, .ref ncd, .ref nsp, .ref nno, .ref nsm, .ref nbr, .ref nbs, .ref nbd, .int (nI un9), .int (nI co9), .int (nI fl9)])), (nfo, .inl (k 0, 4, .inl (fun i => nI (fo i)))), (ca, .inl (k 3, 4, .inr (.inr (.inr (.inr (fun g => some (ad g 0))))))), ((ad g9 0), .inr (4, [.ref (ad g9 1), .ref (ad g9 2), .ref (ad g9 3), .ref (ad g9 4), .ref (ad g9 5), .ref (ad g9 6), .int (nI (tk g9)), .int (nI (ct g9)), .int (nI (no g9))]))] s0 = A at hA S ⊢
  have hx := C.1
  have hb := C.2.1
  have hl : lv_has ls 2 [(0, .ref h0), (1, .int (nI g9))] := hl
  refine lv_aload_n hx hb d_Ne_bringsOf_0 rfl (lv_at hl 0 rfl) ?_
  refine lv_iload_n hx hb d_Ne_bringsOf_1 rfl (lv_at hl 1 rfl) ?_
  refine r_backi (wi := [(h0, .inr (7, [.ref ca, .ref nfo, .ref ncd, .ref nsp, .ref nno, .ref nsm, .ref nbr, .ref nbs, .ref nbd, .int (nI un9), .int (nI co9), .int (nI fl9)])), (nfo, .inl (k 0, 4, .inl (fun i => nI (fo i)))), (ca, .inl (k 3, 4, .inr (.inr (.inr (.inr (fun g => some (ad g 0))))))), ((ad g9 0), .inr (4, [.ref (ad g9 1), .ref (ad g9 2), .ref (ad g9 3), .ref (ad g9 4), .ref (ad g9 5), .ref (ad g9 6), .int (nI (tk g9)), .int (nI (ct g9)), .int (nI (no g9))]))]) (wr := []) S hA [0, 1, 2, 3] [] rfl rfl (by decide) (by decide) (va_runV (As := [.int (nI g9)]) (rest := []) ⟨hx, hb, C.2.2.1, C.2.2.2.1, C.2.2.2.2.1⟩ (g_Ne_paysOf l G k h0 _ g9 ca nfo ncd nsp nno nsm nbr nbs nbd un9 co9 fl9 fo ad tk ct no (by first | assumption | omega)) (k_virt (n := 1) C wc_Ne_paysOf rfl rfl wz_Ne wm_Ne_91 wn_Ne_paysOf ws_Ne_paysOf (by decide +kernel) ⟨(Nat.le_of_ble_eq_true rfl), (Nat.le_of_ble_eq_true rfl)⟩) (pr_nowV K S [0, 1, 2, 3] (by decide) rfl 0 rfl rfl) rfl rfl hl.1 rfl (lv_room (Nat.le_of_ble_eq_true rfl)) d_Ne_bringsOf_2 ⟨(Nat.le_of_ble_eq_true rfl), (Nat.le_of_ble_eq_true rfl)⟩) (fun r3 u1 H locs hw2 S => ?_)
  have S : Sw G A s.heap _ _ [(h0, .inr (7, [.ref ca, .ref nfo, .ref ncd, .ref nsp, .ref nno, .ref nsm, .ref nbr, .ref nbs, .ref nbd, .int (nI un9), .int (nI co9), .int (nI fl9)])), (nfo, .inl (k 0, 4, .inl (fun i => nI (fo i)))), (ca, .inl (k 3, 4, .inr (.inr (.inr (.inr (fun g => some (ad g 0))))))), ((ad g9 0), .inr (4, [.ref (ad g9 1), .ref (ad g9 2), .ref (ad g9 3), .ref (ad g9 4), .ref (ad g9 5), .ref (ad g9 6), .int (nI (tk g9)), .int (nI (ct g9)), .int (nI (no g9))]))] := S
  obtain ⟨hw20, hp4⟩ := hw2
  obtain rfl : r3 = nI (fo g9 + tk g9) := hw20
  refine lv_iconst (v := 1) hx hb d_Ne_bringsOf_5 (by decide) ?_
  refine z_iadd (x := nI (fo g9 + tk g9)) (y := 1) (v := nI (fo g9 + tk g9 + 1)) hx hb d_Ne_bringsOf_6 (nI_add (fo g9 + tk g9) 1) ?_
  exact r_iret C K rfl () ⟨rfl, trivial⟩ (S.sub [0, 1, 2, 3] (by decide) rfl) d_Ne_bringsOf_7 (Nat.le_of_ble_eq_true rfl) (Nat.le_of_ble_eq_true rfl)
theorem d_Ne_leavesOf_0 : decode c_Ne_leavesOf 0 = .ok (.aload_n 0, 1) := by decide +kernel
theorem d_Ne_leavesOf_1 : decode c_Ne_leavesOf 1 = .ok (.iload_n 1, 1) := by decide +kernel
theorem d_Ne_leavesOf_2 : decode c_Ne_leavesOf 2 = .ok (.invokevirtual 91, 3) := by decide +kernel
theorem d_Ne_leavesOf_5 : decode c_Ne_leavesOf 5 = .ok (.iconst 2, 1) := by decide +kernel
theorem d_Ne_leavesOf_6 : decode c_Ne_leavesOf 6 = .ok (.iadd, 1) := by decide +kernel
theorem d_Ne_leavesOf_7 : decode c_Ne_leavesOf 7 = .ok (.ireturn, 1) := by decide +kernel
set_option maxRecDepth 100000 in
set_option maxHeartbeats 16000000 in
/-- leavesOf -/
theorem g_Ne_leavesOf (l : Launch) (G : va_G) (k : Nat → ClassId) (h0 : Nat) (s0 : Nat) (g9 : Nat) (ca : Nat) (nfo : Nat) (ncd : Nat) (nsp : Nat) (nno : Nat) (nsm : Nat) (nbr : Nat) (nbs : Nat) (nbd : Nat) (un9 : Nat) (co9 : Nat) (fl9 : Nat) (fo : Nat → Nat) (ad : Nat → Nat → Nat) (tk : Nat → Nat) (ct : Nat → Nat) (no : Nat → Nat) (hg4 : g9 < 4) : CI l y_Ne_leavesOf c_Ne_leavesOf 2 .int { frames := 1, cells := 0, slots := 0, locals := 21 } [.ref h0, .int (nI g9)] G k s0 [(h0, .inr (7, [.ref ca, .ref nfo, .ref ncd, .ref nsp, .ref nno, .ref nsm, .ref nbr, .ref nbs, .ref nbd, .int (nI un9), .int (nI co9), .int (nI fl9)])), (nfo, .inl (k 0, 4, .inl (fun i => nI (fo i)))), (ca, .inl (k 3, 4, .inr (.inr (.inr (.inr (fun g => some (ad g 0))))))), ((ad g9 0), .inr (4, [.ref (ad g9 1), .ref (ad g9 2), .ref (ad g9 3), .ref (ad g9 4), .ref (ad g9 5), .ref (ad g9 6), .int (nI (tk g9)), .int (nI (ct g9)), .int (nI (no g9))]))] (fun (r : Int32) (u : Unit) => r = nI (fo g9 + tk g9 + 2) ∧ True) (fun u => [(h0, .inr (7, [.ref ca, .ref nfo, .ref ncd, .ref nsp, .ref nno, .ref nsm, .ref nbr, .ref nbs, .ref nbd, .int (nI un9), .int (nI co9), .int (nI fl9)])), (nfo, .inl (k 0, 4, .inl (fun i => nI (fo i)))), (ca, .inl (k 3, 4, .inr (.inr (.inr (.inr (fun g => some (ad g 0))))))), ((ad g9 0), .inr (4, [.ref (ad g9 1), .ref (ad g9 2), .ref (ad g9 3), .ref (ad g9 4), .ref (ad g9 5), .ref (ad g9 6), .int (nI (tk g9)), .int (nI (ct g9)), .int (nI (no g9))]))]) 0 0 := by
  refine met_start (by decide) (Nat.le_of_ble_eq_true rfl) ?_
  intro p e s m below meth c C K hA hsz S ls hl
  generalize va_A [(h0, .inr (7, [.ref ca, .ref nfo, .ref ncd, .ref nsp, .ref nno, .ref nsm, .ref nbr, .ref nbs, .ref nbd, .int (nI un9), .int (nI co9), .int (nI fl9)])), (nfo, .inl (k 0, 4, .inl (fun i => nI (fo i)))), (ca, .inl (k 3, 4, .inr (.inr (.inr (.inr (fun g => some (ad g 0))))))), ((ad g9 0), .inr (4, [.ref (ad g9 1), .ref (ad g9 2), .ref (ad g9 3), .ref (ad g9 4), .ref (ad g9 5), .ref (ad g9 6), .int (nI (tk g9)), .int (nI (ct g9)), .int (nI (no g9))]))] s0 = A at hA S ⊢
  have hx := C.1
  have hb := C.2.1
  have hl : lv_has ls 2 [(0, .ref h0), (1, .int (nI g9))] := hl
  refine lv_aload_n hx hb d_Ne_leavesOf_0 rfl (lv_at hl 0 rfl) ?_
  refine lv_iload_n hx hb d_Ne_leavesOf_1 rfl (lv_at hl 1 rfl) ?_
  refine r_backi (wi := [(h0, .inr (7, [.ref ca, .ref nfo, .ref ncd, .ref nsp, .ref nno, .ref nsm, .ref nbr, .ref nbs, .ref nbd, .int (nI un9), .int (nI co9), .int (nI fl9)])), (nfo, .inl (k 0, 4, .inl (fun i => nI (fo i)))), (ca, .inl (k 3, 4, .inr (.inr (.inr (.inr (fun g => some (ad g 0))))))), ((ad g9 0), .inr (4, [.ref (ad g9 1), .ref (ad g9 2), .ref (ad g9 3), .ref (ad g9 4), .ref (ad g9 5), .ref (ad g9 6), .int (nI (tk g9)), .int (nI (ct g9)), .int (nI (no g9))]))]) (wr := []) S hA [0, 1, 2, 3] [] rfl rfl (by decide) (by decide) (va_runV (As := [.int (nI g9)]) (rest := []) ⟨hx, hb, C.2.2.1, C.2.2.2.1, C.2.2.2.2.1⟩ (g_Ne_paysOf l G k h0 _ g9 ca nfo ncd nsp nno nsm nbr nbs nbd un9 co9 fl9 fo ad tk ct no (by first | assumption | omega)) (k_virt (n := 1) C wc_Ne_paysOf rfl rfl wz_Ne wm_Ne_91 wn_Ne_paysOf ws_Ne_paysOf (by decide +kernel) ⟨(Nat.le_of_ble_eq_true rfl), (Nat.le_of_ble_eq_true rfl)⟩) (pr_nowV K S [0, 1, 2, 3] (by decide) rfl 0 rfl rfl) rfl rfl hl.1 rfl (lv_room (Nat.le_of_ble_eq_true rfl)) d_Ne_leavesOf_2 ⟨(Nat.le_of_ble_eq_true rfl), (Nat.le_of_ble_eq_true rfl)⟩) (fun r3 u1 H locs hw2 S => ?_)
  have S : Sw G A s.heap _ _ [(h0, .inr (7, [.ref ca, .ref nfo, .ref ncd, .ref nsp, .ref nno, .ref nsm, .ref nbr, .ref nbs, .ref nbd, .int (nI un9), .int (nI co9), .int (nI fl9)])), (nfo, .inl (k 0, 4, .inl (fun i => nI (fo i)))), (ca, .inl (k 3, 4, .inr (.inr (.inr (.inr (fun g => some (ad g 0))))))), ((ad g9 0), .inr (4, [.ref (ad g9 1), .ref (ad g9 2), .ref (ad g9 3), .ref (ad g9 4), .ref (ad g9 5), .ref (ad g9 6), .int (nI (tk g9)), .int (nI (ct g9)), .int (nI (no g9))]))] := S
  obtain ⟨hw20, hp4⟩ := hw2
  obtain rfl : r3 = nI (fo g9 + tk g9) := hw20
  refine lv_iconst (v := 2) hx hb d_Ne_leavesOf_5 (by decide) ?_
  refine z_iadd (x := nI (fo g9 + tk g9)) (y := 2) (v := nI (fo g9 + tk g9 + 2)) hx hb d_Ne_leavesOf_6 (nI_add (fo g9 + tk g9) 2) ?_
  exact r_iret C K rfl () ⟨rfl, trivial⟩ (S.sub [0, 1, 2, 3] (by decide) rfl) d_Ne_leavesOf_7 (Nat.le_of_ble_eq_true rfl) (Nat.le_of_ble_eq_true rfl)
theorem pcK_mono (o : Nat) : ∀ d v, pcK o v ≤ pcK o (v + d)
  | 0, v => Nat.le_refl _
  | d + 1, v => Nat.le_trans (pcK_mono o d v) (by rw [← Nat.add_assoc, pcK]; exact Nat.le_add_right _ _)
theorem i32_nn {n : Nat} (h : n < 2147483648) : (nI n).toInt = n := Int32.toInt_ofNat_of_lt (by omega)
theorem sr_nn {o v : Nat} (ho : o < 2147483648) (hv : v < 32) : nI o >>> (nI v &&& 31) = nI (o / 2 ^ v) := by
  apply Int32.toInt_inj.mp
  have hlt : o / 2 ^ v < 2147483648 := Nat.lt_of_le_of_lt (Nat.div_le_self _ _) ho
  rw [i32_nn hlt, ← Int32.toInt_toBitVec, Int32.toBitVec_shiftRight, BitVec.sshiftRight_eq', BitVec.toInt_sshiftRight, s_l9 v hv, Int32.toInt_toBitVec, i32_nn ho, Int.shiftRight_eq_div_pow]
  norm_cast
theorem bx_and (a b : Nat) : nI a &&& nI b = nI (a &&& b) := by
  apply Int32.toBitVec_inj.mp
  rw [Int32.toBitVec_and]
  apply BitVec.eq_of_toNat_eq
  show ((BitVec.ofNat 32 a) &&& (BitVec.ofNat 32 b)).toNat = (BitVec.ofNat 32 (a &&& b)).toNat
  rw [BitVec.toNat_and, BitVec.toNat_ofNat, BitVec.toNat_ofNat, BitVec.toNat_ofNat, Nat.and_mod_two_pow]
theorem bx_xor (a b : Nat) : nI a ^^^ nI b = nI (a ^^^ b) := by
  apply Int32.toBitVec_inj.mp
  rw [Int32.toBitVec_xor]
  apply BitVec.eq_of_toNat_eq
  show ((BitVec.ofNat 32 a) ^^^ (BitVec.ofNat 32 b)).toNat = (BitVec.ofNat 32 (a ^^^ b)).toNat
  rw [BitVec.toNat_xor, BitVec.toNat_ofNat, BitVec.toNat_ofNat, BitVec.toNat_ofNat, Nat.xor_mod_two_pow]
theorem s_u9 : ∀ n, n < 32 → (((nI n).toUInt32 &&& Int32.toUInt32 31).toBitVec % 32).toNat = n := by decide +kernel
theorem us_nn {a j : Nat} (ha : a < 4294967296) (hj : j < 32) : ((nI a).toUInt32 >>> ((nI j).toUInt32 &&& Int32.toUInt32 31)).toInt32 = nI (a / 2 ^ j) := by
  apply Int32.toBitVec_inj.mp
  show ((nI a).toUInt32 >>> ((nI j).toUInt32 &&& Int32.toUInt32 31)).toBitVec = _
  rw [UInt32.toBitVec_shiftRight]
  apply BitVec.eq_of_toNat_eq
  rw [BitVec.ushiftRight_eq', BitVec.toNat_ushiftRight, s_u9 j hj]
  show (BitVec.ofNat 32 a).toNat >>> j = (BitVec.ofNat 32 (a / 2 ^ j)).toNat
  have h2 : a / 2 ^ j ≤ a := Nat.div_le_self _ _
  rw [BitVec.toNat_ofNat, BitVec.toNat_ofNat, Nat.mod_eq_of_lt ha, Nat.mod_eq_of_lt (by omega), Nat.shiftRight_eq_div_pow]
theorem d_JI_bitCount_0 : decode c_JI_bitCount 0 = .ok (.iload_n 0, 1) := by decide +kernel
theorem d_JI_bitCount_1 : decode c_JI_bitCount 1 = .ok (.iload_n 0, 1) := by decide +kernel
theorem d_JI_bitCount_2 : decode c_JI_bitCount 2 = .ok (.iconst 1, 1) := by decide +kernel
theorem d_JI_bitCount_3 : decode c_JI_bitCount 3 = .ok (.iushr, 1) := by decide +kernel
theorem d_JI_bitCount_4 : decode c_JI_bitCount 4 = .ok (.ldc_w 265, 3) := by decide +kernel
theorem d_JI_bitCount_7 : decode c_JI_bitCount 7 = .ok (.iand, 1) := by decide +kernel
theorem d_JI_bitCount_8 : decode c_JI_bitCount 8 = .ok (.isub, 1) := by decide +kernel
theorem d_JI_bitCount_9 : decode c_JI_bitCount 9 = .ok (.istore_n 0, 1) := by decide +kernel
theorem d_JI_bitCount_10 : decode c_JI_bitCount 10 = .ok (.iload_n 0, 1) := by decide +kernel
theorem d_JI_bitCount_11 : decode c_JI_bitCount 11 = .ok (.ldc_w 266, 3) := by decide +kernel
theorem d_JI_bitCount_14 : decode c_JI_bitCount 14 = .ok (.iand, 1) := by decide +kernel
theorem d_JI_bitCount_15 : decode c_JI_bitCount 15 = .ok (.iload_n 0, 1) := by decide +kernel
theorem d_JI_bitCount_16 : decode c_JI_bitCount 16 = .ok (.iconst 2, 1) := by decide +kernel
theorem d_JI_bitCount_17 : decode c_JI_bitCount 17 = .ok (.iushr, 1) := by decide +kernel
theorem d_JI_bitCount_18 : decode c_JI_bitCount 18 = .ok (.ldc_w 266, 3) := by decide +kernel
theorem d_JI_bitCount_21 : decode c_JI_bitCount 21 = .ok (.iand, 1) := by decide +kernel
theorem d_JI_bitCount_22 : decode c_JI_bitCount 22 = .ok (.iadd, 1) := by decide +kernel
theorem d_JI_bitCount_23 : decode c_JI_bitCount 23 = .ok (.istore_n 0, 1) := by decide +kernel
theorem d_JI_bitCount_24 : decode c_JI_bitCount 24 = .ok (.iload_n 0, 1) := by decide +kernel
theorem d_JI_bitCount_25 : decode c_JI_bitCount 25 = .ok (.iload_n 0, 1) := by decide +kernel
theorem d_JI_bitCount_26 : decode c_JI_bitCount 26 = .ok (.iconst 4, 1) := by decide +kernel
theorem d_JI_bitCount_27 : decode c_JI_bitCount 27 = .ok (.iushr, 1) := by decide +kernel
theorem d_JI_bitCount_28 : decode c_JI_bitCount 28 = .ok (.iadd, 1) := by decide +kernel
theorem d_JI_bitCount_29 : decode c_JI_bitCount 29 = .ok (.ldc_w 267, 3) := by decide +kernel
theorem d_JI_bitCount_32 : decode c_JI_bitCount 32 = .ok (.iand, 1) := by decide +kernel
theorem d_JI_bitCount_33 : decode c_JI_bitCount 33 = .ok (.istore_n 0, 1) := by decide +kernel
theorem d_JI_bitCount_34 : decode c_JI_bitCount 34 = .ok (.iload_n 0, 1) := by decide +kernel
theorem d_JI_bitCount_35 : decode c_JI_bitCount 35 = .ok (.iload_n 0, 1) := by decide +kernel
theorem d_JI_bitCount_36 : decode c_JI_bitCount 36 = .ok (.bipush 8, 2) := by decide +kernel
theorem d_JI_bitCount_38 : decode c_JI_bitCount 38 = .ok (.iushr, 1) := by decide +kernel
theorem d_JI_bitCount_39 : decode c_JI_bitCount 39 = .ok (.iadd, 1) := by decide +kernel
theorem d_JI_bitCount_40 : decode c_JI_bitCount 40 = .ok (.istore_n 0, 1) := by decide +kernel
theorem d_JI_bitCount_41 : decode c_JI_bitCount 41 = .ok (.iload_n 0, 1) := by decide +kernel
theorem d_JI_bitCount_42 : decode c_JI_bitCount 42 = .ok (.iload_n 0, 1) := by decide +kernel
theorem d_JI_bitCount_43 : decode c_JI_bitCount 43 = .ok (.bipush 16, 2) := by decide +kernel
theorem d_JI_bitCount_45 : decode c_JI_bitCount 45 = .ok (.iushr, 1) := by decide +kernel
theorem d_JI_bitCount_46 : decode c_JI_bitCount 46 = .ok (.iadd, 1) := by decide +kernel
theorem d_JI_bitCount_47 : decode c_JI_bitCount 47 = .ok (.istore_n 0, 1) := by decide +kernel
theorem d_JI_bitCount_48 : decode c_JI_bitCount 48 = .ok (.iload_n 0, 1) := by decide +kernel
theorem d_JI_bitCount_49 : decode c_JI_bitCount 49 = .ok (.bipush 63, 2) := by decide +kernel
theorem d_JI_bitCount_51 : decode c_JI_bitCount 51 = .ok (.iand, 1) := by decide +kernel
theorem d_JI_bitCount_52 : decode c_JI_bitCount 52 = .ok (.ireturn, 1) := by decide +kernel
set_option maxRecDepth 100000 in
set_option maxHeartbeats 16000000 in
/-- Integer.bitCount -/
theorem g_JI_bitCount (l : Launch) (G : va_G) (k : Nat → ClassId) (s0 : Nat) (o9 : Nat) (ho : o9 < 262144) : CI l y_JI_bitCount c_JI_bitCount 1 .int { frames := 0, cells := 0, slots := 0, locals := 0 } [.int (nI o9)] G k s0 [] (fun (r : Int32) (u : Unit) => r = nI (pcK o9 18) ∧ True) (fun u => []) 0 0 := by
  refine met_start (by decide) (Nat.le_of_ble_eq_true rfl) ?_
  intro p e s m below meth c C K hA hsz S ls hl
  generalize va_A [] s0 = A at hA S ⊢
  have hx := C.1
  have hb := C.2.1
  have hl : lv_has ls 1 [(0, .int (nI o9))] := hl
  refine lv_iload_n hx hb d_JI_bitCount_0 rfl (lv_at hl 0 rfl) ?_
  refine lv_iload_n hx hb d_JI_bitCount_1 rfl (lv_at hl 0 rfl) ?_
  refine lv_iconst (v := 1) hx hb d_JI_bitCount_2 (by decide) ?_
  refine lv_iushr (v := nI (o9 / 2)) hx hb d_JI_bitCount_3 (us_nn (a := o9) (j := 1) (by omega) (by decide)) ?_
  refine lv_ldcw (v := 1431655765) hx hb C.2.2.2.1 (C.2.2.2.2.1 _ wk_JI_265) d_JI_bitCount_4 ?_
  refine z_iand (v := nI (o9 / 2 &&& 1431655765)) hx hb d_JI_bitCount_7 (bx_and (o9 / 2) 1431655765) ?_
  refine z_isub (x := nI o9) (y := nI (o9 / 2 &&& 1431655765)) (v := nI (o9 - (o9 / 2 &&& 1431655765))) hx hb d_JI_bitCount_8 (pk_sub (a := o9) (b := (o9 / 2 &&& 1431655765)) (Nat.le_trans Nat.and_le_left (Nat.div_le_self _ _))) ?_
  refine lv_istore_n (lv' := [(0, .int (nI (o9 - (o9 / 2 &&& 1431655765))))]) hx hb d_JI_bitCount_9 rfl hl (by decide) rfl (fun ls hl => ?_)
  obtain ⟨b7, hb7⟩ : ∃ x9, x9 = o9 - (o9 / 2 &&& 1431655765) := ⟨_, rfl⟩
  rw [← hb7] at hl
  have hl : lv_has ls 1 [(0, .int (nI b7))] := hl
  have kb : b7 ≤ o9 := by omega
  refine lv_iload_n hx hb d_JI_bitCount_10 rfl (lv_at hl 0 rfl) ?_
  refine lv_ldcw (v := 858993459) hx hb C.2.2.2.1 (C.2.2.2.2.1 _ wk_JI_266) d_JI_bitCount_11 ?_
  refine z_iand (v := nI (b7 &&& 858993459)) hx hb d_JI_bitCount_14 (bx_and b7 858993459) ?_
  refine lv_iload_n hx hb d_JI_bitCount_15 rfl (lv_at hl 0 rfl) ?_
  refine lv_iconst (v := 2) hx hb d_JI_bitCount_16 (by decide) ?_
  refine lv_iushr (v := nI (b7 / 4)) hx hb d_JI_bitCount_17 (us_nn (a := b7) (j := 2) (by omega) (by decide)) ?_
  refine lv_ldcw (v := 858993459) hx hb C.2.2.2.1 (C.2.2.2.2.1 _ wk_JI_266) d_JI_bitCount_18 ?_
  refine z_iand (v := nI (b7 / 4 &&& 858993459)) hx hb d_JI_bitCount_21 (bx_and (b7 / 4) 858993459) ?_
  refine z_iadd (x := nI (b7 &&& 858993459)) (y := nI (b7 / 4 &&& 858993459)) (v := nI ((b7 &&& 858993459) + (b7 / 4 &&& 858993459))) hx hb d_JI_bitCount_22 (nI_add (b7 &&& 858993459) (b7 / 4 &&& 858993459)) ?_
  refine lv_istore_n (lv' := [(0, .int (nI ((b7 &&& 858993459) + (b7 / 4 &&& 858993459))))]) hx hb d_JI_bitCount_23 rfl hl (by decide) rfl (fun ls hl => ?_)
  obtain ⟨c7, hc7⟩ : ∃ x9, x9 = (b7 &&& 858993459) + (b7 / 4 &&& 858993459) := ⟨_, rfl⟩
  rw [← hc7] at hl
  have hl : lv_has ls 1 [(0, .int (nI c7))] := hl
  have kc : c7 ≤ b7 + b7 / 4 := by rw [hc7]; exact Nat.add_le_add Nat.and_le_left Nat.and_le_left
  refine lv_iload_n hx hb d_JI_bitCount_24 rfl (lv_at hl 0 rfl) ?_
  refine lv_iload_n hx hb d_JI_bitCount_25 rfl (lv_at hl 0 rfl) ?_
  refine lv_iconst (v := 4) hx hb d_JI_bitCount_26 (by decide) ?_
  refine lv_iushr (v := nI (c7 / 16)) hx hb d_JI_bitCount_27 (us_nn (a := c7) (j := 4) (by omega) (by decide)) ?_
  refine z_iadd (x := nI c7) (y := nI (c7 / 16)) (v := nI (c7 + (c7 / 16))) hx hb d_JI_bitCount_28 (nI_add c7 (c7 / 16)) ?_
  refine lv_ldcw (v := 252645135) hx hb C.2.2.2.1 (C.2.2.2.2.1 _ wk_JI_267) d_JI_bitCount_29 ?_
  refine z_iand (v := nI (c7 + c7 / 16 &&& 252645135)) hx hb d_JI_bitCount_32 (bx_and (c7 + c7 / 16) 252645135) ?_
  refine lv_istore_n (lv' := [(0, .int (nI (c7 + c7 / 16 &&& 252645135)))]) hx hb d_JI_bitCount_33 rfl hl (by decide) rfl (fun ls hl => ?_)
  obtain ⟨d7, hd7⟩ : ∃ x9, x9 = (c7 + c7 / 16) &&& 252645135 := ⟨_, rfl⟩
  rw [← hd7] at hl
  have hl : lv_has ls 1 [(0, .int (nI d7))] := hl
  have kd : d7 ≤ c7 + c7 / 16 := by rw [hd7]; exact Nat.and_le_left
  refine lv_iload_n hx hb d_JI_bitCount_34 rfl (lv_at hl 0 rfl) ?_
  refine lv_iload_n hx hb d_JI_bitCount_35 rfl (lv_at hl 0 rfl) ?_
  refine lv_bipush (v := 8) hx hb d_JI_bitCount_36 (by decide) ?_
  refine lv_iushr (v := nI (d7 / 256)) hx hb d_JI_bitCount_38 (us_nn (a := d7) (j := 8) (by omega) (by decide)) ?_
  refine z_iadd (x := nI d7) (y := nI (d7 / 256)) (v := nI (d7 + (d7 / 256))) hx hb d_JI_bitCount_39 (nI_add d7 (d7 / 256)) ?_
  refine lv_istore_n (lv' := [(0, .int (nI (d7 + (d7 / 256))))]) hx hb d_JI_bitCount_40 rfl hl (by decide) rfl (fun ls hl => ?_)
  obtain ⟨e7, he7⟩ : ∃ x9, x9 = d7 + d7 / 256 := ⟨_, rfl⟩
  rw [← he7] at hl
  have hl : lv_has ls 1 [(0, .int (nI e7))] := hl
  refine lv_iload_n hx hb d_JI_bitCount_41 rfl (lv_at hl 0 rfl) ?_
  refine lv_iload_n hx hb d_JI_bitCount_42 rfl (lv_at hl 0 rfl) ?_
  refine lv_bipush (v := 16) hx hb d_JI_bitCount_43 (by decide) ?_
  refine lv_iushr (v := nI (e7 / 65536)) hx hb d_JI_bitCount_45 (us_nn (a := e7) (j := 16) (by omega) (by decide)) ?_
  refine z_iadd (x := nI e7) (y := nI (e7 / 65536)) (v := nI (e7 + (e7 / 65536))) hx hb d_JI_bitCount_46 (nI_add e7 (e7 / 65536)) ?_
  refine lv_istore_n (lv' := [(0, .int (nI (e7 + (e7 / 65536))))]) hx hb d_JI_bitCount_47 rfl hl (by decide) rfl (fun ls hl => ?_)
  obtain ⟨f7, hf7⟩ : ∃ x9, x9 = e7 + e7 / 65536 := ⟨_, rfl⟩
  rw [← hf7] at hl
  have hl : lv_has ls 1 [(0, .int (nI f7))] := hl
  refine lv_iload_n hx hb d_JI_bitCount_48 rfl (lv_at hl 0 rfl) ?_
  refine lv_bipush (v := 63) hx hb d_JI_bitCount_49 (by decide) ?_
  refine z_iand (v := nI (f7 &&& 63)) hx hb d_JI_bitCount_51 (bx_and f7 63) ?_
  exact r_iret C K rfl () ⟨(show nI (f7 &&& 63) = nI (pcK o9 18) by rw [← bc_eq ho, hf7, he7, hd7, hc7, hb7]; rfl), trivial⟩ (S.sub [] (by decide) rfl) d_JI_bitCount_52 (Nat.le_of_ble_eq_true rfl) (Nat.le_of_ble_eq_true rfl)
end
section
theorem z_ixor {p : Program} {l : Launch} {e : Env} {R : Room} {s : State} {m : MethodId} {args : Array Value} {below : List Frame} {meth : Method} {c : Code} {H : Heap} {locs : List Loc} {cells slots : Nat} {Q : State → Prop} {cc : ByteArray} {pc : Nat} {ls : Array Slot} {rest : List Value} (hx : p.tables.exec = Jvm.exec) (hb : c.code = cc) {x y v : Int32} (hd : decode cc pc = .ok (.ixor, 1)) (hv : x ^^^ y = v) (kk : W p l e R s m args below meth c H locs cells slots Q (F0 m (pc + 1) ls (.int v :: rest))) : W p l e R s m args below meth c H locs cells slots Q (F0 m pc ls (.int y :: .int x :: rest)) := by subst hv; exact lv_ixor hx hb hd kk
/-- the variables besides the one that is looked at -/
def otN (a b kn v : Nat) : Nat := ((a ||| b) &&& (1 * 2 ^ kn - 1)) &&& ((1 * 2 ^ v) ^^^ 4294967295)
theorem otN_lt {a b kn v : Nat} (h : kn ≤ 18) : otN a b kn v < 262144 := by
  unfold otN
  have h1 : ((a ||| b) &&& (1 * 2 ^ kn - 1)) &&& ((1 * 2 ^ v) ^^^ 4294967295) ≤ (a ||| b) &&& (1 * 2 ^ kn - 1) := Nat.and_le_left
  have h2 : (a ||| b) &&& (1 * 2 ^ kn - 1) ≤ 1 * 2 ^ kn - 1 := Nat.and_le_right
  have h3 : 2 ^ kn ≤ 2 ^ 18 := Nat.pow_le_pow_right (by decide) h
  have h4 : 0 < 2 ^ kn := Nat.pow_pos (by decide)
  have h5 : (2 : Nat) ^ 18 = 262144 := by decide
  omega
/-- unknowns, conditions and whether it is full, behind a more unknowns and b more conditions -/
def stpO (a b un co fl un2 co2 fl2 : Nat) : Prop := un2 ≤ 40 ∧ co2 ≤ 90 ∧ fl2 ≤ 1 ∧ (fl2 = 0 → fl = 0 ∧ un2 = un + a ∧ co2 = co + b) ∧ (fl = 0 → un + a ≤ 40 → co + b ≤ 90 → fl2 = 0)
theorem stp_0 {un co fl : Nat} (h1 : un ≤ 40) (h2 : co ≤ 90) (h3 : fl ≤ 1) : stpO 0 0 un co fl un co fl := ⟨h1, h2, h3, fun h => ⟨h, rfl, rfl⟩, fun h _ _ => h⟩
theorem stp_tr {a b a2 b2 un co fl un2 co2 fl2 un3 co3 fl3 : Nat} (h : stpO a b un co fl un2 co2 fl2) (g : stpO a2 b2 un2 co2 fl2 un3 co3 fl3) : stpO (a + a2) (b + b2) un co fl un3 co3 fl3 := by
  obtain ⟨h1, h2, h3, h4, h5⟩ := h
  obtain ⟨g1, g2, g3, g4, g5⟩ := g
  refine ⟨g1, g2, g3, fun q => ?_, fun q1 q2 q3 => ?_⟩
  · have k1 := g4 q
    have k2 := h4 k1.1
    exact ⟨k2.1, by omega, by omega⟩
  · have k1 := h5 q1 (by omega) (by omega)
    have k2 := h4 k1
    exact g5 k1 (by omega) (by omega)
theorem stp_al {un co fl : Nat} (h1 : un ≤ 40) (h2 : co ≤ 90) (h3 : fl ≤ 1) : stpO 0 1 un co fl un (caN co) (flN co fl) := by
  unfold stpO caN flN
  by_cases q : co < 90
  · rw [if_pos q, if_pos q]; omega
  · rw [if_neg q, if_neg q]; omega
theorem stp_eq {a b a2 b2 un co fl un2 co2 fl2 : Nat} (h : stpO a b un co fl un2 co2 fl2) (e1 : a = a2) (e2 : b = b2) : stpO a2 b2 un co fl un2 co2 fl2 := by subst e1; subst e2; exact h
theorem d_Bo_others_0 : decode c_Bo_others 0 = .ok (.aload_n 0, 1) := by decide +kernel
theorem d_Bo_others_1 : decode c_Bo_others 1 = .ok (.getfield 27, 3) := by decide +kernel
theorem d_Bo_others_4 : decode c_Bo_others 4 = .ok (.aload_n 0, 1) := by decide +kernel
theorem d_Bo_others_5 : decode c_Bo_others 5 = .ok (.getfield 18, 3) := by decide +kernel
theorem d_Bo_others_8 : decode c_Bo_others 8 = .ok (.iload_n 1, 1) := by decide +kernel
theorem d_Bo_others_9 : decode c_Bo_others 9 = .ok (.iaload, 1) := by decide +kernel
theorem d_Bo_others_10 : decode c_Bo_others 10 = .ok (.iaload, 1) := by decide +kernel
theorem d_Bo_others_11 : decode c_Bo_others 11 = .ok (.aload_n 0, 1) := by decide +kernel
theorem d_Bo_others_12 : decode c_Bo_others 12 = .ok (.getfield 27, 3) := by decide +kernel
theorem d_Bo_others_15 : decode c_Bo_others 15 = .ok (.aload_n 0, 1) := by decide +kernel
theorem d_Bo_others_16 : decode c_Bo_others 16 = .ok (.getfield 21, 3) := by decide +kernel
theorem d_Bo_others_19 : decode c_Bo_others 19 = .ok (.iload_n 1, 1) := by decide +kernel
theorem d_Bo_others_20 : decode c_Bo_others 20 = .ok (.iaload, 1) := by decide +kernel
theorem d_Bo_others_21 : decode c_Bo_others 21 = .ok (.iaload, 1) := by decide +kernel
theorem d_Bo_others_22 : decode c_Bo_others 22 = .ok (.ior, 1) := by decide +kernel
theorem d_Bo_others_23 : decode c_Bo_others 23 = .ok (.istore_n 2, 1) := by decide +kernel
theorem d_Bo_others_24 : decode c_Bo_others 24 = .ok (.iload_n 2, 1) := by decide +kernel
theorem d_Bo_others_25 : decode c_Bo_others 25 = .ok (.iconst 1, 1) := by decide +kernel
theorem d_Bo_others_26 : decode c_Bo_others 26 = .ok (.aload_n 0, 1) := by decide +kernel
theorem d_Bo_others_27 : decode c_Bo_others 27 = .ok (.getfield 24, 3) := by decide +kernel
theorem d_Bo_others_30 : decode c_Bo_others 30 = .ok (.iload_n 1, 1) := by decide +kernel
theorem d_Bo_others_31 : decode c_Bo_others 31 = .ok (.iaload, 1) := by decide +kernel
theorem d_Bo_others_32 : decode c_Bo_others 32 = .ok (.ishl, 1) := by decide +kernel
theorem d_Bo_others_33 : decode c_Bo_others 33 = .ok (.iconst 1, 1) := by decide +kernel
theorem d_Bo_others_34 : decode c_Bo_others 34 = .ok (.isub, 1) := by decide +kernel
theorem d_Bo_others_35 : decode c_Bo_others 35 = .ok (.iand, 1) := by decide +kernel
theorem d_Bo_others_36 : decode c_Bo_others 36 = .ok (.iconst 1, 1) := by decide +kernel
theorem d_Bo_others_37 : decode c_Bo_others 37 = .ok (.aload_n 0, 1) := by decide +kernel
theorem d_Bo_others_38 : decode c_Bo_others 38 = .ok (.iload_n 1, 1) := by decide +kernel
theorem d_Bo_others_39 : decode c_Bo_others 39 = .ok (.invokevirtual 34, 3) := by decide +kernel
theorem d_Bo_others_42 : decode c_Bo_others 42 = .ok (.ishl, 1) := by decide +kernel
theorem d_Bo_others_43 : decode c_Bo_others 43 = .ok (.iconst (-1), 1) := by decide +kernel
theorem d_Bo_others_44 : decode c_Bo_others 44 = .ok (.ixor, 1) := by decide +kernel
theorem d_Bo_others_45 : decode c_Bo_others 45 = .ok (.iand, 1) := by decide +kernel
theorem d_Bo_others_46 : decode c_Bo_others 46 = .ok (.ireturn, 1) := by decide +kernel
set_option maxRecDepth 100000 in
set_option maxHeartbeats 16000000 in
/-- others -/
theorem g_Bo_others (l : Launch) (G : va_G) (k : Nat → ClassId) (h0 : Nat) (s0 : Nat) (x9 : Nat) (p9 : Nat) (kn : Nat) (v9 : Nat) (bw : Nat) (bst : Nat) (bfi : Nat) (bse : Nat) (bkn : Nat) (bnm : Nat) (tk9 : Nat) (sz9 : Nat) (nd9 : Nat) (wd : Nat → Int32) (sta : Nat → Nat) (fir : Nat → Nat) (sec : Nat → Nat) (kno : Nat → Nat) (nam : Nat → Nat) (hxx : x9 < 40) (hf4 : fir x9 < 40) (hs4 : sec x9 < 40) (hp0 : sta x9 = p9) (hpb : p9 + 1 < 200) (hv : wd (p9 + 1) = nI v9) (hv2 : v9 < 18) (hk3 : kno x9 = kn) (hkn : kn ≤ 18) : CI l y_Bo_others c_Bo_others 3 .int { frames := 1, cells := 0, slots := 0, locals := 21 } [.ref h0, .int (nI x9)] G k s0 [(h0, .inr (4, [.ref bw, .ref bst, .ref bfi, .ref bse, .ref bkn, .ref bnm, .int (nI tk9), .int (nI sz9), .int (nI nd9)])), (bw, .inl (k 0, 200, .inl wd)), (bst, .inl (k 0, 40, .inl (fun i => nI (sta i)))), (bfi, .inl (k 0, 40, .inl (fun i => nI (fir i)))), (bse, .inl (k 0, 40, .inl (fun i => nI (sec i)))), (bkn, .inl (k 0, 40, .inl (fun i => nI (kno i)))), (bnm, .inl (k 0, 40, .inl (fun i => nI (nam i))))] (fun (r : Int32) (u : Unit) => r = nI (otN (nam (fir x9)) (nam (sec x9)) kn v9) ∧ True) (fun u => [(h0, .inr (4, [.ref bw, .ref bst, .ref bfi, .ref bse, .ref bkn, .ref bnm, .int (nI tk9), .int (nI sz9), .int (nI nd9)])), (bw, .inl (k 0, 200, .inl wd)), (bst, .inl (k 0, 40, .inl (fun i => nI (sta i)))), (bfi, .inl (k 0, 40, .inl (fun i => nI (fir i)))), (bse, .inl (k 0, 40, .inl (fun i => nI (sec i)))), (bkn, .inl (k 0, 40, .inl (fun i => nI (kno i)))), (bnm, .inl (k 0, 40, .inl (fun i => nI (nam i))))]) 0 0 := by
  refine met_start (by decide) (Nat.le_of_ble_eq_true rfl) ?_
  intro p e s m below meth c C K hA hsz S ls hl
  generalize va_A [(h0, .inr (4, [.ref bw, .ref bst, .ref bfi, .ref bse, .ref bkn, .ref bnm, .int (nI tk9), .int (nI sz9), .int (nI nd9)])), (bw, .inl (k 0, 200, .inl wd)), (bst, .inl (k 0, 40, .inl (fun i => nI (sta i)))), (bfi, .inl (k 0, 40, .inl (fun i => nI (fir i)))), (bse, .inl (k 0, 40, .inl (fun i => nI (sec i)))), (bkn, .inl (k 0, 40, .inl (fun i => nI (kno i)))), (bnm, .inl (k 0, 40, .inl (fun i => nI (nam i))))] s0 = A at hA S ⊢
  have hx := C.1
  have hb := C.2.1
  have hl : lv_has ls 3 [(0, .ref h0), (1, .int (nI x9))] := hl
  refine lv_aload_n hx hb d_Bo_others_0 rfl (lv_at hl 0 rfl) ?_
  refine r_get C K S 0 rfl rfl clOk_Bo 5 (by decide) wf_Bo_27 (v := .ref bnm) rfl d_Bo_others_1 ?_
  refine lv_aload_n hx hb d_Bo_others_4 rfl (lv_at hl 0 rfl) ?_
  refine r_get C K S 0 rfl rfl clOk_Bo 2 (by decide) wf_Bo_18 (v := .ref bfi) rfl d_Bo_others_5 ?_
  refine lv_iload_n hx hb d_Bo_others_8 rfl (lv_at hl 1 rfl) ?_
  refine r_iald C K S 3 rfl (i := nI x9) (show vp_in (nI x9) _ from vp_in_nI (n := x9) (by omega) (by decide)) (v := nI (fir x9)) (by rw [nI_clamp (by omega)]) d_Bo_others_9 ?_
  refine r_iald C K S 6 rfl (i := nI (fir x9)) (show vp_in (nI (fir x9)) _ from vp_in_nI (n := (fir x9)) (by omega) (by decide)) (v := nI (nam (fir x9))) (by rw [nI_clamp (by omega)]) d_Bo_others_10 ?_
  refine lv_aload_n hx hb d_Bo_others_11 rfl (lv_at hl 0 rfl) ?_
  refine r_get C K S 0 rfl rfl clOk_Bo 5 (by decide) wf_Bo_27 (v := .ref bnm) rfl d_Bo_others_12 ?_
  refine lv_aload_n hx hb d_Bo_others_15 rfl (lv_at hl 0 rfl) ?_
  refine r_get C K S 0 rfl rfl clOk_Bo 3 (by decide) wf_Bo_21 (v := .ref bse) rfl d_Bo_others_16 ?_
  refine lv_iload_n hx hb d_Bo_others_19 rfl (lv_at hl 1 rfl) ?_
  refine r_iald C K S 4 rfl (i := nI x9) (show vp_in (nI x9) _ from vp_in_nI (n := x9) (by omega) (by decide)) (v := nI (sec x9)) (by rw [nI_clamp (by omega)]) d_Bo_others_20 ?_
  refine r_iald C K S 6 rfl (i := nI (sec x9)) (show vp_in (nI (sec x9)) _ from vp_in_nI (n := (sec x9)) (by omega) (by decide)) (v := nI (nam (sec x9))) (by rw [nI_clamp (by omega)]) d_Bo_others_21 ?_
  refine z_ior (v := nI ((nam (fir x9)) ||| (nam (sec x9)))) hx hb d_Bo_others_22 (nx_or _ _) ?_
  refine lv_istore_n (lv' := [(2, .int (nI ((nam (fir x9)) ||| (nam (sec x9))))), (0, .ref h0), (1, .int (nI x9))]) hx hb d_Bo_others_23 rfl hl (by decide) rfl (fun ls hl => ?_)
  refine lv_iload_n hx hb d_Bo_others_24 rfl (lv_at hl 0 rfl) ?_
  refine lv_iconst (v := 1) hx hb d_Bo_others_25 (by decide) ?_
  refine lv_aload_n hx hb d_Bo_others_26 rfl (lv_at hl 1 rfl) ?_
  refine r_get C K S 0 rfl rfl clOk_Bo 4 (by decide) wf_Bo_24 (v := .ref bkn) rfl d_Bo_others_27 ?_
  refine lv_iload_n hx hb d_Bo_others_30 rfl (lv_at hl 2 rfl) ?_
  refine r_iald C K S 5 rfl (i := nI x9) (show vp_in (nI x9) _ from vp_in_nI (n := x9) (by omega) (by decide)) (v := nI (kno x9)) (by rw [nI_clamp (by omega)]) d_Bo_others_31 ?_
  rw [hk3]
  refine z_ishl (v := nI (1 * 2 ^ kn)) hx hb d_Bo_others_32 (show (1 : Int32) <<< (nI kn &&& 31) = nI (1 * 2 ^ kn) from pk_shlN (n := 1) _ kn (s_l9 kn (by omega)) (by have : 2 ^ kn ≤ 2 ^ 20 := Nat.pow_le_pow_right (by decide) (by omega); omega)) ?_
  refine lv_iconst (v := 1) hx hb d_Bo_others_33 (by decide) ?_
  refine z_isub (x := nI (1 * 2 ^ kn)) (y := 1) (v := nI (1 * 2 ^ kn - 1)) hx hb d_Bo_others_34 (pk_sub (a := (1 * 2 ^ kn)) (b := 1) (by have : 0 < 2 ^ kn := Nat.pow_pos (by decide); omega)) ?_
  refine z_iand (v := nI (((nam (fir x9)) ||| (nam (sec x9))) &&& (1 * 2 ^ kn - 1))) hx hb d_Bo_others_35 (bx_and _ _) ?_
  refine lv_iconst (v := 1) hx hb d_Bo_others_36 (by decide) ?_
  refine lv_aload_n hx hb d_Bo_others_37 rfl (lv_at hl 1 rfl) ?_
  refine lv_iload_n hx hb d_Bo_others_38 rfl (lv_at hl 2 rfl) ?_
  refine r_backi (wi := [(h0, .inr (4, [.ref bw, .ref bst, .ref bfi, .ref bse, .ref bkn, .ref bnm, .int (nI tk9), .int (nI sz9), .int (nI nd9)])), (bw, .inl (k 0, 200, .inl wd)), (bst, .inl (k 0, 40, .inl (fun i => nI (sta i))))]) (wr := [(bfi, .inl (k 0, 40, .inl (fun i => nI (fir i)))), (bse, .inl (k 0, 40, .inl (fun i => nI (sec i)))), (bkn, .inl (k 0, 40, .inl (fun i => nI (kno i)))), (bnm, .inl (k 0, 40, .inl (fun i => nI (nam i))))]) S hA [0, 1, 2] [3, 4, 5, 6] rfl rfl (by decide) (by decide) (va_runV (As := [.int (nI x9)]) (rest := [.int 1, .int (nI (((nam (fir x9)) ||| (nam (sec x9))) &&& (1 * 2 ^ kn - 1)))]) ⟨hx, hb, C.2.2.1, C.2.2.2.1, C.2.2.2.2.1⟩ (g_Bo_operand l G k h0 _ x9 bw bst bfi bse bkn bnm tk9 sz9 nd9 wd sta hxx (by rw [hp0]; exact hpb)) (k_virt (n := 1) C wc_Bo_operand rfl rfl wz_Bo wm_Bo_34 wn_Bo_operand ws_Bo_operand (by decide +kernel) ⟨(Nat.le_of_ble_eq_true rfl), (Nat.le_of_ble_eq_true rfl)⟩) (pr_nowV K S [0, 1, 2] (by decide) rfl 0 rfl rfl) rfl rfl hl.1 rfl (lv_room (Nat.le_of_ble_eq_true rfl)) d_Bo_others_39 ⟨(Nat.le_of_ble_eq_true rfl), (Nat.le_of_ble_eq_true rfl)⟩) (fun r3 u1 H locs hw2 S => ?_)
  have S : Sw G A s.heap _ _ [(bfi, .inl (k 0, 40, .inl (fun i => nI (fir i)))), (bse, .inl (k 0, 40, .inl (fun i => nI (sec i)))), (bkn, .inl (k 0, 40, .inl (fun i => nI (kno i)))), (bnm, .inl (k 0, 40, .inl (fun i => nI (nam i)))), (h0, .inr (4, [.ref bw, .ref bst, .ref bfi, .ref bse, .ref bkn, .ref bnm, .int (nI tk9), .int (nI sz9), .int (nI nd9)])), (bw, .inl (k 0, 200, .inl wd)), (bst, .inl (k 0, 40, .inl (fun i => nI (sta i))))] := S
  obtain ⟨hw20, hp4⟩ := hw2
  obtain rfl : r3 = wd (sta x9 + 1) := hw20
  rw [hp0, hv]
  refine z_ishl (v := nI (1 * 2 ^ v9)) hx hb d_Bo_others_42 (show (1 : Int32) <<< (nI v9 &&& 31) = nI (1 * 2 ^ v9) from pk_shlN (n := 1) _ v9 (s_l9 v9 (by omega)) (by have : 2 ^ v9 ≤ 2 ^ 20 := Nat.pow_le_pow_right (by decide) (by omega); omega)) ?_
  refine lv_iconst (v := (-1)) hx hb d_Bo_others_43 (by decide) ?_
  refine z_ixor (v := nI ((1 * 2 ^ v9) ^^^ 4294967295)) hx hb d_Bo_others_44 (show nI (1 * 2 ^ v9) ^^^ (-1) = nI ((1 * 2 ^ v9) ^^^ 4294967295) by rw [show (-1 : Int32) = nI 4294967295 from by decide]; exact bx_xor _ _) ?_
  refine z_iand (v := nI ((((nam (fir x9)) ||| (nam (sec x9))) &&& (1 * 2 ^ kn - 1)) &&& ((1 * 2 ^ v9) ^^^ 4294967295))) hx hb d_Bo_others_45 (bx_and _ _) ?_
  exact r_iret C K rfl () ⟨rfl, trivial⟩ (S.sub [4, 5, 6, 0, 1, 2, 3] (by decide) rfl) d_Bo_others_46 (Nat.le_of_ble_eq_true rfl) (Nat.le_of_ble_eq_true rfl)
theorem d_Ne_coverOthers_0 : decode c_Ne_coverOthers 0 = .ok (.iload_n 2, 1) := by decide +kernel
theorem d_Ne_coverOthers_1 : decode c_Ne_coverOthers 1 = .ok (.istore 4, 2) := by decide +kernel
theorem d_Ne_coverOthers_3 : decode c_Ne_coverOthers 3 = .ok (.iconst 0, 1) := by decide +kernel
theorem d_Ne_coverOthers_4 : decode c_Ne_coverOthers 4 = .ok (.istore 5, 2) := by decide +kernel
theorem d_Ne_coverOthers_6 : decode c_Ne_coverOthers 6 = .ok (.iload 5, 2) := by decide +kernel
theorem d_Ne_coverOthers_8 : decode c_Ne_coverOthers 8 = .ok (.bipush 18, 2) := by decide +kernel
theorem d_Ne_coverOthers_10 : decode c_Ne_coverOthers 10 = .ok (.if_icmp .ge 36, 3) := by decide +kernel
theorem d_Ne_coverOthers_13 : decode c_Ne_coverOthers 13 = .ok (.iload_n 1, 1) := by decide +kernel
theorem d_Ne_coverOthers_14 : decode c_Ne_coverOthers 14 = .ok (.iload 5, 2) := by decide +kernel
theorem d_Ne_coverOthers_16 : decode c_Ne_coverOthers 16 = .ok (.ishr, 1) := by decide +kernel
theorem d_Ne_coverOthers_17 : decode c_Ne_coverOthers 17 = .ok (.iconst 1, 1) := by decide +kernel
theorem d_Ne_coverOthers_18 : decode c_Ne_coverOthers 18 = .ok (.iand, 1) := by decide +kernel
theorem d_Ne_coverOthers_19 : decode c_Ne_coverOthers 19 = .ok (.iconst 1, 1) := by decide +kernel
theorem d_Ne_coverOthers_20 : decode c_Ne_coverOthers 20 = .ok (.if_icmp .ne 20, 3) := by decide +kernel
theorem d_Ne_coverOthers_23 : decode c_Ne_coverOthers 23 = .ok (.aload_n 0, 1) := by decide +kernel
theorem d_Ne_coverOthers_24 : decode c_Ne_coverOthers 24 = .ok (.iload 4, 2) := by decide +kernel
theorem d_Ne_coverOthers_26 : decode c_Ne_coverOthers 26 = .ok (.aload_n 0, 1) := by decide +kernel
theorem d_Ne_coverOthers_27 : decode c_Ne_coverOthers 27 = .ok (.iload_n 3, 1) := by decide +kernel
theorem d_Ne_coverOthers_28 : decode c_Ne_coverOthers 28 = .ok (.iload 5, 2) := by decide +kernel
theorem d_Ne_coverOthers_30 : decode c_Ne_coverOthers 30 = .ok (.invokevirtual 83, 3) := by decide +kernel
theorem d_Ne_coverOthers_33 : decode c_Ne_coverOthers 33 = .ok (.invokevirtual 87, 3) := by decide +kernel
theorem d_Ne_coverOthers_36 : decode c_Ne_coverOthers 36 = .ok (.pop, 1) := by decide +kernel
theorem d_Ne_coverOthers_37 : decode c_Ne_coverOthers 37 = .ok (.iinc 4 1, 3) := by decide +kernel
theorem d_Ne_coverOthers_40 : decode c_Ne_coverOthers 40 = .ok (.iinc 5 1, 3) := by decide +kernel
theorem d_Ne_coverOthers_43 : decode c_Ne_coverOthers 43 = .ok (.goto (-37), 3) := by decide +kernel
theorem d_Ne_coverOthers_46 : decode c_Ne_coverOthers 46 = .ok (.return_, 1) := by decide +kernel
set_option maxRecDepth 100000 in
set_option maxHeartbeats 16000000 in
/-- coverOthers -/
theorem g_Ne_coverOthers (l : Launch) (G : va_G) (k : Nat → ClassId) (h0 : Nat) (s0 : Nat) (o9 : Nat) (m9 : Nat) (lv9 : Nat) (ca : Nat) (nfo : Nat) (ncd : Nat) (nsp : Nat) (nno : Nat) (nsm : Nat) (nbr : Nat) (nbs : Nat) (nbd : Nat) (un9 : Nat) (co9 : Nat) (fl9 : Nat) (sm : Nat → Nat) (cd : Nat → Nat) (br : Nat → Nat) (bs : Nat → Nat) (LP : List Nat) (F : Nat → Nat → Int32) (hLP : lpO LP sm cd br bs nsp nno) (ho : o9 < 262144) (hmo : m9 + pcK o9 18 ≤ 40) (hlv : lv9 ≤ 16) (hun : un9 ≤ 40) (hco : co9 ≤ 90) (hfl : fl9 ≤ 1) : CV l y_Ne_coverOthers c_Ne_coverOthers 6 { frames := 1, cells := 0, slots := 0, locals := 24 } [.ref h0, .int (nI o9), .int (nI m9), .int (nI lv9)] G k s0 ([(h0, .inr (7, [.ref ca, .ref nfo, .ref ncd, .ref nsp, .ref nno, .ref nsm, .ref nbr, .ref nbs, .ref nbd, .int (nI un9), .int (nI co9), .int (nI fl9)])), (ncd, .inl (k 5, 90, .inr (.inr (.inr (.inr (fun j => some (cd j))))))), (nsm, .inl (k 5, 306, .inr (.inr (.inr (.inr (fun j => some (sm j)))))))] ++ va_pl LP (rwp k 41 F)) (fun (u : (Nat → Nat → Int32) × Nat × Nat) => stpO 0 (pcK o9 18) un9 co9 fl9 un9 u.2.1 u.2.2) (fun u => ([(h0, .inr (7, [.ref ca, .ref nfo, .ref ncd, .ref nsp, .ref nno, .ref nsm, .ref nbr, .ref nbs, .ref nbd, .int (nI un9), .int (nI u.2.1), .int (nI u.2.2)])), (ncd, .inl (k 5, 90, .inr (.inr (.inr (.inr (fun j => some (cd j))))))), (nsm, .inl (k 5, 306, .inr (.inr (.inr (.inr (fun j => some (sm j)))))))] ++ va_pl LP (rwp k 41 u.1))) 0 0 := by
  refine met_start (by decide) (Nat.le_of_ble_eq_true rfl) ?_
  intro p e s m below meth c C K hA hsz S ls hl
  generalize va_A ([(h0, .inr (7, [.ref ca, .ref nfo, .ref ncd, .ref nsp, .ref nno, .ref nsm, .ref nbr, .ref nbs, .ref nbd, .int (nI un9), .int (nI co9), .int (nI fl9)])), (ncd, .inl (k 5, 90, .inr (.inr (.inr (.inr (fun j => some (cd j))))))), (nsm, .inl (k 5, 306, .inr (.inr (.inr (.inr (fun j => some (sm j)))))))] ++ va_pl LP (rwp k 41 F)) s0 = A at hA S ⊢
  have hx := C.1
  have hb := C.2.1
  have hl : lv_has ls 6 [(0, .ref h0), (1, .int (nI o9)), (2, .int (nI m9)), (3, .int (nI lv9))] := hl
  refine lv_iload_n hx hb d_Ne_coverOthers_0 rfl (lv_at hl 2 rfl) ?_
  refine lv_istore (lv' := [(4, .int (nI m9)), (0, .ref h0), (1, .int (nI o9)), (2, .int (nI m9)), (3, .int (nI lv9))]) hx hb d_Ne_coverOthers_1 hl (by decide) rfl (fun ls hl => ?_)
  refine lv_iconst (v := 0) hx hb d_Ne_coverOthers_3 (by decide) ?_
  refine lv_istore (lv' := [(5, .int 0), (4, .int (nI m9)), (0, .ref h0), (1, .int (nI o9)), (2, .int (nI m9)), (3, .int (nI lv9))]) hx hb d_Ne_coverOthers_4 hl (by decide) rfl (fun ls hl => ?_)
  have lp : ∀ d9, ∀ (i9 : Nat), ∀ (m8 : Nat), ∀ (F8 : Nat → Nat → Int32), ∀ (co8 : Nat), ∀ (fl8 : Nat), (18 - i9) < d9 → (i9 ≤ 18) → (m8 = m9 + pcK o9 i9) → (stpO 0 (pcK o9 i9) un9 co9 fl9 un9 co8 fl8) → ∀ (H : Heap) (locs : List Loc), Sw G A s.heap H locs ([(h0, .inr (7, [.ref ca, .ref nfo, .ref ncd, .ref nsp, .ref nno, .ref nsm, .ref nbr, .ref nbs, .ref nbd, .int (nI un9), .int (nI co8), .int (nI fl8)])), (ncd, .inl (k 5, 90, .inr (.inr (.inr (.inr (fun j => some (cd j))))))), (nsm, .inl (k 5, 306, .inr (.inr (.inr (.inr (fun j => some (sm j)))))))] ++ va_pl LP (rwp k 41 F8)) → ∀ ls : Array Slot, lv_has ls 6 [(5, .int (nI i9)), (4, .int (nI m8)), (0, .ref h0), (1, .int (nI o9)), (2, .int (nI m9)), (3, .int (nI lv9))] → W p l e { frames := 1, cells := 0, slots := 0, locals := 24 } s m [Value.ref h0, Value.int (nI o9), Value.int (nI m9), Value.int (nI lv9)].toArray below meth c H locs 0 0 (MQ below (va_Qv (fun (u : (Nat → Nat → Int32) × Nat × Nat) => stpO 0 (pcK o9 18) un9 co9 fl9 un9 u.2.1 u.2.2) (Po G k A (fun u => ([(h0, .inr (7, [.ref ca, .ref nfo, .ref ncd, .ref nsp, .ref nno, .ref nsm, .ref nbr, .ref nbs, .ref nbd, .int (nI un9), .int (nI u.2.1), .int (nI u.2.2)])), (ncd, .inl (k 5, 90, .inr (.inr (.inr (.inr (fun j => some (cd j))))))), (nsm, .inl (k 5, 306, .inr (.inr (.inr (.inr (fun j => some (sm j)))))))] ++ va_pl LP (rwp k 41 u.1)))) A) [Value.ref h0, Value.int (nI o9), Value.int (nI m9), Value.int (nI lv9)].toArray s 0 0 A) (F0 m 6 ls []) := by
    intro d9
    induction d9 with
    | zero => intro i9 m8 F8 co8 fl8 hm; exact absurd hm (Nat.not_lt_zero _)
    | succ d9 ih_lp =>
      intro i9 m8 F8 co8 fl8 hm hi hm8 hst H locs S ls hl
      refine lv_iload hx hb d_Ne_coverOthers_6 (lv_at hl 0 rfl) ?_
      refine lv_bipush (v := 18) hx hb d_Ne_coverOthers_8 (by decide) ?_
      refine z_icmp_ge (a := i9) (b := 18) (tgt := 46) hx hb d_Ne_coverOthers_10 (by decide) (by omega) (by omega) (fun hc1 => ?_) (fun hc1 => ?_)
      · exact r_vret C K (F8, co8, fl8) (by have e9 : i9 = 18 := (by omega); rw [e9] at hst; exact hst) (S.subP [0, 1, 2] (by decide) rfl) d_Ne_coverOthers_46 (Nat.le_of_ble_eq_true rfl) (Nat.le_of_ble_eq_true rfl)
      · refine lv_iload_n hx hb d_Ne_coverOthers_13 rfl (lv_at hl 3 rfl) ?_
        refine lv_iload hx hb d_Ne_coverOthers_14 (lv_at hl 0 rfl) ?_
        refine z_ishr (v := nI (o9 / 2 ^ i9)) hx hb d_Ne_coverOthers_16 (sr_nn (by omega) (by omega)) ?_
        refine lv_iconst (v := 1) hx hb d_Ne_coverOthers_17 (by decide) ?_
        refine z_iand (v := nI (o9 / 2 ^ i9 % 2)) hx hb d_Ne_coverOthers_18 (show nI (o9 / 2 ^ i9) &&& 1 = nI (o9 / 2 ^ i9 % 2) from (bx_and _ 1).trans (congrArg nI (Nat.and_one_is_mod _))) ?_
        refine lv_iconst (v := 1) hx hb d_Ne_coverOthers_19 (by decide) ?_
        refine z_icmp_ne (a := (o9 / 2 ^ i9 % 2)) (b := 1) (tgt := 40) hx hb d_Ne_coverOthers_20 (by decide) (by omega) (by omega) (fun hc2 => ?_) (fun hc2 => ?_)
        · refine lv_iinc (v := nI (i9 + 1)) (lv' := [(5, .int (nI (i9 + 1))), (4, .int (nI m8)), (0, .ref h0), (1, .int (nI o9)), (2, .int (nI m9)), (3, .int (nI lv9))]) hx hb d_Ne_coverOthers_40 hl (k := 0) rfl (show nI i9 + Int32.ofInt 1 = nI (i9 + 1) from (nI_add i9 1).trans (congrArg nI (by omega))) (by decide) rfl (fun ls hl => ?_)
          refine lv_goto (tgt := 6) hx hb d_Ne_coverOthers_43 (by decide) ?_
          exact ih_lp (i9 + 1) m8 F8 co8 fl8 (by omega) (by omega) (by rw [pcK]; omega) (stp_eq hst rfl (by rw [pcK]; omega)) _ _ (S.subP [0, 1, 2] (by decide) rfl) ls (lv_sub hl [0, 1, 2, 3, 4, 5] rfl)
        · have hmx : m8 + 1 ≤ 40 := by have := pcK_mono o9 (18 - (i9 + 1)) (i9 + 1); rw [show i9 + 1 + (18 - (i9 + 1)) = 18 by omega, pcK] at this; omega
          refine lv_aload_n hx hb d_Ne_coverOthers_23 rfl (lv_at hl 2 rfl) ?_
          refine lv_iload hx hb d_Ne_coverOthers_24 (lv_at hl 1 rfl) ?_
          refine lv_aload_n hx hb d_Ne_coverOthers_26 rfl (lv_at hl 2 rfl) ?_
          refine lv_iload_n hx hb d_Ne_coverOthers_27 rfl (lv_at hl 5 rfl) ?_
          refine lv_iload hx hb d_Ne_coverOthers_28 (lv_at hl 0 rfl) ?_
          refine r_backrQ (wi := [(h0, .inr (7, [.ref ca, .ref nfo, .ref ncd, .ref nsp, .ref nno, .ref nsm, .ref nbr, .ref nbs, .ref nbd, .int (nI un9), .int (nI co8), .int (nI fl8)])), (nsm, .inl (k 5, 306, .inr (.inr (.inr (.inr (fun j => some (sm j)))))))]) (wr := [(ncd, .inl (k 5, 90, .inr (.inr (.inr (.inr (fun j => some (cd j)))))))]) S hA [0, 2] [1] rfl rfl (by decide) (by decide) (va_runV (As := [.int (nI lv9), .int (nI i9)]) (rest := [.int (nI m8), .ref h0]) ⟨hx, hb, C.2.2.1, C.2.2.2.1, C.2.2.2.2.1⟩ (g_Ne_sum l G k h0 _ lv9 i9 ca nfo ncd nsp nno nsm nbr nbs nbd un9 co8 fl8 sm (by first | assumption | omega)) (k_virt (n := 2) C wc_Ne_sum rfl rfl wz_Ne wm_Ne_83 wn_Ne_sum ws_Ne_sum (by decide +kernel) ⟨(Nat.le_of_ble_eq_true rfl), (Nat.le_of_ble_eq_true rfl)⟩) (pr_nowV K S [0, 2] (by decide) (ap_in rfl) 0 rfl rfl) rfl rfl hl.1 rfl (lv_room (Nat.le_of_ble_eq_true rfl)) d_Ne_coverOthers_30 ⟨(Nat.le_of_ble_eq_true rfl), (Nat.le_of_ble_eq_true rfl)⟩) (fun u3 H locs hw4 S => ?_)
          have S : Sw G A s.heap _ _ ([(ncd, .inl (k 5, 90, .inr (.inr (.inr (.inr (fun j => some (cd j))))))), (h0, .inr (7, [.ref ca, .ref nfo, .ref ncd, .ref nsp, .ref nno, .ref nsm, .ref nbr, .ref nbs, .ref nbd, .int (nI un9), .int (nI co8), .int (nI fl8)])), (nsm, .inl (k 5, 306, .inr (.inr (.inr (.inr (fun j => some (sm j)))))))] ++ va_pl LP (rwp k 41 F8)) := S
          refine r_backrP (wi := [(h0, .inr (7, [.ref ca, .ref nfo, .ref ncd, .ref nsp, .ref nno, .ref nsm, .ref nbr, .ref nbs, .ref nbd, .int (nI un9), .int (nI co8), .int (nI fl8)])), (ncd, .inl (k 5, 90, .inr (.inr (.inr (.inr (fun j => some (cd j)))))))]) (wr := [(nsm, .inl (k 5, 306, .inr (.inr (.inr (.inr (fun j => some (sm j)))))))]) S hA [1, 0] [2] rfl rfl (by decide) (by decide) (va_runV (As := [.int (nI m8), .ref (sm (18 * lv9 + i9))]) (rest := []) ⟨hx, hb, C.2.2.1, C.2.2.2.1, C.2.2.2.2.1⟩ (g_Ne_atLeast l G k h0 _ m8 (sm (18 * lv9 + i9)) ca nfo ncd nsp nno nsm nbr nbs nbd un9 co8 fl8 cd LP F8 (by omega) hst.2.1 (hLP.1 _ (by omega)) hLP.2.1 hLP.2.2.2.2.1) (k_virt (n := 2) C wc_Ne_atLeast rfl rfl wz_Ne wm_Ne_87 wn_Ne_atLeast ws_Ne_atLeast (by decide +kernel) ⟨(Nat.le_of_ble_eq_true rfl), (Nat.le_of_ble_eq_true rfl)⟩) (pr_nowVP K S [1, 0] (by decide) rfl 1 rfl rfl) rfl rfl hl.1 rfl (lv_room (Nat.le_of_ble_eq_true rfl)) d_Ne_coverOthers_33 ⟨(Nat.le_of_ble_eq_true rfl), (Nat.le_of_ble_eq_true rfl)⟩) (fun u5 H locs hw6 S => ?_)
          have S : Sw G A s.heap _ _ ([(nsm, .inl (k 5, 306, .inr (.inr (.inr (.inr (fun j => some (sm j))))))), (h0, .inr (7, [.ref ca, .ref nfo, .ref ncd, .ref nsp, .ref nno, .ref nsm, .ref nbr, .ref nbs, .ref nbd, .int (nI un9), .int (nI (caN co8)), .int (nI (flN co8 fl8))])), (ncd, .inl (k 5, 90, .inr (.inr (.inr (.inr (fun j => some (cd j)))))))] ++ va_pl LP (rwp k 41 u5.1)) := S
          refine lv_pop hx hb d_Ne_coverOthers_36 rfl ?_
          refine lv_iinc (v := nI (m8 + 1)) (lv' := [(4, .int (nI (m8 + 1))), (5, .int (nI i9)), (0, .ref h0), (1, .int (nI o9)), (2, .int (nI m9)), (3, .int (nI lv9))]) hx hb d_Ne_coverOthers_37 hl (k := 1) rfl (show nI m8 + Int32.ofInt 1 = nI (m8 + 1) from (nI_add m8 1).trans (congrArg nI (by omega))) (by decide) rfl (fun ls hl => ?_)
          refine lv_iinc (v := nI (i9 + 1)) (lv' := [(5, .int (nI (i9 + 1))), (4, .int (nI (m8 + 1))), (0, .ref h0), (1, .int (nI o9)), (2, .int (nI m9)), (3, .int (nI lv9))]) hx hb d_Ne_coverOthers_40 hl (k := 1) rfl (show nI i9 + Int32.ofInt 1 = nI (i9 + 1) from (nI_add i9 1).trans (congrArg nI (by omega))) (by decide) rfl (fun ls hl => ?_)
          refine lv_goto (tgt := 6) hx hb d_Ne_coverOthers_43 (by decide) ?_
          exact ih_lp (i9 + 1) (m8 + 1) u5.1 (caN co8) (flN co8 fl8) (by omega) (by omega) (by rw [pcK]; omega) (stp_eq (stp_tr hst (stp_al hst.1 hst.2.1 hst.2.2.1)) rfl (by rw [pcK]; omega)) _ _ (S.subP [1, 2, 0] (by decide) rfl) ls (lv_sub hl [0, 1, 2, 3, 4, 5] rfl)
  exact lp _ 0 m9 F co9 fl9 (Nat.lt_succ_self _) (by omega) rfl (stp_0 hun hco hfl) _ _ (S.subP [0, 1, 2] (by decide) rfl) ls (lv_sub hl [0, 1, 2, 3, 4, 5] rfl)
theorem d_Ne_needOthers_0 : decode c_Ne_needOthers 0 = .ok (.iload_n 2, 1) := by decide +kernel
theorem d_Ne_needOthers_1 : decode c_Ne_needOthers 1 = .ok (.istore 4, 2) := by decide +kernel
theorem d_Ne_needOthers_3 : decode c_Ne_needOthers 3 = .ok (.iconst 0, 1) := by decide +kernel
theorem d_Ne_needOthers_4 : decode c_Ne_needOthers 4 = .ok (.istore 5, 2) := by decide +kernel
theorem d_Ne_needOthers_6 : decode c_Ne_needOthers 6 = .ok (.iload 5, 2) := by decide +kernel
theorem d_Ne_needOthers_8 : decode c_Ne_needOthers 8 = .ok (.bipush 18, 2) := by decide +kernel
theorem d_Ne_needOthers_10 : decode c_Ne_needOthers 10 = .ok (.if_icmp .ge 36, 3) := by decide +kernel
theorem d_Ne_needOthers_13 : decode c_Ne_needOthers 13 = .ok (.iload_n 1, 1) := by decide +kernel
theorem d_Ne_needOthers_14 : decode c_Ne_needOthers 14 = .ok (.iload 5, 2) := by decide +kernel
theorem d_Ne_needOthers_16 : decode c_Ne_needOthers 16 = .ok (.ishr, 1) := by decide +kernel
theorem d_Ne_needOthers_17 : decode c_Ne_needOthers 17 = .ok (.iconst 1, 1) := by decide +kernel
theorem d_Ne_needOthers_18 : decode c_Ne_needOthers 18 = .ok (.iand, 1) := by decide +kernel
theorem d_Ne_needOthers_19 : decode c_Ne_needOthers 19 = .ok (.iconst 1, 1) := by decide +kernel
theorem d_Ne_needOthers_20 : decode c_Ne_needOthers 20 = .ok (.if_icmp .ne 20, 3) := by decide +kernel
theorem d_Ne_needOthers_23 : decode c_Ne_needOthers 23 = .ok (.aload_n 0, 1) := by decide +kernel
theorem d_Ne_needOthers_24 : decode c_Ne_needOthers 24 = .ok (.iload_n 3, 1) := by decide +kernel
theorem d_Ne_needOthers_25 : decode c_Ne_needOthers 25 = .ok (.iload 5, 2) := by decide +kernel
theorem d_Ne_needOthers_27 : decode c_Ne_needOthers 27 = .ok (.invokevirtual 83, 3) := by decide +kernel
theorem d_Ne_needOthers_30 : decode c_Ne_needOthers 30 = .ok (.iload 4, 2) := by decide +kernel
theorem d_Ne_needOthers_32 : decode c_Ne_needOthers 32 = .ok (.dup2, 1) := by decide +kernel
theorem d_Ne_needOthers_33 : decode c_Ne_needOthers 33 = .ok (.iaload, 1) := by decide +kernel
theorem d_Ne_needOthers_34 : decode c_Ne_needOthers 34 = .ok (.iconst 1, 1) := by decide +kernel
theorem d_Ne_needOthers_35 : decode c_Ne_needOthers 35 = .ok (.iadd, 1) := by decide +kernel
theorem d_Ne_needOthers_36 : decode c_Ne_needOthers 36 = .ok (.iastore, 1) := by decide +kernel
theorem d_Ne_needOthers_37 : decode c_Ne_needOthers 37 = .ok (.iinc 4 1, 3) := by decide +kernel
theorem d_Ne_needOthers_40 : decode c_Ne_needOthers 40 = .ok (.iinc 5 1, 3) := by decide +kernel
theorem d_Ne_needOthers_43 : decode c_Ne_needOthers 43 = .ok (.goto (-37), 3) := by decide +kernel
theorem d_Ne_needOthers_46 : decode c_Ne_needOthers 46 = .ok (.return_, 1) := by decide +kernel
set_option maxRecDepth 100000 in
set_option maxHeartbeats 16000000 in
/-- needOthers -/
theorem g_Ne_needOthers (l : Launch) (G : va_G) (k : Nat → ClassId) (h0 : Nat) (s0 : Nat) (o9 : Nat) (m9 : Nat) (lv9 : Nat) (ca : Nat) (nfo : Nat) (ncd : Nat) (nsp : Nat) (nno : Nat) (nsm : Nat) (nbr : Nat) (nbs : Nat) (nbd : Nat) (un9 : Nat) (co9 : Nat) (fl9 : Nat) (sm : Nat → Nat) (cd : Nat → Nat) (br : Nat → Nat) (bs : Nat → Nat) (LP : List Nat) (F : Nat → Nat → Int32) (hLP : lpO LP sm cd br bs nsp nno) (ho : o9 < 262144) (hmo : m9 + pcK o9 18 ≤ 40) (hlv : lv9 ≤ 16) (hun : un9 ≤ 40) (hco : co9 ≤ 90) (hfl : fl9 ≤ 1) : CV l y_Ne_needOthers c_Ne_needOthers 6 { frames := 1, cells := 0, slots := 0, locals := 22 } [.ref h0, .int (nI o9), .int (nI m9), .int (nI lv9)] G k s0 ([(h0, .inr (7, [.ref ca, .ref nfo, .ref ncd, .ref nsp, .ref nno, .ref nsm, .ref nbr, .ref nbs, .ref nbd, .int (nI un9), .int (nI co9), .int (nI fl9)])), (nsm, .inl (k 5, 306, .inr (.inr (.inr (.inr (fun j => some (sm j)))))))] ++ va_pl LP (rwp k 41 F)) (fun (u : Nat → Nat → Int32) => True) (fun u => ([(h0, .inr (7, [.ref ca, .ref nfo, .ref ncd, .ref nsp, .ref nno, .ref nsm, .ref nbr, .ref nbs, .ref nbd, .int (nI un9), .int (nI co9), .int (nI fl9)])), (nsm, .inl (k 5, 306, .inr (.inr (.inr (.inr (fun j => some (sm j)))))))] ++ va_pl LP (rwp k 41 u))) 0 0 := by
  refine met_start (by decide) (Nat.le_of_ble_eq_true rfl) ?_
  intro p e s m below meth c C K hA hsz S ls hl
  generalize va_A ([(h0, .inr (7, [.ref ca, .ref nfo, .ref ncd, .ref nsp, .ref nno, .ref nsm, .ref nbr, .ref nbs, .ref nbd, .int (nI un9), .int (nI co9), .int (nI fl9)])), (nsm, .inl (k 5, 306, .inr (.inr (.inr (.inr (fun j => some (sm j)))))))] ++ va_pl LP (rwp k 41 F)) s0 = A at hA S ⊢
  have hx := C.1
  have hb := C.2.1
  have hl : lv_has ls 6 [(0, .ref h0), (1, .int (nI o9)), (2, .int (nI m9)), (3, .int (nI lv9))] := hl
  refine lv_iload_n hx hb d_Ne_needOthers_0 rfl (lv_at hl 2 rfl) ?_
  refine lv_istore (lv' := [(4, .int (nI m9)), (0, .ref h0), (1, .int (nI o9)), (2, .int (nI m9)), (3, .int (nI lv9))]) hx hb d_Ne_needOthers_1 hl (by decide) rfl (fun ls hl => ?_)
  refine lv_iconst (v := 0) hx hb d_Ne_needOthers_3 (by decide) ?_
  refine lv_istore (lv' := [(5, .int 0), (4, .int (nI m9)), (0, .ref h0), (1, .int (nI o9)), (2, .int (nI m9)), (3, .int (nI lv9))]) hx hb d_Ne_needOthers_4 hl (by decide) rfl (fun ls hl => ?_)
  have lp : ∀ d9, ∀ (i9 : Nat), ∀ (m8 : Nat), ∀ (F8 : Nat → Nat → Int32), (18 - i9) < d9 → (i9 ≤ 18) → (m8 = m9 + pcK o9 i9) → ∀ (H : Heap) (locs : List Loc), Sw G A s.heap H locs ([(h0, .inr (7, [.ref ca, .ref nfo, .ref ncd, .ref nsp, .ref nno, .ref nsm, .ref nbr, .ref nbs, .ref nbd, .int (nI un9), .int (nI co9), .int (nI fl9)])), (nsm, .inl (k 5, 306, .inr (.inr (.inr (.inr (fun j => some (sm j)))))))] ++ va_pl LP (rwp k 41 F8)) → ∀ ls : Array Slot, lv_has ls 6 [(5, .int (nI i9)), (4, .int (nI m8)), (0, .ref h0), (1, .int (nI o9)), (2, .int (nI m9)), (3, .int (nI lv9))] → W p l e { frames := 1, cells := 0, slots := 0, locals := 22 } s m [Value.ref h0, Value.int (nI o9), Value.int (nI m9), Value.int (nI lv9)].toArray below meth c H locs 0 0 (MQ below (va_Qv (fun (u : Nat → Nat → Int32) => True) (Po G k A (fun u => ([(h0, .inr (7, [.ref ca, .ref nfo, .ref ncd, .ref nsp, .ref nno, .ref nsm, .ref nbr, .ref nbs, .ref nbd, .int (nI un9), .int (nI co9), .int (nI fl9)])), (nsm, .inl (k 5, 306, .inr (.inr (.inr (.inr (fun j => some (sm j)))))))] ++ va_pl LP (rwp k 41 u)))) A) [Value.ref h0, Value.int (nI o9), Value.int (nI m9), Value.int (nI lv9)].toArray s 0 0 A) (F0 m 6 ls []) := by
    intro d9
    induction d9 with
    | zero => intro i9 m8 F8 hm; exact absurd hm (Nat.not_lt_zero _)
    | succ d9 ih_lp =>
      intro i9 m8 F8 hm hi hm8 H locs S ls hl
      refine lv_iload hx hb d_Ne_needOthers_6 (lv_at hl 0 rfl) ?_
      refine lv_bipush (v := 18) hx hb d_Ne_needOthers_8 (by decide) ?_
      refine z_icmp_ge (a := i9) (b := 18) (tgt := 46) hx hb d_Ne_needOthers_10 (by decide) (by omega) (by omega) (fun hc1 => ?_) (fun hc1 => ?_)
      · exact r_vret C K F8 trivial (S.subP [0, 1] (by decide) rfl) d_Ne_needOthers_46 (Nat.le_of_ble_eq_true rfl) (Nat.le_of_ble_eq_true rfl)
      · refine lv_iload_n hx hb d_Ne_needOthers_13 rfl (lv_at hl 3 rfl) ?_
        refine lv_iload hx hb d_Ne_needOthers_14 (lv_at hl 0 rfl) ?_
        refine z_ishr (v := nI (o9 / 2 ^ i9)) hx hb d_Ne_needOthers_16 (sr_nn (by omega) (by omega)) ?_
        refine lv_iconst (v := 1) hx hb d_Ne_needOthers_17 (by decide) ?_
        refine z_iand (v := nI (o9 / 2 ^ i9 % 2)) hx hb d_Ne_needOthers_18 (show nI (o9 / 2 ^ i9) &&& 1 = nI (o9 / 2 ^ i9 % 2) from (bx_and _ 1).trans (congrArg nI (Nat.and_one_is_mod _))) ?_
        refine lv_iconst (v := 1) hx hb d_Ne_needOthers_19 (by decide) ?_
        refine z_icmp_ne (a := (o9 / 2 ^ i9 % 2)) (b := 1) (tgt := 40) hx hb d_Ne_needOthers_20 (by decide) (by omega) (by omega) (fun hc2 => ?_) (fun hc2 => ?_)
        · refine lv_iinc (v := nI (i9 + 1)) (lv' := [(5, .int (nI (i9 + 1))), (4, .int (nI m8)), (0, .ref h0), (1, .int (nI o9)), (2, .int (nI m9)), (3, .int (nI lv9))]) hx hb d_Ne_needOthers_40 hl (k := 0) rfl (show nI i9 + Int32.ofInt 1 = nI (i9 + 1) from (nI_add i9 1).trans (congrArg nI (by omega))) (by decide) rfl (fun ls hl => ?_)
          refine lv_goto (tgt := 6) hx hb d_Ne_needOthers_43 (by decide) ?_
          exact ih_lp (i9 + 1) m8 F8 (by omega) (by omega) (by rw [pcK]; omega) _ _ (S.subP [0, 1] (by decide) rfl) ls (lv_sub hl [0, 1, 2, 3, 4, 5] rfl)
        · have hmx : m8 + 1 ≤ 40 := by have := pcK_mono o9 (18 - (i9 + 1)) (i9 + 1); rw [show i9 + 1 + (18 - (i9 + 1)) = 18 by omega, pcK] at this; omega
          refine lv_aload_n hx hb d_Ne_needOthers_23 rfl (lv_at hl 2 rfl) ?_
          refine lv_iload_n hx hb d_Ne_needOthers_24 rfl (lv_at hl 5 rfl) ?_
          refine lv_iload hx hb d_Ne_needOthers_25 (lv_at hl 0 rfl) ?_
          refine r_backrQ (wi := [(h0, .inr (7, [.ref ca, .ref nfo, .ref ncd, .ref nsp, .ref nno, .ref nsm, .ref nbr, .ref nbs, .ref nbd, .int (nI un9), .int (nI co9), .int (nI fl9)])), (nsm, .inl (k 5, 306, .inr (.inr (.inr (.inr (fun j => some (sm j)))))))]) (wr := []) S hA [0, 1] [] rfl rfl (by decide) (by decide) (va_runV (As := [.int (nI lv9), .int (nI i9)]) (rest := []) ⟨hx, hb, C.2.2.1, C.2.2.2.1, C.2.2.2.2.1⟩ (g_Ne_sum l G k h0 _ lv9 i9 ca nfo ncd nsp nno nsm nbr nbs nbd un9 co9 fl9 sm (by first | assumption | omega)) (k_virt (n := 2) C wc_Ne_sum rfl rfl wz_Ne wm_Ne_83 wn_Ne_sum ws_Ne_sum (by decide +kernel) ⟨(Nat.le_of_ble_eq_true rfl), (Nat.le_of_ble_eq_true rfl)⟩) (pr_nowV K S [0, 1] (by decide) (ap_in rfl) 0 rfl rfl) rfl rfl hl.1 rfl (lv_room (Nat.le_of_ble_eq_true rfl)) d_Ne_needOthers_27 ⟨(Nat.le_of_ble_eq_true rfl), (Nat.le_of_ble_eq_true rfl)⟩) (fun u3 H locs hw4 S => ?_)
          have S : Sw G A s.heap _ _ ([(h0, .inr (7, [.ref ca, .ref nfo, .ref ncd, .ref nsp, .ref nno, .ref nsm, .ref nbr, .ref nbs, .ref nbd, .int (nI un9), .int (nI co9), .int (nI fl9)])), (nsm, .inl (k 5, 306, .inr (.inr (.inr (.inr (fun j => some (sm j)))))))] ++ va_pl LP (rwp k 41 F8)) := S
          refine lv_iload hx hb d_Ne_needOthers_30 (lv_at hl 1 rfl) ?_
          refine lv_dup2_11 hx hb d_Ne_needOthers_32 rfl rfl ?_
          refine p_iald C K S (hLP.1 _ (by omega)) (i := nI m8) (show vp_in (nI m8) _ from vp_in_nI (n := m8) (by omega) (by omega)) d_Ne_needOthers_33 (fun iv5 => ?_)
          refine lv_iconst (v := 1) hx hb d_Ne_needOthers_34 (by decide) ?_
          refine lv_iadd hx hb d_Ne_needOthers_35 ?_
          refine p_iast C K S (hLP.1 _ (by omega)) (i := nI m8) (x := iv5 + 1) (show vp_in (nI m8) _ from vp_in_nI (n := m8) (by omega) (by omega)) d_Ne_needOthers_36 (fun F6 H locs S => ?_)
          refine lv_iinc (v := nI (m8 + 1)) (lv' := [(4, .int (nI (m8 + 1))), (5, .int (nI i9)), (0, .ref h0), (1, .int (nI o9)), (2, .int (nI m9)), (3, .int (nI lv9))]) hx hb d_Ne_needOthers_37 hl (k := 1) rfl (show nI m8 + Int32.ofInt 1 = nI (m8 + 1) from (nI_add m8 1).trans (congrArg nI (by omega))) (by decide) rfl (fun ls hl => ?_)
          refine lv_iinc (v := nI (i9 + 1)) (lv' := [(5, .int (nI (i9 + 1))), (4, .int (nI (m8 + 1))), (0, .ref h0), (1, .int (nI o9)), (2, .int (nI m9)), (3, .int (nI lv9))]) hx hb d_Ne_needOthers_40 hl (k := 1) rfl (show nI i9 + Int32.ofInt 1 = nI (i9 + 1) from (nI_add i9 1).trans (congrArg nI (by omega))) (by decide) rfl (fun ls hl => ?_)
          refine lv_goto (tgt := 6) hx hb d_Ne_needOthers_43 (by decide) ?_
          exact ih_lp (i9 + 1) (m8 + 1) F6 (by omega) (by omega) (by rw [pcK]; omega) _ _ (S.subP [0, 1] (by decide) rfl) ls (lv_sub hl [0, 1, 2, 3, 4, 5] rfl)
  exact lp _ 0 m9 F (Nat.lt_succ_self _) (by omega) rfl _ _ (S.subP [0, 1] (by decide) rfl) ls (lv_sub hl [0, 1, 2, 3, 4, 5] rfl)
end
section
/-! one form of contract for all answers, which says how much is made; frames; worlds in another order -/
theorem lsum_foldl (f : Cell → Nat) : ∀ (L : List Cell) (a : Nat), L.foldl (fun n c => n + f c) a = a + (L.map f).sum
  | [], a => by simp
  | c :: L, a => by
    rw [List.foldl_cons, lsum_foldl f L, List.map_cons, List.sum_cons]
    omega
theorem allSl_eq (H : Heap) : allSl H = (H.toList.map (fun c => c.slots.size)).sum := by
  unfold allSl
  rw [← Array.foldl_toList, lsum_foldl, Nat.zero_add]
/-- what is made is what is booked at most -/
theorem sl_new {s t : State} {L : List Loc} {k n : Nat} (h : s.sameButNew t L k n) : allSl t.heap ≤ allSl s.heap + n := by
  obtain ⟨_, h1, _, _, h5, h6⟩ := h
  rw [allSl_eq, allSl_eq]
  have e : t.heap.toList = t.heap.toList.take s.heap.size ++ t.heap.toList.drop s.heap.size := (List.take_append_drop _ _).symm
  have e2 : (t.heap.toList.take s.heap.size).map (fun c => c.slots.size) = s.heap.toList.map (fun c => c.slots.size) := by
    apply List.ext_getElem?
    intro i
    rw [List.getElem?_map, List.getElem?_map]
    by_cases hi : i < s.heap.size
    · have g1 : s.heap[i]? = some (s.heap[i]'hi) := Array.getElem?_eq_getElem hi
      obtain ⟨c', g2, _, g3, _⟩ := h6 i _ g1
      rw [List.getElem?_take_of_lt hi, Array.getElem?_toList, Array.getElem?_toList, g1, g2, Option.map_some, Option.map_some, g3]
    · rw [List.getElem?_eq_none (by rw [List.length_take, Array.length_toList]; omega), List.getElem?_eq_none (by rw [Array.length_toList]; omega)]
  rw [e, List.map_append, List.sum_append, e2]
  exact Nat.add_le_add_left h5 _
def va_Qg {S : Type} (rv : S → Option Value) (post : S → Prop) (B : S → State → Prop) (A : Nat → Prop) : Array Value → State → Outcome → State → Prop := fun _ st oc t => (∃ u : S, oc = .returned (rv u) ∧ post u ∧ B u t) ∧ va_F A st t
abbrev CG {S : Type} (l : Launch) (y : MethodName) (cc : ByteArray) (n : Nat) (ret : Option FieldType) (rm : Room) (as : List Value) (G : va_G) (k : Nat → ClassId) (sz sl : Nat) (wi : va_W) (rv : S → Option Value) (post : S → Prop) (wo : S → va_W) (cu nu : S → Nat) (mc ms : Nat) : Prop :=
  Met l y (wy y cc n ret) rm (va_Pc as (Prg G k sz sl wi)) (va_Qg rv post (Pog G k (va_A wi sz) wo sz sl cu nu) (va_A wi sz)) mc ms (va_A wi sz)
section CGS
variable {l : Launch} {y : MethodName} {cc : ByteArray} {n : Nat} {ret : Option FieldType} {rm : Room} {as : List Value} {G : va_G} {k : Nat → ClassId} {sz sl : Nat} {wi : va_W} {mc ms : Nat}
theorem range_some (ws : va_W) : (List.range ws.length).map (fun i => ws[i]?) = ws.map some := by
  apply List.ext_getElem?
  intro i
  rw [List.getElem?_map, List.getElem?_map]
  by_cases h : i < ws.length
  · rw [List.getElem?_range h, Option.map_some, List.getElem?_eq_getElem h, Option.map_some]
  · rw [List.getElem?_eq_none (by rw [List.length_range]; omega), List.getElem?_eq_none (by omega)]; rfl
theorem cg_frame {S : Type} {rv : S → Option Value} {post : S → Prop} {wo : S → va_W} {cu nu : S → Nat} (wf : va_W) (h : CG l y cc n ret rm as G k sz sl wi rv post wo cu nu mc ms) : CG l y cc n ret rm as G k sz sl (wi ++ wf) rv post (fun u => wo u ++ wf) cu nu mc ms := by
  have left : ∀ {i : Nat} {q : Nat × va_E}, wi[i]? = some q → (wi ++ wf)[i]? = some q := fun {i q} hk => by rw [List.getElem?_append_left (List.getElem?_eq_some_iff.mp hk).1]; exact hk
  have mon : ∀ q, va_A wi sz q → va_A (wi ++ wf) sz q := by
    intro q hq
    rcases hq with ⟨i, e, hi⟩ | hq
    · exact Or.inl ⟨i, e, left hi⟩
    · exact Or.inr hq
  refine Jvm.Free.MetFree.mono h (fun a s hp => ?_) (fun _ _ _ _ _ x => x) (fun a s o t hp hh => ?_)
  · obtain ⟨e1, ⟨h1, h2, h3, h4⟩, h5⟩ := hp
    exact ⟨e1, ⟨h1, fun k q hk => h2 k q (left hk), h3, ⟨fun i j p q hi hj e => h4.1 i j p q (left hi) (left hj) e, fun _ _ _ => trivial⟩⟩, h5⟩
  · obtain ⟨e1, ⟨h1, h2, h3, h4⟩, h5⟩ := hp
    obtain ⟨⟨⟨u, g1, g2, ⟨g3, g4, g5⟩, g6, g7⟩, g8, g9⟩, L, gL, gF⟩ := hh
    have hj := va_joinQ (A0 := va_A (wi ++ wf) sz) (X := wi) (cx := wi) (wr := []) (w1 := wo u) (pl := wf) (H := s.heap) (H1 := t.heap) h2 (h4.self (sz := sz)) (List.range wi.length) [] (range_some wi) rfl rfl (fun i hi => absurd hi (by simp)) (fun q hq hn => g9 q hq (by rw [h1] at hn; exact hn)) (by rw [h1]; exact mon) g3 (by rw [h1]; exact g5)
    exact ⟨⟨⟨u, g1, g2, ⟨hj.1, g4, hj.2⟩, g6, g7⟩, g8, fun q hq hn => g9 q hq (fun z => hn (mon q z))⟩, L, gL, fun q hq => mon _ (gF q hq)⟩
theorem vaP_perm {ws ws' : va_W} {H : Heap} (h : ws.Perm ws') (hP : va_P G cls ws H) : va_P G cls ws' H := fun k q hk => by
  obtain ⟨i, hi⟩ := List.getElem?_of_mem (h.mem_iff.mpr (List.mem_of_getElem? hk))
  exact hP i q hi
theorem vaD_perm {A : Nat → Prop} {ws ws' : va_W} (h : ws.Perm ws') (hD : va_D A ws) : va_D A ws' := by
  have h1 := vaD_iff.mp hD
  exact vaD_iff.mpr ⟨(h.map _).nodup_iff.mp h1.1, fun q hq => h1.2 q (h.mem_iff.mpr hq)⟩
theorem vaA_perm {ws ws' : va_W} (h : ws.Perm ws') (sz : Nat) : va_A ws sz = va_A ws' sz := by
  have key : ∀ {a b : va_W}, a.Perm b → ∀ q, va_A a sz q → va_A b sz q := by
    intro a b hab q hq
    rcases hq with ⟨i, e, hi⟩ | hq
    · obtain ⟨j, hj⟩ := List.getElem?_of_mem (hab.mem_iff.mp (List.mem_of_getElem? hi))
      exact Or.inl ⟨j, e, hj⟩
    · exact Or.inr hq
  exact funext (fun q => propext ⟨key h q, key h.symm q⟩)
theorem cg_perm {S : Type} {rv : S → Option Value} {post : S → Prop} {wo : S → va_W} {cu nu : S → Nat} {wi' : va_W} (hw : wi.Perm wi') (h : CG l y cc n ret rm as G k sz sl wi rv post wo cu nu mc ms) : CG l y cc n ret rm as G k sz sl wi' rv post wo cu nu mc ms := by
  have e := vaA_perm hw sz
  unfold CG at h ⊢
  rw [← e]
  refine Jvm.Free.MetFree.mono h (fun a s hp => ?_) (fun _ _ _ _ _ x => x) (fun a s o t hp hh => hh)
  obtain ⟨e1, ⟨h1, h2, h3, h4⟩, h5⟩ := hp
  exact ⟨e1, ⟨h1, vaP_perm hw.symm h2, h3, vaD_perm hw.symm h4⟩, h5⟩
theorem cg_imp {S S' : Type} {rv : S → Option Value} {post : S → Prop} {wo : S → va_W} {cu nu : S → Nat} {rv' : S' → Option Value} {post' : S' → Prop} {wo' : S' → va_W} {cu' nu' : S' → Nat} (h : CG l y cc n ret rm as G k sz sl wi rv post wo cu nu mc ms) (hq : ∀ u, post u → ∃ u', post' u' ∧ rv' u' = rv u ∧ (wo u).Perm (wo' u') ∧ cu u ≤ cu' u' ∧ nu u ≤ nu' u') : CG l y cc n ret rm as G k sz sl wi rv' post' wo' cu' nu' mc ms := by
  refine Jvm.Free.MetFree.mono h (fun _ _ x => x) (fun _ _ _ _ _ x => x) (fun a s o t hp hh => ?_)
  obtain ⟨⟨⟨u, g1, g2, ⟨g3, g4, g5⟩, g6, g7⟩, g8⟩, gL⟩ := hh
  obtain ⟨u', q1, q2, q3, q4, q5⟩ := hq u g2
  exact ⟨⟨⟨u', by rw [q2]; exact g1, q1, ⟨vaP_perm q3 g3, g4, vaD_perm q3 g5⟩, Nat.le_trans g6 (Nat.add_le_add_left q4 _), Nat.le_trans g7 (Nat.add_le_add_left q5 _)⟩, g8⟩, gL⟩
/-- contracts of the other forms -/
theorem cg_v {S : Type} {post : S → Prop} {wo : S → va_W} (h : CV l y cc n rm as G k sz wi post wo mc ms) : CG l y cc n none rm as G k sz sl wi (fun _ => none) post wo (fun _ => mc) (fun _ => ms) mc ms := by
  refine Jvm.Free.MetFree.mono h (fun a s hp => ⟨hp.1, hp.2.1⟩) (fun _ _ _ _ _ x => x) (fun a s o t hp hh => ?_)
  obtain ⟨⟨⟨u, g1, g2, g3⟩, g8⟩, L, gL, gF⟩ := hh
  obtain ⟨e1, ⟨h1, h2, h3, h4⟩, h5⟩ := hp
  refine ⟨⟨⟨u, g1, g2, g3, ?_, ?_⟩, g8⟩, L, gL, gF⟩
  · have := gL.2.2.2.2.1; rw [h1] at this; exact this
  · have := sl_new gL.2.2; rw [h5] at this; exact this
theorem cg_i {S : Type} {rt : FieldType} {post : Int32 → S → Prop} {wo : S → va_W} (h : CI l y cc n rt rm as G k sz wi post wo mc ms) : CG l y cc n (some rt) rm as G k sz sl wi (fun u : Int32 × S => some (.int u.1)) (fun u => post u.1 u.2) (fun u => wo u.2) (fun _ => mc) (fun _ => ms) mc ms := by
  refine Jvm.Free.MetFree.mono h (fun a s hp => ⟨hp.1, hp.2.1⟩) (fun _ _ _ _ _ x => x) (fun a s o t hp hh => ?_)
  obtain ⟨⟨⟨r, u, g1, g2, g3⟩, g8⟩, L, gL, gF⟩ := hh
  obtain ⟨e1, ⟨h1, h2, h3, h4⟩, h5⟩ := hp
  refine ⟨⟨⟨(r, u), g1, g2, g3, ?_, ?_⟩, g8⟩, L, gL, gF⟩
  · have := gL.2.2.2.2.1; rw [h1] at this; exact this
  · have := sl_new gL.2.2; rw [h5] at this; exact this
theorem cg_l {S : Type} {post : Int64 → S → Prop} {wo : S → va_W} (h : CL l y cc n rm as G k sz wi post wo mc ms) : CG l y cc n (some .long) rm as G k sz sl wi (fun u : Int64 × S => some (.long u.1)) (fun u => post u.1 u.2) (fun u => wo u.2) (fun _ => mc) (fun _ => ms) mc ms := by
  refine Jvm.Free.MetFree.mono h (fun a s hp => ⟨hp.1, hp.2.1⟩) (fun _ _ _ _ _ x => x) (fun a s o t hp hh => ?_)
  obtain ⟨⟨⟨r, u, g1, g2, g3⟩, g8⟩, L, gL, gF⟩ := hh
  obtain ⟨e1, ⟨h1, h2, h3, h4⟩, h5⟩ := hp
  refine ⟨⟨⟨(r, u), g1, g2, g3, ?_, ?_⟩, g8⟩, L, gL, gF⟩
  · have := gL.2.2.2.2.1; rw [h1] at this; exact this
  · have := sl_new gL.2.2; rw [h5] at this; exact this
end CGS
section CGR
variable {p : Program} {l : Launch} {e : Env} {R : Room} {s : State} {m : MethodId} {args : Array Value} {below : List Frame} {meth : Method} {c : Code} {H : Heap} {locs : List Loc} {cells slots : Nat} {Q : State → Prop}
variable {cc : ByteArray} {own nm : String} {nL : Nat} {ret : Option FieldType} {G : va_G} {k : Nat → ClassId} {A : Nat → Prop} {ws X : va_W} {pc : Nat} {ls : Array Slot} {rest : List Value} {a : Nat}
theorem q_vret {S : Type} {post : S → Prop} {wo : S → va_W} {cu nu : S → Nat} {sz sl : Nat} (C : Cx p s m args meth c cc own nL none nm) (K : Kn G k s) (hg : s.heap.size = sz ∧ allSl s.heap = sl) (u : S) (hp : post u) (St : Sw G A s.heap H locs (wo u)) (hdg : decode cc pc = .ok (.return_, 1)) {mc ms : Nat} (c1 : cells ≤ cu u) (c2 : slots ≤ nu u) (h1 : cells ≤ mc) (h2 : slots ≤ ms) : W p l e R s m args below meth c H locs cells slots (MQ below (va_Qg (fun _ => none) post (Pog G k A wo sz sl cu nu) A) args s mc ms A) (F0 m pc ls []) :=
  W.know (fun g1 g2 => W.widen h1 h2 (W.vret C.1 C.2.1 C.2.2.2.2.2.1 (fun t ht hW => ⟨⟨u, rfl, hp, ⟨by rw [ht]; exact St.1, K.warm hW, St.2.1⟩, by rw [ht, ← hg.1]; omega, by rw [ht, ← hg.2]; omega⟩, St.2.2.F ht⟩) St.2.2.2.2 hdg (hlocks := C.2.2.2.2.2.2.1)))
theorem q_iret {S : Type} {rv : S → Option Value} {post : S → Prop} {wo : S → va_W} {cu nu : S → Nat} {sz sl : Nat} {rt : FieldType} (C : Cx p s m args meth c cc own nL (some rt) nm) (K : Kn G k s) (hg : s.heap.size = sz ∧ allSl s.heap = sl) {v : Int32} (hn : narrow rt (.int v) = .int v) (u : S) (hv : some (.int v) = rv u) (hp : post u) (St : Sw G A s.heap H locs (wo u)) (hdg : decode cc pc = .ok (.ireturn, 1)) {mc ms : Nat} (c1 : cells ≤ cu u) (c2 : slots ≤ nu u) (h1 : cells ≤ mc) (h2 : slots ≤ ms) : W p l e R s m args below meth c H locs cells slots (MQ below (va_Qg rv post (Pog G k A wo sz sl cu nu) A) args s mc ms A) (F0 m pc ls [.int v]) :=
  W.know (fun g1 g2 => W.widen h1 h2 (W.zret C.1 C.2.1 C.2.2.2.2.2.1 hn (fun t ht hW => ⟨⟨u, by rw [← hv], hp, ⟨by rw [ht]; exact St.1, K.warm hW, St.2.1⟩, by rw [ht, ← hg.1]; omega, by rw [ht, ← hg.2]; omega⟩, St.2.2.F ht⟩) St.2.2.2.2 hdg (hlocks := C.2.2.2.2.2.2.1)))
theorem q_lret {S : Type} {rv : S → Option Value} {post : S → Prop} {wo : S → va_W} {cu nu : S → Nat} {sz sl : Nat} (C : Cx p s m args meth c cc own nL (some .long) nm) (K : Kn G k s) (hg : s.heap.size = sz ∧ allSl s.heap = sl) {v : Int64} (u : S) (hv : some (.long v) = rv u) (hp : post u) (St : Sw G A s.heap H locs (wo u)) (hdg : decode cc pc = .ok (.lreturn, 1)) {mc ms : Nat} (c1 : cells ≤ cu u) (c2 : slots ≤ nu u) (h1 : cells ≤ mc) (h2 : slots ≤ ms) : W p l e R s m args below meth c H locs cells slots (MQ below (va_Qg rv post (Pog G k A wo sz sl cu nu) A) args s mc ms A) (F0 m pc ls [.long v]) :=
  W.know (fun g1 g2 => W.widen h1 h2 (W.lret C.1 C.2.1 C.2.2.2.2.2.1 (fun t ht hW => ⟨⟨u, by rw [← hv], hp, ⟨by rw [ht]; exact St.1, K.warm hW, St.2.1⟩, by rw [ht, ← hg.1]; omega, by rw [ht, ← hg.2]; omega⟩, St.2.2.F ht⟩) St.2.2.2.2 hdg (hlocks := C.2.2.2.2.2.2.1)))
theorem q_aret {S : Type} {rv : S → Option Value} {post : S → Prop} {wo : S → va_W} {cu nu : S → Nat} {sz sl : Nat} {rt : FieldType} (C : Cx p s m args meth c cc own nL (some rt) nm) (hrt : (∃ N, rt = .object N) ∨ ∃ t0, rt = .array t0) (K : Kn G k s) (hg : s.heap.size = sz ∧ allSl s.heap = sl) {b : Nat} (u : S) (hv : some (.ref b) = rv u) (hp : post u) (St : Sw G A s.heap H locs (wo u)) (hdg : decode cc pc = .ok (.areturn, 1)) {mc ms : Nat} (c1 : cells ≤ cu u) (c2 : slots ≤ nu u) (h1 : cells ≤ mc) (h2 : slots ≤ ms) : W p l e R s m args below meth c H locs cells slots (MQ below (va_Qg rv post (Pog G k A wo sz sl cu nu) A) args s mc ms A) (F0 m pc ls [.ref b]) :=
  W.know (fun g1 g2 => W.widen h1 h2 (W.aret C.1 C.2.1 C.2.2.2.2.2.1 hrt (Or.inr ⟨b, rfl⟩) (fun t ht hW => ⟨⟨u, by rw [← hv], hp, ⟨by rw [ht]; exact St.1, K.warm hW, St.2.1⟩, by rw [ht, ← hg.1]; omega, by rw [ht, ← hg.2]; omega⟩, St.2.2.F ht⟩) St.2.2.2.2 hdg (hlocks := C.2.2.2.2.2.2.1)))
theorem va_callg {S : Type} {rv : S → Option Value} {post : S → Prop} {B : S → State → Prop} {mc ms : Nat} {st0 : List Value} {av : Array Value} {A0 A1 : Nat → Prop} {H0 : Heap} {free : Addr → Prop} (hr : va_Run p l e R s m args below meth c H locs cells slots mc ms (F0 m pc ls st0) rest (va_Qg rv post B A1 av) free) (hS : va_S A0 H0 H locs) (hA : ∀ q, q < H.size → A1 q → A0 q) (hf : ∀ q, free q → A0 q)
    (kk : ∀ (u : S) (t : State) (H1 : Heap) (locs1 : List Loc), t.heap = H1 → post u → B u t → H.size ≤ H1.size → (∀ q : Nat, q < H.size → ¬ A1 q → H1[q]? = H[q]?) → va_S A0 H0 H1 locs1 → W p l e R s m args below meth c H1 locs1 (cells + mc) (slots + ms) Q (F0 m (pc + 3) ls ((rv u).toList ++ rest))) : W p l e R s m args below meth c H locs cells slots Q (F0 m pc ls st0) := by
  intro T hT X
  obtain ⟨v, st₀, t, T', L, h0, X', hL, e1, e2, ⟨⟨u, hv, hp, hb⟩, hz, hk⟩, st⟩ := hr T hT X
  cases hv
  rw [h0] at hz hk
  obtain ⟨t2, a1, b1⟩ := kk u t T'.heap (locs ++ L) e1.symm hp hb (by rw [e1]; exact hz) (fun q h1 h2 => by rw [e1]; exact hk q h1 h2)
    ⟨Nat.le_trans hS.1 (by rw [e1]; exact hz), fun q h1 h2 => by rw [e1, hk q (Nat.lt_of_lt_of_le h1 hS.1) (fun z => h2 (hA q (Nat.lt_of_lt_of_le h1 hS.1) z))]; exact hS.2.1 q h1 h2, fun q hq => by
      rcases List.mem_append.mp hq with h | h
      · exact hS.2.2 q h
      · exact hf _ (hL q h)⟩ T' rfl X'
  exact ⟨t2, st t2 a1, b1⟩
theorem q_back0 {S : Type} {rv : S → Option Value} {post : S → Prop} {wo : S → va_W} {cu nu : S → Nat} {wi wr : va_W} (St : Sw G A s.heap H locs ws) (hA : ∀ q, s.heap.size ≤ q → A q) (isC isR : List Nat) (hC : isC.map (fun i => ws[i]?) = wi.map some) (hR : isR.map (fun i => ws[i]?) = wr.map some) (hn : va_nd isR = true) (hdis : ∀ i ∈ isR, i ∉ isC) {mc ms : Nat} {av : Array Value} {st0 : List Value} (hr : va_Run p l e R s m args below meth c H locs cells slots mc ms (F0 m pc ls st0) rest (va_Qg rv post (Pog G k (va_A wi H.size) wo H.size (allSl H) cu nu) (va_A wi H.size) av) (va_A wi H.size))
    (kk : ∀ (u : S) (H1 : Heap) (locs1 : List Loc), post u → Sw G A s.heap H1 locs1 (wr ++ wo u) → W p l e R s m args below meth c H1 locs1 (cells + cu u) (slots + nu u) Q (F0 m (pc + 3) ls ((rv u).toList ++ rest))) : W p l e R s m args below meth c H locs cells slots Q (F0 m pc ls st0) := by
  have hF := va_free (wc := wi) St.2.1 St.2.2 hA isC hC
  refine W.know (fun g1 g2 => ?_)
  refine va_callg hr St.2.2 (fun q _ h => hF q h) hF (fun u t H1 l1 ht hp hB hz hk hS => ?_)
  obtain ⟨hP, hD⟩ := va_join (wr := wr) (w1 := wo u) St.1 St.2.1 isC isR hC hR hn hdis hk hF (by rw [← ht]; exact hB.1.1) hB.1.2.2
  have e1 := hB.2.1
  have e2 := hB.2.2
  rw [ht] at e1 e2
  exact W.real (by omega) (by omega) (kk u H1 l1 hp ⟨hP, hD, hS⟩)
theorem q_backP {S : Type} {rv : S → Option Value} {post : S → Prop} {wo pl1 : S → va_W} {cu nu : S → Nat} {wi wr pl : va_W} (St : Sw G A s.heap H locs (X ++ pl)) (hA : ∀ q, s.heap.size ≤ q → A q) (isC isR : List Nat) (hC : isC.map (fun i => X[i]?) = wi.map some) (hR : isR.map (fun i => X[i]?) = wr.map some) (hn : va_nd isR = true) (hdis : ∀ i ∈ isR, i ∉ isC) {mc ms : Nat} {av : Array Value} {st0 : List Value} (hr : va_Run p l e R s m args below meth c H locs cells slots mc ms (F0 m pc ls st0) rest (va_Qg rv post (Pog G k (va_A (wi ++ pl) H.size) (fun u => wo u ++ pl1 u) H.size (allSl H) cu nu) (va_A (wi ++ pl) H.size) av) (va_A (wi ++ pl) H.size))
    (kk : ∀ (u : S) (H1 : Heap) (locs1 : List Loc), post u → Sw G A s.heap H1 locs1 ((wr ++ wo u) ++ pl1 u) → W p l e R s m args below meth c H1 locs1 (cells + cu u) (slots + nu u) Q (F0 m (pc + 3) ls ((rv u).toList ++ rest))) : W p l e R s m args below meth c H locs cells slots Q (F0 m pc ls st0) := by
  have hF := va_freeP (cx := wi) St.2.1 St.2.2 hA isC hC
  refine W.know (fun g1 g2 => ?_)
  refine va_callg hr St.2.2 (fun q _ h => hF q h) hF (fun u t H1 l1 ht hp hB hz hk hS => ?_)
  obtain ⟨hP, hD⟩ := va_joinP (wr := wr) (rx := wo u) (pl1 := pl1 u) St.1 St.2.1 isC isR hC hR hn hdis hk hF (by rw [← ht]; exact hB.1.1) hB.1.2.2
  have e1 := hB.2.1
  have e2 := hB.2.2
  rw [ht] at e1 e2
  exact W.real (by omega) (by omega) (kk u H1 l1 hp ⟨hP, hD, hS⟩)
theorem pr_nowGP (K : Kn G k s) {pl : va_W} (S : Sw G A s.heap H locs (X ++ pl)) {wi : va_W} (is : List Nat) (hn : va_nd is = true) (hs : is.map (fun i => X[i]?) = wi.map some) {as : List Value} : PreS s H (va_Pc as (Prg G k H.size (allSl H) (wi ++ pl))) as := ⟨prg_blind, fun U hU hW => ⟨rfl, ((pr_nowP K S is hn hs (as := as)).2 U hU hW).2, by rw [hU]⟩⟩
theorem pr_nowVGP (K : Kn G k s) {pl : va_W} (S : Sw G A s.heap H locs (X ++ pl)) {wi : va_W} (is : List Nat) (hn : va_nd is = true) (hs : is.map (fun i => X[i]?) = wi.map some) {b : Nat} {as : List Value} {ci : Nat} {fs : List Value} (he : (b, .inr (ci, fs)) ∈ X ++ pl) {q : vw_C} (hc : cls[ci]? = some q) : PreV s H q.1 b (va_Pc (.ref b :: as) (Prg G k H.size (allSl H) (wi ++ pl))) as := by
  obtain ⟨q0, hq⟩ := List.getElem?_of_mem he
  exact ⟨prg_blind, va_recv K.1 S.1 hc hq, (pr_nowGP K S is hn hs).2⟩
/-- a copy of an array's first elements into another -/
theorem r_copyI (C : Cx p s m args meth c cc own nL ret nm) (K : Kn G k s) (S : Sw G A s.heap H locs ws) (hs : ls.size = nL) {index : Nat} (hl : Cond.methodLink own index arraycopyName ∈ gt) (hnat : Cond.native arraycopyName ∈ gt) (hst : Cond.static arraycopyName ∈ gt) (hin : Cond.initialized "java/lang/System" ∈ gt) (q0 q1 : Nat) {a0 n0 n1 : Nat} {f g : Nat → Int32} (h0 : ws[q0]? = some (a0, .inl (k 0, n0, .inl f))) (h1 : ws[q1]? = some (a, .inl (k 0, n1, .inl g))) {w : Int32} (hw : ¬ w < 0) (hw0 : w.toNatClampNeg ≤ n0) (hw1 : w.toNatClampNeg ≤ n1) (hf : 1 ≤ R.frames) (hlo : (rest.map fun v => v.category).sum + (nativeFrameWords "java/lang/System" "arraycopy" 5 + 11) ≤ R.locals) (hdg : decode cc pc = .ok (.invokestatic index, 3)) {ws' : va_W} {g' : Nat → Int32} (hg' : ∀ i, i < n1 → g' i = if i < w.toNatClampNeg then f i else g i) (hws : ws.set q1 (a, .inl (k 0, n1, .inl g')) = ws')
    (kk : ∀ (H1 : Heap) (locs1 : List Loc), Sw G A s.heap H1 locs1 ws' → W p l e R s m args below meth c H1 locs1 cells slots Q (F0 m (pc + 3) ls rest)) : W p l e R s m args below meth c H locs cells slots Q (F0 m pc ls (.int w :: .int 0 :: .ref a :: .int 0 :: .ref a0 :: rest)) := by
  refine va_copyi C.1 C.2.1 (by rw [C.2.2.1, hs]) C.2.2.2.1 (C.2.2.2.2.1 _ hl) (C.2.2.2.2.1 _ hnat) (C.2.2.2.2.1 _ hst) (C.2.2.2.2.1 _ hin) K.1 S.1 S.2.1 S.2.2 q0 q1 0 0 h0 h1 (ty := .int) rfl rfl rfl (by decide) (by decide) hw ?_ ?_ (fun i _ => rfl) hf hlo hdg (fun H1 l1 a1 a2 a3 => ?_)
  · rw [show (0 : Int32).toNatClampNeg = 0 by decide]; omega
  · rw [show (0 : Int32).toNatClampNeg = 0 by decide]; omega
  · have hq1 : q1 < ws.length := (List.getElem?_eq_some_iff.mp h1).1
    have S1 : Sw G A s.heap H1 l1 _ := ⟨a1, a2, a3⟩
    refine kk H1 l1 (Sw.arr S1 q1 (List.getElem?_set_self hq1) (f' := g') (fun i hi => ?_) (by rw [List.set_set]; exact hws))
    rw [hg' i hi]
    unfold va_cpy
    rw [show (0 : Int32).toNatClampNeg = 0 by decide]
    by_cases q : i < w.toNatClampNeg
    · simp [q]
    · simp [q]
end CGR
end
section
/-! whole numbers: a sign, digits of 31 bits -/
def sgI (z : Int) : Int32 := if z < 0 then -1 else if z = 0 then 0 else 1
def raO (L : Nat) (g : Nat → Nat) : Prop := 3 ≤ L ∧ L ≤ 400 ∧ ∀ i, g i < 2147483648
def whO (L n : Nat) (g : Nat → Nat) (z : Int) : Prop := n ≤ L ∧ 3 ≤ L ∧ L ≤ 400 ∧ (∀ i, g i < 2147483648) ∧ (n = 0 ∨ g (n - 1) ≠ 0) ∧ vl 2147483648 g n = z.natAbs
theorem wh_ra {L n : Nat} {g : Nat → Nat} {z : Int} (h : whO L n g z) : raO L g := ⟨h.2.1, h.2.2.1, h.2.2.2.1⟩
theorem whn_0 {L n : Nat} {g : Nat → Nat} {z : Int} (h : whO L n g z) : n = 0 ↔ z = 0 := by
  obtain ⟨-, -, -, -, h5, h6⟩ := h
  constructor
  · intro q; subst q
    have : (0 : Nat) = z.natAbs := h6
    omega
  · intro q; subst q
    apply Classical.byContradiction
    intro hn
    have h7 := vl_ge (B := 2147483648) (g := g) (n := n) (by omega) (by omega)
    have h8 : 0 < 2147483648 ^ (n - 1) := Nat.pow_pos (by decide)
    rw [h6] at h7
    have : (0 : Int).natAbs = 0 := rfl
    omega
theorem wh_size {L n m : Nat} {g : Nat → Nat} {z : Int} (h : whO L n g z) (hz : z.natAbs < 2147483648 ^ m) : n ≤ m := by
  obtain ⟨-, -, -, -, h5, h6⟩ := h
  apply Classical.byContradiction
  intro hn
  have h7 := vl_ge (B := 2147483648) (g := g) (n := n) (by omega) (by omega)
  have h8 : 2147483648 ^ m ≤ 2147483648 ^ (n - 1) := Nat.pow_le_pow_right (by decide) (by omega)
  rw [h6] at h7
  omega
theorem wh_lt {L n : Nat} {g : Nat → Nat} {z : Int} (h : whO L n g z) : z.natAbs < 2147483648 ^ n := by
  rw [← h.2.2.2.2.2]
  exact vl_lt n (fun i _ => h.2.2.2.1 i)
theorem sg_neg (z : Int) : - sgI z = sgI (- z) := by
  unfold sgI
  by_cases h1 : z < 0
  · rw [if_pos h1, if_neg (by omega), if_neg (by omega)]; decide
  · by_cases h2 : z = 0
    · subst h2; decide
    · rw [if_neg h1, if_neg h2, if_pos (by omega)]
theorem sg_mul (a b : Int) : sgI a * sgI b = sgI (a * b) := by
  unfold sgI
  rcases Int.lt_trichotomy a 0 with h | h | h <;> rcases Int.lt_trichotomy b 0 with q | q | q
  · rw [if_pos h, if_pos q, if_neg (by have := Int.mul_pos_of_neg_of_neg h q; omega), if_neg (by have := Int.mul_pos_of_neg_of_neg h q; omega)]; decide
  · subst q; rw [Int.mul_zero, if_pos h]; decide
  · rw [if_pos h, if_neg (by omega), if_neg (by omega), if_pos (Int.mul_neg_of_neg_of_pos h q)]; decide
  · subst h; rw [Int.zero_mul]; simp
  · subst h; subst q; decide
  · subst h; rw [Int.zero_mul]; simp
  · rw [if_neg (by omega), if_neg (by omega), if_pos q, if_pos (Int.mul_neg_of_pos_of_neg h q)]; decide
  · subst q; rw [Int.mul_zero, if_neg (by omega), if_neg (by omega)]; decide
  · rw [if_neg (by omega), if_neg (by omega), if_neg (by omega), if_neg (by omega), if_neg (by have := Int.mul_pos h q; omega), if_neg (by have := Int.mul_pos h q; omega)]; decide
theorem sgn_0 {z : Int} : sgI z = 0 ↔ z = 0 := by
  unfold sgI
  by_cases h1 : z < 0
  · rw [if_pos h1]; exact ⟨fun q => absurd q (by decide), fun q => by omega⟩
  · by_cases h2 : z = 0
    · rw [if_neg h1, if_pos h2]; exact ⟨fun _ => h2, fun _ => rfl⟩
    · rw [if_neg h1, if_neg h2]; exact ⟨fun q => absurd q (by decide), fun q => absurd q h2⟩
theorem sgn_lt {z : Int} : sgI z < 0 ↔ z < 0 := by
  unfold sgI
  by_cases h1 : z < 0
  · rw [if_pos h1]; exact ⟨fun _ => h1, fun _ => by decide⟩
  · by_cases h2 : z = 0
    · rw [if_neg h1, if_pos h2]; exact ⟨fun q => absurd q (by decide), fun q => by omega⟩
    · rw [if_neg h1, if_neg h2]; exact ⟨fun q => absurd q (by decide), fun q => by omega⟩
theorem sgn_gt {z : Int} : (0 : Int32) < sgI z ↔ 0 < z := by
  unfold sgI
  by_cases h1 : z < 0
  · rw [if_pos h1]; exact ⟨fun q => absurd q (by decide), fun q => by omega⟩
  · by_cases h2 : z = 0
    · rw [if_neg h1, if_pos h2]; exact ⟨fun q => absurd q (by decide), fun q => by omega⟩
    · rw [if_neg h1, if_neg h2]; exact ⟨fun _ => by omega, fun _ => by decide⟩
theorem sg_cut {n : Nat} {z : Int} (h : n = 0 → z = 0) : (if n = 0 then 0 else sgI z) = sgI z := by
  by_cases q : n = 0
  · rw [if_pos q, h q]; rfl
  · rw [if_neg q]
def icI (x y : Int32) : Int32 := if x < y then -1 else if x = y then 0 else 1
theorem ic_lt {x y : Int32} (h : ¬ y ≤ x) : icI x y = -1 := by unfold icI; rw [if_pos (Int32.not_le.mp h)]
theorem ic_eq {x y : Int32} (h : x = y) : icI x y = 0 := by unfold icI; subst h; rw [if_neg (by rw [Int32.lt_iff_toInt_lt]; omega), if_pos rfl]
theorem ic_gt {x y : Int32} (h : y ≤ x) (h2 : ¬ x = y) : icI x y = 1 := by unfold icI; rw [if_neg (fun q => Int32.not_le.mpr q h), if_neg h2]
def lcI (x y : Int64) : Int32 := if x < y then -1 else if x = y then 0 else 1
theorem lc_lt {x y : Int64} (h : ¬ 0 ≤ lg_cmp x y) : lcI x y = -1 := by
  unfold lcI; rw [if_pos (Int64.not_le.mp (fun q => h ((lg_cmp_ge x y).mpr q)))]
theorem lc_eq {x y : Int64} (h : lg_cmp x y = 0) : lcI x y = 0 := by
  obtain rfl := (lg_cmp_eq x y).mp h
  unfold lcI; rw [if_neg (by rw [Int64.lt_iff_toInt_lt]; omega), if_pos rfl]
theorem lc_gt {x y : Int64} (h : 0 ≤ lg_cmp x y) (h2 : ¬ lg_cmp x y = 0) : lcI x y = 1 := by
  unfold lcI; rw [if_neg (fun q => Int64.not_le.mpr q ((lg_cmp_ge x y).mp h)), if_neg (fun q => h2 ((lg_cmp_eq x y).mpr q))]
def cpN (a b : Nat) : Int32 := if a < b then -1 else if a = b then 0 else 1
def czI (a b : Int) : Int32 := if a < b then -1 else if a = b then 0 else 1
theorem ic_nI {a b : Nat} (ha : a < 2147483648) (hb : b < 2147483648) : icI (nI a) (nI b) = cpN a b := by
  unfold icI cpN
  by_cases h : a < b
  · rw [if_pos h, if_pos ((nI_lt_iff ha hb).mpr h)]
  · rw [if_neg h, if_neg (fun q => h ((nI_lt_iff ha hb).mp q))]
    by_cases h2 : a = b
    · rw [if_pos h2, if_pos (by rw [h2])]
    · rw [if_neg h2, if_neg (fun q => h2 ((nI_eq ha hb).mp q))]
theorem cp_nz {a b : Nat} : cpN a b < 0 ↔ a < b := by
  unfold cpN
  by_cases h : a < b
  · rw [if_pos h]; exact ⟨fun _ => h, fun _ => by decide⟩
  · rw [if_neg h]
    by_cases h2 : a = b
    · rw [if_pos h2]; exact ⟨fun q => absurd q (by decide), fun q => absurd q h⟩
    · rw [if_neg h2]; exact ⟨fun q => absurd q (by decide), fun q => absurd q h⟩
/-- the highest digits that differ decide -/
theorem vl_top_lt {B : Nat} {a b : Nat → Nat} {j : Nat} (hB : 0 < B) (ha : ∀ i, a i < B) (hj : a j < b j) : ∀ n, j < n → (∀ i, j < i → i < n → a i = b i) → vl B a n < vl B b n
  | 0, h, _ => absurd h (Nat.not_lt_zero _)
  | n + 1, h, he => by
    rw [vl_s, vl_s]
    by_cases q : j = n
    · subst q
      have h1 := vl_lt (B := B) (g := a) j (fun i _ => ha i)
      have h2 : (a j + 1) * B ^ j ≤ b j * B ^ j := Nat.mul_le_mul_right _ hj
      rw [Nat.add_mul, Nat.one_mul] at h2
      omega
    · have h1 := vl_top_lt hB ha hj n (by omega) (fun i h1 h2 => he i h1 (by omega))
      rw [he n (by omega) (by omega)]
      omega
theorem ca_dig {L L2 n : Nat} {g g2 : Nat → Nat} {z z2 : Int} {j : Nat} (h : whO L n g z) (h2 : whO L2 n g2 z2) (hj : j < n) (he : ∀ i, j < i → i < n → g i = g2 i) (hne : ¬ g j = g2 j) : icI (nI (g j)) (nI (g2 j)) = cpN z.natAbs z2.natAbs := by
  have d1 := h.2.2.2.1
  have d2 := h2.2.2.2.1
  rw [ic_nI (d1 j) (d2 j)]
  unfold cpN
  rw [← h.2.2.2.2.2, ← h2.2.2.2.2.2]
  by_cases q : g j < g2 j
  · have := vl_top_lt (B := 2147483648) (by decide) d1 q n hj he
    rw [if_pos q, if_pos this]
  · have := vl_top_lt (B := 2147483648) (a := g2) (b := g) (by decide) d2 (j := j) (by omega) n hj (fun i h1 h2 => (he i h1 h2).symm)
    rw [if_neg q, if_neg hne, if_neg (by omega), if_neg (by omega)]
theorem ca_all {L L2 n : Nat} {g g2 : Nat → Nat} {z z2 : Int} (h : whO L n g z) (h2 : whO L2 n g2 z2) (he : ∀ i, i < n → g i = g2 i) : (0 : Int32) = cpN z.natAbs z2.natAbs := by
  unfold cpN
  rw [← h.2.2.2.2.2, ← h2.2.2.2.2.2, vl_congr n he, if_neg (Nat.lt_irrefl _), if_pos rfl]
theorem ca_size {L L2 n n2 : Nat} {g g2 : Nat → Nat} {z z2 : Int} (h : whO L n g z) (h2 : whO L2 n2 g2 z2) (hne : ¬ n = n2) : icI (nI n) (nI n2) = cpN z.natAbs z2.natAbs := by
  have key : ∀ {L L2 n n2 : Nat} {g g2 : Nat → Nat} {z z2 : Int}, whO L n g z → whO L2 n2 g2 z2 → n < n2 → z.natAbs < z2.natAbs := by
    intro L L2 n n2 g g2 z z2 h h2 hlt
    have h3 := wh_lt h
    have h4 := vl_ge (B := 2147483648) (g := g2) (n := n2) (by omega) (by have := h2.2.2.2.2.1; omega)
    have h5 : 2147483648 ^ n ≤ 2147483648 ^ (n2 - 1) := Nat.pow_le_pow_right (by decide) (by omega)
    rw [h2.2.2.2.2.2] at h4
    omega
  have b1 := h.1
  have b2 := h.2.2.1
  have b3 := h2.1
  have b4 := h2.2.2.1
  rw [ic_nI (by omega) (by omega)]
  unfold cpN
  by_cases q : n < n2
  · rw [if_pos q, if_pos (key h h2 q)]
  · have := key h2 h (by omega)
    rw [if_neg q, if_neg hne, if_neg (by omega), if_neg (by omega)]
theorem cz_sg {z z2 : Int} (h : ¬ sgI z = sgI z2) : icI (sgI z) (sgI z2) = czI z z2 := by
  unfold czI
  unfold sgI at h ⊢
  rcases Int.lt_trichotomy z 0 with q | q | q <;> rcases Int.lt_trichotomy z2 0 with w | w | w
  · rw [if_pos q, if_pos w] at h; exact absurd rfl h
  · subst w; rw [if_pos q]; simp; decide
  · rw [if_pos q, if_neg (by omega), if_neg (by omega), if_pos (by omega)]; decide
  · subst q; rw [if_neg (show ¬ (0 : Int) < 0 by omega), if_pos rfl, if_pos w, if_neg (show ¬ (0 : Int) < z2 by omega), if_neg (show ¬ (0 : Int) = z2 by omega)]; decide
  · subst q; subst w; exact absurd rfl h
  · subst q; rw [if_neg (show ¬ z2 < 0 by omega), if_neg (show ¬ z2 = 0 by omega), if_pos (show (0:Int) < z2 from w)]; decide
  · rw [if_neg (by omega), if_neg (by omega), if_pos w, if_neg (by omega), if_neg (by omega)]; decide
  · subst w; rw [if_neg (show ¬ z < 0 by omega), if_neg (show ¬ z = 0 by omega), if_neg (show ¬ (0 : Int) < 0 by omega), if_pos rfl]; decide
  · rw [if_neg (show ¬ z < 0 by omega), if_neg (show ¬ z = 0 by omega), if_neg (show ¬ z2 < 0 by omega), if_neg (show ¬ z2 = 0 by omega)] at h; exact absurd rfl h
theorem cz_am {z z2 : Int} (h : sgI z = sgI z2) : sgI z * cpN z.natAbs z2.natAbs = czI z z2 := by
  unfold czI cpN
  rcases Int.lt_trichotomy z 0 with q | q | q
  · have w : z2 < 0 := sgn_lt.mp (h ▸ sgn_lt.mpr q)
    unfold sgI
    rw [if_pos q]
    rcases Int.lt_trichotomy z z2 with t | t | t
    · rw [if_neg (by omega), if_neg (by omega), if_pos t]; decide
    · subst t; rw [if_neg (by omega), if_pos rfl, if_neg (by omega), if_pos rfl]; decide
    · rw [if_pos (by omega), if_neg (by omega), if_neg (by omega)]; decide
  · have w : z2 = 0 := sgn_0.mp (h ▸ sgn_0.mpr q)
    subst q; subst w; decide
  · have w : 0 < z2 := sgn_gt.mp (h ▸ sgn_gt.mpr q)
    unfold sgI
    rw [if_neg (by omega), if_neg (by omega)]
    rcases Int.lt_trichotomy z z2 with t | t | t
    · rw [if_pos (by omega), if_pos t]; decide
    · subst t; rw [if_neg (by omega), if_pos rfl, if_neg (by omega), if_pos rfl]; decide
    · rw [if_neg (by omega), if_neg (by omega), if_neg (by omega), if_neg (by omega)]; decide
/-- longs -/
theorem lN_lZ (a : Nat) : lN a = lZ (a : Int) := by
  apply Int64.toBitVec_inj.mp
  apply BitVec.eq_of_toNat_eq
  show (BitVec.ofNat 64 a).toNat = (BitVec.ofInt 64 (a : Int)).toNat
  rw [BitVec.toNat_ofNat, BitVec.toNat_ofInt]
  omega
theorem lN_and31 {a : Nat} (h : a < 18446744073709551616) : lN a &&& 2147483647 = lN (a % 2147483648) := g_mask (s := 31) (p := 2147483648) (by decide) (by decide) h
theorem d31 : (((31 : Int32).toInt64 &&& 63).toBitVec.smod 64).toNat = 31 := by decide
theorem d31b : ((31 : Int32).toInt64 &&& 63).toBitVec.smod 64 = BitVec.ofNat 64 31 := by decide
theorem lN_shr31 {a : Nat} (h : a < 9223372036854775808) : lN a >>> ((31 : Int32).toInt64 &&& 63) = lN (a / 2147483648) := by
  rw [lN_lZ, lZ_shr (by omega) (by omega) d31, lN_lZ]
  congr 1
theorem lN_ushr31 {a : Nat} (h : a < 18446744073709551616) : ((lN a).toUInt64 >>> ((31 : Int32).toInt64.toUInt64 &&& Int64.toUInt64 63)).toInt64 = lN (a / 2147483648) := by
  apply Int64.toBitVec_inj.mp
  show ((lN a).toUInt64 >>> ((31 : Int32).toInt64.toUInt64 &&& Int64.toUInt64 63)).toBitVec = _
  rw [UInt64.toBitVec_shiftRight]
  apply BitVec.eq_of_toNat_eq
  rw [BitVec.ushiftRight_eq', BitVec.toNat_ushiftRight, show ((((31 : Int32).toInt64.toUInt64 &&& Int64.toUInt64 63)).toBitVec % 64).toNat = 31 from by decide]
  show (BitVec.ofNat 64 a).toNat >>> 31 = (BitVec.ofNat 64 (a / 2147483648)).toNat
  rw [BitVec.toNat_ofNat, BitVec.toNat_ofNat, Nat.mod_eq_of_lt h, Nat.mod_eq_of_lt (by omega), Nat.shiftRight_eq_div_pow]
theorem lN_shl31 {a : Nat} (h : a < 18446744073709551616) : lN a <<< ((31 : Int32).toInt64 &&& 63) = lN (a * 2147483648) := g_shl (k := 31) d31b (by decide) (by decide) h
theorem lN_or31 {a b : Nat} (ha : a < 2147483648) (h : b < 8589934592) : lN (b * 2147483648) ||| lN a = lN (b * 2147483648 + a) := g_or (k := 31) (by decide) ha (by omega)
theorem lZ_i {z : Int} (h0 : 0 ≤ z) (h : z < 2147483648) : (lZ z).toInt32 = nI z.toNat := by
  have e : lZ z = lN z.toNat := by rw [lN_lZ]; congr 1; omega
  rw [e, lN_i]
theorem lZ_nn {z : Int} (h0 : 0 ≤ z) : lZ z = lN z.natAbs := by rw [lN_lZ]; congr 1; omega
theorem lZ_neg_n {z : Int} (h0 : z < 0) : - lZ z = lN z.natAbs := by rw [lN_lZ, lZ_neg]; congr 1; omega
theorem lc_sg {z : Int} (h1 : -9223372036854775808 ≤ z) (h2 : z < 9223372036854775808) : lcI (lZ z) 0 = sgI z := by
  have e0 : (0 : Int64).toInt = 0 := by decide
  unfold lcI sgI
  by_cases q : z < 0
  · rw [if_pos q, if_pos (by rw [Int64.lt_iff_toInt_lt, lZ_toInt h1 h2, e0]; exact q)]
  · rw [if_neg q, if_neg (by rw [Int64.lt_iff_toInt_lt, lZ_toInt h1 h2, e0]; exact q)]
    by_cases w : z = 0
    · rw [if_pos w, if_pos (by rw [w]; rfl)]
    · rw [if_neg w, if_neg (fun t => w (by have := congrArg Int64.toInt t; rw [lZ_toInt h1 h2, e0] at this; exact this))]
theorem lz_ge0 {z : Int} (h1 : -9223372036854775808 ≤ z) (h2 : z < 9223372036854775808) : (0 ≤ lg_cmp (lZ z) 0) ↔ 0 ≤ z := by
  rw [lg_cmp_ge, Int64.le_iff_toInt_le, lZ_toInt h1 h2]
  exact Iff.rfl
/-- a long of one digit and a sign -/
theorem small_val {L n : Nat} {g : Nat → Nat} {z : Int} (h : whO L n g z) (hn : n ≤ 1) : (sgI z).toInt64 * lN (g 0) = lZ z := by
  have d := h.2.2.2.1 0
  rcases Int.lt_trichotomy z 0 with q | q | q
  · have e : n = 1 := by have := whn_0 h; omega
    subst e
    have h6 : 0 + g 0 * 2147483648 ^ 0 = z.natAbs := h.2.2.2.2.2
    have e2 : sgI z = -1 := by unfold sgI; rw [if_pos q]
    rw [e2, lN_lZ, show (-1 : Int32).toInt64 = lZ (-1) from by decide, lZ_mul]
    congr 1
    omega
  · subst q
    show (0 : Int32).toInt64 * _ = lZ 0
    rw [show (0 : Int32).toInt64 = lZ 0 from by decide, lN_lZ, lZ_mul, Int.zero_mul]
  · have e : n = 1 := by have := whn_0 h; omega
    subst e
    have h6 : 0 + g 0 * 2147483648 ^ 0 = z.natAbs := h.2.2.2.2.2
    have e2 : sgI z = 1 := by unfold sgI; rw [if_neg (by omega), if_neg (by omega)]
    rw [e2, lN_lZ, show (1 : Int32).toInt64 = lZ 1 from by decide, lZ_mul]
    congr 1
    omega
theorem small_abs {L n : Nat} {g : Nat → Nat} {z : Int} (h : whO L n g z) (hn : n ≤ 1) : z.natAbs < 2147483648 := by
  have h1 := wh_lt h
  have h2 : 2147483648 ^ n ≤ 2147483648 ^ 1 := Nat.pow_le_pow_right (by decide) hn
  rw [Nat.pow_one] at h2
  omega
def dgN (n : Nat) (g : Nat → Nat) (i : Nat) : Nat := if i < n then g i else 0
theorem dg_lt {n : Nat} {g : Nat → Nat} (h : ∀ i, g i < 2147483648) (i : Nat) : dgN n g i < 2147483648 := by
  unfold dgN
  split
  · exact h i
  · decide
theorem dg_eq {n i : Nat} {g g2 : Nat → Nat} (h : g i = g2 i) : dgN n g i = dgN n g2 i := by unfold dgN; rw [h]
theorem dg_vl {n m : Nat} {g : Nat → Nat} (h : n ≤ m) : vl 2147483648 (dgN n g) m = vl 2147483648 g n := by
  rw [vl_zeros (n := n) m h (fun i h1 _ => by unfold dgN; rw [if_neg (by omega)])]
  exact vl_congr n (fun i hi => by unfold dgN; rw [if_pos hi])
/-- the digits of a long -/
theorem set_val {g : Nat → Nat} {a : Nat} (h : a < 18446744073709551616) : vl 2147483648 (va_up (va_up (va_up g 0 (a % 2147483648)) 1 (a / 2147483648 % 2147483648)) 2 (a / 2147483648 / 2147483648 % 2147483648)) 3 = a := by
  rw [vl_s, vl_s, vl_s, va_up_self, va_up_ne _ _ (by decide : (1:Nat) ≠ 2), va_up_self, va_up_ne _ _ (by decide : (0:Nat) ≠ 2), va_up_ne _ _ (by decide : (0:Nat) ≠ 1), va_up_self]
  show 0 + a % 2147483648 * 1 + a / 2147483648 % 2147483648 * 2147483648 + a / 2147483648 / 2147483648 % 2147483648 * (2147483648 * 2147483648) = a
  omega
theorem up31 {g : Nat → Nat} {j v : Nat} (hg : ∀ i, g i < 2147483648) (hv : v < 2147483648) : ∀ i, va_up g j v i < 2147483648 := by
  intro i
  by_cases q : i = j
  · rw [q, va_up_self]; exact hv
  · rw [va_up_ne _ _ q]; exact hg i
section ZR
variable {p : Program} {l : Launch} {e : Env} {R : Room} {s : State} {m : MethodId} {args : Array Value} {below : List Frame} {meth : Method} {c : Code} {H : Heap} {locs : List Loc} {cells slots : Nat} {Q : State → Prop} {cc : ByteArray} {pc : Nat} {ls : Array Slot} {rest : List Value}
theorem z_imul2 (hx : p.tables.exec = Jvm.exec) (hb : c.code = cc) {x y v : Int32} (hd : decode cc pc = .ok (.imul, 1)) (hv : x * y = v) (kk : W p l e R s m args below meth c H locs cells slots Q (F0 m (pc + 1) ls (.int v :: rest))) : W p l e R s m args below meth c H locs cells slots Q (F0 m pc ls (.int y :: .int x :: rest)) := by subst hv; exact lv_imul hx hb hd kk
theorem z_ineg (hx : p.tables.exec = Jvm.exec) (hb : c.code = cc) {x v : Int32} (hd : decode cc pc = .ok (.ineg, 1)) (hv : - x = v) (kk : W p l e R s m args below meth c H locs cells slots Q (F0 m (pc + 1) ls (.int v :: rest))) : W p l e R s m args below meth c H locs cells slots Q (F0 m pc ls (.int x :: rest)) := by subst hv; exact lv_ineg hx hb hd kk
theorem z_ldiv (hx : p.tables.exec = Jvm.exec) (hb : c.code = cc) {x y v : Int64} (hd : decode cc pc = .ok (.ldiv, 1)) (hne : ¬ y = 0) (hv : x / y = v) (kk : W p l e R s m args below meth c H locs cells slots Q (F0 m (pc + 1) ls (.long v :: rest))) : W p l e R s m args below meth c H locs cells slots Q (F0 m pc ls (.long y :: .long x :: rest)) := by subst hv; exact lv_ldiv hx hb hd hne kk
theorem z_lrem (hx : p.tables.exec = Jvm.exec) (hb : c.code = cc) {x y v : Int64} (hd : decode cc pc = .ok (.lrem, 1)) (hne : ¬ y = 0) (hv : x - x / y * y = v) (kk : W p l e R s m args below meth c H locs cells slots Q (F0 m (pc + 1) ls (.long v :: rest))) : W p l e R s m args below meth c H locs cells slots Q (F0 m pc ls (.long y :: .long x :: rest)) := by subst hv; exact lv_lrem hx hb hd hne kk
theorem z_topl {x y : Int64} (hv : x = y) (kk : W p l e R s m args below meth c H locs cells slots Q (F0 m pc ls (.long y :: rest))) : W p l e R s m args below meth c H locs cells slots Q (F0 m pc ls (.long x :: rest)) := by subst hv; exact kk
end ZR
end
section
theorem wm_Wh_35 : Cond.methodLink "PotentialBench$Whole" 35 arraycopyName ∈ gt := gt_i 644 (by decide +kernel) (by decide +kernel)
theorem wm_JA_150 : Cond.methodLink "java/util/Arrays" 150 arraycopyName ∈ gt := gt_i 635 (by decide +kernel) (by decide +kernel)
theorem d_JI_compare_0 : decode c_JI_compare 0 = .ok (.iload_n 0, 1) := by decide +kernel
theorem d_JI_compare_1 : decode c_JI_compare 1 = .ok (.iload_n 1, 1) := by decide +kernel
theorem d_JI_compare_2 : decode c_JI_compare 2 = .ok (.if_icmp .ge 7, 3) := by decide +kernel
theorem d_JI_compare_5 : decode c_JI_compare 5 = .ok (.iconst (-1), 1) := by decide +kernel
theorem d_JI_compare_6 : decode c_JI_compare 6 = .ok (.goto 13, 3) := by decide +kernel
theorem d_JI_compare_9 : decode c_JI_compare 9 = .ok (.iload_n 0, 1) := by decide +kernel
theorem d_JI_compare_10 : decode c_JI_compare 10 = .ok (.iload_n 1, 1) := by decide +kernel
theorem d_JI_compare_11 : decode c_JI_compare 11 = .ok (.if_icmp .ne 7, 3) := by decide +kernel
theorem d_JI_compare_14 : decode c_JI_compare 14 = .ok (.iconst 0, 1) := by decide +kernel
theorem d_JI_compare_15 : decode c_JI_compare 15 = .ok (.goto 4, 3) := by decide +kernel
theorem d_JI_compare_18 : decode c_JI_compare 18 = .ok (.iconst 1, 1) := by decide +kernel
theorem d_JI_compare_19 : decode c_JI_compare 19 = .ok (.ireturn, 1) := by decide +kernel
set_option maxRecDepth 100000 in
set_option maxHeartbeats 16000000 in
/-- Integer.compare -/
theorem g_JI_compare (l : Launch) (G : va_G) (k : Nat → ClassId) (s0 sl : Nat) (x9 : Int32) (y9 : Int32) : CG l y_JI_compare c_JI_compare 2 (some .int) { frames := 0, cells := 0, slots := 0, locals := 0 } [.int x9, .int y9] G k s0 sl [] (fun (u : Unit) => some (.int (icI x9 y9))) (fun (u : Unit) => True) (fun (u : Unit) => []) (fun (u : Unit) => 0) (fun (u : Unit) => 0) 0 0 := by
  refine met_startG (by decide) (Nat.le_of_ble_eq_true rfl) ?_
  intro p e s m below meth c C K hA hsz S ls hl
  generalize va_A [] s0 = A at hA S ⊢
  have hx := C.1
  have hb := C.2.1
  have hl : lv_has ls 2 [(0, .int x9), (1, .int y9)] := hl
  refine lv_iload_n hx hb d_JI_compare_0 rfl (lv_at hl 0 rfl) ?_
  refine lv_iload_n hx hb d_JI_compare_1 rfl (lv_at hl 1 rfl) ?_
  refine lv_icmp_ge (tgt := 9) hx hb d_JI_compare_2 (by decide) (fun hc1 => ?_) (fun hc1 => ?_)
  · refine lv_iload_n hx hb d_JI_compare_9 rfl (lv_at hl 0 rfl) ?_
    refine lv_iload_n hx hb d_JI_compare_10 rfl (lv_at hl 1 rfl) ?_
    refine lv_icmp_ne (tgt := 18) hx hb d_JI_compare_11 (by decide) (fun hc2 => ?_) (fun hc2 => ?_)
    · refine lv_iconst (v := 1) hx hb d_JI_compare_18 (by decide) ?_
      exact q_iret C K hsz rfl () (by rw [ic_gt hc1 hc2]) trivial (S.sub [] (by decide) rfl) d_JI_compare_19 (Nat.zero_le _) (Nat.zero_le _) (Nat.zero_le _) (Nat.zero_le _)
    · refine lv_iconst (v := 0) hx hb d_JI_compare_14 (by decide) ?_
      refine lv_goto (tgt := 19) hx hb d_JI_compare_15 (by decide) ?_
      exact q_iret C K hsz rfl () (by rw [ic_eq hc2]) trivial (S.sub [] (by decide) rfl) d_JI_compare_19 (Nat.zero_le _) (Nat.zero_le _) (Nat.zero_le _) (Nat.zero_le _)
  · refine lv_iconst (v := (-1)) hx hb d_JI_compare_5 (by decide) ?_
    refine lv_goto (tgt := 19) hx hb d_JI_compare_6 (by decide) ?_
    exact q_iret C K hsz rfl () (by rw [ic_lt hc1]) trivial (S.sub [] (by decide) rfl) d_JI_compare_19 (Nat.zero_le _) (Nat.zero_le _) (Nat.zero_le _) (Nat.zero_le _)
theorem d_JL_compare_0 : decode c_JL_compare 0 = .ok (.lload_n 0, 1) := by decide +kernel
theorem d_JL_compare_1 : decode c_JL_compare 1 = .ok (.lload_n 2, 1) := by decide +kernel
theorem d_JL_compare_2 : decode c_JL_compare 2 = .ok (.lcmp, 1) := by decide +kernel
theorem d_JL_compare_3 : decode c_JL_compare 3 = .ok (.ifCond .ge 7, 3) := by decide +kernel
theorem d_JL_compare_6 : decode c_JL_compare 6 = .ok (.iconst (-1), 1) := by decide +kernel
theorem d_JL_compare_7 : decode c_JL_compare 7 = .ok (.goto 14, 3) := by decide +kernel
theorem d_JL_compare_10 : decode c_JL_compare 10 = .ok (.lload_n 0, 1) := by decide +kernel
theorem d_JL_compare_11 : decode c_JL_compare 11 = .ok (.lload_n 2, 1) := by decide +kernel
theorem d_JL_compare_12 : decode c_JL_compare 12 = .ok (.lcmp, 1) := by decide +kernel
theorem d_JL_compare_13 : decode c_JL_compare 13 = .ok (.ifCond .ne 7, 3) := by decide +kernel
theorem d_JL_compare_16 : decode c_JL_compare 16 = .ok (.iconst 0, 1) := by decide +kernel
theorem d_JL_compare_17 : decode c_JL_compare 17 = .ok (.goto 4, 3) := by decide +kernel
theorem d_JL_compare_20 : decode c_JL_compare 20 = .ok (.iconst 1, 1) := by decide +kernel
theorem d_JL_compare_21 : decode c_JL_compare 21 = .ok (.ireturn, 1) := by decide +kernel
set_option maxRecDepth 100000 in
set_option maxHeartbeats 16000000 in
/-- Long.compare -/
theorem g_JL_compare (l : Launch) (G : va_G) (k : Nat → ClassId) (s0 sl : Nat) (x9 : Int64) (y9 : Int64) : CG l y_JL_compare c_JL_compare 4 (some .int) { frames := 0, cells := 0, slots := 0, locals := 0 } [.long x9, .long y9] G k s0 sl [] (fun (u : Unit) => some (.int (lcI x9 y9))) (fun (u : Unit) => True) (fun (u : Unit) => []) (fun (u : Unit) => 0) (fun (u : Unit) => 0) 0 0 := by
  refine met_startG (by decide) (Nat.le_of_ble_eq_true rfl) ?_
  intro p e s m below meth c C K hA hsz S ls hl
  generalize va_A [] s0 = A at hA S ⊢
  have hx := C.1
  have hb := C.2.1
  have hl : lv_has ls 4 [(0, .long x9), (2, .long y9)] := hl
  refine lv_lload_n hx hb d_JL_compare_0 rfl (lv_at hl 0 rfl) ?_
  refine lv_lload_n hx hb d_JL_compare_1 rfl (lv_at hl 1 rfl) ?_
  refine W.lcmp hx hb d_JL_compare_2 ?_
  refine lv_if_ge (tgt := 10) hx hb d_JL_compare_3 (by decide) (fun hc1 => ?_) (fun hc1 => ?_)
  · refine lv_lload_n hx hb d_JL_compare_10 rfl (lv_at hl 0 rfl) ?_
    refine lv_lload_n hx hb d_JL_compare_11 rfl (lv_at hl 1 rfl) ?_
    refine W.lcmp hx hb d_JL_compare_12 ?_
    refine lv_if_ne (tgt := 20) hx hb d_JL_compare_13 (by decide) (fun hc2 => ?_) (fun hc2 => ?_)
    · refine lv_iconst (v := 1) hx hb d_JL_compare_20 (by decide) ?_
      exact q_iret C K hsz rfl () (by rw [lc_gt hc1 hc2]) trivial (S.sub [] (by decide) rfl) d_JL_compare_21 (Nat.zero_le _) (Nat.zero_le _) (Nat.zero_le _) (Nat.zero_le _)
    · refine lv_iconst (v := 0) hx hb d_JL_compare_16 (by decide) ?_
      refine lv_goto (tgt := 21) hx hb d_JL_compare_17 (by decide) ?_
      exact q_iret C K hsz rfl () (by rw [lc_eq hc2]) trivial (S.sub [] (by decide) rfl) d_JL_compare_21 (Nat.zero_le _) (Nat.zero_le _) (Nat.zero_le _) (Nat.zero_le _)
  · refine lv_iconst (v := (-1)) hx hb d_JL_compare_6 (by decide) ?_
    refine lv_goto (tgt := 21) hx hb d_JL_compare_7 (by decide) ?_
    exact q_iret C K hsz rfl () (by rw [lc_lt hc1]) trivial (S.sub [] (by decide) rfl) d_JL_compare_21 (Nat.zero_le _) (Nat.zero_le _) (Nat.zero_le _) (Nat.zero_le _)
theorem r_mmin {p : Program} {l : Launch} {e : Env} {R : Room} {s : State} {m : MethodId} {args : Array Value} {below : List Frame} {meth : Method} {c : Code} {H : Heap} {locs : List Loc} {cells slots : Nat} {Q : State → Prop} {cc : ByteArray} {own nm : String} {nL : Nat} {ret : Option FieldType} {pc : Nat} {ls : Array Slot} {rest : List Value} (C : Cx p s m args meth c cc own nL ret nm) (hs : ls.size = nL) {index : Nat} (hl : Cond.methodLink own index y_JM_min ∈ gt) (hf : 1 ≤ R.frames) (hlo : (rest.map fun v => v.category).sum + 13 ≤ R.locals) (hc : cells ≤ R.cells) (hsl : slots ≤ R.slots) {x y v : Int32} (hv : (if y < x then y else x) = v) (hdg : decode cc pc = .ok (.invokestatic index, 3)) (kk : W p l e R s m args below meth c H locs cells slots Q (F0 m (pc + 3) ls (.int v :: rest))) : W p l e R s m args below meth c H locs cells slots Q (F0 m pc ls (.int y :: .int x :: rest)) := by
  subst hv
  exact va_mmin C.1 C.2.1 (by rw [C.2.2.1, hs]) C.2.2.2.1 (C.2.2.2.2.1 _ hl) (C.2.2.2.2.1 _ wt_JM_min) (C.2.2.2.2.1 _ wz_JM) (C.2.2.2.2.1 _ wc_JM_min) hf hlo hc hsl hdg kk
theorem d_JA_copyOf_0 : decode c_JA_copyOf 0 = .ok (.iload_n 1, 1) := by decide +kernel
theorem d_JA_copyOf_1 : decode c_JA_copyOf 1 = .ok (.aload_n 0, 1) := by decide +kernel
theorem d_JA_copyOf_2 : decode c_JA_copyOf 2 = .ok (.arraylength, 1) := by decide +kernel
theorem d_JA_copyOf_3 : decode c_JA_copyOf 3 = .ok (.if_icmp .ne 11, 3) := by decide +kernel
theorem d_JA_copyOf_6 : decode c_JA_copyOf 6 = .ok (.aload_n 0, 1) := by decide +kernel
theorem d_JA_copyOf_7 : decode c_JA_copyOf 7 = .ok (.invokevirtual 316, 3) := by decide +kernel
theorem d_JA_copyOf_10 : decode c_JA_copyOf 10 = .ok (.checkcast 317, 3) := by decide +kernel
theorem d_JA_copyOf_13 : decode c_JA_copyOf 13 = .ok (.areturn, 1) := by decide +kernel
theorem d_JA_copyOf_14 : decode c_JA_copyOf 14 = .ok (.iload_n 1, 1) := by decide +kernel
theorem d_JA_copyOf_15 : decode c_JA_copyOf 15 = .ok (.newarray .int, 2) := by decide +kernel
theorem d_JA_copyOf_17 : decode c_JA_copyOf 17 = .ok (.astore_n 2, 1) := by decide +kernel
theorem d_JA_copyOf_18 : decode c_JA_copyOf 18 = .ok (.aload_n 0, 1) := by decide +kernel
theorem d_JA_copyOf_19 : decode c_JA_copyOf 19 = .ok (.iconst 0, 1) := by decide +kernel
theorem d_JA_copyOf_20 : decode c_JA_copyOf 20 = .ok (.aload_n 2, 1) := by decide +kernel
theorem d_JA_copyOf_21 : decode c_JA_copyOf 21 = .ok (.iconst 0, 1) := by decide +kernel
theorem d_JA_copyOf_22 : decode c_JA_copyOf 22 = .ok (.aload_n 0, 1) := by decide +kernel
theorem d_JA_copyOf_23 : decode c_JA_copyOf 23 = .ok (.arraylength, 1) := by decide +kernel
theorem d_JA_copyOf_24 : decode c_JA_copyOf 24 = .ok (.iload_n 1, 1) := by decide +kernel
theorem d_JA_copyOf_25 : decode c_JA_copyOf 25 = .ok (.invokestatic 304, 3) := by decide +kernel
theorem d_JA_copyOf_28 : decode c_JA_copyOf 28 = .ok (.invokestatic 150, 3) := by decide +kernel
theorem d_JA_copyOf_31 : decode c_JA_copyOf 31 = .ok (.aload_n 2, 1) := by decide +kernel
theorem d_JA_copyOf_32 : decode c_JA_copyOf 32 = .ok (.areturn, 1) := by decide +kernel
set_option maxRecDepth 100000 in
set_option maxHeartbeats 16000000 in
/-- Arrays.copyOf -/
theorem g_JA_copyOf (l : Launch) (G : va_G) (k : Nat → ClassId) (s0 sl : Nat) (dd : Nat) (LL : Nat) (N9 : Nat) (gg : Nat → Nat) (hN : LL < N9) (hN4 : N9 ≤ 400) : CG l y_JA_copyOf c_JA_copyOf 3 (some (.array .int)) { frames := 1, cells := 1, slots := N9, locals := 60 } [.ref dd, .int (nI N9)] G k s0 sl [(dd, .inl (k 0, LL, .inl (fun i => nI (gg i))))] (fun (u : Nat) => some (.ref u)) (fun (u : Nat) => True) (fun (u : Nat) => [(dd, .inl (k 0, LL, .inl (fun i => nI (gg i)))), (u, .inl (k 0, N9, .inl (fun i => nI (dgN LL gg i))))]) (fun (u : Nat) => 1) (fun (u : Nat) => N9) 1 N9 := by
  refine met_startG (by decide) (Nat.le_of_ble_eq_true rfl) ?_
  intro p e s m below meth c C K hA hsz S ls hl
  generalize va_A [(dd, .inl (k 0, LL, .inl (fun i => nI (gg i))))] s0 = A at hA S ⊢
  have hx := C.1
  have hb := C.2.1
  have hl : lv_has ls 3 [(0, .ref dd), (1, .int (nI N9))] := hl
  have hL9 : LL ≤ 400 := by omega
  refine lv_iload_n hx hb d_JA_copyOf_0 rfl (lv_at hl 1 rfl) ?_
  refine lv_aload_n hx hb d_JA_copyOf_1 rfl (lv_at hl 0 rfl) ?_
  refine r_alen C K S 0 rfl d_JA_copyOf_2 ?_
  refine z_icmp_ne (a := N9) (b := LL) (tgt := 14) hx hb d_JA_copyOf_3 (by decide) (by omega) (by omega) (fun hc1 => ?_) (fun hc1 => False.elim (by omega))
  refine lv_iload_n hx hb d_JA_copyOf_14 rfl (lv_at hl 1 rfl) ?_
  refine r_newI C K S hA N9 (nn_nlt (by omega)) (nI_clamp (by omega)) (by omega) (Nat.le_of_ble_eq_true rfl) (show 0 + N9 ≤ N9 from by omega) d_JA_copyOf_15 (fun q2 H S => ?_)
  have S : Sw G A s.heap _ _ [(dd, .inl (k 0, LL, .inl (fun i => nI (gg i)))), (q2, .inl (k 0, N9, .inl (fun _ => 0)))] := S
  refine lv_astore_n (lv' := [(2, .ref q2), (0, .ref dd), (1, .int (nI N9))]) hx hb d_JA_copyOf_17 rfl hl (by decide) rfl (fun ls hl => ?_)
  refine lv_aload_n hx hb d_JA_copyOf_18 rfl (lv_at hl 1 rfl) ?_
  refine lv_iconst (v := 0) hx hb d_JA_copyOf_19 (by decide) ?_
  refine lv_aload_n hx hb d_JA_copyOf_20 rfl (lv_at hl 0 rfl) ?_
  refine lv_iconst (v := 0) hx hb d_JA_copyOf_21 (by decide) ?_
  refine lv_aload_n hx hb d_JA_copyOf_22 rfl (lv_at hl 1 rfl) ?_
  refine r_alen C K S 0 rfl d_JA_copyOf_23 ?_
  refine lv_iload_n hx hb d_JA_copyOf_24 rfl (lv_at hl 2 rfl) ?_
  refine r_mmin C hl.1 wm_JA_304 (Nat.le_of_ble_eq_true rfl) (Nat.le_of_ble_eq_true rfl) (Nat.le_of_ble_eq_true rfl) (show 0 + N9 ≤ N9 from by omega) (x := nI LL) (y := nI N9) (v := nI LL) (if_neg (fun q => by have := (nI_lt_iff (by omega) (by omega)).mp q; omega)) d_JA_copyOf_25 ?_
  refine r_copyI C K S hl.1 wm_JA_150 wa_native wa_static wz_JS 0 1 rfl rfl (w := nI LL) (nn_nlt (by omega)) (by rw [nI_clamp (by omega)]; omega) (by rw [nI_clamp (by omega)]; omega) (Nat.le_of_ble_eq_true rfl) (Nat.le_of_ble_eq_true rfl) d_JA_copyOf_28 (g' := fun i => nI ((dgN LL gg) i)) (ws' := [(dd, .inl (k 0, LL, .inl (fun i => nI (gg i)))), (q2, .inl (k 0, N9, .inl (fun i => nI ((dgN LL gg) i))))]) (fun i hi => by unfold dgN; rw [nI_clamp (by omega)]; by_cases q9 : i < LL <;> simp [q9] <;> rfl) rfl (fun H locs S => ?_)
  refine lv_aload_n hx hb d_JA_copyOf_31 rfl (lv_at hl 0 rfl) ?_
  exact q_aret C (Or.inr ⟨_, rfl⟩) K hsz q2 rfl trivial (S.sub [0, 1] (by decide) rfl) d_JA_copyOf_32 (Nat.le_of_ble_eq_true rfl) (show 0 + N9 ≤ N9 from by omega) (Nat.le_of_ble_eq_true rfl) (show 0 + N9 ≤ N9 from by omega)
theorem d_Wh_room_0 : decode c_Wh_room 0 = .ok (.aload_n 0, 1) := by decide +kernel
theorem d_Wh_room_1 : decode c_Wh_room 1 = .ok (.getfield 9, 3) := by decide +kernel
theorem d_Wh_room_4 : decode c_Wh_room 4 = .ok (.arraylength, 1) := by decide +kernel
theorem d_Wh_room_5 : decode c_Wh_room 5 = .ok (.iload_n 1, 1) := by decide +kernel
theorem d_Wh_room_6 : decode c_Wh_room 6 = .ok (.if_icmp .ge 32, 3) := by decide +kernel
theorem d_Wh_room_9 : decode c_Wh_room 9 = .ok (.iconst 2, 1) := by decide +kernel
theorem d_Wh_room_10 : decode c_Wh_room 10 = .ok (.aload_n 0, 1) := by decide +kernel
theorem d_Wh_room_11 : decode c_Wh_room 11 = .ok (.getfield 9, 3) := by decide +kernel
theorem d_Wh_room_14 : decode c_Wh_room 14 = .ok (.arraylength, 1) := by decide +kernel
theorem d_Wh_room_15 : decode c_Wh_room 15 = .ok (.imul, 1) := by decide +kernel
theorem d_Wh_room_16 : decode c_Wh_room 16 = .ok (.istore_n 2, 1) := by decide +kernel
theorem d_Wh_room_17 : decode c_Wh_room 17 = .ok (.aload_n 0, 1) := by decide +kernel
theorem d_Wh_room_18 : decode c_Wh_room 18 = .ok (.aload_n 0, 1) := by decide +kernel
theorem d_Wh_room_19 : decode c_Wh_room 19 = .ok (.getfield 9, 3) := by decide +kernel
theorem d_Wh_room_22 : decode c_Wh_room 22 = .ok (.iload_n 2, 1) := by decide +kernel
theorem d_Wh_room_23 : decode c_Wh_room 23 = .ok (.iload_n 1, 1) := by decide +kernel
theorem d_Wh_room_24 : decode c_Wh_room 24 = .ok (.if_icmp .le 7, 3) := by decide +kernel
theorem d_Wh_room_27 : decode c_Wh_room 27 = .ok (.iload_n 2, 1) := by decide +kernel
theorem d_Wh_room_28 : decode c_Wh_room 28 = .ok (.goto 4, 3) := by decide +kernel
theorem d_Wh_room_31 : decode c_Wh_room 31 = .ok (.iload_n 1, 1) := by decide +kernel
theorem d_Wh_room_32 : decode c_Wh_room 32 = .ok (.invokestatic 95, 3) := by decide +kernel
theorem d_Wh_room_35 : decode c_Wh_room 35 = .ok (.putfield 9, 3) := by decide +kernel
theorem d_Wh_room_38 : decode c_Wh_room 38 = .ok (.return_, 1) := by decide +kernel
set_option maxRecDepth 100000 in
set_option maxHeartbeats 16000000 in
/-- room -/
theorem g_Wh_room (l : Launch) (G : va_G) (k : Nat → ClassId) (h0 : Nat) (s0 sl : Nat) (mo9 : Nat) (Mx : Nat) (dd : Nat) (LL : Nat) (xs9 : Int32) (ys9 : Int32) (gg : Nat → Nat) (hr : raO LL gg) (hm1 : 2 * mo9 ≤ Mx) (hm2 : LL ≤ Mx) (hm3 : Mx ≤ 400) : CG l y_Wh_room c_Wh_room 3 none { frames := 2, cells := Mx, slots := 2 * Mx, locals := 82 } [.ref h0, .int (nI mo9)] G k s0 sl [(h0, .inr (2, [.ref dd, .int xs9, .int ys9])), (dd, .inl (k 0, LL, .inl (fun i => nI (gg i))))] (fun (u : Nat × Nat × (Nat → Nat)) => none) (fun (u : Nat × Nat × (Nat → Nat)) => raO u.2.1 u.2.2 ∧ LL ≤ u.2.1 ∧ mo9 ≤ u.2.1 ∧ u.2.1 ≤ Mx ∧ ∀ i, i < LL → u.2.2 i = gg i) (fun (u : Nat × Nat × (Nat → Nat)) => [(h0, .inr (2, [.ref u.1, .int xs9, .int ys9])), (u.1, .inl (k 0, u.2.1, .inl (fun i => nI (u.2.2 i))))]) (fun (u : Nat × Nat × (Nat → Nat)) => u.2.1 - LL) (fun (u : Nat × Nat × (Nat → Nat)) => 2 * (u.2.1 - LL)) Mx (2 * Mx) := by
  refine met_startG (by decide) (Nat.le_of_ble_eq_true rfl) ?_
  intro p e s m below meth c C K hA hsz S ls hl
  generalize va_A [(h0, .inr (2, [.ref dd, .int xs9, .int ys9])), (dd, .inl (k 0, LL, .inl (fun i => nI (gg i))))] s0 = A at hA S ⊢
  have hx := C.1
  have hb := C.2.1
  have hl : lv_has ls 3 [(0, .ref h0), (1, .int (nI mo9))] := hl
  have hr0 := hr
  obtain ⟨r1, r2, r3⟩ := hr0
  refine lv_aload_n hx hb d_Wh_room_0 rfl (lv_at hl 0 rfl) ?_
  refine r_get C K S 0 rfl rfl clOk_Wh 0 (by decide) wf_Wh_9 (v := .ref dd) rfl d_Wh_room_1 ?_
  refine r_alen C K S 1 rfl d_Wh_room_4 ?_
  refine lv_iload_n hx hb d_Wh_room_5 rfl (lv_at hl 1 rfl) ?_
  refine z_icmp_ge (a := LL) (b := mo9) (tgt := 38) hx hb d_Wh_room_6 (by decide) (by omega) (by omega) (fun hc1 => ?_) (fun hc1 => ?_)
  · exact q_vret C K hsz (dd, LL, gg) (show raO LL gg ∧ LL ≤ LL ∧ mo9 ≤ LL ∧ LL ≤ Mx ∧ ∀ i, i < LL → gg i = gg i from ⟨hr, Nat.le_refl _, by omega, hm2, fun _ _ => rfl⟩) (S.sub [0, 1] (by decide) rfl) d_Wh_room_38 (Nat.zero_le _) (Nat.zero_le _) (Nat.zero_le _) (Nat.zero_le _)
  · refine lv_iconst (v := 2) hx hb d_Wh_room_9 (by decide) ?_
    refine lv_aload_n hx hb d_Wh_room_10 rfl (lv_at hl 0 rfl) ?_
    refine r_get C K S 0 rfl rfl clOk_Wh 0 (by decide) wf_Wh_9 (v := .ref dd) rfl d_Wh_room_11 ?_
    refine r_alen C K S 1 rfl d_Wh_room_14 ?_
    refine z_imul (x := 2) (y := nI LL) (v := nI (2 * LL)) hx hb d_Wh_room_15 (pk_mul 2 LL) ?_
    refine lv_istore_n (lv' := [(2, .int (nI (2 * LL))), (0, .ref h0), (1, .int (nI mo9))]) hx hb d_Wh_room_16 rfl hl (by decide) rfl (fun ls hl => ?_)
    refine lv_aload_n hx hb d_Wh_room_17 rfl (lv_at hl 1 rfl) ?_
    refine lv_aload_n hx hb d_Wh_room_18 rfl (lv_at hl 1 rfl) ?_
    refine r_get C K S 0 rfl rfl clOk_Wh 0 (by decide) wf_Wh_9 (v := .ref dd) rfl d_Wh_room_19 ?_
    refine lv_iload_n hx hb d_Wh_room_22 rfl (lv_at hl 0 rfl) ?_
    refine lv_iload_n hx hb d_Wh_room_23 rfl (lv_at hl 2 rfl) ?_
    refine z_icmp_le (a := (2 * LL)) (b := mo9) (tgt := 31) hx hb d_Wh_room_24 (by decide) (by omega) (by omega) (fun hc2 => ?_) (fun hc2 => ?_)
    · refine lv_iload_n hx hb d_Wh_room_31 rfl (lv_at hl 2 rfl) ?_
      refine q_back0 (wi := [(dd, .inl (k 0, LL, .inl (fun i => nI (gg i))))]) (wr := [(h0, .inr (2, [.ref dd, .int xs9, .int ys9]))]) S hA [1] [0] rfl rfl (by decide) (by decide) (va_runS (As := [.ref dd, .int (nI mo9)]) (rest := [.ref h0]) ⟨hx, hb, C.2.2.1, C.2.2.2.1, C.2.2.2.2.1⟩ (g_JA_copyOf l G k _ _ dd LL mo9 gg (by first | assumption | omega) (by first | assumption | omega)) (k_stat (n := 2) C wc_JA_copyOf rfl rfl wz_JA wm_Wh_95 wt_JA_copyOf (by decide +kernel) ⟨(Nat.le_of_ble_eq_true rfl), (Nat.le_of_ble_eq_true rfl)⟩) (pr_nowG K S [1] (by decide) rfl) rfl rfl hl.1 rfl (lv_room (Nat.le_of_ble_eq_true rfl)) d_Wh_room_32 ⟨(show 0 + 1 ≤ Mx from by omega), (show 0 + mo9 ≤ 2 * Mx from by omega)⟩) (fun u3 H locs hw4 S => ?_)
      have S : Sw G A s.heap _ _ [(h0, .inr (2, [.ref dd, .int xs9, .int ys9])), (dd, .inl (k 0, LL, .inl (fun i => nI (gg i)))), (u3, .inl (k 0, mo9, .inl (fun i => nI (dgN LL gg i))))] := S
      have hw4 : True := hw4
      show W p l e _ s m _ below meth c H locs _ _ _ (F0 m 35 ls [.ref u3, .ref h0])
      refine r_put C K S 0 rfl rfl clOk_Wh 0 (by decide) wf_Wh_9 rfl (ty := .array .int) (v := .ref u3) (by decide +kernel) rfl rfl (Nat.le_of_ble_eq_true rfl) (fs' := [.ref u3, .int xs9, .int ys9]) (ws' := [(h0, .inr (2, [.ref u3, .int xs9, .int ys9])), (dd, .inl (k 0, LL, .inl (fun i => nI (gg i)))), (u3, .inl (k 0, mo9, .inl (fun i => nI (dgN LL gg i))))]) rfl rfl d_Wh_room_35 (fun H locs S => ?_)
      exact q_vret C K hsz (u3, mo9, dgN LL gg) (show raO mo9 (dgN LL gg) ∧ LL ≤ mo9 ∧ mo9 ≤ mo9 ∧ mo9 ≤ Mx ∧ ∀ i, i < LL → (dgN LL gg) i = gg i from ⟨⟨by omega, by omega, dg_lt r3⟩, by omega, by omega, by omega, fun i hi => by show dgN LL gg i = gg i; unfold dgN; rw [if_pos hi]⟩) (S.sub [0, 2] (by decide) rfl) d_Wh_room_38 (show 0 + (1) ≤ mo9 - LL from by omega) (show 0 + (mo9) ≤ 2 * (mo9 - LL) from by omega) (show 0 + (1) ≤ Mx from by omega) (show 0 + (mo9) ≤ 2 * Mx from by omega)
    · refine lv_iload_n hx hb d_Wh_room_27 rfl (lv_at hl 0 rfl) ?_
      refine lv_goto (tgt := 32) hx hb d_Wh_room_28 (by decide) ?_
      refine q_back0 (wi := [(dd, .inl (k 0, LL, .inl (fun i => nI (gg i))))]) (wr := [(h0, .inr (2, [.ref dd, .int xs9, .int ys9]))]) S hA [1] [0] rfl rfl (by decide) (by decide) (va_runS (As := [.ref dd, .int (nI (2 * LL))]) (rest := [.ref h0]) ⟨hx, hb, C.2.2.1, C.2.2.2.1, C.2.2.2.2.1⟩ (g_JA_copyOf l G k _ _ dd LL (2 * LL) gg (by first | assumption | omega) (by first | assumption | omega)) (k_stat (n := 2) C wc_JA_copyOf rfl rfl wz_JA wm_Wh_95 wt_JA_copyOf (by decide +kernel) ⟨(Nat.le_of_ble_eq_true rfl), (Nat.le_of_ble_eq_true rfl)⟩) (pr_nowG K S [1] (by decide) rfl) rfl rfl hl.1 rfl (lv_room (Nat.le_of_ble_eq_true rfl)) d_Wh_room_32 ⟨(show 0 + 1 ≤ Mx from by omega), (show 0 + (2 * LL) ≤ 2 * Mx from by omega)⟩) (fun u5 H locs hw6 S => ?_)
      have S : Sw G A s.heap _ _ [(h0, .inr (2, [.ref dd, .int xs9, .int ys9])), (dd, .inl (k 0, LL, .inl (fun i => nI (gg i)))), (u5, .inl (k 0, (2 * LL), .inl (fun i => nI (dgN LL gg i))))] := S
      have hw6 : True := hw6
      show W p l e _ s m _ below meth c H locs _ _ _ (F0 m 35 ls [.ref u5, .ref h0])
      refine r_put C K S 0 rfl rfl clOk_Wh 0 (by decide) wf_Wh_9 rfl (ty := .array .int) (v := .ref u5) (by decide +kernel) rfl rfl (Nat.le_of_ble_eq_true rfl) (fs' := [.ref u5, .int xs9, .int ys9]) (ws' := [(h0, .inr (2, [.ref u5, .int xs9, .int ys9])), (dd, .inl (k 0, LL, .inl (fun i => nI (gg i)))), (u5, .inl (k 0, (2 * LL), .inl (fun i => nI (dgN LL gg i))))]) rfl rfl d_Wh_room_35 (fun H locs S => ?_)
      exact q_vret C K hsz (u5, (2 * LL), dgN LL gg) (show raO (2 * LL) (dgN LL gg) ∧ LL ≤ (2 * LL) ∧ mo9 ≤ (2 * LL) ∧ (2 * LL) ≤ Mx ∧ ∀ i, i < LL → (dgN LL gg) i = gg i from ⟨⟨by omega, by omega, dg_lt r3⟩, by omega, by omega, by omega, fun i hi => by show dgN LL gg i = gg i; unfold dgN; rw [if_pos hi]⟩) (S.sub [0, 2] (by decide) rfl) d_Wh_room_38 (show 0 + (1) ≤ (2 * LL) - LL from by omega) (show 0 + ((2 * LL)) ≤ 2 * ((2 * LL) - LL) from by omega) (show 0 + (1) ≤ Mx from by omega) (show 0 + ((2 * LL)) ≤ 2 * Mx from by omega)
theorem d_Wh_trim_0 : decode c_Wh_trim 0 = .ok (.aload_n 0, 1) := by decide +kernel
theorem d_Wh_trim_1 : decode c_Wh_trim 1 = .ok (.iload_n 1, 1) := by decide +kernel
theorem d_Wh_trim_2 : decode c_Wh_trim 2 = .ok (.putfield 29, 3) := by decide +kernel
theorem d_Wh_trim_5 : decode c_Wh_trim 5 = .ok (.aload_n 0, 1) := by decide +kernel
theorem d_Wh_trim_6 : decode c_Wh_trim 6 = .ok (.getfield 29, 3) := by decide +kernel
theorem d_Wh_trim_9 : decode c_Wh_trim 9 = .ok (.ifCond .le 30, 3) := by decide +kernel
theorem d_Wh_trim_12 : decode c_Wh_trim 12 = .ok (.aload_n 0, 1) := by decide +kernel
theorem d_Wh_trim_13 : decode c_Wh_trim 13 = .ok (.getfield 9, 3) := by decide +kernel
theorem d_Wh_trim_16 : decode c_Wh_trim 16 = .ok (.aload_n 0, 1) := by decide +kernel
theorem d_Wh_trim_17 : decode c_Wh_trim 17 = .ok (.getfield 29, 3) := by decide +kernel
theorem d_Wh_trim_20 : decode c_Wh_trim 20 = .ok (.iconst 1, 1) := by decide +kernel
theorem d_Wh_trim_21 : decode c_Wh_trim 21 = .ok (.isub, 1) := by decide +kernel
theorem d_Wh_trim_22 : decode c_Wh_trim 22 = .ok (.iaload, 1) := by decide +kernel
theorem d_Wh_trim_23 : decode c_Wh_trim 23 = .ok (.ifCond .ne 16, 3) := by decide +kernel
theorem d_Wh_trim_26 : decode c_Wh_trim 26 = .ok (.aload_n 0, 1) := by decide +kernel
theorem d_Wh_trim_27 : decode c_Wh_trim 27 = .ok (.dup, 1) := by decide +kernel
theorem d_Wh_trim_28 : decode c_Wh_trim 28 = .ok (.getfield 29, 3) := by decide +kernel
theorem d_Wh_trim_31 : decode c_Wh_trim 31 = .ok (.iconst 1, 1) := by decide +kernel
theorem d_Wh_trim_32 : decode c_Wh_trim 32 = .ok (.isub, 1) := by decide +kernel
theorem d_Wh_trim_33 : decode c_Wh_trim 33 = .ok (.putfield 29, 3) := by decide +kernel
theorem d_Wh_trim_36 : decode c_Wh_trim 36 = .ok (.goto (-31), 3) := by decide +kernel
theorem d_Wh_trim_39 : decode c_Wh_trim 39 = .ok (.aload_n 0, 1) := by decide +kernel
theorem d_Wh_trim_40 : decode c_Wh_trim 40 = .ok (.getfield 29, 3) := by decide +kernel
theorem d_Wh_trim_43 : decode c_Wh_trim 43 = .ok (.ifCond .ne 8, 3) := by decide +kernel
theorem d_Wh_trim_46 : decode c_Wh_trim 46 = .ok (.aload_n 0, 1) := by decide +kernel
theorem d_Wh_trim_47 : decode c_Wh_trim 47 = .ok (.iconst 0, 1) := by decide +kernel
theorem d_Wh_trim_48 : decode c_Wh_trim 48 = .ok (.putfield 19, 3) := by decide +kernel
theorem d_Wh_trim_51 : decode c_Wh_trim 51 = .ok (.return_, 1) := by decide +kernel
set_option maxRecDepth 100000 in
set_option maxHeartbeats 16000000 in
/-- trim -/
theorem g_Wh_trim (l : Launch) (G : va_G) (k : Nat → ClassId) (h0 : Nat) (s0 sl : Nat) (mo9 : Nat) (dd : Nat) (LL : Nat) (xs9 : Int32) (ys9 : Int32) (gg : Nat → Nat) (hr : raO LL gg) (hm1 : mo9 ≤ LL) : CG l y_Wh_trim c_Wh_trim 2 none { frames := 0, cells := 0, slots := 0, locals := 0 } [.ref h0, .int (nI mo9)] G k s0 sl [(h0, .inr (2, [.ref dd, .int xs9, .int ys9])), (dd, .inl (k 0, LL, .inl (fun i => nI (gg i))))] (fun (u : Nat) => none) (fun (u : Nat) => u ≤ mo9 ∧ (u = 0 ∨ gg (u - 1) ≠ 0) ∧ vl 2147483648 gg u = vl 2147483648 gg mo9) (fun (u : Nat) => [(h0, .inr (2, [.ref dd, .int (nI u), .int (if u = 0 then 0 else ys9)])), (dd, .inl (k 0, LL, .inl (fun i => nI (gg i))))]) (fun (u : Nat) => 0) (fun (u : Nat) => 0) 0 0 := by
  refine met_startG (by decide) (Nat.le_of_ble_eq_true rfl) ?_
  intro p e s m below meth c C K hA hsz S ls hl
  generalize va_A [(h0, .inr (2, [.ref dd, .int xs9, .int ys9])), (dd, .inl (k 0, LL, .inl (fun i => nI (gg i))))] s0 = A at hA S ⊢
  have hx := C.1
  have hb := C.2.1
  have hl : lv_has ls 2 [(0, .ref h0), (1, .int (nI mo9))] := hl
  have hr0 := hr
  obtain ⟨r1, r2, r3⟩ := hr0
  refine lv_aload_n hx hb d_Wh_trim_0 rfl (lv_at hl 0 rfl) ?_
  refine lv_iload_n hx hb d_Wh_trim_1 rfl (lv_at hl 1 rfl) ?_
  refine r_put C K S 0 rfl rfl clOk_Wh 1 (by decide) wf_Wh_29 rfl (ty := .int) (v := .int (nI mo9)) (by decide +kernel) rfl rfl (Nat.le_of_ble_eq_true rfl) (fs' := [.ref dd, .int (nI mo9), .int ys9]) (ws' := [(h0, .inr (2, [.ref dd, .int (nI mo9), .int ys9])), (dd, .inl (k 0, LL, .inl (fun i => nI (gg i))))]) rfl rfl d_Wh_trim_2 (fun H locs S => ?_)
  have lp : ∀ d9, ∀ (t9 : Nat), t9 < d9 → (t9 ≤ mo9) → (vl 2147483648 gg t9 = vl 2147483648 gg mo9) → ∀ (H : Heap) (locs : List Loc), Sw G A s.heap H locs [(h0, .inr (2, [.ref dd, .int (nI t9), .int ys9])), (dd, .inl (k 0, LL, .inl (fun i => nI (gg i))))] → ∀ ls : Array Slot, lv_has ls 2 [(0, .ref h0), (1, .int (nI mo9))] → W p l e { frames := 0, cells := 0, slots := 0, locals := 0 } s m [Value.ref h0, Value.int (nI mo9)].toArray below meth c H locs 0 0 (MQ below (va_Qg (fun (u : Nat) => none) (fun (u : Nat) => u ≤ mo9 ∧ (u = 0 ∨ gg (u - 1) ≠ 0) ∧ vl 2147483648 gg u = vl 2147483648 gg mo9) (Pog G k A (fun (u : Nat) => [(h0, .inr (2, [.ref dd, .int (nI u), .int (if u = 0 then 0 else ys9)])), (dd, .inl (k 0, LL, .inl (fun i => nI (gg i))))]) s0 sl (fun (u : Nat) => 0) (fun (u : Nat) => 0)) A) [Value.ref h0, Value.int (nI mo9)].toArray s 0 0 A) (F0 m 5 ls []) := by
    intro d9
    induction d9 with
    | zero => intro t9 hm; exact absurd hm (Nat.not_lt_zero _)
    | succ d9 ih_lp =>
      intro t9 hm ht hv9 H locs S ls hl
      have hd9 := r3 (t9 - 1)
      refine lv_aload_n hx hb d_Wh_trim_5 rfl (lv_at hl 0 rfl) ?_
      refine r_get C K S 0 rfl rfl clOk_Wh 1 (by decide) wf_Wh_29 (v := .int (nI t9)) rfl d_Wh_trim_6 ?_
      refine z_if_le (a := t9) (tgt := 39) hx hb d_Wh_trim_9 (by decide) (by omega) (fun hc1 => ?_) (fun hc1 => ?_)
      · refine lv_aload_n hx hb d_Wh_trim_39 rfl (lv_at hl 0 rfl) ?_
        refine r_get C K S 0 rfl rfl clOk_Wh 1 (by decide) wf_Wh_29 (v := .int (nI t9)) rfl d_Wh_trim_40 ?_
        refine z_if_ne (a := t9) (tgt := 51) hx hb d_Wh_trim_43 (by decide) (by omega) (fun hc2 => ?_) (fun hc2 => ?_)
        · have S : Sw G A s.heap H locs [(h0, .inr (2, [.ref dd, .int (nI t9), .int (if t9 = 0 then 0 else ys9)])), (dd, .inl (k 0, LL, .inl (fun i => nI (gg i))))] := by rw [if_neg (by omega)]; exact S
          exact q_vret C K hsz t9 (show t9 ≤ mo9 ∧ (t9 = 0 ∨ gg (t9 - 1) ≠ 0) ∧ vl 2147483648 gg t9 = vl 2147483648 gg mo9 from ⟨ht, Or.inl (by omega), hv9⟩) (S.sub [0, 1] (by decide) rfl) d_Wh_trim_51 (Nat.zero_le _) (Nat.zero_le _) (Nat.zero_le _) (Nat.zero_le _)
        · refine lv_aload_n hx hb d_Wh_trim_46 rfl (lv_at hl 0 rfl) ?_
          refine lv_iconst (v := 0) hx hb d_Wh_trim_47 (by decide) ?_
          refine r_put C K S 0 rfl rfl clOk_Wh 2 (by decide) wf_Wh_19 rfl (ty := .int) (v := .int 0) (by decide +kernel) rfl rfl (Nat.le_of_ble_eq_true rfl) (fs' := [.ref dd, .int (nI t9), .int 0]) (ws' := [(h0, .inr (2, [.ref dd, .int (nI t9), .int 0])), (dd, .inl (k 0, LL, .inl (fun i => nI (gg i))))]) rfl rfl d_Wh_trim_48 (fun H locs S => ?_)
          have S : Sw G A s.heap H locs [(h0, .inr (2, [.ref dd, .int (nI t9), .int (if t9 = 0 then 0 else ys9)])), (dd, .inl (k 0, LL, .inl (fun i => nI (gg i))))] := by rw [if_pos (by omega)]; exact S
          exact q_vret C K hsz t9 (show t9 ≤ mo9 ∧ (t9 = 0 ∨ gg (t9 - 1) ≠ 0) ∧ vl 2147483648 gg t9 = vl 2147483648 gg mo9 from ⟨ht, Or.inl (by omega), hv9⟩) (S.sub [0, 1] (by decide) rfl) d_Wh_trim_51 (Nat.zero_le _) (Nat.zero_le _) (Nat.zero_le _) (Nat.zero_le _)
      · refine lv_aload_n hx hb d_Wh_trim_12 rfl (lv_at hl 0 rfl) ?_
        refine r_get C K S 0 rfl rfl clOk_Wh 0 (by decide) wf_Wh_9 (v := .ref dd) rfl d_Wh_trim_13 ?_
        refine lv_aload_n hx hb d_Wh_trim_16 rfl (lv_at hl 0 rfl) ?_
        refine r_get C K S 0 rfl rfl clOk_Wh 1 (by decide) wf_Wh_29 (v := .int (nI t9)) rfl d_Wh_trim_17 ?_
        refine lv_iconst (v := 1) hx hb d_Wh_trim_20 (by decide) ?_
        refine z_isub (x := nI t9) (y := 1) (v := nI (t9 - 1)) hx hb d_Wh_trim_21 (pk_sub (a := t9) (b := 1) (by omega)) ?_
        refine r_iald C K S 1 rfl (i := nI (t9 - 1)) (show vp_in (nI (t9 - 1)) _ from vp_in_nI (n := (t9 - 1)) (by omega) (by omega)) (v := nI (gg (t9 - 1))) (by rw [nI_clamp (by omega)]) d_Wh_trim_22 ?_
        refine z_if_ne (a := (gg (t9 - 1))) (tgt := 39) hx hb d_Wh_trim_23 (by decide) (by omega) (fun hc3 => ?_) (fun hc3 => ?_)
        · refine lv_aload_n hx hb d_Wh_trim_39 rfl (lv_at hl 0 rfl) ?_
          refine r_get C K S 0 rfl rfl clOk_Wh 1 (by decide) wf_Wh_29 (v := .int (nI t9)) rfl d_Wh_trim_40 ?_
          refine z_if_ne (a := t9) (tgt := 51) hx hb d_Wh_trim_43 (by decide) (by omega) (fun hc4 => ?_) (fun hc4 => ?_)
          · have S : Sw G A s.heap H locs [(h0, .inr (2, [.ref dd, .int (nI t9), .int (if t9 = 0 then 0 else ys9)])), (dd, .inl (k 0, LL, .inl (fun i => nI (gg i))))] := by rw [if_neg (by omega)]; exact S
            exact q_vret C K hsz t9 (show t9 ≤ mo9 ∧ (t9 = 0 ∨ gg (t9 - 1) ≠ 0) ∧ vl 2147483648 gg t9 = vl 2147483648 gg mo9 from ⟨ht, Or.inr (by omega), hv9⟩) (S.sub [0, 1] (by decide) rfl) d_Wh_trim_51 (Nat.zero_le _) (Nat.zero_le _) (Nat.zero_le _) (Nat.zero_le _)
          · refine lv_aload_n hx hb d_Wh_trim_46 rfl (lv_at hl 0 rfl) ?_
            refine lv_iconst (v := 0) hx hb d_Wh_trim_47 (by decide) ?_
            refine r_put C K S 0 rfl rfl clOk_Wh 2 (by decide) wf_Wh_19 rfl (ty := .int) (v := .int 0) (by decide +kernel) rfl rfl (Nat.le_of_ble_eq_true rfl) (fs' := [.ref dd, .int (nI t9), .int 0]) (ws' := [(h0, .inr (2, [.ref dd, .int (nI t9), .int 0])), (dd, .inl (k 0, LL, .inl (fun i => nI (gg i))))]) rfl rfl d_Wh_trim_48 (fun H locs S => ?_)
            have S : Sw G A s.heap H locs [(h0, .inr (2, [.ref dd, .int (nI t9), .int (if t9 = 0 then 0 else ys9)])), (dd, .inl (k 0, LL, .inl (fun i => nI (gg i))))] := by rw [if_pos (by omega)]; exact S
            exact q_vret C K hsz t9 (show t9 ≤ mo9 ∧ (t9 = 0 ∨ gg (t9 - 1) ≠ 0) ∧ vl 2147483648 gg t9 = vl 2147483648 gg mo9 from ⟨ht, Or.inr (by omega), hv9⟩) (S.sub [0, 1] (by decide) rfl) d_Wh_trim_51 (Nat.zero_le _) (Nat.zero_le _) (Nat.zero_le _) (Nat.zero_le _)
        · refine lv_aload_n hx hb d_Wh_trim_26 rfl (lv_at hl 0 rfl) ?_
          refine lv_dup hx hb d_Wh_trim_27 rfl ?_
          refine r_get C K S 0 rfl rfl clOk_Wh 1 (by decide) wf_Wh_29 (v := .int (nI t9)) rfl d_Wh_trim_28 ?_
          refine lv_iconst (v := 1) hx hb d_Wh_trim_31 (by decide) ?_
          refine z_isub (x := nI t9) (y := 1) (v := nI (t9 - 1)) hx hb d_Wh_trim_32 (pk_sub (a := t9) (b := 1) (by omega)) ?_
          refine r_put C K S 0 rfl rfl clOk_Wh 1 (by decide) wf_Wh_29 rfl (ty := .int) (v := .int (nI (t9 - 1))) (by decide +kernel) rfl rfl (Nat.le_of_ble_eq_true rfl) (fs' := [.ref dd, .int (nI (t9 - 1)), .int ys9]) (ws' := [(h0, .inr (2, [.ref dd, .int (nI (t9 - 1)), .int ys9])), (dd, .inl (k 0, LL, .inl (fun i => nI (gg i))))]) rfl rfl d_Wh_trim_33 (fun H locs S => ?_)
          refine lv_goto (tgt := 5) hx hb d_Wh_trim_36 (by decide) ?_
          exact ih_lp (t9 - 1) (by omega) (by omega) (by obtain ⟨y9, hy9⟩ : ∃ y, t9 = y + 1 := ⟨t9 - 1, by omega⟩; subst hy9; rw [vl_s, show gg y9 = 0 by have := hc3; rw [show y9 + 1 - 1 = y9 by omega] at this; exact this, Nat.zero_mul, Nat.add_zero] at hv9; exact hv9) _ _ (S.sub [0, 1] (by decide) rfl) ls (lv_sub hl [0, 1] rfl)
  exact lp _ mo9 (Nat.lt_succ_self _) (by omega) rfl _ _ (S.sub [0, 1] (by decide) rfl) ls (lv_sub hl [0, 1] rfl)
theorem d_Wh_sign_0 : decode c_Wh_sign 0 = .ok (.aload_n 0, 1) := by decide +kernel
theorem d_Wh_sign_1 : decode c_Wh_sign 1 = .ok (.getfield 19, 3) := by decide +kernel
theorem d_Wh_sign_4 : decode c_Wh_sign 4 = .ok (.ireturn, 1) := by decide +kernel
set_option maxRecDepth 100000 in
set_option maxHeartbeats 16000000 in
/-- sign -/
theorem g_Wh_sign (l : Launch) (G : va_G) (k : Nat → ClassId) (h0 : Nat) (s0 sl : Nat) (dd : Nat) (LL : Nat) (nn9 : Nat) (gg : Nat → Nat) (zz : Int) : CG l y_Wh_sign c_Wh_sign 1 (some .int) { frames := 0, cells := 0, slots := 0, locals := 0 } [.ref h0] G k s0 sl [(h0, .inr (2, [.ref dd, .int (nI nn9), .int (sgI zz)])), (dd, .inl (k 0, LL, .inl (fun i => nI (gg i))))] (fun (u : Unit) => some (.int (sgI zz))) (fun (u : Unit) => True) (fun (u : Unit) => [(h0, .inr (2, [.ref dd, .int (nI nn9), .int (sgI zz)])), (dd, .inl (k 0, LL, .inl (fun i => nI (gg i))))]) (fun (u : Unit) => 0) (fun (u : Unit) => 0) 0 0 := by
  refine met_startG (by decide) (Nat.le_of_ble_eq_true rfl) ?_
  intro p e s m below meth c C K hA hsz S ls hl
  generalize va_A [(h0, .inr (2, [.ref dd, .int (nI nn9), .int (sgI zz)])), (dd, .inl (k 0, LL, .inl (fun i => nI (gg i))))] s0 = A at hA S ⊢
  have hx := C.1
  have hb := C.2.1
  have hl : lv_has ls 1 [(0, .ref h0)] := hl
  refine lv_aload_n hx hb d_Wh_sign_0 rfl (lv_at hl 0 rfl) ?_
  refine r_get C K S 0 rfl rfl clOk_Wh 2 (by decide) wf_Wh_19 (v := .int (sgI zz)) rfl d_Wh_sign_1 ?_
  exact q_iret C K hsz rfl () rfl trivial (S.sub [0, 1] (by decide) rfl) d_Wh_sign_4 (Nat.zero_le _) (Nat.zero_le _) (Nat.zero_le _) (Nat.zero_le _)
theorem d_Wh_isSmall_0 : decode c_Wh_isSmall 0 = .ok (.aload_n 0, 1) := by decide +kernel
theorem d_Wh_isSmall_1 : decode c_Wh_isSmall 1 = .ok (.getfield 29, 3) := by decide +kernel
theorem d_Wh_isSmall_4 : decode c_Wh_isSmall 4 = .ok (.iconst 1, 1) := by decide +kernel
theorem d_Wh_isSmall_5 : decode c_Wh_isSmall 5 = .ok (.if_icmp .gt 7, 3) := by decide +kernel
theorem d_Wh_isSmall_8 : decode c_Wh_isSmall 8 = .ok (.iconst 1, 1) := by decide +kernel
theorem d_Wh_isSmall_9 : decode c_Wh_isSmall 9 = .ok (.goto 4, 3) := by decide +kernel
theorem d_Wh_isSmall_12 : decode c_Wh_isSmall 12 = .ok (.iconst 0, 1) := by decide +kernel
theorem d_Wh_isSmall_13 : decode c_Wh_isSmall 13 = .ok (.ireturn, 1) := by decide +kernel
set_option maxRecDepth 100000 in
set_option maxHeartbeats 16000000 in
/-- isSmall -/
theorem g_Wh_isSmall (l : Launch) (G : va_G) (k : Nat → ClassId) (h0 : Nat) (s0 sl : Nat) (dd : Nat) (LL : Nat) (nn9 : Nat) (gg : Nat → Nat) (zz : Int) (hw : whO LL nn9 gg zz) : CG l y_Wh_isSmall c_Wh_isSmall 1 (some .boolean) { frames := 0, cells := 0, slots := 0, locals := 0 } [.ref h0] G k s0 sl [(h0, .inr (2, [.ref dd, .int (nI nn9), .int (sgI zz)])), (dd, .inl (k 0, LL, .inl (fun i => nI (gg i))))] (fun (u : Unit) => some (.int (nI (if nn9 ≤ 1 then 1 else 0)))) (fun (u : Unit) => True) (fun (u : Unit) => [(h0, .inr (2, [.ref dd, .int (nI nn9), .int (sgI zz)])), (dd, .inl (k 0, LL, .inl (fun i => nI (gg i))))]) (fun (u : Unit) => 0) (fun (u : Unit) => 0) 0 0 := by
  refine met_startG (by decide) (Nat.le_of_ble_eq_true rfl) ?_
  intro p e s m below meth c C K hA hsz S ls hl
  generalize va_A [(h0, .inr (2, [.ref dd, .int (nI nn9), .int (sgI zz)])), (dd, .inl (k 0, LL, .inl (fun i => nI (gg i))))] s0 = A at hA S ⊢
  have hx := C.1
  have hb := C.2.1
  have hl : lv_has ls 1 [(0, .ref h0)] := hl
  have hw0 := hw
  obtain ⟨w1, w2, w3, w4, w5, w6⟩ := hw0
  refine lv_aload_n hx hb d_Wh_isSmall_0 rfl (lv_at hl 0 rfl) ?_
  refine r_get C K S 0 rfl rfl clOk_Wh 1 (by decide) wf_Wh_29 (v := .int (nI nn9)) rfl d_Wh_isSmall_1 ?_
  refine lv_iconst (v := 1) hx hb d_Wh_isSmall_4 (by decide) ?_
  refine z_icmp_gt (a := nn9) (b := 1) (tgt := 12) hx hb d_Wh_isSmall_5 (by decide) (by omega) (by omega) (fun hc1 => ?_) (fun hc1 => ?_)
  · refine lv_iconst (v := 0) hx hb d_Wh_isSmall_12 (by decide) ?_
    exact q_iret C K hsz rfl () (by rw [if_neg (by omega)]; rfl) trivial (S.sub [0, 1] (by decide) rfl) d_Wh_isSmall_13 (Nat.zero_le _) (Nat.zero_le _) (Nat.zero_le _) (Nat.zero_le _)
  · refine lv_iconst (v := 1) hx hb d_Wh_isSmall_8 (by decide) ?_
    refine lv_goto (tgt := 13) hx hb d_Wh_isSmall_9 (by decide) ?_
    exact q_iret C K hsz rfl () (by rw [if_pos (by omega)]; rfl) trivial (S.sub [0, 1] (by decide) rfl) d_Wh_isSmall_13 (Nat.zero_le _) (Nat.zero_le _) (Nat.zero_le _) (Nat.zero_le _)
theorem d_Wh_small_0 : decode c_Wh_small 0 = .ok (.aload_n 0, 1) := by decide +kernel
theorem d_Wh_small_1 : decode c_Wh_small 1 = .ok (.getfield 19, 3) := by decide +kernel
theorem d_Wh_small_4 : decode c_Wh_small 4 = .ok (.i2l, 1) := by decide +kernel
theorem d_Wh_small_5 : decode c_Wh_small 5 = .ok (.aload_n 0, 1) := by decide +kernel
theorem d_Wh_small_6 : decode c_Wh_small 6 = .ok (.getfield 9, 3) := by decide +kernel
theorem d_Wh_small_9 : decode c_Wh_small 9 = .ok (.iconst 0, 1) := by decide +kernel
theorem d_Wh_small_10 : decode c_Wh_small 10 = .ok (.iaload, 1) := by decide +kernel
theorem d_Wh_small_11 : decode c_Wh_small 11 = .ok (.i2l, 1) := by decide +kernel
theorem d_Wh_small_12 : decode c_Wh_small 12 = .ok (.lmul, 1) := by decide +kernel
theorem d_Wh_small_13 : decode c_Wh_small 13 = .ok (.lreturn, 1) := by decide +kernel
set_option maxRecDepth 100000 in
set_option maxHeartbeats 16000000 in
/-- small -/
theorem g_Wh_small (l : Launch) (G : va_G) (k : Nat → ClassId) (h0 : Nat) (s0 sl : Nat) (dd : Nat) (LL : Nat) (nn9 : Nat) (gg : Nat → Nat) (zz : Int) (hw : whO LL nn9 gg zz) (hsm : nn9 ≤ 1) : CG l y_Wh_small c_Wh_small 1 (some .long) { frames := 0, cells := 0, slots := 0, locals := 0 } [.ref h0] G k s0 sl [(h0, .inr (2, [.ref dd, .int (nI nn9), .int (sgI zz)])), (dd, .inl (k 0, LL, .inl (fun i => nI (gg i))))] (fun (u : Unit) => some (.long (lZ zz))) (fun (u : Unit) => True) (fun (u : Unit) => [(h0, .inr (2, [.ref dd, .int (nI nn9), .int (sgI zz)])), (dd, .inl (k 0, LL, .inl (fun i => nI (gg i))))]) (fun (u : Unit) => 0) (fun (u : Unit) => 0) 0 0 := by
  refine met_startG (by decide) (Nat.le_of_ble_eq_true rfl) ?_
  intro p e s m below meth c C K hA hsz S ls hl
  generalize va_A [(h0, .inr (2, [.ref dd, .int (nI nn9), .int (sgI zz)])), (dd, .inl (k 0, LL, .inl (fun i => nI (gg i))))] s0 = A at hA S ⊢
  have hx := C.1
  have hb := C.2.1
  have hl : lv_has ls 1 [(0, .ref h0)] := hl
  have hw0 := hw
  obtain ⟨w1, w2, w3, w4, w5, w6⟩ := hw0
  have d0 := w4 0
  refine lv_aload_n hx hb d_Wh_small_0 rfl (lv_at hl 0 rfl) ?_
  refine r_get C K S 0 rfl rfl clOk_Wh 2 (by decide) wf_Wh_19 (v := .int (sgI zz)) rfl d_Wh_small_1 ?_
  refine lv_i2l (v := (sgI zz).toInt64) hx hb d_Wh_small_4 rfl ?_
  refine lv_aload_n hx hb d_Wh_small_5 rfl (lv_at hl 0 rfl) ?_
  refine r_get C K S 0 rfl rfl clOk_Wh 0 (by decide) wf_Wh_9 (v := .ref dd) rfl d_Wh_small_6 ?_
  refine lv_iconst (v := 0) hx hb d_Wh_small_9 (by decide) ?_
  refine r_iald C K S 1 rfl (i := 0) (show vp_in (0) _ from vp_in_nI (n := 0) (by omega) (by omega)) (v := nI (gg 0)) (by rw [show (0 : Int32).toNatClampNeg = 0 from by decide]) d_Wh_small_10 ?_
  refine lv_i2l (v := lN (gg 0)) hx hb d_Wh_small_11 (show (nI (gg 0) : Int32).toInt64 = _ from nI_l (n := (gg 0)) (by omega)) ?_
  refine z_lmul (v := lZ zz) hx hb d_Wh_small_12 (small_val hw hsm) ?_
  exact q_lret C K hsz () rfl trivial (S.sub [0, 1] (by decide) rfl) d_Wh_small_13 (Nat.zero_le _) (Nat.zero_le _) (Nat.zero_le _) (Nat.zero_le _)
theorem d_Wh_digit_0 : decode c_Wh_digit 0 = .ok (.iload_n 1, 1) := by decide +kernel
theorem d_Wh_digit_1 : decode c_Wh_digit 1 = .ok (.aload_n 0, 1) := by decide +kernel
theorem d_Wh_digit_2 : decode c_Wh_digit 2 = .ok (.getfield 29, 3) := by decide +kernel
theorem d_Wh_digit_5 : decode c_Wh_digit 5 = .ok (.if_icmp .ge 12, 3) := by decide +kernel
theorem d_Wh_digit_8 : decode c_Wh_digit 8 = .ok (.aload_n 0, 1) := by decide +kernel
theorem d_Wh_digit_9 : decode c_Wh_digit 9 = .ok (.getfield 9, 3) := by decide +kernel
theorem d_Wh_digit_12 : decode c_Wh_digit 12 = .ok (.iload_n 1, 1) := by decide +kernel
theorem d_Wh_digit_13 : decode c_Wh_digit 13 = .ok (.iaload, 1) := by decide +kernel
theorem d_Wh_digit_14 : decode c_Wh_digit 14 = .ok (.goto 4, 3) := by decide +kernel
theorem d_Wh_digit_17 : decode c_Wh_digit 17 = .ok (.iconst 0, 1) := by decide +kernel
theorem d_Wh_digit_18 : decode c_Wh_digit 18 = .ok (.ireturn, 1) := by decide +kernel
set_option maxRecDepth 100000 in
set_option maxHeartbeats 16000000 in
/-- digit -/
theorem g_Wh_digit (l : Launch) (G : va_G) (k : Nat → ClassId) (h0 : Nat) (s0 sl : Nat) (j9 : Nat) (dd : Nat) (LL : Nat) (nn9 : Nat) (ys9 : Int32) (gg : Nat → Nat) (hr : raO LL gg) (hn : nn9 ≤ LL) (hj : j9 < 2147483648) : CG l y_Wh_digit c_Wh_digit 2 (some .int) { frames := 0, cells := 0, slots := 0, locals := 0 } [.ref h0, .int (nI j9)] G k s0 sl [(h0, .inr (2, [.ref dd, .int (nI nn9), .int ys9])), (dd, .inl (k 0, LL, .inl (fun i => nI (gg i))))] (fun (u : Unit) => some (.int (nI (dgN nn9 gg j9)))) (fun (u : Unit) => True) (fun (u : Unit) => [(h0, .inr (2, [.ref dd, .int (nI nn9), .int ys9])), (dd, .inl (k 0, LL, .inl (fun i => nI (gg i))))]) (fun (u : Unit) => 0) (fun (u : Unit) => 0) 0 0 := by
  refine met_startG (by decide) (Nat.le_of_ble_eq_true rfl) ?_
  intro p e s m below meth c C K hA hsz S ls hl
  generalize va_A [(h0, .inr (2, [.ref dd, .int (nI nn9), .int ys9])), (dd, .inl (k 0, LL, .inl (fun i => nI (gg i))))] s0 = A at hA S ⊢
  have hx := C.1
  have hb := C.2.1
  have hl : lv_has ls 2 [(0, .ref h0), (1, .int (nI j9))] := hl
  have hr0 := hr
  obtain ⟨r1, r2, r3⟩ := hr0
  refine lv_iload_n hx hb d_Wh_digit_0 rfl (lv_at hl 1 rfl) ?_
  refine lv_aload_n hx hb d_Wh_digit_1 rfl (lv_at hl 0 rfl) ?_
  refine r_get C K S 0 rfl rfl clOk_Wh 1 (by decide) wf_Wh_29 (v := .int (nI nn9)) rfl d_Wh_digit_2 ?_
  refine z_icmp_ge (a := j9) (b := nn9) (tgt := 17) hx hb d_Wh_digit_5 (by decide) (by omega) (by omega) (fun hc1 => ?_) (fun hc1 => ?_)
  · refine lv_iconst (v := 0) hx hb d_Wh_digit_17 (by decide) ?_
    exact q_iret C K hsz rfl () (by unfold dgN; rw [if_neg (by omega)]; rfl) trivial (S.sub [0, 1] (by decide) rfl) d_Wh_digit_18 (Nat.zero_le _) (Nat.zero_le _) (Nat.zero_le _) (Nat.zero_le _)
  · refine lv_aload_n hx hb d_Wh_digit_8 rfl (lv_at hl 0 rfl) ?_
    refine r_get C K S 0 rfl rfl clOk_Wh 0 (by decide) wf_Wh_9 (v := .ref dd) rfl d_Wh_digit_9 ?_
    refine lv_iload_n hx hb d_Wh_digit_12 rfl (lv_at hl 1 rfl) ?_
    refine r_iald C K S 1 rfl (i := nI j9) (show vp_in (nI j9) _ from vp_in_nI (n := j9) (by omega) (by omega)) (v := nI (gg j9)) (by rw [nI_clamp (by omega)]) d_Wh_digit_13 ?_
    refine lv_goto (tgt := 18) hx hb d_Wh_digit_14 (by decide) ?_
    exact q_iret C K hsz rfl () (by unfold dgN; rw [if_pos (by omega)]) trivial (S.sub [0, 1] (by decide) rfl) d_Wh_digit_18 (Nat.zero_le _) (Nat.zero_le _) (Nat.zero_le _) (Nat.zero_le _)
theorem d_Wh_negate_0 : decode c_Wh_negate 0 = .ok (.aload_n 0, 1) := by decide +kernel
theorem d_Wh_negate_1 : decode c_Wh_negate 1 = .ok (.aload_n 0, 1) := by decide +kernel
theorem d_Wh_negate_2 : decode c_Wh_negate 2 = .ok (.getfield 19, 3) := by decide +kernel
theorem d_Wh_negate_5 : decode c_Wh_negate 5 = .ok (.ineg, 1) := by decide +kernel
theorem d_Wh_negate_6 : decode c_Wh_negate 6 = .ok (.putfield 19, 3) := by decide +kernel
theorem d_Wh_negate_9 : decode c_Wh_negate 9 = .ok (.return_, 1) := by decide +kernel
set_option maxRecDepth 100000 in
set_option maxHeartbeats 16000000 in
/-- negate -/
theorem g_Wh_negate (l : Launch) (G : va_G) (k : Nat → ClassId) (h0 : Nat) (s0 sl : Nat) (dd : Nat) (LL : Nat) (nn9 : Nat) (gg : Nat → Nat) (zz : Int) : CG l y_Wh_negate c_Wh_negate 1 none { frames := 0, cells := 0, slots := 0, locals := 0 } [.ref h0] G k s0 sl [(h0, .inr (2, [.ref dd, .int (nI nn9), .int (sgI zz)])), (dd, .inl (k 0, LL, .inl (fun i => nI (gg i))))] (fun (u : Unit) => none) (fun (u : Unit) => True) (fun (u : Unit) => [(h0, .inr (2, [.ref dd, .int (nI nn9), .int (sgI (-zz))])), (dd, .inl (k 0, LL, .inl (fun i => nI (gg i))))]) (fun (u : Unit) => 0) (fun (u : Unit) => 0) 0 0 := by
  refine met_startG (by decide) (Nat.le_of_ble_eq_true rfl) ?_
  intro p e s m below meth c C K hA hsz S ls hl
  generalize va_A [(h0, .inr (2, [.ref dd, .int (nI nn9), .int (sgI zz)])), (dd, .inl (k 0, LL, .inl (fun i => nI (gg i))))] s0 = A at hA S ⊢
  have hx := C.1
  have hb := C.2.1
  have hl : lv_has ls 1 [(0, .ref h0)] := hl
  refine lv_aload_n hx hb d_Wh_negate_0 rfl (lv_at hl 0 rfl) ?_
  refine lv_aload_n hx hb d_Wh_negate_1 rfl (lv_at hl 0 rfl) ?_
  refine r_get C K S 0 rfl rfl clOk_Wh 2 (by decide) wf_Wh_19 (v := .int (sgI zz)) rfl d_Wh_negate_2 ?_
  refine z_ineg (v := sgI (-zz)) hx hb d_Wh_negate_5 (sg_neg zz) ?_
  refine r_put C K S 0 rfl rfl clOk_Wh 2 (by decide) wf_Wh_19 rfl (ty := .int) (v := .int (sgI (-zz))) (by decide +kernel) rfl rfl (Nat.le_of_ble_eq_true rfl) (fs' := [.ref dd, .int (nI nn9), .int (sgI (-zz))]) (ws' := [(h0, .inr (2, [.ref dd, .int (nI nn9), .int (sgI (-zz))])), (dd, .inl (k 0, LL, .inl (fun i => nI (gg i))))]) rfl rfl d_Wh_negate_6 (fun H locs S => ?_)
  exact q_vret C K hsz () trivial (S.sub [0, 1] (by decide) rfl) d_Wh_negate_9 (Nat.zero_le _) (Nat.zero_le _) (Nat.zero_le _) (Nat.zero_le _)
end
