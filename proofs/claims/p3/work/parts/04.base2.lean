/-! the place's own rows, second part: what is made, arrays, calls, ends -/
theorem clOk_PB : clOk (R_PB, T_PB, 9) := ⟨in_PB, t_PB, k_PB, n_PB⟩
theorem clOk_So : clOk (R_So, T_So, 14) := ⟨in_So, t_So, k_So, n_So⟩
theorem clOk_Wh : clOk (R_Wh, T_Wh, 3) := ⟨in_Wh, t_Wh, k_Wh, n_Wh⟩
theorem clOk_Be : clOk (R_Be, T_Be, 8) := ⟨in_Be, t_Be, k_Be, n_Be⟩
theorem clOk_Bo : clOk (R_Bo, T_Bo, 9) := ⟨in_Bo, t_Bo, k_Bo, n_Bo⟩
theorem clOk_Re : clOk (R_Re, T_Re, 5) := ⟨in_Re, t_Re, k_Re, n_Re⟩
theorem clOk_Ru : clOk (R_Ru, T_Ru, 12) := ⟨in_Ru, t_Ru, k_Ru, n_Ru⟩
theorem clOk_Ne : clOk (R_Ne, T_Ne, 12) := ⟨in_Ne, t_Ne, k_Ne, n_Ne⟩
theorem clOk_Mo : clOk (R_Mo, T_Mo, 61) := ⟨in_Mo, t_Mo, k_Mo, n_Mo⟩
/-- an array class is told by its name -/
theorem ra_same {U : State} {cA cB : ClassId} {ty : FieldType} (h1 : va_RA U cA ty) (h2 : va_RA U cB ty) : cA = cB := by
  cases ty with
  | object C =>
    obtain ⟨_, _, _, _, _, h1⟩ := h1
    obtain ⟨_, _, _, _, _, h2⟩ := h2
    exact Option.some.inj (h1.symm.trans h2)
  | _ => exact Option.some.inj (Eq.trans (Eq.symm h1) h2)
section ROWS2
variable {p : Program} {l : Launch} {e : Env} {R : Room} {s : State} {m : MethodId} {args : Array Value} {below : List Frame} {meth : Method} {c : Code} {H : Heap} {locs : List Loc} {cells slots : Nat} {Q : State → Prop}
variable {cc : ByteArray} {own nm : String} {nL : Nat} {ret : Option FieldType} {G : va_G} {k : Nat → ClassId} {A : Nat → Prop} {ws : va_W} {pc : Nat} {ls : Array Slot} {rest : List Value} {a : Nat}
theorem r_newI (C : Cx p s m args meth c cc own nL ret nm) (K : Kn G k s) (S : Sw G A s.heap H locs ws) (hA : ∀ q, s.heap.size ≤ q → A q) {n : Int32} (N' : Nat) (hn : ¬ n < 0) (hN : n.toNatClampNeg = N') (hbytes : N' * 4 ≤ 536870912) (hcells : cells + 1 ≤ R.cells) (hslots : slots + N' ≤ R.slots) (hdg : decode cc pc = .ok (.newarray .int, 2))
    (kk : ∀ (q : Nat) (H1 : Heap), Sw G A s.heap H1 locs (ws ++ [(q, .inl (k 0, N', .inl (fun _ => 0)))]) → W p l e R s m args below meth c H1 locs (cells + 1) (slots + N') Q (F0 m (pc + 2) ls (.ref q :: rest))) : W p l e R s m args below meth c H locs cells slots Q (F0 m pc ls (.int n :: rest)) := by
  refine va_newa (atype := .int) (ty := .int) (a0 := (N', .inl (fun _ => 0))) C.1 C.2.1 (C.2.2.2.2.1 _ wa_int) rfl K.1 S.1 S.2.1 S.2.2 hA (fun cA => rfl) hn hN hbytes hcells hslots hdg (fun q cA H1 hK hP hD hS => ?_)
  have e1 : cA = k 0 := ra_same (hK.2 6 (cA, .int) rfl).2 (K.1.2 0 (k 0, .int) rfl).2
  subst e1
  exact kk q H1 ⟨hP, hD, hS⟩
theorem r_newJ (C : Cx p s m args meth c cc own nL ret nm) (K : Kn G k s) (S : Sw G A s.heap H locs ws) (hA : ∀ q, s.heap.size ≤ q → A q) {n : Int32} (N' : Nat) (hn : ¬ n < 0) (hN : n.toNatClampNeg = N') (hbytes : N' * 8 ≤ 536870912) (hcells : cells + 1 ≤ R.cells) (hslots : slots + N' ≤ R.slots) (hdg : decode cc pc = .ok (.newarray .long, 2))
    (kk : ∀ (q : Nat) (H1 : Heap), Sw G A s.heap H1 locs (ws ++ [(q, .inl (k 1, N', .inr (.inl (fun _ => 0))))]) → W p l e R s m args below meth c H1 locs (cells + 1) (slots + N') Q (F0 m (pc + 2) ls (.ref q :: rest))) : W p l e R s m args below meth c H locs cells slots Q (F0 m pc ls (.int n :: rest)) := by
  refine va_newa (atype := .long) (ty := .long) (a0 := (N', .inr (.inl (fun _ => 0)))) C.1 C.2.1 (C.2.2.2.2.1 _ wa_long) rfl K.1 S.1 S.2.1 S.2.2 hA (fun cA => rfl) hn hN hbytes hcells hslots hdg (fun q cA H1 hK hP hD hS => ?_)
  have e1 : cA = k 1 := ra_same (hK.2 6 (cA, .long) rfl).2 (K.1.2 1 (k 1, .long) rfl).2
  subst e1
  exact kk q H1 ⟨hP, hD, hS⟩
theorem r_newZ (C : Cx p s m args meth c cc own nL ret nm) (K : Kn G k s) (S : Sw G A s.heap H locs ws) (hA : ∀ q, s.heap.size ≤ q → A q) {n : Int32} (N' : Nat) (hn : ¬ n < 0) (hN : n.toNatClampNeg = N') (hbytes : N' * 1 ≤ 536870912) (hcells : cells + 1 ≤ R.cells) (hslots : slots + N' ≤ R.slots) (hdg : decode cc pc = .ok (.newarray .boolean, 2))
    (kk : ∀ (q : Nat) (H1 : Heap), Sw G A s.heap H1 locs (ws ++ [(q, .inl (k 2, N', .inl (fun _ => 0)))]) → W p l e R s m args below meth c H1 locs (cells + 1) (slots + N') Q (F0 m (pc + 2) ls (.ref q :: rest))) : W p l e R s m args below meth c H locs cells slots Q (F0 m pc ls (.int n :: rest)) := by
  refine va_newa (atype := .boolean) (ty := .boolean) (a0 := (N', .inl (fun _ => 0))) C.1 C.2.1 (C.2.2.2.2.1 _ wa_boolean) rfl K.1 S.1 S.2.1 S.2.2 hA (fun cA => rfl) hn hN hbytes hcells hslots hdg (fun q cA H1 hK hP hD hS => ?_)
  have e1 : cA = k 2 := ra_same (hK.2 6 (cA, .boolean) rfl).2 (K.1.2 2 (k 2, .boolean) rfl).2
  subst e1
  exact kk q H1 ⟨hP, hD, hS⟩
theorem r_newB (C : Cx p s m args meth c cc own nL ret nm) (K : Kn G k s) (S : Sw G A s.heap H locs ws) (hA : ∀ q, s.heap.size ≤ q → A q) {index : Nat} (hl : Cond.classLink own index "PotentialBench$Body" ∈ gt) {n : Int32} (N' : Nat) (hn : ¬ n < 0) (hN : n.toNatClampNeg = N') (hbytes : N' * 4 ≤ 536870912) (hcells : cells + 1 ≤ R.cells) (hslots : slots + N' ≤ R.slots) (hdg : decode cc pc = .ok (.anewarray index, 3))
    (kk : ∀ (q : Nat) (H1 : Heap), Sw G A s.heap H1 locs (ws ++ [(q, .inl (k 3, N', .inr (.inr (.inr (.inr (fun _ => none))))))]) → W p l e R s m args below meth c H1 locs (cells + 1) (slots + N') Q (F0 m (pc + 3) ls (.ref q :: rest))) : W p l e R s m args below meth c H locs cells slots Q (F0 m pc ls (.int n :: rest)) := by
  refine va_newq (C := "PotentialBench$Body") C.1 C.2.1 C.2.2.2.1 (C.2.2.2.2.1 _ hl) K.2.2.1 K.1 S.1 S.2.1 S.2.2 hA hn hN hbytes hcells hslots hdg (fun q cA H1 hK hP hD hS => ?_)
  have e1 : cA = k 3 := ra_same (hK.2 6 (cA, .object "PotentialBench$Body") rfl).2 (K.1.2 3 (k 3, .object "PotentialBench$Body") rfl).2
  subst e1
  exact kk q H1 ⟨hP, hD, hS⟩
theorem r_newW (C : Cx p s m args meth c cc own nL ret nm) (K : Kn G k s) (S : Sw G A s.heap H locs ws) (hA : ∀ q, s.heap.size ≤ q → A q) {index : Nat} (hl : Cond.classLink own index "PotentialBench$Whole" ∈ gt) {n : Int32} (N' : Nat) (hn : ¬ n < 0) (hN : n.toNatClampNeg = N') (hbytes : N' * 4 ≤ 536870912) (hcells : cells + 1 ≤ R.cells) (hslots : slots + N' ≤ R.slots) (hdg : decode cc pc = .ok (.anewarray index, 3))
    (kk : ∀ (q : Nat) (H1 : Heap), Sw G A s.heap H1 locs (ws ++ [(q, .inl (k 4, N', .inr (.inr (.inr (.inr (fun _ => none))))))]) → W p l e R s m args below meth c H1 locs (cells + 1) (slots + N') Q (F0 m (pc + 3) ls (.ref q :: rest))) : W p l e R s m args below meth c H locs cells slots Q (F0 m pc ls (.int n :: rest)) := by
  refine va_newq (C := "PotentialBench$Whole") C.1 C.2.1 C.2.2.2.1 (C.2.2.2.2.1 _ hl) K.2.2.2.1 K.1 S.1 S.2.1 S.2.2 hA hn hN hbytes hcells hslots hdg (fun q cA H1 hK hP hD hS => ?_)
  have e1 : cA = k 4 := ra_same (hK.2 6 (cA, .object "PotentialBench$Whole") rfl).2 (K.1.2 4 (k 4, .object "PotentialBench$Whole") rfl).2
  subst e1
  exact kk q H1 ⟨hP, hD, hS⟩
theorem r_multi (C : Cx p s m args meth c cc own nL ret nm) (K : Kn G k s) (S : Sw G A s.heap H locs ws) (hA : ∀ q, s.heap.size ≤ q → A q) {index : Nat} (hl : Cond.classLink own index "[[I" ∈ gt) {n j : Int32} (N M : Nat) (hn : ¬ n < 0) (hj : ¬ j < 0) (hN : n.toNatClampNeg = N) (hM : j.toNatClampNeg = M) (hb1 : N * 4 ≤ 536870912) (hb2 : M * 4 ≤ 536870912) (hcells : cells + (1 + N) ≤ R.cells) (hslots : slots + (N + N * M) ≤ R.slots) (hdg : decode cc pc = .ok (.multianewarray index 2, 4))
    (kk : ∀ (q : Nat) (H1 : Heap), Sw G A s.heap H1 locs ((ws ++ [(q, .inl (k 5, N, .inr (.inr (.inr (.inr (fun j => some (q + 1 + j)))))))]) ++ va_pl (mz_rows q N) (fun _ => .inl (k 0, M, .inl (fun _ => 0)))) → W p l e R s m args below meth c H1 locs (cells + (1 + N)) (slots + (N + N * M)) Q (F0 m (pc + 4) ls (.ref q :: rest))) : W p l e R s m args below meth c H locs cells slots Q (F0 m pc ls (.int j :: .int n :: rest)) := by
  refine mz_int C.1 C.2.1 C.2.2.2.1 (C.2.2.2.2.1 _ hl) K.2.2.2.2 (C.2.2.2.2.1 _ wa_int) K.1 S.1 S.2.1 S.2.2 hA hn hj hN hM hb1 hb2 hcells hslots hdg (fun q cA cR H1 hK hP hD hS => ?_)
  have e1 : cA = k 5 := ra_same (hK.2 6 (cA, .array .int) rfl).2 (K.1.2 5 (k 5, .array .int) rfl).2
  have e2 : cR = k 0 := ra_same (hK.2 7 (cR, .int) rfl).2 (K.1.2 0 (k 0, .int) rfl).2
  subst e1; subst e2
  exact kk q H1 ⟨hP, hD, hS⟩
theorem r_new (C : Cx p s m args meth c cc own nL ret nm) (K : Kn G k s) (S : Sw G A s.heap H locs ws) (hA : ∀ q, s.heap.size ≤ q → A q) (ci : Nat) {q : vw_C} (hc : cls[ci]? = some q) (hq : clOk q) {index : Nat} (hl : Cond.classLink own index q.1 ∈ gt) (hi : Cond.instantiable q.1 q.2.2 ∈ gt) (hz : Cond.initialized q.1 ∈ gt) (ty : Nat → FieldType) (hty : ∀ j, j < q.2.2 → parseFieldDescriptor (q.2.1 j).2.2.1 = some (ty j)) {fs : List Value} (hfs : ∀ j, j < q.2.2 → defaultValue (ty j) = vp_V fs j) (hcells : cells + 1 ≤ R.cells) (hslots : slots + q.2.2 ≤ R.slots) (hdg : decode cc pc = .ok (.new index, 3))
    (kk : ∀ (b : Nat) (H1 : Heap), Sw G A s.heap H1 locs (ws ++ [(b, .inr (ci, fs))]) → W p l e R s m args below meth c H1 locs (cells + 1) (slots + q.2.2) Q (F0 m (pc + 3) ls (.ref b :: rest))) : W p l e R s m args below meth c H locs cells slots Q (F0 m pc ls rest) :=
  va_new (C := q.1) (T := q.2.1) (N := q.2.2) C.1 C.2.1 C.2.2.2.2.1 hq.1 ty hty C.2.2.2.1 (C.2.2.2.2.1 _ hl) (C.2.2.2.2.1 _ hi) (C.2.2.2.2.1 _ hz) K.1 S.1 S.2.1 S.2.2 hA hc hfs hcells hslots hdg (fun b H1 hP hD hS => kk b H1 ⟨hP, hD, hS⟩)
theorem r_aald (C : Cx p s m args meth c cc own nL ret nm) (K : Kn G k s) (S : Sw G A s.heap H locs ws) (q0 t0 : Nat) {cA : ClassId} {N : String} {n : Nat} {f : Nat → Option Nat} (ha : ws[q0]? = some (a, .inl (cA, n, .inr (.inr (.inr (.inr f)))))) (ht : (tyl k)[t0]? = some (cA, .object N)) {i : Int32} (hin : vp_in i n) {b : Nat} (hv : f i.toNatClampNeg = some b) (hdg : decode cc pc = .ok (.aaload, 1))
    (kk : W p l e R s m args below meth c H locs cells slots Q (F0 m (pc + 1) ls (.ref b :: rest))) : W p l e R s m args below meth c H locs cells slots Q (F0 m pc ls (.int i :: .ref a :: rest)) :=
  va_aldq C.1 C.2.1 K.1 S.1 q0 t0 ha ht hin hdg (by rw [hv]; exact kk)
theorem r_aast (C : Cx p s m args meth c cc own nL ret nm) (K : Kn G k s) (S : Sw G A s.heap H locs ws) (q0 t0 qk ci : Nat) {cA : ClassId} {r : vw_C} {n v : Nat} {vs : List Value} {f : Nat → Option Nat} (ha : ws[q0]? = some (a, .inl (cA, n, .inr (.inr (.inr (.inr f)))))) (ht : (tyl k)[t0]? = some (cA, .object r.1)) (hv : ws[qk]? = some (v, .inr (ci, vs))) (hc : cls[ci]? = some r) {i : Int32} (hin : vp_in i n) {f' : Nat → Option Nat} {ws' : va_W} (h1 : va_up f i.toNatClampNeg (some v) = f') (h2 : ws.set q0 (a, .inl (cA, n, .inr (.inr (.inr (.inr f'))))) = ws') (hdg : decode cc pc = .ok (.aastore, 1))
    (kk : ∀ (H1 : Heap) (locs1 : List Loc), Sw G A s.heap H1 locs1 ws' → W p l e R s m args below meth c H1 locs1 cells slots Q (F0 m (pc + 1) ls rest)) : W p l e R s m args below meth c H locs cells slots Q (F0 m pc ls (.ref v :: .int i :: .ref a :: rest)) := by
  subst h1; subst h2
  exact va_astq C.1 C.2.1 K.1 S.1 S.2.1 S.2.2 q0 t0 qk ci ha ht hv hc hin hdg (fun H1 l1 a1 a2 a3 => kk H1 l1 ⟨a1, a2, a3⟩)
theorem r_iald (C : Cx p s m args meth c cc own nL ret nm) (K : Kn G k s) (S : Sw G A s.heap H locs ws) (q0 : Nat) {n : Nat} {f : Nat → Int32} (ha : ws[q0]? = some (a, .inl (k 0, n, .inl f))) {i : Int32} (hin : vp_in i n) {v : Int32} (hv : f i.toNatClampNeg = v) (hdg : decode cc pc = .ok (.iaload, 1))
    (kk : W p l e R s m args below meth c H locs cells slots Q (F0 m (pc + 1) ls (.int v :: rest))) : W p l e R s m args below meth c H locs cells slots Q (F0 m pc ls (.int i :: .ref a :: rest)) :=
  va_iald C.1 C.2.1 K.1 S.1 q0 0 ha rfl hin hdg (by rw [hv]; exact kk)
theorem r_iast (C : Cx p s m args meth c cc own nL ret nm) (K : Kn G k s) (S : Sw G A s.heap H locs ws) (q0 : Nat) {n : Nat} {f : Nat → Int32} (ha : ws[q0]? = some (a, .inl (k 0, n, .inl f))) {i x : Int32} (hin : vp_in i n) {f' : Nat → Int32} {ws' : va_W} (h1 : upd f i.toNatClampNeg x = f') (h2 : ws.set q0 (a, .inl (k 0, n, .inl f')) = ws') (hdg : decode cc pc = .ok (.iastore, 1))
    (kk : ∀ (H1 : Heap) (locs1 : List Loc), Sw G A s.heap H1 locs1 ws' → W p l e R s m args below meth c H1 locs1 cells slots Q (F0 m (pc + 1) ls rest)) : W p l e R s m args below meth c H locs cells slots Q (F0 m pc ls (.int x :: .int i :: .ref a :: rest)) := by
  subst h1; subst h2
  exact va_iast C.1 C.2.1 K.1 S.1 S.2.1 S.2.2 q0 0 ha rfl hin hdg (fun H1 l1 a1 a2 a3 => kk H1 l1 ⟨a1, a2, a3⟩)
/-- ends -/
theorem r_vret {S : Type} {post : S → Prop} {wo : S → va_W} (C : Cx p s m args meth c cc own nL none nm) (K : Kn G k s) (u : S) (hp : post u) (St : Sw G A s.heap H locs (wo u)) (hdg : decode cc pc = .ok (.return_, 1)) {mc ms : Nat} (h1 : cells ≤ mc) (h2 : slots ≤ ms) : W p l e R s m args below meth c H locs cells slots (MQ below (va_Qv post (Po G k A wo) A) args s mc ms A) (F0 m pc ls []) :=
  W.widen h1 h2 (W.vret C.1 C.2.1 C.2.2.2.2.2.1 (fun t ht hW => ⟨⟨u, rfl, hp, by rw [ht]; exact St.1, K.warm hW, St.2.1⟩, St.2.2.F ht⟩) St.2.2.2.2 hdg (hlocks := C.2.2.2.2.2.2.1))
theorem r_iret {S : Type} {post : Int32 → S → Prop} {wo : S → va_W} {rt : FieldType} (C : Cx p s m args meth c cc own nL (some rt) nm) (K : Kn G k s) {v : Int32} (hn : narrow rt (.int v) = .int v) (u : S) (hp : post v u) (St : Sw G A s.heap H locs (wo u)) (hdg : decode cc pc = .ok (.ireturn, 1)) {mc ms : Nat} (h1 : cells ≤ mc) (h2 : slots ≤ ms) : W p l e R s m args below meth c H locs cells slots (MQ below (va_Qi post (Po G k A wo) A) args s mc ms A) (F0 m pc ls [.int v]) :=
  W.widen h1 h2 (W.zret C.1 C.2.1 C.2.2.2.2.2.1 hn (fun t ht hW => ⟨⟨v, u, rfl, hp, by rw [ht]; exact St.1, K.warm hW, St.2.1⟩, St.2.2.F ht⟩) St.2.2.2.2 hdg (hlocks := C.2.2.2.2.2.2.1))
theorem r_lret {S : Type} {post : Int64 → S → Prop} {wo : S → va_W} (C : Cx p s m args meth c cc own nL (some .long) nm) (K : Kn G k s) {v : Int64} (u : S) (hp : post v u) (St : Sw G A s.heap H locs (wo u)) (hdg : decode cc pc = .ok (.lreturn, 1)) {mc ms : Nat} (h1 : cells ≤ mc) (h2 : slots ≤ ms) : W p l e R s m args below meth c H locs cells slots (MQ below (va_Ql post (Po G k A wo) A) args s mc ms A) (F0 m pc ls [.long v]) :=
  W.widen h1 h2 (W.lret C.1 C.2.1 C.2.2.2.2.2.1 (fun t ht hW => ⟨⟨v, u, rfl, hp, by rw [ht]; exact St.1, K.warm hW, St.2.1⟩, St.2.2.F ht⟩) St.2.2.2.2 hdg (hlocks := C.2.2.2.2.2.2.1))
/-- calls: the callee's cells are cut out, what comes back stands behind the rest -/
theorem pr_blind {as : List Value} {sz : Nat} {wi : va_W} : FrameBlind (va_Pc as (Pr G k sz wi)) := fun a U g mk q => ⟨q.1, q.2.1, q.2.2.1, Kn.same (s := U) (U := U.calling g mk a) rfl q.2.2.2.1, q.2.2.2.2⟩
theorem pr_now (K : Kn G k s) (S : Sw G A s.heap H locs ws) {wi : va_W} (is : List Nat) (hn : va_nd is = true) (hs : is.map (fun i => ws[i]?) = wi.map some) {as : List Value} : PreS s H (va_Pc as (Pr G k H.size wi)) as := ⟨pr_blind, fun U hU hW => ⟨rfl, by rw [hU], by rw [hU]; exact (S.sub is hn hs).1, K.warm hW, (S.sub is hn hs).2.1.weaken (fun _ _ _ _ => trivial)⟩⟩
theorem pr_nowV (K : Kn G k s) (S : Sw G A s.heap H locs ws) {wi : va_W} (is : List Nat) (hn : va_nd is = true) (hs : is.map (fun i => ws[i]?) = wi.map some) {b : Nat} {as : List Value} (q0 : Nat) {ci : Nat} {fs : List Value} (he : ws[q0]? = some (b, .inr (ci, fs))) {q : vw_C} (hc : cls[ci]? = some q) : PreV s H q.1 b (va_Pc (.ref b :: as) (Pr G k H.size wi)) as := ⟨pr_blind, va_recv K.1 S.1 hc he, (pr_now K S is hn hs).2⟩
theorem r_backv {S : Type} {post : S → Prop} {wo : S → va_W} {wi wr : va_W} (St : Sw G A s.heap H locs ws) (hA : ∀ q, s.heap.size ≤ q → A q) (isC isR : List Nat) (hC : isC.map (fun i => ws[i]?) = wi.map some) (hR : isR.map (fun i => ws[i]?) = wr.map some) (hn : va_nd isR = true) (hdis : ∀ i ∈ isR, i ∉ isC) {mc ms : Nat} {av : Array Value} {st0 : List Value} (hr : va_Run p l e R s m args below meth c H locs cells slots mc ms (F0 m pc ls st0) rest (va_Qv post (Po G k (va_A wi H.size) wo) (va_A wi H.size) av) (va_A wi H.size))
    (kk : ∀ (u : S) (H1 : Heap) (locs1 : List Loc), post u → Sw G A s.heap H1 locs1 (wr ++ wo u) → W p l e R s m args below meth c H1 locs1 (cells + mc) (slots + ms) Q (F0 m (pc + 3) ls rest)) : W p l e R s m args below meth c H locs cells slots Q (F0 m pc ls st0) := by
  have hF := va_free (wc := wi) St.2.1 St.2.2 hA isC hC
  refine va_callv hr St.2.2 (fun q _ h => hF q h) hF (fun u t H1 l1 ht hvm hp hB hz hk hS => ?_)
  obtain ⟨hP, hD⟩ := va_join (wr := wr) (w1 := wo u) St.1 St.2.1 isC isR hC hR hn hdis hk hF (by rw [← ht]; exact hB.1) hB.2.2
  exact kk u H1 l1 hp ⟨hP, hD, hS⟩
theorem r_backi {S : Type} {post : Int32 → S → Prop} {wo : S → va_W} {wi wr : va_W} (St : Sw G A s.heap H locs ws) (hA : ∀ q, s.heap.size ≤ q → A q) (isC isR : List Nat) (hC : isC.map (fun i => ws[i]?) = wi.map some) (hR : isR.map (fun i => ws[i]?) = wr.map some) (hn : va_nd isR = true) (hdis : ∀ i ∈ isR, i ∉ isC) {mc ms : Nat} {av : Array Value} {st0 : List Value} (hr : va_Run p l e R s m args below meth c H locs cells slots mc ms (F0 m pc ls st0) rest (va_Qi post (Po G k (va_A wi H.size) wo) (va_A wi H.size) av) (va_A wi H.size))
    (kk : ∀ (r : Int32) (u : S) (H1 : Heap) (locs1 : List Loc), post r u → Sw G A s.heap H1 locs1 (wr ++ wo u) → W p l e R s m args below meth c H1 locs1 (cells + mc) (slots + ms) Q (F0 m (pc + 3) ls (.int r :: rest))) : W p l e R s m args below meth c H locs cells slots Q (F0 m pc ls st0) := by
  have hF := va_free (wc := wi) St.2.1 St.2.2 hA isC hC
  refine va_calli hr St.2.2 (fun q _ h => hF q h) hF (fun r u t H1 l1 ht hvm hp hB hz hk hS => ?_)
  obtain ⟨hP, hD⟩ := va_join (wr := wr) (w1 := wo u) St.1 St.2.1 isC isR hC hR hn hdis hk hF (by rw [← ht]; exact hB.1) hB.2.2
  exact kk r u H1 l1 hp ⟨hP, hD, hS⟩
theorem r_backl {S : Type} {post : Int64 → S → Prop} {wo : S → va_W} {wi wr : va_W} (St : Sw G A s.heap H locs ws) (hA : ∀ q, s.heap.size ≤ q → A q) (isC isR : List Nat) (hC : isC.map (fun i => ws[i]?) = wi.map some) (hR : isR.map (fun i => ws[i]?) = wr.map some) (hn : va_nd isR = true) (hdis : ∀ i ∈ isR, i ∉ isC) {mc ms : Nat} {av : Array Value} {st0 : List Value} (hr : va_Run p l e R s m args below meth c H locs cells slots mc ms (F0 m pc ls st0) rest (va_Ql post (Po G k (va_A wi H.size) wo) (va_A wi H.size) av) (va_A wi H.size))
    (kk : ∀ (r : Int64) (u : S) (H1 : Heap) (locs1 : List Loc), post r u → Sw G A s.heap H1 locs1 (wr ++ wo u) → W p l e R s m args below meth c H1 locs1 (cells + mc) (slots + ms) Q (F0 m (pc + 3) ls (.long r :: rest))) : W p l e R s m args below meth c H locs cells slots Q (F0 m pc ls st0) := by
  have hF := va_free (wc := wi) St.2.1 St.2.2 hA isC hC
  refine va_calll hr St.2.2 (fun q _ h => hF q h) hF (fun r u t H1 l1 ht hvm hp hB hz hk hS => ?_)
  obtain ⟨hP, hD⟩ := va_join (wr := wr) (w1 := wo u) St.1 St.2.1 isC isR hC hR hn hdis hk hF (by rw [← ht]; exact hB.1) hB.2.2
  exact kk r u H1 l1 hp ⟨hP, hD, hS⟩
/-- the callee's side of a call: a constructor of the same class file's own, or of a nest mate; a method; a private one; a static one -/
theorem k_ctor (C : Cx p s m args meth c cc own nL ret nm) {y : MethodName} {bytes : ByteArray} {maxL mc ms n index : Nat} {rm : Room} (hw : Cond.code y bytes maxL none ∈ gt) (hrc : rm.cells = mc) (hrs : rm.slots = ms) (hz : Cond.initialized y.cls ∈ gt) (hl : Cond.methodLink own index y ∈ gt) (hi : Cond.instanceMethod y ∈ gt) (hy : y.name = "<init>") (hd : y.cls ≠ "java/lang/invoke/MethodHandle" ∧ y.cls ≠ "java/lang/invoke/VarHandle" ∧ (parseMethodDescriptor y.desc).map (fun d => d.parameters.length) = some n) (hR : rm.frames + 1 ≤ R.frames ∧ 8 + (maxL + 11) + rm.locals ≤ R.locals) : CallB R s args own index y bytes maxL none (wy y bytes maxL none) rm mc ms n ∧ y.name = "<init>" ∧ (Cond.instanceMethod y).before args s = true :=
  cwI n C.2.2.2.2.1 (gt_self hw) rfl hrc hrs (C.2.2.2.2.1 _ hz) (C.2.2.2.2.1 _ hl) (C.2.2.2.2.1 _ hi) hy hd hR
theorem k_ctorN (C : Cx p s m args meth c cc own nL ret nm) (K : Kn G k s) {y : MethodName} {bytes : ByteArray} {maxL mc ms n index : Nat} {rm : Room} {host : String} (hw : Cond.code y bytes maxL none ∈ gt) (hrc : rm.cells = mc) (hrs : rm.slots = ms) (hz : Cond.initialized y.cls ∈ gt) (hl : Cond.methodLinkNest own index y host ∈ tables_1) (hi : Cond.instanceMethod y ∈ gt) (hy : y.name = "<init>") (hd : y.cls ≠ "java/lang/invoke/MethodHandle" ∧ y.cls ≠ "java/lang/invoke/VarHandle" ∧ (parseMethodDescriptor y.desc).map (fun d => d.parameters.length) = some n) (hR : rm.frames + 1 ≤ R.frames ∧ 8 + (maxL + 11) + rm.locals ≤ R.locals) : va_CN R s args own index y host bytes maxL none (wy y bytes maxL none) rm mc ms n ∧ y.name = "<init>" ∧ (Cond.instanceMethod y).before args s = true :=
  ⟨va_cnB n C.2.2.2.2.1 (gt_self hw) rfl hrc hrs (K.2.1 _ hl rfl) (C.2.2.2.2.1 _ hz) hd hR, hy, C.2.2.2.2.1 _ hi⟩
theorem k_virt (C : Cx p s m args meth c cc own nL ret nm) {y : MethodName} {bytes : ByteArray} {maxL mc ms n index : Nat} {rm : Room} {rt : Option FieldType} {N : String} (hw : Cond.code y bytes maxL rt ∈ gt) (hrc : rm.cells = mc) (hrs : rm.slots = ms) (hz : Cond.initialized y.cls ∈ gt) (hl : Cond.methodLink own index y ∈ gt) (hi : Cond.instanceMethod y ∈ gt) (hs : Cond.selects N y y ∈ gt) (hd : y.cls ≠ "java/lang/invoke/MethodHandle" ∧ y.cls ≠ "java/lang/invoke/VarHandle" ∧ (parseMethodDescriptor y.desc).map (fun d => d.parameters.length) = some n) (hR : rm.frames + 1 ≤ R.frames ∧ 8 + (maxL + 11) + rm.locals ≤ R.locals) : CallW R s args own N index y bytes maxL rt (wy y bytes maxL rt) rm mc ms n :=
  ⟨callB_of n C.2.2.2.2.1 (gt_self hw) rfl hrc hrs (C.2.2.2.2.1 _ hz) (C.2.2.2.2.1 _ hl) hd hR, C.2.2.2.2.1 _ hi, C.2.2.2.2.1 _ hs⟩
theorem k_virtN (C : Cx p s m args meth c cc own nL ret nm) (K : Kn G k s) {y : MethodName} {bytes : ByteArray} {maxL mc ms n index : Nat} {rm : Room} {rt : Option FieldType} {host N : String} (hw : Cond.code y bytes maxL rt ∈ gt) (hrc : rm.cells = mc) (hrs : rm.slots = ms) (hz : Cond.initialized y.cls ∈ gt) (hl : Cond.methodLinkNest own index y host ∈ tables_1) (hi : Cond.instanceMethod y ∈ gt) (hs : Cond.selects N y y ∈ gt) (hd : y.cls ≠ "java/lang/invoke/MethodHandle" ∧ y.cls ≠ "java/lang/invoke/VarHandle" ∧ (parseMethodDescriptor y.desc).map (fun d => d.parameters.length) = some n) (hR : rm.frames + 1 ≤ R.frames ∧ 8 + (maxL + 11) + rm.locals ≤ R.locals) : va_CN R s args own index y host bytes maxL rt (wy y bytes maxL rt) rm mc ms n ∧ (Cond.instanceMethod y).before args s = true ∧ (Cond.selects N y y).before args s = true :=
  ⟨va_cnB n C.2.2.2.2.1 (gt_self hw) rfl hrc hrs (K.2.1 _ hl rfl) (C.2.2.2.2.1 _ hz) hd hR, C.2.2.2.2.1 _ hi, C.2.2.2.2.1 _ hs⟩
end ROWS2
