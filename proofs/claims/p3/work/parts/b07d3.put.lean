theorem lz_ne {z : Int} (h : z ≠ 0) (hz : z.natAbs < 9223372036854775808) : ¬ lZ z = 0 := by
  intro q
  have h1 := congrArg Int64.toInt q
  rw [lZ_toInt (by omega) (by omega)] at h1
  have h2 : (0 : Int64).toInt = 0 := by decide
  omega
set_option maxRecDepth 100000 in
set_option maxHeartbeats 16000000 in
/-- Whole() -/
theorem g_Wh_init (l : Launch) (G : va_G) (k : Nat → ClassId) (h0 : Nat) (s0 sl : Nat) : CG l y_Wh_init c_Wh_init 1 none { frames := 1, cells := 1, slots := 3, locals := 12 } [.ref h0] G k s0 sl [(h0, .inr (2, [.null, .int 0, .int 0]))] (fun (u : Nat) => none) (fun (u : Nat) => True) (fun (u : Nat) => [(h0, .inr (2, [.ref u, .int 0, .int 0])), (u, .inl (k 0, 3, .inl (fun _ => 0)))]) (fun (u : Nat) => 1) (fun (u : Nat) => 3) 1 3 := by
  refine met_startG (by decide) (Nat.le_of_ble_eq_true rfl) ?_
  intro p e s m below meth c C K hA hsz S ls hl
  generalize va_A [(h0, .inr (2, [.null, .int 0, .int 0]))] s0 = A at hA S ⊢
  have hx := C.1
  have hb := C.2.1
  have hl : lv_has ls 1 [(0, .ref h0)] := hl
  refine lv_aload_n hx hb d_Wh_init_0 rfl (lv_at hl 0 rfl) ?_
  refine r_objInit C wm_Wh_3 hl.1 d_Wh_init_1 (Nat.le_of_ble_eq_true rfl) (Nat.le_of_ble_eq_true rfl) ?_
  refine lv_aload_n hx hb d_Wh_init_4 rfl (lv_at hl 0 rfl) ?_
  refine lv_iconst (v := 3) hx hb d_Wh_init_5 (by decide) ?_
  refine r_newI C K S hA 3 (by decide) (by decide) (by decide) (Nat.le_of_ble_eq_true rfl) (Nat.le_of_ble_eq_true rfl) d_Wh_init_6 (fun q1 H S => ?_)
  have S : Sw G A s.heap _ _ [(h0, .inr (2, [.null, .int 0, .int 0])), (q1, .inl (k 0, 3, .inl (fun _ => 0)))] := S
  refine r_put C K S 0 rfl rfl clOk_Wh 0 (by decide) wf_Wh_9 rfl (ty := .array .int) (v := .ref q1) (by decide +kernel) rfl rfl (Nat.le_of_ble_eq_true rfl) (fs' := [.ref q1, .int 0, .int 0]) (ws' := [(h0, .inr (2, [.ref q1, .int 0, .int 0])), (q1, .inl (k 0, 3, .inl (fun _ => 0)))]) rfl rfl d_Wh_init_8 (fun H locs S => ?_)
  exact q_vret C K hsz q1 trivial (S.sub [0, 1] (by decide) rfl) d_Wh_init_11 (Nat.le_of_ble_eq_true rfl) (Nat.le_of_ble_eq_true rfl) (Nat.le_of_ble_eq_true rfl) (Nat.le_of_ble_eq_true rfl)
theorem wh_new : whO 3 0 (fun _ => 0) 0 := ⟨by decide, by decide, by decide, fun _ => show (0 : Nat) < 2147483648 from by decide, Or.inl rfl, rfl⟩
theorem Sw.sub4P {G : va_G} {A : Nat → Prop} {H0 H : Heap} {locs : List Loc} {X X2 pl : va_W} (S : Sw G A H0 H locs (X ++ pl)) (is : List Nat) (hn : va_nd is = true) (hs : is.map (fun i => X[i]?) = X2.map some) : Sw G A H0 H locs (X2 ++ pl) := S.subP is hn hs
theorem z_topi {p : Program} {l : Launch} {e : Env} {R : Room} {s : State} {m : MethodId} {args : Array Value} {below : List Frame} {meth : Method} {c : Code} {H : Heap} {locs : List Loc} {cells slots : Nat} {Q : State → Prop} {pc : Nat} {ls : Array Slot} {rest : List Value} {x y : Int32} (hv : x = y) (kk : W p l e R s m args below meth c H locs cells slots Q (F0 m pc ls (.int y :: rest))) : W p l e R s m args below meth c H locs cells slots Q (F0 m pc ls (.int x :: rest)) := by subst hv; exact kk
theorem d_So_cell_0 : decode c_So_cell 0 = .ok (.iload_n 1, 1) := by decide +kernel
theorem d_So_cell_1 : decode c_So_cell 1 = .ok (.aload_n 0, 1) := by decide +kernel
theorem d_So_cell_2 : decode c_So_cell 2 = .ok (.getfield 59, 3) := by decide +kernel
theorem d_So_cell_5 : decode c_So_cell 5 = .ok (.iconst 1, 1) := by decide +kernel
theorem d_So_cell_6 : decode c_So_cell 6 = .ok (.iadd, 1) := by decide +kernel
theorem d_So_cell_7 : decode c_So_cell 7 = .ok (.imul, 1) := by decide +kernel
theorem d_So_cell_8 : decode c_So_cell 8 = .ok (.iload_n 2, 1) := by decide +kernel
theorem d_So_cell_9 : decode c_So_cell 9 = .ok (.iadd, 1) := by decide +kernel
theorem d_So_cell_10 : decode c_So_cell 10 = .ok (.istore_n 3, 1) := by decide +kernel
theorem d_So_cell_11 : decode c_So_cell 11 = .ok (.aload_n 0, 1) := by decide +kernel
theorem d_So_cell_12 : decode c_So_cell 12 = .ok (.getfield 11, 3) := by decide +kernel
theorem d_So_cell_15 : decode c_So_cell 15 = .ok (.iload_n 3, 1) := by decide +kernel
theorem d_So_cell_16 : decode c_So_cell 16 = .ok (.aaload, 1) := by decide +kernel
theorem d_So_cell_17 : decode c_So_cell 17 = .ok (.ifnonnull 16, 3) := by decide +kernel
theorem d_So_cell_20 : decode c_So_cell 20 = .ok (.aload_n 0, 1) := by decide +kernel
theorem d_So_cell_21 : decode c_So_cell 21 = .ok (.getfield 11, 3) := by decide +kernel
theorem d_So_cell_24 : decode c_So_cell 24 = .ok (.iload_n 3, 1) := by decide +kernel
theorem d_So_cell_25 : decode c_So_cell 25 = .ok (.new 9, 3) := by decide +kernel
theorem d_So_cell_28 : decode c_So_cell 28 = .ok (.dup, 1) := by decide +kernel
theorem d_So_cell_29 : decode c_So_cell 29 = .ok (.invokespecial 30, 3) := by decide +kernel
theorem d_So_cell_32 : decode c_So_cell 32 = .ok (.aastore, 1) := by decide +kernel
theorem d_So_cell_33 : decode c_So_cell 33 = .ok (.aload_n 0, 1) := by decide +kernel
theorem d_So_cell_34 : decode c_So_cell 34 = .ok (.getfield 11, 3) := by decide +kernel
theorem d_So_cell_37 : decode c_So_cell 37 = .ok (.iload_n 3, 1) := by decide +kernel
theorem d_So_cell_38 : decode c_So_cell 38 = .ok (.aaload, 1) := by decide +kernel
theorem d_So_cell_39 : decode c_So_cell 39 = .ok (.areturn, 1) := by decide +kernel
set_option maxRecDepth 100000 in
set_option maxHeartbeats 16000000 in
/-- cell -/
theorem g_So_cell (l : Launch) (G : va_G) (k : Nat → ClassId) (h0 : Nat) (s0 sl : Nat) (ri9 : Nat) (cj9 : Nat) (cea : Nat) (roa : Nat) (coa : Nat) (ura : Nat) (uca : Nat) (au : Nat) (ap : Nat) (al : Nat) (ar : Nat) (ae : Nat) (rw9 : Nat) (C9 : Nat) (fs9 : Nat) (tk9 : Nat) (N9 : Nat) (st : Nat → Option wQ) (Z : Nat → Int) (hN : N9 = 3745) (hh : hO st Z) (hC : C9 ≤ 40) (hri : ri9 < 91) (hcj : cj9 ≤ C9) : CG l y_So_cell c_So_cell 4 (some (.object "PotentialBench$Whole")) { frames := 2, cells := pt st N9 + 10, slots := 2 * pt st N9 + 20, locals := 32 } [.ref h0, .int (nI ri9), .int (nI cj9)] G k s0 sl ([(h0, .inr (1, [.ref cea, .ref roa, .ref coa, .ref ura, .ref uca, .ref au, .ref ap, .ref al, .ref ar, .ref ae, .int (nI rw9), .int (nI C9), .int (nI fs9), .int (nI tk9)])), (cea, .inl (k 4, 3731, .inr (.inr (.inr (.inr (fun j => adO (st j)))))))] ++ (tpl k st N9)) (fun (u : (Nat → Option wQ) × Nat) => some (.ref u.2)) (fun (u : (Nat → Option wQ) × Nat) => hO u.1 Z ∧ atO u.1 (ri9 * (C9 + 1) + cj9) u.2 ∧ keO st u.1 ∧ pt u.1 N9 ≤ pt st N9) (fun (u : (Nat → Option wQ) × Nat) => ([(h0, .inr (1, [.ref cea, .ref roa, .ref coa, .ref ura, .ref uca, .ref au, .ref ap, .ref al, .ref ar, .ref ae, .int (nI rw9), .int (nI C9), .int (nI fs9), .int (nI tk9)])), (cea, .inl (k 4, 3731, .inr (.inr (.inr (.inr (fun j => adO (u.1 j)))))))] ++ (tpl k u.1 N9))) (fun (u : (Nat → Option wQ) × Nat) => pt st N9 - pt u.1 N9) (fun (u : (Nat → Option wQ) × Nat) => 2 * (pt st N9 - pt u.1 N9)) (pt st N9 + 10) (2 * pt st N9 + 20) := by
  refine met_startG (by decide) (Nat.le_of_ble_eq_true rfl) ?_
  intro p e s m below meth c C K hA hsz S ls hl
  generalize va_A ([(h0, .inr (1, [.ref cea, .ref roa, .ref coa, .ref ura, .ref uca, .ref au, .ref ap, .ref al, .ref ar, .ref ae, .int (nI rw9), .int (nI C9), .int (nI fs9), .int (nI tk9)])), (cea, .inl (k 4, 3731, .inr (.inr (.inr (.inr (fun j => adO (st j)))))))] ++ (tpl k st N9)) s0 = A at hA S ⊢
  have hx := C.1
  have hb := C.2.1
  have hl : lv_has ls 4 [(0, .ref h0), (1, .int (nI ri9)), (2, .int (nI cj9))] := hl
  obtain ⟨t9, ht9⟩ : ∃ x9, x9 = ri9 * (C9 + 1) + cj9 := ⟨_, rfl⟩
  have hlt : t9 < 3731 := by rw [ht9]; exact ix_lt hri hcj (Nat.le_refl _) hC
  cases hst : st t9 with
  | none =>
    refine lv_iload_n hx hb d_So_cell_0 rfl (lv_at hl 1 rfl) ?_
    refine lv_aload_n hx hb d_So_cell_1 rfl (lv_at hl 0 rfl) ?_
    refine r_get C K S 0 rfl rfl clOk_So 11 (by decide) wf_So_59 (v := .int (nI C9)) rfl d_So_cell_2 ?_
    refine lv_iconst (v := 1) hx hb d_So_cell_5 (by decide) ?_
    refine z_iadd (x := nI C9) (y := 1) (v := nI (C9 + 1)) hx hb d_So_cell_6 (nI_add C9 1) ?_
    refine z_imul (x := nI ri9) (y := nI (C9 + 1)) (v := nI (ri9 * (C9 + 1))) hx hb d_So_cell_7 (pk_mul ri9 (C9 + 1)) ?_
    refine lv_iload_n hx hb d_So_cell_8 rfl (lv_at hl 2 rfl) ?_
    refine z_iadd (x := nI (ri9 * (C9 + 1))) (y := nI cj9) (v := nI (ri9 * (C9 + 1) + cj9)) hx hb d_So_cell_9 (nI_add (ri9 * (C9 + 1)) cj9) ?_
    refine z_topi (y := nI t9) (by rw [ht9]) ?_
    refine lv_istore_n (lv' := [(3, .int (nI t9)), (0, .ref h0), (1, .int (nI ri9)), (2, .int (nI cj9))]) hx hb d_So_cell_10 rfl hl (by decide) rfl (fun ls hl => ?_)
    refine lv_aload_n hx hb d_So_cell_11 rfl (lv_at hl 1 rfl) ?_
    refine r_get C K S 0 rfl rfl clOk_So 0 (by decide) wf_So_11 (v := .ref cea) rfl d_So_cell_12 ?_
    refine lv_iload_n hx hb d_So_cell_15 rfl (lv_at hl 0 rfl) ?_
    refine r_aald0 C K S 1 4 rfl rfl (i := nI t9) (show vp_in (nI t9) _ from vp_in_nI (n := t9) (by omega) (by decide)) (by rw [nI_clamp (by omega), hst]; rfl) d_So_cell_16 ?_
    refine lv_ifnonnullN hx hb d_So_cell_17 ?_
    refine lv_aload_n hx hb d_So_cell_20 rfl (lv_at hl 1 rfl) ?_
    refine r_get C K S 0 rfl rfl clOk_So 0 (by decide) wf_So_11 (v := .ref cea) rfl d_So_cell_21 ?_
    refine lv_iload_n hx hb d_So_cell_24 rfl (lv_at hl 0 rfl) ?_
    refine W.widen (show 0 ≤ 0 from Nat.le_refl _) (show 0 ≤ 0 from Nat.le_refl _) ?_
    refine r_new C K S hA 2 rfl clOk_Wh wl_So_9 wi_Wh wz_Wh t_Wh k_Wh (fs := [.null, .int 0, .int 0]) df_Wh (show 0 + 1 ≤ pt st N9 + 10 from by omega) (show 0 + 3 ≤ 2 * pt st N9 + 20 from by omega) d_So_cell_25 (fun q1 H S => ?_)
    have S : Sw G A s.heap _ _ ([(h0, .inr (1, [.ref cea, .ref roa, .ref coa, .ref ura, .ref uca, .ref au, .ref ap, .ref al, .ref ar, .ref ae, .int (nI rw9), .int (nI C9), .int (nI fs9), .int (nI tk9)])), (cea, .inl (k 4, 3731, .inr (.inr (.inr (.inr (fun j => adO (st j))))))), (q1, .inr (2, [.null, .int 0, .int 0]))] ++ (tpl k st N9)) := S.perm (by simp only [List.append_assoc]; exact List.Perm.append_left _ List.perm_append_comm)
    refine lv_dup hx hb d_So_cell_28 rfl ?_
    refine q_backP (wi := [(q1, .inr (2, [.null, .int 0, .int 0]))]) (wr := [(h0, .inr (1, [.ref cea, .ref roa, .ref coa, .ref ura, .ref uca, .ref au, .ref ap, .ref al, .ref ar, .ref ae, .int (nI rw9), .int (nI C9), .int (nI fs9), .int (nI tk9)])), (cea, .inl (k 4, 3731, .inr (.inr (.inr (.inr (fun j => adO (st j)))))))]) S hA [2] [0, 1] rfl rfl (by decide) (by decide) (va_runI (As := []) (rest := [.ref q1, .int (nI t9), .ref cea]) ⟨hx, hb, C.2.2.1, C.2.2.2.1, C.2.2.2.2.1⟩ (cg_frame (tpl k st N9) (g_Wh_init l G k q1 _ _)) (k_ctor (n := 0) C wc_Wh_init rfl rfl wz_Wh wm_So_30 wn_Wh_init rfl (by decide +kernel) ⟨(Nat.le_of_ble_eq_true rfl), (Nat.le_of_ble_eq_true rfl)⟩) (pr_nowGP K S [2] (by decide) rfl) rfl rfl hl.1 rfl (lv_room (Nat.le_of_ble_eq_true rfl)) d_So_cell_29 ⟨(show 0 + 1 + 1 ≤ pt st N9 + 10 from by omega), (show 0 + 3 + 3 ≤ 2 * pt st N9 + 20 from by omega)⟩) (fun u2 H locs hw3 S => ?_)
    have S : Sw G A s.heap _ _ ([(h0, .inr (1, [.ref cea, .ref roa, .ref coa, .ref ura, .ref uca, .ref au, .ref ap, .ref al, .ref ar, .ref ae, .int (nI rw9), .int (nI C9), .int (nI fs9), .int (nI tk9)])), (cea, .inl (k 4, 3731, .inr (.inr (.inr (.inr (fun j => adO (st j))))))), (q1, .inr (2, [.ref u2, .int 0, .int 0])), (u2, .inl (k 0, 3, .inl (fun _ => 0)))] ++ (tpl k st N9)) := S
    have hw3 : True := hw3
    show W p l e _ s m _ below meth c H locs _ _ _ (F0 m 32 ls [.ref q1, .int (nI t9), .ref cea])
    refine r_aast C K S 1 4 2 2 rfl rfl rfl rfl (i := nI t9) (show vp_in (nI t9) _ from vp_in_nI (n := t9) (by omega) (by decide)) (f' := va_up (fun j => adO (st j)) t9 (some q1)) (ws' := ([(h0, .inr (1, [.ref cea, .ref roa, .ref coa, .ref ura, .ref uca, .ref au, .ref ap, .ref al, .ref ar, .ref ae, .int (nI rw9), .int (nI C9), .int (nI fs9), .int (nI tk9)])), (cea, .inl (k 4, 3731, .inr (.inr (.inr (.inr (va_up (fun j => adO (st j)) t9 (some q1))))))), (q1, .inr (2, [.ref u2, .int 0, .int 0])), (u2, .inl (k 0, 3, .inl (fun _ => 0)))] ++ (tpl k st N9))) (by rw [nI_clamp (by omega)]) rfl d_So_cell_32 (fun H locs S => ?_)
    refine lv_aload_n hx hb d_So_cell_33 rfl (lv_at hl 1 rfl) ?_
    refine r_get C K S 0 rfl rfl clOk_So 0 (by decide) wf_So_11 (v := .ref cea) rfl d_So_cell_34 ?_
    refine lv_iload_n hx hb d_So_cell_37 rfl (lv_at hl 0 rfl) ?_
    refine r_aald C K S 1 4 rfl rfl (i := nI t9) (show vp_in (nI t9) _ from vp_in_nI (n := t9) (by omega) (by decide)) (b := q1) (by rw [nI_clamp (by omega), va_up_self]) d_So_cell_38 ?_
    have S := Sw.tnew (X := [(h0, .inr (1, [.ref cea, .ref roa, .ref coa, .ref ura, .ref uca, .ref au, .ref ap, .ref al, .ref ar, .ref ae, .int (nI rw9), .int (nI C9), .int (nI fs9), .int (nI tk9)])), (cea, .inl (k 4, 3731, .inr (.inr (.inr (.inr (va_up (fun j => adO (st j)) t9 (some q1)))))))]) (q := (q1, u2, 3, 0, 0, fun _ => 0)) (t := t9) (n := N9) (S.sub4P [0, 1, 2, 3] (by decide) rfl) hst (by omega)
    have eqf : va_up (fun j => adO (st j)) t9 (some q1) = fun j => adO (va_up st t9 (some (q1, u2, 3, 0, 0, fun _ => 0)) j) := by
      funext j
      by_cases w9 : j = t9
      · subst w9; rw [va_up_self, va_up_self]; rfl
      · rw [va_up_ne _ _ w9, va_up_ne _ _ w9]
    rw [eqf] at S
    have hpt := pt_up (st := st) (i := t9) (o := some (q1, u2, 3, 0, 0, fun _ => 0)) (by rw [hst]; exact Nat.zero_le _) (show 3 ≤ Mb t9 by unfold Mb; rw [if_pos hlt]; decide) N9 (by omega)
    rw [hst] at hpt
    have hpt : pt (va_up st t9 (some (q1, u2, 3, 0, 0, fun _ => 0))) N9 + (3 - 0) = pt st N9 := hpt
    have hz0 : Z t9 = 0 := by rcases hh.1 t9 (by omega) with ⟨-, -, h9⟩ | ⟨q8, h9, -⟩; exact h9; rw [hst] at h9; cases h9
    have hgo : gO (va_up st t9 (some (q1, u2, 3, 0, 0, fun _ => 0))) Z V0 := by
      have g9 := hh.1.up (i := t9) (q := (q1, u2, 3, 0, 0, fun _ => 0)) (z := 0) (v := V0 t9) (show 3 ≤ Mb t9 by unfold Mb; rw [if_pos hlt]; decide) ⟨show (3 : Nat) ≤ 3 from by decide, show (3 : Nat) ≤ 400 from by decide, fun _ => show (0 : Nat) < 2147483648 from by decide⟩ (fun _ => ⟨0, rfl, rfl, wh_new⟩)
      rw [up_id Z t9 hz0, up_id V0 t9 rfl] at g9
      exact g9
    have hke : keO st (va_up st t9 (some (q1, u2, 3, 0, 0, fun _ => 0))) := fun j x hx9 => by by_cases w9 : j = t9; subst w9; rw [hst] at hx9; cases hx9; exact ⟨x, by rw [va_up_ne _ _ w9]; exact hx9, rfl⟩
    exact q_aret C (Or.inl ⟨_, rfl⟩) K hsz ((va_up st t9 (some (q1, u2, 3, 0, 0, fun _ => 0))), q1) rfl (show hO (va_up st t9 (some (q1, u2, 3, 0, 0, fun _ => 0))) Z ∧ atO (va_up st t9 (some (q1, u2, 3, 0, 0, fun _ => 0))) (ri9 * (C9 + 1) + cj9) q1 ∧ keO st (va_up st t9 (some (q1, u2, 3, 0, 0, fun _ => 0))) ∧ pt (va_up st t9 (some (q1, u2, 3, 0, 0, fun _ => 0))) N9 ≤ pt st N9 from ⟨⟨hgo, hh.2⟩, by rw [← ht9]; exact ⟨(q1, u2, 3, 0, 0, fun _ => 0), va_up_self _ _ _, rfl⟩, hke, by omega⟩) S d_So_cell_39 (show 0 + 1 + (1) ≤ pt st N9 - pt (va_up st t9 (some (q1, u2, 3, 0, 0, fun _ => 0))) N9 from by omega) (show 0 + 3 + (3) ≤ 2 * (pt st N9 - pt (va_up st t9 (some (q1, u2, 3, 0, 0, fun _ => 0))) N9) from by omega) (show 0 + 1 + (1) ≤ pt st N9 + 10 from by omega) (show 0 + 3 + (3) ≤ 2 * pt st N9 + 20 from by omega)
  | some q9 =>
    refine lv_iload_n hx hb d_So_cell_0 rfl (lv_at hl 1 rfl) ?_
    refine lv_aload_n hx hb d_So_cell_1 rfl (lv_at hl 0 rfl) ?_
    refine r_get C K S 0 rfl rfl clOk_So 11 (by decide) wf_So_59 (v := .int (nI C9)) rfl d_So_cell_2 ?_
    refine lv_iconst (v := 1) hx hb d_So_cell_5 (by decide) ?_
    refine z_iadd (x := nI C9) (y := 1) (v := nI (C9 + 1)) hx hb d_So_cell_6 (nI_add C9 1) ?_
    refine z_imul (x := nI ri9) (y := nI (C9 + 1)) (v := nI (ri9 * (C9 + 1))) hx hb d_So_cell_7 (pk_mul ri9 (C9 + 1)) ?_
    refine lv_iload_n hx hb d_So_cell_8 rfl (lv_at hl 2 rfl) ?_
    refine z_iadd (x := nI (ri9 * (C9 + 1))) (y := nI cj9) (v := nI (ri9 * (C9 + 1) + cj9)) hx hb d_So_cell_9 (nI_add (ri9 * (C9 + 1)) cj9) ?_
    refine z_topi (y := nI t9) (by rw [ht9]) ?_
    refine lv_istore_n (lv' := [(3, .int (nI t9)), (0, .ref h0), (1, .int (nI ri9)), (2, .int (nI cj9))]) hx hb d_So_cell_10 rfl hl (by decide) rfl (fun ls hl => ?_)
    refine lv_aload_n hx hb d_So_cell_11 rfl (lv_at hl 1 rfl) ?_
    refine r_get C K S 0 rfl rfl clOk_So 0 (by decide) wf_So_11 (v := .ref cea) rfl d_So_cell_12 ?_
    refine lv_iload_n hx hb d_So_cell_15 rfl (lv_at hl 0 rfl) ?_
    refine r_aald C K S 1 4 rfl rfl (i := nI t9) (show vp_in (nI t9) _ from vp_in_nI (n := t9) (by omega) (by decide)) (b := q9.1) (by rw [nI_clamp (by omega), hst]; rfl) d_So_cell_16 ?_
    refine lv_ifnonnull (tgt := 33) hx hb d_So_cell_17 (by decide) ?_
    refine lv_aload_n hx hb d_So_cell_33 rfl (lv_at hl 1 rfl) ?_
    refine r_get C K S 0 rfl rfl clOk_So 0 (by decide) wf_So_11 (v := .ref cea) rfl d_So_cell_34 ?_
    refine lv_iload_n hx hb d_So_cell_37 rfl (lv_at hl 0 rfl) ?_
    refine r_aald C K S 1 4 rfl rfl (i := nI t9) (show vp_in (nI t9) _ from vp_in_nI (n := t9) (by omega) (by decide)) (b := q9.1) (by rw [nI_clamp (by omega), hst]; rfl) d_So_cell_38 ?_
    exact q_aret C (Or.inl ⟨_, rfl⟩) K hsz (st, q9.1) rfl (show hO st Z ∧ atO st (ri9 * (C9 + 1) + cj9) q9.1 ∧ keO st st ∧ pt st N9 ≤ pt st N9 from ⟨hh, by rw [← ht9]; exact ⟨q9, hst, rfl⟩, keO.rf st, Nat.le_refl _⟩) (S.subP [0, 1] (by decide) rfl) d_So_cell_39 (Nat.zero_le _) (Nat.zero_le _) (Nat.zero_le _) (Nat.zero_le _)
theorem w_le {w uu : Int} (h : uu ≠ 0) : w.natAbs ≤ (w * uu).natAbs := by
  rw [Int.natAbs_mul]
  have := Nat.mul_le_mul_left w.natAbs (show 1 ≤ uu.natAbs by omega)
  omega
theorem pt_zero {x pp y zz uu w : Int} (hu : uu ≠ 0) (h : x * pp - y * zz = w * uu) (hx : x = 0) (hy : y = 0 ∨ zz = 0) : w = x := by
  have e1 : y * zz = 0 := by rcases hy with q | q <;> subst q <;> simp
  rw [hx, Int.zero_mul, e1] at h
  have h : w * uu = 0 := by omega
  rcases Int.mul_eq_zero.mp h with q | q
  · rw [q, hx]
  · exact absurd q hu
theorem sm_lt {z : Int} (h : nI (smB z) ≠ 0) : z.natAbs < 2147483648 := by
  unfold smB at h
  by_cases q : z.natAbs < 2147483648
  · exact q
  · rw [if_neg q] at h; exact absurd rfl h
theorem smB_le (z : Int) : smB z ≤ 1 := by unfold smB; split <;> decide
theorem smB_1 {z : Int} (h : 0 < smB z) : z.natAbs < 2147483648 := by
  unfold smB at h
  by_cases q : z.natAbs < 2147483648
  · exact q
  · rw [if_neg q] at h; exact absurd h (by decide)
theorem sm_mul {a b : Int} (ha : a.natAbs < 2147483648) (hb : b.natAbs < 2147483648) : (a * b).natAbs < 4611686018427387904 := by
  rw [Int.natAbs_mul]
  have := Nat.mul_le_mul (show a.natAbs ≤ 2147483647 by omega) (show b.natAbs ≤ 2147483647 by omega)
  omega
theorem d_So_put_0 : decode c_So_put 0 = .ok (.aload_n 1, 1) := by decide +kernel
theorem d_So_put_1 : decode c_So_put 1 = .ok (.invokevirtual 101, 3) := by decide +kernel
theorem d_So_put_4 : decode c_So_put 4 = .ok (.ifCond .ne 18, 3) := by decide +kernel
theorem d_So_put_7 : decode c_So_put 7 = .ok (.aload_n 2, 1) := by decide +kernel
theorem d_So_put_8 : decode c_So_put 8 = .ok (.invokevirtual 101, 3) := by decide +kernel
theorem d_So_put_11 : decode c_So_put 11 = .ok (.ifCond .eq 10, 3) := by decide +kernel
theorem d_So_put_14 : decode c_So_put 14 = .ok (.aload_n 3, 1) := by decide +kernel
theorem d_So_put_15 : decode c_So_put 15 = .ok (.invokevirtual 101, 3) := by decide +kernel
theorem d_So_put_18 : decode c_So_put 18 = .ok (.ifCond .ne 4, 3) := by decide +kernel
theorem d_So_put_21 : decode c_So_put 21 = .ok (.return_, 1) := by decide +kernel
theorem d_So_put_22 : decode c_So_put 22 = .ok (.aload_n 1, 1) := by decide +kernel
theorem d_So_put_23 : decode c_So_put 23 = .ok (.invokevirtual 116, 3) := by decide +kernel
theorem d_So_put_26 : decode c_So_put 26 = .ok (.ifCond .eq 41, 3) := by decide +kernel
theorem d_So_put_29 : decode c_So_put 29 = .ok (.aload_n 2, 1) := by decide +kernel
theorem d_So_put_30 : decode c_So_put 30 = .ok (.invokevirtual 116, 3) := by decide +kernel
theorem d_So_put_33 : decode c_So_put 33 = .ok (.ifCond .eq 34, 3) := by decide +kernel
theorem d_So_put_36 : decode c_So_put 36 = .ok (.aload_n 3, 1) := by decide +kernel
theorem d_So_put_37 : decode c_So_put 37 = .ok (.invokevirtual 116, 3) := by decide +kernel
theorem d_So_put_40 : decode c_So_put 40 = .ok (.ifCond .eq 27, 3) := by decide +kernel
theorem d_So_put_43 : decode c_So_put 43 = .ok (.aload_n 0, 1) := by decide +kernel
theorem d_So_put_44 : decode c_So_put 44 = .ok (.getfield 35, 3) := by decide +kernel
theorem d_So_put_47 : decode c_So_put 47 = .ok (.invokevirtual 116, 3) := by decide +kernel
theorem d_So_put_50 : decode c_So_put 50 = .ok (.ifCond .eq 17, 3) := by decide +kernel
theorem d_So_put_53 : decode c_So_put 53 = .ok (.aload_n 0, 1) := by decide +kernel
theorem d_So_put_54 : decode c_So_put 54 = .ok (.getfield 31, 3) := by decide +kernel
theorem d_So_put_57 : decode c_So_put 57 = .ok (.invokevirtual 116, 3) := by decide +kernel
theorem d_So_put_60 : decode c_So_put 60 = .ok (.ifCond .eq 7, 3) := by decide +kernel
theorem d_So_put_63 : decode c_So_put 63 = .ok (.iconst 1, 1) := by decide +kernel
theorem d_So_put_64 : decode c_So_put 64 = .ok (.goto 4, 3) := by decide +kernel
theorem d_So_put_67 : decode c_So_put 67 = .ok (.iconst 0, 1) := by decide +kernel
theorem d_So_put_68 : decode c_So_put 68 = .ok (.istore 4, 2) := by decide +kernel
theorem d_So_put_70 : decode c_So_put 70 = .ok (.iload 4, 2) := by decide +kernel
theorem d_So_put_72 : decode c_So_put 72 = .ok (.ifCond .eq 48, 3) := by decide +kernel
theorem d_So_put_75 : decode c_So_put 75 = .ok (.aload_n 0, 1) := by decide +kernel
theorem d_So_put_76 : decode c_So_put 76 = .ok (.getfield 31, 3) := by decide +kernel
theorem d_So_put_79 : decode c_So_put 79 = .ok (.invokevirtual 101, 3) := by decide +kernel
theorem d_So_put_82 : decode c_So_put 82 = .ok (.ifCond .eq 38, 3) := by decide +kernel
theorem d_So_put_85 : decode c_So_put 85 = .ok (.aload_n 1, 1) := by decide +kernel
theorem d_So_put_86 : decode c_So_put 86 = .ok (.aload_n 1, 1) := by decide +kernel
theorem d_So_put_87 : decode c_So_put 87 = .ok (.invokevirtual 120, 3) := by decide +kernel
theorem d_So_put_90 : decode c_So_put 90 = .ok (.aload_n 0, 1) := by decide +kernel
theorem d_So_put_91 : decode c_So_put 91 = .ok (.getfield 35, 3) := by decide +kernel
theorem d_So_put_94 : decode c_So_put 94 = .ok (.invokevirtual 120, 3) := by decide +kernel
theorem d_So_put_97 : decode c_So_put 97 = .ok (.lmul, 1) := by decide +kernel
theorem d_So_put_98 : decode c_So_put 98 = .ok (.aload_n 2, 1) := by decide +kernel
theorem d_So_put_99 : decode c_So_put 99 = .ok (.invokevirtual 120, 3) := by decide +kernel
theorem d_So_put_102 : decode c_So_put 102 = .ok (.aload_n 3, 1) := by decide +kernel
theorem d_So_put_103 : decode c_So_put 103 = .ok (.invokevirtual 120, 3) := by decide +kernel
theorem d_So_put_106 : decode c_So_put 106 = .ok (.lmul, 1) := by decide +kernel
theorem d_So_put_107 : decode c_So_put 107 = .ok (.lsub, 1) := by decide +kernel
theorem d_So_put_108 : decode c_So_put 108 = .ok (.aload_n 0, 1) := by decide +kernel
theorem d_So_put_109 : decode c_So_put 109 = .ok (.getfield 31, 3) := by decide +kernel
theorem d_So_put_112 : decode c_So_put 112 = .ok (.invokevirtual 120, 3) := by decide +kernel
theorem d_So_put_115 : decode c_So_put 115 = .ok (.ldiv, 1) := by decide +kernel
theorem d_So_put_116 : decode c_So_put 116 = .ok (.invokevirtual 62, 3) := by decide +kernel
theorem d_So_put_119 : decode c_So_put 119 = .ok (.return_, 1) := by decide +kernel
theorem d_So_put_120 : decode c_So_put 120 = .ok (.aload_n 0, 1) := by decide +kernel
theorem d_So_put_121 : decode c_So_put 121 = .ok (.getfield 38, 3) := by decide +kernel
theorem d_So_put_124 : decode c_So_put 124 = .ok (.aload_n 1, 1) := by decide +kernel
theorem d_So_put_125 : decode c_So_put 125 = .ok (.aload_n 0, 1) := by decide +kernel
theorem d_So_put_126 : decode c_So_put 126 = .ok (.getfield 35, 3) := by decide +kernel
theorem d_So_put_129 : decode c_So_put 129 = .ok (.invokevirtual 129, 3) := by decide +kernel
theorem d_So_put_132 : decode c_So_put 132 = .ok (.aload_n 0, 1) := by decide +kernel
theorem d_So_put_133 : decode c_So_put 133 = .ok (.getfield 41, 3) := by decide +kernel
theorem d_So_put_136 : decode c_So_put 136 = .ok (.aload_n 2, 1) := by decide +kernel
theorem d_So_put_137 : decode c_So_put 137 = .ok (.aload_n 3, 1) := by decide +kernel
theorem d_So_put_138 : decode c_So_put 138 = .ok (.invokevirtual 129, 3) := by decide +kernel
theorem d_So_put_141 : decode c_So_put 141 = .ok (.aload_n 0, 1) := by decide +kernel
theorem d_So_put_142 : decode c_So_put 142 = .ok (.getfield 38, 3) := by decide +kernel
theorem d_So_put_145 : decode c_So_put 145 = .ok (.aload_n 0, 1) := by decide +kernel
theorem d_So_put_146 : decode c_So_put 146 = .ok (.getfield 41, 3) := by decide +kernel
theorem d_So_put_149 : decode c_So_put 149 = .ok (.invokevirtual 147, 3) := by decide +kernel
theorem d_So_put_152 : decode c_So_put 152 = .ok (.aload_n 0, 1) := by decide +kernel
theorem d_So_put_153 : decode c_So_put 153 = .ok (.getfield 38, 3) := by decide +kernel
theorem d_So_put_156 : decode c_So_put 156 = .ok (.aload_n 0, 1) := by decide +kernel
theorem d_So_put_157 : decode c_So_put 157 = .ok (.getfield 31, 3) := by decide +kernel
theorem d_So_put_160 : decode c_So_put 160 = .ok (.aload_n 0, 1) := by decide +kernel
theorem d_So_put_161 : decode c_So_put 161 = .ok (.getfield 44, 3) := by decide +kernel
theorem d_So_put_164 : decode c_So_put 164 = .ok (.aload_n 0, 1) := by decide +kernel
theorem d_So_put_165 : decode c_So_put 165 = .ok (.getfield 41, 3) := by decide +kernel
theorem d_So_put_168 : decode c_So_put 168 = .ok (.invokevirtual 150, 3) := by decide +kernel
theorem d_So_put_171 : decode c_So_put 171 = .ok (.aload_n 1, 1) := by decide +kernel
theorem d_So_put_172 : decode c_So_put 172 = .ok (.aload_n 0, 1) := by decide +kernel
theorem d_So_put_173 : decode c_So_put 173 = .ok (.getfield 38, 3) := by decide +kernel
theorem d_So_put_176 : decode c_So_put 176 = .ok (.invokevirtual 133, 3) := by decide +kernel
theorem d_So_put_179 : decode c_So_put 179 = .ok (.return_, 1) := by decide +kernel
set_option maxRecDepth 100000 in
set_option maxHeartbeats 16000000 in
/-- put -/
theorem g_So_put (l : Launch) (G : va_G) (k : Nat → ClassId) (h0 : Nat) (s0 sl : Nat) (ix9 : Nat) (iy9 : Nat) (iz9 : Nat) (bx9 : Nat) (by9 : Nat) (bz9 : Nat) (wv9 : Int) (cea : Nat) (roa : Nat) (coa : Nat) (ura : Nat) (uca : Nat) (au : Nat) (ap : Nat) (al : Nat) (ar : Nat) (ae : Nat) (rw9 : Nat) (C9 : Nat) (fs9 : Nat) (tk9 : Nat) (N9 : Nat) (st : Nat → Option wQ) (Z : Nat → Int) (hN : N9 = 3745) (hh : hO st Z) (hU : atO st 3731 au) (hP : atO st 3732 ap) (hL : atO st 3733 al) (hR : atO st 3734 ar) (hE : atO st 3735 ae) (hx1 : ix9 < 3731) (hy1 : iy9 < 3731) (hz1 : iz9 < 3731) (ax : atO st ix9 bx9) (ay : atO st iy9 by9) (az : atO st iz9 bz9) (nxy : ix9 ≠ iy9) (nxz : ix9 ≠ iz9) (nyz : iy9 ≠ iz9) (hu0 : Z 3731 ≠ 0) (hwa : Z ix9 * Z 3732 - Z iy9 * Z iz9 = wv9 * Z 3731) (hwb : wv9.natAbs < 2147483648 ^ 49) : CG l y_So_put c_So_put 5 none { frames := 5, cells := pt st N9 + 400, slots := 2 * pt st N9 + 800, locals := 157 } [.ref h0, .ref bx9, .ref by9, .ref bz9] G k s0 sl ([(h0, .inr (1, [.ref cea, .ref roa, .ref coa, .ref ura, .ref uca, .ref au, .ref ap, .ref al, .ref ar, .ref ae, .int (nI rw9), .int (nI C9), .int (nI fs9), .int (nI tk9)]))] ++ (tpl k st N9)) (fun (u : Nat → Option wQ) => none) (fun (u : Nat → Option wQ) => hO u (va_up Z ix9 wv9) ∧ keO st u ∧ pt u N9 ≤ pt st N9 ∧ saO st u) (fun (u : Nat → Option wQ) => ([(h0, .inr (1, [.ref cea, .ref roa, .ref coa, .ref ura, .ref uca, .ref au, .ref ap, .ref al, .ref ar, .ref ae, .int (nI rw9), .int (nI C9), .int (nI fs9), .int (nI tk9)]))] ++ (tpl k u N9))) (fun (u : Nat → Option wQ) => pt st N9 - pt u N9) (fun (u : Nat → Option wQ) => 2 * (pt st N9 - pt u N9)) (pt st N9 + 400) (2 * pt st N9 + 800) := by
  refine met_startG (by decide) (Nat.le_of_ble_eq_true rfl) ?_
  intro p e s m below meth c C K hA hsz S ls hl
  generalize va_A ([(h0, .inr (1, [.ref cea, .ref roa, .ref coa, .ref ura, .ref uca, .ref au, .ref ap, .ref al, .ref ar, .ref ae, .int (nI rw9), .int (nI C9), .int (nI fs9), .int (nI tk9)]))] ++ (tpl k st N9)) s0 = A at hA S ⊢
  have hx := C.1
  have hb := C.2.1
  have hl : lv_has ls 5 [(0, .ref h0), (1, .ref bx9), (2, .ref by9), (3, .ref bz9)] := hl
  have e8 : (Z ix9 * Z 3732 - Z iy9 * Z iz9).tdiv (Z 3731) = wv9 := by rw [hwa]; exact Int.mul_tdiv_cancel _ hu0
  have hMx : Mb ix9 = 98 := by unfold Mb; rw [if_pos hx1]
  have k120 : ∀ (H : Heap) (locs : List Loc), Sw G A s.heap H locs ([(h0, .inr (1, [.ref cea, .ref roa, .ref coa, .ref ura, .ref uca, .ref au, .ref ap, .ref al, .ref ar, .ref ae, .int (nI rw9), .int (nI C9), .int (nI fs9), .int (nI tk9)]))] ++ (tpl k st N9)) → ∀ ls : Array Slot, lv_has ls 5 [(4, .int 0), (0, .ref h0), (1, .ref bx9), (2, .ref by9), (3, .ref bz9)] → W p l e { frames := 5, cells := pt st N9 + 400, slots := 2 * pt st N9 + 800, locals := 157 } s m [Value.ref h0, Value.ref bx9, Value.ref by9, Value.ref bz9].toArray below meth c H locs 0 0 (MQ below (va_Qg (fun (u : Nat → Option wQ) => none) (fun (u : Nat → Option wQ) => hO u (va_up Z ix9 wv9) ∧ keO st u ∧ pt u N9 ≤ pt st N9 ∧ saO st u) (Pog G k A (fun (u : Nat → Option wQ) => ([(h0, .inr (1, [.ref cea, .ref roa, .ref coa, .ref ura, .ref uca, .ref au, .ref ap, .ref al, .ref ar, .ref ae, .int (nI rw9), .int (nI C9), .int (nI fs9), .int (nI tk9)]))] ++ (tpl k u N9))) s0 sl (fun (u : Nat → Option wQ) => pt st N9 - pt u N9) (fun (u : Nat → Option wQ) => 2 * (pt st N9 - pt u N9))) A) [Value.ref h0, Value.ref bx9, Value.ref by9, Value.ref bz9].toArray s (pt st N9 + 400) (2 * pt st N9 + 800) A) (F0 m 120 ls []) := by
    intro H locs S ls hl
    refine lv_aload_n hx hb d_So_put_120 rfl (lv_at hl 1 rfl) ?_
    refine r_get C K S 0 rfl rfl clOk_So 7 (by decide) wf_So_38 (v := .ref al) rfl d_So_put_121 ?_
    refine lv_aload_n hx hb d_So_put_124 rfl (lv_at hl 2 rfl) ?_
    refine lv_aload_n hx hb d_So_put_125 rfl (lv_at hl 1 rfl) ?_
    refine r_get C K S 0 rfl rfl clOk_So 6 (by decide) wf_So_35 (v := .ref ap) rfl d_So_put_126 ?_
    refine q_backP (wi := []) (wr := [(h0, .inr (1, [.ref cea, .ref roa, .ref coa, .ref ura, .ref uca, .ref au, .ref ap, .ref al, .ref ar, .ref ae, .int (nI rw9), .int (nI C9), .int (nI fs9), .int (nI tk9)]))]) S hA [] [0] rfl rfl (by decide) (by decide) (va_runV (As := [.ref bx9, .ref ap]) (rest := []) ⟨hx, hb, C.2.2.1, C.2.2.2.1, C.2.2.2.2.1⟩ (g_P_multiply l G k _ _ 3733 ix9 3732 al bx9 ap (Z ix9) (Z 3732) N9 st Z V0 hN hh.1 (by omega) (by omega) (by omega) hL ax hP rfl rfl (show V0 ix9 from by unfold V0; omega) (show V0 3732 from by unfold V0; omega) (by omega) (by decide) (by omega) (by decide) (b50 (hh.2 ix9 (by omega) (by unfold V0; omega))) (b50 (hh.2 3732 (by omega) (by unfold V0; omega)))) (k_virt (n := 2) C wc_Wh_multiply rfl rfl wz_Wh wm_So_129 wn_Wh_multiply ws_Wh_multiply (by decide +kernel) ⟨(Nat.le_of_ble_eq_true rfl), (Nat.le_of_ble_eq_true rfl)⟩) (pr_nowVGP K S [] (by decide) rfl (Classical.choose_spec (at_mem hL (show 3733 < N9 by omega))) rfl) rfl rfl hl.1 rfl (lv_room (Nat.le_of_ble_eq_true rfl)) d_So_put_129 ⟨(show 0 + 200 ≤ pt st N9 + 400 from by omega), (show 0 + 400 ≤ 2 * pt st N9 + 800 from by omega)⟩) (fun st1 H locs hw2 S => ?_)
    have S : Sw G A s.heap _ _ ([(h0, .inr (1, [.ref cea, .ref roa, .ref coa, .ref ura, .ref uca, .ref au, .ref ap, .ref al, .ref ar, .ref ae, .int (nI rw9), .int (nI C9), .int (nI fs9), .int (nI tk9)]))] ++ (tpl k st1 N9)) := S
    have hw2 : gO st1 (va_up Z 3733 ((Z ix9) * (Z 3732))) (va_up V0 3733 True) ∧ keO st st1 ∧ pt st1 N9 ≤ pt st N9 ∧ saO st st1 := hw2
    show W p l e _ s m _ below meth c H locs _ _ _ (F0 m 132 ls [])
    obtain ⟨g3, ke4, pt5, sa6⟩ := hw2
    refine lv_aload_n hx hb d_So_put_132 rfl (lv_at hl 1 rfl) ?_
    refine r_get C K S 0 rfl rfl clOk_So 8 (by decide) wf_So_41 (v := .ref ar) rfl d_So_put_133 ?_
    refine lv_aload_n hx hb d_So_put_136 rfl (lv_at hl 3 rfl) ?_
    refine lv_aload_n hx hb d_So_put_137 rfl (lv_at hl 4 rfl) ?_
    refine q_backP (wi := []) (wr := [(h0, .inr (1, [.ref cea, .ref roa, .ref coa, .ref ura, .ref uca, .ref au, .ref ap, .ref al, .ref ar, .ref ae, .int (nI rw9), .int (nI C9), .int (nI fs9), .int (nI tk9)]))]) S hA [] [0] rfl rfl (by decide) (by decide) (va_runV (As := [.ref by9, .ref bz9]) (rest := []) ⟨hx, hb, C.2.2.1, C.2.2.2.1, C.2.2.2.2.1⟩ (g_P_multiply l G k _ _ 3734 iy9 iz9 ar by9 bz9 (Z iy9) (Z iz9) N9 st1 (va_up Z 3733 ((Z ix9) * (Z 3732))) (va_up V0 3733 True) hN g3 (by omega) (by omega) (by omega) (ke4.at hR) (ke4.at ay) (ke4.at az) (by rw [va_up_ne _ _ (show iy9 ≠ 3733 by omega)]) (by rw [va_up_ne _ _ (show iz9 ≠ 3733 by omega)]) (by rw [va_up_ne _ _ (show iy9 ≠ 3733 by omega)]; unfold V0; omega) (by rw [va_up_ne _ _ (show iz9 ≠ 3733 by omega)]; unfold V0; omega) (by omega) (by omega) (by omega) (by decide) (b50 (hh.2 iy9 (by omega) (by unfold V0; omega))) (b50 (hh.2 iz9 (by omega) (by unfold V0; omega)))) (k_virt (n := 2) C wc_Wh_multiply rfl rfl wz_Wh wm_So_129 wn_Wh_multiply ws_Wh_multiply (by decide +kernel) ⟨(Nat.le_of_ble_eq_true rfl), (Nat.le_of_ble_eq_true rfl)⟩) (pr_nowVGP K S [] (by decide) rfl (Classical.choose_spec (at_mem (ke4.at hR) (show 3734 < N9 by omega))) rfl) rfl rfl hl.1 rfl (lv_room (Nat.le_of_ble_eq_true rfl)) d_So_put_138 ⟨(show 0 + (pt st N9 - pt st1 N9) + 200 ≤ pt st N9 + 400 from by omega), (show 0 + (2 * (pt st N9 - pt st1 N9)) + 400 ≤ 2 * pt st N9 + 800 from by omega)⟩) (fun st7 H locs hw8 S => ?_)
    have S : Sw G A s.heap _ _ ([(h0, .inr (1, [.ref cea, .ref roa, .ref coa, .ref ura, .ref uca, .ref au, .ref ap, .ref al, .ref ar, .ref ae, .int (nI rw9), .int (nI C9), .int (nI fs9), .int (nI tk9)]))] ++ (tpl k st7 N9)) := S
    have hw8 : gO st7 (va_up (va_up Z 3733 ((Z ix9) * (Z 3732))) 3734 ((Z iy9) * (Z iz9))) (va_up (va_up V0 3733 True) 3734 True) ∧ keO st1 st7 ∧ pt st7 N9 ≤ pt st1 N9 ∧ saO st1 st7 := hw8
    show W p l e _ s m _ below meth c H locs _ _ _ (F0 m 141 ls [])
    obtain ⟨g9, ke10, pt11, sa12⟩ := hw8
    refine lv_aload_n hx hb d_So_put_141 rfl (lv_at hl 1 rfl) ?_
    refine r_get C K S 0 rfl rfl clOk_So 7 (by decide) wf_So_38 (v := .ref al) rfl d_So_put_142 ?_
    refine lv_aload_n hx hb d_So_put_145 rfl (lv_at hl 1 rfl) ?_
    refine r_get C K S 0 rfl rfl clOk_So 8 (by decide) wf_So_41 (v := .ref ar) rfl d_So_put_146 ?_
    refine q_backP (wi := []) (wr := [(h0, .inr (1, [.ref cea, .ref roa, .ref coa, .ref ura, .ref uca, .ref au, .ref ap, .ref al, .ref ar, .ref ae, .int (nI rw9), .int (nI C9), .int (nI fs9), .int (nI tk9)]))]) S hA [] [0] rfl rfl (by decide) (by decide) (va_runV (As := [.ref ar]) (rest := []) ⟨hx, hb, C.2.2.1, C.2.2.2.1, C.2.2.2.2.1⟩ (g_P_subtract l G k _ _ 3733 3734 al ar ((Z ix9) * (Z 3732)) ((Z iy9) * (Z iz9)) N9 st7 (va_up (va_up Z 3733 ((Z ix9) * (Z 3732))) 3734 ((Z iy9) * (Z iz9))) (va_up (va_up V0 3733 True) 3734 True) hN g9 (by omega) (by omega) (ke10.at (ke4.at hL)) (ke10.at (ke4.at hR)) (by rw [va_up_ne _ _ (show 3733 ≠ 3734 by decide), va_up_self]) (by rw [va_up_self]) (by rw [va_up_ne _ _ (show 3733 ≠ 3734 by decide), va_up_self]; trivial) (by rw [va_up_self]; trivial) (by decide) (by decide) (b99 (b98 (hh.2 ix9 (by omega) (by unfold V0; omega)) (hh.2 3732 (by omega) (by unfold V0; omega)))) (b99 (b98 (hh.2 iy9 (by omega) (by unfold V0; omega)) (hh.2 iz9 (by omega) (by unfold V0; omega))))) (k_virt (n := 1) C wc_Wh_subtract rfl rfl wz_Wh wm_So_147 wn_Wh_subtract ws_Wh_subtract (by decide +kernel) ⟨(Nat.le_of_ble_eq_true rfl), (Nat.le_of_ble_eq_true rfl)⟩) (pr_nowVGP K S [] (by decide) rfl (Classical.choose_spec (at_mem (ke10.at (ke4.at hL)) (show 3733 < N9 by omega))) rfl) rfl rfl hl.1 rfl (lv_room (Nat.le_of_ble_eq_true rfl)) d_So_put_149 ⟨(show 0 + (pt st N9 - pt st1 N9) + (pt st1 N9 - pt st7 N9) + 200 ≤ pt st N9 + 400 from by omega), (show 0 + (2 * (pt st N9 - pt st1 N9)) + (2 * (pt st1 N9 - pt st7 N9)) + 400 ≤ 2 * pt st N9 + 800 from by omega)⟩) (fun st13 H locs hw14 S => ?_)
    have S : Sw G A s.heap _ _ ([(h0, .inr (1, [.ref cea, .ref roa, .ref coa, .ref ura, .ref uca, .ref au, .ref ap, .ref al, .ref ar, .ref ae, .int (nI rw9), .int (nI C9), .int (nI fs9), .int (nI tk9)]))] ++ (tpl k st13 N9)) := S
    have hw14 : gO st13 (va_up (va_up (va_up Z 3733 ((Z ix9) * (Z 3732))) 3734 ((Z iy9) * (Z iz9))) 3733 (((Z ix9) * (Z 3732)) - ((Z iy9) * (Z iz9)))) (va_up (va_up (va_up V0 3733 True) 3734 True) 3733 True) ∧ keO st7 st13 ∧ pt st13 N9 ≤ pt st7 N9 ∧ saO st7 st13 := hw14
    show W p l e _ s m _ below meth c H locs _ _ _ (F0 m 152 ls [])
    obtain ⟨g15, ke16, pt17, sa18⟩ := hw14
    refine lv_aload_n hx hb d_So_put_152 rfl (lv_at hl 1 rfl) ?_
    refine r_get C K S 0 rfl rfl clOk_So 7 (by decide) wf_So_38 (v := .ref al) rfl d_So_put_153 ?_
    refine lv_aload_n hx hb d_So_put_156 rfl (lv_at hl 1 rfl) ?_
    refine r_get C K S 0 rfl rfl clOk_So 5 (by decide) wf_So_31 (v := .ref au) rfl d_So_put_157 ?_
    refine lv_aload_n hx hb d_So_put_160 rfl (lv_at hl 1 rfl) ?_
    refine r_get C K S 0 rfl rfl clOk_So 9 (by decide) wf_So_44 (v := .ref ae) rfl d_So_put_161 ?_
    refine lv_aload_n hx hb d_So_put_164 rfl (lv_at hl 1 rfl) ?_
    refine r_get C K S 0 rfl rfl clOk_So 8 (by decide) wf_So_41 (v := .ref ar) rfl d_So_put_165 ?_
    refine q_backP (wi := []) (wr := [(h0, .inr (1, [.ref cea, .ref roa, .ref coa, .ref ura, .ref uca, .ref au, .ref ap, .ref al, .ref ar, .ref ae, .int (nI rw9), .int (nI C9), .int (nI fs9), .int (nI tk9)]))]) S hA [] [0] rfl rfl (by decide) (by decide) (va_runV (As := [.ref au, .ref ae, .ref ar]) (rest := []) ⟨hx, hb, C.2.2.1, C.2.2.2.1, C.2.2.2.2.1⟩ (g_P_divide l G k _ _ 3733 3731 3735 3734 al au ae ar (((Z ix9) * (Z 3732)) - ((Z iy9) * (Z iz9))) (Z 3731) N9 st13 (va_up (va_up (va_up Z 3733 ((Z ix9) * (Z 3732))) 3734 ((Z iy9) * (Z iz9))) 3733 (((Z ix9) * (Z 3732)) - ((Z iy9) * (Z iz9)))) (va_up (va_up (va_up V0 3733 True) 3734 True) 3733 True) hN g15 (by omega) (by omega) (by omega) (by omega) (ke16.at (ke10.at (ke4.at hL))) (ke16.at (ke10.at (ke4.at hU))) (ke16.at (ke10.at (ke4.at hE))) (ke16.at (ke10.at (ke4.at hR))) (by rw [va_up_self]) (by rw [va_up_ne _ _ (show 3731 ≠ 3733 by decide), va_up_ne _ _ (show 3731 ≠ 3734 by decide), va_up_ne _ _ (show 3731 ≠ 3733 by decide)]) (by rw [va_up_self]; trivial) (by rw [va_up_ne _ _ (show 3731 ≠ 3733 by decide), va_up_ne _ _ (show 3731 ≠ 3734 by decide), va_up_ne _ _ (show 3731 ≠ 3733 by decide)]; unfold V0; omega) (by decide) (by decide) (by decide) (by decide) (by decide) (by decide) (by decide) (by decide) (by decide) (b99s (b98 (hh.2 ix9 (by omega) (by unfold V0; omega)) (hh.2 3732 (by omega) (by unfold V0; omega))) (b98 (hh.2 iy9 (by omega) (by unfold V0; omega)) (hh.2 iz9 (by omega) (by unfold V0; omega)))) (b99z (hh.2 3731 (by omega) (by unfold V0; omega)))) (k_virt (n := 3) C wc_Wh_divide rfl rfl wz_Wh wm_So_150 wn_Wh_divide ws_Wh_divide (by decide +kernel) ⟨(Nat.le_of_ble_eq_true rfl), (Nat.le_of_ble_eq_true rfl)⟩) (pr_nowVGP K S [] (by decide) rfl (Classical.choose_spec (at_mem (ke16.at (ke10.at (ke4.at hL))) (show 3733 < N9 by omega))) rfl) rfl rfl hl.1 rfl (lv_room (Nat.le_of_ble_eq_true rfl)) d_So_put_168 ⟨(show 0 + (pt st N9 - pt st1 N9) + (pt st1 N9 - pt st7 N9) + (pt st7 N9 - pt st13 N9) + 400 ≤ pt st N9 + 400 from by omega), (show 0 + (2 * (pt st N9 - pt st1 N9)) + (2 * (pt st1 N9 - pt st7 N9)) + (2 * (pt st7 N9 - pt st13 N9)) + 800 ≤ 2 * pt st N9 + 800 from by omega)⟩) (fun st19 H locs hw20 S => ?_)
    have S : Sw G A s.heap _ _ ([(h0, .inr (1, [.ref cea, .ref roa, .ref coa, .ref ura, .ref uca, .ref au, .ref ap, .ref al, .ref ar, .ref ae, .int (nI rw9), .int (nI C9), .int (nI fs9), .int (nI tk9)]))] ++ (tpl k st19 N9)) := S
    have hw20 : gO st19 (va_up (va_up (va_up (va_up Z 3733 ((Z ix9) * (Z 3732))) 3734 ((Z iy9) * (Z iz9))) 3733 (((Z ix9) * (Z 3732)) - ((Z iy9) * (Z iz9)))) 3733 ((((Z ix9) * (Z 3732)) - ((Z iy9) * (Z iz9))).tdiv (Z 3731))) (va_up (va_up (va_up (va_up (va_up (va_up V0 3733 True) 3734 True) 3733 True) 3734 False) 3735 False) 3733 True) ∧ keO st13 st19 ∧ pt st19 N9 ≤ pt st13 N9 ∧ saO st13 st19 := hw20
    show W p l e _ s m _ below meth c H locs _ _ _ (F0 m 171 ls [])
    obtain ⟨g21, ke22, pt23, sa24⟩ := hw20
    refine lv_aload_n hx hb d_So_put_171 rfl (lv_at hl 2 rfl) ?_
    refine lv_aload_n hx hb d_So_put_172 rfl (lv_at hl 1 rfl) ?_
    refine r_get C K S 0 rfl rfl clOk_So 7 (by decide) wf_So_38 (v := .ref al) rfl d_So_put_173 ?_
    have mb25 := Mb_le ix9
    refine q_backP (wi := []) (wr := [(h0, .inr (1, [.ref cea, .ref roa, .ref coa, .ref ura, .ref uca, .ref au, .ref ap, .ref al, .ref ar, .ref ae, .int (nI rw9), .int (nI C9), .int (nI fs9), .int (nI tk9)]))]) S hA [] [0] rfl rfl (by decide) (by decide) (va_runV (As := [.ref al]) (rest := []) ⟨hx, hb, C.2.2.1, C.2.2.2.1, C.2.2.2.2.1⟩ (g_P_copy l G k _ _ ix9 3733 bx9 al ((((Z ix9) * (Z 3732)) - ((Z iy9) * (Z iz9))).tdiv (Z 3731)) N9 st19 (va_up (va_up (va_up (va_up Z 3733 ((Z ix9) * (Z 3732))) 3734 ((Z iy9) * (Z iz9))) 3733 (((Z ix9) * (Z 3732)) - ((Z iy9) * (Z iz9)))) 3733 ((((Z ix9) * (Z 3732)) - ((Z iy9) * (Z iz9))).tdiv (Z 3731))) (va_up (va_up (va_up (va_up (va_up (va_up V0 3733 True) 3734 True) 3733 True) 3734 False) 3735 False) 3733 True) hN g21 (by omega) (by omega) (ke22.at (ke16.at (ke10.at (ke4.at ax)))) (ke22.at (ke16.at (ke10.at (ke4.at hL)))) (by rw [va_up_self]) (by rw [va_up_self]; trivial) (by omega) (by rw [e8]; exact hwb)) (k_virt (n := 1) C wc_Wh_copy rfl rfl wz_Wh wm_So_133 wn_Wh_copy ws_Wh_copy (by decide +kernel) ⟨(Nat.le_of_ble_eq_true rfl), (Nat.le_of_ble_eq_true rfl)⟩) (pr_nowVGP K S [] (by decide) rfl (Classical.choose_spec (at_mem (ke22.at (ke16.at (ke10.at (ke4.at ax)))) (show ix9 < N9 by omega))) rfl) rfl rfl hl.1 rfl (lv_room (Nat.le_of_ble_eq_true rfl)) d_So_put_176 ⟨(show 0 + (pt st N9 - pt st1 N9) + (pt st1 N9 - pt st7 N9) + (pt st7 N9 - pt st13 N9) + (pt st13 N9 - pt st19 N9) + (Mb ix9) ≤ pt st N9 + 400 from by omega), (show 0 + (2 * (pt st N9 - pt st1 N9)) + (2 * (pt st1 N9 - pt st7 N9)) + (2 * (pt st7 N9 - pt st13 N9)) + (2 * (pt st13 N9 - pt st19 N9)) + (2 * Mb ix9) ≤ 2 * pt st N9 + 800 from by omega)⟩) (fun st26 H locs hw27 S => ?_)
    have S : Sw G A s.heap _ _ ([(h0, .inr (1, [.ref cea, .ref roa, .ref coa, .ref ura, .ref uca, .ref au, .ref ap, .ref al, .ref ar, .ref ae, .int (nI rw9), .int (nI C9), .int (nI fs9), .int (nI tk9)]))] ++ (tpl k st26 N9)) := S
    have hw27 : gO st26 (va_up (va_up (va_up (va_up (va_up Z 3733 ((Z ix9) * (Z 3732))) 3734 ((Z iy9) * (Z iz9))) 3733 (((Z ix9) * (Z 3732)) - ((Z iy9) * (Z iz9)))) 3733 ((((Z ix9) * (Z 3732)) - ((Z iy9) * (Z iz9))).tdiv (Z 3731))) ix9 ((((Z ix9) * (Z 3732)) - ((Z iy9) * (Z iz9))).tdiv (Z 3731))) (va_up (va_up (va_up (va_up (va_up (va_up (va_up V0 3733 True) 3734 True) 3733 True) 3734 False) 3735 False) 3733 True) ix9 True) ∧ keO st19 st26 ∧ pt st26 N9 ≤ pt st19 N9 ∧ saO st19 st26 := hw27
    show W p l e _ s m _ below meth c H locs _ _ _ (F0 m 179 ls [])
    obtain ⟨g28, ke29, pt30, sa31⟩ := hw27
    have hfin : hO st26 (va_up Z ix9 wv9) := by
      refine hO_of g28 (bd_up hh.2 hwb) (fun i q1 q2 => ?_)
      unfold V0 at q2
      have n1 : i ≠ 3733 := by omega
      have n2 : i ≠ 3734 := by omega
      have n3 : i ≠ 3735 := by omega
      by_cases w9 : i = ix9
      · subst w9
        refine ⟨by rw [va_up_self]; trivial, ?_⟩
        rw [va_up_self, va_up_self]
        exact e8.symm
      · refine ⟨by rw [va_up_ne _ _ w9, va_up_ne _ _ n1, va_up_ne _ _ n3, va_up_ne _ _ n2, va_up_ne _ _ n1, va_up_ne _ _ n2, va_up_ne _ _ n1]; unfold V0; omega, ?_⟩
        rw [va_up_ne _ _ w9, va_up_ne _ _ w9, va_up_ne _ _ n1, va_up_ne _ _ n1, va_up_ne _ _ n2, va_up_ne _ _ n1]
    exact q_vret C K hsz st26 (show hO st26 (va_up Z ix9 wv9) ∧ keO st st26 ∧ pt st26 N9 ≤ pt st N9 ∧ saO st st26 from ⟨hfin, ((((ke4.tr ke10).tr ke16).tr ke22).tr ke29), by omega, (saO.tr (saO.tr (saO.tr (saO.tr sa6 sa12) sa18) sa24) sa31)⟩) (S.subP [0] (by decide) rfl) d_So_put_179 (show 0 + (pt st N9 - pt st1 N9) + (pt st1 N9 - pt st7 N9) + (pt st7 N9 - pt st13 N9) + (pt st13 N9 - pt st19 N9) + (pt st19 N9 - pt st26 N9) ≤ pt st N9 - pt st26 N9 from by omega) (show 0 + (2 * (pt st N9 - pt st1 N9)) + (2 * (pt st1 N9 - pt st7 N9)) + (2 * (pt st7 N9 - pt st13 N9)) + (2 * (pt st13 N9 - pt st19 N9)) + (2 * (pt st19 N9 - pt st26 N9)) ≤ 2 * (pt st N9 - pt st26 N9) from by omega) (show 0 + (pt st N9 - pt st1 N9) + (pt st1 N9 - pt st7 N9) + (pt st7 N9 - pt st13 N9) + (pt st13 N9 - pt st19 N9) + (pt st19 N9 - pt st26 N9) ≤ pt st N9 + 400 from by omega) (show 0 + (2 * (pt st N9 - pt st1 N9)) + (2 * (pt st1 N9 - pt st7 N9)) + (2 * (pt st7 N9 - pt st13 N9)) + (2 * (pt st13 N9 - pt st19 N9)) + (2 * (pt st19 N9 - pt st26 N9)) ≤ 2 * pt st N9 + 800 from by omega)
  have k22 : ∀ (H : Heap) (locs : List Loc), Sw G A s.heap H locs ([(h0, .inr (1, [.ref cea, .ref roa, .ref coa, .ref ura, .ref uca, .ref au, .ref ap, .ref al, .ref ar, .ref ae, .int (nI rw9), .int (nI C9), .int (nI fs9), .int (nI tk9)]))] ++ (tpl k st N9)) → ∀ ls : Array Slot, lv_has ls 5 [(0, .ref h0), (1, .ref bx9), (2, .ref by9), (3, .ref bz9)] → W p l e { frames := 5, cells := pt st N9 + 400, slots := 2 * pt st N9 + 800, locals := 157 } s m [Value.ref h0, Value.ref bx9, Value.ref by9, Value.ref bz9].toArray below meth c H locs 0 0 (MQ below (va_Qg (fun (u : Nat → Option wQ) => none) (fun (u : Nat → Option wQ) => hO u (va_up Z ix9 wv9) ∧ keO st u ∧ pt u N9 ≤ pt st N9 ∧ saO st u) (Pog G k A (fun (u : Nat → Option wQ) => ([(h0, .inr (1, [.ref cea, .ref roa, .ref coa, .ref ura, .ref uca, .ref au, .ref ap, .ref al, .ref ar, .ref ae, .int (nI rw9), .int (nI C9), .int (nI fs9), .int (nI tk9)]))] ++ (tpl k u N9))) s0 sl (fun (u : Nat → Option wQ) => pt st N9 - pt u N9) (fun (u : Nat → Option wQ) => 2 * (pt st N9 - pt u N9))) A) [Value.ref h0, Value.ref bx9, Value.ref by9, Value.ref bz9].toArray s (pt st N9 + 400) (2 * pt st N9 + 800) A) (F0 m 22 ls []) := by
    intro H locs S ls hl
    refine lv_aload_n hx hb d_So_put_22 rfl (lv_at hl 1 rfl) ?_
    refine q_backP (wi := []) (wr := [(h0, .inr (1, [.ref cea, .ref roa, .ref coa, .ref ura, .ref uca, .ref au, .ref ap, .ref al, .ref ar, .ref ae, .int (nI rw9), .int (nI C9), .int (nI fs9), .int (nI tk9)]))]) S hA [] [0] rfl rfl (by decide) (by decide) (va_runV (As := []) (rest := []) ⟨hx, hb, C.2.2.1, C.2.2.2.1, C.2.2.2.2.1⟩ (g_P_isSmall l G k _ _ ix9 bx9 (Z ix9) N9 st Z V0 hN hh.1 (by omega) ax rfl (show V0 ix9 from by unfold V0; omega)) (k_virt (n := 0) C wc_Wh_isSmall rfl rfl wz_Wh wm_So_116 wn_Wh_isSmall ws_Wh_isSmall (by decide +kernel) ⟨(Nat.le_of_ble_eq_true rfl), (Nat.le_of_ble_eq_true rfl)⟩) (pr_nowVGP K S [] (by decide) rfl (Classical.choose_spec (at_mem ax (show ix9 < N9 by omega))) rfl) rfl rfl hl.1 rfl (lv_room (Nat.le_of_ble_eq_true rfl)) d_So_put_23 ⟨(Nat.zero_le _), (Nat.zero_le _)⟩) (fun u32 H locs hw33 S => ?_)
    have S : Sw G A s.heap _ _ ([(h0, .inr (1, [.ref cea, .ref roa, .ref coa, .ref ura, .ref uca, .ref au, .ref ap, .ref al, .ref ar, .ref ae, .int (nI rw9), .int (nI C9), .int (nI fs9), .int (nI tk9)]))] ++ (tpl k st N9)) := S
    have hw33 : True := hw33
    show W p l e _ s m _ below meth c H locs _ _ _ (F0 m 26 ls [.int (nI (smB ((Z ix9))))])
    have sb34 := smB_le (Z ix9)
    refine z_if_eq (a := (smB ((Z ix9)))) (tgt := 67) hx hb d_So_put_26 (by decide) (by omega) (fun hc35 => ?_) (fun hc35 => ?_)
    · refine lv_iconst (v := 0) hx hb d_So_put_67 (by decide) ?_
      refine lv_istore (lv' := [(4, .int 0), (0, .ref h0), (1, .ref bx9), (2, .ref by9), (3, .ref bz9)]) hx hb d_So_put_68 hl (by decide) rfl (fun ls hl => ?_)
      refine lv_iload hx hb d_So_put_70 (lv_at hl 0 rfl) ?_
      refine lv_if_eq (tgt := 120) hx hb d_So_put_72 (by decide) (fun _ => ?_) (fun hq => absurd (by decide) hq)
      exact k120 _ _ (S.subP [0] (by decide) rfl) ls (lv_sub hl [0, 1, 2, 3, 4] rfl)
    · refine lv_aload_n hx hb d_So_put_29 rfl (lv_at hl 2 rfl) ?_
      refine q_backP (wi := []) (wr := [(h0, .inr (1, [.ref cea, .ref roa, .ref coa, .ref ura, .ref uca, .ref au, .ref ap, .ref al, .ref ar, .ref ae, .int (nI rw9), .int (nI C9), .int (nI fs9), .int (nI tk9)]))]) S hA [] [0] rfl rfl (by decide) (by decide) (va_runV (As := []) (rest := []) ⟨hx, hb, C.2.2.1, C.2.2.2.1, C.2.2.2.2.1⟩ (g_P_isSmall l G k _ _ iy9 by9 (Z iy9) N9 st Z V0 hN hh.1 (by omega) ay rfl (show V0 iy9 from by unfold V0; omega)) (k_virt (n := 0) C wc_Wh_isSmall rfl rfl wz_Wh wm_So_116 wn_Wh_isSmall ws_Wh_isSmall (by decide +kernel) ⟨(Nat.le_of_ble_eq_true rfl), (Nat.le_of_ble_eq_true rfl)⟩) (pr_nowVGP K S [] (by decide) rfl (Classical.choose_spec (at_mem ay (show iy9 < N9 by omega))) rfl) rfl rfl hl.1 rfl (lv_room (Nat.le_of_ble_eq_true rfl)) d_So_put_30 ⟨(Nat.zero_le _), (Nat.zero_le _)⟩) (fun u36 H locs hw37 S => ?_)
      have S : Sw G A s.heap _ _ ([(h0, .inr (1, [.ref cea, .ref roa, .ref coa, .ref ura, .ref uca, .ref au, .ref ap, .ref al, .ref ar, .ref ae, .int (nI rw9), .int (nI C9), .int (nI fs9), .int (nI tk9)]))] ++ (tpl k st N9)) := S
      have hw37 : True := hw37
      show W p l e _ s m _ below meth c H locs _ _ _ (F0 m 33 ls [.int (nI (smB ((Z iy9))))])
      have sb38 := smB_le (Z iy9)
      refine z_if_eq (a := (smB ((Z iy9)))) (tgt := 67) hx hb d_So_put_33 (by decide) (by omega) (fun hc39 => ?_) (fun hc39 => ?_)
      · refine lv_iconst (v := 0) hx hb d_So_put_67 (by decide) ?_
        refine lv_istore (lv' := [(4, .int 0), (0, .ref h0), (1, .ref bx9), (2, .ref by9), (3, .ref bz9)]) hx hb d_So_put_68 hl (by decide) rfl (fun ls hl => ?_)
        refine lv_iload hx hb d_So_put_70 (lv_at hl 0 rfl) ?_
        refine lv_if_eq (tgt := 120) hx hb d_So_put_72 (by decide) (fun _ => ?_) (fun hq => absurd (by decide) hq)
        exact k120 _ _ (S.subP [0] (by decide) rfl) ls (lv_sub hl [0, 1, 2, 3, 4] rfl)
      · refine lv_aload_n hx hb d_So_put_36 rfl (lv_at hl 3 rfl) ?_
        refine q_backP (wi := []) (wr := [(h0, .inr (1, [.ref cea, .ref roa, .ref coa, .ref ura, .ref uca, .ref au, .ref ap, .ref al, .ref ar, .ref ae, .int (nI rw9), .int (nI C9), .int (nI fs9), .int (nI tk9)]))]) S hA [] [0] rfl rfl (by decide) (by decide) (va_runV (As := []) (rest := []) ⟨hx, hb, C.2.2.1, C.2.2.2.1, C.2.2.2.2.1⟩ (g_P_isSmall l G k _ _ iz9 bz9 (Z iz9) N9 st Z V0 hN hh.1 (by omega) az rfl (show V0 iz9 from by unfold V0; omega)) (k_virt (n := 0) C wc_Wh_isSmall rfl rfl wz_Wh wm_So_116 wn_Wh_isSmall ws_Wh_isSmall (by decide +kernel) ⟨(Nat.le_of_ble_eq_true rfl), (Nat.le_of_ble_eq_true rfl)⟩) (pr_nowVGP K S [] (by decide) rfl (Classical.choose_spec (at_mem az (show iz9 < N9 by omega))) rfl) rfl rfl hl.1 rfl (lv_room (Nat.le_of_ble_eq_true rfl)) d_So_put_37 ⟨(Nat.zero_le _), (Nat.zero_le _)⟩) (fun u40 H locs hw41 S => ?_)
        have S : Sw G A s.heap _ _ ([(h0, .inr (1, [.ref cea, .ref roa, .ref coa, .ref ura, .ref uca, .ref au, .ref ap, .ref al, .ref ar, .ref ae, .int (nI rw9), .int (nI C9), .int (nI fs9), .int (nI tk9)]))] ++ (tpl k st N9)) := S
        have hw41 : True := hw41
        show W p l e _ s m _ below meth c H locs _ _ _ (F0 m 40 ls [.int (nI (smB ((Z iz9))))])
        have sb42 := smB_le (Z iz9)
        refine z_if_eq (a := (smB ((Z iz9)))) (tgt := 67) hx hb d_So_put_40 (by decide) (by omega) (fun hc43 => ?_) (fun hc43 => ?_)
        · refine lv_iconst (v := 0) hx hb d_So_put_67 (by decide) ?_
          refine lv_istore (lv' := [(4, .int 0), (0, .ref h0), (1, .ref bx9), (2, .ref by9), (3, .ref bz9)]) hx hb d_So_put_68 hl (by decide) rfl (fun ls hl => ?_)
          refine lv_iload hx hb d_So_put_70 (lv_at hl 0 rfl) ?_
          refine lv_if_eq (tgt := 120) hx hb d_So_put_72 (by decide) (fun _ => ?_) (fun hq => absurd (by decide) hq)
          exact k120 _ _ (S.subP [0] (by decide) rfl) ls (lv_sub hl [0, 1, 2, 3, 4] rfl)
        · refine lv_aload_n hx hb d_So_put_43 rfl (lv_at hl 0 rfl) ?_
          refine r_get C K S 0 rfl rfl clOk_So 6 (by decide) wf_So_35 (v := .ref ap) rfl d_So_put_44 ?_
          refine q_backP (wi := []) (wr := [(h0, .inr (1, [.ref cea, .ref roa, .ref coa, .ref ura, .ref uca, .ref au, .ref ap, .ref al, .ref ar, .ref ae, .int (nI rw9), .int (nI C9), .int (nI fs9), .int (nI tk9)]))]) S hA [] [0] rfl rfl (by decide) (by decide) (va_runV (As := []) (rest := []) ⟨hx, hb, C.2.2.1, C.2.2.2.1, C.2.2.2.2.1⟩ (g_P_isSmall l G k _ _ 3732 ap (Z 3732) N9 st Z V0 hN hh.1 (by omega) hP rfl (show V0 3732 from by unfold V0; omega)) (k_virt (n := 0) C wc_Wh_isSmall rfl rfl wz_Wh wm_So_116 wn_Wh_isSmall ws_Wh_isSmall (by decide +kernel) ⟨(Nat.le_of_ble_eq_true rfl), (Nat.le_of_ble_eq_true rfl)⟩) (pr_nowVGP K S [] (by decide) rfl (Classical.choose_spec (at_mem hP (show 3732 < N9 by omega))) rfl) rfl rfl hl.1 rfl (lv_room (Nat.le_of_ble_eq_true rfl)) d_So_put_47 ⟨(Nat.zero_le _), (Nat.zero_le _)⟩) (fun u44 H locs hw45 S => ?_)
          have S : Sw G A s.heap _ _ ([(h0, .inr (1, [.ref cea, .ref roa, .ref coa, .ref ura, .ref uca, .ref au, .ref ap, .ref al, .ref ar, .ref ae, .int (nI rw9), .int (nI C9), .int (nI fs9), .int (nI tk9)]))] ++ (tpl k st N9)) := S
          have hw45 : True := hw45
          show W p l e _ s m _ below meth c H locs _ _ _ (F0 m 50 ls [.int (nI (smB ((Z 3732))))])
          have sb46 := smB_le (Z 3732)
          refine z_if_eq (a := (smB ((Z 3732)))) (tgt := 67) hx hb d_So_put_50 (by decide) (by omega) (fun hc47 => ?_) (fun hc47 => ?_)
          · refine lv_iconst (v := 0) hx hb d_So_put_67 (by decide) ?_
            refine lv_istore (lv' := [(4, .int 0), (0, .ref h0), (1, .ref bx9), (2, .ref by9), (3, .ref bz9)]) hx hb d_So_put_68 hl (by decide) rfl (fun ls hl => ?_)
            refine lv_iload hx hb d_So_put_70 (lv_at hl 0 rfl) ?_
            refine lv_if_eq (tgt := 120) hx hb d_So_put_72 (by decide) (fun _ => ?_) (fun hq => absurd (by decide) hq)
            exact k120 _ _ (S.subP [0] (by decide) rfl) ls (lv_sub hl [0, 1, 2, 3, 4] rfl)
          · refine lv_aload_n hx hb d_So_put_53 rfl (lv_at hl 0 rfl) ?_
            refine r_get C K S 0 rfl rfl clOk_So 5 (by decide) wf_So_31 (v := .ref au) rfl d_So_put_54 ?_
            refine q_backP (wi := []) (wr := [(h0, .inr (1, [.ref cea, .ref roa, .ref coa, .ref ura, .ref uca, .ref au, .ref ap, .ref al, .ref ar, .ref ae, .int (nI rw9), .int (nI C9), .int (nI fs9), .int (nI tk9)]))]) S hA [] [0] rfl rfl (by decide) (by decide) (va_runV (As := []) (rest := []) ⟨hx, hb, C.2.2.1, C.2.2.2.1, C.2.2.2.2.1⟩ (g_P_isSmall l G k _ _ 3731 au (Z 3731) N9 st Z V0 hN hh.1 (by omega) hU rfl (show V0 3731 from by unfold V0; omega)) (k_virt (n := 0) C wc_Wh_isSmall rfl rfl wz_Wh wm_So_116 wn_Wh_isSmall ws_Wh_isSmall (by decide +kernel) ⟨(Nat.le_of_ble_eq_true rfl), (Nat.le_of_ble_eq_true rfl)⟩) (pr_nowVGP K S [] (by decide) rfl (Classical.choose_spec (at_mem hU (show 3731 < N9 by omega))) rfl) rfl rfl hl.1 rfl (lv_room (Nat.le_of_ble_eq_true rfl)) d_So_put_57 ⟨(Nat.zero_le _), (Nat.zero_le _)⟩) (fun u48 H locs hw49 S => ?_)
            have S : Sw G A s.heap _ _ ([(h0, .inr (1, [.ref cea, .ref roa, .ref coa, .ref ura, .ref uca, .ref au, .ref ap, .ref al, .ref ar, .ref ae, .int (nI rw9), .int (nI C9), .int (nI fs9), .int (nI tk9)]))] ++ (tpl k st N9)) := S
            have hw49 : True := hw49
            show W p l e _ s m _ below meth c H locs _ _ _ (F0 m 60 ls [.int (nI (smB ((Z 3731))))])
            have sb50 := smB_le (Z 3731)
            refine z_if_eq (a := (smB ((Z 3731)))) (tgt := 67) hx hb d_So_put_60 (by decide) (by omega) (fun hc51 => ?_) (fun hc51 => ?_)
            · refine lv_iconst (v := 0) hx hb d_So_put_67 (by decide) ?_
              refine lv_istore (lv' := [(4, .int 0), (0, .ref h0), (1, .ref bx9), (2, .ref by9), (3, .ref bz9)]) hx hb d_So_put_68 hl (by decide) rfl (fun ls hl => ?_)
              refine lv_iload hx hb d_So_put_70 (lv_at hl 0 rfl) ?_
              refine lv_if_eq (tgt := 120) hx hb d_So_put_72 (by decide) (fun _ => ?_) (fun hq => absurd (by decide) hq)
              exact k120 _ _ (S.subP [0] (by decide) rfl) ls (lv_sub hl [0, 1, 2, 3, 4] rfl)
            · refine lv_iconst (v := 1) hx hb d_So_put_63 (by decide) ?_
              refine lv_goto (tgt := 68) hx hb d_So_put_64 (by decide) ?_
              refine lv_istore (lv' := [(4, .int 1), (0, .ref h0), (1, .ref bx9), (2, .ref by9), (3, .ref bz9)]) hx hb d_So_put_68 hl (by decide) rfl (fun ls hl => ?_)
              refine lv_iload hx hb d_So_put_70 (lv_at hl 0 rfl) ?_
              refine lv_if_eq (tgt := 120) hx hb d_So_put_72 (by decide) (fun hq => absurd hq (by decide)) (fun _ => ?_)
              refine lv_aload_n hx hb d_So_put_75 rfl (lv_at hl 1 rfl) ?_
              refine r_get C K S 0 rfl rfl clOk_So 5 (by decide) wf_So_31 (v := .ref au) rfl d_So_put_76 ?_
              refine q_backP (wi := []) (wr := [(h0, .inr (1, [.ref cea, .ref roa, .ref coa, .ref ura, .ref uca, .ref au, .ref ap, .ref al, .ref ar, .ref ae, .int (nI rw9), .int (nI C9), .int (nI fs9), .int (nI tk9)]))]) S hA [] [0] rfl rfl (by decide) (by decide) (va_runV (As := []) (rest := []) ⟨hx, hb, C.2.2.1, C.2.2.2.1, C.2.2.2.2.1⟩ (g_P_sign l G k _ _ 3731 au (Z 3731) N9 st Z V0 hN hh.1 (by omega) hU rfl (show V0 3731 from by unfold V0; omega)) (k_virt (n := 0) C wc_Wh_sign rfl rfl wz_Wh wm_So_101 wn_Wh_sign ws_Wh_sign (by decide +kernel) ⟨(Nat.le_of_ble_eq_true rfl), (Nat.le_of_ble_eq_true rfl)⟩) (pr_nowVGP K S [] (by decide) rfl (Classical.choose_spec (at_mem hU (show 3731 < N9 by omega))) rfl) rfl rfl hl.1 rfl (lv_room (Nat.le_of_ble_eq_true rfl)) d_So_put_79 ⟨(Nat.zero_le _), (Nat.zero_le _)⟩) (fun u52 H locs hw53 S => ?_)
              have S : Sw G A s.heap _ _ ([(h0, .inr (1, [.ref cea, .ref roa, .ref coa, .ref ura, .ref uca, .ref au, .ref ap, .ref al, .ref ar, .ref ae, .int (nI rw9), .int (nI C9), .int (nI fs9), .int (nI tk9)]))] ++ (tpl k st N9)) := S
              have hw53 : True := hw53
              show W p l e _ s m _ below meth c H locs _ _ _ (F0 m 82 ls [.int (sgI ((Z 3731)))])
              refine lv_if_eq (tgt := 120) hx hb d_So_put_82 (by decide) (fun hq => absurd hq (fun q => hu0 (sgn_0.mp q))) (fun _ => ?_)
              have f0 := smB_1 hc35
              have f1 := smB_1 hc39
              have f2 := smB_1 hc43
              have f3 := smB_1 hc47
              have f4 := smB_1 hc51
              have m1 := sm_mul f0 f3
              have m2 := sm_mul f1 f2
              have m3 : (wv9 * Z 3731).natAbs < 9223372036854775808 := by rw [← hwa]; omega
              have m4 := w_le (w := wv9) hu0
              refine lv_aload_n hx hb d_So_put_85 rfl (lv_at hl 2 rfl) ?_
              refine lv_aload_n hx hb d_So_put_86 rfl (lv_at hl 2 rfl) ?_
              refine q_backP (wi := []) (wr := [(h0, .inr (1, [.ref cea, .ref roa, .ref coa, .ref ura, .ref uca, .ref au, .ref ap, .ref al, .ref ar, .ref ae, .int (nI rw9), .int (nI C9), .int (nI fs9), .int (nI tk9)]))]) S hA [] [0] rfl rfl (by decide) (by decide) (va_runV (As := []) (rest := [.ref bx9]) ⟨hx, hb, C.2.2.1, C.2.2.2.1, C.2.2.2.2.1⟩ (g_P_small l G k _ _ ix9 bx9 (Z ix9) N9 st Z V0 hN hh.1 (by omega) ax rfl (show V0 ix9 from by unfold V0; omega) (smB_1 hc35)) (k_virt (n := 0) C wc_Wh_small rfl rfl wz_Wh wm_So_120 wn_Wh_small ws_Wh_small (by decide +kernel) ⟨(Nat.le_of_ble_eq_true rfl), (Nat.le_of_ble_eq_true rfl)⟩) (pr_nowVGP K S [] (by decide) rfl (Classical.choose_spec (at_mem ax (show ix9 < N9 by omega))) rfl) rfl rfl hl.1 rfl (lv_room (Nat.le_of_ble_eq_true rfl)) d_So_put_87 ⟨(Nat.zero_le _), (Nat.zero_le _)⟩) (fun u54 H locs hw55 S => ?_)
              have S : Sw G A s.heap _ _ ([(h0, .inr (1, [.ref cea, .ref roa, .ref coa, .ref ura, .ref uca, .ref au, .ref ap, .ref al, .ref ar, .ref ae, .int (nI rw9), .int (nI C9), .int (nI fs9), .int (nI tk9)]))] ++ (tpl k st N9)) := S
              have hw55 : True := hw55
              show W p l e _ s m _ below meth c H locs _ _ _ (F0 m 90 ls [.long (lZ ((Z ix9))), .ref bx9])
              refine lv_aload_n hx hb d_So_put_90 rfl (lv_at hl 1 rfl) ?_
              refine r_get C K S 0 rfl rfl clOk_So 6 (by decide) wf_So_35 (v := .ref ap) rfl d_So_put_91 ?_
              refine q_backP (wi := []) (wr := [(h0, .inr (1, [.ref cea, .ref roa, .ref coa, .ref ura, .ref uca, .ref au, .ref ap, .ref al, .ref ar, .ref ae, .int (nI rw9), .int (nI C9), .int (nI fs9), .int (nI tk9)]))]) S hA [] [0] rfl rfl (by decide) (by decide) (va_runV (As := []) (rest := [.long (lZ ((Z ix9))), .ref bx9]) ⟨hx, hb, C.2.2.1, C.2.2.2.1, C.2.2.2.2.1⟩ (g_P_small l G k _ _ 3732 ap (Z 3732) N9 st Z V0 hN hh.1 (by omega) hP rfl (show V0 3732 from by unfold V0; omega) (smB_1 hc47)) (k_virt (n := 0) C wc_Wh_small rfl rfl wz_Wh wm_So_120 wn_Wh_small ws_Wh_small (by decide +kernel) ⟨(Nat.le_of_ble_eq_true rfl), (Nat.le_of_ble_eq_true rfl)⟩) (pr_nowVGP K S [] (by decide) rfl (Classical.choose_spec (at_mem hP (show 3732 < N9 by omega))) rfl) rfl rfl hl.1 rfl (lv_room (Nat.le_of_ble_eq_true rfl)) d_So_put_94 ⟨(Nat.zero_le _), (Nat.zero_le _)⟩) (fun u56 H locs hw57 S => ?_)
              have S : Sw G A s.heap _ _ ([(h0, .inr (1, [.ref cea, .ref roa, .ref coa, .ref ura, .ref uca, .ref au, .ref ap, .ref al, .ref ar, .ref ae, .int (nI rw9), .int (nI C9), .int (nI fs9), .int (nI tk9)]))] ++ (tpl k st N9)) := S
              have hw57 : True := hw57
              show W p l e _ s m _ below meth c H locs _ _ _ (F0 m 97 ls [.long (lZ ((Z 3732))), .long (lZ ((Z ix9))), .ref bx9])
              refine z_lmul (v := lZ (Z ix9 * Z 3732)) hx hb d_So_put_97 (lZ_mul _ _) ?_
              refine lv_aload_n hx hb d_So_put_98 rfl (lv_at hl 3 rfl) ?_
              refine q_backP (wi := []) (wr := [(h0, .inr (1, [.ref cea, .ref roa, .ref coa, .ref ura, .ref uca, .ref au, .ref ap, .ref al, .ref ar, .ref ae, .int (nI rw9), .int (nI C9), .int (nI fs9), .int (nI tk9)]))]) S hA [] [0] rfl rfl (by decide) (by decide) (va_runV (As := []) (rest := [.long (lZ (Z ix9 * Z 3732)), .ref bx9]) ⟨hx, hb, C.2.2.1, C.2.2.2.1, C.2.2.2.2.1⟩ (g_P_small l G k _ _ iy9 by9 (Z iy9) N9 st Z V0 hN hh.1 (by omega) ay rfl (show V0 iy9 from by unfold V0; omega) (smB_1 hc39)) (k_virt (n := 0) C wc_Wh_small rfl rfl wz_Wh wm_So_120 wn_Wh_small ws_Wh_small (by decide +kernel) ⟨(Nat.le_of_ble_eq_true rfl), (Nat.le_of_ble_eq_true rfl)⟩) (pr_nowVGP K S [] (by decide) rfl (Classical.choose_spec (at_mem ay (show iy9 < N9 by omega))) rfl) rfl rfl hl.1 rfl (lv_room (Nat.le_of_ble_eq_true rfl)) d_So_put_99 ⟨(Nat.zero_le _), (Nat.zero_le _)⟩) (fun u58 H locs hw59 S => ?_)
              have S : Sw G A s.heap _ _ ([(h0, .inr (1, [.ref cea, .ref roa, .ref coa, .ref ura, .ref uca, .ref au, .ref ap, .ref al, .ref ar, .ref ae, .int (nI rw9), .int (nI C9), .int (nI fs9), .int (nI tk9)]))] ++ (tpl k st N9)) := S
              have hw59 : True := hw59
              show W p l e _ s m _ below meth c H locs _ _ _ (F0 m 102 ls [.long (lZ ((Z iy9))), .long (lZ (Z ix9 * Z 3732)), .ref bx9])
              refine lv_aload_n hx hb d_So_put_102 rfl (lv_at hl 4 rfl) ?_
              refine q_backP (wi := []) (wr := [(h0, .inr (1, [.ref cea, .ref roa, .ref coa, .ref ura, .ref uca, .ref au, .ref ap, .ref al, .ref ar, .ref ae, .int (nI rw9), .int (nI C9), .int (nI fs9), .int (nI tk9)]))]) S hA [] [0] rfl rfl (by decide) (by decide) (va_runV (As := []) (rest := [.long (lZ ((Z iy9))), .long (lZ (Z ix9 * Z 3732)), .ref bx9]) ⟨hx, hb, C.2.2.1, C.2.2.2.1, C.2.2.2.2.1⟩ (g_P_small l G k _ _ iz9 bz9 (Z iz9) N9 st Z V0 hN hh.1 (by omega) az rfl (show V0 iz9 from by unfold V0; omega) (smB_1 hc43)) (k_virt (n := 0) C wc_Wh_small rfl rfl wz_Wh wm_So_120 wn_Wh_small ws_Wh_small (by decide +kernel) ⟨(Nat.le_of_ble_eq_true rfl), (Nat.le_of_ble_eq_true rfl)⟩) (pr_nowVGP K S [] (by decide) rfl (Classical.choose_spec (at_mem az (show iz9 < N9 by omega))) rfl) rfl rfl hl.1 rfl (lv_room (Nat.le_of_ble_eq_true rfl)) d_So_put_103 ⟨(Nat.zero_le _), (Nat.zero_le _)⟩) (fun u60 H locs hw61 S => ?_)
              have S : Sw G A s.heap _ _ ([(h0, .inr (1, [.ref cea, .ref roa, .ref coa, .ref ura, .ref uca, .ref au, .ref ap, .ref al, .ref ar, .ref ae, .int (nI rw9), .int (nI C9), .int (nI fs9), .int (nI tk9)]))] ++ (tpl k st N9)) := S
              have hw61 : True := hw61
              show W p l e _ s m _ below meth c H locs _ _ _ (F0 m 106 ls [.long (lZ ((Z iz9))), .long (lZ ((Z iy9))), .long (lZ (Z ix9 * Z 3732)), .ref bx9])
              refine z_lmul (v := lZ (Z iy9 * Z iz9)) hx hb d_So_put_106 (lZ_mul _ _) ?_
              refine z_lsub (v := lZ (Z ix9 * Z 3732 - Z iy9 * Z iz9)) hx hb d_So_put_107 (lZ_sub _ _) ?_
              refine lv_aload_n hx hb d_So_put_108 rfl (lv_at hl 1 rfl) ?_
              refine r_get C K S 0 rfl rfl clOk_So 5 (by decide) wf_So_31 (v := .ref au) rfl d_So_put_109 ?_
              refine q_backP (wi := []) (wr := [(h0, .inr (1, [.ref cea, .ref roa, .ref coa, .ref ura, .ref uca, .ref au, .ref ap, .ref al, .ref ar, .ref ae, .int (nI rw9), .int (nI C9), .int (nI fs9), .int (nI tk9)]))]) S hA [] [0] rfl rfl (by decide) (by decide) (va_runV (As := []) (rest := [.long (lZ (Z ix9 * Z 3732 - Z iy9 * Z iz9)), .ref bx9]) ⟨hx, hb, C.2.2.1, C.2.2.2.1, C.2.2.2.2.1⟩ (g_P_small l G k _ _ 3731 au (Z 3731) N9 st Z V0 hN hh.1 (by omega) hU rfl (show V0 3731 from by unfold V0; omega) (smB_1 hc51)) (k_virt (n := 0) C wc_Wh_small rfl rfl wz_Wh wm_So_120 wn_Wh_small ws_Wh_small (by decide +kernel) ⟨(Nat.le_of_ble_eq_true rfl), (Nat.le_of_ble_eq_true rfl)⟩) (pr_nowVGP K S [] (by decide) rfl (Classical.choose_spec (at_mem hU (show 3731 < N9 by omega))) rfl) rfl rfl hl.1 rfl (lv_room (Nat.le_of_ble_eq_true rfl)) d_So_put_112 ⟨(Nat.zero_le _), (Nat.zero_le _)⟩) (fun u62 H locs hw63 S => ?_)
              have S : Sw G A s.heap _ _ ([(h0, .inr (1, [.ref cea, .ref roa, .ref coa, .ref ura, .ref uca, .ref au, .ref ap, .ref al, .ref ar, .ref ae, .int (nI rw9), .int (nI C9), .int (nI fs9), .int (nI tk9)]))] ++ (tpl k st N9)) := S
              have hw63 : True := hw63
              show W p l e _ s m _ below meth c H locs _ _ _ (F0 m 115 ls [.long (lZ ((Z 3731))), .long (lZ (Z ix9 * Z 3732 - Z iy9 * Z iz9)), .ref bx9])
              refine z_ldiv (v := lZ wv9) hx hb d_So_put_115 (lz_ne hu0 (by omega)) (by rw [hwa, lZ_tdiv m3 (by omega) hu0, Int.mul_tdiv_cancel _ hu0]) ?_
              refine q_backP (wi := []) (wr := [(h0, .inr (1, [.ref cea, .ref roa, .ref coa, .ref ura, .ref uca, .ref au, .ref ap, .ref al, .ref ar, .ref ae, .int (nI rw9), .int (nI C9), .int (nI fs9), .int (nI tk9)]))]) S hA [] [0] rfl rfl (by decide) (by decide) (va_runV (As := [.long (lZ wv9)]) (rest := []) ⟨hx, hb, C.2.2.1, C.2.2.2.1, C.2.2.2.2.1⟩ (g_P_set l G k _ _ wv9 ix9 bx9 N9 st Z V0 hN hh.1 (by omega) ax (by omega) (by omega)) (k_virt (n := 1) C wc_Wh_set rfl rfl wz_Wh wm_So_62 wn_Wh_set ws_Wh_set (by decide +kernel) ⟨(Nat.le_of_ble_eq_true rfl), (Nat.le_of_ble_eq_true rfl)⟩) (pr_nowVGP K S [] (by decide) rfl (Classical.choose_spec (at_mem ax (show ix9 < N9 by omega))) rfl) rfl rfl hl.1 rfl (lv_room (Nat.le_of_ble_eq_true rfl)) d_So_put_116 ⟨(Nat.zero_le _), (Nat.zero_le _)⟩) (fun st64 H locs hw65 S => ?_)
              have S : Sw G A s.heap _ _ ([(h0, .inr (1, [.ref cea, .ref roa, .ref coa, .ref ura, .ref uca, .ref au, .ref ap, .ref al, .ref ar, .ref ae, .int (nI rw9), .int (nI C9), .int (nI fs9), .int (nI tk9)]))] ++ (tpl k st64 N9)) := S
              have hw65 : gO st64 (va_up Z ix9 wv9) (va_up V0 ix9 True) ∧ keO st st64 ∧ pt st64 N9 ≤ pt st N9 ∧ saO st st64 := hw65
              show W p l e _ s m _ below meth c H locs _ _ _ (F0 m 119 ls [])
              obtain ⟨g66, ke67, pt68, sa69⟩ := hw65
              have hfin : hO st64 (va_up Z ix9 wv9) := by
                refine hO_of g66 (bd_up hh.2 hwb) (fun i q1 q2 => ?_)
                unfold V0 at q2
                have n1 : i ≠ 3733 := by omega
                have n2 : i ≠ 3734 := by omega
                have n3 : i ≠ 3735 := by omega
                by_cases w9 : i = ix9
                · subst w9
                  refine ⟨by rw [va_up_self]; trivial, ?_⟩
                  rfl
                · refine ⟨by rw [va_up_ne _ _ w9]; unfold V0; omega, ?_⟩
                  rfl
              exact q_vret C K hsz st64 (show hO st64 (va_up Z ix9 wv9) ∧ keO st st64 ∧ pt st64 N9 ≤ pt st N9 ∧ saO st st64 from ⟨hfin, ke67, by omega, sa69⟩) (S.subP [0] (by decide) rfl) d_So_put_119 (show 0 + (pt st N9 - pt st64 N9) ≤ pt st N9 - pt st64 N9 from by omega) (show 0 + (2 * (pt st N9 - pt st64 N9)) ≤ 2 * (pt st N9 - pt st64 N9) from by omega) (show 0 + (pt st N9 - pt st64 N9) ≤ pt st N9 + 400 from by omega) (show 0 + (2 * (pt st N9 - pt st64 N9)) ≤ 2 * pt st N9 + 800 from by omega)
  refine lv_aload_n hx hb d_So_put_0 rfl (lv_at hl 1 rfl) ?_
  refine q_backP (wi := []) (wr := [(h0, .inr (1, [.ref cea, .ref roa, .ref coa, .ref ura, .ref uca, .ref au, .ref ap, .ref al, .ref ar, .ref ae, .int (nI rw9), .int (nI C9), .int (nI fs9), .int (nI tk9)]))]) S hA [] [0] rfl rfl (by decide) (by decide) (va_runV (As := []) (rest := []) ⟨hx, hb, C.2.2.1, C.2.2.2.1, C.2.2.2.2.1⟩ (g_P_sign l G k _ _ ix9 bx9 (Z ix9) N9 st Z V0 hN hh.1 (by omega) ax rfl (show V0 ix9 from by unfold V0; omega)) (k_virt (n := 0) C wc_Wh_sign rfl rfl wz_Wh wm_So_101 wn_Wh_sign ws_Wh_sign (by decide +kernel) ⟨(Nat.le_of_ble_eq_true rfl), (Nat.le_of_ble_eq_true rfl)⟩) (pr_nowVGP K S [] (by decide) rfl (Classical.choose_spec (at_mem ax (show ix9 < N9 by omega))) rfl) rfl rfl hl.1 rfl (lv_room (Nat.le_of_ble_eq_true rfl)) d_So_put_1 ⟨(Nat.zero_le _), (Nat.zero_le _)⟩) (fun u70 H locs hw71 S => ?_)
  have S : Sw G A s.heap _ _ ([(h0, .inr (1, [.ref cea, .ref roa, .ref coa, .ref ura, .ref uca, .ref au, .ref ap, .ref al, .ref ar, .ref ae, .int (nI rw9), .int (nI C9), .int (nI fs9), .int (nI tk9)]))] ++ (tpl k st N9)) := S
  have hw71 : True := hw71
  show W p l e _ s m _ below meth c H locs _ _ _ (F0 m 4 ls [.int (sgI ((Z ix9)))])
  refine lv_if_ne (tgt := 22) hx hb d_So_put_4 (by decide) (fun hc72 => ?_) (fun hc72 => ?_)
  · exact k22 _ _ (S.subP [0] (by decide) rfl) ls (lv_sub hl [0, 1, 2, 3] rfl)
  · refine lv_aload_n hx hb d_So_put_7 rfl (lv_at hl 2 rfl) ?_
    refine q_backP (wi := []) (wr := [(h0, .inr (1, [.ref cea, .ref roa, .ref coa, .ref ura, .ref uca, .ref au, .ref ap, .ref al, .ref ar, .ref ae, .int (nI rw9), .int (nI C9), .int (nI fs9), .int (nI tk9)]))]) S hA [] [0] rfl rfl (by decide) (by decide) (va_runV (As := []) (rest := []) ⟨hx, hb, C.2.2.1, C.2.2.2.1, C.2.2.2.2.1⟩ (g_P_sign l G k _ _ iy9 by9 (Z iy9) N9 st Z V0 hN hh.1 (by omega) ay rfl (show V0 iy9 from by unfold V0; omega)) (k_virt (n := 0) C wc_Wh_sign rfl rfl wz_Wh wm_So_101 wn_Wh_sign ws_Wh_sign (by decide +kernel) ⟨(Nat.le_of_ble_eq_true rfl), (Nat.le_of_ble_eq_true rfl)⟩) (pr_nowVGP K S [] (by decide) rfl (Classical.choose_spec (at_mem ay (show iy9 < N9 by omega))) rfl) rfl rfl hl.1 rfl (lv_room (Nat.le_of_ble_eq_true rfl)) d_So_put_8 ⟨(Nat.zero_le _), (Nat.zero_le _)⟩) (fun u73 H locs hw74 S => ?_)
    have S : Sw G A s.heap _ _ ([(h0, .inr (1, [.ref cea, .ref roa, .ref coa, .ref ura, .ref uca, .ref au, .ref ap, .ref al, .ref ar, .ref ae, .int (nI rw9), .int (nI C9), .int (nI fs9), .int (nI tk9)]))] ++ (tpl k st N9)) := S
    have hw74 : True := hw74
    show W p l e _ s m _ below meth c H locs _ _ _ (F0 m 11 ls [.int (sgI ((Z iy9)))])
    refine lv_if_eq (tgt := 21) hx hb d_So_put_11 (by decide) (fun hc75 => ?_) (fun hc75 => ?_)
    · have e9 : wv9 = Z ix9 := pt_zero hu0 hwa (sgn_0.mp hc72) (Or.inl (sgn_0.mp hc75))
      exact q_vret C K hsz st (show hO st (va_up Z ix9 wv9) ∧ keO st st ∧ pt st N9 ≤ pt st N9 ∧ saO st st from ⟨by rw [e9, up_id Z ix9 rfl]; exact hh, keO.rf st, Nat.le_refl _, rfl⟩) (S.subP [0] (by decide) rfl) d_So_put_21 (Nat.zero_le _) (Nat.zero_le _) (Nat.zero_le _) (Nat.zero_le _)
    · refine lv_aload_n hx hb d_So_put_14 rfl (lv_at hl 3 rfl) ?_
      refine q_backP (wi := []) (wr := [(h0, .inr (1, [.ref cea, .ref roa, .ref coa, .ref ura, .ref uca, .ref au, .ref ap, .ref al, .ref ar, .ref ae, .int (nI rw9), .int (nI C9), .int (nI fs9), .int (nI tk9)]))]) S hA [] [0] rfl rfl (by decide) (by decide) (va_runV (As := []) (rest := []) ⟨hx, hb, C.2.2.1, C.2.2.2.1, C.2.2.2.2.1⟩ (g_P_sign l G k _ _ iz9 bz9 (Z iz9) N9 st Z V0 hN hh.1 (by omega) az rfl (show V0 iz9 from by unfold V0; omega)) (k_virt (n := 0) C wc_Wh_sign rfl rfl wz_Wh wm_So_101 wn_Wh_sign ws_Wh_sign (by decide +kernel) ⟨(Nat.le_of_ble_eq_true rfl), (Nat.le_of_ble_eq_true rfl)⟩) (pr_nowVGP K S [] (by decide) rfl (Classical.choose_spec (at_mem az (show iz9 < N9 by omega))) rfl) rfl rfl hl.1 rfl (lv_room (Nat.le_of_ble_eq_true rfl)) d_So_put_15 ⟨(Nat.zero_le _), (Nat.zero_le _)⟩) (fun u76 H locs hw77 S => ?_)
      have S : Sw G A s.heap _ _ ([(h0, .inr (1, [.ref cea, .ref roa, .ref coa, .ref ura, .ref uca, .ref au, .ref ap, .ref al, .ref ar, .ref ae, .int (nI rw9), .int (nI C9), .int (nI fs9), .int (nI tk9)]))] ++ (tpl k st N9)) := S
      have hw77 : True := hw77
      show W p l e _ s m _ below meth c H locs _ _ _ (F0 m 18 ls [.int (sgI ((Z iz9)))])
      refine lv_if_ne (tgt := 22) hx hb d_So_put_18 (by decide) (fun hc78 => ?_) (fun hc78 => ?_)
      · exact k22 _ _ (S.subP [0] (by decide) rfl) ls (lv_sub hl [0, 1, 2, 3] rfl)
      · have e9 : wv9 = Z ix9 := pt_zero hu0 hwa (sgn_0.mp hc72) (Or.inr (sgn_0.mp hc78))
        exact q_vret C K hsz st (show hO st (va_up Z ix9 wv9) ∧ keO st st ∧ pt st N9 ≤ pt st N9 ∧ saO st st from ⟨by rw [e9, up_id Z ix9 rfl]; exact hh, keO.rf st, Nat.le_refl _, rfl⟩) (S.subP [0] (by decide) rfl) d_So_put_21 (Nat.zero_le _) (Nat.zero_le _) (Nat.zero_le _) (Nat.zero_le _)
