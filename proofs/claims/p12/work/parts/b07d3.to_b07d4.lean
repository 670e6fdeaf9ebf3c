section
theorem lz_ne {z : Int} (h : z ≠ 0) (hz : z.natAbs < 9223372036854775808) : ¬ lZ z = 0 := by
  intro q
  have h1 := congrArg Int64.toInt q
  rw [lZ_toInt (by omega) (by omega)] at h1
  have h2 : (0 : Int64).toInt = 0 := by decide
  omega
set_option maxRecDepth 100000 in
set_option maxHeartbeats 16000000 in
/-- Whole() -/
theorem g_Wh_init (l : Launch) (G : va_G) (k : Nat → ClassId) (h0 : Nat) (s0 sl : Nat) : CG l y_Wh_init c_Wh_init 1 none { frames := 1, cells := 1, slots := 3, locals := 12 } [.ref h0] G k s0 sl [(h0, .inr (2, [.null, .int 0, .int 0]))] (fun (u : Nat) => none) (fun (u : Nat) => True) (fun (u : Nat) => [(h0, .inr (2, [.ref u, .int 0, .int 0])), (u, .inl (k 0, 3, .inl (fun _ => 0)))]) (fun (u : Nat) => 1) (fun (u : Nat) => 3) 1 3 := by
  refine met_startG (by decide) (Nat.le_of_ble_eq_true rfl) ?_
  intro p e s m below meth c C K hA hsz S ls hl
  generalize va_A [(h0, .inr (2, [.null, .int 0, .int 0]))] s0 = A at hA S ⊢
  have hx := C.1
  have hb := C.2.1
  have hl : lv_has ls 1 [(0, .ref h0)] := hl
  refine lv_aload_n hx hb d_Wh_init_0 rfl (lv_at hl 0 rfl) ?_
  refine r_objInit C wm_Wh_3 hl.1 d_Wh_init_1 (Nat.le_of_ble_eq_true rfl) (Nat.le_of_ble_eq_true rfl) ?_
  refine lv_aload_n hx hb d_Wh_init_4 rfl (lv_at hl 0 rfl) ?_
  refine lv_iconst (v := 3) hx hb d_Wh_init_5 (by decide) ?_
  refine r_newI C K S hA 3 (by decide) (by decide) (by decide) (Nat.le_of_ble_eq_true rfl) (Nat.le_of_ble_eq_true rfl) d_Wh_init_6 (fun q1 H S => ?_)
  have S : Sw G A s.heap _ _ [(h0, .inr (2, [.null, .int 0, .int 0])), (q1, .inl (k 0, 3, .inl (fun _ => 0)))] := S
  refine r_put C K S 0 rfl rfl clOk_Wh 0 (by decide) wf_Wh_9 rfl (ty := .array .int) (v := .ref q1) (by decide +kernel) rfl rfl (Nat.le_of_ble_eq_true rfl) (fs' := [.ref q1, .int 0, .int 0]) (ws' := [(h0, .inr (2, [.ref q1, .int 0, .int 0])), (q1, .inl (k 0, 3, .inl (fun _ => 0)))]) rfl rfl d_Wh_init_8 (fun H locs S => ?_)
  exact q_vret C K hsz q1 trivial (S.sub [0, 1] (by decide) rfl) d_Wh_init_11 (Nat.le_of_ble_eq_true rfl) (Nat.le_of_ble_eq_true rfl) (Nat.le_of_ble_eq_true rfl) (Nat.le_of_ble_eq_true rfl)
theorem wh_new : whO 3 0 (fun _ => 0) 0 := ⟨by decide, by decide, by decide, fun _ => show (0 : Nat) < 2147483648 from by decide, Or.inl rfl, rfl⟩
theorem Sw.sub4P {G : va_G} {A : Nat → Prop} {H0 H : Heap} {locs : List Loc} {X X2 pl : va_W} (S : Sw G A H0 H locs (X ++ pl)) (is : List Nat) (hn : va_nd is = true) (hs : is.map (fun i => X[i]?) = X2.map some) : Sw G A H0 H locs (X2 ++ pl) := S.subP is hn hs
theorem z_topi {p : Program} {l : Launch} {e : Env} {R : Room} {s : State} {m : MethodId} {args : Array Value} {below : List Frame} {meth : Method} {c : Code} {H : Heap} {locs : List Loc} {cells slots : Nat} {Q : State → Prop} {pc : Nat} {ls : Array Slot} {rest : List Value} {x y : Int32} (hv : x = y) (kk : W p l e R s m args below meth c H locs cells slots Q (F0 m pc ls (.int y :: rest))) : W p l e R s m args below meth c H locs cells slots Q (F0 m pc ls (.int x :: rest)) := by subst hv; exact kk
theorem d_So_cell_0 : decode c_So_cell 0 = .ok (.iload_n 1, 1) := by decide +kernel
theorem d_So_cell_1 : decode c_So_cell 1 = .ok (.aload_n 0, 1) := by decide +kernel
theorem d_So_cell_2 : decode c_So_cell 2 = .ok (.getfield 59, 3) := by decide +kernel
theorem d_So_cell_5 : decode c_So_cell 5 = .ok (.iconst 1, 1) := by decide +kernel
theorem d_So_cell_6 : decode c_So_cell 6 = .ok (.iadd, 1) := by decide +kernel
theorem d_So_cell_7 : decode c_So_cell 7 = .ok (.imul, 1) := by decide +kernel
theorem d_So_cell_8 : decode c_So_cell 8 = .ok (.iload_n 2, 1) := by decide +kernel
theorem d_So_cell_9 : decode c_So_cell 9 = .ok (.iadd, 1) := by decide +kernel
theorem d_So_cell_10 : decode c_So_cell 10 = .ok (.istore_n 3, 1) := by decide +kernel
theorem d_So_cell_11 : decode c_So_cell 11 = .ok (.aload_n 0, 1) := by decide +kernel
theorem d_So_cell_12 : decode c_So_cell 12 = .ok (.getfield 11, 3) := by decide +kernel
theorem d_So_cell_15 : decode c_So_cell 15 = .ok (.iload_n 3, 1) := by decide +kernel
theorem d_So_cell_16 : decode c_So_cell 16 = .ok (.aaload, 1) := by decide +kernel
theorem d_So_cell_17 : decode c_So_cell 17 = .ok (.ifnonnull 16, 3) := by decide +kernel
theorem d_So_cell_20 : decode c_So_cell 20 = .ok (.aload_n 0, 1) := by decide +kernel
theorem d_So_cell_21 : decode c_So_cell 21 = .ok (.getfield 11, 3) := by decide +kernel
theorem d_So_cell_24 : decode c_So_cell 24 = .ok (.iload_n 3, 1) := by decide +kernel
theorem d_So_cell_25 : decode c_So_cell 25 = .ok (.new 9, 3) := by decide +kernel
theorem d_So_cell_28 : decode c_So_cell 28 = .ok (.dup, 1) := by decide +kernel
theorem d_So_cell_29 : decode c_So_cell 29 = .ok (.invokespecial 30, 3) := by decide +kernel
theorem d_So_cell_32 : decode c_So_cell 32 = .ok (.aastore, 1) := by decide +kernel
theorem d_So_cell_33 : decode c_So_cell 33 = .ok (.aload_n 0, 1) := by decide +kernel
theorem d_So_cell_34 : decode c_So_cell 34 = .ok (.getfield 11, 3) := by decide +kernel
theorem d_So_cell_37 : decode c_So_cell 37 = .ok (.iload_n 3, 1) := by decide +kernel
theorem d_So_cell_38 : decode c_So_cell 38 = .ok (.aaload, 1) := by decide +kernel
theorem d_So_cell_39 : decode c_So_cell 39 = .ok (.areturn, 1) := by decide +kernel
set_option maxRecDepth 100000 in
set_option maxHeartbeats 16000000 in
/-- cell -/
theorem g_So_cell (l : Launch) (G : va_G) (k : Nat → ClassId) (h0 : Nat) (s0 sl : Nat) (ri9 : Nat) (cj9 : Nat) (cea : Nat) (roa : Nat) (coa : Nat) (ura : Nat) (uca : Nat) (au : Nat) (ap : Nat) (al : Nat) (ar : Nat) (ae : Nat) (rw9 : Nat) (C9 : Nat) (fs9 : Nat) (tk9 : Nat) (N9 : Nat) (st : Nat → Option wQ) (Z : Nat → Int) (hN : N9 = 3745) (hh : hO st Z) (hC : C9 ≤ 40) (hri : ri9 < 91) (hcj : cj9 ≤ C9) : CG l y_So_cell c_So_cell 4 (some (.object "PotentialBench$Whole")) { frames := 2, cells := pt st N9 + 10, slots := 2 * pt st N9 + 20, locals := 32 } [.ref h0, .int (nI ri9), .int (nI cj9)] G k s0 sl ([(h0, .inr (1, [.ref cea, .ref roa, .ref coa, .ref ura, .ref uca, .ref au, .ref ap, .ref al, .ref ar, .ref ae, .int (nI rw9), .int (nI C9), .int (nI fs9), .int (nI tk9)])), (cea, .inl (k 4, 3731, .inr (.inr (.inr (.inr (fun j => adO (st j)))))))] ++ (tpl k st N9)) (fun (u : (Nat → Option wQ) × Nat) => some (.ref u.2)) (fun (u : (Nat → Option wQ) × Nat) => hO u.1 Z ∧ atO u.1 (ri9 * (C9 + 1) + cj9) u.2 ∧ keO st u.1 ∧ pt u.1 N9 ≤ pt st N9) (fun (u : (Nat → Option wQ) × Nat) => ([(h0, .inr (1, [.ref cea, .ref roa, .ref coa, .ref ura, .ref uca, .ref au, .ref ap, .ref al, .ref ar, .ref ae, .int (nI rw9), .int (nI C9), .int (nI fs9), .int (nI tk9)])), (cea, .inl (k 4, 3731, .inr (.inr (.inr (.inr (fun j => adO (u.1 j)))))))] ++ (tpl k u.1 N9))) (fun (u : (Nat → Option wQ) × Nat) => pt st N9 - pt u.1 N9) (fun (u : (Nat → Option wQ) × Nat) => 2 * (pt st N9 - pt u.1 N9)) (pt st N9 + 10) (2 * pt st N9 + 20) := by
  refine met_startG (by decide) (Nat.le_of_ble_eq_true rfl) ?_
  intro p e s m below meth c C K hA hsz S ls hl
  generalize va_A ([(h0, .inr (1, [.ref cea, .ref roa, .ref coa, .ref ura, .ref uca, .ref au, .ref ap, .ref al, .ref ar, .ref ae, .int (nI rw9), .int (nI C9), .int (nI fs9), .int (nI tk9)])), (cea, .inl (k 4, 3731, .inr (.inr (.inr (.inr (fun j => adO (st j)))))))] ++ (tpl k st N9)) s0 = A at hA S ⊢
  have hx := C.1
  have hb := C.2.1
  have hl : lv_has ls 4 [(0, .ref h0), (1, .int (nI ri9)), (2, .int (nI cj9))] := hl
  obtain ⟨t9, ht9⟩ : ∃ x9, x9 = ri9 * (C9 + 1) + cj9 := ⟨_, rfl⟩
  have hlt : t9 < 3731 := by rw [ht9]; exact ix_lt hri hcj (Nat.le_refl _) hC
  cases hst : st t9 with
  | none =>
    refine lv_iload_n hx hb d_So_cell_0 rfl (lv_at hl 1 rfl) ?_
    refine lv_aload_n hx hb d_So_cell_1 rfl (lv_at hl 0 rfl) ?_
    refine r_get C K S 0 rfl rfl clOk_So 11 (by decide) wf_So_59 (v := .int (nI C9)) rfl d_So_cell_2 ?_
    refine lv_iconst (v := 1) hx hb d_So_cell_5 (by decide) ?_
    refine z_iadd (x := nI C9) (y := 1) (v := nI (C9 + 1)) hx hb d_So_cell_6 (nI_add C9 1) ?_
    refine z_imul (x := nI ri9) (y := nI (C9 + 1)) (v := nI (ri9 * (C9 + 1))) hx hb d_So_cell_7 (pk_mul ri9 (C9 + 1)) ?_
    refine lv_iload_n hx hb d_So_cell_8 rfl (lv_at hl 2 rfl) ?_
    refine z_iadd (x := nI (ri9 * (C9 + 1))) (y := nI cj9) (v := nI (ri9 * (C9 + 1) + cj9)) hx hb d_So_cell_9 (nI_add (ri9 * (C9 + 1)) cj9) ?_
    refine z_topi (y := nI t9) (by rw [ht9]) ?_
    refine lv_istore_n (lv' := [(3, .int (nI t9)), (0, .ref h0), (1, .int (nI ri9)), (2, .int (nI cj9))]) hx hb d_So_cell_10 rfl hl (by decide) rfl (fun ls hl => ?_)
    refine lv_aload_n hx hb d_So_cell_11 rfl (lv_at hl 1 rfl) ?_
    refine r_get C K S 0 rfl rfl clOk_So 0 (by decide) wf_So_11 (v := .ref cea) rfl d_So_cell_12 ?_
    refine lv_iload_n hx hb d_So_cell_15 rfl (lv_at hl 0 rfl) ?_
    refine r_aald0 C K S 1 4 rfl rfl (i := nI t9) (show vp_in (nI t9) _ from vp_in_nI (n := t9) (by omega) (by decide)) (by rw [nI_clamp (by omega), hst]; rfl) d_So_cell_16 ?_
    refine lv_ifnonnullN hx hb d_So_cell_17 ?_
    refine lv_aload_n hx hb d_So_cell_20 rfl (lv_at hl 1 rfl) ?_
    refine r_get C K S 0 rfl rfl clOk_So 0 (by decide) wf_So_11 (v := .ref cea) rfl d_So_cell_21 ?_
    refine lv_iload_n hx hb d_So_cell_24 rfl (lv_at hl 0 rfl) ?_
    refine W.widen (show 0 ≤ 0 from Nat.le_refl _) (show 0 ≤ 0 from Nat.le_refl _) ?_
    refine r_new C K S hA 2 rfl clOk_Wh wl_So_9 wi_Wh wz_Wh t_Wh k_Wh (fs := [.null, .int 0, .int 0]) df_Wh (show 0 + 1 ≤ pt st N9 + 10 from by omega) (show 0 + 3 ≤ 2 * pt st N9 + 20 from by omega) d_So_cell_25 (fun q1 H S => ?_)
    have S : Sw G A s.heap _ _ ([(h0, .inr (1, [.ref cea, .ref roa, .ref coa, .ref ura, .ref uca, .ref au, .ref ap, .ref al, .ref ar, .ref ae, .int (nI rw9), .int (nI C9), .int (nI fs9), .int (nI tk9)])), (cea, .inl (k 4, 3731, .inr (.inr (.inr (.inr (fun j => adO (st j))))))), (q1, .inr (2, [.null, .int 0, .int 0]))] ++ (tpl k st N9)) := S.perm (by simp only [List.append_assoc]; exact List.Perm.append_left _ List.perm_append_comm)
    refine lv_dup hx hb d_So_cell_28 rfl ?_
    refine q_backP (wi := [(q1, .inr (2, [.null, .int 0, .int 0]))]) (wr := [(h0, .inr (1, [.ref cea, .ref roa, .ref coa, .ref ura, .ref uca, .ref au, .ref ap, .ref al, .ref ar, .ref ae, .int (nI rw9), .int (nI C9), .int (nI fs9), .int (nI tk9)])), (cea, .inl (k 4, 3731, .inr (.inr (.inr (.inr (fun j => adO (st j)))))))]) S hA [2] [0, 1] rfl rfl (by decide) (by decide) (va_runI (As := []) (rest := [.ref q1, .int (nI t9), .ref cea]) ⟨hx, hb, C.2.2.1, C.2.2.2.1, C.2.2.2.2.1⟩ (cg_frame (tpl k st N9) (g_Wh_init l G k q1 _ _)) (k_ctor (n := 0) C wc_Wh_init rfl rfl wz_Wh wm_So_30 wn_Wh_init rfl (by decide +kernel) ⟨(Nat.le_of_ble_eq_true rfl), (Nat.le_of_ble_eq_true rfl)⟩) (pr_nowGP K S [2] (by decide) rfl) rfl rfl hl.1 rfl (lv_room (Nat.le_of_ble_eq_true rfl)) d_So_cell_29 ⟨(show 0 + 1 + 1 ≤ pt st N9 + 10 from by omega), (show 0 + 3 + 3 ≤ 2 * pt st N9 + 20 from by omega)⟩) (fun u2 H locs hw3 S => ?_)
    have S : Sw G A s.heap _ _ ([(h0, .inr (1, [.ref cea, .ref roa, .ref coa, .ref ura, .ref uca, .ref au, .ref ap, .ref al, .ref ar, .ref ae, .int (nI rw9), .int (nI C9), .int (nI fs9), .int (nI tk9)])), (cea, .inl (k 4, 3731, .inr (.inr (.inr (.inr (fun j => adO (st j))))))), (q1, .inr (2, [.ref u2, .int 0, .int 0])), (u2, .inl (k 0, 3, .inl (fun _ => 0)))] ++ (tpl k st N9)) := S
    have hw3 : True := hw3
    show W p l e _ s m _ below meth c H locs _ _ _ (F0 m 32 ls [.ref q1, .int (nI t9), .ref cea])
    refine r_aast C K S 1 4 2 2 rfl rfl rfl rfl (i := nI t9) (show vp_in (nI t9) _ from vp_in_nI (n := t9) (by omega) (by decide)) (f' := va_up (fun j => adO (st j)) t9 (some q1)) (ws' := ([(h0, .inr (1, [.ref cea, .ref roa, .ref coa, .ref ura, .ref uca, .ref au, .ref ap, .ref al, .ref ar, .ref ae, .int (nI rw9), .int (nI C9), .int (nI fs9), .int (nI tk9)])), (cea, .inl (k 4, 3731, .inr (.inr (.inr (.inr (va_up (fun j => adO (st j)) t9 (some q1))))))), (q1, .inr (2, [.ref u2, .int 0, .int 0])), (u2, .inl (k 0, 3, .inl (fun _ => 0)))] ++ (tpl k st N9))) (by rw [nI_clamp (by omega)]) rfl d_So_cell_32 (fun H locs S => ?_)
    refine lv_aload_n hx hb d_So_cell_33 rfl (lv_at hl 1 rfl) ?_
    refine r_get C K S 0 rfl rfl clOk_So 0 (by decide) wf_So_11 (v := .ref cea) rfl d_So_cell_34 ?_
    refine lv_iload_n hx hb d_So_cell_37 rfl (lv_at hl 0 rfl) ?_
    refine r_aald C K S 1 4 rfl rfl (i := nI t9) (show vp_in (nI t9) _ from vp_in_nI (n := t9) (by omega) (by decide)) (b := q1) (by rw [nI_clamp (by omega), va_up_self]) d_So_cell_38 ?_
    have S := Sw.tnew (X := [(h0, .inr (1, [.ref cea, .ref roa, .ref coa, .ref ura, .ref uca, .ref au, .ref ap, .ref al, .ref ar, .ref ae, .int (nI rw9), .int (nI C9), .int (nI fs9), .int (nI tk9)])), (cea, .inl (k 4, 3731, .inr (.inr (.inr (.inr (va_up (fun j => adO (st j)) t9 (some q1)))))))]) (q := (q1, u2, 3, 0, 0, fun _ => 0)) (t := t9) (n := N9) (S.sub4P [0, 1, 2, 3] (by decide) rfl) hst (by omega)
    have eqf : va_up (fun j => adO (st j)) t9 (some q1) = fun j => adO (va_up st t9 (some (q1, u2, 3, 0, 0, fun _ => 0)) j) := by
      funext j
      by_cases w9 : j = t9
      · subst w9; rw [va_up_self, va_up_self]; rfl
      · rw [va_up_ne _ _ w9, va_up_ne _ _ w9]
    rw [eqf] at S
    have hpt := pt_up (st := st) (i := t9) (o := some (q1, u2, 3, 0, 0, fun _ => 0)) (by rw [hst]; exact Nat.zero_le _) (show 3 ≤ Mb t9 by unfold Mb; rw [if_pos hlt]; decide) N9 (by omega)
    rw [hst] at hpt
    have hpt : pt (va_up st t9 (some (q1, u2, 3, 0, 0, fun _ => 0))) N9 + (3 - 0) = pt st N9 := hpt
    have hz0 : Z t9 = 0 := by rcases hh.1 t9 (by omega) with ⟨-, -, h9⟩ | ⟨q8, h9, -⟩; exact h9; rw [hst] at h9; cases h9
    have hgo : gO (va_up st t9 (some (q1, u2, 3, 0, 0, fun _ => 0))) Z V0 := by
      have g9 := hh.1.up (i := t9) (q := (q1, u2, 3, 0, 0, fun _ => 0)) (z := 0) (v := V0 t9) (show 3 ≤ Mb t9 by unfold Mb; rw [if_pos hlt]; decide) ⟨show (3 : Nat) ≤ 3 from by decide, show (3 : Nat) ≤ 400 from by decide, fun _ => show (0 : Nat) < 2147483648 from by decide⟩ (fun _ => ⟨0, rfl, rfl, wh_new⟩)
      rw [up_id Z t9 hz0, up_id V0 t9 rfl] at g9
      exact g9
    have hke : keO st (va_up st t9 (some (q1, u2, 3, 0, 0, fun _ => 0))) := fun j x hx9 => by by_cases w9 : j = t9; subst w9; rw [hst] at hx9; cases hx9; exact ⟨x, by rw [va_up_ne _ _ w9]; exact hx9, rfl⟩
    exact q_aret C (Or.inl ⟨_, rfl⟩) K hsz ((va_up st t9 (some (q1, u2, 3, 0, 0, fun _ => 0))), q1) rfl (show hO (va_up st t9 (some (q1, u2, 3, 0, 0, fun _ => 0))) Z ∧ atO (va_up st t9 (some (q1, u2, 3, 0, 0, fun _ => 0))) (ri9 * (C9 + 1) + cj9) q1 ∧ keO st (va_up st t9 (some (q1, u2, 3, 0, 0, fun _ => 0))) ∧ pt (va_up st t9 (some (q1, u2, 3, 0, 0, fun _ => 0))) N9 ≤ pt st N9 from ⟨⟨hgo, hh.2⟩, by rw [← ht9]; exact ⟨(q1, u2, 3, 0, 0, fun _ => 0), va_up_self _ _ _, rfl⟩, hke, by omega⟩) S d_So_cell_39 (show 0 + 1 + (1) ≤ pt st N9 - pt (va_up st t9 (some (q1, u2, 3, 0, 0, fun _ => 0))) N9 from by omega) (show 0 + 3 + (3) ≤ 2 * (pt st N9 - pt (va_up st t9 (some (q1, u2, 3, 0, 0, fun _ => 0))) N9) from by omega) (show 0 + 1 + (1) ≤ pt st N9 + 10 from by omega) (show 0 + 3 + (3) ≤ 2 * pt st N9 + 20 from by omega)
  | some q9 =>
    refine lv_iload_n hx hb d_So_cell_0 rfl (lv_at hl 1 rfl) ?_
    refine lv_aload_n hx hb d_So_cell_1 rfl (lv_at hl 0 rfl) ?_
    refine r_get C K S 0 rfl rfl clOk_So 11 (by decide) wf_So_59 (v := .int (nI C9)) rfl d_So_cell_2 ?_
    refine lv_iconst (v := 1) hx hb d_So_cell_5 (by decide) ?_
    refine z_iadd (x := nI C9) (y := 1) (v := nI (C9 + 1)) hx hb d_So_cell_6 (nI_add C9 1) ?_
    refine z_imul (x := nI ri9) (y := nI (C9 + 1)) (v := nI (ri9 * (C9 + 1))) hx hb d_So_cell_7 (pk_mul ri9 (C9 + 1)) ?_
    refine lv_iload_n hx hb d_So_cell_8 rfl (lv_at hl 2 rfl) ?_
    refine z_iadd (x := nI (ri9 * (C9 + 1))) (y := nI cj9) (v := nI (ri9 * (C9 + 1) + cj9)) hx hb d_So_cell_9 (nI_add (ri9 * (C9 + 1)) cj9) ?_
    refine z_topi (y := nI t9) (by rw [ht9]) ?_
    refine lv_istore_n (lv' := [(3, .int (nI t9)), (0, .ref h0), (1, .int (nI ri9)), (2, .int (nI cj9))]) hx hb d_So_cell_10 rfl hl (by decide) rfl (fun ls hl => ?_)
    refine lv_aload_n hx hb d_So_cell_11 rfl (lv_at hl 1 rfl) ?_
    refine r_get C K S 0 rfl rfl clOk_So 0 (by decide) wf_So_11 (v := .ref cea) rfl d_So_cell_12 ?_
    refine lv_iload_n hx hb d_So_cell_15 rfl (lv_at hl 0 rfl) ?_
    refine r_aald C K S 1 4 rfl rfl (i := nI t9) (show vp_in (nI t9) _ from vp_in_nI (n := t9) (by omega) (by decide)) (b := q9.1) (by rw [nI_clamp (by omega), hst]; rfl) d_So_cell_16 ?_
    refine lv_ifnonnull (tgt := 33) hx hb d_So_cell_17 (by decide) ?_
    refine lv_aload_n hx hb d_So_cell_33 rfl (lv_at hl 1 rfl) ?_
    refine r_get C K S 0 rfl rfl clOk_So 0 (by decide) wf_So_11 (v := .ref cea) rfl d_So_cell_34 ?_
    refine lv_iload_n hx hb d_So_cell_37 rfl (lv_at hl 0 rfl) ?_
    refine r_aald C K S 1 4 rfl rfl (i := nI t9) (show vp_in (nI t9) _ from vp_in_nI (n := t9) (by omega) (by decide)) (b := q9.1) (by rw [nI_clamp (by omega), hst]; rfl) d_So_cell_38 ?_
    exact q_aret C (Or.inl ⟨_, rfl⟩) K hsz (st, q9.1) rfl (show hO st Z ∧ atO st (ri9 * (C9 + 1) + cj9) q9.1 ∧ keO st st ∧ pt st N9 ≤ pt st N9 from ⟨hh, by rw [← ht9]; exact ⟨q9, hst, rfl⟩, keO.rf st, Nat.le_refl _⟩) (S.subP [0, 1] (by decide) rfl) d_So_cell_39 (Nat.zero_le _) (Nat.zero_le _) (Nat.zero_le _) (Nat.zero_le _)
theorem w_le {w uu : Int} (h : uu ≠ 0) : w.natAbs ≤ (w * uu).natAbs := by
  rw [Int.natAbs_mul]
  have := Nat.mul_le_mul_left w.natAbs (show 1 ≤ uu.natAbs by omega)
  omega
theorem pt_zero {x pp y zz uu w : Int} (hu : uu ≠ 0) (h : x * pp - y * zz = w * uu) (hx : x = 0) (hy : y = 0 ∨ zz = 0) : w = x := by
  have e1 : y * zz = 0 := by rcases hy with q | q <;> subst q <;> simp
  rw [hx, Int.zero_mul, e1] at h
  have h : w * uu = 0 := by omega
  rcases Int.mul_eq_zero.mp h with q | q
  · rw [q, hx]
  · exact absurd q hu
theorem sm_lt {z : Int} (h : nI (smB z) ≠ 0) : z.natAbs < 2147483648 := by
  unfold smB at h
  by_cases q : z.natAbs < 2147483648
  · exact q
  · rw [if_neg q] at h; exact absurd rfl h
theorem smB_le (z : Int) : smB z ≤ 1 := by unfold smB; split <;> decide
theorem smB_1 {z : Int} (h : 0 < smB z) : z.natAbs < 2147483648 := by
  unfold smB at h
  by_cases q : z.natAbs < 2147483648
  · exact q
  · rw [if_neg q] at h; exact absurd h (by decide)
theorem sm_mul {a b : Int} (ha : a.natAbs < 2147483648) (hb : b.natAbs < 2147483648) : (a * b).natAbs < 4611686018427387904 := by
  rw [Int.natAbs_mul]
  have := Nat.mul_le_mul (show a.natAbs ≤ 2147483647 by omega) (show b.natAbs ≤ 2147483647 by omega)
  omega
theorem d_So_put_0 : decode c_So_put 0 = .ok (.aload_n 1, 1) := by decide +kernel
theorem d_So_put_1 : decode c_So_put 1 = .ok (.invokevirtual 101, 3) := by decide +kernel
theorem d_So_put_4 : decode c_So_put 4 = .ok (.ifCond .ne 18, 3) := by decide +kernel
theorem d_So_put_7 : decode c_So_put 7 = .ok (.aload_n 2, 1) := by decide +kernel
theorem d_So_put_8 : decode c_So_put 8 = .ok (.invokevirtual 101, 3) := by decide +kernel
theorem d_So_put_11 : decode c_So_put 11 = .ok (.ifCond .eq 10, 3) := by decide +kernel
theorem d_So_put_14 : decode c_So_put 14 = .ok (.aload_n 3, 1) := by decide +kernel
theorem d_So_put_15 : decode c_So_put 15 = .ok (.invokevirtual 101, 3) := by decide +kernel
theorem d_So_put_18 : decode c_So_put 18 = .ok (.ifCond .ne 4, 3) := by decide +kernel
theorem d_So_put_21 : decode c_So_put 21 = .ok (.return_, 1) := by decide +kernel
theorem d_So_put_22 : decode c_So_put 22 = .ok (.aload_n 1, 1) := by decide +kernel
theorem d_So_put_23 : decode c_So_put 23 = .ok (.invokevirtual 116, 3) := by decide +kernel
theorem d_So_put_26 : decode c_So_put 26 = .ok (.ifCond .eq 41, 3) := by decide +kernel
theorem d_So_put_29 : decode c_So_put 29 = .ok (.aload_n 2, 1) := by decide +kernel
theorem d_So_put_30 : decode c_So_put 30 = .ok (.invokevirtual 116, 3) := by decide +kernel
theorem d_So_put_33 : decode c_So_put 33 = .ok (.ifCond .eq 34, 3) := by decide +kernel
theorem d_So_put_36 : decode c_So_put 36 = .ok (.aload_n 3, 1) := by decide +kernel
theorem d_So_put_37 : decode c_So_put 37 = .ok (.invokevirtual 116, 3) := by decide +kernel
theorem d_So_put_40 : decode c_So_put 40 = .ok (.ifCond .eq 27, 3) := by decide +kernel
theorem d_So_put_43 : decode c_So_put 43 = .ok (.aload_n 0, 1) := by decide +kernel
theorem d_So_put_44 : decode c_So_put 44 = .ok (.getfield 35, 3) := by decide +kernel
theorem d_So_put_47 : decode c_So_put 47 = .ok (.invokevirtual 116, 3) := by decide +kernel
theorem d_So_put_50 : decode c_So_put 50 = .ok (.ifCond .eq 17, 3) := by decide +kernel
theorem d_So_put_53 : decode c_So_put 53 = .ok (.aload_n 0, 1) := by decide +kernel
theorem d_So_put_54 : decode c_So_put 54 = .ok (.getfield 31, 3) := by decide +kernel
theorem d_So_put_57 : decode c_So_put 57 = .ok (.invokevirtual 116, 3) := by decide +kernel
theorem d_So_put_60 : decode c_So_put 60 = .ok (.ifCond .eq 7, 3) := by decide +kernel
theorem d_So_put_63 : decode c_So_put 63 = .ok (.iconst 1, 1) := by decide +kernel
theorem d_So_put_64 : decode c_So_put 64 = .ok (.goto 4, 3) := by decide +kernel
theorem d_So_put_67 : decode c_So_put 67 = .ok (.iconst 0, 1) := by decide +kernel
theorem d_So_put_68 : decode c_So_put 68 = .ok (.istore 4, 2) := by decide +kernel
theorem d_So_put_70 : decode c_So_put 70 = .ok (.iload 4, 2) := by decide +kernel
theorem d_So_put_72 : decode c_So_put 72 = .ok (.ifCond .eq 48, 3) := by decide +kernel
theorem d_So_put_75 : decode c_So_put 75 = .ok (.aload_n 0, 1) := by decide +kernel
theorem d_So_put_76 : decode c_So_put 76 = .ok (.getfield 31, 3) := by decide +kernel
theorem d_So_put_79 : decode c_So_put 79 = .ok (.invokevirtual 101, 3) := by decide +kernel
theorem d_So_put_82 : decode c_So_put 82 = .ok (.ifCond .eq 38, 3) := by decide +kernel
theorem d_So_put_85 : decode c_So_put 85 = .ok (.aload_n 1, 1) := by decide +kernel
theorem d_So_put_86 : decode c_So_put 86 = .ok (.aload_n 1, 1) := by decide +kernel
theorem d_So_put_87 : decode c_So_put 87 = .ok (.invokevirtual 120, 3) := by decide +kernel
theorem d_So_put_90 : decode c_So_put 90 = .ok (.aload_n 0, 1) := by decide +kernel
theorem d_So_put_91 : decode c_So_put 91 = .ok (.getfield 35, 3) := by decide +kernel
theorem d_So_put_94 : decode c_So_put 94 = .ok (.invokevirtual 120, 3) := by decide +kernel
theorem d_So_put_97 : decode c_So_put 97 = .ok (.lmul, 1) := by decide +kernel
theorem d_So_put_98 : decode c_So_put 98 = .ok (.aload_n 2, 1) := by decide +kernel
theorem d_So_put_99 : decode c_So_put 99 = .ok (.invokevirtual 120, 3) := by decide +kernel
theorem d_So_put_102 : decode c_So_put 102 = .ok (.aload_n 3, 1) := by decide +kernel
theorem d_So_put_103 : decode c_So_put 103 = .ok (.invokevirtual 120, 3) := by decide +kernel
theorem d_So_put_106 : decode c_So_put 106 = .ok (.lmul, 1) := by decide +kernel
theorem d_So_put_107 : decode c_So_put 107 = .ok (.lsub, 1) := by decide +kernel
theorem d_So_put_108 : decode c_So_put 108 = .ok (.aload_n 0, 1) := by decide +kernel
theorem d_So_put_109 : decode c_So_put 109 = .ok (.getfield 31, 3) := by decide +kernel
theorem d_So_put_112 : decode c_So_put 112 = .ok (.invokevirtual 120, 3) := by decide +kernel
theorem d_So_put_115 : decode c_So_put 115 = .ok (.ldiv, 1) := by decide +kernel
theorem d_So_put_116 : decode c_So_put 116 = .ok (.invokevirtual 62, 3) := by decide +kernel
theorem d_So_put_119 : decode c_So_put 119 = .ok (.return_, 1) := by decide +kernel
theorem d_So_put_120 : decode c_So_put 120 = .ok (.aload_n 0, 1) := by decide +kernel
theorem d_So_put_121 : decode c_So_put 121 = .ok (.getfield 38, 3) := by decide +kernel
theorem d_So_put_124 : decode c_So_put 124 = .ok (.aload_n 1, 1) := by decide +kernel
theorem d_So_put_125 : decode c_So_put 125 = .ok (.aload_n 0, 1) := by decide +kernel
theorem d_So_put_126 : decode c_So_put 126 = .ok (.getfield 35, 3) := by decide +kernel
theorem d_So_put_129 : decode c_So_put 129 = .ok (.invokevirtual 129, 3) := by decide +kernel
theorem d_So_put_132 : decode c_So_put 132 = .ok (.aload_n 0, 1) := by decide +kernel
theorem d_So_put_133 : decode c_So_put 133 = .ok (.getfield 41, 3) := by decide +kernel
theorem d_So_put_136 : decode c_So_put 136 = .ok (.aload_n 2, 1) := by decide +kernel
theorem d_So_put_137 : decode c_So_put 137 = .ok (.aload_n 3, 1) := by decide +kernel
theorem d_So_put_138 : decode c_So_put 138 = .ok (.invokevirtual 129, 3) := by decide +kernel
theorem d_So_put_141 : decode c_So_put 141 = .ok (.aload_n 0, 1) := by decide +kernel
theorem d_So_put_142 : decode c_So_put 142 = .ok (.getfield 38, 3) := by decide +kernel
theorem d_So_put_145 : decode c_So_put 145 = .ok (.aload_n 0, 1) := by decide +kernel
theorem d_So_put_146 : decode c_So_put 146 = .ok (.getfield 41, 3) := by decide +kernel
theorem d_So_put_149 : decode c_So_put 149 = .ok (.invokevirtual 147, 3) := by decide +kernel
theorem d_So_put_152 : decode c_So_put 152 = .ok (.aload_n 0, 1) := by decide +kernel
theorem d_So_put_153 : decode c_So_put 153 = .ok (.getfield 38, 3) := by decide +kernel
theorem d_So_put_156 : decode c_So_put 156 = .ok (.aload_n 0, 1) := by decide +kernel
theorem d_So_put_157 : decode c_So_put 157 = .ok (.getfield 31, 3) := by decide +kernel
theorem d_So_put_160 : decode c_So_put 160 = .ok (.aload_n 0, 1) := by decide +kernel
theorem d_So_put_161 : decode c_So_put 161 = .ok (.getfield 44, 3) := by decide +kernel
theorem d_So_put_164 : decode c_So_put 164 = .ok (.aload_n 0, 1) := by decide +kernel
theorem d_So_put_165 : decode c_So_put 165 = .ok (.getfield 41, 3) := by decide +kernel
theorem d_So_put_168 : decode c_So_put 168 = .ok (.invokevirtual 150, 3) := by decide +kernel
theorem d_So_put_171 : decode c_So_put 171 = .ok (.aload_n 1, 1) := by decide +kernel
theorem d_So_put_172 : decode c_So_put 172 = .ok (.aload_n 0, 1) := by decide +kernel
theorem d_So_put_173 : decode c_So_put 173 = .ok (.getfield 38, 3) := by decide +kernel
theorem d_So_put_176 : decode c_So_put 176 = .ok (.invokevirtual 133, 3) := by decide +kernel
theorem d_So_put_179 : decode c_So_put 179 = .ok (.return_, 1) := by decide +kernel
set_option maxRecDepth 100000 in
set_option maxHeartbeats 16000000 in
/-- put -/
theorem g_So_put (l : Launch) (G : va_G) (k : Nat → ClassId) (h0 : Nat) (s0 sl : Nat) (ix9 : Nat) (iy9 : Nat) (iz9 : Nat) (bx9 : Nat) (by9 : Nat) (bz9 : Nat) (wv9 : Int) (cea : Nat) (roa : Nat) (coa : Nat) (ura : Nat) (uca : Nat) (au : Nat) (ap : Nat) (al : Nat) (ar : Nat) (ae : Nat) (rw9 : Nat) (C9 : Nat) (fs9 : Nat) (tk9 : Nat) (N9 : Nat) (st : Nat → Option wQ) (Z : Nat → Int) (hN : N9 = 3745) (hh : hO st Z) (hU : atO st 3731 au) (hP : atO st 3732 ap) (hL : atO st 3733 al) (hR : atO st 3734 ar) (hE : atO st 3735 ae) (hx1 : ix9 < 3731) (hy1 : iy9 < 3731) (hz1 : iz9 < 3731) (ax : atO st ix9 bx9) (ay : atO st iy9 by9) (az : atO st iz9 bz9) (nxy : ix9 ≠ iy9) (nxz : ix9 ≠ iz9) (nyz : iy9 ≠ iz9) (hu0 : Z 3731 ≠ 0) (hwa : Z ix9 * Z 3732 - Z iy9 * Z iz9 = wv9 * Z 3731) (hwb : wv9.natAbs < 2147483648 ^ 49) : CG l y_So_put c_So_put 5 none { frames := 5, cells := pt st N9 + 400, slots := 2 * pt st N9 + 800, locals := 157 } [.ref h0, .ref bx9, .ref by9, .ref bz9] G k s0 sl ([(h0, .inr (1, [.ref cea, .ref roa, .ref coa, .ref ura, .ref uca, .ref au, .ref ap, .ref al, .ref ar, .ref ae, .int (nI rw9), .int (nI C9), .int (nI fs9), .int (nI tk9)]))] ++ (tpl k st N9)) (fun (u : Nat → Option wQ) => none) (fun (u : Nat → Option wQ) => hO u (va_up Z ix9 wv9) ∧ keO st u ∧ pt u N9 ≤ pt st N9 ∧ saO st u) (fun (u : Nat → Option wQ) => ([(h0, .inr (1, [.ref cea, .ref roa, .ref coa, .ref ura, .ref uca, .ref au, .ref ap, .ref al, .ref ar, .ref ae, .int (nI rw9), .int (nI C9), .int (nI fs9), .int (nI tk9)]))] ++ (tpl k u N9))) (fun (u : Nat → Option wQ) => pt st N9 - pt u N9) (fun (u : Nat → Option wQ) => 2 * (pt st N9 - pt u N9)) (pt st N9 + 400) (2 * pt st N9 + 800) := by
  refine met_startG (by decide) (Nat.le_of_ble_eq_true rfl) ?_
  intro p e s m below meth c C K hA hsz S ls hl
  generalize va_A ([(h0, .inr (1, [.ref cea, .ref roa, .ref coa, .ref ura, .ref uca, .ref au, .ref ap, .ref al, .ref ar, .ref ae, .int (nI rw9), .int (nI C9), .int (nI fs9), .int (nI tk9)]))] ++ (tpl k st N9)) s0 = A at hA S ⊢
  have hx := C.1
  have hb := C.2.1
  have hl : lv_has ls 5 [(0, .ref h0), (1, .ref bx9), (2, .ref by9), (3, .ref bz9)] := hl
  have e8 : (Z ix9 * Z 3732 - Z iy9 * Z iz9).tdiv (Z 3731) = wv9 := by rw [hwa]; exact Int.mul_tdiv_cancel _ hu0
  have hMx : Mb ix9 = 98 := by unfold Mb; rw [if_pos hx1]
  have k120 : ∀ (H : Heap) (locs : List Loc), Sw G A s.heap H locs ([(h0, .inr (1, [.ref cea, .ref roa, .ref coa, .ref ura, .ref uca, .ref au, .ref ap, .ref al, .ref ar, .ref ae, .int (nI rw9), .int (nI C9), .int (nI fs9), .int (nI tk9)]))] ++ (tpl k st N9)) → ∀ ls : Array Slot, lv_has ls 5 [(4, .int 0), (0, .ref h0), (1, .ref bx9), (2, .ref by9), (3, .ref bz9)] → W p l e { frames := 5, cells := pt st N9 + 400, slots := 2 * pt st N9 + 800, locals := 157 } s m [Value.ref h0, Value.ref bx9, Value.ref by9, Value.ref bz9].toArray below meth c H locs 0 0 (MQ below (va_Qg (fun (u : Nat → Option wQ) => none) (fun (u : Nat → Option wQ) => hO u (va_up Z ix9 wv9) ∧ keO st u ∧ pt u N9 ≤ pt st N9 ∧ saO st u) (Pog G k A (fun (u : Nat → Option wQ) => ([(h0, .inr (1, [.ref cea, .ref roa, .ref coa, .ref ura, .ref uca, .ref au, .ref ap, .ref al, .ref ar, .ref ae, .int (nI rw9), .int (nI C9), .int (nI fs9), .int (nI tk9)]))] ++ (tpl k u N9))) s0 sl (fun (u : Nat → Option wQ) => pt st N9 - pt u N9) (fun (u : Nat → Option wQ) => 2 * (pt st N9 - pt u N9))) A) [Value.ref h0, Value.ref bx9, Value.ref by9, Value.ref bz9].toArray s (pt st N9 + 400) (2 * pt st N9 + 800) A) (F0 m 120 ls []) := by
    intro H locs S ls hl
    refine lv_aload_n hx hb d_So_put_120 rfl (lv_at hl 1 rfl) ?_
    refine r_get C K S 0 rfl rfl clOk_So 7 (by decide) wf_So_38 (v := .ref al) rfl d_So_put_121 ?_
    refine lv_aload_n hx hb d_So_put_124 rfl (lv_at hl 2 rfl) ?_
    refine lv_aload_n hx hb d_So_put_125 rfl (lv_at hl 1 rfl) ?_
    refine r_get C K S 0 rfl rfl clOk_So 6 (by decide) wf_So_35 (v := .ref ap) rfl d_So_put_126 ?_
    refine q_backP (wi := []) (wr := [(h0, .inr (1, [.ref cea, .ref roa, .ref coa, .ref ura, .ref uca, .ref au, .ref ap, .ref al, .ref ar, .ref ae, .int (nI rw9), .int (nI C9), .int (nI fs9), .int (nI tk9)]))]) S hA [] [0] rfl rfl (by decide) (by decide) (va_runV (As := [.ref bx9, .ref ap]) (rest := []) ⟨hx, hb, C.2.2.1, C.2.2.2.1, C.2.2.2.2.1⟩ (g_P_multiply l G k _ _ 3733 ix9 3732 al bx9 ap (Z ix9) (Z 3732) N9 st Z V0 hN hh.1 (by omega) (by omega) (by omega) hL ax hP rfl rfl (show V0 ix9 from by unfold V0; omega) (show V0 3732 from by unfold V0; omega) (by omega) (by decide) (by omega) (by decide) (b50 (hh.2 ix9 (by omega) (by unfold V0; omega))) (b50 (hh.2 3732 (by omega) (by unfold V0; omega)))) (k_virt (n := 2) C wc_Wh_multiply rfl rfl wz_Wh wm_So_129 wn_Wh_multiply ws_Wh_multiply (by decide +kernel) ⟨(Nat.le_of_ble_eq_true rfl), (Nat.le_of_ble_eq_true rfl)⟩) (pr_nowVGP K S [] (by decide) rfl (Classical.choose_spec (at_mem hL (show 3733 < N9 by omega))) rfl) rfl rfl hl.1 rfl (lv_room (Nat.le_of_ble_eq_true rfl)) d_So_put_129 ⟨(show 0 + 200 ≤ pt st N9 + 400 from by omega), (show 0 + 400 ≤ 2 * pt st N9 + 800 from by omega)⟩) (fun st1 H locs hw2 S => ?_)
    have S : Sw G A s.heap _ _ ([(h0, .inr (1, [.ref cea, .ref roa, .ref coa, .ref ura, .ref uca, .ref au, .ref ap, .ref al, .ref ar, .ref ae, .int (nI rw9), .int (nI C9), .int (nI fs9), .int (nI tk9)]))] ++ (tpl k st1 N9)) := S
    have hw2 : gO st1 (va_up Z 3733 ((Z ix9) * (Z 3732))) (va_up V0 3733 True) ∧ keO st st1 ∧ pt st1 N9 ≤ pt st N9 ∧ saO st st1 := hw2
    show W p l e _ s m _ below meth c H locs _ _ _ (F0 m 132 ls [])
    obtain ⟨g3, ke4, pt5, sa6⟩ := hw2
    refine lv_aload_n hx hb d_So_put_132 rfl (lv_at hl 1 rfl) ?_
    refine r_get C K S 0 rfl rfl clOk_So 8 (by decide) wf_So_41 (v := .ref ar) rfl d_So_put_133 ?_
    refine lv_aload_n hx hb d_So_put_136 rfl (lv_at hl 3 rfl) ?_
    refine lv_aload_n hx hb d_So_put_137 rfl (lv_at hl 4 rfl) ?_
    refine q_backP (wi := []) (wr := [(h0, .inr (1, [.ref cea, .ref roa, .ref coa, .ref ura, .ref uca, .ref au, .ref ap, .ref al, .ref ar, .ref ae, .int (nI rw9), .int (nI C9), .int (nI fs9), .int (nI tk9)]))]) S hA [] [0] rfl rfl (by decide) (by decide) (va_runV (As := [.ref by9, .ref bz9]) (rest := []) ⟨hx, hb, C.2.2.1, C.2.2.2.1, C.2.2.2.2.1⟩ (g_P_multiply l G k _ _ 3734 iy9 iz9 ar by9 bz9 (Z iy9) (Z iz9) N9 st1 (va_up Z 3733 ((Z ix9) * (Z 3732))) (va_up V0 3733 True) hN g3 (by omega) (by omega) (by omega) (ke4.at hR) (ke4.at ay) (ke4.at az) (by rw [va_up_ne _ _ (show iy9 ≠ 3733 by omega)]) (by rw [va_up_ne _ _ (show iz9 ≠ 3733 by omega)]) (by rw [va_up_ne _ _ (show iy9 ≠ 3733 by omega)]; unfold V0; omega) (by rw [va_up_ne _ _ (show iz9 ≠ 3733 by omega)]; unfold V0; omega) (by omega) (by omega) (by omega) (by decide) (b50 (hh.2 iy9 (by omega) (by unfold V0; omega))) (b50 (hh.2 iz9 (by omega) (by unfold V0; omega)))) (k_virt (n := 2) C wc_Wh_multiply rfl rfl wz_Wh wm_So_129 wn_Wh_multiply ws_Wh_multiply (by decide +kernel) ⟨(Nat.le_of_ble_eq_true rfl), (Nat.le_of_ble_eq_true rfl)⟩) (pr_nowVGP K S [] (by decide) rfl (Classical.choose_spec (at_mem (ke4.at hR) (show 3734 < N9 by omega))) rfl) rfl rfl hl.1 rfl (lv_room (Nat.le_of_ble_eq_true rfl)) d_So_put_138 ⟨(show 0 + (pt st N9 - pt st1 N9) + 200 ≤ pt st N9 + 400 from by omega), (show 0 + (2 * (pt st N9 - pt st1 N9)) + 400 ≤ 2 * pt st N9 + 800 from by omega)⟩) (fun st7 H locs hw8 S => ?_)
    have S : Sw G A s.heap _ _ ([(h0, .inr (1, [.ref cea, .ref roa, .ref coa, .ref ura, .ref uca, .ref au, .ref ap, .ref al, .ref ar, .ref ae, .int (nI rw9), .int (nI C9), .int (nI fs9), .int (nI tk9)]))] ++ (tpl k st7 N9)) := S
    have hw8 : gO st7 (va_up (va_up Z 3733 ((Z ix9) * (Z 3732))) 3734 ((Z iy9) * (Z iz9))) (va_up (va_up V0 3733 True) 3734 True) ∧ keO st1 st7 ∧ pt st7 N9 ≤ pt st1 N9 ∧ saO st1 st7 := hw8
    show W p l e _ s m _ below meth c H locs _ _ _ (F0 m 141 ls [])
    obtain ⟨g9, ke10, pt11, sa12⟩ := hw8
    refine lv_aload_n hx hb d_So_put_141 rfl (lv_at hl 1 rfl) ?_
    refine r_get C K S 0 rfl rfl clOk_So 7 (by decide) wf_So_38 (v := .ref al) rfl d_So_put_142 ?_
    refine lv_aload_n hx hb d_So_put_145 rfl (lv_at hl 1 rfl) ?_
    refine r_get C K S 0 rfl rfl clOk_So 8 (by decide) wf_So_41 (v := .ref ar) rfl d_So_put_146 ?_
    refine q_backP (wi := []) (wr := [(h0, .inr (1, [.ref cea, .ref roa, .ref coa, .ref ura, .ref uca, .ref au, .ref ap, .ref al, .ref ar, .ref ae, .int (nI rw9), .int (nI C9), .int (nI fs9), .int (nI tk9)]))]) S hA [] [0] rfl rfl (by decide) (by decide) (va_runV (As := [.ref ar]) (rest := []) ⟨hx, hb, C.2.2.1, C.2.2.2.1, C.2.2.2.2.1⟩ (g_P_subtract l G k _ _ 3733 3734 al ar ((Z ix9) * (Z 3732)) ((Z iy9) * (Z iz9)) N9 st7 (va_up (va_up Z 3733 ((Z ix9) * (Z 3732))) 3734 ((Z iy9) * (Z iz9))) (va_up (va_up V0 3733 True) 3734 True) hN g9 (by omega) (by omega) (ke10.at (ke4.at hL)) (ke10.at (ke4.at hR)) (by rw [va_up_ne _ _ (show 3733 ≠ 3734 by decide), va_up_self]) (by rw [va_up_self]) (by rw [va_up_ne _ _ (show 3733 ≠ 3734 by decide), va_up_self]; trivial) (by rw [va_up_self]; trivial) (by decide) (by decide) (b99 (b98 (hh.2 ix9 (by omega) (by unfold V0; omega)) (hh.2 3732 (by omega) (by unfold V0; omega)))) (b99 (b98 (hh.2 iy9 (by omega) (by unfold V0; omega)) (hh.2 iz9 (by omega) (by unfold V0; omega))))) (k_virt (n := 1) C wc_Wh_subtract rfl rfl wz_Wh wm_So_147 wn_Wh_subtract ws_Wh_subtract (by decide +kernel) ⟨(Nat.le_of_ble_eq_true rfl), (Nat.le_of_ble_eq_true rfl)⟩) (pr_nowVGP K S [] (by decide) rfl (Classical.choose_spec (at_mem (ke10.at (ke4.at hL)) (show 3733 < N9 by omega))) rfl) rfl rfl hl.1 rfl (lv_room (Nat.le_of_ble_eq_true rfl)) d_So_put_149 ⟨(show 0 + (pt st N9 - pt st1 N9) + (pt st1 N9 - pt st7 N9) + 200 ≤ pt st N9 + 400 from by omega), (show 0 + (2 * (pt st N9 - pt st1 N9)) + (2 * (pt st1 N9 - pt st7 N9)) + 400 ≤ 2 * pt st N9 + 800 from by omega)⟩) (fun st13 H locs hw14 S => ?_)
    have S : Sw G A s.heap _ _ ([(h0, .inr (1, [.ref cea, .ref roa, .ref coa, .ref ura, .ref uca, .ref au, .ref ap, .ref al, .ref ar, .ref ae, .int (nI rw9), .int (nI C9), .int (nI fs9), .int (nI tk9)]))] ++ (tpl k st13 N9)) := S
    have hw14 : gO st13 (va_up (va_up (va_up Z 3733 ((Z ix9) * (Z 3732))) 3734 ((Z iy9) * (Z iz9))) 3733 (((Z ix9) * (Z 3732)) - ((Z iy9) * (Z iz9)))) (va_up (va_up (va_up V0 3733 True) 3734 True) 3733 True) ∧ keO st7 st13 ∧ pt st13 N9 ≤ pt st7 N9 ∧ saO st7 st13 := hw14
    show W p l e _ s m _ below meth c H locs _ _ _ (F0 m 152 ls [])
    obtain ⟨g15, ke16, pt17, sa18⟩ := hw14
    refine lv_aload_n hx hb d_So_put_152 rfl (lv_at hl 1 rfl) ?_
    refine r_get C K S 0 rfl rfl clOk_So 7 (by decide) wf_So_38 (v := .ref al) rfl d_So_put_153 ?_
    refine lv_aload_n hx hb d_So_put_156 rfl (lv_at hl 1 rfl) ?_
    refine r_get C K S 0 rfl rfl clOk_So 5 (by decide) wf_So_31 (v := .ref au) rfl d_So_put_157 ?_
    refine lv_aload_n hx hb d_So_put_160 rfl (lv_at hl 1 rfl) ?_
    refine r_get C K S 0 rfl rfl clOk_So 9 (by decide) wf_So_44 (v := .ref ae) rfl d_So_put_161 ?_
    refine lv_aload_n hx hb d_So_put_164 rfl (lv_at hl 1 rfl) ?_
    refine r_get C K S 0 rfl rfl clOk_So 8 (by decide) wf_So_41 (v := .ref ar) rfl d_So_put_165 ?_
    refine q_backP (wi := []) (wr := [(h0, .inr (1, [.ref cea, .ref roa, .ref coa, .ref ura, .ref uca, .ref au, .ref ap, .ref al, .ref ar, .ref ae, .int (nI rw9), .int (nI C9), .int (nI fs9), .int (nI tk9)]))]) S hA [] [0] rfl rfl (by decide) (by decide) (va_runV (As := [.ref au, .ref ae, .ref ar]) (rest := []) ⟨hx, hb, C.2.2.1, C.2.2.2.1, C.2.2.2.2.1⟩ (g_P_divide l G k _ _ 3733 3731 3735 3734 al au ae ar (((Z ix9) * (Z 3732)) - ((Z iy9) * (Z iz9))) (Z 3731) N9 st13 (va_up (va_up (va_up Z 3733 ((Z ix9) * (Z 3732))) 3734 ((Z iy9) * (Z iz9))) 3733 (((Z ix9) * (Z 3732)) - ((Z iy9) * (Z iz9)))) (va_up (va_up (va_up V0 3733 True) 3734 True) 3733 True) hN g15 (by omega) (by omega) (by omega) (by omega) (ke16.at (ke10.at (ke4.at hL))) (ke16.at (ke10.at (ke4.at hU))) (ke16.at (ke10.at (ke4.at hE))) (ke16.at (ke10.at (ke4.at hR))) (by rw [va_up_self]) (by rw [va_up_ne _ _ (show 3731 ≠ 3733 by decide), va_up_ne _ _ (show 3731 ≠ 3734 by decide), va_up_ne _ _ (show 3731 ≠ 3733 by decide)]) (by rw [va_up_self]; trivial) (by rw [va_up_ne _ _ (show 3731 ≠ 3733 by decide), va_up_ne _ _ (show 3731 ≠ 3734 by decide), va_up_ne _ _ (show 3731 ≠ 3733 by decide)]; unfold V0; omega) (by decide) (by decide) (by decide) (by decide) (by decide) (by decide) (by decide) (by decide) (by decide) (b99s (b98 (hh.2 ix9 (by omega) (by unfold V0; omega)) (hh.2 3732 (by omega) (by unfold V0; omega))) (b98 (hh.2 iy9 (by omega) (by unfold V0; omega)) (hh.2 iz9 (by omega) (by unfold V0; omega)))) (b99z (hh.2 3731 (by omega) (by unfold V0; omega)))) (k_virt (n := 3) C wc_Wh_divide rfl rfl wz_Wh wm_So_150 wn_Wh_divide ws_Wh_divide (by decide +kernel) ⟨(Nat.le_of_ble_eq_true rfl), (Nat.le_of_ble_eq_true rfl)⟩) (pr_nowVGP K S [] (by decide) rfl (Classical.choose_spec (at_mem (ke16.at (ke10.at (ke4.at hL))) (show 3733 < N9 by omega))) rfl) rfl rfl hl.1 rfl (lv_room (Nat.le_of_ble_eq_true rfl)) d_So_put_168 ⟨(show 0 + (pt st N9 - pt st1 N9) + (pt st1 N9 - pt st7 N9) + (pt st7 N9 - pt st13 N9) + 400 ≤ pt st N9 + 400 from by omega), (show 0 + (2 * (pt st N9 - pt st1 N9)) + (2 * (pt st1 N9 - pt st7 N9)) + (2 * (pt st7 N9 - pt st13 N9)) + 800 ≤ 2 * pt st N9 + 800 from by omega)⟩) (fun st19 H locs hw20 S => ?_)
    have S : Sw G A s.heap _ _ ([(h0, .inr (1, [.ref cea, .ref roa, .ref coa, .ref ura, .ref uca, .ref au, .ref ap, .ref al, .ref ar, .ref ae, .int (nI rw9), .int (nI C9), .int (nI fs9), .int (nI tk9)]))] ++ (tpl k st19 N9)) := S
    have hw20 : gO st19 (va_up (va_up (va_up (va_up Z 3733 ((Z ix9) * (Z 3732))) 3734 ((Z iy9) * (Z iz9))) 3733 (((Z ix9) * (Z 3732)) - ((Z iy9) * (Z iz9)))) 3733 ((((Z ix9) * (Z 3732)) - ((Z iy9) * (Z iz9))).tdiv (Z 3731))) (va_up (va_up (va_up (va_up (va_up (va_up V0 3733 True) 3734 True) 3733 True) 3734 False) 3735 False) 3733 True) ∧ keO st13 st19 ∧ pt st19 N9 ≤ pt st13 N9 ∧ saO st13 st19 := hw20
    show W p l e _ s m _ below meth c H locs _ _ _ (F0 m 171 ls [])
    obtain ⟨g21, ke22, pt23, sa24⟩ := hw20
    refine lv_aload_n hx hb d_So_put_171 rfl (lv_at hl 2 rfl) ?_
    refine lv_aload_n hx hb d_So_put_172 rfl (lv_at hl 1 rfl) ?_
    refine r_get C K S 0 rfl rfl clOk_So 7 (by decide) wf_So_38 (v := .ref al) rfl d_So_put_173 ?_
    have mb25 := Mb_le ix9
    refine q_backP (wi := []) (wr := [(h0, .inr (1, [.ref cea, .ref roa, .ref coa, .ref ura, .ref uca, .ref au, .ref ap, .ref al, .ref ar, .ref ae, .int (nI rw9), .int (nI C9), .int (nI fs9), .int (nI tk9)]))]) S hA [] [0] rfl rfl (by decide) (by decide) (va_runV (As := [.ref al]) (rest := []) ⟨hx, hb, C.2.2.1, C.2.2.2.1, C.2.2.2.2.1⟩ (g_P_copy l G k _ _ ix9 3733 bx9 al ((((Z ix9) * (Z 3732)) - ((Z iy9) * (Z iz9))).tdiv (Z 3731)) N9 st19 (va_up (va_up (va_up (va_up Z 3733 ((Z ix9) * (Z 3732))) 3734 ((Z iy9) * (Z iz9))) 3733 (((Z ix9) * (Z 3732)) - ((Z iy9) * (Z iz9)))) 3733 ((((Z ix9) * (Z 3732)) - ((Z iy9) * (Z iz9))).tdiv (Z 3731))) (va_up (va_up (va_up (va_up (va_up (va_up V0 3733 True) 3734 True) 3733 True) 3734 False) 3735 False) 3733 True) hN g21 (by omega) (by omega) (ke22.at (ke16.at (ke10.at (ke4.at ax)))) (ke22.at (ke16.at (ke10.at (ke4.at hL)))) (by rw [va_up_self]) (by rw [va_up_self]; trivial) (by omega) (by rw [e8]; exact hwb)) (k_virt (n := 1) C wc_Wh_copy rfl rfl wz_Wh wm_So_133 wn_Wh_copy ws_Wh_copy (by decide +kernel) ⟨(Nat.le_of_ble_eq_true rfl), (Nat.le_of_ble_eq_true rfl)⟩) (pr_nowVGP K S [] (by decide) rfl (Classical.choose_spec (at_mem (ke22.at (ke16.at (ke10.at (ke4.at ax)))) (show ix9 < N9 by omega))) rfl) rfl rfl hl.1 rfl (lv_room (Nat.le_of_ble_eq_true rfl)) d_So_put_176 ⟨(show 0 + (pt st N9 - pt st1 N9) + (pt st1 N9 - pt st7 N9) + (pt st7 N9 - pt st13 N9) + (pt st13 N9 - pt st19 N9) + (Mb ix9) ≤ pt st N9 + 400 from by omega), (show 0 + (2 * (pt st N9 - pt st1 N9)) + (2 * (pt st1 N9 - pt st7 N9)) + (2 * (pt st7 N9 - pt st13 N9)) + (2 * (pt st13 N9 - pt st19 N9)) + (2 * Mb ix9) ≤ 2 * pt st N9 + 800 from by omega)⟩) (fun st26 H locs hw27 S => ?_)
    have S : Sw G A s.heap _ _ ([(h0, .inr (1, [.ref cea, .ref roa, .ref coa, .ref ura, .ref uca, .ref au, .ref ap, .ref al, .ref ar, .ref ae, .int (nI rw9), .int (nI C9), .int (nI fs9), .int (nI tk9)]))] ++ (tpl k st26 N9)) := S
    have hw27 : gO st26 (va_up (va_up (va_up (va_up (va_up Z 3733 ((Z ix9) * (Z 3732))) 3734 ((Z iy9) * (Z iz9))) 3733 (((Z ix9) * (Z 3732)) - ((Z iy9) * (Z iz9)))) 3733 ((((Z ix9) * (Z 3732)) - ((Z iy9) * (Z iz9))).tdiv (Z 3731))) ix9 ((((Z ix9) * (Z 3732)) - ((Z iy9) * (Z iz9))).tdiv (Z 3731))) (va_up (va_up (va_up (va_up (va_up (va_up (va_up V0 3733 True) 3734 True) 3733 True) 3734 False) 3735 False) 3733 True) ix9 True) ∧ keO st19 st26 ∧ pt st26 N9 ≤ pt st19 N9 ∧ saO st19 st26 := hw27
    show W p l e _ s m _ below meth c H locs _ _ _ (F0 m 179 ls [])
    obtain ⟨g28, ke29, pt30, sa31⟩ := hw27
    have hfin : hO st26 (va_up Z ix9 wv9) := by
      refine hO_of g28 (bd_up hh.2 hwb) (fun i q1 q2 => ?_)
      unfold V0 at q2
      have n1 : i ≠ 3733 := by omega
      have n2 : i ≠ 3734 := by omega
      have n3 : i ≠ 3735 := by omega
      by_cases w9 : i = ix9
      · subst w9
        refine ⟨by rw [va_up_self]; trivial, ?_⟩
        rw [va_up_self, va_up_self]
        exact e8.symm
      · refine ⟨by rw [va_up_ne _ _ w9, va_up_ne _ _ n1, va_up_ne _ _ n3, va_up_ne _ _ n2, va_up_ne _ _ n1, va_up_ne _ _ n2, va_up_ne _ _ n1]; unfold V0; omega, ?_⟩
        rw [va_up_ne _ _ w9, va_up_ne _ _ w9, va_up_ne _ _ n1, va_up_ne _ _ n1, va_up_ne _ _ n2, va_up_ne _ _ n1]
    exact q_vret C K hsz st26 (show hO st26 (va_up Z ix9 wv9) ∧ keO st st26 ∧ pt st26 N9 ≤ pt st N9 ∧ saO st st26 from ⟨hfin, ((((ke4.tr ke10).tr ke16).tr ke22).tr ke29), by omega, (saO.tr (saO.tr (saO.tr (saO.tr sa6 sa12) sa18) sa24) sa31)⟩) (S.subP [0] (by decide) rfl) d_So_put_179 (show 0 + (pt st N9 - pt st1 N9) + (pt st1 N9 - pt st7 N9) + (pt st7 N9 - pt st13 N9) + (pt st13 N9 - pt st19 N9) + (pt st19 N9 - pt st26 N9) ≤ pt st N9 - pt st26 N9 from by omega) (show 0 + (2 * (pt st N9 - pt st1 N9)) + (2 * (pt st1 N9 - pt st7 N9)) + (2 * (pt st7 N9 - pt st13 N9)) + (2 * (pt st13 N9 - pt st19 N9)) + (2 * (pt st19 N9 - pt st26 N9)) ≤ 2 * (pt st N9 - pt st26 N9) from by omega) (show 0 + (pt st N9 - pt st1 N9) + (pt st1 N9 - pt st7 N9) + (pt st7 N9 - pt st13 N9) + (pt st13 N9 - pt st19 N9) + (pt st19 N9 - pt st26 N9) ≤ pt st N9 + 400 from by omega) (show 0 + (2 * (pt st N9 - pt st1 N9)) + (2 * (pt st1 N9 - pt st7 N9)) + (2 * (pt st7 N9 - pt st13 N9)) + (2 * (pt st13 N9 - pt st19 N9)) + (2 * (pt st19 N9 - pt st26 N9)) ≤ 2 * pt st N9 + 800 from by omega)
  have k22 : ∀ (H : Heap) (locs : List Loc), Sw G A s.heap H locs ([(h0, .inr (1, [.ref cea, .ref roa, .ref coa, .ref ura, .ref uca, .ref au, .ref ap, .ref al, .ref ar, .ref ae, .int (nI rw9), .int (nI C9), .int (nI fs9), .int (nI tk9)]))] ++ (tpl k st N9)) → ∀ ls : Array Slot, lv_has ls 5 [(0, .ref h0), (1, .ref bx9), (2, .ref by9), (3, .ref bz9)] → W p l e { frames := 5, cells := pt st N9 + 400, slots := 2 * pt st N9 + 800, locals := 157 } s m [Value.ref h0, Value.ref bx9, Value.ref by9, Value.ref bz9].toArray below meth c H locs 0 0 (MQ below (va_Qg (fun (u : Nat → Option wQ) => none) (fun (u : Nat → Option wQ) => hO u (va_up Z ix9 wv9) ∧ keO st u ∧ pt u N9 ≤ pt st N9 ∧ saO st u) (Pog G k A (fun (u : Nat → Option wQ) => ([(h0, .inr (1, [.ref cea, .ref roa, .ref coa, .ref ura, .ref uca, .ref au, .ref ap, .ref al, .ref ar, .ref ae, .int (nI rw9), .int (nI C9), .int (nI fs9), .int (nI tk9)]))] ++ (tpl k u N9))) s0 sl (fun (u : Nat → Option wQ) => pt st N9 - pt u N9) (fun (u : Nat → Option wQ) => 2 * (pt st N9 - pt u N9))) A) [Value.ref h0, Value.ref bx9, Value.ref by9, Value.ref bz9].toArray s (pt st N9 + 400) (2 * pt st N9 + 800) A) (F0 m 22 ls []) := by
    intro H locs S ls hl
    refine lv_aload_n hx hb d_So_put_22 rfl (lv_at hl 1 rfl) ?_
    refine q_backP (wi := []) (wr := [(h0, .inr (1, [.ref cea, .ref roa, .ref coa, .ref ura, .ref uca, .ref au, .ref ap, .ref al, .ref ar, .ref ae, .int (nI rw9), .int (nI C9), .int (nI fs9), .int (nI tk9)]))]) S hA [] [0] rfl rfl (by decide) (by decide) (va_runV (As := []) (rest := []) ⟨hx, hb, C.2.2.1, C.2.2.2.1, C.2.2.2.2.1⟩ (g_P_isSmall l G k _ _ ix9 bx9 (Z ix9) N9 st Z V0 hN hh.1 (by omega) ax rfl (show V0 ix9 from by unfold V0; omega)) (k_virt (n := 0) C wc_Wh_isSmall rfl rfl wz_Wh wm_So_116 wn_Wh_isSmall ws_Wh_isSmall (by decide +kernel) ⟨(Nat.le_of_ble_eq_true rfl), (Nat.le_of_ble_eq_true rfl)⟩) (pr_nowVGP K S [] (by decide) rfl (Classical.choose_spec (at_mem ax (show ix9 < N9 by omega))) rfl) rfl rfl hl.1 rfl (lv_room (Nat.le_of_ble_eq_true rfl)) d_So_put_23 ⟨(Nat.zero_le _), (Nat.zero_le _)⟩) (fun u32 H locs hw33 S => ?_)
    have S : Sw G A s.heap _ _ ([(h0, .inr (1, [.ref cea, .ref roa, .ref coa, .ref ura, .ref uca, .ref au, .ref ap, .ref al, .ref ar, .ref ae, .int (nI rw9), .int (nI C9), .int (nI fs9), .int (nI tk9)]))] ++ (tpl k st N9)) := S
    have hw33 : True := hw33
    show W p l e _ s m _ below meth c H locs _ _ _ (F0 m 26 ls [.int (nI (smB ((Z ix9))))])
    have sb34 := smB_le (Z ix9)
    refine z_if_eq (a := (smB ((Z ix9)))) (tgt := 67) hx hb d_So_put_26 (by decide) (by omega) (fun hc35 => ?_) (fun hc35 => ?_)
    · refine lv_iconst (v := 0) hx hb d_So_put_67 (by decide) ?_
      refine lv_istore (lv' := [(4, .int 0), (0, .ref h0), (1, .ref bx9), (2, .ref by9), (3, .ref bz9)]) hx hb d_So_put_68 hl (by decide) rfl (fun ls hl => ?_)
      refine lv_iload hx hb d_So_put_70 (lv_at hl 0 rfl) ?_
      refine lv_if_eq (tgt := 120) hx hb d_So_put_72 (by decide) (fun _ => ?_) (fun hq => absurd (by decide) hq)
      exact k120 _ _ (S.subP [0] (by decide) rfl) ls (lv_sub hl [0, 1, 2, 3, 4] rfl)
    · refine lv_aload_n hx hb d_So_put_29 rfl (lv_at hl 2 rfl) ?_
      refine q_backP (wi := []) (wr := [(h0, .inr (1, [.ref cea, .ref roa, .ref coa, .ref ura, .ref uca, .ref au, .ref ap, .ref al, .ref ar, .ref ae, .int (nI rw9), .int (nI C9), .int (nI fs9), .int (nI tk9)]))]) S hA [] [0] rfl rfl (by decide) (by decide) (va_runV (As := []) (rest := []) ⟨hx, hb, C.2.2.1, C.2.2.2.1, C.2.2.2.2.1⟩ (g_P_isSmall l G k _ _ iy9 by9 (Z iy9) N9 st Z V0 hN hh.1 (by omega) ay rfl (show V0 iy9 from by unfold V0; omega)) (k_virt (n := 0) C wc_Wh_isSmall rfl rfl wz_Wh wm_So_116 wn_Wh_isSmall ws_Wh_isSmall (by decide +kernel) ⟨(Nat.le_of_ble_eq_true rfl), (Nat.le_of_ble_eq_true rfl)⟩) (pr_nowVGP K S [] (by decide) rfl (Classical.choose_spec (at_mem ay (show iy9 < N9 by omega))) rfl) rfl rfl hl.1 rfl (lv_room (Nat.le_of_ble_eq_true rfl)) d_So_put_30 ⟨(Nat.zero_le _), (Nat.zero_le _)⟩) (fun u36 H locs hw37 S => ?_)
      have S : Sw G A s.heap _ _ ([(h0, .inr (1, [.ref cea, .ref roa, .ref coa, .ref ura, .ref uca, .ref au, .ref ap, .ref al, .ref ar, .ref ae, .int (nI rw9), .int (nI C9), .int (nI fs9), .int (nI tk9)]))] ++ (tpl k st N9)) := S
      have hw37 : True := hw37
      show W p l e _ s m _ below meth c H locs _ _ _ (F0 m 33 ls [.int (nI (smB ((Z iy9))))])
      have sb38 := smB_le (Z iy9)
      refine z_if_eq (a := (smB ((Z iy9)))) (tgt := 67) hx hb d_So_put_33 (by decide) (by omega) (fun hc39 => ?_) (fun hc39 => ?_)
      · refine lv_iconst (v := 0) hx hb d_So_put_67 (by decide) ?_
        refine lv_istore (lv' := [(4, .int 0), (0, .ref h0), (1, .ref bx9), (2, .ref by9), (3, .ref bz9)]) hx hb d_So_put_68 hl (by decide) rfl (fun ls hl => ?_)
        refine lv_iload hx hb d_So_put_70 (lv_at hl 0 rfl) ?_
        refine lv_if_eq (tgt := 120) hx hb d_So_put_72 (by decide) (fun _ => ?_) (fun hq => absurd (by decide) hq)
        exact k120 _ _ (S.subP [0] (by decide) rfl) ls (lv_sub hl [0, 1, 2, 3, 4] rfl)
      · refine lv_aload_n hx hb d_So_put_36 rfl (lv_at hl 3 rfl) ?_
        refine q_backP (wi := []) (wr := [(h0, .inr (1, [.ref cea, .ref roa, .ref coa, .ref ura, .ref uca, .ref au, .ref ap, .ref al, .ref ar, .ref ae, .int (nI rw9), .int (nI C9), .int (nI fs9), .int (nI tk9)]))]) S hA [] [0] rfl rfl (by decide) (by decide) (va_runV (As := []) (rest := []) ⟨hx, hb, C.2.2.1, C.2.2.2.1, C.2.2.2.2.1⟩ (g_P_isSmall l G k _ _ iz9 bz9 (Z iz9) N9 st Z V0 hN hh.1 (by omega) az rfl (show V0 iz9 from by unfold V0; omega)) (k_virt (n := 0) C wc_Wh_isSmall rfl rfl wz_Wh wm_So_116 wn_Wh_isSmall ws_Wh_isSmall (by decide +kernel) ⟨(Nat.le_of_ble_eq_true rfl), (Nat.le_of_ble_eq_true rfl)⟩) (pr_nowVGP K S [] (by decide) rfl (Classical.choose_spec (at_mem az (show iz9 < N9 by omega))) rfl) rfl rfl hl.1 rfl (lv_room (Nat.le_of_ble_eq_true rfl)) d_So_put_37 ⟨(Nat.zero_le _), (Nat.zero_le _)⟩) (fun u40 H locs hw41 S => ?_)
        have S : Sw G A s.heap _ _ ([(h0, .inr (1, [.ref cea, .ref roa, .ref coa, .ref ura, .ref uca, .ref au, .ref ap, .ref al, .ref ar, .ref ae, .int (nI rw9), .int (nI C9), .int (nI fs9), .int (nI tk9)]))] ++ (tpl k st N9)) := S
        have hw41 : True := hw41
        show W p l e _ s m _ below meth c H locs _ _ _ (F0 m 40 ls [.int (nI (smB ((Z iz9))))])
        have sb42 := smB_le (Z iz9)
        refine z_if_eq (a := (smB ((Z iz9)))) (tgt := 67) hx hb d_So_put_40 (by decide) (by omega) (fun hc43 => ?_) (fun hc43 => ?_)
        · refine lv_iconst (v := 0) hx hb d_So_put_67 (by decide) ?_
          refine lv_istore (lv' := [(4, .int 0), (0, .ref h0), (1, .ref bx9), (2, .ref by9), (3, .ref bz9)]) hx hb d_So_put_68 hl (by decide) rfl (fun ls hl => ?_)
          refine lv_iload hx hb d_So_put_70 (lv_at hl 0 rfl) ?_
          refine lv_if_eq (tgt := 120) hx hb d_So_put_72 (by decide) (fun _ => ?_) (fun hq => absurd (by decide) hq)
          exact k120 _ _ (S.subP [0] (by decide) rfl) ls (lv_sub hl [0, 1, 2, 3, 4] rfl)
        · refine lv_aload_n hx hb d_So_put_43 rfl (lv_at hl 0 rfl) ?_
          refine r_get C K S 0 rfl rfl clOk_So 6 (by decide) wf_So_35 (v := .ref ap) rfl d_So_put_44 ?_
          refine q_backP (wi := []) (wr := [(h0, .inr (1, [.ref cea, .ref roa, .ref coa, .ref ura, .ref uca, .ref au, .ref ap, .ref al, .ref ar, .ref ae, .int (nI rw9), .int (nI C9), .int (nI fs9), .int (nI tk9)]))]) S hA [] [0] rfl rfl (by decide) (by decide) (va_runV (As := []) (rest := []) ⟨hx, hb, C.2.2.1, C.2.2.2.1, C.2.2.2.2.1⟩ (g_P_isSmall l G k _ _ 3732 ap (Z 3732) N9 st Z V0 hN hh.1 (by omega) hP rfl (show V0 3732 from by unfold V0; omega)) (k_virt (n := 0) C wc_Wh_isSmall rfl rfl wz_Wh wm_So_116 wn_Wh_isSmall ws_Wh_isSmall (by decide +kernel) ⟨(Nat.le_of_ble_eq_true rfl), (Nat.le_of_ble_eq_true rfl)⟩) (pr_nowVGP K S [] (by decide) rfl (Classical.choose_spec (at_mem hP (show 3732 < N9 by omega))) rfl) rfl rfl hl.1 rfl (lv_room (Nat.le_of_ble_eq_true rfl)) d_So_put_47 ⟨(Nat.zero_le _), (Nat.zero_le _)⟩) (fun u44 H locs hw45 S => ?_)
          have S : Sw G A s.heap _ _ ([(h0, .inr (1, [.ref cea, .ref roa, .ref coa, .ref ura, .ref uca, .ref au, .ref ap, .ref al, .ref ar, .ref ae, .int (nI rw9), .int (nI C9), .int (nI fs9), .int (nI tk9)]))] ++ (tpl k st N9)) := S
          have hw45 : True := hw45
          show W p l e _ s m _ below meth c H locs _ _ _ (F0 m 50 ls [.int (nI (smB ((Z 3732))))])
          have sb46 := smB_le (Z 3732)
          refine z_if_eq (a := (smB ((Z 3732)))) (tgt := 67) hx hb d_So_put_50 (by decide) (by omega) (fun hc47 => ?_) (fun hc47 => ?_)
          · refine lv_iconst (v := 0) hx hb d_So_put_67 (by decide) ?_
            refine lv_istore (lv' := [(4, .int 0), (0, .ref h0), (1, .ref bx9), (2, .ref by9), (3, .ref bz9)]) hx hb d_So_put_68 hl (by decide) rfl (fun ls hl => ?_)
            refine lv_iload hx hb d_So_put_70 (lv_at hl 0 rfl) ?_
            refine lv_if_eq (tgt := 120) hx hb d_So_put_72 (by decide) (fun _ => ?_) (fun hq => absurd (by decide) hq)
            exact k120 _ _ (S.subP [0] (by decide) rfl) ls (lv_sub hl [0, 1, 2, 3, 4] rfl)
          · refine lv_aload_n hx hb d_So_put_53 rfl (lv_at hl 0 rfl) ?_
            refine r_get C K S 0 rfl rfl clOk_So 5 (by decide) wf_So_31 (v := .ref au) rfl d_So_put_54 ?_
            refine q_backP (wi := []) (wr := [(h0, .inr (1, [.ref cea, .ref roa, .ref coa, .ref ura, .ref uca, .ref au, .ref ap, .ref al, .ref ar, .ref ae, .int (nI rw9), .int (nI C9), .int (nI fs9), .int (nI tk9)]))]) S hA [] [0] rfl rfl (by decide) (by decide) (va_runV (As := []) (rest := []) ⟨hx, hb, C.2.2.1, C.2.2.2.1, C.2.2.2.2.1⟩ (g_P_isSmall l G k _ _ 3731 au (Z 3731) N9 st Z V0 hN hh.1 (by omega) hU rfl (show V0 3731 from by unfold V0; omega)) (k_virt (n := 0) C wc_Wh_isSmall rfl rfl wz_Wh wm_So_116 wn_Wh_isSmall ws_Wh_isSmall (by decide +kernel) ⟨(Nat.le_of_ble_eq_true rfl), (Nat.le_of_ble_eq_true rfl)⟩) (pr_nowVGP K S [] (by decide) rfl (Classical.choose_spec (at_mem hU (show 3731 < N9 by omega))) rfl) rfl rfl hl.1 rfl (lv_room (Nat.le_of_ble_eq_true rfl)) d_So_put_57 ⟨(Nat.zero_le _), (Nat.zero_le _)⟩) (fun u48 H locs hw49 S => ?_)
            have S : Sw G A s.heap _ _ ([(h0, .inr (1, [.ref cea, .ref roa, .ref coa, .ref ura, .ref uca, .ref au, .ref ap, .ref al, .ref ar, .ref ae, .int (nI rw9), .int (nI C9), .int (nI fs9), .int (nI tk9)]))] ++ (tpl k st N9)) := S
            have hw49 : True := hw49
            show W p l e _ s m _ below meth c H locs _ _ _ (F0 m 60 ls [.int (nI (smB ((Z 3731))))])
            have sb50 := smB_le (Z 3731)
            refine z_if_eq (a := (smB ((Z 3731)))) (tgt := 67) hx hb d_So_put_60 (by decide) (by omega) (fun hc51 => ?_) (fun hc51 => ?_)
            · refine lv_iconst (v := 0) hx hb d_So_put_67 (by decide) ?_
              refine lv_istore (lv' := [(4, .int 0), (0, .ref h0), (1, .ref bx9), (2, .ref by9), (3, .ref bz9)]) hx hb d_So_put_68 hl (by decide) rfl (fun ls hl => ?_)
              refine lv_iload hx hb d_So_put_70 (lv_at hl 0 rfl) ?_
              refine lv_if_eq (tgt := 120) hx hb d_So_put_72 (by decide) (fun _ => ?_) (fun hq => absurd (by decide) hq)
              exact k120 _ _ (S.subP [0] (by decide) rfl) ls (lv_sub hl [0, 1, 2, 3, 4] rfl)
            · refine lv_iconst (v := 1) hx hb d_So_put_63 (by decide) ?_
              refine lv_goto (tgt := 68) hx hb d_So_put_64 (by decide) ?_
              refine lv_istore (lv' := [(4, .int 1), (0, .ref h0), (1, .ref bx9), (2, .ref by9), (3, .ref bz9)]) hx hb d_So_put_68 hl (by decide) rfl (fun ls hl => ?_)
              refine lv_iload hx hb d_So_put_70 (lv_at hl 0 rfl) ?_
              refine lv_if_eq (tgt := 120) hx hb d_So_put_72 (by decide) (fun hq => absurd hq (by decide)) (fun _ => ?_)
              refine lv_aload_n hx hb d_So_put_75 rfl (lv_at hl 1 rfl) ?_
              refine r_get C K S 0 rfl rfl clOk_So 5 (by decide) wf_So_31 (v := .ref au) rfl d_So_put_76 ?_
              refine q_backP (wi := []) (wr := [(h0, .inr (1, [.ref cea, .ref roa, .ref coa, .ref ura, .ref uca, .ref au, .ref ap, .ref al, .ref ar, .ref ae, .int (nI rw9), .int (nI C9), .int (nI fs9), .int (nI tk9)]))]) S hA [] [0] rfl rfl (by decide) (by decide) (va_runV (As := []) (rest := []) ⟨hx, hb, C.2.2.1, C.2.2.2.1, C.2.2.2.2.1⟩ (g_P_sign l G k _ _ 3731 au (Z 3731) N9 st Z V0 hN hh.1 (by omega) hU rfl (show V0 3731 from by unfold V0; omega)) (k_virt (n := 0) C wc_Wh_sign rfl rfl wz_Wh wm_So_101 wn_Wh_sign ws_Wh_sign (by decide +kernel) ⟨(Nat.le_of_ble_eq_true rfl), (Nat.le_of_ble_eq_true rfl)⟩) (pr_nowVGP K S [] (by decide) rfl (Classical.choose_spec (at_mem hU (show 3731 < N9 by omega))) rfl) rfl rfl hl.1 rfl (lv_room (Nat.le_of_ble_eq_true rfl)) d_So_put_79 ⟨(Nat.zero_le _), (Nat.zero_le _)⟩) (fun u52 H locs hw53 S => ?_)
              have S : Sw G A s.heap _ _ ([(h0, .inr (1, [.ref cea, .ref roa, .ref coa, .ref ura, .ref uca, .ref au, .ref ap, .ref al, .ref ar, .ref ae, .int (nI rw9), .int (nI C9), .int (nI fs9), .int (nI tk9)]))] ++ (tpl k st N9)) := S
              have hw53 : True := hw53
              show W p l e _ s m _ below meth c H locs _ _ _ (F0 m 82 ls [.int (sgI ((Z 3731)))])
              refine lv_if_eq (tgt := 120) hx hb d_So_put_82 (by decide) (fun hq => absurd hq (fun q => hu0 (sgn_0.mp q))) (fun _ => ?_)
              have f0 := smB_1 hc35
              have f1 := smB_1 hc39
              have f2 := smB_1 hc43
              have f3 := smB_1 hc47
              have f4 := smB_1 hc51
              have m1 := sm_mul f0 f3
              have m2 := sm_mul f1 f2
              have m3 : (wv9 * Z 3731).natAbs < 9223372036854775808 := by rw [← hwa]; omega
              have m4 := w_le (w := wv9) hu0
              refine lv_aload_n hx hb d_So_put_85 rfl (lv_at hl 2 rfl) ?_
              refine lv_aload_n hx hb d_So_put_86 rfl (lv_at hl 2 rfl) ?_
              refine q_backP (wi := []) (wr := [(h0, .inr (1, [.ref cea, .ref roa, .ref coa, .ref ura, .ref uca, .ref au, .ref ap, .ref al, .ref ar, .ref ae, .int (nI rw9), .int (nI C9), .int (nI fs9), .int (nI tk9)]))]) S hA [] [0] rfl rfl (by decide) (by decide) (va_runV (As := []) (rest := [.ref bx9]) ⟨hx, hb, C.2.2.1, C.2.2.2.1, C.2.2.2.2.1⟩ (g_P_small l G k _ _ ix9 bx9 (Z ix9) N9 st Z V0 hN hh.1 (by omega) ax rfl (show V0 ix9 from by unfold V0; omega) (smB_1 hc35)) (k_virt (n := 0) C wc_Wh_small rfl rfl wz_Wh wm_So_120 wn_Wh_small ws_Wh_small (by decide +kernel) ⟨(Nat.le_of_ble_eq_true rfl), (Nat.le_of_ble_eq_true rfl)⟩) (pr_nowVGP K S [] (by decide) rfl (Classical.choose_spec (at_mem ax (show ix9 < N9 by omega))) rfl) rfl rfl hl.1 rfl (lv_room (Nat.le_of_ble_eq_true rfl)) d_So_put_87 ⟨(Nat.zero_le _), (Nat.zero_le _)⟩) (fun u54 H locs hw55 S => ?_)
              have S : Sw G A s.heap _ _ ([(h0, .inr (1, [.ref cea, .ref roa, .ref coa, .ref ura, .ref uca, .ref au, .ref ap, .ref al, .ref ar, .ref ae, .int (nI rw9), .int (nI C9), .int (nI fs9), .int (nI tk9)]))] ++ (tpl k st N9)) := S
              have hw55 : True := hw55
              show W p l e _ s m _ below meth c H locs _ _ _ (F0 m 90 ls [.long (lZ ((Z ix9))), .ref bx9])
              refine lv_aload_n hx hb d_So_put_90 rfl (lv_at hl 1 rfl) ?_
              refine r_get C K S 0 rfl rfl clOk_So 6 (by decide) wf_So_35 (v := .ref ap) rfl d_So_put_91 ?_
              refine q_backP (wi := []) (wr := [(h0, .inr (1, [.ref cea, .ref roa, .ref coa, .ref ura, .ref uca, .ref au, .ref ap, .ref al, .ref ar, .ref ae, .int (nI rw9), .int (nI C9), .int (nI fs9), .int (nI tk9)]))]) S hA [] [0] rfl rfl (by decide) (by decide) (va_runV (As := []) (rest := [.long (lZ ((Z ix9))), .ref bx9]) ⟨hx, hb, C.2.2.1, C.2.2.2.1, C.2.2.2.2.1⟩ (g_P_small l G k _ _ 3732 ap (Z 3732) N9 st Z V0 hN hh.1 (by omega) hP rfl (show V0 3732 from by unfold V0; omega) (smB_1 hc47)) (k_virt (n := 0) C wc_Wh_small rfl rfl wz_Wh wm_So_120 wn_Wh_small ws_Wh_small (by decide +kernel) ⟨(Nat.le_of_ble_eq_true rfl), (Nat.le_of_ble_eq_true rfl)⟩) (pr_nowVGP K S [] (by decide) rfl (Classical.choose_spec (at_mem hP (show 3732 < N9 by omega))) rfl) rfl rfl hl.1 rfl (lv_room (Nat.le_of_ble_eq_true rfl)) d_So_put_94 ⟨(Nat.zero_le _), (Nat.zero_le _)⟩) (fun u56 H locs hw57 S => ?_)
              have S : Sw G A s.heap _ _ ([(h0, .inr (1, [.ref cea, .ref roa, .ref coa, .ref ura, .ref uca, .ref au, .ref ap, .ref al, .ref ar, .ref ae, .int (nI rw9), .int (nI C9), .int (nI fs9), .int (nI tk9)]))] ++ (tpl k st N9)) := S
              have hw57 : True := hw57
              show W p l e _ s m _ below meth c H locs _ _ _ (F0 m 97 ls [.long (lZ ((Z 3732))), .long (lZ ((Z ix9))), .ref bx9])
              refine z_lmul (v := lZ (Z ix9 * Z 3732)) hx hb d_So_put_97 (lZ_mul _ _) ?_
              refine lv_aload_n hx hb d_So_put_98 rfl (lv_at hl 3 rfl) ?_
              refine q_backP (wi := []) (wr := [(h0, .inr (1, [.ref cea, .ref roa, .ref coa, .ref ura, .ref uca, .ref au, .ref ap, .ref al, .ref ar, .ref ae, .int (nI rw9), .int (nI C9), .int (nI fs9), .int (nI tk9)]))]) S hA [] [0] rfl rfl (by decide) (by decide) (va_runV (As := []) (rest := [.long (lZ (Z ix9 * Z 3732)), .ref bx9]) ⟨hx, hb, C.2.2.1, C.2.2.2.1, C.2.2.2.2.1⟩ (g_P_small l G k _ _ iy9 by9 (Z iy9) N9 st Z V0 hN hh.1 (by omega) ay rfl (show V0 iy9 from by unfold V0; omega) (smB_1 hc39)) (k_virt (n := 0) C wc_Wh_small rfl rfl wz_Wh wm_So_120 wn_Wh_small ws_Wh_small (by decide +kernel) ⟨(Nat.le_of_ble_eq_true rfl), (Nat.le_of_ble_eq_true rfl)⟩) (pr_nowVGP K S [] (by decide) rfl (Classical.choose_spec (at_mem ay (show iy9 < N9 by omega))) rfl) rfl rfl hl.1 rfl (lv_room (Nat.le_of_ble_eq_true rfl)) d_So_put_99 ⟨(Nat.zero_le _), (Nat.zero_le _)⟩) (fun u58 H locs hw59 S => ?_)
              have S : Sw G A s.heap _ _ ([(h0, .inr (1, [.ref cea, .ref roa, .ref coa, .ref ura, .ref uca, .ref au, .ref ap, .ref al, .ref ar, .ref ae, .int (nI rw9), .int (nI C9), .int (nI fs9), .int (nI tk9)]))] ++ (tpl k st N9)) := S
              have hw59 : True := hw59
              show W p l e _ s m _ below meth c H locs _ _ _ (F0 m 102 ls [.long (lZ ((Z iy9))), .long (lZ (Z ix9 * Z 3732)), .ref bx9])
              refine lv_aload_n hx hb d_So_put_102 rfl (lv_at hl 4 rfl) ?_
              refine q_backP (wi := []) (wr := [(h0, .inr (1, [.ref cea, .ref roa, .ref coa, .ref ura, .ref uca, .ref au, .ref ap, .ref al, .ref ar, .ref ae, .int (nI rw9), .int (nI C9), .int (nI fs9), .int (nI tk9)]))]) S hA [] [0] rfl rfl (by decide) (by decide) (va_runV (As := []) (rest := [.long (lZ ((Z iy9))), .long (lZ (Z ix9 * Z 3732)), .ref bx9]) ⟨hx, hb, C.2.2.1, C.2.2.2.1, C.2.2.2.2.1⟩ (g_P_small l G k _ _ iz9 bz9 (Z iz9) N9 st Z V0 hN hh.1 (by omega) az rfl (show V0 iz9 from by unfold V0; omega) (smB_1 hc43)) (k_virt (n := 0) C wc_Wh_small rfl rfl wz_Wh wm_So_120 wn_Wh_small ws_Wh_small (by decide +kernel) ⟨(Nat.le_of_ble_eq_true rfl), (Nat.le_of_ble_eq_true rfl)⟩) (pr_nowVGP K S [] (by decide) rfl (Classical.choose_spec (at_mem az (show iz9 < N9 by omega))) rfl) rfl rfl hl.1 rfl (lv_room (Nat.le_of_ble_eq_true rfl)) d_So_put_103 ⟨(Nat.zero_le _), (Nat.zero_le _)⟩) (fun u60 H locs hw61 S => ?_)
              have S : Sw G A s.heap _ _ ([(h0, .inr (1, [.ref cea, .ref roa, .ref coa, .ref ura, .ref uca, .ref au, .ref ap, .ref al, .ref ar, .ref ae, .int (nI rw9), .int (nI C9), .int (nI fs9), .int (nI tk9)]))] ++ (tpl k st N9)) := S
              have hw61 : True := hw61
              show W p l e _ s m _ below meth c H locs _ _ _ (F0 m 106 ls [.long (lZ ((Z iz9))), .long (lZ ((Z iy9))), .long (lZ (Z ix9 * Z 3732)), .ref bx9])
              refine z_lmul (v := lZ (Z iy9 * Z iz9)) hx hb d_So_put_106 (lZ_mul _ _) ?_
              refine z_lsub (v := lZ (Z ix9 * Z 3732 - Z iy9 * Z iz9)) hx hb d_So_put_107 (lZ_sub _ _) ?_
              refine lv_aload_n hx hb d_So_put_108 rfl (lv_at hl 1 rfl) ?_
              refine r_get C K S 0 rfl rfl clOk_So 5 (by decide) wf_So_31 (v := .ref au) rfl d_So_put_109 ?_
              refine q_backP (wi := []) (wr := [(h0, .inr (1, [.ref cea, .ref roa, .ref coa, .ref ura, .ref uca, .ref au, .ref ap, .ref al, .ref ar, .ref ae, .int (nI rw9), .int (nI C9), .int (nI fs9), .int (nI tk9)]))]) S hA [] [0] rfl rfl (by decide) (by decide) (va_runV (As := []) (rest := [.long (lZ (Z ix9 * Z 3732 - Z iy9 * Z iz9)), .ref bx9]) ⟨hx, hb, C.2.2.1, C.2.2.2.1, C.2.2.2.2.1⟩ (g_P_small l G k _ _ 3731 au (Z 3731) N9 st Z V0 hN hh.1 (by omega) hU rfl (show V0 3731 from by unfold V0; omega) (smB_1 hc51)) (k_virt (n := 0) C wc_Wh_small rfl rfl wz_Wh wm_So_120 wn_Wh_small ws_Wh_small (by decide +kernel) ⟨(Nat.le_of_ble_eq_true rfl), (Nat.le_of_ble_eq_true rfl)⟩) (pr_nowVGP K S [] (by decide) rfl (Classical.choose_spec (at_mem hU (show 3731 < N9 by omega))) rfl) rfl rfl hl.1 rfl (lv_room (Nat.le_of_ble_eq_true rfl)) d_So_put_112 ⟨(Nat.zero_le _), (Nat.zero_le _)⟩) (fun u62 H locs hw63 S => ?_)
              have S : Sw G A s.heap _ _ ([(h0, .inr (1, [.ref cea, .ref roa, .ref coa, .ref ura, .ref uca, .ref au, .ref ap, .ref al, .ref ar, .ref ae, .int (nI rw9), .int (nI C9), .int (nI fs9), .int (nI tk9)]))] ++ (tpl k st N9)) := S
              have hw63 : True := hw63
              show W p l e _ s m _ below meth c H locs _ _ _ (F0 m 115 ls [.long (lZ ((Z 3731))), .long (lZ (Z ix9 * Z 3732 - Z iy9 * Z iz9)), .ref bx9])
              refine z_ldiv (v := lZ wv9) hx hb d_So_put_115 (lz_ne hu0 (by omega)) (by rw [hwa, lZ_tdiv m3 (by omega) hu0, Int.mul_tdiv_cancel _ hu0]) ?_
              refine q_backP (wi := []) (wr := [(h0, .inr (1, [.ref cea, .ref roa, .ref coa, .ref ura, .ref uca, .ref au, .ref ap, .ref al, .ref ar, .ref ae, .int (nI rw9), .int (nI C9), .int (nI fs9), .int (nI tk9)]))]) S hA [] [0] rfl rfl (by decide) (by decide) (va_runV (As := [.long (lZ wv9)]) (rest := []) ⟨hx, hb, C.2.2.1, C.2.2.2.1, C.2.2.2.2.1⟩ (g_P_set l G k _ _ wv9 ix9 bx9 N9 st Z V0 hN hh.1 (by omega) ax (by omega) (by omega)) (k_virt (n := 1) C wc_Wh_set rfl rfl wz_Wh wm_So_62 wn_Wh_set ws_Wh_set (by decide +kernel) ⟨(Nat.le_of_ble_eq_true rfl), (Nat.le_of_ble_eq_true rfl)⟩) (pr_nowVGP K S [] (by decide) rfl (Classical.choose_spec (at_mem ax (show ix9 < N9 by omega))) rfl) rfl rfl hl.1 rfl (lv_room (Nat.le_of_ble_eq_true rfl)) d_So_put_116 ⟨(Nat.zero_le _), (Nat.zero_le _)⟩) (fun st64 H locs hw65 S => ?_)
              have S : Sw G A s.heap _ _ ([(h0, .inr (1, [.ref cea, .ref roa, .ref coa, .ref ura, .ref uca, .ref au, .ref ap, .ref al, .ref ar, .ref ae, .int (nI rw9), .int (nI C9), .int (nI fs9), .int (nI tk9)]))] ++ (tpl k st64 N9)) := S
              have hw65 : gO st64 (va_up Z ix9 wv9) (va_up V0 ix9 True) ∧ keO st st64 ∧ pt st64 N9 ≤ pt st N9 ∧ saO st st64 := hw65
              show W p l e _ s m _ below meth c H locs _ _ _ (F0 m 119 ls [])
              obtain ⟨g66, ke67, pt68, sa69⟩ := hw65
              have hfin : hO st64 (va_up Z ix9 wv9) := by
                refine hO_of g66 (bd_up hh.2 hwb) (fun i q1 q2 => ?_)
                unfold V0 at q2
                have n1 : i ≠ 3733 := by omega
                have n2 : i ≠ 3734 := by omega
                have n3 : i ≠ 3735 := by omega
                by_cases w9 : i = ix9
                · subst w9
                  refine ⟨by rw [va_up_self]; trivial, ?_⟩
                  rfl
                · refine ⟨by rw [va_up_ne _ _ w9]; unfold V0; omega, ?_⟩
                  rfl
              exact q_vret C K hsz st64 (show hO st64 (va_up Z ix9 wv9) ∧ keO st st64 ∧ pt st64 N9 ≤ pt st N9 ∧ saO st st64 from ⟨hfin, ke67, by omega, sa69⟩) (S.subP [0] (by decide) rfl) d_So_put_119 (show 0 + (pt st N9 - pt st64 N9) ≤ pt st N9 - pt st64 N9 from by omega) (show 0 + (2 * (pt st N9 - pt st64 N9)) ≤ 2 * (pt st N9 - pt st64 N9) from by omega) (show 0 + (pt st N9 - pt st64 N9) ≤ pt st N9 + 400 from by omega) (show 0 + (2 * (pt st N9 - pt st64 N9)) ≤ 2 * pt st N9 + 800 from by omega)
  refine lv_aload_n hx hb d_So_put_0 rfl (lv_at hl 1 rfl) ?_
  refine q_backP (wi := []) (wr := [(h0, .inr (1, [.ref cea, .ref roa, .ref coa, .ref ura, .ref uca, .ref au, .ref ap, .ref al, .ref ar, .ref ae, .int (nI rw9), .int (nI C9), .int (nI fs9), .int (nI tk9)]))]) S hA [] [0] rfl rfl (by decide) (by decide) (va_runV (As := []) (rest := []) ⟨hx, hb, C.2.2.1, C.2.2.2.1, C.2.2.2.2.1⟩ (g_P_sign l G k _ _ ix9 bx9 (Z ix9) N9 st Z V0 hN hh.1 (by omega) ax rfl (show V0 ix9 from by unfold V0; omega)) (k_virt (n := 0) C wc_Wh_sign rfl rfl wz_Wh wm_So_101 wn_Wh_sign ws_Wh_sign (by decide +kernel) ⟨(Nat.le_of_ble_eq_true rfl), (Nat.le_of_ble_eq_true rfl)⟩) (pr_nowVGP K S [] (by decide) rfl (Classical.choose_spec (at_mem ax (show ix9 < N9 by omega))) rfl) rfl rfl hl.1 rfl (lv_room (Nat.le_of_ble_eq_true rfl)) d_So_put_1 ⟨(Nat.zero_le _), (Nat.zero_le _)⟩) (fun u70 H locs hw71 S => ?_)
  have S : Sw G A s.heap _ _ ([(h0, .inr (1, [.ref cea, .ref roa, .ref coa, .ref ura, .ref uca, .ref au, .ref ap, .ref al, .ref ar, .ref ae, .int (nI rw9), .int (nI C9), .int (nI fs9), .int (nI tk9)]))] ++ (tpl k st N9)) := S
  have hw71 : True := hw71
  show W p l e _ s m _ below meth c H locs _ _ _ (F0 m 4 ls [.int (sgI ((Z ix9)))])
  refine lv_if_ne (tgt := 22) hx hb d_So_put_4 (by decide) (fun hc72 => ?_) (fun hc72 => ?_)
  · exact k22 _ _ (S.subP [0] (by decide) rfl) ls (lv_sub hl [0, 1, 2, 3] rfl)
  · refine lv_aload_n hx hb d_So_put_7 rfl (lv_at hl 2 rfl) ?_
    refine q_backP (wi := []) (wr := [(h0, .inr (1, [.ref cea, .ref roa, .ref coa, .ref ura, .ref uca, .ref au, .ref ap, .ref al, .ref ar, .ref ae, .int (nI rw9), .int (nI C9), .int (nI fs9), .int (nI tk9)]))]) S hA [] [0] rfl rfl (by decide) (by decide) (va_runV (As := []) (rest := []) ⟨hx, hb, C.2.2.1, C.2.2.2.1, C.2.2.2.2.1⟩ (g_P_sign l G k _ _ iy9 by9 (Z iy9) N9 st Z V0 hN hh.1 (by omega) ay rfl (show V0 iy9 from by unfold V0; omega)) (k_virt (n := 0) C wc_Wh_sign rfl rfl wz_Wh wm_So_101 wn_Wh_sign ws_Wh_sign (by decide +kernel) ⟨(Nat.le_of_ble_eq_true rfl), (Nat.le_of_ble_eq_true rfl)⟩) (pr_nowVGP K S [] (by decide) rfl (Classical.choose_spec (at_mem ay (show iy9 < N9 by omega))) rfl) rfl rfl hl.1 rfl (lv_room (Nat.le_of_ble_eq_true rfl)) d_So_put_8 ⟨(Nat.zero_le _), (Nat.zero_le _)⟩) (fun u73 H locs hw74 S => ?_)
    have S : Sw G A s.heap _ _ ([(h0, .inr (1, [.ref cea, .ref roa, .ref coa, .ref ura, .ref uca, .ref au, .ref ap, .ref al, .ref ar, .ref ae, .int (nI rw9), .int (nI C9), .int (nI fs9), .int (nI tk9)]))] ++ (tpl k st N9)) := S
    have hw74 : True := hw74
    show W p l e _ s m _ below meth c H locs _ _ _ (F0 m 11 ls [.int (sgI ((Z iy9)))])
    refine lv_if_eq (tgt := 21) hx hb d_So_put_11 (by decide) (fun hc75 => ?_) (fun hc75 => ?_)
    · have e9 : wv9 = Z ix9 := pt_zero hu0 hwa (sgn_0.mp hc72) (Or.inl (sgn_0.mp hc75))
      exact q_vret C K hsz st (show hO st (va_up Z ix9 wv9) ∧ keO st st ∧ pt st N9 ≤ pt st N9 ∧ saO st st from ⟨by rw [e9, up_id Z ix9 rfl]; exact hh, keO.rf st, Nat.le_refl _, rfl⟩) (S.subP [0] (by decide) rfl) d_So_put_21 (Nat.zero_le _) (Nat.zero_le _) (Nat.zero_le _) (Nat.zero_le _)
    · refine lv_aload_n hx hb d_So_put_14 rfl (lv_at hl 3 rfl) ?_
      refine q_backP (wi := []) (wr := [(h0, .inr (1, [.ref cea, .ref roa, .ref coa, .ref ura, .ref uca, .ref au, .ref ap, .ref al, .ref ar, .ref ae, .int (nI rw9), .int (nI C9), .int (nI fs9), .int (nI tk9)]))]) S hA [] [0] rfl rfl (by decide) (by decide) (va_runV (As := []) (rest := []) ⟨hx, hb, C.2.2.1, C.2.2.2.1, C.2.2.2.2.1⟩ (g_P_sign l G k _ _ iz9 bz9 (Z iz9) N9 st Z V0 hN hh.1 (by omega) az rfl (show V0 iz9 from by unfold V0; omega)) (k_virt (n := 0) C wc_Wh_sign rfl rfl wz_Wh wm_So_101 wn_Wh_sign ws_Wh_sign (by decide +kernel) ⟨(Nat.le_of_ble_eq_true rfl), (Nat.le_of_ble_eq_true rfl)⟩) (pr_nowVGP K S [] (by decide) rfl (Classical.choose_spec (at_mem az (show iz9 < N9 by omega))) rfl) rfl rfl hl.1 rfl (lv_room (Nat.le_of_ble_eq_true rfl)) d_So_put_15 ⟨(Nat.zero_le _), (Nat.zero_le _)⟩) (fun u76 H locs hw77 S => ?_)
      have S : Sw G A s.heap _ _ ([(h0, .inr (1, [.ref cea, .ref roa, .ref coa, .ref ura, .ref uca, .ref au, .ref ap, .ref al, .ref ar, .ref ae, .int (nI rw9), .int (nI C9), .int (nI fs9), .int (nI tk9)]))] ++ (tpl k st N9)) := S
      have hw77 : True := hw77
      show W p l e _ s m _ below meth c H locs _ _ _ (F0 m 18 ls [.int (sgI ((Z iz9)))])
      refine lv_if_ne (tgt := 22) hx hb d_So_put_18 (by decide) (fun hc78 => ?_) (fun hc78 => ?_)
      · exact k22 _ _ (S.subP [0] (by decide) rfl) ls (lv_sub hl [0, 1, 2, 3] rfl)
      · have e9 : wv9 = Z ix9 := pt_zero hu0 hwa (sgn_0.mp hc72) (Or.inr (sgn_0.mp hc78))
        exact q_vret C K hsz st (show hO st (va_up Z ix9 wv9) ∧ keO st st ∧ pt st N9 ≤ pt st N9 ∧ saO st st from ⟨by rw [e9, up_id Z ix9 rfl]; exact hh, keO.rf st, Nat.le_refl _, rfl⟩) (S.subP [0] (by decide) rfl) d_So_put_21 (Nat.zero_le _) (Nat.zero_le _) (Nat.zero_le _) (Nat.zero_le _)
end
section
theorem d_So_compareIn_0 : decode c_So_compareIn 0 = .ok (.aload_n 0, 1) := by decide +kernel
theorem d_So_compareIn_1 : decode c_So_compareIn 1 = .ok (.iload_n 1, 1) := by decide +kernel
theorem d_So_compareIn_2 : decode c_So_compareIn 2 = .ok (.iload_n 2, 1) := by decide +kernel
theorem d_So_compareIn_3 : decode c_So_compareIn 3 = .ok (.invokevirtual 66, 3) := by decide +kernel
theorem d_So_compareIn_6 : decode c_So_compareIn 6 = .ok (.astore 5, 2) := by decide +kernel
theorem d_So_compareIn_8 : decode c_So_compareIn 8 = .ok (.aload_n 0, 1) := by decide +kernel
theorem d_So_compareIn_9 : decode c_So_compareIn 9 = .ok (.iload 4, 2) := by decide +kernel
theorem d_So_compareIn_11 : decode c_So_compareIn 11 = .ok (.iload_n 3, 1) := by decide +kernel
theorem d_So_compareIn_12 : decode c_So_compareIn 12 = .ok (.invokevirtual 66, 3) := by decide +kernel
theorem d_So_compareIn_15 : decode c_So_compareIn 15 = .ok (.astore 6, 2) := by decide +kernel
theorem d_So_compareIn_17 : decode c_So_compareIn 17 = .ok (.aload_n 0, 1) := by decide +kernel
theorem d_So_compareIn_18 : decode c_So_compareIn 18 = .ok (.iload_n 1, 1) := by decide +kernel
theorem d_So_compareIn_19 : decode c_So_compareIn 19 = .ok (.iload_n 3, 1) := by decide +kernel
theorem d_So_compareIn_20 : decode c_So_compareIn 20 = .ok (.invokevirtual 66, 3) := by decide +kernel
theorem d_So_compareIn_23 : decode c_So_compareIn 23 = .ok (.astore 7, 2) := by decide +kernel
theorem d_So_compareIn_25 : decode c_So_compareIn 25 = .ok (.aload_n 0, 1) := by decide +kernel
theorem d_So_compareIn_26 : decode c_So_compareIn 26 = .ok (.iload 4, 2) := by decide +kernel
theorem d_So_compareIn_28 : decode c_So_compareIn 28 = .ok (.iload_n 2, 1) := by decide +kernel
theorem d_So_compareIn_29 : decode c_So_compareIn 29 = .ok (.invokevirtual 66, 3) := by decide +kernel
theorem d_So_compareIn_32 : decode c_So_compareIn 32 = .ok (.astore 8, 2) := by decide +kernel
theorem d_So_compareIn_34 : decode c_So_compareIn 34 = .ok (.aload 5, 2) := by decide +kernel
theorem d_So_compareIn_36 : decode c_So_compareIn 36 = .ok (.invokevirtual 116, 3) := by decide +kernel
theorem d_So_compareIn_39 : decode c_So_compareIn 39 = .ok (.ifCond .eq 53, 3) := by decide +kernel
theorem d_So_compareIn_42 : decode c_So_compareIn 42 = .ok (.aload 6, 2) := by decide +kernel
theorem d_So_compareIn_44 : decode c_So_compareIn 44 = .ok (.invokevirtual 116, 3) := by decide +kernel
theorem d_So_compareIn_47 : decode c_So_compareIn 47 = .ok (.ifCond .eq 45, 3) := by decide +kernel
theorem d_So_compareIn_50 : decode c_So_compareIn 50 = .ok (.aload 7, 2) := by decide +kernel
theorem d_So_compareIn_52 : decode c_So_compareIn 52 = .ok (.invokevirtual 116, 3) := by decide +kernel
theorem d_So_compareIn_55 : decode c_So_compareIn 55 = .ok (.ifCond .eq 37, 3) := by decide +kernel
theorem d_So_compareIn_58 : decode c_So_compareIn 58 = .ok (.aload 8, 2) := by decide +kernel
theorem d_So_compareIn_60 : decode c_So_compareIn 60 = .ok (.invokevirtual 116, 3) := by decide +kernel
theorem d_So_compareIn_63 : decode c_So_compareIn 63 = .ok (.ifCond .eq 29, 3) := by decide +kernel
theorem d_So_compareIn_66 : decode c_So_compareIn 66 = .ok (.aload 5, 2) := by decide +kernel
theorem d_So_compareIn_68 : decode c_So_compareIn 68 = .ok (.invokevirtual 120, 3) := by decide +kernel
theorem d_So_compareIn_71 : decode c_So_compareIn 71 = .ok (.aload 6, 2) := by decide +kernel
theorem d_So_compareIn_73 : decode c_So_compareIn 73 = .ok (.invokevirtual 120, 3) := by decide +kernel
theorem d_So_compareIn_76 : decode c_So_compareIn 76 = .ok (.lmul, 1) := by decide +kernel
theorem d_So_compareIn_77 : decode c_So_compareIn 77 = .ok (.aload 7, 2) := by decide +kernel
theorem d_So_compareIn_79 : decode c_So_compareIn 79 = .ok (.invokevirtual 120, 3) := by decide +kernel
theorem d_So_compareIn_82 : decode c_So_compareIn 82 = .ok (.aload 8, 2) := by decide +kernel
theorem d_So_compareIn_84 : decode c_So_compareIn 84 = .ok (.invokevirtual 120, 3) := by decide +kernel
theorem d_So_compareIn_87 : decode c_So_compareIn 87 = .ok (.lmul, 1) := by decide +kernel
theorem d_So_compareIn_88 : decode c_So_compareIn 88 = .ok (.invokestatic 124, 3) := by decide +kernel
theorem d_So_compareIn_91 : decode c_So_compareIn 91 = .ok (.ireturn, 1) := by decide +kernel
theorem d_So_compareIn_92 : decode c_So_compareIn 92 = .ok (.aload_n 0, 1) := by decide +kernel
theorem d_So_compareIn_93 : decode c_So_compareIn 93 = .ok (.getfield 38, 3) := by decide +kernel
theorem d_So_compareIn_96 : decode c_So_compareIn 96 = .ok (.aload 5, 2) := by decide +kernel
theorem d_So_compareIn_98 : decode c_So_compareIn 98 = .ok (.aload 6, 2) := by decide +kernel
theorem d_So_compareIn_100 : decode c_So_compareIn 100 = .ok (.invokevirtual 129, 3) := by decide +kernel
theorem d_So_compareIn_103 : decode c_So_compareIn 103 = .ok (.aload_n 0, 1) := by decide +kernel
theorem d_So_compareIn_104 : decode c_So_compareIn 104 = .ok (.getfield 41, 3) := by decide +kernel
theorem d_So_compareIn_107 : decode c_So_compareIn 107 = .ok (.aload 7, 2) := by decide +kernel
theorem d_So_compareIn_109 : decode c_So_compareIn 109 = .ok (.aload 8, 2) := by decide +kernel
theorem d_So_compareIn_111 : decode c_So_compareIn 111 = .ok (.invokevirtual 129, 3) := by decide +kernel
theorem d_So_compareIn_114 : decode c_So_compareIn 114 = .ok (.aload_n 0, 1) := by decide +kernel
theorem d_So_compareIn_115 : decode c_So_compareIn 115 = .ok (.getfield 38, 3) := by decide +kernel
theorem d_So_compareIn_118 : decode c_So_compareIn 118 = .ok (.aload_n 0, 1) := by decide +kernel
theorem d_So_compareIn_119 : decode c_So_compareIn 119 = .ok (.getfield 41, 3) := by decide +kernel
theorem d_So_compareIn_122 : decode c_So_compareIn 122 = .ok (.invokevirtual 104, 3) := by decide +kernel
theorem d_So_compareIn_125 : decode c_So_compareIn 125 = .ok (.ireturn, 1) := by decide +kernel
set_option maxRecDepth 100000 in
set_option maxHeartbeats 16000000 in
/-- compareIn -/
theorem g_So_compareIn (l : Launch) (G : va_G) (k : Nat → ClassId) (h0 : Nat) (s0 sl : Nat) (qi : Nat) (qj : Nat) (qk : Nat) (qr : Nat) (cea : Nat) (roa : Nat) (coa : Nat) (ura : Nat) (uca : Nat) (au : Nat) (ap : Nat) (al : Nat) (ar : Nat) (ae : Nat) (rw9 : Nat) (C9 : Nat) (fs9 : Nat) (tk9 : Nat) (N9 : Nat) (st : Nat → Option wQ) (Z : Nat → Int) (hN : N9 = 3745) (hh : hO st Z) (hU : atO st 3731 au) (hP : atO st 3732 ap) (hL : atO st 3733 al) (hR : atO st 3734 ar) (hE : atO st 3735 ae) (hC : C9 ≤ 40) (hRw : rw9 ≤ 91) (hqi : qi < rw9) (hqr : qr < rw9) (hqj : qj < C9) (hqk : qk < C9) (hjk : qj ≠ qk) : CG l y_So_compareIn c_So_compareIn 9 (some .int) { frames := 4, cells := pt st N9 + 400, slots := 2 * pt st N9 + 800, locals := 131 } [.ref h0, .int (nI qi), .int (nI qj), .int (nI qk), .int (nI qr)] G k s0 sl ([(h0, .inr (1, [.ref cea, .ref roa, .ref coa, .ref ura, .ref uca, .ref au, .ref ap, .ref al, .ref ar, .ref ae, .int (nI rw9), .int (nI C9), .int (nI fs9), .int (nI tk9)])), (cea, .inl (k 4, 3731, .inr (.inr (.inr (.inr (fun j => adO (st j)))))))] ++ (tpl k st N9)) (fun (u : (Nat → Option wQ) × Int32) => some (.int u.2)) (fun (u : (Nat → Option wQ) × Int32) => hO u.1 Z ∧ keO st u.1 ∧ pt u.1 N9 ≤ pt st N9) (fun (u : (Nat → Option wQ) × Int32) => ([(h0, .inr (1, [.ref cea, .ref roa, .ref coa, .ref ura, .ref uca, .ref au, .ref ap, .ref al, .ref ar, .ref ae, .int (nI rw9), .int (nI C9), .int (nI fs9), .int (nI tk9)])), (cea, .inl (k 4, 3731, .inr (.inr (.inr (.inr (fun j => adO (u.1 j)))))))] ++ (tpl k u.1 N9))) (fun (u : (Nat → Option wQ) × Int32) => pt st N9 - pt u.1 N9) (fun (u : (Nat → Option wQ) × Int32) => 2 * (pt st N9 - pt u.1 N9)) (pt st N9 + 400) (2 * pt st N9 + 800) := by
  refine met_startG (by decide) (Nat.le_of_ble_eq_true rfl) ?_
  intro p e s m below meth c C K hA hsz S ls hl
  generalize va_A ([(h0, .inr (1, [.ref cea, .ref roa, .ref coa, .ref ura, .ref uca, .ref au, .ref ap, .ref al, .ref ar, .ref ae, .int (nI rw9), .int (nI C9), .int (nI fs9), .int (nI tk9)])), (cea, .inl (k 4, 3731, .inr (.inr (.inr (.inr (fun j => adO (st j)))))))] ++ (tpl k st N9)) s0 = A at hA S ⊢
  have hx := C.1
  have hb := C.2.1
  have hl : lv_has ls 9 [(0, .ref h0), (1, .int (nI qi)), (2, .int (nI qj)), (3, .int (nI qk)), (4, .int (nI qr))] := hl
  refine lv_aload_n hx hb d_So_compareIn_0 rfl (lv_at hl 0 rfl) ?_
  refine lv_iload_n hx hb d_So_compareIn_1 rfl (lv_at hl 1 rfl) ?_
  refine lv_iload_n hx hb d_So_compareIn_2 rfl (lv_at hl 2 rfl) ?_
  refine q_backP (wi := [(h0, .inr (1, [.ref cea, .ref roa, .ref coa, .ref ura, .ref uca, .ref au, .ref ap, .ref al, .ref ar, .ref ae, .int (nI rw9), .int (nI C9), .int (nI fs9), .int (nI tk9)])), (cea, .inl (k 4, 3731, .inr (.inr (.inr (.inr (fun j => adO (st j)))))))]) (wr := []) S hA [0, 1] [] rfl rfl (by decide) (by decide) (va_runV (As := [.int (nI qi), .int (nI qj)]) (rest := []) ⟨hx, hb, C.2.2.1, C.2.2.2.1, C.2.2.2.2.1⟩ (g_So_cell l G k h0 _ _ qi qj cea roa coa ura uca au ap al ar ae rw9 C9 fs9 tk9 N9 st Z hN ⟨hh.1, hh.2⟩ (by omega) (by omega) (by omega)) (k_virt (n := 2) C wc_So_cell rfl rfl wz_So wm_So_66 wn_So_cell ws_So_cell (by decide +kernel) ⟨(Nat.le_of_ble_eq_true rfl), (Nat.le_of_ble_eq_true rfl)⟩) (pr_nowVGP K S [0, 1] (by decide) rfl (List.mem_append_left _ (List.mem_of_getElem? (i := 0) rfl)) rfl) rfl rfl hl.1 rfl (lv_room (Nat.le_of_ble_eq_true rfl)) d_So_compareIn_3 ⟨(show 0 + (pt st N9 + 10) ≤ pt st N9 + 400 from by omega), (show 0 + (2 * pt st N9 + 20) ≤ 2 * pt st N9 + 800 from by omega)⟩) (fun c1 H locs hw2 S => ?_)
  have S : Sw G A s.heap _ _ ([(h0, .inr (1, [.ref cea, .ref roa, .ref coa, .ref ura, .ref uca, .ref au, .ref ap, .ref al, .ref ar, .ref ae, .int (nI rw9), .int (nI C9), .int (nI fs9), .int (nI tk9)])), (cea, .inl (k 4, 3731, .inr (.inr (.inr (.inr (fun j => adO (c1.1 j)))))))] ++ (tpl k c1.1 N9)) := S
  have hw2 : hO c1.1 Z ∧ atO c1.1 (qi * (C9 + 1) + qj) c1.2 ∧ keO st c1.1 ∧ pt c1.1 N9 ≤ pt st N9 := hw2
  show W p l e _ s m _ below meth c H locs _ _ _ (F0 m 6 ls [.ref c1.2])
  obtain ⟨hh3, at4, ke5, pt6⟩ := hw2
  have lt7 := ix_lt (C := C9) (R := 91) (i := qi) (j := qj) (by omega) (by omega) (Nat.le_refl _) (by omega)
  refine lv_astore (lv' := [(5, .ref c1.2), (0, .ref h0), (1, .int (nI qi)), (2, .int (nI qj)), (3, .int (nI qk)), (4, .int (nI qr))]) hx hb d_So_compareIn_6 hl (by decide) rfl (fun ls hl => ?_)
  refine lv_aload_n hx hb d_So_compareIn_8 rfl (lv_at hl 1 rfl) ?_
  refine lv_iload hx hb d_So_compareIn_9 (lv_at hl 5 rfl) ?_
  refine lv_iload_n hx hb d_So_compareIn_11 rfl (lv_at hl 4 rfl) ?_
  refine q_backP (wi := [(h0, .inr (1, [.ref cea, .ref roa, .ref coa, .ref ura, .ref uca, .ref au, .ref ap, .ref al, .ref ar, .ref ae, .int (nI rw9), .int (nI C9), .int (nI fs9), .int (nI tk9)])), (cea, .inl (k 4, 3731, .inr (.inr (.inr (.inr (fun j => adO (c1.1 j)))))))]) (wr := []) S hA [0, 1] [] rfl rfl (by decide) (by decide) (va_runV (As := [.int (nI qr), .int (nI qk)]) (rest := []) ⟨hx, hb, C.2.2.1, C.2.2.2.1, C.2.2.2.2.1⟩ (g_So_cell l G k h0 _ _ qr qk cea roa coa ura uca au ap al ar ae rw9 C9 fs9 tk9 N9 c1.1 Z hN ⟨hh3.1, hh3.2⟩ (by omega) (by omega) (by omega)) (k_virt (n := 2) C wc_So_cell rfl rfl wz_So wm_So_66 wn_So_cell ws_So_cell (by decide +kernel) ⟨(Nat.le_of_ble_eq_true rfl), (Nat.le_of_ble_eq_true rfl)⟩) (pr_nowVGP K S [0, 1] (by decide) rfl (List.mem_append_left _ (List.mem_of_getElem? (i := 0) rfl)) rfl) rfl rfl hl.1 rfl (lv_room (Nat.le_of_ble_eq_true rfl)) d_So_compareIn_12 ⟨(show 0 + (pt st N9 - pt c1.1 N9) + (pt c1.1 N9 + 10) ≤ pt st N9 + 400 from by omega), (show 0 + (2 * (pt st N9 - pt c1.1 N9)) + (2 * pt c1.1 N9 + 20) ≤ 2 * pt st N9 + 800 from by omega)⟩) (fun c8 H locs hw9 S => ?_)
  have S : Sw G A s.heap _ _ ([(h0, .inr (1, [.ref cea, .ref roa, .ref coa, .ref ura, .ref uca, .ref au, .ref ap, .ref al, .ref ar, .ref ae, .int (nI rw9), .int (nI C9), .int (nI fs9), .int (nI tk9)])), (cea, .inl (k 4, 3731, .inr (.inr (.inr (.inr (fun j => adO (c8.1 j)))))))] ++ (tpl k c8.1 N9)) := S
  have hw9 : hO c8.1 Z ∧ atO c8.1 (qr * (C9 + 1) + qk) c8.2 ∧ keO c1.1 c8.1 ∧ pt c8.1 N9 ≤ pt c1.1 N9 := hw9
  show W p l e _ s m _ below meth c H locs _ _ _ (F0 m 15 ls [.ref c8.2])
  obtain ⟨hh10, at11, ke12, pt13⟩ := hw9
  have lt14 := ix_lt (C := C9) (R := 91) (i := qr) (j := qk) (by omega) (by omega) (Nat.le_refl _) (by omega)
  refine lv_astore (lv' := [(6, .ref c8.2), (5, .ref c1.2), (0, .ref h0), (1, .int (nI qi)), (2, .int (nI qj)), (3, .int (nI qk)), (4, .int (nI qr))]) hx hb d_So_compareIn_15 hl (by decide) rfl (fun ls hl => ?_)
  refine lv_aload_n hx hb d_So_compareIn_17 rfl (lv_at hl 2 rfl) ?_
  refine lv_iload_n hx hb d_So_compareIn_18 rfl (lv_at hl 3 rfl) ?_
  refine lv_iload_n hx hb d_So_compareIn_19 rfl (lv_at hl 5 rfl) ?_
  refine q_backP (wi := [(h0, .inr (1, [.ref cea, .ref roa, .ref coa, .ref ura, .ref uca, .ref au, .ref ap, .ref al, .ref ar, .ref ae, .int (nI rw9), .int (nI C9), .int (nI fs9), .int (nI tk9)])), (cea, .inl (k 4, 3731, .inr (.inr (.inr (.inr (fun j => adO (c8.1 j)))))))]) (wr := []) S hA [0, 1] [] rfl rfl (by decide) (by decide) (va_runV (As := [.int (nI qi), .int (nI qk)]) (rest := []) ⟨hx, hb, C.2.2.1, C.2.2.2.1, C.2.2.2.2.1⟩ (g_So_cell l G k h0 _ _ qi qk cea roa coa ura uca au ap al ar ae rw9 C9 fs9 tk9 N9 c8.1 Z hN ⟨hh10.1, hh10.2⟩ (by omega) (by omega) (by omega)) (k_virt (n := 2) C wc_So_cell rfl rfl wz_So wm_So_66 wn_So_cell ws_So_cell (by decide +kernel) ⟨(Nat.le_of_ble_eq_true rfl), (Nat.le_of_ble_eq_true rfl)⟩) (pr_nowVGP K S [0, 1] (by decide) rfl (List.mem_append_left _ (List.mem_of_getElem? (i := 0) rfl)) rfl) rfl rfl hl.1 rfl (lv_room (Nat.le_of_ble_eq_true rfl)) d_So_compareIn_20 ⟨(show 0 + (pt st N9 - pt c1.1 N9) + (pt c1.1 N9 - pt c8.1 N9) + (pt c8.1 N9 + 10) ≤ pt st N9 + 400 from by omega), (show 0 + (2 * (pt st N9 - pt c1.1 N9)) + (2 * (pt c1.1 N9 - pt c8.1 N9)) + (2 * pt c8.1 N9 + 20) ≤ 2 * pt st N9 + 800 from by omega)⟩) (fun c15 H locs hw16 S => ?_)
  have S : Sw G A s.heap _ _ ([(h0, .inr (1, [.ref cea, .ref roa, .ref coa, .ref ura, .ref uca, .ref au, .ref ap, .ref al, .ref ar, .ref ae, .int (nI rw9), .int (nI C9), .int (nI fs9), .int (nI tk9)])), (cea, .inl (k 4, 3731, .inr (.inr (.inr (.inr (fun j => adO (c15.1 j)))))))] ++ (tpl k c15.1 N9)) := S
  have hw16 : hO c15.1 Z ∧ atO c15.1 (qi * (C9 + 1) + qk) c15.2 ∧ keO c8.1 c15.1 ∧ pt c15.1 N9 ≤ pt c8.1 N9 := hw16
  show W p l e _ s m _ below meth c H locs _ _ _ (F0 m 23 ls [.ref c15.2])
  obtain ⟨hh17, at18, ke19, pt20⟩ := hw16
  have lt21 := ix_lt (C := C9) (R := 91) (i := qi) (j := qk) (by omega) (by omega) (Nat.le_refl _) (by omega)
  refine lv_astore (lv' := [(7, .ref c15.2), (6, .ref c8.2), (5, .ref c1.2), (0, .ref h0), (1, .int (nI qi)), (2, .int (nI qj)), (3, .int (nI qk)), (4, .int (nI qr))]) hx hb d_So_compareIn_23 hl (by decide) rfl (fun ls hl => ?_)
  refine lv_aload_n hx hb d_So_compareIn_25 rfl (lv_at hl 3 rfl) ?_
  refine lv_iload hx hb d_So_compareIn_26 (lv_at hl 7 rfl) ?_
  refine lv_iload_n hx hb d_So_compareIn_28 rfl (lv_at hl 5 rfl) ?_
  refine q_backP (wi := [(h0, .inr (1, [.ref cea, .ref roa, .ref coa, .ref ura, .ref uca, .ref au, .ref ap, .ref al, .ref ar, .ref ae, .int (nI rw9), .int (nI C9), .int (nI fs9), .int (nI tk9)])), (cea, .inl (k 4, 3731, .inr (.inr (.inr (.inr (fun j => adO (c15.1 j)))))))]) (wr := []) S hA [0, 1] [] rfl rfl (by decide) (by decide) (va_runV (As := [.int (nI qr), .int (nI qj)]) (rest := []) ⟨hx, hb, C.2.2.1, C.2.2.2.1, C.2.2.2.2.1⟩ (g_So_cell l G k h0 _ _ qr qj cea roa coa ura uca au ap al ar ae rw9 C9 fs9 tk9 N9 c15.1 Z hN ⟨hh17.1, hh17.2⟩ (by omega) (by omega) (by omega)) (k_virt (n := 2) C wc_So_cell rfl rfl wz_So wm_So_66 wn_So_cell ws_So_cell (by decide +kernel) ⟨(Nat.le_of_ble_eq_true rfl), (Nat.le_of_ble_eq_true rfl)⟩) (pr_nowVGP K S [0, 1] (by decide) rfl (List.mem_append_left _ (List.mem_of_getElem? (i := 0) rfl)) rfl) rfl rfl hl.1 rfl (lv_room (Nat.le_of_ble_eq_true rfl)) d_So_compareIn_29 ⟨(show 0 + (pt st N9 - pt c1.1 N9) + (pt c1.1 N9 - pt c8.1 N9) + (pt c8.1 N9 - pt c15.1 N9) + (pt c15.1 N9 + 10) ≤ pt st N9 + 400 from by omega), (show 0 + (2 * (pt st N9 - pt c1.1 N9)) + (2 * (pt c1.1 N9 - pt c8.1 N9)) + (2 * (pt c8.1 N9 - pt c15.1 N9)) + (2 * pt c15.1 N9 + 20) ≤ 2 * pt st N9 + 800 from by omega)⟩) (fun c22 H locs hw23 S => ?_)
  have S : Sw G A s.heap _ _ ([(h0, .inr (1, [.ref cea, .ref roa, .ref coa, .ref ura, .ref uca, .ref au, .ref ap, .ref al, .ref ar, .ref ae, .int (nI rw9), .int (nI C9), .int (nI fs9), .int (nI tk9)])), (cea, .inl (k 4, 3731, .inr (.inr (.inr (.inr (fun j => adO (c22.1 j)))))))] ++ (tpl k c22.1 N9)) := S
  have hw23 : hO c22.1 Z ∧ atO c22.1 (qr * (C9 + 1) + qj) c22.2 ∧ keO c15.1 c22.1 ∧ pt c22.1 N9 ≤ pt c15.1 N9 := hw23
  show W p l e _ s m _ below meth c H locs _ _ _ (F0 m 32 ls [.ref c22.2])
  obtain ⟨hh24, at25, ke26, pt27⟩ := hw23
  have lt28 := ix_lt (C := C9) (R := 91) (i := qr) (j := qj) (by omega) (by omega) (Nat.le_refl _) (by omega)
  refine lv_astore (lv' := [(8, .ref c22.2), (7, .ref c15.2), (6, .ref c8.2), (5, .ref c1.2), (0, .ref h0), (1, .int (nI qi)), (2, .int (nI qj)), (3, .int (nI qk)), (4, .int (nI qr))]) hx hb d_So_compareIn_32 hl (by decide) rfl (fun ls hl => ?_)
  have k92 : ∀ (H : Heap) (locs : List Loc), Sw G A s.heap H locs ([(h0, .inr (1, [.ref cea, .ref roa, .ref coa, .ref ura, .ref uca, .ref au, .ref ap, .ref al, .ref ar, .ref ae, .int (nI rw9), .int (nI C9), .int (nI fs9), .int (nI tk9)])), (cea, .inl (k 4, 3731, .inr (.inr (.inr (.inr (fun j => adO (c22.1 j)))))))] ++ (tpl k c22.1 N9)) → ∀ ls : Array Slot, lv_has ls 9 [(8, .ref c22.2), (7, .ref c15.2), (6, .ref c8.2), (5, .ref c1.2), (0, .ref h0), (1, .int (nI qi)), (2, .int (nI qj)), (3, .int (nI qk)), (4, .int (nI qr))] → W p l e { frames := 4, cells := pt st N9 + 400, slots := 2 * pt st N9 + 800, locals := 131 } s m [Value.ref h0, Value.int (nI qi), Value.int (nI qj), Value.int (nI qk), Value.int (nI qr)].toArray below meth c H locs (0 + (pt st N9 - pt c1.1 N9) + (pt c1.1 N9 - pt c8.1 N9) + (pt c8.1 N9 - pt c15.1 N9) + (pt c15.1 N9 - pt c22.1 N9)) (0 + (2 * (pt st N9 - pt c1.1 N9)) + (2 * (pt c1.1 N9 - pt c8.1 N9)) + (2 * (pt c8.1 N9 - pt c15.1 N9)) + (2 * (pt c15.1 N9 - pt c22.1 N9))) (MQ below (va_Qg (fun (u : (Nat → Option wQ) × Int32) => some (.int u.2)) (fun (u : (Nat → Option wQ) × Int32) => hO u.1 Z ∧ keO st u.1 ∧ pt u.1 N9 ≤ pt st N9) (Pog G k A (fun (u : (Nat → Option wQ) × Int32) => ([(h0, .inr (1, [.ref cea, .ref roa, .ref coa, .ref ura, .ref uca, .ref au, .ref ap, .ref al, .ref ar, .ref ae, .int (nI rw9), .int (nI C9), .int (nI fs9), .int (nI tk9)])), (cea, .inl (k 4, 3731, .inr (.inr (.inr (.inr (fun j => adO (u.1 j)))))))] ++ (tpl k u.1 N9))) s0 sl (fun (u : (Nat → Option wQ) × Int32) => pt st N9 - pt u.1 N9) (fun (u : (Nat → Option wQ) × Int32) => 2 * (pt st N9 - pt u.1 N9))) A) [Value.ref h0, Value.int (nI qi), Value.int (nI qj), Value.int (nI qk), Value.int (nI qr)].toArray s (pt st N9 + 400) (2 * pt st N9 + 800) A) (F0 m 92 ls []) := by
    intro H locs S ls hl
    refine lv_aload_n hx hb d_So_compareIn_92 rfl (lv_at hl 4 rfl) ?_
    refine r_get C K S 0 rfl rfl clOk_So 7 (by decide) wf_So_38 (v := .ref al) rfl d_So_compareIn_93 ?_
    refine lv_aload hx hb d_So_compareIn_96 (lv_at hl 3 rfl) ?_
    refine lv_aload hx hb d_So_compareIn_98 (lv_at hl 2 rfl) ?_
    refine q_backP (wi := []) (wr := [(h0, .inr (1, [.ref cea, .ref roa, .ref coa, .ref ura, .ref uca, .ref au, .ref ap, .ref al, .ref ar, .ref ae, .int (nI rw9), .int (nI C9), .int (nI fs9), .int (nI tk9)])), (cea, .inl (k 4, 3731, .inr (.inr (.inr (.inr (fun j => adO (c22.1 j)))))))]) S hA [] [0, 1] rfl rfl (by decide) (by decide) (va_runV (As := [.ref c1.2, .ref c8.2]) (rest := []) ⟨hx, hb, C.2.2.1, C.2.2.2.1, C.2.2.2.2.1⟩ (g_P_multiply l G k _ _ 3733 (qi * (C9 + 1) + qj) (qr * (C9 + 1) + qk) al c1.2 c8.2 (Z (qi * (C9 + 1) + qj)) (Z (qr * (C9 + 1) + qk)) N9 c22.1 Z V0 hN hh24.1 (by omega) (by omega) (by omega) (ke26.at (ke19.at (ke12.at (ke5.at hL)))) (ke26.at (ke19.at (ke12.at at4))) (ke26.at (ke19.at at11)) rfl rfl (show V0 (qi * (C9 + 1) + qj) from by unfold V0; omega) (show V0 (qr * (C9 + 1) + qk) from by unfold V0; omega) (by omega) (by omega) (by exact ix_ne (by omega) (by omega) (by omega)) (by decide) (b50 (hh24.2 (qi * (C9 + 1) + qj) (by omega) (by unfold V0; omega))) (b50 (hh24.2 (qr * (C9 + 1) + qk) (by omega) (by unfold V0; omega)))) (k_virt (n := 2) C wc_Wh_multiply rfl rfl wz_Wh wm_So_129 wn_Wh_multiply ws_Wh_multiply (by decide +kernel) ⟨(Nat.le_of_ble_eq_true rfl), (Nat.le_of_ble_eq_true rfl)⟩) (pr_nowVGP K S [] (by decide) rfl (Classical.choose_spec (at_mem (ke26.at (ke19.at (ke12.at (ke5.at hL)))) (show 3733 < N9 by omega))) rfl) rfl rfl hl.1 rfl (lv_room (Nat.le_of_ble_eq_true rfl)) d_So_compareIn_100 ⟨(show 0 + (pt st N9 - pt c1.1 N9) + (pt c1.1 N9 - pt c8.1 N9) + (pt c8.1 N9 - pt c15.1 N9) + (pt c15.1 N9 - pt c22.1 N9) + 200 ≤ pt st N9 + 400 from by omega), (show 0 + (2 * (pt st N9 - pt c1.1 N9)) + (2 * (pt c1.1 N9 - pt c8.1 N9)) + (2 * (pt c8.1 N9 - pt c15.1 N9)) + (2 * (pt c15.1 N9 - pt c22.1 N9)) + 400 ≤ 2 * pt st N9 + 800 from by omega)⟩) (fun st29 H locs hw30 S => ?_)
    have S : Sw G A s.heap _ _ ([(h0, .inr (1, [.ref cea, .ref roa, .ref coa, .ref ura, .ref uca, .ref au, .ref ap, .ref al, .ref ar, .ref ae, .int (nI rw9), .int (nI C9), .int (nI fs9), .int (nI tk9)])), (cea, .inl (k 4, 3731, .inr (.inr (.inr (.inr (fun j => adO (c22.1 j)))))))] ++ (tpl k st29 N9)) := S
    have hw30 : gO st29 (va_up Z 3733 ((Z (qi * (C9 + 1) + qj)) * (Z (qr * (C9 + 1) + qk)))) (va_up V0 3733 True) ∧ keO c22.1 st29 ∧ pt st29 N9 ≤ pt c22.1 N9 ∧ saO c22.1 st29 := hw30
    show W p l e _ s m _ below meth c H locs _ _ _ (F0 m 103 ls [])
    obtain ⟨g31, ke32, pt33, sa34⟩ := hw30
    have S : Sw G A s.heap H locs ([(h0, .inr (1, [.ref cea, .ref roa, .ref coa, .ref ura, .ref uca, .ref au, .ref ap, .ref al, .ref ar, .ref ae, .int (nI rw9), .int (nI C9), .int (nI fs9), .int (nI tk9)])), (cea, .inl (k 4, 3731, .inr (.inr (.inr (.inr (fun j => adO (st29 j)))))))] ++ (tpl k st29 N9)) := by rw [show (fun j => adO (st29 j)) = _ from sa34]; exact S
    refine lv_aload_n hx hb d_So_compareIn_103 rfl (lv_at hl 4 rfl) ?_
    refine r_get C K S 0 rfl rfl clOk_So 8 (by decide) wf_So_41 (v := .ref ar) rfl d_So_compareIn_104 ?_
    refine lv_aload hx hb d_So_compareIn_107 (lv_at hl 1 rfl) ?_
    refine lv_aload hx hb d_So_compareIn_109 (lv_at hl 0 rfl) ?_
    refine q_backP (wi := []) (wr := [(h0, .inr (1, [.ref cea, .ref roa, .ref coa, .ref ura, .ref uca, .ref au, .ref ap, .ref al, .ref ar, .ref ae, .int (nI rw9), .int (nI C9), .int (nI fs9), .int (nI tk9)])), (cea, .inl (k 4, 3731, .inr (.inr (.inr (.inr (fun j => adO (st29 j)))))))]) S hA [] [0, 1] rfl rfl (by decide) (by decide) (va_runV (As := [.ref c15.2, .ref c22.2]) (rest := []) ⟨hx, hb, C.2.2.1, C.2.2.2.1, C.2.2.2.2.1⟩ (g_P_multiply l G k _ _ 3734 (qi * (C9 + 1) + qk) (qr * (C9 + 1) + qj) ar c15.2 c22.2 (Z (qi * (C9 + 1) + qk)) (Z (qr * (C9 + 1) + qj)) N9 st29 (va_up Z 3733 ((Z (qi * (C9 + 1) + qj)) * (Z (qr * (C9 + 1) + qk)))) (va_up V0 3733 True) hN g31 (by omega) (by omega) (by omega) (ke32.at (ke26.at (ke19.at (ke12.at (ke5.at hR))))) (ke32.at (ke26.at at18)) (ke32.at at25) (by rw [va_up_ne _ _ (show qi * (C9 + 1) + qk ≠ 3733 by omega)]) (by rw [va_up_ne _ _ (show qr * (C9 + 1) + qj ≠ 3733 by omega)]) (by rw [va_up_ne _ _ (show qi * (C9 + 1) + qk ≠ 3733 by omega)]; unfold V0; omega) (by rw [va_up_ne _ _ (show qr * (C9 + 1) + qj ≠ 3733 by omega)]; unfold V0; omega) (by omega) (by omega) (by exact ix_ne (by omega) (by omega) (by omega)) (by decide) (b50 (hh24.2 (qi * (C9 + 1) + qk) (by omega) (by unfold V0; omega))) (b50 (hh24.2 (qr * (C9 + 1) + qj) (by omega) (by unfold V0; omega)))) (k_virt (n := 2) C wc_Wh_multiply rfl rfl wz_Wh wm_So_129 wn_Wh_multiply ws_Wh_multiply (by decide +kernel) ⟨(Nat.le_of_ble_eq_true rfl), (Nat.le_of_ble_eq_true rfl)⟩) (pr_nowVGP K S [] (by decide) rfl (Classical.choose_spec (at_mem (ke32.at (ke26.at (ke19.at (ke12.at (ke5.at hR))))) (show 3734 < N9 by omega))) rfl) rfl rfl hl.1 rfl (lv_room (Nat.le_of_ble_eq_true rfl)) d_So_compareIn_111 ⟨(show 0 + (pt st N9 - pt c1.1 N9) + (pt c1.1 N9 - pt c8.1 N9) + (pt c8.1 N9 - pt c15.1 N9) + (pt c15.1 N9 - pt c22.1 N9) + (pt c22.1 N9 - pt st29 N9) + 200 ≤ pt st N9 + 400 from by omega), (show 0 + (2 * (pt st N9 - pt c1.1 N9)) + (2 * (pt c1.1 N9 - pt c8.1 N9)) + (2 * (pt c8.1 N9 - pt c15.1 N9)) + (2 * (pt c15.1 N9 - pt c22.1 N9)) + (2 * (pt c22.1 N9 - pt st29 N9)) + 400 ≤ 2 * pt st N9 + 800 from by omega)⟩) (fun st35 H locs hw36 S => ?_)
    have S : Sw G A s.heap _ _ ([(h0, .inr (1, [.ref cea, .ref roa, .ref coa, .ref ura, .ref uca, .ref au, .ref ap, .ref al, .ref ar, .ref ae, .int (nI rw9), .int (nI C9), .int (nI fs9), .int (nI tk9)])), (cea, .inl (k 4, 3731, .inr (.inr (.inr (.inr (fun j => adO (st29 j)))))))] ++ (tpl k st35 N9)) := S
    have hw36 : gO st35 (va_up (va_up Z 3733 ((Z (qi * (C9 + 1) + qj)) * (Z (qr * (C9 + 1) + qk)))) 3734 ((Z (qi * (C9 + 1) + qk)) * (Z (qr * (C9 + 1) + qj)))) (va_up (va_up V0 3733 True) 3734 True) ∧ keO st29 st35 ∧ pt st35 N9 ≤ pt st29 N9 ∧ saO st29 st35 := hw36
    show W p l e _ s m _ below meth c H locs _ _ _ (F0 m 114 ls [])
    obtain ⟨g37, ke38, pt39, sa40⟩ := hw36
    have S : Sw G A s.heap H locs ([(h0, .inr (1, [.ref cea, .ref roa, .ref coa, .ref ura, .ref uca, .ref au, .ref ap, .ref al, .ref ar, .ref ae, .int (nI rw9), .int (nI C9), .int (nI fs9), .int (nI tk9)])), (cea, .inl (k 4, 3731, .inr (.inr (.inr (.inr (fun j => adO (st35 j)))))))] ++ (tpl k st35 N9)) := by rw [show (fun j => adO (st35 j)) = _ from sa40]; exact S
    refine lv_aload_n hx hb d_So_compareIn_114 rfl (lv_at hl 4 rfl) ?_
    refine r_get C K S 0 rfl rfl clOk_So 7 (by decide) wf_So_38 (v := .ref al) rfl d_So_compareIn_115 ?_
    refine lv_aload_n hx hb d_So_compareIn_118 rfl (lv_at hl 4 rfl) ?_
    refine r_get C K S 0 rfl rfl clOk_So 8 (by decide) wf_So_41 (v := .ref ar) rfl d_So_compareIn_119 ?_
    refine q_backP (wi := []) (wr := [(h0, .inr (1, [.ref cea, .ref roa, .ref coa, .ref ura, .ref uca, .ref au, .ref ap, .ref al, .ref ar, .ref ae, .int (nI rw9), .int (nI C9), .int (nI fs9), .int (nI tk9)])), (cea, .inl (k 4, 3731, .inr (.inr (.inr (.inr (fun j => adO (st35 j)))))))]) S hA [] [0, 1] rfl rfl (by decide) (by decide) (va_runV (As := [.ref ar]) (rest := []) ⟨hx, hb, C.2.2.1, C.2.2.2.1, C.2.2.2.2.1⟩ (g_P_compare l G k _ _ 3733 3734 al ar ((Z (qi * (C9 + 1) + qj)) * (Z (qr * (C9 + 1) + qk))) ((Z (qi * (C9 + 1) + qk)) * (Z (qr * (C9 + 1) + qj))) N9 st35 (va_up (va_up Z 3733 ((Z (qi * (C9 + 1) + qj)) * (Z (qr * (C9 + 1) + qk)))) 3734 ((Z (qi * (C9 + 1) + qk)) * (Z (qr * (C9 + 1) + qj)))) (va_up (va_up V0 3733 True) 3734 True) hN g37 (by omega) (by omega) (ke38.at (ke32.at (ke26.at (ke19.at (ke12.at (ke5.at hL)))))) (ke38.at (ke32.at (ke26.at (ke19.at (ke12.at (ke5.at hR)))))) (by rw [va_up_ne _ _ (show 3733 ≠ 3734 by decide), va_up_self]) (by rw [va_up_self]) (by rw [va_up_ne _ _ (show 3733 ≠ 3734 by decide), va_up_self]; trivial) (by rw [va_up_self]; trivial) (by decide)) (k_virt (n := 1) C wc_Wh_compare rfl rfl wz_Wh wm_So_104 wn_Wh_compare ws_Wh_compare (by decide +kernel) ⟨(Nat.le_of_ble_eq_true rfl), (Nat.le_of_ble_eq_true rfl)⟩) (pr_nowVGP K S [] (by decide) rfl (Classical.choose_spec (at_mem (ke38.at (ke32.at (ke26.at (ke19.at (ke12.at (ke5.at hL)))))) (show 3733 < N9 by omega))) rfl) rfl rfl hl.1 rfl (lv_room (Nat.le_of_ble_eq_true rfl)) d_So_compareIn_122 ⟨(show 0 + (pt st N9 - pt c1.1 N9) + (pt c1.1 N9 - pt c8.1 N9) + (pt c8.1 N9 - pt c15.1 N9) + (pt c15.1 N9 - pt c22.1 N9) + (pt c22.1 N9 - pt st29 N9) + (pt st29 N9 - pt st35 N9) ≤ pt st N9 + 400 from by omega), (show 0 + (2 * (pt st N9 - pt c1.1 N9)) + (2 * (pt c1.1 N9 - pt c8.1 N9)) + (2 * (pt c8.1 N9 - pt c15.1 N9)) + (2 * (pt c15.1 N9 - pt c22.1 N9)) + (2 * (pt c22.1 N9 - pt st29 N9)) + (2 * (pt st29 N9 - pt st35 N9)) ≤ 2 * pt st N9 + 800 from by omega)⟩) (fun u41 H locs hw42 S => ?_)
    have S : Sw G A s.heap _ _ ([(h0, .inr (1, [.ref cea, .ref roa, .ref coa, .ref ura, .ref uca, .ref au, .ref ap, .ref al, .ref ar, .ref ae, .int (nI rw9), .int (nI C9), .int (nI fs9), .int (nI tk9)])), (cea, .inl (k 4, 3731, .inr (.inr (.inr (.inr (fun j => adO (st35 j)))))))] ++ (tpl k st35 N9)) := S
    have hw42 : True := hw42
    show W p l e _ s m _ below meth c H locs _ _ _ (F0 m 125 ls [.int (czI (((Z (qi * (C9 + 1) + qj)) * (Z (qr * (C9 + 1) + qk)))) (((Z (qi * (C9 + 1) + qk)) * (Z (qr * (C9 + 1) + qj)))))])
    have hfin : hO st35 Z := by
      refine hO_of g37 hh24.2 (fun i q1 q2 => ?_)
      unfold V0 at q2
      exact ⟨by rw [va_up_ne _ _ (show i ≠ 3734 by omega), va_up_ne _ _ (show i ≠ 3733 by omega)]; unfold V0; omega, by rw [va_up_ne _ _ (show i ≠ 3734 by omega), va_up_ne _ _ (show i ≠ 3733 by omega)]⟩
    exact q_iret C K hsz rfl (st35, czI (((Z (qi * (C9 + 1) + qj)) * (Z (qr * (C9 + 1) + qk)))) (((Z (qi * (C9 + 1) + qk)) * (Z (qr * (C9 + 1) + qj))))) rfl (show hO st35 Z ∧ keO st st35 ∧ pt st35 N9 ≤ pt st N9 from ⟨hfin, (((((ke5.tr ke12).tr ke19).tr ke26).tr ke32).tr ke38), by omega⟩) (S.subP [0, 1] (by decide) rfl) d_So_compareIn_125 (show 0 + (pt st N9 - pt c1.1 N9) + (pt c1.1 N9 - pt c8.1 N9) + (pt c8.1 N9 - pt c15.1 N9) + (pt c15.1 N9 - pt c22.1 N9) + (pt c22.1 N9 - pt st29 N9) + (pt st29 N9 - pt st35 N9) ≤ pt st N9 - pt st35 N9 from by omega) (show 0 + (2 * (pt st N9 - pt c1.1 N9)) + (2 * (pt c1.1 N9 - pt c8.1 N9)) + (2 * (pt c8.1 N9 - pt c15.1 N9)) + (2 * (pt c15.1 N9 - pt c22.1 N9)) + (2 * (pt c22.1 N9 - pt st29 N9)) + (2 * (pt st29 N9 - pt st35 N9)) ≤ 2 * (pt st N9 - pt st35 N9) from by omega) (show 0 + (pt st N9 - pt c1.1 N9) + (pt c1.1 N9 - pt c8.1 N9) + (pt c8.1 N9 - pt c15.1 N9) + (pt c15.1 N9 - pt c22.1 N9) + (pt c22.1 N9 - pt st29 N9) + (pt st29 N9 - pt st35 N9) ≤ pt st N9 + 400 from by omega) (show 0 + (2 * (pt st N9 - pt c1.1 N9)) + (2 * (pt c1.1 N9 - pt c8.1 N9)) + (2 * (pt c8.1 N9 - pt c15.1 N9)) + (2 * (pt c15.1 N9 - pt c22.1 N9)) + (2 * (pt c22.1 N9 - pt st29 N9)) + (2 * (pt st29 N9 - pt st35 N9)) ≤ 2 * pt st N9 + 800 from by omega)
  refine lv_aload hx hb d_So_compareIn_34 (lv_at hl 3 rfl) ?_
  refine q_backP (wi := []) (wr := [(h0, .inr (1, [.ref cea, .ref roa, .ref coa, .ref ura, .ref uca, .ref au, .ref ap, .ref al, .ref ar, .ref ae, .int (nI rw9), .int (nI C9), .int (nI fs9), .int (nI tk9)])), (cea, .inl (k 4, 3731, .inr (.inr (.inr (.inr (fun j => adO (c22.1 j)))))))]) S hA [] [0, 1] rfl rfl (by decide) (by decide) (va_runV (As := []) (rest := []) ⟨hx, hb, C.2.2.1, C.2.2.2.1, C.2.2.2.2.1⟩ (g_P_isSmall l G k _ _ (qi * (C9 + 1) + qj) c1.2 (Z (qi * (C9 + 1) + qj)) N9 c22.1 Z V0 hN hh24.1 (by omega) (ke26.at (ke19.at (ke12.at at4))) rfl (show V0 (qi * (C9 + 1) + qj) from by unfold V0; omega)) (k_virt (n := 0) C wc_Wh_isSmall rfl rfl wz_Wh wm_So_116 wn_Wh_isSmall ws_Wh_isSmall (by decide +kernel) ⟨(Nat.le_of_ble_eq_true rfl), (Nat.le_of_ble_eq_true rfl)⟩) (pr_nowVGP K S [] (by decide) rfl (Classical.choose_spec (at_mem (ke26.at (ke19.at (ke12.at at4))) (show qi * (C9 + 1) + qj < N9 by omega))) rfl) rfl rfl hl.1 rfl (lv_room (Nat.le_of_ble_eq_true rfl)) d_So_compareIn_36 ⟨(show 0 + (pt st N9 - pt c1.1 N9) + (pt c1.1 N9 - pt c8.1 N9) + (pt c8.1 N9 - pt c15.1 N9) + (pt c15.1 N9 - pt c22.1 N9) ≤ pt st N9 + 400 from by omega), (show 0 + (2 * (pt st N9 - pt c1.1 N9)) + (2 * (pt c1.1 N9 - pt c8.1 N9)) + (2 * (pt c8.1 N9 - pt c15.1 N9)) + (2 * (pt c15.1 N9 - pt c22.1 N9)) ≤ 2 * pt st N9 + 800 from by omega)⟩) (fun u43 H locs hw44 S => ?_)
  have S : Sw G A s.heap _ _ ([(h0, .inr (1, [.ref cea, .ref roa, .ref coa, .ref ura, .ref uca, .ref au, .ref ap, .ref al, .ref ar, .ref ae, .int (nI rw9), .int (nI C9), .int (nI fs9), .int (nI tk9)])), (cea, .inl (k 4, 3731, .inr (.inr (.inr (.inr (fun j => adO (c22.1 j)))))))] ++ (tpl k c22.1 N9)) := S
  have hw44 : True := hw44
  show W p l e _ s m _ below meth c H locs _ _ _ (F0 m 39 ls [.int (nI (smB ((Z (qi * (C9 + 1) + qj)))))])
  have sb45 := smB_le (Z (qi * (C9 + 1) + qj))
  refine z_if_eq (a := (smB ((Z (qi * (C9 + 1) + qj))))) (tgt := 92) hx hb d_So_compareIn_39 (by decide) (by omega) (fun hc46 => ?_) (fun hc46 => ?_)
  · exact k92 _ _ (S.subP [0, 1] (by decide) rfl) ls (lv_sub hl [0, 1, 2, 3, 4, 5, 6, 7, 8] rfl)
  · refine lv_aload hx hb d_So_compareIn_42 (lv_at hl 2 rfl) ?_
    refine q_backP (wi := []) (wr := [(h0, .inr (1, [.ref cea, .ref roa, .ref coa, .ref ura, .ref uca, .ref au, .ref ap, .ref al, .ref ar, .ref ae, .int (nI rw9), .int (nI C9), .int (nI fs9), .int (nI tk9)])), (cea, .inl (k 4, 3731, .inr (.inr (.inr (.inr (fun j => adO (c22.1 j)))))))]) S hA [] [0, 1] rfl rfl (by decide) (by decide) (va_runV (As := []) (rest := []) ⟨hx, hb, C.2.2.1, C.2.2.2.1, C.2.2.2.2.1⟩ (g_P_isSmall l G k _ _ (qr * (C9 + 1) + qk) c8.2 (Z (qr * (C9 + 1) + qk)) N9 c22.1 Z V0 hN hh24.1 (by omega) (ke26.at (ke19.at at11)) rfl (show V0 (qr * (C9 + 1) + qk) from by unfold V0; omega)) (k_virt (n := 0) C wc_Wh_isSmall rfl rfl wz_Wh wm_So_116 wn_Wh_isSmall ws_Wh_isSmall (by decide +kernel) ⟨(Nat.le_of_ble_eq_true rfl), (Nat.le_of_ble_eq_true rfl)⟩) (pr_nowVGP K S [] (by decide) rfl (Classical.choose_spec (at_mem (ke26.at (ke19.at at11)) (show qr * (C9 + 1) + qk < N9 by omega))) rfl) rfl rfl hl.1 rfl (lv_room (Nat.le_of_ble_eq_true rfl)) d_So_compareIn_44 ⟨(show 0 + (pt st N9 - pt c1.1 N9) + (pt c1.1 N9 - pt c8.1 N9) + (pt c8.1 N9 - pt c15.1 N9) + (pt c15.1 N9 - pt c22.1 N9) ≤ pt st N9 + 400 from by omega), (show 0 + (2 * (pt st N9 - pt c1.1 N9)) + (2 * (pt c1.1 N9 - pt c8.1 N9)) + (2 * (pt c8.1 N9 - pt c15.1 N9)) + (2 * (pt c15.1 N9 - pt c22.1 N9)) ≤ 2 * pt st N9 + 800 from by omega)⟩) (fun u47 H locs hw48 S => ?_)
    have S : Sw G A s.heap _ _ ([(h0, .inr (1, [.ref cea, .ref roa, .ref coa, .ref ura, .ref uca, .ref au, .ref ap, .ref al, .ref ar, .ref ae, .int (nI rw9), .int (nI C9), .int (nI fs9), .int (nI tk9)])), (cea, .inl (k 4, 3731, .inr (.inr (.inr (.inr (fun j => adO (c22.1 j)))))))] ++ (tpl k c22.1 N9)) := S
    have hw48 : True := hw48
    show W p l e _ s m _ below meth c H locs _ _ _ (F0 m 47 ls [.int (nI (smB ((Z (qr * (C9 + 1) + qk)))))])
    have sb49 := smB_le (Z (qr * (C9 + 1) + qk))
    refine z_if_eq (a := (smB ((Z (qr * (C9 + 1) + qk))))) (tgt := 92) hx hb d_So_compareIn_47 (by decide) (by omega) (fun hc50 => ?_) (fun hc50 => ?_)
    · exact k92 _ _ (S.subP [0, 1] (by decide) rfl) ls (lv_sub hl [0, 1, 2, 3, 4, 5, 6, 7, 8] rfl)
    · refine lv_aload hx hb d_So_compareIn_50 (lv_at hl 1 rfl) ?_
      refine q_backP (wi := []) (wr := [(h0, .inr (1, [.ref cea, .ref roa, .ref coa, .ref ura, .ref uca, .ref au, .ref ap, .ref al, .ref ar, .ref ae, .int (nI rw9), .int (nI C9), .int (nI fs9), .int (nI tk9)])), (cea, .inl (k 4, 3731, .inr (.inr (.inr (.inr (fun j => adO (c22.1 j)))))))]) S hA [] [0, 1] rfl rfl (by decide) (by decide) (va_runV (As := []) (rest := []) ⟨hx, hb, C.2.2.1, C.2.2.2.1, C.2.2.2.2.1⟩ (g_P_isSmall l G k _ _ (qi * (C9 + 1) + qk) c15.2 (Z (qi * (C9 + 1) + qk)) N9 c22.1 Z V0 hN hh24.1 (by omega) (ke26.at at18) rfl (show V0 (qi * (C9 + 1) + qk) from by unfold V0; omega)) (k_virt (n := 0) C wc_Wh_isSmall rfl rfl wz_Wh wm_So_116 wn_Wh_isSmall ws_Wh_isSmall (by decide +kernel) ⟨(Nat.le_of_ble_eq_true rfl), (Nat.le_of_ble_eq_true rfl)⟩) (pr_nowVGP K S [] (by decide) rfl (Classical.choose_spec (at_mem (ke26.at at18) (show qi * (C9 + 1) + qk < N9 by omega))) rfl) rfl rfl hl.1 rfl (lv_room (Nat.le_of_ble_eq_true rfl)) d_So_compareIn_52 ⟨(show 0 + (pt st N9 - pt c1.1 N9) + (pt c1.1 N9 - pt c8.1 N9) + (pt c8.1 N9 - pt c15.1 N9) + (pt c15.1 N9 - pt c22.1 N9) ≤ pt st N9 + 400 from by omega), (show 0 + (2 * (pt st N9 - pt c1.1 N9)) + (2 * (pt c1.1 N9 - pt c8.1 N9)) + (2 * (pt c8.1 N9 - pt c15.1 N9)) + (2 * (pt c15.1 N9 - pt c22.1 N9)) ≤ 2 * pt st N9 + 800 from by omega)⟩) (fun u51 H locs hw52 S => ?_)
      have S : Sw G A s.heap _ _ ([(h0, .inr (1, [.ref cea, .ref roa, .ref coa, .ref ura, .ref uca, .ref au, .ref ap, .ref al, .ref ar, .ref ae, .int (nI rw9), .int (nI C9), .int (nI fs9), .int (nI tk9)])), (cea, .inl (k 4, 3731, .inr (.inr (.inr (.inr (fun j => adO (c22.1 j)))))))] ++ (tpl k c22.1 N9)) := S
      have hw52 : True := hw52
      show W p l e _ s m _ below meth c H locs _ _ _ (F0 m 55 ls [.int (nI (smB ((Z (qi * (C9 + 1) + qk)))))])
      have sb53 := smB_le (Z (qi * (C9 + 1) + qk))
      refine z_if_eq (a := (smB ((Z (qi * (C9 + 1) + qk))))) (tgt := 92) hx hb d_So_compareIn_55 (by decide) (by omega) (fun hc54 => ?_) (fun hc54 => ?_)
      · exact k92 _ _ (S.subP [0, 1] (by decide) rfl) ls (lv_sub hl [0, 1, 2, 3, 4, 5, 6, 7, 8] rfl)
      · refine lv_aload hx hb d_So_compareIn_58 (lv_at hl 0 rfl) ?_
        refine q_backP (wi := []) (wr := [(h0, .inr (1, [.ref cea, .ref roa, .ref coa, .ref ura, .ref uca, .ref au, .ref ap, .ref al, .ref ar, .ref ae, .int (nI rw9), .int (nI C9), .int (nI fs9), .int (nI tk9)])), (cea, .inl (k 4, 3731, .inr (.inr (.inr (.inr (fun j => adO (c22.1 j)))))))]) S hA [] [0, 1] rfl rfl (by decide) (by decide) (va_runV (As := []) (rest := []) ⟨hx, hb, C.2.2.1, C.2.2.2.1, C.2.2.2.2.1⟩ (g_P_isSmall l G k _ _ (qr * (C9 + 1) + qj) c22.2 (Z (qr * (C9 + 1) + qj)) N9 c22.1 Z V0 hN hh24.1 (by omega) at25 rfl (show V0 (qr * (C9 + 1) + qj) from by unfold V0; omega)) (k_virt (n := 0) C wc_Wh_isSmall rfl rfl wz_Wh wm_So_116 wn_Wh_isSmall ws_Wh_isSmall (by decide +kernel) ⟨(Nat.le_of_ble_eq_true rfl), (Nat.le_of_ble_eq_true rfl)⟩) (pr_nowVGP K S [] (by decide) rfl (Classical.choose_spec (at_mem at25 (show qr * (C9 + 1) + qj < N9 by omega))) rfl) rfl rfl hl.1 rfl (lv_room (Nat.le_of_ble_eq_true rfl)) d_So_compareIn_60 ⟨(show 0 + (pt st N9 - pt c1.1 N9) + (pt c1.1 N9 - pt c8.1 N9) + (pt c8.1 N9 - pt c15.1 N9) + (pt c15.1 N9 - pt c22.1 N9) ≤ pt st N9 + 400 from by omega), (show 0 + (2 * (pt st N9 - pt c1.1 N9)) + (2 * (pt c1.1 N9 - pt c8.1 N9)) + (2 * (pt c8.1 N9 - pt c15.1 N9)) + (2 * (pt c15.1 N9 - pt c22.1 N9)) ≤ 2 * pt st N9 + 800 from by omega)⟩) (fun u55 H locs hw56 S => ?_)
        have S : Sw G A s.heap _ _ ([(h0, .inr (1, [.ref cea, .ref roa, .ref coa, .ref ura, .ref uca, .ref au, .ref ap, .ref al, .ref ar, .ref ae, .int (nI rw9), .int (nI C9), .int (nI fs9), .int (nI tk9)])), (cea, .inl (k 4, 3731, .inr (.inr (.inr (.inr (fun j => adO (c22.1 j)))))))] ++ (tpl k c22.1 N9)) := S
        have hw56 : True := hw56
        show W p l e _ s m _ below meth c H locs _ _ _ (F0 m 63 ls [.int (nI (smB ((Z (qr * (C9 + 1) + qj)))))])
        have sb57 := smB_le (Z (qr * (C9 + 1) + qj))
        refine z_if_eq (a := (smB ((Z (qr * (C9 + 1) + qj))))) (tgt := 92) hx hb d_So_compareIn_63 (by decide) (by omega) (fun hc58 => ?_) (fun hc58 => ?_)
        · exact k92 _ _ (S.subP [0, 1] (by decide) rfl) ls (lv_sub hl [0, 1, 2, 3, 4, 5, 6, 7, 8] rfl)
        · refine lv_aload hx hb d_So_compareIn_66 (lv_at hl 3 rfl) ?_
          refine q_backP (wi := []) (wr := [(h0, .inr (1, [.ref cea, .ref roa, .ref coa, .ref ura, .ref uca, .ref au, .ref ap, .ref al, .ref ar, .ref ae, .int (nI rw9), .int (nI C9), .int (nI fs9), .int (nI tk9)])), (cea, .inl (k 4, 3731, .inr (.inr (.inr (.inr (fun j => adO (c22.1 j)))))))]) S hA [] [0, 1] rfl rfl (by decide) (by decide) (va_runV (As := []) (rest := []) ⟨hx, hb, C.2.2.1, C.2.2.2.1, C.2.2.2.2.1⟩ (g_P_small l G k _ _ (qi * (C9 + 1) + qj) c1.2 (Z (qi * (C9 + 1) + qj)) N9 c22.1 Z V0 hN hh24.1 (by omega) (ke26.at (ke19.at (ke12.at at4))) rfl (show V0 (qi * (C9 + 1) + qj) from by unfold V0; omega) (smB_1 hc46)) (k_virt (n := 0) C wc_Wh_small rfl rfl wz_Wh wm_So_120 wn_Wh_small ws_Wh_small (by decide +kernel) ⟨(Nat.le_of_ble_eq_true rfl), (Nat.le_of_ble_eq_true rfl)⟩) (pr_nowVGP K S [] (by decide) rfl (Classical.choose_spec (at_mem (ke26.at (ke19.at (ke12.at at4))) (show qi * (C9 + 1) + qj < N9 by omega))) rfl) rfl rfl hl.1 rfl (lv_room (Nat.le_of_ble_eq_true rfl)) d_So_compareIn_68 ⟨(show 0 + (pt st N9 - pt c1.1 N9) + (pt c1.1 N9 - pt c8.1 N9) + (pt c8.1 N9 - pt c15.1 N9) + (pt c15.1 N9 - pt c22.1 N9) ≤ pt st N9 + 400 from by omega), (show 0 + (2 * (pt st N9 - pt c1.1 N9)) + (2 * (pt c1.1 N9 - pt c8.1 N9)) + (2 * (pt c8.1 N9 - pt c15.1 N9)) + (2 * (pt c15.1 N9 - pt c22.1 N9)) ≤ 2 * pt st N9 + 800 from by omega)⟩) (fun u59 H locs hw60 S => ?_)
          have S : Sw G A s.heap _ _ ([(h0, .inr (1, [.ref cea, .ref roa, .ref coa, .ref ura, .ref uca, .ref au, .ref ap, .ref al, .ref ar, .ref ae, .int (nI rw9), .int (nI C9), .int (nI fs9), .int (nI tk9)])), (cea, .inl (k 4, 3731, .inr (.inr (.inr (.inr (fun j => adO (c22.1 j)))))))] ++ (tpl k c22.1 N9)) := S
          have hw60 : True := hw60
          show W p l e _ s m _ below meth c H locs _ _ _ (F0 m 71 ls [.long (lZ ((Z (qi * (C9 + 1) + qj))))])
          refine lv_aload hx hb d_So_compareIn_71 (lv_at hl 2 rfl) ?_
          refine q_backP (wi := []) (wr := [(h0, .inr (1, [.ref cea, .ref roa, .ref coa, .ref ura, .ref uca, .ref au, .ref ap, .ref al, .ref ar, .ref ae, .int (nI rw9), .int (nI C9), .int (nI fs9), .int (nI tk9)])), (cea, .inl (k 4, 3731, .inr (.inr (.inr (.inr (fun j => adO (c22.1 j)))))))]) S hA [] [0, 1] rfl rfl (by decide) (by decide) (va_runV (As := []) (rest := [.long (lZ ((Z (qi * (C9 + 1) + qj))))]) ⟨hx, hb, C.2.2.1, C.2.2.2.1, C.2.2.2.2.1⟩ (g_P_small l G k _ _ (qr * (C9 + 1) + qk) c8.2 (Z (qr * (C9 + 1) + qk)) N9 c22.1 Z V0 hN hh24.1 (by omega) (ke26.at (ke19.at at11)) rfl (show V0 (qr * (C9 + 1) + qk) from by unfold V0; omega) (smB_1 hc50)) (k_virt (n := 0) C wc_Wh_small rfl rfl wz_Wh wm_So_120 wn_Wh_small ws_Wh_small (by decide +kernel) ⟨(Nat.le_of_ble_eq_true rfl), (Nat.le_of_ble_eq_true rfl)⟩) (pr_nowVGP K S [] (by decide) rfl (Classical.choose_spec (at_mem (ke26.at (ke19.at at11)) (show qr * (C9 + 1) + qk < N9 by omega))) rfl) rfl rfl hl.1 rfl (lv_room (Nat.le_of_ble_eq_true rfl)) d_So_compareIn_73 ⟨(show 0 + (pt st N9 - pt c1.1 N9) + (pt c1.1 N9 - pt c8.1 N9) + (pt c8.1 N9 - pt c15.1 N9) + (pt c15.1 N9 - pt c22.1 N9) ≤ pt st N9 + 400 from by omega), (show 0 + (2 * (pt st N9 - pt c1.1 N9)) + (2 * (pt c1.1 N9 - pt c8.1 N9)) + (2 * (pt c8.1 N9 - pt c15.1 N9)) + (2 * (pt c15.1 N9 - pt c22.1 N9)) ≤ 2 * pt st N9 + 800 from by omega)⟩) (fun u61 H locs hw62 S => ?_)
          have S : Sw G A s.heap _ _ ([(h0, .inr (1, [.ref cea, .ref roa, .ref coa, .ref ura, .ref uca, .ref au, .ref ap, .ref al, .ref ar, .ref ae, .int (nI rw9), .int (nI C9), .int (nI fs9), .int (nI tk9)])), (cea, .inl (k 4, 3731, .inr (.inr (.inr (.inr (fun j => adO (c22.1 j)))))))] ++ (tpl k c22.1 N9)) := S
          have hw62 : True := hw62
          show W p l e _ s m _ below meth c H locs _ _ _ (F0 m 76 ls [.long (lZ ((Z (qr * (C9 + 1) + qk)))), .long (lZ ((Z (qi * (C9 + 1) + qj))))])
          refine lv_lmul hx hb d_So_compareIn_76 ?_
          refine lv_aload hx hb d_So_compareIn_77 (lv_at hl 1 rfl) ?_
          refine q_backP (wi := []) (wr := [(h0, .inr (1, [.ref cea, .ref roa, .ref coa, .ref ura, .ref uca, .ref au, .ref ap, .ref al, .ref ar, .ref ae, .int (nI rw9), .int (nI C9), .int (nI fs9), .int (nI tk9)])), (cea, .inl (k 4, 3731, .inr (.inr (.inr (.inr (fun j => adO (c22.1 j)))))))]) S hA [] [0, 1] rfl rfl (by decide) (by decide) (va_runV (As := []) (rest := [.long ((lZ ((Z (qi * (C9 + 1) + qj)))) * (lZ ((Z (qr * (C9 + 1) + qk)))))]) ⟨hx, hb, C.2.2.1, C.2.2.2.1, C.2.2.2.2.1⟩ (g_P_small l G k _ _ (qi * (C9 + 1) + qk) c15.2 (Z (qi * (C9 + 1) + qk)) N9 c22.1 Z V0 hN hh24.1 (by omega) (ke26.at at18) rfl (show V0 (qi * (C9 + 1) + qk) from by unfold V0; omega) (smB_1 hc54)) (k_virt (n := 0) C wc_Wh_small rfl rfl wz_Wh wm_So_120 wn_Wh_small ws_Wh_small (by decide +kernel) ⟨(Nat.le_of_ble_eq_true rfl), (Nat.le_of_ble_eq_true rfl)⟩) (pr_nowVGP K S [] (by decide) rfl (Classical.choose_spec (at_mem (ke26.at at18) (show qi * (C9 + 1) + qk < N9 by omega))) rfl) rfl rfl hl.1 rfl (lv_room (Nat.le_of_ble_eq_true rfl)) d_So_compareIn_79 ⟨(show 0 + (pt st N9 - pt c1.1 N9) + (pt c1.1 N9 - pt c8.1 N9) + (pt c8.1 N9 - pt c15.1 N9) + (pt c15.1 N9 - pt c22.1 N9) ≤ pt st N9 + 400 from by omega), (show 0 + (2 * (pt st N9 - pt c1.1 N9)) + (2 * (pt c1.1 N9 - pt c8.1 N9)) + (2 * (pt c8.1 N9 - pt c15.1 N9)) + (2 * (pt c15.1 N9 - pt c22.1 N9)) ≤ 2 * pt st N9 + 800 from by omega)⟩) (fun u63 H locs hw64 S => ?_)
          have S : Sw G A s.heap _ _ ([(h0, .inr (1, [.ref cea, .ref roa, .ref coa, .ref ura, .ref uca, .ref au, .ref ap, .ref al, .ref ar, .ref ae, .int (nI rw9), .int (nI C9), .int (nI fs9), .int (nI tk9)])), (cea, .inl (k 4, 3731, .inr (.inr (.inr (.inr (fun j => adO (c22.1 j)))))))] ++ (tpl k c22.1 N9)) := S
          have hw64 : True := hw64
          show W p l e _ s m _ below meth c H locs _ _ _ (F0 m 82 ls [.long (lZ ((Z (qi * (C9 + 1) + qk)))), .long ((lZ ((Z (qi * (C9 + 1) + qj)))) * (lZ ((Z (qr * (C9 + 1) + qk)))))])
          refine lv_aload hx hb d_So_compareIn_82 (lv_at hl 0 rfl) ?_
          refine q_backP (wi := []) (wr := [(h0, .inr (1, [.ref cea, .ref roa, .ref coa, .ref ura, .ref uca, .ref au, .ref ap, .ref al, .ref ar, .ref ae, .int (nI rw9), .int (nI C9), .int (nI fs9), .int (nI tk9)])), (cea, .inl (k 4, 3731, .inr (.inr (.inr (.inr (fun j => adO (c22.1 j)))))))]) S hA [] [0, 1] rfl rfl (by decide) (by decide) (va_runV (As := []) (rest := [.long (lZ ((Z (qi * (C9 + 1) + qk)))), .long ((lZ ((Z (qi * (C9 + 1) + qj)))) * (lZ ((Z (qr * (C9 + 1) + qk)))))]) ⟨hx, hb, C.2.2.1, C.2.2.2.1, C.2.2.2.2.1⟩ (g_P_small l G k _ _ (qr * (C9 + 1) + qj) c22.2 (Z (qr * (C9 + 1) + qj)) N9 c22.1 Z V0 hN hh24.1 (by omega) at25 rfl (show V0 (qr * (C9 + 1) + qj) from by unfold V0; omega) (smB_1 hc58)) (k_virt (n := 0) C wc_Wh_small rfl rfl wz_Wh wm_So_120 wn_Wh_small ws_Wh_small (by decide +kernel) ⟨(Nat.le_of_ble_eq_true rfl), (Nat.le_of_ble_eq_true rfl)⟩) (pr_nowVGP K S [] (by decide) rfl (Classical.choose_spec (at_mem at25 (show qr * (C9 + 1) + qj < N9 by omega))) rfl) rfl rfl hl.1 rfl (lv_room (Nat.le_of_ble_eq_true rfl)) d_So_compareIn_84 ⟨(show 0 + (pt st N9 - pt c1.1 N9) + (pt c1.1 N9 - pt c8.1 N9) + (pt c8.1 N9 - pt c15.1 N9) + (pt c15.1 N9 - pt c22.1 N9) ≤ pt st N9 + 400 from by omega), (show 0 + (2 * (pt st N9 - pt c1.1 N9)) + (2 * (pt c1.1 N9 - pt c8.1 N9)) + (2 * (pt c8.1 N9 - pt c15.1 N9)) + (2 * (pt c15.1 N9 - pt c22.1 N9)) ≤ 2 * pt st N9 + 800 from by omega)⟩) (fun u65 H locs hw66 S => ?_)
          have S : Sw G A s.heap _ _ ([(h0, .inr (1, [.ref cea, .ref roa, .ref coa, .ref ura, .ref uca, .ref au, .ref ap, .ref al, .ref ar, .ref ae, .int (nI rw9), .int (nI C9), .int (nI fs9), .int (nI tk9)])), (cea, .inl (k 4, 3731, .inr (.inr (.inr (.inr (fun j => adO (c22.1 j)))))))] ++ (tpl k c22.1 N9)) := S
          have hw66 : True := hw66
          show W p l e _ s m _ below meth c H locs _ _ _ (F0 m 87 ls [.long (lZ ((Z (qr * (C9 + 1) + qj)))), .long (lZ ((Z (qi * (C9 + 1) + qk)))), .long ((lZ ((Z (qi * (C9 + 1) + qj)))) * (lZ ((Z (qr * (C9 + 1) + qk)))))])
          refine lv_lmul hx hb d_So_compareIn_87 ?_
          refine q_backP (wi := []) (wr := [(h0, .inr (1, [.ref cea, .ref roa, .ref coa, .ref ura, .ref uca, .ref au, .ref ap, .ref al, .ref ar, .ref ae, .int (nI rw9), .int (nI C9), .int (nI fs9), .int (nI tk9)])), (cea, .inl (k 4, 3731, .inr (.inr (.inr (.inr (fun j => adO (c22.1 j)))))))]) S hA [] [0, 1] rfl rfl (by decide) (by decide) (va_runS (As := [.long ((lZ ((Z (qi * (C9 + 1) + qj)))) * (lZ ((Z (qr * (C9 + 1) + qk))))), .long ((lZ ((Z (qi * (C9 + 1) + qk)))) * (lZ ((Z (qr * (C9 + 1) + qj)))))]) (rest := []) ⟨hx, hb, C.2.2.1, C.2.2.2.1, C.2.2.2.2.1⟩ (cg_frame (tpl k c22.1 N9) (g_JL_compare l G k _ _ ((lZ ((Z (qi * (C9 + 1) + qj)))) * (lZ ((Z (qr * (C9 + 1) + qk))))) ((lZ ((Z (qi * (C9 + 1) + qk)))) * (lZ ((Z (qr * (C9 + 1) + qj))))))) (k_stat (n := 2) C wc_JL_compare rfl rfl wz_JL wm_So_124 wt_JL_compare (by decide +kernel) ⟨(Nat.le_of_ble_eq_true rfl), (Nat.le_of_ble_eq_true rfl)⟩) (pr_nowGP K S [] (by decide) rfl) rfl rfl hl.1 rfl (lv_room (Nat.le_of_ble_eq_true rfl)) d_So_compareIn_88 ⟨(show 0 + (pt st N9 - pt c1.1 N9) + (pt c1.1 N9 - pt c8.1 N9) + (pt c8.1 N9 - pt c15.1 N9) + (pt c15.1 N9 - pt c22.1 N9) ≤ pt st N9 + 400 from by omega), (show 0 + (2 * (pt st N9 - pt c1.1 N9)) + (2 * (pt c1.1 N9 - pt c8.1 N9)) + (2 * (pt c8.1 N9 - pt c15.1 N9)) + (2 * (pt c15.1 N9 - pt c22.1 N9)) ≤ 2 * pt st N9 + 800 from by omega)⟩) (fun u67 H locs hw68 S => ?_)
          have S : Sw G A s.heap _ _ ([(h0, .inr (1, [.ref cea, .ref roa, .ref coa, .ref ura, .ref uca, .ref au, .ref ap, .ref al, .ref ar, .ref ae, .int (nI rw9), .int (nI C9), .int (nI fs9), .int (nI tk9)])), (cea, .inl (k 4, 3731, .inr (.inr (.inr (.inr (fun j => adO (c22.1 j)))))))] ++ (tpl k c22.1 N9)) := S
          have hw68 : True := hw68
          show W p l e _ s m _ below meth c H locs _ _ _ (F0 m 91 ls [.int (lcI ((lZ ((Z (qi * (C9 + 1) + qj)))) * (lZ ((Z (qr * (C9 + 1) + qk))))) ((lZ ((Z (qi * (C9 + 1) + qk)))) * (lZ ((Z (qr * (C9 + 1) + qj))))))])
          have hfin : hO c22.1 Z := ⟨hh24.1, hh24.2⟩
          exact q_iret C K hsz rfl (c22.1, lcI ((lZ ((Z (qi * (C9 + 1) + qj)))) * (lZ ((Z (qr * (C9 + 1) + qk))))) ((lZ ((Z (qi * (C9 + 1) + qk)))) * (lZ ((Z (qr * (C9 + 1) + qj)))))) rfl (show hO c22.1 Z ∧ keO st c22.1 ∧ pt c22.1 N9 ≤ pt st N9 from ⟨hfin, (((ke5.tr ke12).tr ke19).tr ke26), by omega⟩) (S.subP [0, 1] (by decide) rfl) d_So_compareIn_91 (show 0 + (pt st N9 - pt c1.1 N9) + (pt c1.1 N9 - pt c8.1 N9) + (pt c8.1 N9 - pt c15.1 N9) + (pt c15.1 N9 - pt c22.1 N9) ≤ pt st N9 - pt c22.1 N9 from by omega) (show 0 + (2 * (pt st N9 - pt c1.1 N9)) + (2 * (pt c1.1 N9 - pt c8.1 N9)) + (2 * (pt c8.1 N9 - pt c15.1 N9)) + (2 * (pt c15.1 N9 - pt c22.1 N9)) ≤ 2 * (pt st N9 - pt c22.1 N9) from by omega) (show 0 + (pt st N9 - pt c1.1 N9) + (pt c1.1 N9 - pt c8.1 N9) + (pt c8.1 N9 - pt c15.1 N9) + (pt c15.1 N9 - pt c22.1 N9) ≤ pt st N9 + 400 from by omega) (show 0 + (2 * (pt st N9 - pt c1.1 N9)) + (2 * (pt c1.1 N9 - pt c8.1 N9)) + (2 * (pt c8.1 N9 - pt c15.1 N9)) + (2 * (pt c15.1 N9 - pt c22.1 N9)) ≤ 2 * pt st N9 + 800 from by omega)
def soO (n R : Nat) (ro ur uc : Nat → Int32) : Prop := (∀ v, v < n → ro v = -2 ∨ ∃ r, r < R ∧ ro v = nI r) ∧ (∀ r, r < R → ur r = -2 ∨ ∃ v, v < n ∧ ur r = nI v) ∧ ∀ v, v < n → uc v = -2 ∨ ∃ w, w < n ∧ uc v = nI w
theorem d_So_isDearer_0 : decode c_So_isDearer 0 = .ok (.aload_n 0, 1) := by decide +kernel
theorem d_So_isDearer_1 : decode c_So_isDearer 1 = .ok (.iconst 0, 1) := by decide +kernel
theorem d_So_isDearer_2 : decode c_So_isDearer 2 = .ok (.iload_n 1, 1) := by decide +kernel
theorem d_So_isDearer_3 : decode c_So_isDearer 3 = .ok (.iload_n 2, 1) := by decide +kernel
theorem d_So_isDearer_4 : decode c_So_isDearer 4 = .ok (.iload_n 3, 1) := by decide +kernel
theorem d_So_isDearer_5 : decode c_So_isDearer 5 = .ok (.invokevirtual 112, 3) := by decide +kernel
theorem d_So_isDearer_8 : decode c_So_isDearer 8 = .ok (.istore 4, 2) := by decide +kernel
theorem d_So_isDearer_10 : decode c_So_isDearer 10 = .ok (.iconst 0, 1) := by decide +kernel
theorem d_So_isDearer_11 : decode c_So_isDearer 11 = .ok (.istore 5, 2) := by decide +kernel
theorem d_So_isDearer_13 : decode c_So_isDearer 13 = .ok (.iload 4, 2) := by decide +kernel
theorem d_So_isDearer_15 : decode c_So_isDearer 15 = .ok (.ifCond .ne 115, 3) := by decide +kernel
theorem d_So_isDearer_18 : decode c_So_isDearer 18 = .ok (.iload 5, 2) := by decide +kernel
theorem d_So_isDearer_20 : decode c_So_isDearer 20 = .ok (.aload_n 0, 1) := by decide +kernel
theorem d_So_isDearer_21 : decode c_So_isDearer 21 = .ok (.getfield 51, 3) := by decide +kernel
theorem d_So_isDearer_24 : decode c_So_isDearer 24 = .ok (.aload_n 0, 1) := by decide +kernel
theorem d_So_isDearer_25 : decode c_So_isDearer 25 = .ok (.getfield 59, 3) := by decide +kernel
theorem d_So_isDearer_28 : decode c_So_isDearer 28 = .ok (.iadd, 1) := by decide +kernel
theorem d_So_isDearer_29 : decode c_So_isDearer 29 = .ok (.if_icmp .gt 101, 3) := by decide +kernel
theorem d_So_isDearer_32 : decode c_So_isDearer 32 = .ok (.iload 5, 2) := by decide +kernel
theorem d_So_isDearer_34 : decode c_So_isDearer 34 = .ok (.aload_n 0, 1) := by decide +kernel
theorem d_So_isDearer_35 : decode c_So_isDearer 35 = .ok (.getfield 51, 3) := by decide +kernel
theorem d_So_isDearer_38 : decode c_So_isDearer 38 = .ok (.if_icmp .gt 13, 3) := by decide +kernel
theorem d_So_isDearer_41 : decode c_So_isDearer 41 = .ok (.aload_n 0, 1) := by decide +kernel
theorem d_So_isDearer_42 : decode c_So_isDearer 42 = .ok (.getfield 47, 3) := by decide +kernel
theorem d_So_isDearer_45 : decode c_So_isDearer 45 = .ok (.iload 5, 2) := by decide +kernel
theorem d_So_isDearer_47 : decode c_So_isDearer 47 = .ok (.iadd, 1) := by decide +kernel
theorem d_So_isDearer_48 : decode c_So_isDearer 48 = .ok (.goto 12, 3) := by decide +kernel
theorem d_So_isDearer_51 : decode c_So_isDearer 51 = .ok (.iload 5, 2) := by decide +kernel
theorem d_So_isDearer_53 : decode c_So_isDearer 53 = .ok (.aload_n 0, 1) := by decide +kernel
theorem d_So_isDearer_54 : decode c_So_isDearer 54 = .ok (.getfield 51, 3) := by decide +kernel
theorem d_So_isDearer_57 : decode c_So_isDearer 57 = .ok (.isub, 1) := by decide +kernel
theorem d_So_isDearer_58 : decode c_So_isDearer 58 = .ok (.iconst 1, 1) := by decide +kernel
theorem d_So_isDearer_59 : decode c_So_isDearer 59 = .ok (.isub, 1) := by decide +kernel
theorem d_So_isDearer_60 : decode c_So_isDearer 60 = .ok (.istore 6, 2) := by decide +kernel
theorem d_So_isDearer_62 : decode c_So_isDearer 62 = .ok (.aload_n 0, 1) := by decide +kernel
theorem d_So_isDearer_63 : decode c_So_isDearer 63 = .ok (.getfield 17, 3) := by decide +kernel
theorem d_So_isDearer_66 : decode c_So_isDearer 66 = .ok (.iload 6, 2) := by decide +kernel
theorem d_So_isDearer_68 : decode c_So_isDearer 68 = .ok (.iaload, 1) := by decide +kernel
theorem d_So_isDearer_69 : decode c_So_isDearer 69 = .ok (.bipush (-2), 2) := by decide +kernel
theorem d_So_isDearer_71 : decode c_So_isDearer 71 = .ok (.if_icmp .eq 22, 3) := by decide +kernel
theorem d_So_isDearer_74 : decode c_So_isDearer 74 = .ok (.aload_n 0, 1) := by decide +kernel
theorem d_So_isDearer_75 : decode c_So_isDearer 75 = .ok (.aload_n 0, 1) := by decide +kernel
theorem d_So_isDearer_76 : decode c_So_isDearer 76 = .ok (.getfield 17, 3) := by decide +kernel
theorem d_So_isDearer_79 : decode c_So_isDearer 79 = .ok (.iload 6, 2) := by decide +kernel
theorem d_So_isDearer_81 : decode c_So_isDearer 81 = .ok (.iaload, 1) := by decide +kernel
theorem d_So_isDearer_82 : decode c_So_isDearer 82 = .ok (.iload_n 1, 1) := by decide +kernel
theorem d_So_isDearer_83 : decode c_So_isDearer 83 = .ok (.iload_n 2, 1) := by decide +kernel
theorem d_So_isDearer_84 : decode c_So_isDearer 84 = .ok (.iload_n 3, 1) := by decide +kernel
theorem d_So_isDearer_85 : decode c_So_isDearer 85 = .ok (.invokevirtual 112, 3) := by decide +kernel
theorem d_So_isDearer_88 : decode c_So_isDearer 88 = .ok (.istore 4, 2) := by decide +kernel
theorem d_So_isDearer_90 : decode c_So_isDearer 90 = .ok (.goto 34, 3) := by decide +kernel
theorem d_So_isDearer_93 : decode c_So_isDearer 93 = .ok (.aload_n 0, 1) := by decide +kernel
theorem d_So_isDearer_94 : decode c_So_isDearer 94 = .ok (.getfield 21, 3) := by decide +kernel
theorem d_So_isDearer_97 : decode c_So_isDearer 97 = .ok (.iload 6, 2) := by decide +kernel
theorem d_So_isDearer_99 : decode c_So_isDearer 99 = .ok (.iaload, 1) := by decide +kernel
theorem d_So_isDearer_100 : decode c_So_isDearer 100 = .ok (.iload_n 1, 1) := by decide +kernel
theorem d_So_isDearer_101 : decode c_So_isDearer 101 = .ok (.if_icmp .ne 9, 3) := by decide +kernel
theorem d_So_isDearer_104 : decode c_So_isDearer 104 = .ok (.iconst 1, 1) := by decide +kernel
theorem d_So_isDearer_105 : decode c_So_isDearer 105 = .ok (.istore 4, 2) := by decide +kernel
theorem d_So_isDearer_107 : decode c_So_isDearer 107 = .ok (.goto 17, 3) := by decide +kernel
theorem d_So_isDearer_110 : decode c_So_isDearer 110 = .ok (.aload_n 0, 1) := by decide +kernel
theorem d_So_isDearer_111 : decode c_So_isDearer 111 = .ok (.getfield 21, 3) := by decide +kernel
theorem d_So_isDearer_114 : decode c_So_isDearer 114 = .ok (.iload 6, 2) := by decide +kernel
theorem d_So_isDearer_116 : decode c_So_isDearer 116 = .ok (.iaload, 1) := by decide +kernel
theorem d_So_isDearer_117 : decode c_So_isDearer 117 = .ok (.iload_n 2, 1) := by decide +kernel
theorem d_So_isDearer_118 : decode c_So_isDearer 118 = .ok (.if_icmp .ne 6, 3) := by decide +kernel
theorem d_So_isDearer_121 : decode c_So_isDearer 121 = .ok (.iconst (-1), 1) := by decide +kernel
theorem d_So_isDearer_122 : decode c_So_isDearer 122 = .ok (.istore 4, 2) := by decide +kernel
theorem d_So_isDearer_124 : decode c_So_isDearer 124 = .ok (.iinc 5 1, 3) := by decide +kernel
theorem d_So_isDearer_127 : decode c_So_isDearer 127 = .ok (.goto (-114), 3) := by decide +kernel
theorem d_So_isDearer_130 : decode c_So_isDearer 130 = .ok (.iload 4, 2) := by decide +kernel
theorem d_So_isDearer_132 : decode c_So_isDearer 132 = .ok (.ifCond .le 7, 3) := by decide +kernel
theorem d_So_isDearer_135 : decode c_So_isDearer 135 = .ok (.iconst 1, 1) := by decide +kernel
theorem d_So_isDearer_136 : decode c_So_isDearer 136 = .ok (.goto 4, 3) := by decide +kernel
theorem d_So_isDearer_139 : decode c_So_isDearer 139 = .ok (.iconst 0, 1) := by decide +kernel
theorem d_So_isDearer_140 : decode c_So_isDearer 140 = .ok (.ireturn, 1) := by decide +kernel
set_option maxRecDepth 100000 in
set_option maxHeartbeats 16000000 in
/-- isDearer -/
theorem g_So_isDearer (l : Launch) (G : va_G) (k : Nat → ClassId) (h0 : Nat) (s0 sl : Nat) (qj : Nat) (qk : Nat) (qr : Nat) (cea : Nat) (roa : Nat) (coa : Nat) (ura : Nat) (uca : Nat) (au : Nat) (ap : Nat) (al : Nat) (ar : Nat) (ae : Nat) (rw9 : Nat) (C9 : Nat) (fs9 : Nat) (tk9 : Nat) (ro : Nat → Int32) (co : Nat → Int32) (N9 : Nat) (st : Nat → Option wQ) (Z : Nat → Int) (hN : N9 = 3745) (hh : hO st Z) (hU : atO st 3731 au) (hP : atO st 3732 ap) (hL : atO st 3733 al) (hR : atO st 3734 ar) (hE : atO st 3735 ae) (hC : C9 ≤ 40) (hRw : rw9 ≤ 91) (hro : ∀ v, v < C9 → ro v = -2 ∨ ∃ r, r < rw9 ∧ ro v = nI r) (hfs : fs9 + tk9 < C9) (hqr : qr < rw9) (hqj : qj < C9) (hqk : qk < C9) (hjk : qj ≠ qk) : CG l y_So_isDearer c_So_isDearer 7 (some .boolean) { frames := 5, cells := pt st N9 + 400, slots := 2 * pt st N9 + 800, locals := 159 } [.ref h0, .int (nI qj), .int (nI qk), .int (nI qr)] G k s0 sl ([(h0, .inr (1, [.ref cea, .ref roa, .ref coa, .ref ura, .ref uca, .ref au, .ref ap, .ref al, .ref ar, .ref ae, .int (nI rw9), .int (nI C9), .int (nI fs9), .int (nI tk9)])), (cea, .inl (k 4, 3731, .inr (.inr (.inr (.inr (fun j => adO (st j))))))), (roa, .inl (k 0, 40, .inl ro)), (coa, .inl (k 0, 40, .inl co))] ++ (tpl k st N9)) (fun (u : (Nat → Option wQ) × Nat) => some (.int (nI u.2))) (fun (u : (Nat → Option wQ) × Nat) => hO u.1 Z ∧ keO st u.1 ∧ pt u.1 N9 ≤ pt st N9 ∧ u.2 ≤ 1) (fun (u : (Nat → Option wQ) × Nat) => ([(h0, .inr (1, [.ref cea, .ref roa, .ref coa, .ref ura, .ref uca, .ref au, .ref ap, .ref al, .ref ar, .ref ae, .int (nI rw9), .int (nI C9), .int (nI fs9), .int (nI tk9)])), (cea, .inl (k 4, 3731, .inr (.inr (.inr (.inr (fun j => adO (u.1 j))))))), (roa, .inl (k 0, 40, .inl ro)), (coa, .inl (k 0, 40, .inl co))] ++ (tpl k u.1 N9))) (fun (u : (Nat → Option wQ) × Nat) => pt st N9 - pt u.1 N9) (fun (u : (Nat → Option wQ) × Nat) => 2 * (pt st N9 - pt u.1 N9)) (pt st N9 + 400) (2 * pt st N9 + 800) := by
  refine met_startG (by decide) (Nat.le_of_ble_eq_true rfl) ?_
  intro p e s m below meth c C K hA hsz S ls hl
  generalize va_A ([(h0, .inr (1, [.ref cea, .ref roa, .ref coa, .ref ura, .ref uca, .ref au, .ref ap, .ref al, .ref ar, .ref ae, .int (nI rw9), .int (nI C9), .int (nI fs9), .int (nI tk9)])), (cea, .inl (k 4, 3731, .inr (.inr (.inr (.inr (fun j => adO (st j))))))), (roa, .inl (k 0, 40, .inl ro)), (coa, .inl (k 0, 40, .inl co))] ++ (tpl k st N9)) s0 = A at hA S ⊢
  have hx := C.1
  have hb := C.2.1
  have hl : lv_has ls 7 [(0, .ref h0), (1, .int (nI qj)), (2, .int (nI qk)), (3, .int (nI qr))] := hl
  refine lv_aload_n hx hb d_So_isDearer_0 rfl (lv_at hl 0 rfl) ?_
  refine lv_iconst (v := 0) hx hb d_So_isDearer_1 (by decide) ?_
  refine lv_iload_n hx hb d_So_isDearer_2 rfl (lv_at hl 1 rfl) ?_
  refine lv_iload_n hx hb d_So_isDearer_3 rfl (lv_at hl 2 rfl) ?_
  refine lv_iload_n hx hb d_So_isDearer_4 rfl (lv_at hl 3 rfl) ?_
  refine q_backP (wi := [(h0, .inr (1, [.ref cea, .ref roa, .ref coa, .ref ura, .ref uca, .ref au, .ref ap, .ref al, .ref ar, .ref ae, .int (nI rw9), .int (nI C9), .int (nI fs9), .int (nI tk9)])), (cea, .inl (k 4, 3731, .inr (.inr (.inr (.inr (fun j => adO (st j)))))))]) (wr := [(roa, .inl (k 0, 40, .inl ro)), (coa, .inl (k 0, 40, .inl co))]) S hA [0, 1] [2, 3] rfl rfl (by decide) (by decide) (va_runV (As := [.int 0, .int (nI qj), .int (nI qk), .int (nI qr)]) (rest := []) ⟨hx, hb, C.2.2.1, C.2.2.2.1, C.2.2.2.2.1⟩ (g_So_compareIn l G k h0 _ _ 0 qj qk qr cea roa coa ura uca au ap al ar ae rw9 C9 fs9 tk9 N9 st Z hN ⟨hh.1, hh.2⟩ hU hP hL hR hE (by omega) (by omega) (by omega) (by omega) (by omega) (by omega) (by omega)) (k_virt (n := 4) C wc_So_compareIn rfl rfl wz_So wm_So_112 wn_So_compareIn ws_So_compareIn (by decide +kernel) ⟨(Nat.le_of_ble_eq_true rfl), (Nat.le_of_ble_eq_true rfl)⟩) (pr_nowVGP K S [0, 1] (by decide) rfl (List.mem_append_left _ (List.mem_of_getElem? (i := 0) rfl)) rfl) rfl rfl hl.1 rfl (lv_room (Nat.le_of_ble_eq_true rfl)) d_So_isDearer_5 ⟨(show 0 + (pt st N9 + 400) ≤ pt st N9 + 400 from by omega), (show 0 + (2 * pt st N9 + 800) ≤ 2 * pt st N9 + 800 from by omega)⟩) (fun c1 H locs hw2 S => ?_)
  have S : Sw G A s.heap _ _ ([(roa, .inl (k 0, 40, .inl ro)), (coa, .inl (k 0, 40, .inl co)), (h0, .inr (1, [.ref cea, .ref roa, .ref coa, .ref ura, .ref uca, .ref au, .ref ap, .ref al, .ref ar, .ref ae, .int (nI rw9), .int (nI C9), .int (nI fs9), .int (nI tk9)])), (cea, .inl (k 4, 3731, .inr (.inr (.inr (.inr (fun j => adO (c1.1 j)))))))] ++ (tpl k c1.1 N9)) := S
  have hw2 : hO c1.1 Z ∧ keO st c1.1 ∧ pt c1.1 N9 ≤ pt st N9 := hw2
  show W p l e _ s m _ below meth c H locs _ _ _ (F0 m 8 ls [.int c1.2])
  obtain ⟨hh3, ke4, pt5⟩ := hw2
  refine lv_istore (lv' := [(4, .int c1.2), (0, .ref h0), (1, .int (nI qj)), (2, .int (nI qk)), (3, .int (nI qr))]) hx hb d_So_isDearer_8 hl (by decide) rfl (fun ls hl => ?_)
  refine lv_iconst (v := 0) hx hb d_So_isDearer_10 (by decide) ?_
  refine lv_istore (lv' := [(5, .int 0), (4, .int c1.2), (0, .ref h0), (1, .int (nI qj)), (2, .int (nI qk)), (3, .int (nI qr))]) hx hb d_So_isDearer_11 hl (by decide) rfl (fun ls hl => ?_)
  have hz9 : hO c1.1 Z := ⟨hh3.1, hh3.2⟩
  refine W.widen (show 0 + (pt st N9 - pt c1.1 N9) ≤ pt st N9 - pt c1.1 N9 from by omega) (show 0 + (2 * (pt st N9 - pt c1.1 N9)) ≤ 2 * (pt st N9 - pt c1.1 N9) from by omega) ?_
  have lp : ∀ d9, ∀ (s8 : Nat → Option wQ), ∀ (o8 : Int32), ∀ (i9 : Nat), (tk9 + C9 + 1 - i9) < d9 → (hO s8 Z) → (keO st s8) → (pt s8 N9 ≤ pt st N9) → (i9 ≤ tk9 + C9 + 1) → ∀ (H : Heap) (locs : List Loc), Sw G A s.heap H locs ([(h0, .inr (1, [.ref cea, .ref roa, .ref coa, .ref ura, .ref uca, .ref au, .ref ap, .ref al, .ref ar, .ref ae, .int (nI rw9), .int (nI C9), .int (nI fs9), .int (nI tk9)])), (cea, .inl (k 4, 3731, .inr (.inr (.inr (.inr (fun j => adO (s8 j))))))), (roa, .inl (k 0, 40, .inl ro)), (coa, .inl (k 0, 40, .inl co))] ++ (tpl k s8 N9)) → ∀ ls : Array Slot, lv_has ls 7 [(4, .int o8), (5, .int (nI i9)), (0, .ref h0), (1, .int (nI qj)), (2, .int (nI qk)), (3, .int (nI qr))] → W p l e { frames := 5, cells := pt st N9 + 400, slots := 2 * pt st N9 + 800, locals := 159 } s m [Value.ref h0, Value.int (nI qj), Value.int (nI qk), Value.int (nI qr)].toArray below meth c H locs (pt st N9 - pt s8 N9) (2 * (pt st N9 - pt s8 N9)) (MQ below (va_Qg (fun (u : (Nat → Option wQ) × Nat) => some (.int (nI u.2))) (fun (u : (Nat → Option wQ) × Nat) => hO u.1 Z ∧ keO st u.1 ∧ pt u.1 N9 ≤ pt st N9 ∧ u.2 ≤ 1) (Pog G k A (fun (u : (Nat → Option wQ) × Nat) => ([(h0, .inr (1, [.ref cea, .ref roa, .ref coa, .ref ura, .ref uca, .ref au, .ref ap, .ref al, .ref ar, .ref ae, .int (nI rw9), .int (nI C9), .int (nI fs9), .int (nI tk9)])), (cea, .inl (k 4, 3731, .inr (.inr (.inr (.inr (fun j => adO (u.1 j))))))), (roa, .inl (k 0, 40, .inl ro)), (coa, .inl (k 0, 40, .inl co))] ++ (tpl k u.1 N9))) s0 sl (fun (u : (Nat → Option wQ) × Nat) => pt st N9 - pt u.1 N9) (fun (u : (Nat → Option wQ) × Nat) => 2 * (pt st N9 - pt u.1 N9))) A) [Value.ref h0, Value.int (nI qj), Value.int (nI qk), Value.int (nI qr)].toArray s (pt st N9 + 400) (2 * pt st N9 + 800) A) (F0 m 13 ls []) := by
    intro d9
    induction d9 with
    | zero => intro s8 o8 i9 hm; exact absurd hm (Nat.not_lt_zero _)
    | succ d9 ih_lp =>
      intro s8 o8 i9 hm hh8 hke8 hpt8 hi H locs S ls hl
      refine lv_iload hx hb d_So_isDearer_13 (lv_at hl 0 rfl) ?_
      refine lv_if_ne (tgt := 130) hx hb d_So_isDearer_15 (by decide) (fun hc6 => ?_) (fun hc6 => ?_)
      · refine lv_iload hx hb d_So_isDearer_130 (lv_at hl 0 rfl) ?_
        refine lv_if_le (tgt := 139) hx hb d_So_isDearer_132 (by decide) (fun hc7 => ?_) (fun hc7 => ?_)
        · refine lv_iconst (v := 0) hx hb d_So_isDearer_139 (by decide) ?_
          exact q_iret C K hsz rfl (s8, 0) rfl (show hO s8 Z ∧ keO st s8 ∧ pt s8 N9 ≤ pt st N9 ∧ 0 ≤ 1 from ⟨hh8, hke8, hpt8, by decide⟩) (S.subP [0, 1, 2, 3] (by decide) rfl) d_So_isDearer_140 (show pt st N9 - pt s8 N9 ≤ pt st N9 - pt s8 N9 from by omega) (show 2 * (pt st N9 - pt s8 N9) ≤ 2 * (pt st N9 - pt s8 N9) from by omega) (show pt st N9 - pt s8 N9 ≤ pt st N9 + 400 from by omega) (show 2 * (pt st N9 - pt s8 N9) ≤ 2 * pt st N9 + 800 from by omega)
        · refine lv_iconst (v := 1) hx hb d_So_isDearer_135 (by decide) ?_
          refine lv_goto (tgt := 140) hx hb d_So_isDearer_136 (by decide) ?_
          exact q_iret C K hsz rfl (s8, 1) rfl (show hO s8 Z ∧ keO st s8 ∧ pt s8 N9 ≤ pt st N9 ∧ 1 ≤ 1 from ⟨hh8, hke8, hpt8, by decide⟩) (S.subP [0, 1, 2, 3] (by decide) rfl) d_So_isDearer_140 (show pt st N9 - pt s8 N9 ≤ pt st N9 - pt s8 N9 from by omega) (show 2 * (pt st N9 - pt s8 N9) ≤ 2 * (pt st N9 - pt s8 N9) from by omega) (show pt st N9 - pt s8 N9 ≤ pt st N9 + 400 from by omega) (show 2 * (pt st N9 - pt s8 N9) ≤ 2 * pt st N9 + 800 from by omega)
      · refine lv_iload hx hb d_So_isDearer_18 (lv_at hl 1 rfl) ?_
        refine lv_aload_n hx hb d_So_isDearer_20 rfl (lv_at hl 2 rfl) ?_
        refine r_get C K S 0 rfl rfl clOk_So 13 (by decide) wf_So_51 (v := .int (nI tk9)) rfl d_So_isDearer_21 ?_
        refine lv_aload_n hx hb d_So_isDearer_24 rfl (lv_at hl 2 rfl) ?_
        refine r_get C K S 0 rfl rfl clOk_So 11 (by decide) wf_So_59 (v := .int (nI C9)) rfl d_So_isDearer_25 ?_
        refine z_iadd (x := nI tk9) (y := nI C9) (v := nI (tk9 + C9)) hx hb d_So_isDearer_28 (nI_add tk9 C9) ?_
        refine z_icmp_gt (a := i9) (b := (tk9 + C9)) (tgt := 130) hx hb d_So_isDearer_29 (by decide) (by omega) (by omega) (fun hc8 => ?_) (fun hc8 => ?_)
        · refine lv_iload hx hb d_So_isDearer_130 (lv_at hl 0 rfl) ?_
          refine lv_if_le (tgt := 139) hx hb d_So_isDearer_132 (by decide) (fun hc9 => ?_) (fun hc9 => ?_)
          · refine lv_iconst (v := 0) hx hb d_So_isDearer_139 (by decide) ?_
            exact q_iret C K hsz rfl (s8, 0) rfl (show hO s8 Z ∧ keO st s8 ∧ pt s8 N9 ≤ pt st N9 ∧ 0 ≤ 1 from ⟨hh8, hke8, hpt8, by decide⟩) (S.subP [0, 1, 2, 3] (by decide) rfl) d_So_isDearer_140 (show pt st N9 - pt s8 N9 ≤ pt st N9 - pt s8 N9 from by omega) (show 2 * (pt st N9 - pt s8 N9) ≤ 2 * (pt st N9 - pt s8 N9) from by omega) (show pt st N9 - pt s8 N9 ≤ pt st N9 + 400 from by omega) (show 2 * (pt st N9 - pt s8 N9) ≤ 2 * pt st N9 + 800 from by omega)
          · refine lv_iconst (v := 1) hx hb d_So_isDearer_135 (by decide) ?_
            refine lv_goto (tgt := 140) hx hb d_So_isDearer_136 (by decide) ?_
            exact q_iret C K hsz rfl (s8, 1) rfl (show hO s8 Z ∧ keO st s8 ∧ pt s8 N9 ≤ pt st N9 ∧ 1 ≤ 1 from ⟨hh8, hke8, hpt8, by decide⟩) (S.subP [0, 1, 2, 3] (by decide) rfl) d_So_isDearer_140 (show pt st N9 - pt s8 N9 ≤ pt st N9 - pt s8 N9 from by omega) (show 2 * (pt st N9 - pt s8 N9) ≤ 2 * (pt st N9 - pt s8 N9) from by omega) (show pt st N9 - pt s8 N9 ≤ pt st N9 + 400 from by omega) (show 2 * (pt st N9 - pt s8 N9) ≤ 2 * pt st N9 + 800 from by omega)
        · refine lv_iload hx hb d_So_isDearer_32 (lv_at hl 1 rfl) ?_
          refine lv_aload_n hx hb d_So_isDearer_34 rfl (lv_at hl 2 rfl) ?_
          refine r_get C K S 0 rfl rfl clOk_So 13 (by decide) wf_So_51 (v := .int (nI tk9)) rfl d_So_isDearer_35 ?_
          refine z_icmp_gt (a := i9) (b := tk9) (tgt := 51) hx hb d_So_isDearer_38 (by decide) (by omega) (by omega) (fun hc10 => ?_) (fun hc10 => ?_)
          · refine lv_iload hx hb d_So_isDearer_51 (lv_at hl 1 rfl) ?_
            refine lv_aload_n hx hb d_So_isDearer_53 rfl (lv_at hl 2 rfl) ?_
            refine r_get C K S 0 rfl rfl clOk_So 13 (by decide) wf_So_51 (v := .int (nI tk9)) rfl d_So_isDearer_54 ?_
            refine z_isub (x := nI i9) (y := nI tk9) (v := nI (i9 - tk9)) hx hb d_So_isDearer_57 (pk_sub (a := i9) (b := tk9) (by omega)) ?_
            refine lv_iconst (v := 1) hx hb d_So_isDearer_58 (by decide) ?_
            refine z_isub (x := nI (i9 - tk9)) (y := 1) (v := nI (i9 - tk9 - 1)) hx hb d_So_isDearer_59 (pk_sub (a := (i9 - tk9)) (b := 1) (by omega)) ?_
            refine lv_istore (lv' := [(6, .int (nI (i9 - tk9 - 1))), (4, .int o8), (5, .int (nI i9)), (0, .ref h0), (1, .int (nI qj)), (2, .int (nI qk)), (3, .int (nI qr))]) hx hb d_So_isDearer_60 hl (by decide) rfl (fun ls hl => ?_)
            refine lv_aload_n hx hb d_So_isDearer_62 rfl (lv_at hl 3 rfl) ?_
            refine r_get C K S 0 rfl rfl clOk_So 1 (by decide) wf_So_17 (v := .ref roa) rfl d_So_isDearer_63 ?_
            refine lv_iload hx hb d_So_isDearer_66 (lv_at hl 0 rfl) ?_
            refine r_iald C K S 2 rfl (i := nI (i9 - tk9 - 1)) (show vp_in (nI (i9 - tk9 - 1)) _ from vp_in_nI (n := (i9 - tk9 - 1)) (by omega) (by decide)) (v := ro (i9 - tk9 - 1)) (by rw [nI_clamp (by omega)]) d_So_isDearer_68 ?_
            refine lv_bipush (v := (-2)) hx hb d_So_isDearer_69 (by decide) ?_
            refine lv_icmp_eq (tgt := 93) hx hb d_So_isDearer_71 (by decide) (fun hc11 => ?_) (fun hc11 => ?_)
            · refine lv_aload_n hx hb d_So_isDearer_93 rfl (lv_at hl 3 rfl) ?_
              refine r_get C K S 0 rfl rfl clOk_So 2 (by decide) wf_So_21 (v := .ref coa) rfl d_So_isDearer_94 ?_
              refine lv_iload hx hb d_So_isDearer_97 (lv_at hl 0 rfl) ?_
              refine r_iald C K S 3 rfl (i := nI (i9 - tk9 - 1)) (show vp_in (nI (i9 - tk9 - 1)) _ from vp_in_nI (n := (i9 - tk9 - 1)) (by omega) (by decide)) (v := co (i9 - tk9 - 1)) (by rw [nI_clamp (by omega)]) d_So_isDearer_99 ?_
              refine lv_iload_n hx hb d_So_isDearer_100 rfl (lv_at hl 4 rfl) ?_
              refine lv_icmp_ne (tgt := 110) hx hb d_So_isDearer_101 (by decide) (fun hc12 => ?_) (fun hc12 => ?_)
              · refine lv_aload_n hx hb d_So_isDearer_110 rfl (lv_at hl 3 rfl) ?_
                refine r_get C K S 0 rfl rfl clOk_So 2 (by decide) wf_So_21 (v := .ref coa) rfl d_So_isDearer_111 ?_
                refine lv_iload hx hb d_So_isDearer_114 (lv_at hl 0 rfl) ?_
                refine r_iald C K S 3 rfl (i := nI (i9 - tk9 - 1)) (show vp_in (nI (i9 - tk9 - 1)) _ from vp_in_nI (n := (i9 - tk9 - 1)) (by omega) (by decide)) (v := co (i9 - tk9 - 1)) (by rw [nI_clamp (by omega)]) d_So_isDearer_116 ?_
                refine lv_iload_n hx hb d_So_isDearer_117 rfl (lv_at hl 5 rfl) ?_
                refine lv_icmp_ne (tgt := 124) hx hb d_So_isDearer_118 (by decide) (fun hc13 => ?_) (fun hc13 => ?_)
                · refine lv_iinc (v := nI (i9 + 1)) (lv' := [(5, .int (nI (i9 + 1))), (6, .int (nI (i9 - tk9 - 1))), (4, .int o8), (0, .ref h0), (1, .int (nI qj)), (2, .int (nI qk)), (3, .int (nI qr))]) hx hb d_So_isDearer_124 hl (k := 2) rfl (show nI i9 + Int32.ofInt 1 = nI (i9 + 1) from (nI_add i9 1).trans (congrArg nI (by omega))) (by decide) rfl (fun ls hl => ?_)
                  refine lv_goto (tgt := 13) hx hb d_So_isDearer_127 (by decide) ?_
                  have hq8 : hO s8 Z := ⟨hh8.1, hh8.2⟩
                  exact ih_lp s8 o8 (i9 + 1) (by omega) hq8 hke8 (by omega) (by omega) _ _ (S.subP [0, 1, 2, 3] (by decide) rfl) ls (lv_sub hl [2, 0, 3, 4, 5, 6] rfl)
                · refine lv_iconst (v := (-1)) hx hb d_So_isDearer_121 (by decide) ?_
                  refine lv_istore (lv' := [(4, .int (-1)), (6, .int (nI (i9 - tk9 - 1))), (5, .int (nI i9)), (0, .ref h0), (1, .int (nI qj)), (2, .int (nI qk)), (3, .int (nI qr))]) hx hb d_So_isDearer_122 hl (by decide) rfl (fun ls hl => ?_)
                  refine lv_iinc (v := nI (i9 + 1)) (lv' := [(5, .int (nI (i9 + 1))), (4, .int (-1)), (6, .int (nI (i9 - tk9 - 1))), (0, .ref h0), (1, .int (nI qj)), (2, .int (nI qk)), (3, .int (nI qr))]) hx hb d_So_isDearer_124 hl (k := 2) rfl (show nI i9 + Int32.ofInt 1 = nI (i9 + 1) from (nI_add i9 1).trans (congrArg nI (by omega))) (by decide) rfl (fun ls hl => ?_)
                  refine lv_goto (tgt := 13) hx hb d_So_isDearer_127 (by decide) ?_
                  have hq8 : hO s8 Z := ⟨hh8.1, hh8.2⟩
                  exact ih_lp s8 (-1) (i9 + 1) (by omega) hq8 hke8 (by omega) (by omega) _ _ (S.subP [0, 1, 2, 3] (by decide) rfl) ls (lv_sub hl [1, 0, 3, 4, 5, 6] rfl)
              · refine lv_iconst (v := 1) hx hb d_So_isDearer_104 (by decide) ?_
                refine lv_istore (lv' := [(4, .int 1), (6, .int (nI (i9 - tk9 - 1))), (5, .int (nI i9)), (0, .ref h0), (1, .int (nI qj)), (2, .int (nI qk)), (3, .int (nI qr))]) hx hb d_So_isDearer_105 hl (by decide) rfl (fun ls hl => ?_)
                refine lv_goto (tgt := 124) hx hb d_So_isDearer_107 (by decide) ?_
                refine lv_iinc (v := nI (i9 + 1)) (lv' := [(5, .int (nI (i9 + 1))), (4, .int 1), (6, .int (nI (i9 - tk9 - 1))), (0, .ref h0), (1, .int (nI qj)), (2, .int (nI qk)), (3, .int (nI qr))]) hx hb d_So_isDearer_124 hl (k := 2) rfl (show nI i9 + Int32.ofInt 1 = nI (i9 + 1) from (nI_add i9 1).trans (congrArg nI (by omega))) (by decide) rfl (fun ls hl => ?_)
                refine lv_goto (tgt := 13) hx hb d_So_isDearer_127 (by decide) ?_
                have hq8 : hO s8 Z := ⟨hh8.1, hh8.2⟩
                exact ih_lp s8 1 (i9 + 1) (by omega) hq8 hke8 (by omega) (by omega) _ _ (S.subP [0, 1, 2, 3] (by decide) rfl) ls (lv_sub hl [1, 0, 3, 4, 5, 6] rfl)
            · obtain ⟨r8, l8, e8⟩ := (hro _ (show (i9 - tk9 - 1) < C9 by omega)).resolve_left hc11
              refine lv_aload_n hx hb d_So_isDearer_74 rfl (lv_at hl 3 rfl) ?_
              refine lv_aload_n hx hb d_So_isDearer_75 rfl (lv_at hl 3 rfl) ?_
              refine r_get C K S 0 rfl rfl clOk_So 1 (by decide) wf_So_17 (v := .ref roa) rfl d_So_isDearer_76 ?_
              refine lv_iload hx hb d_So_isDearer_79 (lv_at hl 0 rfl) ?_
              refine r_iald C K S 2 rfl (i := nI (i9 - tk9 - 1)) (show vp_in (nI (i9 - tk9 - 1)) _ from vp_in_nI (n := (i9 - tk9 - 1)) (by omega) (by decide)) (v := ro (i9 - tk9 - 1)) (by rw [nI_clamp (by omega)]) d_So_isDearer_81 ?_
              refine z_topi (y := nI r8) e8 ?_
              refine lv_iload_n hx hb d_So_isDearer_82 rfl (lv_at hl 4 rfl) ?_
              refine lv_iload_n hx hb d_So_isDearer_83 rfl (lv_at hl 5 rfl) ?_
              refine lv_iload_n hx hb d_So_isDearer_84 rfl (lv_at hl 6 rfl) ?_
              refine q_backP (wi := [(h0, .inr (1, [.ref cea, .ref roa, .ref coa, .ref ura, .ref uca, .ref au, .ref ap, .ref al, .ref ar, .ref ae, .int (nI rw9), .int (nI C9), .int (nI fs9), .int (nI tk9)])), (cea, .inl (k 4, 3731, .inr (.inr (.inr (.inr (fun j => adO (s8 j)))))))]) (wr := [(roa, .inl (k 0, 40, .inl ro)), (coa, .inl (k 0, 40, .inl co))]) S hA [0, 1] [2, 3] rfl rfl (by decide) (by decide) (va_runV (As := [.int (nI r8), .int (nI qj), .int (nI qk), .int (nI qr)]) (rest := []) ⟨hx, hb, C.2.2.1, C.2.2.2.1, C.2.2.2.2.1⟩ (g_So_compareIn l G k h0 _ _ r8 qj qk qr cea roa coa ura uca au ap al ar ae rw9 C9 fs9 tk9 N9 s8 Z hN ⟨hh8.1, hh8.2⟩ (hke8.at hU) (hke8.at hP) (hke8.at hL) (hke8.at hR) (hke8.at hE) (by omega) (by omega) (by omega) (by omega) (by omega) (by omega) (by omega)) (k_virt (n := 4) C wc_So_compareIn rfl rfl wz_So wm_So_112 wn_So_compareIn ws_So_compareIn (by decide +kernel) ⟨(Nat.le_of_ble_eq_true rfl), (Nat.le_of_ble_eq_true rfl)⟩) (pr_nowVGP K S [0, 1] (by decide) rfl (List.mem_append_left _ (List.mem_of_getElem? (i := 0) rfl)) rfl) rfl rfl hl.1 rfl (lv_room (Nat.le_of_ble_eq_true rfl)) d_So_isDearer_85 ⟨(show pt st N9 - pt s8 N9 + (pt s8 N9 + 400) ≤ pt st N9 + 400 from by omega), (show 2 * (pt st N9 - pt s8 N9) + (2 * pt s8 N9 + 800) ≤ 2 * pt st N9 + 800 from by omega)⟩) (fun c14 H locs hw15 S => ?_)
              have S : Sw G A s.heap _ _ ([(roa, .inl (k 0, 40, .inl ro)), (coa, .inl (k 0, 40, .inl co)), (h0, .inr (1, [.ref cea, .ref roa, .ref coa, .ref ura, .ref uca, .ref au, .ref ap, .ref al, .ref ar, .ref ae, .int (nI rw9), .int (nI C9), .int (nI fs9), .int (nI tk9)])), (cea, .inl (k 4, 3731, .inr (.inr (.inr (.inr (fun j => adO (c14.1 j)))))))] ++ (tpl k c14.1 N9)) := S
              have hw15 : hO c14.1 Z ∧ keO s8 c14.1 ∧ pt c14.1 N9 ≤ pt s8 N9 := hw15
              show W p l e _ s m _ below meth c H locs _ _ _ (F0 m 88 ls [.int c14.2])
              obtain ⟨hh16, ke17, pt18⟩ := hw15
              refine lv_istore (lv' := [(4, .int c14.2), (6, .int (nI (i9 - tk9 - 1))), (5, .int (nI i9)), (0, .ref h0), (1, .int (nI qj)), (2, .int (nI qk)), (3, .int (nI qr))]) hx hb d_So_isDearer_88 hl (by decide) rfl (fun ls hl => ?_)
              refine lv_goto (tgt := 124) hx hb d_So_isDearer_90 (by decide) ?_
              refine lv_iinc (v := nI (i9 + 1)) (lv' := [(5, .int (nI (i9 + 1))), (4, .int c14.2), (6, .int (nI (i9 - tk9 - 1))), (0, .ref h0), (1, .int (nI qj)), (2, .int (nI qk)), (3, .int (nI qr))]) hx hb d_So_isDearer_124 hl (k := 2) rfl (show nI i9 + Int32.ofInt 1 = nI (i9 + 1) from (nI_add i9 1).trans (congrArg nI (by omega))) (by decide) rfl (fun ls hl => ?_)
              refine lv_goto (tgt := 13) hx hb d_So_isDearer_127 (by decide) ?_
              have hq8 : hO c14.1 Z := ⟨hh16.1, hh16.2⟩
              refine W.widen (show pt st N9 - pt s8 N9 + (pt s8 N9 - pt c14.1 N9) ≤ pt st N9 - pt c14.1 N9 from by omega) (show 2 * (pt st N9 - pt s8 N9) + (2 * (pt s8 N9 - pt c14.1 N9)) ≤ 2 * (pt st N9 - pt c14.1 N9) from by omega) ?_
              exact ih_lp c14.1 c14.2 (i9 + 1) (by omega) hq8 (hke8.tr ke17) (by omega) (by omega) _ _ (S.subP [2, 3, 0, 1] (by decide) rfl) ls (lv_sub hl [1, 0, 3, 4, 5, 6] rfl)
          · refine lv_aload_n hx hb d_So_isDearer_41 rfl (lv_at hl 2 rfl) ?_
            refine r_get C K S 0 rfl rfl clOk_So 12 (by decide) wf_So_47 (v := .int (nI fs9)) rfl d_So_isDearer_42 ?_
            refine lv_iload hx hb d_So_isDearer_45 (lv_at hl 1 rfl) ?_
            refine z_iadd (x := nI fs9) (y := nI i9) (v := nI (fs9 + i9)) hx hb d_So_isDearer_47 (nI_add fs9 i9) ?_
            refine lv_goto (tgt := 60) hx hb d_So_isDearer_48 (by decide) ?_
            refine lv_istore (lv' := [(6, .int (nI (fs9 + i9))), (4, .int o8), (5, .int (nI i9)), (0, .ref h0), (1, .int (nI qj)), (2, .int (nI qk)), (3, .int (nI qr))]) hx hb d_So_isDearer_60 hl (by decide) rfl (fun ls hl => ?_)
            refine lv_aload_n hx hb d_So_isDearer_62 rfl (lv_at hl 3 rfl) ?_
            refine r_get C K S 0 rfl rfl clOk_So 1 (by decide) wf_So_17 (v := .ref roa) rfl d_So_isDearer_63 ?_
            refine lv_iload hx hb d_So_isDearer_66 (lv_at hl 0 rfl) ?_
            refine r_iald C K S 2 rfl (i := nI (fs9 + i9)) (show vp_in (nI (fs9 + i9)) _ from vp_in_nI (n := (fs9 + i9)) (by omega) (by decide)) (v := ro (fs9 + i9)) (by rw [nI_clamp (by omega)]) d_So_isDearer_68 ?_
            refine lv_bipush (v := (-2)) hx hb d_So_isDearer_69 (by decide) ?_
            refine lv_icmp_eq (tgt := 93) hx hb d_So_isDearer_71 (by decide) (fun hc19 => ?_) (fun hc19 => ?_)
            · refine lv_aload_n hx hb d_So_isDearer_93 rfl (lv_at hl 3 rfl) ?_
              refine r_get C K S 0 rfl rfl clOk_So 2 (by decide) wf_So_21 (v := .ref coa) rfl d_So_isDearer_94 ?_
              refine lv_iload hx hb d_So_isDearer_97 (lv_at hl 0 rfl) ?_
              refine r_iald C K S 3 rfl (i := nI (fs9 + i9)) (show vp_in (nI (fs9 + i9)) _ from vp_in_nI (n := (fs9 + i9)) (by omega) (by decide)) (v := co (fs9 + i9)) (by rw [nI_clamp (by omega)]) d_So_isDearer_99 ?_
              refine lv_iload_n hx hb d_So_isDearer_100 rfl (lv_at hl 4 rfl) ?_
              refine lv_icmp_ne (tgt := 110) hx hb d_So_isDearer_101 (by decide) (fun hc20 => ?_) (fun hc20 => ?_)
              · refine lv_aload_n hx hb d_So_isDearer_110 rfl (lv_at hl 3 rfl) ?_
                refine r_get C K S 0 rfl rfl clOk_So 2 (by decide) wf_So_21 (v := .ref coa) rfl d_So_isDearer_111 ?_
                refine lv_iload hx hb d_So_isDearer_114 (lv_at hl 0 rfl) ?_
                refine r_iald C K S 3 rfl (i := nI (fs9 + i9)) (show vp_in (nI (fs9 + i9)) _ from vp_in_nI (n := (fs9 + i9)) (by omega) (by decide)) (v := co (fs9 + i9)) (by rw [nI_clamp (by omega)]) d_So_isDearer_116 ?_
                refine lv_iload_n hx hb d_So_isDearer_117 rfl (lv_at hl 5 rfl) ?_
                refine lv_icmp_ne (tgt := 124) hx hb d_So_isDearer_118 (by decide) (fun hc21 => ?_) (fun hc21 => ?_)
                · refine lv_iinc (v := nI (i9 + 1)) (lv' := [(5, .int (nI (i9 + 1))), (6, .int (nI (fs9 + i9))), (4, .int o8), (0, .ref h0), (1, .int (nI qj)), (2, .int (nI qk)), (3, .int (nI qr))]) hx hb d_So_isDearer_124 hl (k := 2) rfl (show nI i9 + Int32.ofInt 1 = nI (i9 + 1) from (nI_add i9 1).trans (congrArg nI (by omega))) (by decide) rfl (fun ls hl => ?_)
                  refine lv_goto (tgt := 13) hx hb d_So_isDearer_127 (by decide) ?_
                  have hq8 : hO s8 Z := ⟨hh8.1, hh8.2⟩
                  exact ih_lp s8 o8 (i9 + 1) (by omega) hq8 hke8 (by omega) (by omega) _ _ (S.subP [0, 1, 2, 3] (by decide) rfl) ls (lv_sub hl [2, 0, 3, 4, 5, 6] rfl)
                · refine lv_iconst (v := (-1)) hx hb d_So_isDearer_121 (by decide) ?_
                  refine lv_istore (lv' := [(4, .int (-1)), (6, .int (nI (fs9 + i9))), (5, .int (nI i9)), (0, .ref h0), (1, .int (nI qj)), (2, .int (nI qk)), (3, .int (nI qr))]) hx hb d_So_isDearer_122 hl (by decide) rfl (fun ls hl => ?_)
                  refine lv_iinc (v := nI (i9 + 1)) (lv' := [(5, .int (nI (i9 + 1))), (4, .int (-1)), (6, .int (nI (fs9 + i9))), (0, .ref h0), (1, .int (nI qj)), (2, .int (nI qk)), (3, .int (nI qr))]) hx hb d_So_isDearer_124 hl (k := 2) rfl (show nI i9 + Int32.ofInt 1 = nI (i9 + 1) from (nI_add i9 1).trans (congrArg nI (by omega))) (by decide) rfl (fun ls hl => ?_)
                  refine lv_goto (tgt := 13) hx hb d_So_isDearer_127 (by decide) ?_
                  have hq8 : hO s8 Z := ⟨hh8.1, hh8.2⟩
                  exact ih_lp s8 (-1) (i9 + 1) (by omega) hq8 hke8 (by omega) (by omega) _ _ (S.subP [0, 1, 2, 3] (by decide) rfl) ls (lv_sub hl [1, 0, 3, 4, 5, 6] rfl)
              · refine lv_iconst (v := 1) hx hb d_So_isDearer_104 (by decide) ?_
                refine lv_istore (lv' := [(4, .int 1), (6, .int (nI (fs9 + i9))), (5, .int (nI i9)), (0, .ref h0), (1, .int (nI qj)), (2, .int (nI qk)), (3, .int (nI qr))]) hx hb d_So_isDearer_105 hl (by decide) rfl (fun ls hl => ?_)
                refine lv_goto (tgt := 124) hx hb d_So_isDearer_107 (by decide) ?_
                refine lv_iinc (v := nI (i9 + 1)) (lv' := [(5, .int (nI (i9 + 1))), (4, .int 1), (6, .int (nI (fs9 + i9))), (0, .ref h0), (1, .int (nI qj)), (2, .int (nI qk)), (3, .int (nI qr))]) hx hb d_So_isDearer_124 hl (k := 2) rfl (show nI i9 + Int32.ofInt 1 = nI (i9 + 1) from (nI_add i9 1).trans (congrArg nI (by omega))) (by decide) rfl (fun ls hl => ?_)
                refine lv_goto (tgt := 13) hx hb d_So_isDearer_127 (by decide) ?_
                have hq8 : hO s8 Z := ⟨hh8.1, hh8.2⟩
                exact ih_lp s8 1 (i9 + 1) (by omega) hq8 hke8 (by omega) (by omega) _ _ (S.subP [0, 1, 2, 3] (by decide) rfl) ls (lv_sub hl [1, 0, 3, 4, 5, 6] rfl)
            · obtain ⟨r8, l8, e8⟩ := (hro _ (show (fs9 + i9) < C9 by omega)).resolve_left hc19
              refine lv_aload_n hx hb d_So_isDearer_74 rfl (lv_at hl 3 rfl) ?_
              refine lv_aload_n hx hb d_So_isDearer_75 rfl (lv_at hl 3 rfl) ?_
              refine r_get C K S 0 rfl rfl clOk_So 1 (by decide) wf_So_17 (v := .ref roa) rfl d_So_isDearer_76 ?_
              refine lv_iload hx hb d_So_isDearer_79 (lv_at hl 0 rfl) ?_
              refine r_iald C K S 2 rfl (i := nI (fs9 + i9)) (show vp_in (nI (fs9 + i9)) _ from vp_in_nI (n := (fs9 + i9)) (by omega) (by decide)) (v := ro (fs9 + i9)) (by rw [nI_clamp (by omega)]) d_So_isDearer_81 ?_
              refine z_topi (y := nI r8) e8 ?_
              refine lv_iload_n hx hb d_So_isDearer_82 rfl (lv_at hl 4 rfl) ?_
              refine lv_iload_n hx hb d_So_isDearer_83 rfl (lv_at hl 5 rfl) ?_
              refine lv_iload_n hx hb d_So_isDearer_84 rfl (lv_at hl 6 rfl) ?_
              refine q_backP (wi := [(h0, .inr (1, [.ref cea, .ref roa, .ref coa, .ref ura, .ref uca, .ref au, .ref ap, .ref al, .ref ar, .ref ae, .int (nI rw9), .int (nI C9), .int (nI fs9), .int (nI tk9)])), (cea, .inl (k 4, 3731, .inr (.inr (.inr (.inr (fun j => adO (s8 j)))))))]) (wr := [(roa, .inl (k 0, 40, .inl ro)), (coa, .inl (k 0, 40, .inl co))]) S hA [0, 1] [2, 3] rfl rfl (by decide) (by decide) (va_runV (As := [.int (nI r8), .int (nI qj), .int (nI qk), .int (nI qr)]) (rest := []) ⟨hx, hb, C.2.2.1, C.2.2.2.1, C.2.2.2.2.1⟩ (g_So_compareIn l G k h0 _ _ r8 qj qk qr cea roa coa ura uca au ap al ar ae rw9 C9 fs9 tk9 N9 s8 Z hN ⟨hh8.1, hh8.2⟩ (hke8.at hU) (hke8.at hP) (hke8.at hL) (hke8.at hR) (hke8.at hE) (by omega) (by omega) (by omega) (by omega) (by omega) (by omega) (by omega)) (k_virt (n := 4) C wc_So_compareIn rfl rfl wz_So wm_So_112 wn_So_compareIn ws_So_compareIn (by decide +kernel) ⟨(Nat.le_of_ble_eq_true rfl), (Nat.le_of_ble_eq_true rfl)⟩) (pr_nowVGP K S [0, 1] (by decide) rfl (List.mem_append_left _ (List.mem_of_getElem? (i := 0) rfl)) rfl) rfl rfl hl.1 rfl (lv_room (Nat.le_of_ble_eq_true rfl)) d_So_isDearer_85 ⟨(show pt st N9 - pt s8 N9 + (pt s8 N9 + 400) ≤ pt st N9 + 400 from by omega), (show 2 * (pt st N9 - pt s8 N9) + (2 * pt s8 N9 + 800) ≤ 2 * pt st N9 + 800 from by omega)⟩) (fun c22 H locs hw23 S => ?_)
              have S : Sw G A s.heap _ _ ([(roa, .inl (k 0, 40, .inl ro)), (coa, .inl (k 0, 40, .inl co)), (h0, .inr (1, [.ref cea, .ref roa, .ref coa, .ref ura, .ref uca, .ref au, .ref ap, .ref al, .ref ar, .ref ae, .int (nI rw9), .int (nI C9), .int (nI fs9), .int (nI tk9)])), (cea, .inl (k 4, 3731, .inr (.inr (.inr (.inr (fun j => adO (c22.1 j)))))))] ++ (tpl k c22.1 N9)) := S
              have hw23 : hO c22.1 Z ∧ keO s8 c22.1 ∧ pt c22.1 N9 ≤ pt s8 N9 := hw23
              show W p l e _ s m _ below meth c H locs _ _ _ (F0 m 88 ls [.int c22.2])
              obtain ⟨hh24, ke25, pt26⟩ := hw23
              refine lv_istore (lv' := [(4, .int c22.2), (6, .int (nI (fs9 + i9))), (5, .int (nI i9)), (0, .ref h0), (1, .int (nI qj)), (2, .int (nI qk)), (3, .int (nI qr))]) hx hb d_So_isDearer_88 hl (by decide) rfl (fun ls hl => ?_)
              refine lv_goto (tgt := 124) hx hb d_So_isDearer_90 (by decide) ?_
              refine lv_iinc (v := nI (i9 + 1)) (lv' := [(5, .int (nI (i9 + 1))), (4, .int c22.2), (6, .int (nI (fs9 + i9))), (0, .ref h0), (1, .int (nI qj)), (2, .int (nI qk)), (3, .int (nI qr))]) hx hb d_So_isDearer_124 hl (k := 2) rfl (show nI i9 + Int32.ofInt 1 = nI (i9 + 1) from (nI_add i9 1).trans (congrArg nI (by omega))) (by decide) rfl (fun ls hl => ?_)
              refine lv_goto (tgt := 13) hx hb d_So_isDearer_127 (by decide) ?_
              have hq8 : hO c22.1 Z := ⟨hh24.1, hh24.2⟩
              refine W.widen (show pt st N9 - pt s8 N9 + (pt s8 N9 - pt c22.1 N9) ≤ pt st N9 - pt c22.1 N9 from by omega) (show 2 * (pt st N9 - pt s8 N9) + (2 * (pt s8 N9 - pt c22.1 N9)) ≤ 2 * (pt st N9 - pt c22.1 N9) from by omega) ?_
              exact ih_lp c22.1 c22.2 (i9 + 1) (by omega) hq8 (hke8.tr ke25) (by omega) (by omega) _ _ (S.subP [2, 3, 0, 1] (by decide) rfl) ls (lv_sub hl [1, 0, 3, 4, 5, 6] rfl)
  exact lp _ c1.1 c1.2 0 (Nat.lt_succ_self _) hz9 ke4 (by omega) (by omega) _ _ (S.subP [2, 3, 0, 1] (by decide) rfl) ls (lv_sub hl [1, 0, 2, 3, 4, 5] rfl)
theorem d_So_lowestRow_0 : decode c_So_lowestRow 0 = .ok (.bipush (-2), 2) := by decide +kernel
theorem d_So_lowestRow_2 : decode c_So_lowestRow 2 = .ok (.istore_n 1, 1) := by decide +kernel
theorem d_So_lowestRow_3 : decode c_So_lowestRow 3 = .ok (.iconst 1, 1) := by decide +kernel
theorem d_So_lowestRow_4 : decode c_So_lowestRow 4 = .ok (.istore_n 2, 1) := by decide +kernel
theorem d_So_lowestRow_5 : decode c_So_lowestRow 5 = .ok (.iload_n 2, 1) := by decide +kernel
theorem d_So_lowestRow_6 : decode c_So_lowestRow 6 = .ok (.aload_n 0, 1) := by decide +kernel
theorem d_So_lowestRow_7 : decode c_So_lowestRow 7 = .ok (.getfield 70, 3) := by decide +kernel
theorem d_So_lowestRow_10 : decode c_So_lowestRow 10 = .ok (.if_icmp .ge 50, 3) := by decide +kernel
theorem d_So_lowestRow_13 : decode c_So_lowestRow 13 = .ok (.aload_n 0, 1) := by decide +kernel
theorem d_So_lowestRow_14 : decode c_So_lowestRow 14 = .ok (.iload_n 2, 1) := by decide +kernel
theorem d_So_lowestRow_15 : decode c_So_lowestRow 15 = .ok (.aload_n 0, 1) := by decide +kernel
theorem d_So_lowestRow_16 : decode c_So_lowestRow 16 = .ok (.getfield 59, 3) := by decide +kernel
theorem d_So_lowestRow_19 : decode c_So_lowestRow 19 = .ok (.invokevirtual 66, 3) := by decide +kernel
theorem d_So_lowestRow_22 : decode c_So_lowestRow 22 = .ok (.astore_n 3, 1) := by decide +kernel
theorem d_So_lowestRow_23 : decode c_So_lowestRow 23 = .ok (.aload_n 3, 1) := by decide +kernel
theorem d_So_lowestRow_24 : decode c_So_lowestRow 24 = .ok (.invokevirtual 101, 3) := by decide +kernel
theorem d_So_lowestRow_27 : decode c_So_lowestRow 27 = .ok (.ifCond .ge 27, 3) := by decide +kernel
theorem d_So_lowestRow_30 : decode c_So_lowestRow 30 = .ok (.iload_n 1, 1) := by decide +kernel
theorem d_So_lowestRow_31 : decode c_So_lowestRow 31 = .ok (.bipush (-2), 2) := by decide +kernel
theorem d_So_lowestRow_33 : decode c_So_lowestRow 33 = .ok (.if_icmp .eq 19, 3) := by decide +kernel
theorem d_So_lowestRow_36 : decode c_So_lowestRow 36 = .ok (.aload_n 3, 1) := by decide +kernel
theorem d_So_lowestRow_37 : decode c_So_lowestRow 37 = .ok (.aload_n 0, 1) := by decide +kernel
theorem d_So_lowestRow_38 : decode c_So_lowestRow 38 = .ok (.iload_n 1, 1) := by decide +kernel
theorem d_So_lowestRow_39 : decode c_So_lowestRow 39 = .ok (.aload_n 0, 1) := by decide +kernel
theorem d_So_lowestRow_40 : decode c_So_lowestRow 40 = .ok (.getfield 59, 3) := by decide +kernel
theorem d_So_lowestRow_43 : decode c_So_lowestRow 43 = .ok (.invokevirtual 66, 3) := by decide +kernel
theorem d_So_lowestRow_46 : decode c_So_lowestRow 46 = .ok (.invokevirtual 104, 3) := by decide +kernel
theorem d_So_lowestRow_49 : decode c_So_lowestRow 49 = .ok (.ifCond .ge 5, 3) := by decide +kernel
theorem d_So_lowestRow_52 : decode c_So_lowestRow 52 = .ok (.iload_n 2, 1) := by decide +kernel
theorem d_So_lowestRow_53 : decode c_So_lowestRow 53 = .ok (.istore_n 1, 1) := by decide +kernel
theorem d_So_lowestRow_54 : decode c_So_lowestRow 54 = .ok (.iinc 2 1, 3) := by decide +kernel
theorem d_So_lowestRow_57 : decode c_So_lowestRow 57 = .ok (.goto (-52), 3) := by decide +kernel
theorem d_So_lowestRow_60 : decode c_So_lowestRow 60 = .ok (.iload_n 1, 1) := by decide +kernel
theorem d_So_lowestRow_61 : decode c_So_lowestRow 61 = .ok (.ireturn, 1) := by decide +kernel
set_option maxRecDepth 100000 in
set_option maxHeartbeats 16000000 in
/-- lowestRow -/
theorem g_So_lowestRow (l : Launch) (G : va_G) (k : Nat → ClassId) (h0 : Nat) (s0 sl : Nat) (cea : Nat) (roa : Nat) (coa : Nat) (ura : Nat) (uca : Nat) (au : Nat) (ap : Nat) (al : Nat) (ar : Nat) (ae : Nat) (rw9 : Nat) (C9 : Nat) (fs9 : Nat) (tk9 : Nat) (N9 : Nat) (st : Nat → Option wQ) (Z : Nat → Int) (hN : N9 = 3745) (hh : hO st Z) (hU : atO st 3731 au) (hP : atO st 3732 ap) (hL : atO st 3733 al) (hR : atO st 3734 ar) (hE : atO st 3735 ae) (hC : C9 ≤ 40) (hRw : rw9 ≤ 91) : CG l y_So_lowestRow c_So_lowestRow 4 (some .int) { frames := 3, cells := pt st N9 + 400, slots := 2 * pt st N9 + 800, locals := 64 } [.ref h0] G k s0 sl ([(h0, .inr (1, [.ref cea, .ref roa, .ref coa, .ref ura, .ref uca, .ref au, .ref ap, .ref al, .ref ar, .ref ae, .int (nI rw9), .int (nI C9), .int (nI fs9), .int (nI tk9)])), (cea, .inl (k 4, 3731, .inr (.inr (.inr (.inr (fun j => adO (st j)))))))] ++ (tpl k st N9)) (fun (u : (Nat → Option wQ) × Int32) => some (.int u.2)) (fun (u : (Nat → Option wQ) × Int32) => hO u.1 Z ∧ keO st u.1 ∧ pt u.1 N9 ≤ pt st N9 ∧ (u.2 = -2 ∨ ∃ b7, b7 < rw9 ∧ u.2 = nI b7)) (fun (u : (Nat → Option wQ) × Int32) => ([(h0, .inr (1, [.ref cea, .ref roa, .ref coa, .ref ura, .ref uca, .ref au, .ref ap, .ref al, .ref ar, .ref ae, .int (nI rw9), .int (nI C9), .int (nI fs9), .int (nI tk9)])), (cea, .inl (k 4, 3731, .inr (.inr (.inr (.inr (fun j => adO (u.1 j)))))))] ++ (tpl k u.1 N9))) (fun (u : (Nat → Option wQ) × Int32) => pt st N9 - pt u.1 N9) (fun (u : (Nat → Option wQ) × Int32) => 2 * (pt st N9 - pt u.1 N9)) (pt st N9 + 400) (2 * pt st N9 + 800) := by
  refine met_startG (by decide) (Nat.le_of_ble_eq_true rfl) ?_
  intro p e s m below meth c C K hA hsz S ls hl
  generalize va_A ([(h0, .inr (1, [.ref cea, .ref roa, .ref coa, .ref ura, .ref uca, .ref au, .ref ap, .ref al, .ref ar, .ref ae, .int (nI rw9), .int (nI C9), .int (nI fs9), .int (nI tk9)])), (cea, .inl (k 4, 3731, .inr (.inr (.inr (.inr (fun j => adO (st j)))))))] ++ (tpl k st N9)) s0 = A at hA S ⊢
  have hx := C.1
  have hb := C.2.1
  have hl : lv_has ls 4 [(0, .ref h0)] := hl
  refine lv_bipush (v := (-2)) hx hb d_So_lowestRow_0 (by decide) ?_
  refine lv_istore_n (lv' := [(1, .int (-2)), (0, .ref h0)]) hx hb d_So_lowestRow_2 rfl hl (by decide) rfl (fun ls hl => ?_)
  refine lv_iconst (v := 1) hx hb d_So_lowestRow_3 (by decide) ?_
  refine lv_istore_n (lv' := [(2, .int 1), (1, .int (-2)), (0, .ref h0)]) hx hb d_So_lowestRow_4 rfl hl (by decide) rfl (fun ls hl => ?_)
  have hz9 : hO st Z := ⟨hh.1, hh.2⟩
  refine W.widen (show 0 ≤ pt st N9 - pt st N9 from by omega) (show 0 ≤ 2 * (pt st N9 - pt st N9) from by omega) ?_
  have lp : ∀ d9, ∀ (s8 : Nat → Option wQ), ∀ (b8 : Int32), ∀ (i9 : Nat), (rw9 - i9) < d9 → (hO s8 Z) → (keO st s8) → (pt s8 N9 ≤ pt st N9) → (1 ≤ i9) → (i9 ≤ rw9 + 1) → (b8 = -2 ∨ ∃ b7, (b7 < i9 ∧ b7 < rw9) ∧ b8 = nI b7) → ∀ (H : Heap) (locs : List Loc), Sw G A s.heap H locs ([(h0, .inr (1, [.ref cea, .ref roa, .ref coa, .ref ura, .ref uca, .ref au, .ref ap, .ref al, .ref ar, .ref ae, .int (nI rw9), .int (nI C9), .int (nI fs9), .int (nI tk9)])), (cea, .inl (k 4, 3731, .inr (.inr (.inr (.inr (fun j => adO (s8 j)))))))] ++ (tpl k s8 N9)) → ∀ ls : Array Slot, lv_has ls 4 [(1, .int b8), (2, .int (nI i9)), (0, .ref h0)] → W p l e { frames := 3, cells := pt st N9 + 400, slots := 2 * pt st N9 + 800, locals := 64 } s m [Value.ref h0].toArray below meth c H locs (pt st N9 - pt s8 N9) (2 * (pt st N9 - pt s8 N9)) (MQ below (va_Qg (fun (u : (Nat → Option wQ) × Int32) => some (.int u.2)) (fun (u : (Nat → Option wQ) × Int32) => hO u.1 Z ∧ keO st u.1 ∧ pt u.1 N9 ≤ pt st N9 ∧ (u.2 = -2 ∨ ∃ b7, b7 < rw9 ∧ u.2 = nI b7)) (Pog G k A (fun (u : (Nat → Option wQ) × Int32) => ([(h0, .inr (1, [.ref cea, .ref roa, .ref coa, .ref ura, .ref uca, .ref au, .ref ap, .ref al, .ref ar, .ref ae, .int (nI rw9), .int (nI C9), .int (nI fs9), .int (nI tk9)])), (cea, .inl (k 4, 3731, .inr (.inr (.inr (.inr (fun j => adO (u.1 j)))))))] ++ (tpl k u.1 N9))) s0 sl (fun (u : (Nat → Option wQ) × Int32) => pt st N9 - pt u.1 N9) (fun (u : (Nat → Option wQ) × Int32) => 2 * (pt st N9 - pt u.1 N9))) A) [Value.ref h0].toArray s (pt st N9 + 400) (2 * pt st N9 + 800) A) (F0 m 5 ls []) := by
    intro d9
    induction d9 with
    | zero => intro s8 b8 i9 hm; exact absurd hm (Nat.not_lt_zero _)
    | succ d9 ih_lp =>
      intro s8 b8 i9 hm hh8 hke8 hpt8 hi hi2 hb8 H locs S ls hl
      refine lv_iload_n hx hb d_So_lowestRow_5 rfl (lv_at hl 1 rfl) ?_
      refine lv_aload_n hx hb d_So_lowestRow_6 rfl (lv_at hl 2 rfl) ?_
      refine r_get C K S 0 rfl rfl clOk_So 10 (by decide) wf_So_70 (v := .int (nI rw9)) rfl d_So_lowestRow_7 ?_
      refine z_icmp_ge (a := i9) (b := rw9) (tgt := 60) hx hb d_So_lowestRow_10 (by decide) (by omega) (by omega) (fun hc1 => ?_) (fun hc1 => ?_)
      · refine lv_iload_n hx hb d_So_lowestRow_60 rfl (lv_at hl 0 rfl) ?_
        exact q_iret C K hsz rfl (s8, b8) rfl (show hO s8 Z ∧ keO st s8 ∧ pt s8 N9 ≤ pt st N9 ∧ (b8 = -2 ∨ ∃ b7, b7 < rw9 ∧ b8 = nI b7) from ⟨hh8, hke8, hpt8, hb8.imp id (fun ⟨b7, q1, q2⟩ => ⟨b7, by omega, q2⟩)⟩) (S.subP [0, 1] (by decide) rfl) d_So_lowestRow_61 (show pt st N9 - pt s8 N9 ≤ pt st N9 - pt s8 N9 from by omega) (show 2 * (pt st N9 - pt s8 N9) ≤ 2 * (pt st N9 - pt s8 N9) from by omega) (show pt st N9 - pt s8 N9 ≤ pt st N9 + 400 from by omega) (show 2 * (pt st N9 - pt s8 N9) ≤ 2 * pt st N9 + 800 from by omega)
      · refine lv_aload_n hx hb d_So_lowestRow_13 rfl (lv_at hl 2 rfl) ?_
        refine lv_iload_n hx hb d_So_lowestRow_14 rfl (lv_at hl 1 rfl) ?_
        refine lv_aload_n hx hb d_So_lowestRow_15 rfl (lv_at hl 2 rfl) ?_
        refine r_get C K S 0 rfl rfl clOk_So 11 (by decide) wf_So_59 (v := .int (nI C9)) rfl d_So_lowestRow_16 ?_
        refine q_backP (wi := [(h0, .inr (1, [.ref cea, .ref roa, .ref coa, .ref ura, .ref uca, .ref au, .ref ap, .ref al, .ref ar, .ref ae, .int (nI rw9), .int (nI C9), .int (nI fs9), .int (nI tk9)])), (cea, .inl (k 4, 3731, .inr (.inr (.inr (.inr (fun j => adO (s8 j)))))))]) (wr := []) S hA [0, 1] [] rfl rfl (by decide) (by decide) (va_runV (As := [.int (nI i9), .int (nI C9)]) (rest := []) ⟨hx, hb, C.2.2.1, C.2.2.2.1, C.2.2.2.2.1⟩ (g_So_cell l G k h0 _ _ i9 C9 cea roa coa ura uca au ap al ar ae rw9 C9 fs9 tk9 N9 s8 Z hN ⟨hh8.1, hh8.2⟩ (by omega) (by omega) (by omega)) (k_virt (n := 2) C wc_So_cell rfl rfl wz_So wm_So_66 wn_So_cell ws_So_cell (by decide +kernel) ⟨(Nat.le_of_ble_eq_true rfl), (Nat.le_of_ble_eq_true rfl)⟩) (pr_nowVGP K S [0, 1] (by decide) rfl (List.mem_append_left _ (List.mem_of_getElem? (i := 0) rfl)) rfl) rfl rfl hl.1 rfl (lv_room (Nat.le_of_ble_eq_true rfl)) d_So_lowestRow_19 ⟨(show pt st N9 - pt s8 N9 + (pt s8 N9 + 10) ≤ pt st N9 + 400 from by omega), (show 2 * (pt st N9 - pt s8 N9) + (2 * pt s8 N9 + 20) ≤ 2 * pt st N9 + 800 from by omega)⟩) (fun c2 H locs hw3 S => ?_)
        have S : Sw G A s.heap _ _ ([(h0, .inr (1, [.ref cea, .ref roa, .ref coa, .ref ura, .ref uca, .ref au, .ref ap, .ref al, .ref ar, .ref ae, .int (nI rw9), .int (nI C9), .int (nI fs9), .int (nI tk9)])), (cea, .inl (k 4, 3731, .inr (.inr (.inr (.inr (fun j => adO (c2.1 j)))))))] ++ (tpl k c2.1 N9)) := S
        have hw3 : hO c2.1 Z ∧ atO c2.1 (i9 * (C9 + 1) + C9) c2.2 ∧ keO s8 c2.1 ∧ pt c2.1 N9 ≤ pt s8 N9 := hw3
        show W p l e _ s m _ below meth c H locs _ _ _ (F0 m 22 ls [.ref c2.2])
        obtain ⟨hh4, at5, ke6, pt7⟩ := hw3
        have lt8 := ix_lt (C := C9) (R := 91) (i := i9) (j := C9) (by omega) (by omega) (Nat.le_refl _) (by omega)
        refine lv_astore_n (lv' := [(3, .ref c2.2), (1, .int b8), (2, .int (nI i9)), (0, .ref h0)]) hx hb d_So_lowestRow_22 rfl hl (by decide) rfl (fun ls hl => ?_)
        refine lv_aload_n hx hb d_So_lowestRow_23 rfl (lv_at hl 0 rfl) ?_
        refine q_backP (wi := []) (wr := [(h0, .inr (1, [.ref cea, .ref roa, .ref coa, .ref ura, .ref uca, .ref au, .ref ap, .ref al, .ref ar, .ref ae, .int (nI rw9), .int (nI C9), .int (nI fs9), .int (nI tk9)])), (cea, .inl (k 4, 3731, .inr (.inr (.inr (.inr (fun j => adO (c2.1 j)))))))]) S hA [] [0, 1] rfl rfl (by decide) (by decide) (va_runV (As := []) (rest := []) ⟨hx, hb, C.2.2.1, C.2.2.2.1, C.2.2.2.2.1⟩ (g_P_sign l G k _ _ (i9 * (C9 + 1) + C9) c2.2 (Z (i9 * (C9 + 1) + C9)) N9 c2.1 Z V0 hN hh4.1 (by omega) at5 rfl (show V0 (i9 * (C9 + 1) + C9) from by unfold V0; omega)) (k_virt (n := 0) C wc_Wh_sign rfl rfl wz_Wh wm_So_101 wn_Wh_sign ws_Wh_sign (by decide +kernel) ⟨(Nat.le_of_ble_eq_true rfl), (Nat.le_of_ble_eq_true rfl)⟩) (pr_nowVGP K S [] (by decide) rfl (Classical.choose_spec (at_mem at5 (show i9 * (C9 + 1) + C9 < N9 by omega))) rfl) rfl rfl hl.1 rfl (lv_room (Nat.le_of_ble_eq_true rfl)) d_So_lowestRow_24 ⟨(show pt st N9 - pt s8 N9 + (pt s8 N9 - pt c2.1 N9) ≤ pt st N9 + 400 from by omega), (show 2 * (pt st N9 - pt s8 N9) + (2 * (pt s8 N9 - pt c2.1 N9)) ≤ 2 * pt st N9 + 800 from by omega)⟩) (fun u9 H locs hw10 S => ?_)
        have S : Sw G A s.heap _ _ ([(h0, .inr (1, [.ref cea, .ref roa, .ref coa, .ref ura, .ref uca, .ref au, .ref ap, .ref al, .ref ar, .ref ae, .int (nI rw9), .int (nI C9), .int (nI fs9), .int (nI tk9)])), (cea, .inl (k 4, 3731, .inr (.inr (.inr (.inr (fun j => adO (c2.1 j)))))))] ++ (tpl k c2.1 N9)) := S
        have hw10 : True := hw10
        show W p l e _ s m _ below meth c H locs _ _ _ (F0 m 27 ls [.int (sgI ((Z (i9 * (C9 + 1) + C9))))])
        refine lv_if_ge (tgt := 54) hx hb d_So_lowestRow_27 (by decide) (fun hc11 => ?_) (fun hc11 => ?_)
        · refine lv_iinc (v := nI (i9 + 1)) (lv' := [(2, .int (nI (i9 + 1))), (3, .ref c2.2), (1, .int b8), (0, .ref h0)]) hx hb d_So_lowestRow_54 hl (k := 2) rfl (show nI i9 + Int32.ofInt 1 = nI (i9 + 1) from (nI_add i9 1).trans (congrArg nI (by omega))) (by decide) rfl (fun ls hl => ?_)
          refine lv_goto (tgt := 5) hx hb d_So_lowestRow_57 (by decide) ?_
          have hq8 : hO c2.1 Z := ⟨hh4.1, hh4.2⟩
          refine W.widen (show pt st N9 - pt s8 N9 + (pt s8 N9 - pt c2.1 N9) ≤ pt st N9 - pt c2.1 N9 from by omega) (show 2 * (pt st N9 - pt s8 N9) + (2 * (pt s8 N9 - pt c2.1 N9)) ≤ 2 * (pt st N9 - pt c2.1 N9) from by omega) ?_
          exact ih_lp c2.1 b8 (i9 + 1) (by omega) hq8 (hke8.tr ke6) (by omega) (by omega) (by omega) (hb8.imp id (fun ⟨b7, q1, q2⟩ => ⟨b7, by omega, q2⟩)) _ _ (S.subP [0, 1] (by decide) rfl) ls (lv_sub hl [2, 0, 3] rfl)
        · refine lv_iload_n hx hb d_So_lowestRow_30 rfl (lv_at hl 1 rfl) ?_
          refine lv_bipush (v := (-2)) hx hb d_So_lowestRow_31 (by decide) ?_
          refine lv_icmp_eq (tgt := 52) hx hb d_So_lowestRow_33 (by decide) (fun hc12 => ?_) (fun hc12 => ?_)
          · refine lv_iload_n hx hb d_So_lowestRow_52 rfl (lv_at hl 2 rfl) ?_
            refine lv_istore_n (lv' := [(1, .int (nI i9)), (3, .ref c2.2), (2, .int (nI i9)), (0, .ref h0)]) hx hb d_So_lowestRow_53 rfl hl (by decide) rfl (fun ls hl => ?_)
            refine lv_iinc (v := nI (i9 + 1)) (lv' := [(2, .int (nI (i9 + 1))), (1, .int (nI i9)), (3, .ref c2.2), (0, .ref h0)]) hx hb d_So_lowestRow_54 hl (k := 2) rfl (show nI i9 + Int32.ofInt 1 = nI (i9 + 1) from (nI_add i9 1).trans (congrArg nI (by omega))) (by decide) rfl (fun ls hl => ?_)
            refine lv_goto (tgt := 5) hx hb d_So_lowestRow_57 (by decide) ?_
            have hq8 : hO c2.1 Z := ⟨hh4.1, hh4.2⟩
            refine W.widen (show pt st N9 - pt s8 N9 + (pt s8 N9 - pt c2.1 N9) ≤ pt st N9 - pt c2.1 N9 from by omega) (show 2 * (pt st N9 - pt s8 N9) + (2 * (pt s8 N9 - pt c2.1 N9)) ≤ 2 * (pt st N9 - pt c2.1 N9) from by omega) ?_
            exact ih_lp c2.1 (nI i9) (i9 + 1) (by omega) hq8 (hke8.tr ke6) (by omega) (by omega) (by omega) (Or.inr ⟨i9, by omega, rfl⟩) _ _ (S.subP [0, 1] (by decide) rfl) ls (lv_sub hl [1, 0, 3] rfl)
          · obtain ⟨b7, l7, e7⟩ := hb8.resolve_left hc12
            subst e7
            refine lv_aload_n hx hb d_So_lowestRow_36 rfl (lv_at hl 0 rfl) ?_
            refine lv_aload_n hx hb d_So_lowestRow_37 rfl (lv_at hl 3 rfl) ?_
            refine lv_iload_n hx hb d_So_lowestRow_38 rfl (lv_at hl 1 rfl) ?_
            refine lv_aload_n hx hb d_So_lowestRow_39 rfl (lv_at hl 3 rfl) ?_
            refine r_get C K S 0 rfl rfl clOk_So 11 (by decide) wf_So_59 (v := .int (nI C9)) rfl d_So_lowestRow_40 ?_
            refine q_backP (wi := [(h0, .inr (1, [.ref cea, .ref roa, .ref coa, .ref ura, .ref uca, .ref au, .ref ap, .ref al, .ref ar, .ref ae, .int (nI rw9), .int (nI C9), .int (nI fs9), .int (nI tk9)])), (cea, .inl (k 4, 3731, .inr (.inr (.inr (.inr (fun j => adO (c2.1 j)))))))]) (wr := []) S hA [0, 1] [] rfl rfl (by decide) (by decide) (va_runV (As := [.int (nI b7), .int (nI C9)]) (rest := [.ref c2.2]) ⟨hx, hb, C.2.2.1, C.2.2.2.1, C.2.2.2.2.1⟩ (g_So_cell l G k h0 _ _ b7 C9 cea roa coa ura uca au ap al ar ae rw9 C9 fs9 tk9 N9 c2.1 Z hN ⟨hh4.1, hh4.2⟩ (by omega) (by omega) (by omega)) (k_virt (n := 2) C wc_So_cell rfl rfl wz_So wm_So_66 wn_So_cell ws_So_cell (by decide +kernel) ⟨(Nat.le_of_ble_eq_true rfl), (Nat.le_of_ble_eq_true rfl)⟩) (pr_nowVGP K S [0, 1] (by decide) rfl (List.mem_append_left _ (List.mem_of_getElem? (i := 0) rfl)) rfl) rfl rfl hl.1 rfl (lv_room (Nat.le_of_ble_eq_true rfl)) d_So_lowestRow_43 ⟨(show pt st N9 - pt s8 N9 + (pt s8 N9 - pt c2.1 N9) + (pt c2.1 N9 + 10) ≤ pt st N9 + 400 from by omega), (show 2 * (pt st N9 - pt s8 N9) + (2 * (pt s8 N9 - pt c2.1 N9)) + (2 * pt c2.1 N9 + 20) ≤ 2 * pt st N9 + 800 from by omega)⟩) (fun c13 H locs hw14 S => ?_)
            have S : Sw G A s.heap _ _ ([(h0, .inr (1, [.ref cea, .ref roa, .ref coa, .ref ura, .ref uca, .ref au, .ref ap, .ref al, .ref ar, .ref ae, .int (nI rw9), .int (nI C9), .int (nI fs9), .int (nI tk9)])), (cea, .inl (k 4, 3731, .inr (.inr (.inr (.inr (fun j => adO (c13.1 j)))))))] ++ (tpl k c13.1 N9)) := S
            have hw14 : hO c13.1 Z ∧ atO c13.1 (b7 * (C9 + 1) + C9) c13.2 ∧ keO c2.1 c13.1 ∧ pt c13.1 N9 ≤ pt c2.1 N9 := hw14
            show W p l e _ s m _ below meth c H locs _ _ _ (F0 m 46 ls [.ref c13.2, .ref c2.2])
            obtain ⟨hh15, at16, ke17, pt18⟩ := hw14
            have lt19 := ix_lt (C := C9) (R := 91) (i := b7) (j := C9) (by omega) (by omega) (Nat.le_refl _) (by omega)
            refine q_backP (wi := []) (wr := [(h0, .inr (1, [.ref cea, .ref roa, .ref coa, .ref ura, .ref uca, .ref au, .ref ap, .ref al, .ref ar, .ref ae, .int (nI rw9), .int (nI C9), .int (nI fs9), .int (nI tk9)])), (cea, .inl (k 4, 3731, .inr (.inr (.inr (.inr (fun j => adO (c13.1 j)))))))]) S hA [] [0, 1] rfl rfl (by decide) (by decide) (va_runV (As := [.ref c13.2]) (rest := []) ⟨hx, hb, C.2.2.1, C.2.2.2.1, C.2.2.2.2.1⟩ (g_P_compare l G k _ _ (i9 * (C9 + 1) + C9) (b7 * (C9 + 1) + C9) c2.2 c13.2 (Z (i9 * (C9 + 1) + C9)) (Z (b7 * (C9 + 1) + C9)) N9 c13.1 Z V0 hN hh15.1 (by omega) (by omega) (ke17.at at5) at16 rfl rfl (show V0 (i9 * (C9 + 1) + C9) from by unfold V0; omega) (show V0 (b7 * (C9 + 1) + C9) from by unfold V0; omega) (by exact ix_ne (by omega) (by omega) (by omega))) (k_virt (n := 1) C wc_Wh_compare rfl rfl wz_Wh wm_So_104 wn_Wh_compare ws_Wh_compare (by decide +kernel) ⟨(Nat.le_of_ble_eq_true rfl), (Nat.le_of_ble_eq_true rfl)⟩) (pr_nowVGP K S [] (by decide) rfl (Classical.choose_spec (at_mem (ke17.at at5) (show i9 * (C9 + 1) + C9 < N9 by omega))) rfl) rfl rfl hl.1 rfl (lv_room (Nat.le_of_ble_eq_true rfl)) d_So_lowestRow_46 ⟨(show pt st N9 - pt s8 N9 + (pt s8 N9 - pt c2.1 N9) + (pt c2.1 N9 - pt c13.1 N9) ≤ pt st N9 + 400 from by omega), (show 2 * (pt st N9 - pt s8 N9) + (2 * (pt s8 N9 - pt c2.1 N9)) + (2 * (pt c2.1 N9 - pt c13.1 N9)) ≤ 2 * pt st N9 + 800 from by omega)⟩) (fun u20 H locs hw21 S => ?_)
            have S : Sw G A s.heap _ _ ([(h0, .inr (1, [.ref cea, .ref roa, .ref coa, .ref ura, .ref uca, .ref au, .ref ap, .ref al, .ref ar, .ref ae, .int (nI rw9), .int (nI C9), .int (nI fs9), .int (nI tk9)])), (cea, .inl (k 4, 3731, .inr (.inr (.inr (.inr (fun j => adO (c13.1 j)))))))] ++ (tpl k c13.1 N9)) := S
            have hw21 : True := hw21
            show W p l e _ s m _ below meth c H locs _ _ _ (F0 m 49 ls [.int (czI ((Z (i9 * (C9 + 1) + C9))) ((Z (b7 * (C9 + 1) + C9))))])
            refine lv_if_ge (tgt := 54) hx hb d_So_lowestRow_49 (by decide) (fun hc22 => ?_) (fun hc22 => ?_)
            · refine lv_iinc (v := nI (i9 + 1)) (lv' := [(2, .int (nI (i9 + 1))), (3, .ref c2.2), (1, .int (nI b7)), (0, .ref h0)]) hx hb d_So_lowestRow_54 hl (k := 2) rfl (show nI i9 + Int32.ofInt 1 = nI (i9 + 1) from (nI_add i9 1).trans (congrArg nI (by omega))) (by decide) rfl (fun ls hl => ?_)
              refine lv_goto (tgt := 5) hx hb d_So_lowestRow_57 (by decide) ?_
              have hq8 : hO c13.1 Z := ⟨hh15.1, hh15.2⟩
              refine W.widen (show pt st N9 - pt s8 N9 + (pt s8 N9 - pt c2.1 N9) + (pt c2.1 N9 - pt c13.1 N9) ≤ pt st N9 - pt c13.1 N9 from by omega) (show 2 * (pt st N9 - pt s8 N9) + (2 * (pt s8 N9 - pt c2.1 N9)) + (2 * (pt c2.1 N9 - pt c13.1 N9)) ≤ 2 * (pt st N9 - pt c13.1 N9) from by omega) ?_
              exact ih_lp c13.1 (nI b7) (i9 + 1) (by omega) hq8 ((hke8.tr ke6).tr ke17) (by omega) (by omega) (by omega) (Or.inr ⟨b7, by omega, rfl⟩) _ _ (S.subP [0, 1] (by decide) rfl) ls (lv_sub hl [2, 0, 3] rfl)
            · refine lv_iload_n hx hb d_So_lowestRow_52 rfl (lv_at hl 2 rfl) ?_
              refine lv_istore_n (lv' := [(1, .int (nI i9)), (3, .ref c2.2), (2, .int (nI i9)), (0, .ref h0)]) hx hb d_So_lowestRow_53 rfl hl (by decide) rfl (fun ls hl => ?_)
              refine lv_iinc (v := nI (i9 + 1)) (lv' := [(2, .int (nI (i9 + 1))), (1, .int (nI i9)), (3, .ref c2.2), (0, .ref h0)]) hx hb d_So_lowestRow_54 hl (k := 2) rfl (show nI i9 + Int32.ofInt 1 = nI (i9 + 1) from (nI_add i9 1).trans (congrArg nI (by omega))) (by decide) rfl (fun ls hl => ?_)
              refine lv_goto (tgt := 5) hx hb d_So_lowestRow_57 (by decide) ?_
              have hq8 : hO c13.1 Z := ⟨hh15.1, hh15.2⟩
              refine W.widen (show pt st N9 - pt s8 N9 + (pt s8 N9 - pt c2.1 N9) + (pt c2.1 N9 - pt c13.1 N9) ≤ pt st N9 - pt c13.1 N9 from by omega) (show 2 * (pt st N9 - pt s8 N9) + (2 * (pt s8 N9 - pt c2.1 N9)) + (2 * (pt c2.1 N9 - pt c13.1 N9)) ≤ 2 * (pt st N9 - pt c13.1 N9) from by omega) ?_
              exact ih_lp c13.1 (nI i9) (i9 + 1) (by omega) hq8 ((hke8.tr ke6).tr ke17) (by omega) (by omega) (by omega) (Or.inr ⟨i9, by omega, rfl⟩) _ _ (S.subP [0, 1] (by decide) rfl) ls (lv_sub hl [1, 0, 3] rfl)
  exact lp _ st (-2) 1 (Nat.lt_succ_self _) hz9 (keO.rf st) (by omega) (by omega) (by omega) (Or.inl rfl) _ _ (S.subP [0, 1] (by decide) rfl) ls (lv_sub hl [1, 0, 2] rfl)
theorem d_So_entering_0 : decode c_So_entering 0 = .ok (.bipush (-2), 2) := by decide +kernel
theorem d_So_entering_2 : decode c_So_entering 2 = .ok (.istore_n 2, 1) := by decide +kernel
theorem d_So_entering_3 : decode c_So_entering 3 = .ok (.iconst 0, 1) := by decide +kernel
theorem d_So_entering_4 : decode c_So_entering 4 = .ok (.istore_n 3, 1) := by decide +kernel
theorem d_So_entering_5 : decode c_So_entering 5 = .ok (.iload_n 3, 1) := by decide +kernel
theorem d_So_entering_6 : decode c_So_entering 6 = .ok (.aload_n 0, 1) := by decide +kernel
theorem d_So_entering_7 : decode c_So_entering 7 = .ok (.getfield 59, 3) := by decide +kernel
theorem d_So_entering_10 : decode c_So_entering 10 = .ok (.if_icmp .ge 39, 3) := by decide +kernel
theorem d_So_entering_13 : decode c_So_entering 13 = .ok (.aload_n 0, 1) := by decide +kernel
theorem d_So_entering_14 : decode c_So_entering 14 = .ok (.iload_n 1, 1) := by decide +kernel
theorem d_So_entering_15 : decode c_So_entering 15 = .ok (.iload_n 3, 1) := by decide +kernel
theorem d_So_entering_16 : decode c_So_entering 16 = .ok (.invokevirtual 66, 3) := by decide +kernel
theorem d_So_entering_19 : decode c_So_entering 19 = .ok (.invokevirtual 101, 3) := by decide +kernel
theorem d_So_entering_22 : decode c_So_entering 22 = .ok (.ifCond .le 21, 3) := by decide +kernel
theorem d_So_entering_25 : decode c_So_entering 25 = .ok (.iload_n 2, 1) := by decide +kernel
theorem d_So_entering_26 : decode c_So_entering 26 = .ok (.bipush (-2), 2) := by decide +kernel
theorem d_So_entering_28 : decode c_So_entering 28 = .ok (.if_icmp .eq 13, 3) := by decide +kernel
theorem d_So_entering_31 : decode c_So_entering 31 = .ok (.aload_n 0, 1) := by decide +kernel
theorem d_So_entering_32 : decode c_So_entering 32 = .ok (.iload_n 2, 1) := by decide +kernel
theorem d_So_entering_33 : decode c_So_entering 33 = .ok (.iload_n 3, 1) := by decide +kernel
theorem d_So_entering_34 : decode c_So_entering 34 = .ok (.iload_n 1, 1) := by decide +kernel
theorem d_So_entering_35 : decode c_So_entering 35 = .ok (.invokevirtual 108, 3) := by decide +kernel
theorem d_So_entering_38 : decode c_So_entering 38 = .ok (.ifCond .eq 5, 3) := by decide +kernel
theorem d_So_entering_41 : decode c_So_entering 41 = .ok (.iload_n 3, 1) := by decide +kernel
theorem d_So_entering_42 : decode c_So_entering 42 = .ok (.istore_n 2, 1) := by decide +kernel
theorem d_So_entering_43 : decode c_So_entering 43 = .ok (.iinc 3 1, 3) := by decide +kernel
theorem d_So_entering_46 : decode c_So_entering 46 = .ok (.goto (-41), 3) := by decide +kernel
theorem d_So_entering_49 : decode c_So_entering 49 = .ok (.iload_n 2, 1) := by decide +kernel
theorem d_So_entering_50 : decode c_So_entering 50 = .ok (.ireturn, 1) := by decide +kernel
set_option maxRecDepth 100000 in
set_option maxHeartbeats 16000000 in
/-- entering -/
theorem g_So_entering (l : Launch) (G : va_G) (k : Nat → ClassId) (h0 : Nat) (s0 sl : Nat) (qr : Nat) (cea : Nat) (roa : Nat) (coa : Nat) (ura : Nat) (uca : Nat) (au : Nat) (ap : Nat) (al : Nat) (ar : Nat) (ae : Nat) (rw9 : Nat) (C9 : Nat) (fs9 : Nat) (tk9 : Nat) (ro : Nat → Int32) (co : Nat → Int32) (N9 : Nat) (st : Nat → Option wQ) (Z : Nat → Int) (hN : N9 = 3745) (hh : hO st Z) (hU : atO st 3731 au) (hP : atO st 3732 ap) (hL : atO st 3733 al) (hR : atO st 3734 ar) (hE : atO st 3735 ae) (hC : C9 ≤ 40) (hRw : rw9 ≤ 91) (hro : ∀ v, v < C9 → ro v = -2 ∨ ∃ r, r < rw9 ∧ ro v = nI r) (hfs : fs9 + tk9 < C9) (hqr : qr < rw9) : CG l y_So_entering c_So_entering 4 (some .int) { frames := 6, cells := pt st N9 + 400, slots := 2 * pt st N9 + 800, locals := 185 } [.ref h0, .int (nI qr)] G k s0 sl ([(h0, .inr (1, [.ref cea, .ref roa, .ref coa, .ref ura, .ref uca, .ref au, .ref ap, .ref al, .ref ar, .ref ae, .int (nI rw9), .int (nI C9), .int (nI fs9), .int (nI tk9)])), (cea, .inl (k 4, 3731, .inr (.inr (.inr (.inr (fun j => adO (st j))))))), (roa, .inl (k 0, 40, .inl ro)), (coa, .inl (k 0, 40, .inl co))] ++ (tpl k st N9)) (fun (u : (Nat → Option wQ) × Int32) => some (.int u.2)) (fun (u : (Nat → Option wQ) × Int32) => hO u.1 Z ∧ keO st u.1 ∧ pt u.1 N9 ≤ pt st N9 ∧ (u.2 = -2 ∨ ∃ b7, (b7 < C9 ∧ 0 < Z (qr * (C9 + 1) + b7)) ∧ u.2 = nI b7)) (fun (u : (Nat → Option wQ) × Int32) => ([(h0, .inr (1, [.ref cea, .ref roa, .ref coa, .ref ura, .ref uca, .ref au, .ref ap, .ref al, .ref ar, .ref ae, .int (nI rw9), .int (nI C9), .int (nI fs9), .int (nI tk9)])), (cea, .inl (k 4, 3731, .inr (.inr (.inr (.inr (fun j => adO (u.1 j))))))), (roa, .inl (k 0, 40, .inl ro)), (coa, .inl (k 0, 40, .inl co))] ++ (tpl k u.1 N9))) (fun (u : (Nat → Option wQ) × Int32) => pt st N9 - pt u.1 N9) (fun (u : (Nat → Option wQ) × Int32) => 2 * (pt st N9 - pt u.1 N9)) (pt st N9 + 400) (2 * pt st N9 + 800) := by
  refine met_startG (by decide) (Nat.le_of_ble_eq_true rfl) ?_
  intro p e s m below meth c C K hA hsz S ls hl
  generalize va_A ([(h0, .inr (1, [.ref cea, .ref roa, .ref coa, .ref ura, .ref uca, .ref au, .ref ap, .ref al, .ref ar, .ref ae, .int (nI rw9), .int (nI C9), .int (nI fs9), .int (nI tk9)])), (cea, .inl (k 4, 3731, .inr (.inr (.inr (.inr (fun j => adO (st j))))))), (roa, .inl (k 0, 40, .inl ro)), (coa, .inl (k 0, 40, .inl co))] ++ (tpl k st N9)) s0 = A at hA S ⊢
  have hx := C.1
  have hb := C.2.1
  have hl : lv_has ls 4 [(0, .ref h0), (1, .int (nI qr))] := hl
  refine lv_bipush (v := (-2)) hx hb d_So_entering_0 (by decide) ?_
  refine lv_istore_n (lv' := [(2, .int (-2)), (0, .ref h0), (1, .int (nI qr))]) hx hb d_So_entering_2 rfl hl (by decide) rfl (fun ls hl => ?_)
  refine lv_iconst (v := 0) hx hb d_So_entering_3 (by decide) ?_
  refine lv_istore_n (lv' := [(3, .int 0), (2, .int (-2)), (0, .ref h0), (1, .int (nI qr))]) hx hb d_So_entering_4 rfl hl (by decide) rfl (fun ls hl => ?_)
  have hz9 : hO st Z := ⟨hh.1, hh.2⟩
  refine W.widen (show 0 ≤ pt st N9 - pt st N9 from by omega) (show 0 ≤ 2 * (pt st N9 - pt st N9) from by omega) ?_
  have lp : ∀ d9, ∀ (s8 : Nat → Option wQ), ∀ (b8 : Int32), ∀ (i9 : Nat), (C9 - i9) < d9 → (hO s8 Z) → (keO st s8) → (pt s8 N9 ≤ pt st N9) → (i9 ≤ C9) → (b8 = -2 ∨ ∃ b7, (b7 < i9 ∧ 0 < Z (qr * (C9 + 1) + b7)) ∧ b8 = nI b7) → ∀ (H : Heap) (locs : List Loc), Sw G A s.heap H locs ([(h0, .inr (1, [.ref cea, .ref roa, .ref coa, .ref ura, .ref uca, .ref au, .ref ap, .ref al, .ref ar, .ref ae, .int (nI rw9), .int (nI C9), .int (nI fs9), .int (nI tk9)])), (cea, .inl (k 4, 3731, .inr (.inr (.inr (.inr (fun j => adO (s8 j))))))), (roa, .inl (k 0, 40, .inl ro)), (coa, .inl (k 0, 40, .inl co))] ++ (tpl k s8 N9)) → ∀ ls : Array Slot, lv_has ls 4 [(2, .int b8), (3, .int (nI i9)), (0, .ref h0), (1, .int (nI qr))] → W p l e { frames := 6, cells := pt st N9 + 400, slots := 2 * pt st N9 + 800, locals := 185 } s m [Value.ref h0, Value.int (nI qr)].toArray below meth c H locs (pt st N9 - pt s8 N9) (2 * (pt st N9 - pt s8 N9)) (MQ below (va_Qg (fun (u : (Nat → Option wQ) × Int32) => some (.int u.2)) (fun (u : (Nat → Option wQ) × Int32) => hO u.1 Z ∧ keO st u.1 ∧ pt u.1 N9 ≤ pt st N9 ∧ (u.2 = -2 ∨ ∃ b7, (b7 < C9 ∧ 0 < Z (qr * (C9 + 1) + b7)) ∧ u.2 = nI b7)) (Pog G k A (fun (u : (Nat → Option wQ) × Int32) => ([(h0, .inr (1, [.ref cea, .ref roa, .ref coa, .ref ura, .ref uca, .ref au, .ref ap, .ref al, .ref ar, .ref ae, .int (nI rw9), .int (nI C9), .int (nI fs9), .int (nI tk9)])), (cea, .inl (k 4, 3731, .inr (.inr (.inr (.inr (fun j => adO (u.1 j))))))), (roa, .inl (k 0, 40, .inl ro)), (coa, .inl (k 0, 40, .inl co))] ++ (tpl k u.1 N9))) s0 sl (fun (u : (Nat → Option wQ) × Int32) => pt st N9 - pt u.1 N9) (fun (u : (Nat → Option wQ) × Int32) => 2 * (pt st N9 - pt u.1 N9))) A) [Value.ref h0, Value.int (nI qr)].toArray s (pt st N9 + 400) (2 * pt st N9 + 800) A) (F0 m 5 ls []) := by
    intro d9
    induction d9 with
    | zero => intro s8 b8 i9 hm; exact absurd hm (Nat.not_lt_zero _)
    | succ d9 ih_lp =>
      intro s8 b8 i9 hm hh8 hke8 hpt8 hi hb8 H locs S ls hl
      refine lv_iload_n hx hb d_So_entering_5 rfl (lv_at hl 1 rfl) ?_
      refine lv_aload_n hx hb d_So_entering_6 rfl (lv_at hl 2 rfl) ?_
      refine r_get C K S 0 rfl rfl clOk_So 11 (by decide) wf_So_59 (v := .int (nI C9)) rfl d_So_entering_7 ?_
      refine z_icmp_ge (a := i9) (b := C9) (tgt := 49) hx hb d_So_entering_10 (by decide) (by omega) (by omega) (fun hc1 => ?_) (fun hc1 => ?_)
      · refine lv_iload_n hx hb d_So_entering_49 rfl (lv_at hl 0 rfl) ?_
        exact q_iret C K hsz rfl (s8, b8) rfl (show hO s8 Z ∧ keO st s8 ∧ pt s8 N9 ≤ pt st N9 ∧ (b8 = -2 ∨ ∃ b7, (b7 < C9 ∧ 0 < Z (qr * (C9 + 1) + b7)) ∧ b8 = nI b7) from ⟨hh8, hke8, hpt8, hb8.imp id (fun ⟨b7, q1, q2⟩ => ⟨b7, ⟨by omega, q1.2⟩, q2⟩)⟩) (S.subP [0, 1, 2, 3] (by decide) rfl) d_So_entering_50 (show pt st N9 - pt s8 N9 ≤ pt st N9 - pt s8 N9 from by omega) (show 2 * (pt st N9 - pt s8 N9) ≤ 2 * (pt st N9 - pt s8 N9) from by omega) (show pt st N9 - pt s8 N9 ≤ pt st N9 + 400 from by omega) (show 2 * (pt st N9 - pt s8 N9) ≤ 2 * pt st N9 + 800 from by omega)
      · refine lv_aload_n hx hb d_So_entering_13 rfl (lv_at hl 2 rfl) ?_
        refine lv_iload_n hx hb d_So_entering_14 rfl (lv_at hl 3 rfl) ?_
        refine lv_iload_n hx hb d_So_entering_15 rfl (lv_at hl 1 rfl) ?_
        refine q_backP (wi := [(h0, .inr (1, [.ref cea, .ref roa, .ref coa, .ref ura, .ref uca, .ref au, .ref ap, .ref al, .ref ar, .ref ae, .int (nI rw9), .int (nI C9), .int (nI fs9), .int (nI tk9)])), (cea, .inl (k 4, 3731, .inr (.inr (.inr (.inr (fun j => adO (s8 j)))))))]) (wr := [(roa, .inl (k 0, 40, .inl ro)), (coa, .inl (k 0, 40, .inl co))]) S hA [0, 1] [2, 3] rfl rfl (by decide) (by decide) (va_runV (As := [.int (nI qr), .int (nI i9)]) (rest := []) ⟨hx, hb, C.2.2.1, C.2.2.2.1, C.2.2.2.2.1⟩ (g_So_cell l G k h0 _ _ qr i9 cea roa coa ura uca au ap al ar ae rw9 C9 fs9 tk9 N9 s8 Z hN ⟨hh8.1, hh8.2⟩ (by omega) (by omega) (by omega)) (k_virt (n := 2) C wc_So_cell rfl rfl wz_So wm_So_66 wn_So_cell ws_So_cell (by decide +kernel) ⟨(Nat.le_of_ble_eq_true rfl), (Nat.le_of_ble_eq_true rfl)⟩) (pr_nowVGP K S [0, 1] (by decide) rfl (List.mem_append_left _ (List.mem_of_getElem? (i := 0) rfl)) rfl) rfl rfl hl.1 rfl (lv_room (Nat.le_of_ble_eq_true rfl)) d_So_entering_16 ⟨(show pt st N9 - pt s8 N9 + (pt s8 N9 + 10) ≤ pt st N9 + 400 from by omega), (show 2 * (pt st N9 - pt s8 N9) + (2 * pt s8 N9 + 20) ≤ 2 * pt st N9 + 800 from by omega)⟩) (fun c2 H locs hw3 S => ?_)
        have S : Sw G A s.heap _ _ ([(roa, .inl (k 0, 40, .inl ro)), (coa, .inl (k 0, 40, .inl co)), (h0, .inr (1, [.ref cea, .ref roa, .ref coa, .ref ura, .ref uca, .ref au, .ref ap, .ref al, .ref ar, .ref ae, .int (nI rw9), .int (nI C9), .int (nI fs9), .int (nI tk9)])), (cea, .inl (k 4, 3731, .inr (.inr (.inr (.inr (fun j => adO (c2.1 j)))))))] ++ (tpl k c2.1 N9)) := S
        have hw3 : hO c2.1 Z ∧ atO c2.1 (qr * (C9 + 1) + i9) c2.2 ∧ keO s8 c2.1 ∧ pt c2.1 N9 ≤ pt s8 N9 := hw3
        show W p l e _ s m _ below meth c H locs _ _ _ (F0 m 19 ls [.ref c2.2])
        obtain ⟨hh4, at5, ke6, pt7⟩ := hw3
        have lt8 := ix_lt (C := C9) (R := 91) (i := qr) (j := i9) (by omega) (by omega) (Nat.le_refl _) (by omega)
        refine q_backP (wi := []) (wr := [(roa, .inl (k 0, 40, .inl ro)), (coa, .inl (k 0, 40, .inl co)), (h0, .inr (1, [.ref cea, .ref roa, .ref coa, .ref ura, .ref uca, .ref au, .ref ap, .ref al, .ref ar, .ref ae, .int (nI rw9), .int (nI C9), .int (nI fs9), .int (nI tk9)])), (cea, .inl (k 4, 3731, .inr (.inr (.inr (.inr (fun j => adO (c2.1 j)))))))]) S hA [] [0, 1, 2, 3] rfl rfl (by decide) (by decide) (va_runV (As := []) (rest := []) ⟨hx, hb, C.2.2.1, C.2.2.2.1, C.2.2.2.2.1⟩ (g_P_sign l G k _ _ (qr * (C9 + 1) + i9) c2.2 (Z (qr * (C9 + 1) + i9)) N9 c2.1 Z V0 hN hh4.1 (by omega) at5 rfl (show V0 (qr * (C9 + 1) + i9) from by unfold V0; omega)) (k_virt (n := 0) C wc_Wh_sign rfl rfl wz_Wh wm_So_101 wn_Wh_sign ws_Wh_sign (by decide +kernel) ⟨(Nat.le_of_ble_eq_true rfl), (Nat.le_of_ble_eq_true rfl)⟩) (pr_nowVGP K S [] (by decide) rfl (Classical.choose_spec (at_mem at5 (show qr * (C9 + 1) + i9 < N9 by omega))) rfl) rfl rfl hl.1 rfl (lv_room (Nat.le_of_ble_eq_true rfl)) d_So_entering_19 ⟨(show pt st N9 - pt s8 N9 + (pt s8 N9 - pt c2.1 N9) ≤ pt st N9 + 400 from by omega), (show 2 * (pt st N9 - pt s8 N9) + (2 * (pt s8 N9 - pt c2.1 N9)) ≤ 2 * pt st N9 + 800 from by omega)⟩) (fun u9 H locs hw10 S => ?_)
        have S : Sw G A s.heap _ _ ([(roa, .inl (k 0, 40, .inl ro)), (coa, .inl (k 0, 40, .inl co)), (h0, .inr (1, [.ref cea, .ref roa, .ref coa, .ref ura, .ref uca, .ref au, .ref ap, .ref al, .ref ar, .ref ae, .int (nI rw9), .int (nI C9), .int (nI fs9), .int (nI tk9)])), (cea, .inl (k 4, 3731, .inr (.inr (.inr (.inr (fun j => adO (c2.1 j)))))))] ++ (tpl k c2.1 N9)) := S
        have hw10 : True := hw10
        show W p l e _ s m _ below meth c H locs _ _ _ (F0 m 22 ls [.int (sgI ((Z (qr * (C9 + 1) + i9))))])
        refine lv_if_le (tgt := 43) hx hb d_So_entering_22 (by decide) (fun hc11 => ?_) (fun hc11 => ?_)
        · refine lv_iinc (v := nI (i9 + 1)) (lv' := [(3, .int (nI (i9 + 1))), (2, .int b8), (0, .ref h0), (1, .int (nI qr))]) hx hb d_So_entering_43 hl (k := 1) rfl (show nI i9 + Int32.ofInt 1 = nI (i9 + 1) from (nI_add i9 1).trans (congrArg nI (by omega))) (by decide) rfl (fun ls hl => ?_)
          refine lv_goto (tgt := 5) hx hb d_So_entering_46 (by decide) ?_
          have hq8 : hO c2.1 Z := ⟨hh4.1, hh4.2⟩
          refine W.widen (show pt st N9 - pt s8 N9 + (pt s8 N9 - pt c2.1 N9) ≤ pt st N9 - pt c2.1 N9 from by omega) (show 2 * (pt st N9 - pt s8 N9) + (2 * (pt s8 N9 - pt c2.1 N9)) ≤ 2 * (pt st N9 - pt c2.1 N9) from by omega) ?_
          exact ih_lp c2.1 b8 (i9 + 1) (by omega) hq8 (hke8.tr ke6) (by omega) (by omega) (hb8.imp id (fun ⟨b7, q1, q2⟩ => ⟨b7, ⟨by omega, q1.2⟩, q2⟩)) _ _ (S.subP [2, 3, 0, 1] (by decide) rfl) ls (lv_sub hl [1, 0, 2, 3] rfl)
        · refine lv_iload_n hx hb d_So_entering_25 rfl (lv_at hl 0 rfl) ?_
          refine lv_bipush (v := (-2)) hx hb d_So_entering_26 (by decide) ?_
          refine lv_icmp_eq (tgt := 41) hx hb d_So_entering_28 (by decide) (fun hc12 => ?_) (fun hc12 => ?_)
          · refine lv_iload_n hx hb d_So_entering_41 rfl (lv_at hl 1 rfl) ?_
            refine lv_istore_n (lv' := [(2, .int (nI i9)), (3, .int (nI i9)), (0, .ref h0), (1, .int (nI qr))]) hx hb d_So_entering_42 rfl hl (by decide) rfl (fun ls hl => ?_)
            refine lv_iinc (v := nI (i9 + 1)) (lv' := [(3, .int (nI (i9 + 1))), (2, .int (nI i9)), (0, .ref h0), (1, .int (nI qr))]) hx hb d_So_entering_43 hl (k := 1) rfl (show nI i9 + Int32.ofInt 1 = nI (i9 + 1) from (nI_add i9 1).trans (congrArg nI (by omega))) (by decide) rfl (fun ls hl => ?_)
            refine lv_goto (tgt := 5) hx hb d_So_entering_46 (by decide) ?_
            have hq8 : hO c2.1 Z := ⟨hh4.1, hh4.2⟩
            refine W.widen (show pt st N9 - pt s8 N9 + (pt s8 N9 - pt c2.1 N9) ≤ pt st N9 - pt c2.1 N9 from by omega) (show 2 * (pt st N9 - pt s8 N9) + (2 * (pt s8 N9 - pt c2.1 N9)) ≤ 2 * (pt st N9 - pt c2.1 N9) from by omega) ?_
            exact ih_lp c2.1 (nI i9) (i9 + 1) (by omega) hq8 (hke8.tr ke6) (by omega) (by omega) (Or.inr ⟨i9, ⟨by omega, sgn_gt.mp (Int32.not_le.mp hc11)⟩, rfl⟩) _ _ (S.subP [2, 3, 0, 1] (by decide) rfl) ls (lv_sub hl [1, 0, 2, 3] rfl)
          · obtain ⟨b7, l7, e7⟩ := hb8.resolve_left hc12
            subst e7
            refine lv_aload_n hx hb d_So_entering_31 rfl (lv_at hl 2 rfl) ?_
            refine lv_iload_n hx hb d_So_entering_32 rfl (lv_at hl 0 rfl) ?_
            refine lv_iload_n hx hb d_So_entering_33 rfl (lv_at hl 1 rfl) ?_
            refine lv_iload_n hx hb d_So_entering_34 rfl (lv_at hl 3 rfl) ?_
            refine q_backP (wi := [(h0, .inr (1, [.ref cea, .ref roa, .ref coa, .ref ura, .ref uca, .ref au, .ref ap, .ref al, .ref ar, .ref ae, .int (nI rw9), .int (nI C9), .int (nI fs9), .int (nI tk9)])), (cea, .inl (k 4, 3731, .inr (.inr (.inr (.inr (fun j => adO (c2.1 j))))))), (roa, .inl (k 0, 40, .inl ro)), (coa, .inl (k 0, 40, .inl co))]) (wr := []) S hA [2, 3, 0, 1] [] rfl rfl (by decide) (by decide) (va_runV (As := [.int (nI b7), .int (nI i9), .int (nI qr)]) (rest := []) ⟨hx, hb, C.2.2.1, C.2.2.2.1, C.2.2.2.2.1⟩ (g_So_isDearer l G k h0 _ _ b7 i9 qr cea roa coa ura uca au ap al ar ae rw9 C9 fs9 tk9 ro co N9 c2.1 Z hN ⟨hh4.1, hh4.2⟩ (ke6.at (hke8.at hU)) (ke6.at (hke8.at hP)) (ke6.at (hke8.at hL)) (ke6.at (hke8.at hR)) (ke6.at (hke8.at hE)) (by omega) (by omega) hro hfs (by omega) (by omega) (by omega) (by omega)) (k_virt (n := 3) C wc_So_isDearer rfl rfl wz_So wm_So_108 wn_So_isDearer ws_So_isDearer (by decide +kernel) ⟨(Nat.le_of_ble_eq_true rfl), (Nat.le_of_ble_eq_true rfl)⟩) (pr_nowVGP K S [2, 3, 0, 1] (by decide) rfl (List.mem_append_left _ (List.mem_of_getElem? (i := 2) rfl)) rfl) rfl rfl hl.1 rfl (lv_room (Nat.le_of_ble_eq_true rfl)) d_So_entering_35 ⟨(show pt st N9 - pt s8 N9 + (pt s8 N9 - pt c2.1 N9) + (pt c2.1 N9 + 400) ≤ pt st N9 + 400 from by omega), (show 2 * (pt st N9 - pt s8 N9) + (2 * (pt s8 N9 - pt c2.1 N9)) + (2 * pt c2.1 N9 + 800) ≤ 2 * pt st N9 + 800 from by omega)⟩) (fun c13 H locs hw14 S => ?_)
            have S : Sw G A s.heap _ _ ([(h0, .inr (1, [.ref cea, .ref roa, .ref coa, .ref ura, .ref uca, .ref au, .ref ap, .ref al, .ref ar, .ref ae, .int (nI rw9), .int (nI C9), .int (nI fs9), .int (nI tk9)])), (cea, .inl (k 4, 3731, .inr (.inr (.inr (.inr (fun j => adO (c13.1 j))))))), (roa, .inl (k 0, 40, .inl ro)), (coa, .inl (k 0, 40, .inl co))] ++ (tpl k c13.1 N9)) := S
            have hw14 : hO c13.1 Z ∧ keO c2.1 c13.1 ∧ pt c13.1 N9 ≤ pt c2.1 N9 ∧ c13.2 ≤ 1 := hw14
            show W p l e _ s m _ below meth c H locs _ _ _ (F0 m 38 ls [.int (nI c13.2)])
            obtain ⟨ia1, ia2, ia3, ia4⟩ := hw14
            have hw14x := And.intro ia1 (And.intro ia2 ia3)
            obtain ⟨hh15, ke16, pt17⟩ := hw14x
            refine z_if_eq (a := c13.2) (tgt := 43) hx hb d_So_entering_38 (by decide) (by omega) (fun hc18 => ?_) (fun hc18 => ?_)
            · refine lv_iinc (v := nI (i9 + 1)) (lv' := [(3, .int (nI (i9 + 1))), (2, .int (nI b7)), (0, .ref h0), (1, .int (nI qr))]) hx hb d_So_entering_43 hl (k := 1) rfl (show nI i9 + Int32.ofInt 1 = nI (i9 + 1) from (nI_add i9 1).trans (congrArg nI (by omega))) (by decide) rfl (fun ls hl => ?_)
              refine lv_goto (tgt := 5) hx hb d_So_entering_46 (by decide) ?_
              have hq8 : hO c13.1 Z := ⟨hh15.1, hh15.2⟩
              refine W.widen (show pt st N9 - pt s8 N9 + (pt s8 N9 - pt c2.1 N9) + (pt c2.1 N9 - pt c13.1 N9) ≤ pt st N9 - pt c13.1 N9 from by omega) (show 2 * (pt st N9 - pt s8 N9) + (2 * (pt s8 N9 - pt c2.1 N9)) + (2 * (pt c2.1 N9 - pt c13.1 N9)) ≤ 2 * (pt st N9 - pt c13.1 N9) from by omega) ?_
              exact ih_lp c13.1 (nI b7) (i9 + 1) (by omega) hq8 ((hke8.tr ke6).tr ke16) (by omega) (by omega) (Or.inr ⟨b7, ⟨by omega, l7.2⟩, rfl⟩) _ _ (S.subP [0, 1, 2, 3] (by decide) rfl) ls (lv_sub hl [1, 0, 2, 3] rfl)
            · refine lv_iload_n hx hb d_So_entering_41 rfl (lv_at hl 1 rfl) ?_
              refine lv_istore_n (lv' := [(2, .int (nI i9)), (3, .int (nI i9)), (0, .ref h0), (1, .int (nI qr))]) hx hb d_So_entering_42 rfl hl (by decide) rfl (fun ls hl => ?_)
              refine lv_iinc (v := nI (i9 + 1)) (lv' := [(3, .int (nI (i9 + 1))), (2, .int (nI i9)), (0, .ref h0), (1, .int (nI qr))]) hx hb d_So_entering_43 hl (k := 1) rfl (show nI i9 + Int32.ofInt 1 = nI (i9 + 1) from (nI_add i9 1).trans (congrArg nI (by omega))) (by decide) rfl (fun ls hl => ?_)
              refine lv_goto (tgt := 5) hx hb d_So_entering_46 (by decide) ?_
              have hq8 : hO c13.1 Z := ⟨hh15.1, hh15.2⟩
              refine W.widen (show pt st N9 - pt s8 N9 + (pt s8 N9 - pt c2.1 N9) + (pt c2.1 N9 - pt c13.1 N9) ≤ pt st N9 - pt c13.1 N9 from by omega) (show 2 * (pt st N9 - pt s8 N9) + (2 * (pt s8 N9 - pt c2.1 N9)) + (2 * (pt c2.1 N9 - pt c13.1 N9)) ≤ 2 * (pt st N9 - pt c13.1 N9) from by omega) ?_
              exact ih_lp c13.1 (nI i9) (i9 + 1) (by omega) hq8 ((hke8.tr ke6).tr ke16) (by omega) (by omega) (Or.inr ⟨i9, ⟨by omega, sgn_gt.mp (Int32.not_le.mp hc11)⟩, rfl⟩) _ _ (S.subP [0, 1, 2, 3] (by decide) rfl) ls (lv_sub hl [1, 0, 2, 3] rfl)
  exact lp _ st (-2) 0 (Nat.lt_succ_self _) hz9 (keO.rf st) (by omega) (by omega) (Or.inl rfl) _ _ (S.subP [0, 1, 2, 3] (by decide) rfl) ls (lv_sub hl [1, 0, 2, 3] rfl)
end
