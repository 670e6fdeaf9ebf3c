theorem wm_Ne_149 : Cond.methodLink "PotentialBench$Needs" 149 arraycopyName ∈ gt := gt_i 514 (by decide +kernel) (by decide +kernel)
theorem wa_static : Cond.static arraycopyName ∈ gt := gt_i 515 (by decide +kernel) (by decide +kernel)
theorem wa_native : Cond.native arraycopyName ∈ gt := gt_i 516 (by decide +kernel) (by decide +kernel)
/-- the rows that Needs works with -/
def lpO (LP : List Nat) (sm cd br bs : Nat → Nat) (nsp nno : Nat) : Prop := (∀ j, j < 306 → sm j ∈ LP) ∧ (∀ j, j < 90 → cd j ∈ LP) ∧ (∀ j, j < 17 → br j ∈ LP) ∧ (∀ j, j < 17 → bs j ∈ LP) ∧ nsp ∈ LP ∧ nno ∈ LP
theorem d_JA_fill_0 : decode c_JA_fill 0 = .ok (.iconst 0, 1) := by decide +kernel
theorem d_JA_fill_1 : decode c_JA_fill 1 = .ok (.istore_n 2, 1) := by decide +kernel
theorem d_JA_fill_2 : decode c_JA_fill 2 = .ok (.aload_n 0, 1) := by decide +kernel
theorem d_JA_fill_3 : decode c_JA_fill 3 = .ok (.arraylength, 1) := by decide +kernel
theorem d_JA_fill_4 : decode c_JA_fill 4 = .ok (.istore_n 3, 1) := by decide +kernel
theorem d_JA_fill_5 : decode c_JA_fill 5 = .ok (.iload_n 2, 1) := by decide +kernel
theorem d_JA_fill_6 : decode c_JA_fill 6 = .ok (.iload_n 3, 1) := by decide +kernel
theorem d_JA_fill_7 : decode c_JA_fill 7 = .ok (.if_icmp .ge 13, 3) := by decide +kernel
theorem d_JA_fill_10 : decode c_JA_fill 10 = .ok (.aload_n 0, 1) := by decide +kernel
theorem d_JA_fill_11 : decode c_JA_fill 11 = .ok (.iload_n 2, 1) := by decide +kernel
theorem d_JA_fill_12 : decode c_JA_fill 12 = .ok (.iload_n 1, 1) := by decide +kernel
theorem d_JA_fill_13 : decode c_JA_fill 13 = .ok (.iastore, 1) := by decide +kernel
theorem d_JA_fill_14 : decode c_JA_fill 14 = .ok (.iinc 2 1, 3) := by decide +kernel
theorem d_JA_fill_17 : decode c_JA_fill 17 = .ok (.goto (-12), 3) := by decide +kernel
theorem d_JA_fill_20 : decode c_JA_fill 20 = .ok (.return_, 1) := by decide +kernel
set_option maxRecDepth 100000 in
set_option maxHeartbeats 16000000 in
/-- Arrays.fill -/
theorem g_JA_fill (l : Launch) (G : va_G) (k : Nat → ClassId) (s0 : Nat) (ra9 : Nat) (v9 : Int32) (LP : List Nat) (F : Nat → Nat → Int32) (hmr : ra9 ∈ LP) : CV l y_JA_fill c_JA_fill 4 { frames := 0, cells := 0, slots := 0, locals := 0 } [.ref ra9, .int v9] G k s0 ([] ++ va_pl LP (rwp k 41 F)) (fun (u : Nat → Nat → Int32) => True) (fun u => ([] ++ va_pl LP (rwp k 41 u))) 0 0 := by
  refine met_start (by decide) (Nat.le_of_ble_eq_true rfl) ?_
  intro p e s m below meth c C K hA hsz S ls hl
  generalize va_A ([] ++ va_pl LP (rwp k 41 F)) s0 = A at hA S ⊢
  have hx := C.1
  have hb := C.2.1
  have hl : lv_has ls 4 [(0, .ref ra9), (1, .int v9)] := hl
  refine lv_iconst (v := 0) hx hb d_JA_fill_0 (by decide) ?_
  refine lv_istore_n (lv' := [(2, .int 0), (0, .ref ra9), (1, .int v9)]) hx hb d_JA_fill_1 rfl hl (by decide) rfl (fun ls hl => ?_)
  refine lv_aload_n hx hb d_JA_fill_2 rfl (lv_at hl 1 rfl) ?_
  refine p_alen C K S hmr d_JA_fill_3 ?_
  refine lv_istore_n (lv' := [(3, .int 41), (2, .int 0), (0, .ref ra9), (1, .int v9)]) hx hb d_JA_fill_4 rfl hl (by decide) rfl (fun ls hl => ?_)
  have lp : ∀ d9, ∀ (i9 : Nat), ∀ (F8 : Nat → Nat → Int32), (41 - i9) < d9 → (i9 ≤ 41) → ∀ (H : Heap) (locs : List Loc), Sw G A s.heap H locs ([] ++ va_pl LP (rwp k 41 F8)) → ∀ ls : Array Slot, lv_has ls 4 [(2, .int (nI i9)), (3, .int 41), (0, .ref ra9), (1, .int v9)] → W p l e { frames := 0, cells := 0, slots := 0, locals := 0 } s m [Value.ref ra9, Value.int v9].toArray below meth c H locs 0 0 (MQ below (va_Qv (fun (u : Nat → Nat → Int32) => True) (Po G k A (fun u => ([] ++ va_pl LP (rwp k 41 u)))) A) [Value.ref ra9, Value.int v9].toArray s 0 0 A) (F0 m 5 ls []) := by
    intro d9
    induction d9 with
    | zero => intro i9 F8 hm; exact absurd hm (Nat.not_lt_zero _)
    | succ d9 ih_lp =>
      intro i9 F8 hm hi H locs S ls hl
      refine lv_iload_n hx hb d_JA_fill_5 rfl (lv_at hl 0 rfl) ?_
      refine lv_iload_n hx hb d_JA_fill_6 rfl (lv_at hl 1 rfl) ?_
      refine z_icmp_ge (a := i9) (b := 41) (tgt := 20) hx hb d_JA_fill_7 (by decide) (by omega) (by omega) (fun hc1 => ?_) (fun hc1 => ?_)
      · exact r_vret C K F8 trivial (S.subP [] (by decide) rfl) d_JA_fill_20 (Nat.le_of_ble_eq_true rfl) (Nat.le_of_ble_eq_true rfl)
      · refine lv_aload_n hx hb d_JA_fill_10 rfl (lv_at hl 2 rfl) ?_
        refine lv_iload_n hx hb d_JA_fill_11 rfl (lv_at hl 0 rfl) ?_
        refine lv_iload_n hx hb d_JA_fill_12 rfl (lv_at hl 3 rfl) ?_
        refine p_iast C K S hmr (i := nI i9) (x := v9) (show vp_in (nI i9) _ from vp_in_nI (n := i9) (by omega) (by omega)) d_JA_fill_13 (fun F2 H locs S => ?_)
        refine lv_iinc (v := nI (i9 + 1)) (lv' := [(2, .int (nI (i9 + 1))), (3, .int 41), (0, .ref ra9), (1, .int v9)]) hx hb d_JA_fill_14 hl (k := 0) rfl (show nI i9 + Int32.ofInt 1 = nI (i9 + 1) from (nI_add i9 1).trans (congrArg nI (by omega))) (by decide) rfl (fun ls hl => ?_)
        refine lv_goto (tgt := 5) hx hb d_JA_fill_17 (by decide) ?_
        exact ih_lp (i9 + 1) F2 (by omega) (by omega) _ _ (S.subP [] (by decide) rfl) ls (lv_sub hl [0, 1, 2, 3] rfl)
  exact lp _ 0 F (Nat.lt_succ_self _) (by omega) _ _ (S.subP [] (by decide) rfl) ls (lv_sub hl [1, 0, 2, 3] rfl)
theorem d_Ne_copy_0 : decode c_Ne_copy 0 = .ok (.aload_n 0, 1) := by decide +kernel
theorem d_Ne_copy_1 : decode c_Ne_copy 1 = .ok (.iconst 0, 1) := by decide +kernel
theorem d_Ne_copy_2 : decode c_Ne_copy 2 = .ok (.aload_n 1, 1) := by decide +kernel
theorem d_Ne_copy_3 : decode c_Ne_copy 3 = .ok (.iconst 0, 1) := by decide +kernel
theorem d_Ne_copy_4 : decode c_Ne_copy 4 = .ok (.bipush 41, 2) := by decide +kernel
theorem d_Ne_copy_6 : decode c_Ne_copy 6 = .ok (.invokestatic 149, 3) := by decide +kernel
theorem d_Ne_copy_9 : decode c_Ne_copy 9 = .ok (.return_, 1) := by decide +kernel
set_option maxRecDepth 100000 in
set_option maxHeartbeats 16000000 in
/-- copy -/
theorem g_Ne_copy (l : Launch) (G : va_G) (k : Nat → ClassId) (s0 : Nat) (ra9 : Nat) (rb9 : Nat) (LP : List Nat) (F : Nat → Nat → Int32) (hmr : ra9 ∈ LP) (hms : rb9 ∈ LP) : CV l y_Ne_copy c_Ne_copy 2 { frames := 1, cells := 0, slots := 0, locals := 60 } [.ref ra9, .ref rb9] G k s0 ([] ++ va_pl LP (rwp k 41 F)) (fun (u : Nat → Nat → Int32) => True) (fun u => ([] ++ va_pl LP (rwp k 41 u))) 0 0 := by
  refine met_start (by decide) (Nat.le_of_ble_eq_true rfl) ?_
  intro p e s m below meth c C K hA hsz S ls hl
  generalize va_A ([] ++ va_pl LP (rwp k 41 F)) s0 = A at hA S ⊢
  have hx := C.1
  have hb := C.2.1
  have hl : lv_has ls 2 [(0, .ref ra9), (1, .ref rb9)] := hl
  refine lv_aload_n hx hb d_Ne_copy_0 rfl (lv_at hl 0 rfl) ?_
  refine lv_iconst (v := 0) hx hb d_Ne_copy_1 (by decide) ?_
  refine lv_aload_n hx hb d_Ne_copy_2 rfl (lv_at hl 1 rfl) ?_
  refine lv_iconst (v := 0) hx hb d_Ne_copy_3 (by decide) ?_
  refine lv_bipush (v := 41) hx hb d_Ne_copy_4 (by decide) ?_
  refine p_copy C K S hl.1 wm_Ne_149 wa_native wa_static wz_JS hmr hms (w := 41) (by decide) (by decide) (Nat.le_of_ble_eq_true rfl) (Nat.le_of_ble_eq_true rfl) d_Ne_copy_6 (fun F1 H locs S => ?_)
  exact r_vret C K F1 trivial (S.subP [] (by decide) rfl) d_Ne_copy_9 (Nat.le_of_ble_eq_true rfl) (Nat.le_of_ble_eq_true rfl)
theorem d_Ne_plus_0 : decode c_Ne_plus 0 = .ok (.iconst 0, 1) := by decide +kernel
theorem d_Ne_plus_1 : decode c_Ne_plus 1 = .ok (.istore_n 2, 1) := by decide +kernel
theorem d_Ne_plus_2 : decode c_Ne_plus 2 = .ok (.iload_n 2, 1) := by decide +kernel
theorem d_Ne_plus_3 : decode c_Ne_plus 3 = .ok (.bipush 40, 2) := by decide +kernel
theorem d_Ne_plus_5 : decode c_Ne_plus 5 = .ok (.if_icmp .gt 18, 3) := by decide +kernel
theorem d_Ne_plus_8 : decode c_Ne_plus 8 = .ok (.aload_n 0, 1) := by decide +kernel
theorem d_Ne_plus_9 : decode c_Ne_plus 9 = .ok (.iload_n 2, 1) := by decide +kernel
theorem d_Ne_plus_10 : decode c_Ne_plus 10 = .ok (.dup2, 1) := by decide +kernel
theorem d_Ne_plus_11 : decode c_Ne_plus 11 = .ok (.iaload, 1) := by decide +kernel
theorem d_Ne_plus_12 : decode c_Ne_plus 12 = .ok (.aload_n 1, 1) := by decide +kernel
theorem d_Ne_plus_13 : decode c_Ne_plus 13 = .ok (.iload_n 2, 1) := by decide +kernel
theorem d_Ne_plus_14 : decode c_Ne_plus 14 = .ok (.iaload, 1) := by decide +kernel
theorem d_Ne_plus_15 : decode c_Ne_plus 15 = .ok (.iadd, 1) := by decide +kernel
theorem d_Ne_plus_16 : decode c_Ne_plus 16 = .ok (.iastore, 1) := by decide +kernel
theorem d_Ne_plus_17 : decode c_Ne_plus 17 = .ok (.iinc 2 1, 3) := by decide +kernel
theorem d_Ne_plus_20 : decode c_Ne_plus 20 = .ok (.goto (-18), 3) := by decide +kernel
theorem d_Ne_plus_23 : decode c_Ne_plus 23 = .ok (.return_, 1) := by decide +kernel
set_option maxRecDepth 100000 in
set_option maxHeartbeats 16000000 in
/-- plus -/
theorem g_Ne_plus (l : Launch) (G : va_G) (k : Nat → ClassId) (s0 : Nat) (ra9 : Nat) (rb9 : Nat) (LP : List Nat) (F : Nat → Nat → Int32) (hmr : ra9 ∈ LP) (hms : rb9 ∈ LP) : CV l y_Ne_plus c_Ne_plus 3 { frames := 0, cells := 0, slots := 0, locals := 0 } [.ref ra9, .ref rb9] G k s0 ([] ++ va_pl LP (rwp k 41 F)) (fun (u : Nat → Nat → Int32) => True) (fun u => ([] ++ va_pl LP (rwp k 41 u))) 0 0 := by
  refine met_start (by decide) (Nat.le_of_ble_eq_true rfl) ?_
  intro p e s m below meth c C K hA hsz S ls hl
  generalize va_A ([] ++ va_pl LP (rwp k 41 F)) s0 = A at hA S ⊢
  have hx := C.1
  have hb := C.2.1
  have hl : lv_has ls 3 [(0, .ref ra9), (1, .ref rb9)] := hl
  refine lv_iconst (v := 0) hx hb d_Ne_plus_0 (by decide) ?_
  refine lv_istore_n (lv' := [(2, .int 0), (0, .ref ra9), (1, .ref rb9)]) hx hb d_Ne_plus_1 rfl hl (by decide) rfl (fun ls hl => ?_)
  have lp : ∀ d9, ∀ (i9 : Nat), ∀ (F8 : Nat → Nat → Int32), (41 - i9) < d9 → (i9 ≤ 41) → ∀ (H : Heap) (locs : List Loc), Sw G A s.heap H locs ([] ++ va_pl LP (rwp k 41 F8)) → ∀ ls : Array Slot, lv_has ls 3 [(2, .int (nI i9)), (0, .ref ra9), (1, .ref rb9)] → W p l e { frames := 0, cells := 0, slots := 0, locals := 0 } s m [Value.ref ra9, Value.ref rb9].toArray below meth c H locs 0 0 (MQ below (va_Qv (fun (u : Nat → Nat → Int32) => True) (Po G k A (fun u => ([] ++ va_pl LP (rwp k 41 u)))) A) [Value.ref ra9, Value.ref rb9].toArray s 0 0 A) (F0 m 2 ls []) := by
    intro d9
    induction d9 with
    | zero => intro i9 F8 hm; exact absurd hm (Nat.not_lt_zero _)
    | succ d9 ih_lp =>
      intro i9 F8 hm hi H locs S ls hl
      refine lv_iload_n hx hb d_Ne_plus_2 rfl (lv_at hl 0 rfl) ?_
      refine lv_bipush (v := 40) hx hb d_Ne_plus_3 (by decide) ?_
      refine z_icmp_gt (a := i9) (b := 40) (tgt := 23) hx hb d_Ne_plus_5 (by decide) (by omega) (by omega) (fun hc1 => ?_) (fun hc1 => ?_)
      · exact r_vret C K F8 trivial (S.subP [] (by decide) rfl) d_Ne_plus_23 (Nat.le_of_ble_eq_true rfl) (Nat.le_of_ble_eq_true rfl)
      · refine lv_aload_n hx hb d_Ne_plus_8 rfl (lv_at hl 1 rfl) ?_
        refine lv_iload_n hx hb d_Ne_plus_9 rfl (lv_at hl 0 rfl) ?_
        refine lv_dup2_11 hx hb d_Ne_plus_10 rfl rfl ?_
        refine p_iald C K S hmr (i := nI i9) (show vp_in (nI i9) _ from vp_in_nI (n := i9) (by omega) (by omega)) d_Ne_plus_11 (fun iv2 => ?_)
        refine lv_aload_n hx hb d_Ne_plus_12 rfl (lv_at hl 2 rfl) ?_
        refine lv_iload_n hx hb d_Ne_plus_13 rfl (lv_at hl 0 rfl) ?_
        refine p_iald C K S hms (i := nI i9) (show vp_in (nI i9) _ from vp_in_nI (n := i9) (by omega) (by omega)) d_Ne_plus_14 (fun iv3 => ?_)
        refine lv_iadd hx hb d_Ne_plus_15 ?_
        refine p_iast C K S hmr (i := nI i9) (x := iv2 + iv3) (show vp_in (nI i9) _ from vp_in_nI (n := i9) (by omega) (by omega)) d_Ne_plus_16 (fun F4 H locs S => ?_)
        refine lv_iinc (v := nI (i9 + 1)) (lv' := [(2, .int (nI (i9 + 1))), (0, .ref ra9), (1, .ref rb9)]) hx hb d_Ne_plus_17 hl (k := 0) rfl (show nI i9 + Int32.ofInt 1 = nI (i9 + 1) from (nI_add i9 1).trans (congrArg nI (by omega))) (by decide) rfl (fun ls hl => ?_)
        refine lv_goto (tgt := 2) hx hb d_Ne_plus_20 (by decide) ?_
        exact ih_lp (i9 + 1) F4 (by omega) (by omega) _ _ (S.subP [] (by decide) rfl) ls (lv_sub hl [0, 1, 2] rfl)
  exact lp _ 0 F (Nat.lt_succ_self _) (by omega) _ _ (S.subP [] (by decide) rfl) ls (lv_sub hl [0, 1, 2] rfl)
theorem d_Ne_sum_0 : decode c_Ne_sum 0 = .ok (.aload_n 0, 1) := by decide +kernel
theorem d_Ne_sum_1 : decode c_Ne_sum 1 = .ok (.getfield 26, 3) := by decide +kernel
theorem d_Ne_sum_4 : decode c_Ne_sum 4 = .ok (.iload_n 1, 1) := by decide +kernel
theorem d_Ne_sum_5 : decode c_Ne_sum 5 = .ok (.bipush 18, 2) := by decide +kernel
theorem d_Ne_sum_7 : decode c_Ne_sum 7 = .ok (.imul, 1) := by decide +kernel
theorem d_Ne_sum_8 : decode c_Ne_sum 8 = .ok (.iload_n 2, 1) := by decide +kernel
theorem d_Ne_sum_9 : decode c_Ne_sum 9 = .ok (.iadd, 1) := by decide +kernel
theorem d_Ne_sum_10 : decode c_Ne_sum 10 = .ok (.aaload, 1) := by decide +kernel
theorem d_Ne_sum_11 : decode c_Ne_sum 11 = .ok (.areturn, 1) := by decide +kernel
set_option maxRecDepth 100000 in
set_option maxHeartbeats 16000000 in
/-- sum -/
theorem g_Ne_sum (l : Launch) (G : va_G) (k : Nat → ClassId) (h0 : Nat) (s0 : Nat) (lv9 : Nat) (v9 : Nat) (ca : Nat) (nfo : Nat) (ncd : Nat) (nsp : Nat) (nno : Nat) (nsm : Nat) (nbr : Nat) (nbs : Nat) (nbd : Nat) (un9 : Nat) (co9 : Nat) (fl9 : Nat) (sm : Nat → Nat) (hlv : 18 * lv9 + v9 < 306) : CR l y_Ne_sum c_Ne_sum 3 (.array .int) { frames := 0, cells := 0, slots := 0, locals := 0 } [.ref h0, .int (nI lv9), .int (nI v9)] G k s0 [(h0, .inr (7, [.ref ca, .ref nfo, .ref ncd, .ref nsp, .ref nno, .ref nsm, .ref nbr, .ref nbs, .ref nbd, .int (nI un9), .int (nI co9), .int (nI fl9)])), (nsm, .inl (k 5, 306, .inr (.inr (.inr (.inr (fun j => some (sm j)))))))] (fun (u : Unit) => True) (fun (u : Unit) => sm (18 * lv9 + v9)) (fun u => [(h0, .inr (7, [.ref ca, .ref nfo, .ref ncd, .ref nsp, .ref nno, .ref nsm, .ref nbr, .ref nbs, .ref nbd, .int (nI un9), .int (nI co9), .int (nI fl9)])), (nsm, .inl (k 5, 306, .inr (.inr (.inr (.inr (fun j => some (sm j)))))))]) 0 0 := by
  refine met_start (by decide) (Nat.le_of_ble_eq_true rfl) ?_
  intro p e s m below meth c C K hA hsz S ls hl
  generalize va_A [(h0, .inr (7, [.ref ca, .ref nfo, .ref ncd, .ref nsp, .ref nno, .ref nsm, .ref nbr, .ref nbs, .ref nbd, .int (nI un9), .int (nI co9), .int (nI fl9)])), (nsm, .inl (k 5, 306, .inr (.inr (.inr (.inr (fun j => some (sm j)))))))] s0 = A at hA S ⊢
  have hx := C.1
  have hb := C.2.1
  have hl : lv_has ls 3 [(0, .ref h0), (1, .int (nI lv9)), (2, .int (nI v9))] := hl
  refine lv_aload_n hx hb d_Ne_sum_0 rfl (lv_at hl 0 rfl) ?_
  refine r_get C K S 0 rfl rfl clOk_Ne 5 (by decide) wf_Ne_26 (v := .ref nsm) rfl d_Ne_sum_1 ?_
  refine lv_iload_n hx hb d_Ne_sum_4 rfl (lv_at hl 1 rfl) ?_
  refine lv_bipush (v := 18) hx hb d_Ne_sum_5 (by decide) ?_
  refine z_imul (x := nI lv9) (y := 18) (v := nI (lv9 * 18)) hx hb d_Ne_sum_7 (pk_mul lv9 18) ?_
  refine lv_iload_n hx hb d_Ne_sum_8 rfl (lv_at hl 2 rfl) ?_
  refine z_iadd (x := nI (lv9 * 18)) (y := nI v9) (v := nI (lv9 * 18 + v9)) hx hb d_Ne_sum_9 (nI_add (lv9 * 18) v9) ?_
  refine r_aaldM C K S 1 rfl (i := nI (lv9 * 18 + v9)) (show vp_in (nI (lv9 * 18 + v9)) _ from vp_in_nI (n := (lv9 * 18 + v9)) (by omega) (by decide)) (b := (sm (lv9 * 18 + v9))) (by rw [nI_clamp (by omega)]) d_Ne_sum_10 ?_
  exact r_aret C K () trivial (congrArg sm (by omega)) (S.sub [0, 1] (by decide) rfl) d_Ne_sum_11 (Nat.le_of_ble_eq_true rfl) (Nat.le_of_ble_eq_true rfl)
def caN (co : Nat) : Nat := if co < 90 then co + 1 else co
def flN (co fl : Nat) : Nat := if co < 90 then fl else 1
theorem caN_le {co : Nat} (h : co ≤ 90) : caN co ≤ 90 := by
  unfold caN
  split <;> omega
theorem flN_le {co fl : Nat} (h : fl ≤ 1) : flN co fl ≤ 1 := by
  unfold flN
  split <;> omega
theorem d_Ne_atLeast_0 : decode c_Ne_atLeast 0 = .ok (.aload_n 0, 1) := by decide +kernel
theorem d_Ne_atLeast_1 : decode c_Ne_atLeast 1 = .ok (.getfield 20, 3) := by decide +kernel
theorem d_Ne_atLeast_4 : decode c_Ne_atLeast 4 = .ok (.astore_n 3, 1) := by decide +kernel
theorem d_Ne_atLeast_5 : decode c_Ne_atLeast 5 = .ok (.aload_n 0, 1) := by decide +kernel
theorem d_Ne_atLeast_6 : decode c_Ne_atLeast 6 = .ok (.getfield 47, 3) := by decide +kernel
theorem d_Ne_atLeast_9 : decode c_Ne_atLeast 9 = .ok (.bipush 90, 2) := by decide +kernel
theorem d_Ne_atLeast_11 : decode c_Ne_atLeast 11 = .ok (.if_icmp .ge 26, 3) := by decide +kernel
theorem d_Ne_atLeast_14 : decode c_Ne_atLeast 14 = .ok (.aload_n 0, 1) := by decide +kernel
theorem d_Ne_atLeast_15 : decode c_Ne_atLeast 15 = .ok (.getfield 17, 3) := by decide +kernel
theorem d_Ne_atLeast_18 : decode c_Ne_atLeast 18 = .ok (.aload_n 0, 1) := by decide +kernel
theorem d_Ne_atLeast_19 : decode c_Ne_atLeast 19 = .ok (.getfield 47, 3) := by decide +kernel
theorem d_Ne_atLeast_22 : decode c_Ne_atLeast 22 = .ok (.aaload, 1) := by decide +kernel
theorem d_Ne_atLeast_23 : decode c_Ne_atLeast 23 = .ok (.astore_n 3, 1) := by decide +kernel
theorem d_Ne_atLeast_24 : decode c_Ne_atLeast 24 = .ok (.aload_n 0, 1) := by decide +kernel
theorem d_Ne_atLeast_25 : decode c_Ne_atLeast 25 = .ok (.dup, 1) := by decide +kernel
theorem d_Ne_atLeast_26 : decode c_Ne_atLeast 26 = .ok (.getfield 47, 3) := by decide +kernel
theorem d_Ne_atLeast_29 : decode c_Ne_atLeast 29 = .ok (.iconst 1, 1) := by decide +kernel
theorem d_Ne_atLeast_30 : decode c_Ne_atLeast 30 = .ok (.iadd, 1) := by decide +kernel
theorem d_Ne_atLeast_31 : decode c_Ne_atLeast 31 = .ok (.putfield 47, 3) := by decide +kernel
theorem d_Ne_atLeast_34 : decode c_Ne_atLeast 34 = .ok (.goto 8, 3) := by decide +kernel
theorem d_Ne_atLeast_37 : decode c_Ne_atLeast 37 = .ok (.aload_n 0, 1) := by decide +kernel
theorem d_Ne_atLeast_38 : decode c_Ne_atLeast 38 = .ok (.iconst 1, 1) := by decide +kernel
theorem d_Ne_atLeast_39 : decode c_Ne_atLeast 39 = .ok (.putfield 50, 3) := by decide +kernel
theorem d_Ne_atLeast_42 : decode c_Ne_atLeast 42 = .ok (.iconst 0, 1) := by decide +kernel
theorem d_Ne_atLeast_43 : decode c_Ne_atLeast 43 = .ok (.istore 4, 2) := by decide +kernel
theorem d_Ne_atLeast_45 : decode c_Ne_atLeast 45 = .ok (.iload 4, 2) := by decide +kernel
theorem d_Ne_atLeast_47 : decode c_Ne_atLeast 47 = .ok (.bipush 40, 2) := by decide +kernel
theorem d_Ne_atLeast_49 : decode c_Ne_atLeast 49 = .ok (.if_icmp .gt 18, 3) := by decide +kernel
theorem d_Ne_atLeast_52 : decode c_Ne_atLeast 52 = .ok (.aload_n 3, 1) := by decide +kernel
theorem d_Ne_atLeast_53 : decode c_Ne_atLeast 53 = .ok (.iload 4, 2) := by decide +kernel
theorem d_Ne_atLeast_55 : decode c_Ne_atLeast 55 = .ok (.aload_n 2, 1) := by decide +kernel
theorem d_Ne_atLeast_56 : decode c_Ne_atLeast 56 = .ok (.iload 4, 2) := by decide +kernel
theorem d_Ne_atLeast_58 : decode c_Ne_atLeast 58 = .ok (.iaload, 1) := by decide +kernel
theorem d_Ne_atLeast_59 : decode c_Ne_atLeast 59 = .ok (.ineg, 1) := by decide +kernel
theorem d_Ne_atLeast_60 : decode c_Ne_atLeast 60 = .ok (.iastore, 1) := by decide +kernel
theorem d_Ne_atLeast_61 : decode c_Ne_atLeast 61 = .ok (.iinc 4 1, 3) := by decide +kernel
theorem d_Ne_atLeast_64 : decode c_Ne_atLeast 64 = .ok (.goto (-19), 3) := by decide +kernel
theorem d_Ne_atLeast_67 : decode c_Ne_atLeast 67 = .ok (.aload_n 3, 1) := by decide +kernel
theorem d_Ne_atLeast_68 : decode c_Ne_atLeast 68 = .ok (.iload_n 1, 1) := by decide +kernel
theorem d_Ne_atLeast_69 : decode c_Ne_atLeast 69 = .ok (.dup2, 1) := by decide +kernel
theorem d_Ne_atLeast_70 : decode c_Ne_atLeast 70 = .ok (.iaload, 1) := by decide +kernel
theorem d_Ne_atLeast_71 : decode c_Ne_atLeast 71 = .ok (.iconst 1, 1) := by decide +kernel
theorem d_Ne_atLeast_72 : decode c_Ne_atLeast 72 = .ok (.iadd, 1) := by decide +kernel
theorem d_Ne_atLeast_73 : decode c_Ne_atLeast 73 = .ok (.iastore, 1) := by decide +kernel
theorem d_Ne_atLeast_74 : decode c_Ne_atLeast 74 = .ok (.aload_n 3, 1) := by decide +kernel
theorem d_Ne_atLeast_75 : decode c_Ne_atLeast 75 = .ok (.areturn, 1) := by decide +kernel
set_option maxRecDepth 100000 in
set_option maxHeartbeats 16000000 in
/-- atLeast -/
theorem g_Ne_atLeast (l : Launch) (G : va_G) (k : Nat → ClassId) (h0 : Nat) (s0 : Nat) (xu : Nat) (rs9 : Nat) (ca : Nat) (nfo : Nat) (ncd : Nat) (nsp : Nat) (nno : Nat) (nsm : Nat) (nbr : Nat) (nbs : Nat) (nbd : Nat) (un9 : Nat) (co9 : Nat) (fl9 : Nat) (cd : Nat → Nat) (LP : List Nat) (F : Nat → Nat → Int32) (hxu : xu ≤ 40) (hco : co9 ≤ 90) (hms : rs9 ∈ LP) (hcd : ∀ j, j < 90 → cd j ∈ LP) (hsp : nsp ∈ LP) : CR l y_Ne_atLeast c_Ne_atLeast 5 (.array .int) { frames := 0, cells := 0, slots := 0, locals := 0 } [.ref h0, .int (nI xu), .ref rs9] G k s0 ([(h0, .inr (7, [.ref ca, .ref nfo, .ref ncd, .ref nsp, .ref nno, .ref nsm, .ref nbr, .ref nbs, .ref nbd, .int (nI un9), .int (nI co9), .int (nI fl9)])), (ncd, .inl (k 5, 90, .inr (.inr (.inr (.inr (fun j => some (cd j)))))))] ++ va_pl LP (rwp k 41 F)) (fun (u : (Nat → Nat → Int32) × Nat) => u.2 ∈ LP) (fun (u : (Nat → Nat → Int32) × Nat) => u.2) (fun u => ([(h0, .inr (7, [.ref ca, .ref nfo, .ref ncd, .ref nsp, .ref nno, .ref nsm, .ref nbr, .ref nbs, .ref nbd, .int (nI un9), .int (nI (caN co9)), .int (nI (flN co9 fl9))])), (ncd, .inl (k 5, 90, .inr (.inr (.inr (.inr (fun j => some (cd j)))))))] ++ va_pl LP (rwp k 41 u.1))) 0 0 := by
  refine met_start (by decide) (Nat.le_of_ble_eq_true rfl) ?_
  intro p e s m below meth c C K hA hsz S ls hl
  generalize va_A ([(h0, .inr (7, [.ref ca, .ref nfo, .ref ncd, .ref nsp, .ref nno, .ref nsm, .ref nbr, .ref nbs, .ref nbd, .int (nI un9), .int (nI co9), .int (nI fl9)])), (ncd, .inl (k 5, 90, .inr (.inr (.inr (.inr (fun j => some (cd j)))))))] ++ va_pl LP (rwp k 41 F)) s0 = A at hA S ⊢
  have hx := C.1
  have hb := C.2.1
  have hl : lv_has ls 5 [(0, .ref h0), (1, .int (nI xu)), (2, .ref rs9)] := hl
  refine lv_aload_n hx hb d_Ne_atLeast_0 rfl (lv_at hl 0 rfl) ?_
  refine r_get C K S 0 rfl rfl clOk_Ne 3 (by decide) wf_Ne_20 (v := .ref nsp) rfl d_Ne_atLeast_1 ?_
  refine lv_astore_n (lv' := [(3, .ref nsp), (0, .ref h0), (1, .int (nI xu)), (2, .ref rs9)]) hx hb d_Ne_atLeast_4 rfl hl (by decide) rfl (fun ls hl => ?_)
  have key : ∀ (rr : Nat), ∀ (co8 : Nat), ∀ (fl8 : Nat), (rr ∈ LP) → (co8 = caN co9) → (fl8 = flN co9 fl9) → ∀ (H : Heap) (locs : List Loc), Sw G A s.heap H locs ([(h0, .inr (7, [.ref ca, .ref nfo, .ref ncd, .ref nsp, .ref nno, .ref nsm, .ref nbr, .ref nbs, .ref nbd, .int (nI un9), .int (nI co8), .int (nI fl8)])), (ncd, .inl (k 5, 90, .inr (.inr (.inr (.inr (fun j => some (cd j)))))))] ++ va_pl LP (rwp k 41 F)) → ∀ ls : Array Slot, lv_has ls 5 [(3, .ref rr), (0, .ref h0), (1, .int (nI xu)), (2, .ref rs9)] → W p l e { frames := 0, cells := 0, slots := 0, locals := 0 } s m [Value.ref h0, Value.int (nI xu), Value.ref rs9].toArray below meth c H locs 0 0 (MQ below (va_Qr (fun (u : (Nat → Nat → Int32) × Nat) => u.2 ∈ LP) (fun u a t => a = (fun (u : (Nat → Nat → Int32) × Nat) => u.2)  u ∧ Po G k A (fun u => ([(h0, .inr (7, [.ref ca, .ref nfo, .ref ncd, .ref nsp, .ref nno, .ref nsm, .ref nbr, .ref nbs, .ref nbd, .int (nI un9), .int (nI (caN co9)), .int (nI (flN co9 fl9))])), (ncd, .inl (k 5, 90, .inr (.inr (.inr (.inr (fun j => some (cd j)))))))] ++ va_pl LP (rwp k 41 u.1))) u t) A) [Value.ref h0, Value.int (nI xu), Value.ref rs9].toArray s 0 0 A) (F0 m 42 ls []) := by
    intro rr co8 fl8 hrr hc8 hf8 H locs S ls hl
    subst hc8
    subst hf8
    refine lv_iconst (v := 0) hx hb d_Ne_atLeast_42 (by decide) ?_
    refine lv_istore (lv' := [(4, .int 0), (3, .ref rr), (0, .ref h0), (1, .int (nI xu)), (2, .ref rs9)]) hx hb d_Ne_atLeast_43 hl (by decide) rfl (fun ls hl => ?_)
    have lp : ∀ d9, ∀ (i9 : Nat), ∀ (F8 : Nat → Nat → Int32), (41 - i9) < d9 → (i9 ≤ 41) → ∀ (H : Heap) (locs : List Loc), Sw G A s.heap H locs ([(h0, .inr (7, [.ref ca, .ref nfo, .ref ncd, .ref nsp, .ref nno, .ref nsm, .ref nbr, .ref nbs, .ref nbd, .int (nI un9), .int (nI (caN co9)), .int (nI (flN co9 fl9))])), (ncd, .inl (k 5, 90, .inr (.inr (.inr (.inr (fun j => some (cd j)))))))] ++ va_pl LP (rwp k 41 F8)) → ∀ ls : Array Slot, lv_has ls 5 [(4, .int (nI i9)), (3, .ref rr), (0, .ref h0), (1, .int (nI xu)), (2, .ref rs9)] → W p l e { frames := 0, cells := 0, slots := 0, locals := 0 } s m [Value.ref h0, Value.int (nI xu), Value.ref rs9].toArray below meth c H locs 0 0 (MQ below (va_Qr (fun (u : (Nat → Nat → Int32) × Nat) => u.2 ∈ LP) (fun u a t => a = (fun (u : (Nat → Nat → Int32) × Nat) => u.2)  u ∧ Po G k A (fun u => ([(h0, .inr (7, [.ref ca, .ref nfo, .ref ncd, .ref nsp, .ref nno, .ref nsm, .ref nbr, .ref nbs, .ref nbd, .int (nI un9), .int (nI (caN co9)), .int (nI (flN co9 fl9))])), (ncd, .inl (k 5, 90, .inr (.inr (.inr (.inr (fun j => some (cd j)))))))] ++ va_pl LP (rwp k 41 u.1))) u t) A) [Value.ref h0, Value.int (nI xu), Value.ref rs9].toArray s 0 0 A) (F0 m 45 ls []) := by
      intro d9
      induction d9 with
      | zero => intro i9 F8 hm; exact absurd hm (Nat.not_lt_zero _)
      | succ d9 ih_lp =>
        intro i9 F8 hm hi H locs S ls hl
        refine lv_iload hx hb d_Ne_atLeast_45 (lv_at hl 0 rfl) ?_
        refine lv_bipush (v := 40) hx hb d_Ne_atLeast_47 (by decide) ?_
        refine z_icmp_gt (a := i9) (b := 40) (tgt := 67) hx hb d_Ne_atLeast_49 (by decide) (by omega) (by omega) (fun hc1 => ?_) (fun hc1 => ?_)
        · refine lv_aload_n hx hb d_Ne_atLeast_67 rfl (lv_at hl 1 rfl) ?_
          refine lv_iload_n hx hb d_Ne_atLeast_68 rfl (lv_at hl 3 rfl) ?_
          refine lv_dup2_11 hx hb d_Ne_atLeast_69 rfl rfl ?_
          refine p_iald C K S hrr (i := nI xu) (show vp_in (nI xu) _ from vp_in_nI (n := xu) (by omega) (by omega)) d_Ne_atLeast_70 (fun iv2 => ?_)
          refine lv_iconst (v := 1) hx hb d_Ne_atLeast_71 (by decide) ?_
          refine lv_iadd hx hb d_Ne_atLeast_72 ?_
          refine p_iast C K S hrr (i := nI xu) (x := iv2 + 1) (show vp_in (nI xu) _ from vp_in_nI (n := xu) (by omega) (by omega)) d_Ne_atLeast_73 (fun F3 H locs S => ?_)
          refine lv_aload_n hx hb d_Ne_atLeast_74 rfl (lv_at hl 1 rfl) ?_
          exact r_aret C K (F3, rr) hrr rfl (S.subP [0, 1] (by decide) rfl) d_Ne_atLeast_75 (Nat.le_of_ble_eq_true rfl) (Nat.le_of_ble_eq_true rfl)
        · refine lv_aload_n hx hb d_Ne_atLeast_52 rfl (lv_at hl 1 rfl) ?_
          refine lv_iload hx hb d_Ne_atLeast_53 (lv_at hl 0 rfl) ?_
          refine lv_aload_n hx hb d_Ne_atLeast_55 rfl (lv_at hl 4 rfl) ?_
          refine lv_iload hx hb d_Ne_atLeast_56 (lv_at hl 0 rfl) ?_
          refine p_iald C K S hms (i := nI i9) (show vp_in (nI i9) _ from vp_in_nI (n := i9) (by omega) (by omega)) d_Ne_atLeast_58 (fun iv4 => ?_)
          refine lv_ineg hx hb d_Ne_atLeast_59 ?_
          refine p_iast C K S hrr (i := nI i9) (x := -iv4) (show vp_in (nI i9) _ from vp_in_nI (n := i9) (by omega) (by omega)) d_Ne_atLeast_60 (fun F5 H locs S => ?_)
          refine lv_iinc (v := nI (i9 + 1)) (lv' := [(4, .int (nI (i9 + 1))), (3, .ref rr), (0, .ref h0), (1, .int (nI xu)), (2, .ref rs9)]) hx hb d_Ne_atLeast_61 hl (k := 0) rfl (show nI i9 + Int32.ofInt 1 = nI (i9 + 1) from (nI_add i9 1).trans (congrArg nI (by omega))) (by decide) rfl (fun ls hl => ?_)
          refine lv_goto (tgt := 45) hx hb d_Ne_atLeast_64 (by decide) ?_
          exact ih_lp (i9 + 1) F5 (by omega) (by omega) _ _ (S.subP [0, 1] (by decide) rfl) ls (lv_sub hl [0, 1, 2, 3, 4] rfl)
    exact lp _ 0 F (Nat.lt_succ_self _) (by omega) _ _ (S.subP [0, 1] (by decide) rfl) ls (lv_sub hl [0, 1, 2, 3, 4] rfl)
  refine lv_aload_n hx hb d_Ne_atLeast_5 rfl (lv_at hl 1 rfl) ?_
  refine r_get C K S 0 rfl rfl clOk_Ne 10 (by decide) wf_Ne_47 (v := .int (nI co9)) rfl d_Ne_atLeast_6 ?_
  refine lv_bipush (v := 90) hx hb d_Ne_atLeast_9 (by decide) ?_
  refine z_icmp_ge (a := co9) (b := 90) (tgt := 37) hx hb d_Ne_atLeast_11 (by decide) (by omega) (by omega) (fun hc6 => ?_) (fun hc6 => ?_)
  · refine lv_aload_n hx hb d_Ne_atLeast_37 rfl (lv_at hl 1 rfl) ?_
    refine lv_iconst (v := 1) hx hb d_Ne_atLeast_38 (by decide) ?_
    refine r_put C K S 0 rfl rfl clOk_Ne 11 (by decide) wf_Ne_50 rfl (ty := .boolean) (v := .int 1) (by decide +kernel) rfl rfl (Nat.le_of_ble_eq_true rfl) (fs' := [.ref ca, .ref nfo, .ref ncd, .ref nsp, .ref nno, .ref nsm, .ref nbr, .ref nbs, .ref nbd, .int (nI un9), .int (nI co9), .int 1]) (ws' := ([(h0, .inr (7, [.ref ca, .ref nfo, .ref ncd, .ref nsp, .ref nno, .ref nsm, .ref nbr, .ref nbs, .ref nbd, .int (nI un9), .int (nI co9), .int 1])), (ncd, .inl (k 5, 90, .inr (.inr (.inr (.inr (fun j => some (cd j)))))))] ++ va_pl LP (rwp k 41 F))) rfl rfl d_Ne_atLeast_39 (fun H locs S => ?_)
    exact key nsp co9 1 hsp (by unfold caN; rw [if_neg (by omega)]) (by unfold flN; rw [if_neg (by omega)]) _ _ (S.subP [0, 1] (by decide) rfl) ls (lv_sub hl [0, 1, 2, 3] rfl)
  · refine lv_aload_n hx hb d_Ne_atLeast_14 rfl (lv_at hl 1 rfl) ?_
    refine r_get C K S 0 rfl rfl clOk_Ne 2 (by decide) wf_Ne_17 (v := .ref ncd) rfl d_Ne_atLeast_15 ?_
    refine lv_aload_n hx hb d_Ne_atLeast_18 rfl (lv_at hl 1 rfl) ?_
    refine r_get C K S 0 rfl rfl clOk_Ne 10 (by decide) wf_Ne_47 (v := .int (nI co9)) rfl d_Ne_atLeast_19 ?_
    refine r_aaldM C K S 1 rfl (i := nI co9) (show vp_in (nI co9) _ from vp_in_nI (n := co9) (by omega) (by decide)) (b := (cd co9)) (by rw [nI_clamp (by omega)]) d_Ne_atLeast_22 ?_
    refine lv_astore_n (lv' := [(3, .ref (cd co9)), (0, .ref h0), (1, .int (nI xu)), (2, .ref rs9)]) hx hb d_Ne_atLeast_23 rfl hl (by decide) rfl (fun ls hl => ?_)
    refine lv_aload_n hx hb d_Ne_atLeast_24 rfl (lv_at hl 1 rfl) ?_
    refine lv_dup hx hb d_Ne_atLeast_25 rfl ?_
    refine r_get C K S 0 rfl rfl clOk_Ne 10 (by decide) wf_Ne_47 (v := .int (nI co9)) rfl d_Ne_atLeast_26 ?_
    refine lv_iconst (v := 1) hx hb d_Ne_atLeast_29 (by decide) ?_
    refine z_iadd (x := nI co9) (y := 1) (v := nI (co9 + 1)) hx hb d_Ne_atLeast_30 (nI_add co9 1) ?_
    refine r_put C K S 0 rfl rfl clOk_Ne 10 (by decide) wf_Ne_47 rfl (ty := .int) (v := .int (nI (co9 + 1))) (by decide +kernel) rfl rfl (Nat.le_of_ble_eq_true rfl) (fs' := [.ref ca, .ref nfo, .ref ncd, .ref nsp, .ref nno, .ref nsm, .ref nbr, .ref nbs, .ref nbd, .int (nI un9), .int (nI (co9 + 1)), .int (nI fl9)]) (ws' := ([(h0, .inr (7, [.ref ca, .ref nfo, .ref ncd, .ref nsp, .ref nno, .ref nsm, .ref nbr, .ref nbs, .ref nbd, .int (nI un9), .int (nI (co9 + 1)), .int (nI fl9)])), (ncd, .inl (k 5, 90, .inr (.inr (.inr (.inr (fun j => some (cd j)))))))] ++ va_pl LP (rwp k 41 F))) rfl rfl d_Ne_atLeast_31 (fun H locs S => ?_)
    refine lv_goto (tgt := 42) hx hb d_Ne_atLeast_34 (by decide) ?_
    exact key (cd co9) (co9 + 1) fl9 (hcd _ (by omega)) (by unfold caN; rw [if_pos (by omega)]) (by unfold flN; rw [if_pos (by omega)]) _ _ (S.subP [0, 1] (by decide) rfl) ls (lv_sub hl [0, 1, 2, 3] rfl)
theorem d_Ne_handDown_0 : decode c_Ne_handDown 0 = .ok (.aload_n 0, 1) := by decide +kernel
theorem d_Ne_handDown_1 : decode c_Ne_handDown 1 = .ok (.getfield 29, 3) := by decide +kernel
theorem d_Ne_handDown_4 : decode c_Ne_handDown 4 = .ok (.iload_n 1, 1) := by decide +kernel
theorem d_Ne_handDown_5 : decode c_Ne_handDown 5 = .ok (.aaload, 1) := by decide +kernel
theorem d_Ne_handDown_6 : decode c_Ne_handDown 6 = .ok (.aload_n 0, 1) := by decide +kernel
theorem d_Ne_handDown_7 : decode c_Ne_handDown 7 = .ok (.getfield 29, 3) := by decide +kernel
theorem d_Ne_handDown_10 : decode c_Ne_handDown 10 = .ok (.iload_n 1, 1) := by decide +kernel
theorem d_Ne_handDown_11 : decode c_Ne_handDown 11 = .ok (.iconst 1, 1) := by decide +kernel
theorem d_Ne_handDown_12 : decode c_Ne_handDown 12 = .ok (.iadd, 1) := by decide +kernel
theorem d_Ne_handDown_13 : decode c_Ne_handDown 13 = .ok (.aaload, 1) := by decide +kernel
theorem d_Ne_handDown_14 : decode c_Ne_handDown 14 = .ok (.invokestatic 122, 3) := by decide +kernel
theorem d_Ne_handDown_17 : decode c_Ne_handDown 17 = .ok (.aload_n 0, 1) := by decide +kernel
theorem d_Ne_handDown_18 : decode c_Ne_handDown 18 = .ok (.getfield 32, 3) := by decide +kernel
theorem d_Ne_handDown_21 : decode c_Ne_handDown 21 = .ok (.iload_n 1, 1) := by decide +kernel
theorem d_Ne_handDown_22 : decode c_Ne_handDown 22 = .ok (.aaload, 1) := by decide +kernel
theorem d_Ne_handDown_23 : decode c_Ne_handDown 23 = .ok (.aload_n 0, 1) := by decide +kernel
theorem d_Ne_handDown_24 : decode c_Ne_handDown 24 = .ok (.getfield 32, 3) := by decide +kernel
theorem d_Ne_handDown_27 : decode c_Ne_handDown 27 = .ok (.iload_n 1, 1) := by decide +kernel
theorem d_Ne_handDown_28 : decode c_Ne_handDown 28 = .ok (.iconst 1, 1) := by decide +kernel
theorem d_Ne_handDown_29 : decode c_Ne_handDown 29 = .ok (.iadd, 1) := by decide +kernel
theorem d_Ne_handDown_30 : decode c_Ne_handDown 30 = .ok (.aaload, 1) := by decide +kernel
theorem d_Ne_handDown_31 : decode c_Ne_handDown 31 = .ok (.invokestatic 122, 3) := by decide +kernel
theorem d_Ne_handDown_34 : decode c_Ne_handDown 34 = .ok (.return_, 1) := by decide +kernel
set_option maxRecDepth 100000 in
set_option maxHeartbeats 16000000 in
/-- handDown -/
theorem g_Ne_handDown (l : Launch) (G : va_G) (k : Nat → ClassId) (h0 : Nat) (s0 : Nat) (dp : Nat) (ca : Nat) (nfo : Nat) (ncd : Nat) (nsp : Nat) (nno : Nat) (nsm : Nat) (nbr : Nat) (nbs : Nat) (nbd : Nat) (un9 : Nat) (co9 : Nat) (fl9 : Nat) (sm : Nat → Nat) (cd : Nat → Nat) (br : Nat → Nat) (bs : Nat → Nat) (LP : List Nat) (F : Nat → Nat → Int32) (hLP : lpO LP sm cd br bs nsp nno) (hdp : dp < 16) : CV l y_Ne_handDown c_Ne_handDown 2 { frames := 2, cells := 0, slots := 0, locals := 81 } [.ref h0, .int (nI dp)] G k s0 ([(h0, .inr (7, [.ref ca, .ref nfo, .ref ncd, .ref nsp, .ref nno, .ref nsm, .ref nbr, .ref nbs, .ref nbd, .int (nI un9), .int (nI co9), .int (nI fl9)])), (nbr, .inl (k 5, 17, .inr (.inr (.inr (.inr (fun j => some (br j))))))), (nbs, .inl (k 5, 17, .inr (.inr (.inr (.inr (fun j => some (bs j)))))))] ++ va_pl LP (rwp k 41 F)) (fun (u : Nat → Nat → Int32) => True) (fun u => ([(h0, .inr (7, [.ref ca, .ref nfo, .ref ncd, .ref nsp, .ref nno, .ref nsm, .ref nbr, .ref nbs, .ref nbd, .int (nI un9), .int (nI co9), .int (nI fl9)])), (nbr, .inl (k 5, 17, .inr (.inr (.inr (.inr (fun j => some (br j))))))), (nbs, .inl (k 5, 17, .inr (.inr (.inr (.inr (fun j => some (bs j)))))))] ++ va_pl LP (rwp k 41 u))) 0 0 := by
  refine met_start (by decide) (Nat.le_of_ble_eq_true rfl) ?_
  intro p e s m below meth c C K hA hsz S ls hl
  generalize va_A ([(h0, .inr (7, [.ref ca, .ref nfo, .ref ncd, .ref nsp, .ref nno, .ref nsm, .ref nbr, .ref nbs, .ref nbd, .int (nI un9), .int (nI co9), .int (nI fl9)])), (nbr, .inl (k 5, 17, .inr (.inr (.inr (.inr (fun j => some (br j))))))), (nbs, .inl (k 5, 17, .inr (.inr (.inr (.inr (fun j => some (bs j)))))))] ++ va_pl LP (rwp k 41 F)) s0 = A at hA S ⊢
  have hx := C.1
  have hb := C.2.1
  have hl : lv_has ls 2 [(0, .ref h0), (1, .int (nI dp))] := hl
  refine lv_aload_n hx hb d_Ne_handDown_0 rfl (lv_at hl 0 rfl) ?_
  refine r_get C K S 0 rfl rfl clOk_Ne 6 (by decide) wf_Ne_29 (v := .ref nbr) rfl d_Ne_handDown_1 ?_
  refine lv_iload_n hx hb d_Ne_handDown_4 rfl (lv_at hl 1 rfl) ?_
  refine r_aaldM C K S 1 rfl (i := nI dp) (show vp_in (nI dp) _ from vp_in_nI (n := dp) (by omega) (by decide)) (b := (br dp)) (by rw [nI_clamp (by omega)]) d_Ne_handDown_5 ?_
  refine lv_aload_n hx hb d_Ne_handDown_6 rfl (lv_at hl 0 rfl) ?_
  refine r_get C K S 0 rfl rfl clOk_Ne 6 (by decide) wf_Ne_29 (v := .ref nbr) rfl d_Ne_handDown_7 ?_
  refine lv_iload_n hx hb d_Ne_handDown_10 rfl (lv_at hl 1 rfl) ?_
  refine lv_iconst (v := 1) hx hb d_Ne_handDown_11 (by decide) ?_
  refine z_iadd (x := nI dp) (y := 1) (v := nI (dp + 1)) hx hb d_Ne_handDown_12 (nI_add dp 1) ?_
  refine r_aaldM C K S 1 rfl (i := nI (dp + 1)) (show vp_in (nI (dp + 1)) _ from vp_in_nI (n := (dp + 1)) (by omega) (by decide)) (b := (br (dp + 1))) (by rw [nI_clamp (by omega)]) d_Ne_handDown_13 ?_
  refine r_backvP (wi := []) (wr := [(h0, .inr (7, [.ref ca, .ref nfo, .ref ncd, .ref nsp, .ref nno, .ref nsm, .ref nbr, .ref nbs, .ref nbd, .int (nI un9), .int (nI co9), .int (nI fl9)])), (nbr, .inl (k 5, 17, .inr (.inr (.inr (.inr (fun j => some (br j))))))), (nbs, .inl (k 5, 17, .inr (.inr (.inr (.inr (fun j => some (bs j)))))))]) S hA [] [0, 1, 2] rfl rfl (by decide) (by decide) (va_runS (As := [.ref (br dp), .ref (br (dp + 1))]) (rest := []) ⟨hx, hb, C.2.2.1, C.2.2.2.1, C.2.2.2.2.1⟩ (g_Ne_copy l G k _ (br dp) (br (dp + 1)) LP F (hLP.2.2.1 _ (by omega)) (hLP.2.2.1 _ (by omega))) (k_stat (n := 2) C wc_Ne_copy rfl rfl wz_Ne wm_Ne_122 wt_Ne_copy (by decide +kernel) ⟨(Nat.le_of_ble_eq_true rfl), (Nat.le_of_ble_eq_true rfl)⟩) (pr_nowP K S [] (by decide) rfl) rfl rfl hl.1 rfl (lv_room (Nat.le_of_ble_eq_true rfl)) d_Ne_handDown_14 ⟨(Nat.le_of_ble_eq_true rfl), (Nat.le_of_ble_eq_true rfl)⟩) (fun u1 H locs hw2 S => ?_)
  have S : Sw G A s.heap _ _ ([(h0, .inr (7, [.ref ca, .ref nfo, .ref ncd, .ref nsp, .ref nno, .ref nsm, .ref nbr, .ref nbs, .ref nbd, .int (nI un9), .int (nI co9), .int (nI fl9)])), (nbr, .inl (k 5, 17, .inr (.inr (.inr (.inr (fun j => some (br j))))))), (nbs, .inl (k 5, 17, .inr (.inr (.inr (.inr (fun j => some (bs j)))))))] ++ va_pl LP (rwp k 41 u1)) := S
  refine lv_aload_n hx hb d_Ne_handDown_17 rfl (lv_at hl 0 rfl) ?_
  refine r_get C K S 0 rfl rfl clOk_Ne 7 (by decide) wf_Ne_32 (v := .ref nbs) rfl d_Ne_handDown_18 ?_
  refine lv_iload_n hx hb d_Ne_handDown_21 rfl (lv_at hl 1 rfl) ?_
  refine r_aaldM C K S 2 rfl (i := nI dp) (show vp_in (nI dp) _ from vp_in_nI (n := dp) (by omega) (by decide)) (b := (bs dp)) (by rw [nI_clamp (by omega)]) d_Ne_handDown_22 ?_
  refine lv_aload_n hx hb d_Ne_handDown_23 rfl (lv_at hl 0 rfl) ?_
  refine r_get C K S 0 rfl rfl clOk_Ne 7 (by decide) wf_Ne_32 (v := .ref nbs) rfl d_Ne_handDown_24 ?_
  refine lv_iload_n hx hb d_Ne_handDown_27 rfl (lv_at hl 1 rfl) ?_
  refine lv_iconst (v := 1) hx hb d_Ne_handDown_28 (by decide) ?_
  refine z_iadd (x := nI dp) (y := 1) (v := nI (dp + 1)) hx hb d_Ne_handDown_29 (nI_add dp 1) ?_
  refine r_aaldM C K S 2 rfl (i := nI (dp + 1)) (show vp_in (nI (dp + 1)) _ from vp_in_nI (n := (dp + 1)) (by omega) (by decide)) (b := (bs (dp + 1))) (by rw [nI_clamp (by omega)]) d_Ne_handDown_30 ?_
  refine r_backvP (wi := []) (wr := [(h0, .inr (7, [.ref ca, .ref nfo, .ref ncd, .ref nsp, .ref nno, .ref nsm, .ref nbr, .ref nbs, .ref nbd, .int (nI un9), .int (nI co9), .int (nI fl9)])), (nbr, .inl (k 5, 17, .inr (.inr (.inr (.inr (fun j => some (br j))))))), (nbs, .inl (k 5, 17, .inr (.inr (.inr (.inr (fun j => some (bs j)))))))]) S hA [] [0, 1, 2] rfl rfl (by decide) (by decide) (va_runS (As := [.ref (bs dp), .ref (bs (dp + 1))]) (rest := []) ⟨hx, hb, C.2.2.1, C.2.2.2.1, C.2.2.2.2.1⟩ (g_Ne_copy l G k _ (bs dp) (bs (dp + 1)) LP u1 (hLP.2.2.2.1 _ (by omega)) (hLP.2.2.2.1 _ (by omega))) (k_stat (n := 2) C wc_Ne_copy rfl rfl wz_Ne wm_Ne_122 wt_Ne_copy (by decide +kernel) ⟨(Nat.le_of_ble_eq_true rfl), (Nat.le_of_ble_eq_true rfl)⟩) (pr_nowP K S [] (by decide) rfl) rfl rfl hl.1 rfl (lv_room (Nat.le_of_ble_eq_true rfl)) d_Ne_handDown_31 ⟨(Nat.le_of_ble_eq_true rfl), (Nat.le_of_ble_eq_true rfl)⟩) (fun u3 H locs hw4 S => ?_)
  have S : Sw G A s.heap _ _ ([(h0, .inr (7, [.ref ca, .ref nfo, .ref ncd, .ref nsp, .ref nno, .ref nsm, .ref nbr, .ref nbs, .ref nbd, .int (nI un9), .int (nI co9), .int (nI fl9)])), (nbr, .inl (k 5, 17, .inr (.inr (.inr (.inr (fun j => some (br j))))))), (nbs, .inl (k 5, 17, .inr (.inr (.inr (.inr (fun j => some (bs j)))))))] ++ va_pl LP (rwp k 41 u3)) := S
  exact r_vret C K u3 trivial (S.subP [0, 1, 2] (by decide) rfl) d_Ne_handDown_34 (Nat.le_of_ble_eq_true rfl) (Nat.le_of_ble_eq_true rfl)
theorem d_Ne_clear_0 : decode c_Ne_clear 0 = .ok (.iconst 0, 1) := by decide +kernel
theorem d_Ne_clear_1 : decode c_Ne_clear 1 = .ok (.istore_n 2, 1) := by decide +kernel
theorem d_Ne_clear_2 : decode c_Ne_clear 2 = .ok (.iload_n 2, 1) := by decide +kernel
theorem d_Ne_clear_3 : decode c_Ne_clear 3 = .ok (.bipush 18, 2) := by decide +kernel
theorem d_Ne_clear_5 : decode c_Ne_clear 5 = .ok (.if_icmp .ge 19, 3) := by decide +kernel
theorem d_Ne_clear_8 : decode c_Ne_clear 8 = .ok (.aload_n 0, 1) := by decide +kernel
theorem d_Ne_clear_9 : decode c_Ne_clear 9 = .ok (.iload_n 1, 1) := by decide +kernel
theorem d_Ne_clear_10 : decode c_Ne_clear 10 = .ok (.iload_n 2, 1) := by decide +kernel
theorem d_Ne_clear_11 : decode c_Ne_clear 11 = .ok (.invokevirtual 83, 3) := by decide +kernel
theorem d_Ne_clear_14 : decode c_Ne_clear 14 = .ok (.iconst 0, 1) := by decide +kernel
theorem d_Ne_clear_15 : decode c_Ne_clear 15 = .ok (.invokestatic 63, 3) := by decide +kernel
theorem d_Ne_clear_18 : decode c_Ne_clear 18 = .ok (.iinc 2 1, 3) := by decide +kernel
theorem d_Ne_clear_21 : decode c_Ne_clear 21 = .ok (.goto (-19), 3) := by decide +kernel
theorem d_Ne_clear_24 : decode c_Ne_clear 24 = .ok (.return_, 1) := by decide +kernel
set_option maxRecDepth 100000 in
set_option maxHeartbeats 16000000 in
/-- clear -/
theorem g_Ne_clear (l : Launch) (G : va_G) (k : Nat → ClassId) (h0 : Nat) (s0 : Nat) (lv9 : Nat) (ca : Nat) (nfo : Nat) (ncd : Nat) (nsp : Nat) (nno : Nat) (nsm : Nat) (nbr : Nat) (nbs : Nat) (nbd : Nat) (un9 : Nat) (co9 : Nat) (fl9 : Nat) (sm : Nat → Nat) (cd : Nat → Nat) (br : Nat → Nat) (bs : Nat → Nat) (LP : List Nat) (F : Nat → Nat → Int32) (hLP : lpO LP sm cd br bs nsp nno) (hlv : lv9 ≤ 16) : CV l y_Ne_clear c_Ne_clear 3 { frames := 1, cells := 0, slots := 0, locals := 23 } [.ref h0, .int (nI lv9)] G k s0 ([(h0, .inr (7, [.ref ca, .ref nfo, .ref ncd, .ref nsp, .ref nno, .ref nsm, .ref nbr, .ref nbs, .ref nbd, .int (nI un9), .int (nI co9), .int (nI fl9)])), (nsm, .inl (k 5, 306, .inr (.inr (.inr (.inr (fun j => some (sm j)))))))] ++ va_pl LP (rwp k 41 F)) (fun (u : Nat → Nat → Int32) => True) (fun u => ([(h0, .inr (7, [.ref ca, .ref nfo, .ref ncd, .ref nsp, .ref nno, .ref nsm, .ref nbr, .ref nbs, .ref nbd, .int (nI un9), .int (nI co9), .int (nI fl9)])), (nsm, .inl (k 5, 306, .inr (.inr (.inr (.inr (fun j => some (sm j)))))))] ++ va_pl LP (rwp k 41 u))) 0 0 := by
  refine met_start (by decide) (Nat.le_of_ble_eq_true rfl) ?_
  intro p e s m below meth c C K hA hsz S ls hl
  generalize va_A ([(h0, .inr (7, [.ref ca, .ref nfo, .ref ncd, .ref nsp, .ref nno, .ref nsm, .ref nbr, .ref nbs, .ref nbd, .int (nI un9), .int (nI co9), .int (nI fl9)])), (nsm, .inl (k 5, 306, .inr (.inr (.inr (.inr (fun j => some (sm j)))))))] ++ va_pl LP (rwp k 41 F)) s0 = A at hA S ⊢
  have hx := C.1
  have hb := C.2.1
  have hl : lv_has ls 3 [(0, .ref h0), (1, .int (nI lv9))] := hl
  refine lv_iconst (v := 0) hx hb d_Ne_clear_0 (by decide) ?_
  refine lv_istore_n (lv' := [(2, .int 0), (0, .ref h0), (1, .int (nI lv9))]) hx hb d_Ne_clear_1 rfl hl (by decide) rfl (fun ls hl => ?_)
  have lp : ∀ d9, ∀ (i9 : Nat), ∀ (F8 : Nat → Nat → Int32), (18 - i9) < d9 → (i9 ≤ 18) → ∀ (H : Heap) (locs : List Loc), Sw G A s.heap H locs ([(h0, .inr (7, [.ref ca, .ref nfo, .ref ncd, .ref nsp, .ref nno, .ref nsm, .ref nbr, .ref nbs, .ref nbd, .int (nI un9), .int (nI co9), .int (nI fl9)])), (nsm, .inl (k 5, 306, .inr (.inr (.inr (.inr (fun j => some (sm j)))))))] ++ va_pl LP (rwp k 41 F8)) → ∀ ls : Array Slot, lv_has ls 3 [(2, .int (nI i9)), (0, .ref h0), (1, .int (nI lv9))] → W p l e { frames := 1, cells := 0, slots := 0, locals := 23 } s m [Value.ref h0, Value.int (nI lv9)].toArray below meth c H locs 0 0 (MQ below (va_Qv (fun (u : Nat → Nat → Int32) => True) (Po G k A (fun u => ([(h0, .inr (7, [.ref ca, .ref nfo, .ref ncd, .ref nsp, .ref nno, .ref nsm, .ref nbr, .ref nbs, .ref nbd, .int (nI un9), .int (nI co9), .int (nI fl9)])), (nsm, .inl (k 5, 306, .inr (.inr (.inr (.inr (fun j => some (sm j)))))))] ++ va_pl LP (rwp k 41 u)))) A) [Value.ref h0, Value.int (nI lv9)].toArray s 0 0 A) (F0 m 2 ls []) := by
    intro d9
    induction d9 with
    | zero => intro i9 F8 hm; exact absurd hm (Nat.not_lt_zero _)
    | succ d9 ih_lp =>
      intro i9 F8 hm hi H locs S ls hl
      refine lv_iload_n hx hb d_Ne_clear_2 rfl (lv_at hl 0 rfl) ?_
      refine lv_bipush (v := 18) hx hb d_Ne_clear_3 (by decide) ?_
      refine z_icmp_ge (a := i9) (b := 18) (tgt := 24) hx hb d_Ne_clear_5 (by decide) (by omega) (by omega) (fun hc1 => ?_) (fun hc1 => ?_)
      · exact r_vret C K F8 trivial (S.subP [0, 1] (by decide) rfl) d_Ne_clear_24 (Nat.le_of_ble_eq_true rfl) (Nat.le_of_ble_eq_true rfl)
      · refine lv_aload_n hx hb d_Ne_clear_8 rfl (lv_at hl 1 rfl) ?_
        refine lv_iload_n hx hb d_Ne_clear_9 rfl (lv_at hl 2 rfl) ?_
        refine lv_iload_n hx hb d_Ne_clear_10 rfl (lv_at hl 0 rfl) ?_
        refine r_backrQ (wi := [(h0, .inr (7, [.ref ca, .ref nfo, .ref ncd, .ref nsp, .ref nno, .ref nsm, .ref nbr, .ref nbs, .ref nbd, .int (nI un9), .int (nI co9), .int (nI fl9)])), (nsm, .inl (k 5, 306, .inr (.inr (.inr (.inr (fun j => some (sm j)))))))]) (wr := []) S hA [0, 1] [] rfl rfl (by decide) (by decide) (va_runV (As := [.int (nI lv9), .int (nI i9)]) (rest := []) ⟨hx, hb, C.2.2.1, C.2.2.2.1, C.2.2.2.2.1⟩ (g_Ne_sum l G k h0 _ lv9 i9 ca nfo ncd nsp nno nsm nbr nbs nbd un9 co9 fl9 sm (by first | assumption | omega)) (k_virt (n := 2) C wc_Ne_sum rfl rfl wz_Ne wm_Ne_83 wn_Ne_sum ws_Ne_sum (by decide +kernel) ⟨(Nat.le_of_ble_eq_true rfl), (Nat.le_of_ble_eq_true rfl)⟩) (pr_nowV K S [0, 1] (by decide) (ap_in rfl) 0 rfl rfl) rfl rfl hl.1 rfl (lv_room (Nat.le_of_ble_eq_true rfl)) d_Ne_clear_11 ⟨(Nat.le_of_ble_eq_true rfl), (Nat.le_of_ble_eq_true rfl)⟩) (fun u2 H locs hw3 S => ?_)
        have S : Sw G A s.heap _ _ ([(h0, .inr (7, [.ref ca, .ref nfo, .ref ncd, .ref nsp, .ref nno, .ref nsm, .ref nbr, .ref nbs, .ref nbd, .int (nI un9), .int (nI co9), .int (nI fl9)])), (nsm, .inl (k 5, 306, .inr (.inr (.inr (.inr (fun j => some (sm j)))))))] ++ va_pl LP (rwp k 41 F8)) := S
        refine lv_iconst (v := 0) hx hb d_Ne_clear_14 (by decide) ?_
        refine r_backvP (wi := []) (wr := [(h0, .inr (7, [.ref ca, .ref nfo, .ref ncd, .ref nsp, .ref nno, .ref nsm, .ref nbr, .ref nbs, .ref nbd, .int (nI un9), .int (nI co9), .int (nI fl9)])), (nsm, .inl (k 5, 306, .inr (.inr (.inr (.inr (fun j => some (sm j)))))))]) S hA [] [0, 1] rfl rfl (by decide) (by decide) (va_runS (As := [.ref (sm (18 * lv9 + i9)), .int 0]) (rest := []) ⟨hx, hb, C.2.2.1, C.2.2.2.1, C.2.2.2.2.1⟩ (g_JA_fill l G k _ (sm (18 * lv9 + i9)) 0 LP F8 (hLP.1 _ (by omega))) (k_stat (n := 2) C wc_JA_fill rfl rfl wz_JA wm_Ne_63 wt_JA_fill (by decide +kernel) ⟨(Nat.le_of_ble_eq_true rfl), (Nat.le_of_ble_eq_true rfl)⟩) (pr_nowP K S [] (by decide) rfl) rfl rfl hl.1 rfl (lv_room (Nat.le_of_ble_eq_true rfl)) d_Ne_clear_15 ⟨(Nat.le_of_ble_eq_true rfl), (Nat.le_of_ble_eq_true rfl)⟩) (fun u4 H locs hw5 S => ?_)
        have S : Sw G A s.heap _ _ ([(h0, .inr (7, [.ref ca, .ref nfo, .ref ncd, .ref nsp, .ref nno, .ref nsm, .ref nbr, .ref nbs, .ref nbd, .int (nI un9), .int (nI co9), .int (nI fl9)])), (nsm, .inl (k 5, 306, .inr (.inr (.inr (.inr (fun j => some (sm j)))))))] ++ va_pl LP (rwp k 41 u4)) := S
        refine lv_iinc (v := nI (i9 + 1)) (lv' := [(2, .int (nI (i9 + 1))), (0, .ref h0), (1, .int (nI lv9))]) hx hb d_Ne_clear_18 hl (k := 0) rfl (show nI i9 + Int32.ofInt 1 = nI (i9 + 1) from (nI_add i9 1).trans (congrArg nI (by omega))) (by decide) rfl (fun ls hl => ?_)
        refine lv_goto (tgt := 2) hx hb d_Ne_clear_21 (by decide) ?_
        exact ih_lp (i9 + 1) u4 (by omega) (by omega) _ _ (S.subP [0, 1] (by decide) rfl) ls (lv_sub hl [0, 1, 2] rfl)
  exact lp _ 0 F (Nat.lt_succ_self _) (by omega) _ _ (S.subP [0, 1] (by decide) rfl) ls (lv_sub hl [0, 1, 2] rfl)
