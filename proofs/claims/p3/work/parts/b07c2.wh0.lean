theorem wm_Wh_35 : Cond.methodLink "PotentialBench$Whole" 35 arraycopyName ∈ gt := gt_i 644 (by decide +kernel) (by decide +kernel)
theorem wm_JA_150 : Cond.methodLink "java/util/Arrays" 150 arraycopyName ∈ gt := gt_i 635 (by decide +kernel) (by decide +kernel)
theorem d_JI_compare_0 : decode c_JI_compare 0 = .ok (.iload_n 0, 1) := by decide +kernel
theorem d_JI_compare_1 : decode c_JI_compare 1 = .ok (.iload_n 1, 1) := by decide +kernel
theorem d_JI_compare_2 : decode c_JI_compare 2 = .ok (.if_icmp .ge 7, 3) := by decide +kernel
theorem d_JI_compare_5 : decode c_JI_compare 5 = .ok (.iconst (-1), 1) := by decide +kernel
theorem d_JI_compare_6 : decode c_JI_compare 6 = .ok (.goto 13, 3) := by decide +kernel
theorem d_JI_compare_9 : decode c_JI_compare 9 = .ok (.iload_n 0, 1) := by decide +kernel
theorem d_JI_compare_10 : decode c_JI_compare 10 = .ok (.iload_n 1, 1) := by decide +kernel
theorem d_JI_compare_11 : decode c_JI_compare 11 = .ok (.if_icmp .ne 7, 3) := by decide +kernel
theorem d_JI_compare_14 : decode c_JI_compare 14 = .ok (.iconst 0, 1) := by decide +kernel
theorem d_JI_compare_15 : decode c_JI_compare 15 = .ok (.goto 4, 3) := by decide +kernel
theorem d_JI_compare_18 : decode c_JI_compare 18 = .ok (.iconst 1, 1) := by decide +kernel
theorem d_JI_compare_19 : decode c_JI_compare 19 = .ok (.ireturn, 1) := by decide +kernel
set_option maxRecDepth 100000 in
set_option maxHeartbeats 16000000 in
/-- Integer.compare -/
theorem g_JI_compare (l : Launch) (G : va_G) (k : Nat → ClassId) (s0 sl : Nat) (x9 : Int32) (y9 : Int32) : CG l y_JI_compare c_JI_compare 2 (some .int) { frames := 0, cells := 0, slots := 0, locals := 0 } [.int x9, .int y9] G k s0 sl [] (fun (u : Unit) => some (.int (icI x9 y9))) (fun (u : Unit) => True) (fun (u : Unit) => []) (fun (u : Unit) => 0) (fun (u : Unit) => 0) 0 0 := by
  refine met_startG (by decide) (Nat.le_of_ble_eq_true rfl) ?_
  intro p e s m below meth c C K hA hsz S ls hl
  generalize va_A [] s0 = A at hA S ⊢
  have hx := C.1
  have hb := C.2.1
  have hl : lv_has ls 2 [(0, .int x9), (1, .int y9)] := hl
  refine lv_iload_n hx hb d_JI_compare_0 rfl (lv_at hl 0 rfl) ?_
  refine lv_iload_n hx hb d_JI_compare_1 rfl (lv_at hl 1 rfl) ?_
  refine lv_icmp_ge (tgt := 9) hx hb d_JI_compare_2 (by decide) (fun hc1 => ?_) (fun hc1 => ?_)
  · refine lv_iload_n hx hb d_JI_compare_9 rfl (lv_at hl 0 rfl) ?_
    refine lv_iload_n hx hb d_JI_compare_10 rfl (lv_at hl 1 rfl) ?_
    refine lv_icmp_ne (tgt := 18) hx hb d_JI_compare_11 (by decide) (fun hc2 => ?_) (fun hc2 => ?_)
    · refine lv_iconst (v := 1) hx hb d_JI_compare_18 (by decide) ?_
      exact q_iret C K hsz rfl () (by rw [ic_gt hc1 hc2]) trivial (S.sub [] (by decide) rfl) d_JI_compare_19 (Nat.zero_le _) (Nat.zero_le _) (Nat.zero_le _) (Nat.zero_le _)
    · refine lv_iconst (v := 0) hx hb d_JI_compare_14 (by decide) ?_
      refine lv_goto (tgt := 19) hx hb d_JI_compare_15 (by decide) ?_
      exact q_iret C K hsz rfl () (by rw [ic_eq hc2]) trivial (S.sub [] (by decide) rfl) d_JI_compare_19 (Nat.zero_le _) (Nat.zero_le _) (Nat.zero_le _) (Nat.zero_le _)
  · refine lv_iconst (v := (-1)) hx hb d_JI_compare_5 (by decide) ?_
    refine lv_goto (tgt := 19) hx hb d_JI_compare_6 (by decide) ?_
    exact q_iret C K hsz rfl () (by rw [ic_lt hc1]) trivial (S.sub [] (by decide) rfl) d_JI_compare_19 (Nat.zero_le _) (Nat.zero_le _) (Nat.zero_le _) (Nat.zero_le _)
theorem d_JL_compare_0 : decode c_JL_compare 0 = .ok (.lload_n 0, 1) := by decide +kernel
theorem d_JL_compare_1 : decode c_JL_compare 1 = .ok (.lload_n 2, 1) := by decide +kernel
theorem d_JL_compare_2 : decode c_JL_compare 2 = .ok (.lcmp, 1) := by decide +kernel
theorem d_JL_compare_3 : decode c_JL_compare 3 = .ok (.ifCond .ge 7, 3) := by decide +kernel
theorem d_JL_compare_6 : decode c_JL_compare 6 = .ok (.iconst (-1), 1) := by decide +kernel
theorem d_JL_compare_7 : decode c_JL_compare 7 = .ok (.goto 14, 3) := by decide +kernel
theorem d_JL_compare_10 : decode c_JL_compare 10 = .ok (.lload_n 0, 1) := by decide +kernel
theorem d_JL_compare_11 : decode c_JL_compare 11 = .ok (.lload_n 2, 1) := by decide +kernel
theorem d_JL_compare_12 : decode c_JL_compare 12 = .ok (.lcmp, 1) := by decide +kernel
theorem d_JL_compare_13 : decode c_JL_compare 13 = .ok (.ifCond .ne 7, 3) := by decide +kernel
theorem d_JL_compare_16 : decode c_JL_compare 16 = .ok (.iconst 0, 1) := by decide +kernel
theorem d_JL_compare_17 : decode c_JL_compare 17 = .ok (.goto 4, 3) := by decide +kernel
theorem d_JL_compare_20 : decode c_JL_compare 20 = .ok (.iconst 1, 1) := by decide +kernel
theorem d_JL_compare_21 : decode c_JL_compare 21 = .ok (.ireturn, 1) := by decide +kernel
set_option maxRecDepth 100000 in
set_option maxHeartbeats 16000000 in
/-- Long.compare -/
theorem g_JL_compare (l : Launch) (G : va_G) (k : Nat → ClassId) (s0 sl : Nat) (x9 : Int64) (y9 : Int64) : CG l y_JL_compare c_JL_compare 4 (some .int) { frames := 0, cells := 0, slots := 0, locals := 0 } [.long x9, .long y9] G k s0 sl [] (fun (u : Unit) => some (.int (lcI x9 y9))) (fun (u : Unit) => True) (fun (u : Unit) => []) (fun (u : Unit) => 0) (fun (u : Unit) => 0) 0 0 := by
  refine met_startG (by decide) (Nat.le_of_ble_eq_true rfl) ?_
  intro p e s m below meth c C K hA hsz S ls hl
  generalize va_A [] s0 = A at hA S ⊢
  have hx := C.1
  have hb := C.2.1
  have hl : lv_has ls 4 [(0, .long x9), (2, .long y9)] := hl
  refine lv_lload_n hx hb d_JL_compare_0 rfl (lv_at hl 0 rfl) ?_
  refine lv_lload_n hx hb d_JL_compare_1 rfl (lv_at hl 1 rfl) ?_
  refine W.lcmp hx hb d_JL_compare_2 ?_
  refine lv_if_ge (tgt := 10) hx hb d_JL_compare_3 (by decide) (fun hc1 => ?_) (fun hc1 => ?_)
  · refine lv_lload_n hx hb d_JL_compare_10 rfl (lv_at hl 0 rfl) ?_
    refine lv_lload_n hx hb d_JL_compare_11 rfl (lv_at hl 1 rfl) ?_
    refine W.lcmp hx hb d_JL_compare_12 ?_
    refine lv_if_ne (tgt := 20) hx hb d_JL_compare_13 (by decide) (fun hc2 => ?_) (fun hc2 => ?_)
    · refine lv_iconst (v := 1) hx hb d_JL_compare_20 (by decide) ?_
      exact q_iret C K hsz rfl () (by rw [lc_gt hc1 hc2]) trivial (S.sub [] (by decide) rfl) d_JL_compare_21 (Nat.zero_le _) (Nat.zero_le _) (Nat.zero_le _) (Nat.zero_le _)
    · refine lv_iconst (v := 0) hx hb d_JL_compare_16 (by decide) ?_
      refine lv_goto (tgt := 21) hx hb d_JL_compare_17 (by decide) ?_
      exact q_iret C K hsz rfl () (by rw [lc_eq hc2]) trivial (S.sub [] (by decide) rfl) d_JL_compare_21 (Nat.zero_le _) (Nat.zero_le _) (Nat.zero_le _) (Nat.zero_le _)
  · refine lv_iconst (v := (-1)) hx hb d_JL_compare_6 (by decide) ?_
    refine lv_goto (tgt := 21) hx hb d_JL_compare_7 (by decide) ?_
    exact q_iret C K hsz rfl () (by rw [lc_lt hc1]) trivial (S.sub [] (by decide) rfl) d_JL_compare_21 (Nat.zero_le _) (Nat.zero_le _) (Nat.zero_le _) (Nat.zero_le _)
theorem r_mmin {p : Program} {l : Launch} {e : Env} {R : Room} {s : State} {m : MethodId} {args : Array Value} {below : List Frame} {meth : Method} {c : Code} {H : Heap} {locs : List Loc} {cells slots : Nat} {Q : State → Prop} {cc : ByteArray} {own nm : String} {nL : Nat} {ret : Option FieldType} {pc : Nat} {ls : Array Slot} {rest : List Value} (C : Cx p s m args meth c cc own nL ret nm) (hs : ls.size = nL) {index : Nat} (hl : Cond.methodLink own index y_JM_min ∈ gt) (hf : 1 ≤ R.frames) (hlo : (rest.map fun v => v.category).sum + 13 ≤ R.locals) (hc : cells ≤ R.cells) (hsl : slots ≤ R.slots) {x y v : Int32} (hv : (if y < x then y else x) = v) (hdg : decode cc pc = .ok (.invokestatic index, 3)) (kk : W p l e R s m args below meth c H locs cells slots Q (F0 m (pc + 3) ls (.int v :: rest))) : W p l e R s m args below meth c H locs cells slots Q (F0 m pc ls (.int y :: .int x :: rest)) := by
  subst hv
  exact va_mmin C.1 C.2.1 (by rw [C.2.2.1, hs]) C.2.2.2.1 (C.2.2.2.2.1 _ hl) (C.2.2.2.2.1 _ wt_JM_min) (C.2.2.2.2.1 _ wz_JM) (C.2.2.2.2.1 _ wc_JM_min) hf hlo hc hsl hdg kk
theorem d_JA_copyOf_0 : decode c_JA_copyOf 0 = .ok (.iload_n 1, 1) := by decide +kernel
theorem d_JA_copyOf_1 : decode c_JA_copyOf 1 = .ok (.aload_n 0, 1) := by decide +kernel
theorem d_JA_copyOf_2 : decode c_JA_copyOf 2 = .ok (.arraylength, 1) := by decide +kernel
theorem d_JA_copyOf_3 : decode c_JA_copyOf 3 = .ok (.if_icmp .ne 11, 3) := by decide +kernel
theorem d_JA_copyOf_6 : decode c_JA_copyOf 6 = .ok (.aload_n 0, 1) := by decide +kernel
theorem d_JA_copyOf_7 : decode c_JA_copyOf 7 = .ok (.invokevirtual 316, 3) := by decide +kernel
theorem d_JA_copyOf_10 : decode c_JA_copyOf 10 = .ok (.checkcast 317, 3) := by decide +kernel
theorem d_JA_copyOf_13 : decode c_JA_copyOf 13 = .ok (.areturn, 1) := by decide +kernel
theorem d_JA_copyOf_14 : decode c_JA_copyOf 14 = .ok (.iload_n 1, 1) := by decide +kernel
theorem d_JA_copyOf_15 : decode c_JA_copyOf 15 = .ok (.newarray .int, 2) := by decide +kernel
theorem d_JA_copyOf_17 : decode c_JA_copyOf 17 = .ok (.astore_n 2, 1) := by decide +kernel
theorem d_JA_copyOf_18 : decode c_JA_copyOf 18 = .ok (.aload_n 0, 1) := by decide +kernel
theorem d_JA_copyOf_19 : decode c_JA_copyOf 19 = .ok (.iconst 0, 1) := by decide +kernel
theorem d_JA_copyOf_20 : decode c_JA_copyOf 20 = .ok (.aload_n 2, 1) := by decide +kernel
theorem d_JA_copyOf_21 : decode c_JA_copyOf 21 = .ok (.iconst 0, 1) := by decide +kernel
theorem d_JA_copyOf_22 : decode c_JA_copyOf 22 = .ok (.aload_n 0, 1) := by decide +kernel
theorem d_JA_copyOf_23 : decode c_JA_copyOf 23 = .ok (.arraylength, 1) := by decide +kernel
theorem d_JA_copyOf_24 : decode c_JA_copyOf 24 = .ok (.iload_n 1, 1) := by decide +kernel
theorem d_JA_copyOf_25 : decode c_JA_copyOf 25 = .ok (.invokestatic 304, 3) := by decide +kernel
theorem d_JA_copyOf_28 : decode c_JA_copyOf 28 = .ok (.invokestatic 150, 3) := by decide +kernel
theorem d_JA_copyOf_31 : decode c_JA_copyOf 31 = .ok (.aload_n 2, 1) := by decide +kernel
theorem d_JA_copyOf_32 : decode c_JA_copyOf 32 = .ok (.areturn, 1) := by decide +kernel
set_option maxRecDepth 100000 in
set_option maxHeartbeats 16000000 in
/-- Arrays.copyOf -/
theorem g_JA_copyOf (l : Launch) (G : va_G) (k : Nat → ClassId) (s0 sl : Nat) (dd : Nat) (LL : Nat) (N9 : Nat) (gg : Nat → Nat) (hN : LL < N9) (hN4 : N9 ≤ 400) : CG l y_JA_copyOf c_JA_copyOf 3 (some (.array .int)) { frames := 1, cells := 1, slots := N9, locals := 60 } [.ref dd, .int (nI N9)] G k s0 sl [(dd, .inl (k 0, LL, .inl (fun i => nI (gg i))))] (fun (u : Nat) => some (.ref u)) (fun (u : Nat) => True) (fun (u : Nat) => [(dd, .inl (k 0, LL, .inl (fun i => nI (gg i)))), (u, .inl (k 0, N9, .inl (fun i => nI (dgN LL gg i))))]) (fun (u : Nat) => 1) (fun (u : Nat) => N9) 1 N9 := by
  refine met_startG (by decide) (Nat.le_of_ble_eq_true rfl) ?_
  intro p e s m below meth c C K hA hsz S ls hl
  generalize va_A [(dd, .inl (k 0, LL, .inl (fun i => nI (gg i))))] s0 = A at hA S ⊢
  have hx := C.1
  have hb := C.2.1
  have hl : lv_has ls 3 [(0, .ref dd), (1, .int (nI N9))] := hl
  have hL9 : LL ≤ 400 := by omega
  refine lv_iload_n hx hb d_JA_copyOf_0 rfl (lv_at hl 1 rfl) ?_
  refine lv_aload_n hx hb d_JA_copyOf_1 rfl (lv_at hl 0 rfl) ?_
  refine r_alen C K S 0 rfl d_JA_copyOf_2 ?_
  refine z_icmp_ne (a := N9) (b := LL) (tgt := 14) hx hb d_JA_copyOf_3 (by decide) (by omega) (by omega) (fun hc1 => ?_) (fun hc1 => False.elim (by omega))
  refine lv_iload_n hx hb d_JA_copyOf_14 rfl (lv_at hl 1 rfl) ?_
  refine r_newI C K S hA N9 (nn_nlt (by omega)) (nI_clamp (by omega)) (by omega) (Nat.le_of_ble_eq_true rfl) (show 0 + N9 ≤ N9 from by omega) d_JA_copyOf_15 (fun q2 H S => ?_)
  have S : Sw G A s.heap _ _ [(dd, .inl (k 0, LL, .inl (fun i => nI (gg i)))), (q2, .inl (k 0, N9, .inl (fun _ => 0)))] := S
  refine lv_astore_n (lv' := [(2, .ref q2), (0, .ref dd), (1, .int (nI N9))]) hx hb d_JA_copyOf_17 rfl hl (by decide) rfl (fun ls hl => ?_)
  refine lv_aload_n hx hb d_JA_copyOf_18 rfl (lv_at hl 1 rfl) ?_
  refine lv_iconst (v := 0) hx hb d_JA_copyOf_19 (by decide) ?_
  refine lv_aload_n hx hb d_JA_copyOf_20 rfl (lv_at hl 0 rfl) ?_
  refine lv_iconst (v := 0) hx hb d_JA_copyOf_21 (by decide) ?_
  refine lv_aload_n hx hb d_JA_copyOf_22 rfl (lv_at hl 1 rfl) ?_
  refine r_alen C K S 0 rfl d_JA_copyOf_23 ?_
  refine lv_iload_n hx hb d_JA_copyOf_24 rfl (lv_at hl 2 rfl) ?_
  refine r_mmin C hl.1 wm_JA_304 (Nat.le_of_ble_eq_true rfl) (Nat.le_of_ble_eq_true rfl) (Nat.le_of_ble_eq_true rfl) (show 0 + N9 ≤ N9 from by omega) (x := nI LL) (y := nI N9) (v := nI LL) (if_neg (fun q => by have := (nI_lt_iff (by omega) (by omega)).mp q; omega)) d_JA_copyOf_25 ?_
  refine r_copyI C K S hl.1 wm_JA_150 wa_native wa_static wz_JS 0 1 rfl rfl (w := nI LL) (nn_nlt (by omega)) (by rw [nI_clamp (by omega)]; omega) (by rw [nI_clamp (by omega)]; omega) (Nat.le_of_ble_eq_true rfl) (Nat.le_of_ble_eq_true rfl) d_JA_copyOf_28 (g' := fun i => nI ((dgN LL gg) i)) (ws' := [(dd, .inl (k 0, LL, .inl (fun i => nI (gg i)))), (q2, .inl (k 0, N9, .inl (fun i => nI ((dgN LL gg) i))))]) (fun i hi => by unfold dgN; rw [nI_clamp (by omega)]; by_cases q9 : i < LL <;> simp [q9] <;> rfl) rfl (fun H locs S => ?_)
  refine lv_aload_n hx hb d_JA_copyOf_31 rfl (lv_at hl 0 rfl) ?_
  exact q_aret C (Or.inr ⟨_, rfl⟩) K hsz q2 rfl trivial (S.sub [0, 1] (by decide) rfl) d_JA_copyOf_32 (Nat.le_of_ble_eq_true rfl) (show 0 + N9 ≤ N9 from by omega) (Nat.le_of_ble_eq_true rfl) (show 0 + N9 ≤ N9 from by omega)
theorem d_Wh_room_0 : decode c_Wh_room 0 = .ok (.aload_n 0, 1) := by decide +kernel
theorem d_Wh_room_1 : decode c_Wh_room 1 = .ok (.getfield 9, 3) := by decide +kernel
theorem d_Wh_room_4 : decode c_Wh_room 4 = .ok (.arraylength, 1) := by decide +kernel
theorem d_Wh_room_5 : decode c_Wh_room 5 = .ok (.iload_n 1, 1) := by decide +kernel
theorem d_Wh_room_6 : decode c_Wh_room 6 = .ok (.if_icmp .ge 32, 3) := by decide +kernel
theorem d_Wh_room_9 : decode c_Wh_room 9 = .ok (.iconst 2, 1) := by decide +kernel
theorem d_Wh_room_10 : decode c_Wh_room 10 = .ok (.aload_n 0, 1) := by decide +kernel
theorem d_Wh_room_11 : decode c_Wh_room 11 = .ok (.getfield 9, 3) := by decide +kernel
theorem d_Wh_room_14 : decode c_Wh_room 14 = .ok (.arraylength, 1) := by decide +kernel
theorem d_Wh_room_15 : decode c_Wh_room 15 = .ok (.imul, 1) := by decide +kernel
theorem d_Wh_room_16 : decode c_Wh_room 16 = .ok (.istore_n 2, 1) := by decide +kernel
theorem d_Wh_room_17 : decode c_Wh_room 17 = .ok (.aload_n 0, 1) := by decide +kernel
theorem d_Wh_room_18 : decode c_Wh_room 18 = .ok (.aload_n 0, 1) := by decide +kernel
theorem d_Wh_room_19 : decode c_Wh_room 19 = .ok (.getfield 9, 3) := by decide +kernel
theorem d_Wh_room_22 : decode c_Wh_room 22 = .ok (.iload_n 2, 1) := by decide +kernel
theorem d_Wh_room_23 : decode c_Wh_room 23 = .ok (.iload_n 1, 1) := by decide +kernel
theorem d_Wh_room_24 : decode c_Wh_room 24 = .ok (.if_icmp .le 7, 3) := by decide +kernel
theorem d_Wh_room_27 : decode c_Wh_room 27 = .ok (.iload_n 2, 1) := by decide +kernel
theorem d_Wh_room_28 : decode c_Wh_room 28 = .ok (.goto 4, 3) := by decide +kernel
theorem d_Wh_room_31 : decode c_Wh_room 31 = .ok (.iload_n 1, 1) := by decide +kernel
theorem d_Wh_room_32 : decode c_Wh_room 32 = .ok (.invokestatic 95, 3) := by decide +kernel
theorem d_Wh_room_35 : decode c_Wh_room 35 = .ok (.putfield 9, 3) := by decide +kernel
theorem d_Wh_room_38 : decode c_Wh_room 38 = .ok (.return_, 1) := by decide +kernel
set_option maxRecDepth 100000 in
set_option maxHeartbeats 16000000 in
/-- room -/
theorem g_Wh_room (l : Launch) (G : va_G) (k : Nat → ClassId) (h0 : Nat) (s0 sl : Nat) (mo9 : Nat) (Mx : Nat) (dd : Nat) (LL : Nat) (xs9 : Int32) (ys9 : Int32) (gg : Nat → Nat) (hr : raO LL gg) (hm1 : 2 * mo9 ≤ Mx) (hm2 : LL ≤ Mx) (hm3 : Mx ≤ 400) : CG l y_Wh_room c_Wh_room 3 none { frames := 2, cells := Mx, slots := 2 * Mx, locals := 82 } [.ref h0, .int (nI mo9)] G k s0 sl [(h0, .inr (2, [.ref dd, .int xs9, .int ys9])), (dd, .inl (k 0, LL, .inl (fun i => nI (gg i))))] (fun (u : Nat × Nat × (Nat → Nat)) => none) (fun (u : Nat × Nat × (Nat → Nat)) => raO u.2.1 u.2.2 ∧ LL ≤ u.2.1 ∧ mo9 ≤ u.2.1 ∧ u.2.1 ≤ Mx ∧ ∀ i, i < LL → u.2.2 i = gg i) (fun (u : Nat × Nat × (Nat → Nat)) => [(h0, .inr (2, [.ref u.1, .int xs9, .int ys9])), (u.1, .inl (k 0, u.2.1, .inl (fun i => nI (u.2.2 i))))]) (fun (u : Nat × Nat × (Nat → Nat)) => u.2.1 - LL) (fun (u : Nat × Nat × (Nat → Nat)) => 2 * (u.2.1 - LL)) Mx (2 * Mx) := by
  refine met_startG (by decide) (Nat.le_of_ble_eq_true rfl) ?_
  intro p e s m below meth c C K hA hsz S ls hl
  generalize va_A [(h0, .inr (2, [.ref dd, .int xs9, .int ys9])), (dd, .inl (k 0, LL, .inl (fun i => nI (gg i))))] s0 = A at hA S ⊢
  have hx := C.1
  have hb := C.2.1
  have hl : lv_has ls 3 [(0, .ref h0), (1, .int (nI mo9))] := hl
  have hr0 := hr
  obtain ⟨r1, r2, r3⟩ := hr0
  refine lv_aload_n hx hb d_Wh_room_0 rfl (lv_at hl 0 rfl) ?_
  refine r_get C K S 0 rfl rfl clOk_Wh 0 (by decide) wf_Wh_9 (v := .ref dd) rfl d_Wh_room_1 ?_
  refine r_alen C K S 1 rfl d_Wh_room_4 ?_
  refine lv_iload_n hx hb d_Wh_room_5 rfl (lv_at hl 1 rfl) ?_
  refine z_icmp_ge (a := LL) (b := mo9) (tgt := 38) hx hb d_Wh_room_6 (by decide) (by omega) (by omega) (fun hc1 => ?_) (fun hc1 => ?_)
  · exact q_vret C K hsz (dd, LL, gg) (show raO LL gg ∧ LL ≤ LL ∧ mo9 ≤ LL ∧ LL ≤ Mx ∧ ∀ i, i < LL → gg i = gg i from ⟨hr, Nat.le_refl _, by omega, hm2, fun _ _ => rfl⟩) (S.sub [0, 1] (by decide) rfl) d_Wh_room_38 (Nat.zero_le _) (Nat.zero_le _) (Nat.zero_le _) (Nat.zero_le _)
  · refine lv_iconst (v := 2) hx hb d_Wh_room_9 (by decide) ?_
    refine lv_aload_n hx hb d_Wh_room_10 rfl (lv_at hl 0 rfl) ?_
    refine r_get C K S 0 rfl rfl clOk_Wh 0 (by decide) wf_Wh_9 (v := .ref dd) rfl d_Wh_room_11 ?_
    refine r_alen C K S 1 rfl d_Wh_room_14 ?_
    refine z_imul (x := 2) (y := nI LL) (v := nI (2 * LL)) hx hb d_Wh_room_15 (pk_mul 2 LL) ?_
    refine lv_istore_n (lv' := [(2, .int (nI (2 * LL))), (0, .ref h0), (1, .int (nI mo9))]) hx hb d_Wh_room_16 rfl hl (by decide) rfl (fun ls hl => ?_)
    refine lv_aload_n hx hb d_Wh_room_17 rfl (lv_at hl 1 rfl) ?_
    refine lv_aload_n hx hb d_Wh_room_18 rfl (lv_at hl 1 rfl) ?_
    refine r_get C K S 0 rfl rfl clOk_Wh 0 (by decide) wf_Wh_9 (v := .ref dd) rfl d_Wh_room_19 ?_
    refine lv_iload_n hx hb d_Wh_room_22 rfl (lv_at hl 0 rfl) ?_
    refine lv_iload_n hx hb d_Wh_room_23 rfl (lv_at hl 2 rfl) ?_
    refine z_icmp_le (a := (2 * LL)) (b := mo9) (tgt := 31) hx hb d_Wh_room_24 (by decide) (by omega) (by omega) (fun hc2 => ?_) (fun hc2 => ?_)
    · refine lv_iload_n hx hb d_Wh_room_31 rfl (lv_at hl 2 rfl) ?_
      refine q_back0 (wi := [(dd, .inl (k 0, LL, .inl (fun i => nI (gg i))))]) (wr := [(h0, .inr (2, [.ref dd, .int xs9, .int ys9]))]) S hA [1] [0] rfl rfl (by decide) (by decide) (va_runS (As := [.ref dd, .int (nI mo9)]) (rest := [.ref h0]) ⟨hx, hb, C.2.2.1, C.2.2.2.1, C.2.2.2.2.1⟩ (g_JA_copyOf l G k _ _ dd LL mo9 gg (by first | assumption | omega) (by first | assumption | omega)) (k_stat (n := 2) C wc_JA_copyOf rfl rfl wz_JA wm_Wh_95 wt_JA_copyOf (by decide +kernel) ⟨(Nat.le_of_ble_eq_true rfl), (Nat.le_of_ble_eq_true rfl)⟩) (pr_nowG K S [1] (by decide) rfl) rfl rfl hl.1 rfl (lv_room (Nat.le_of_ble_eq_true rfl)) d_Wh_room_32 ⟨(show 0 + 1 ≤ Mx from by omega), (show 0 + mo9 ≤ 2 * Mx from by omega)⟩) (fun u3 H locs hw4 S => ?_)
      have S : Sw G A s.heap _ _ [(h0, .inr (2, [.ref dd, .int xs9, .int ys9])), (dd, .inl (k 0, LL, .inl (fun i => nI (gg i)))), (u3, .inl (k 0, mo9, .inl (fun i => nI (dgN LL gg i))))] := S
      have hw4 : True := hw4
      show W p l e _ s m _ below meth c H locs _ _ _ (F0 m 35 ls [.ref u3, .ref h0])
      refine r_put C K S 0 rfl rfl clOk_Wh 0 (by decide) wf_Wh_9 rfl (ty := .array .int) (v := .ref u3) (by decide +kernel) rfl rfl (Nat.le_of_ble_eq_true rfl) (fs' := [.ref u3, .int xs9, .int ys9]) (ws' := [(h0, .inr (2, [.ref u3, .int xs9, .int ys9])), (dd, .inl (k 0, LL, .inl (fun i => nI (gg i)))), (u3, .inl (k 0, mo9, .inl (fun i => nI (dgN LL gg i))))]) rfl rfl d_Wh_room_35 (fun H locs S => ?_)
      exact q_vret C K hsz (u3, mo9, dgN LL gg) (show raO mo9 (dgN LL gg) ∧ LL ≤ mo9 ∧ mo9 ≤ mo9 ∧ mo9 ≤ Mx ∧ ∀ i, i < LL → (dgN LL gg) i = gg i from ⟨⟨by omega, by omega, dg_lt r3⟩, by omega, by omega, by omega, fun i hi => by show dgN LL gg i = gg i; unfold dgN; rw [if_pos hi]⟩) (S.sub [0, 2] (by decide) rfl) d_Wh_room_38 (show 0 + (1) ≤ mo9 - LL from by omega) (show 0 + (mo9) ≤ 2 * (mo9 - LL) from by omega) (show 0 + (1) ≤ Mx from by omega) (show 0 + (mo9) ≤ 2 * Mx from by omega)
    · refine lv_iload_n hx hb d_Wh_room_27 rfl (lv_at hl 0 rfl) ?_
      refine lv_goto (tgt := 32) hx hb d_Wh_room_28 (by decide) ?_
      refine q_back0 (wi := [(dd, .inl (k 0, LL, .inl (fun i => nI (gg i))))]) (wr := [(h0, .inr (2, [.ref dd, .int xs9, .int ys9]))]) S hA [1] [0] rfl rfl (by decide) (by decide) (va_runS (As := [.ref dd, .int (nI (2 * LL))]) (rest := [.ref h0]) ⟨hx, hb, C.2.2.1, C.2.2.2.1, C.2.2.2.2.1⟩ (g_JA_copyOf l G k _ _ dd LL (2 * LL) gg (by first | assumption | omega) (by first | assumption | omega)) (k_stat (n := 2) C wc_JA_copyOf rfl rfl wz_JA wm_Wh_95 wt_JA_copyOf (by decide +kernel) ⟨(Nat.le_of_ble_eq_true rfl), (Nat.le_of_ble_eq_true rfl)⟩) (pr_nowG K S [1] (by decide) rfl) rfl rfl hl.1 rfl (lv_room (Nat.le_of_ble_eq_true rfl)) d_Wh_room_32 ⟨(show 0 + 1 ≤ Mx from by omega), (show 0 + (2 * LL) ≤ 2 * Mx from by omega)⟩) (fun u5 H locs hw6 S => ?_)
      have S : Sw G A s.heap _ _ [(h0, .inr (2, [.ref dd, .int xs9, .int ys9])), (dd, .inl (k 0, LL, .inl (fun i => nI (gg i)))), (u5, .inl (k 0, (2 * LL), .inl (fun i => nI (dgN LL gg i))))] := S
      have hw6 : True := hw6
      show W p l e _ s m _ below meth c H locs _ _ _ (F0 m 35 ls [.ref u5, .ref h0])
      refine r_put C K S 0 rfl rfl clOk_Wh 0 (by decide) wf_Wh_9 rfl (ty := .array .int) (v := .ref u5) (by decide +kernel) rfl rfl (Nat.le_of_ble_eq_true rfl) (fs' := [.ref u5, .int xs9, .int ys9]) (ws' := [(h0, .inr (2, [.ref u5, .int xs9, .int ys9])), (dd, .inl (k 0, LL, .inl (fun i => nI (gg i)))), (u5, .inl (k 0, (2 * LL), .inl (fun i => nI (dgN LL gg i))))]) rfl rfl d_Wh_room_35 (fun H locs S => ?_)
      exact q_vret C K hsz (u5, (2 * LL), dgN LL gg) (show raO (2 * LL) (dgN LL gg) ∧ LL ≤ (2 * LL) ∧ mo9 ≤ (2 * LL) ∧ (2 * LL) ≤ Mx ∧ ∀ i, i < LL → (dgN LL gg) i = gg i from ⟨⟨by omega, by omega, dg_lt r3⟩, by omega, by omega, by omega, fun i hi => by show dgN LL gg i = gg i; unfold dgN; rw [if_pos hi]⟩) (S.sub [0, 2] (by decide) rfl) d_Wh_room_38 (show 0 + (1) ≤ (2 * LL) - LL from by omega) (show 0 + ((2 * LL)) ≤ 2 * ((2 * LL) - LL) from by omega) (show 0 + (1) ≤ Mx from by omega) (show 0 + ((2 * LL)) ≤ 2 * Mx from by omega)
theorem d_Wh_trim_0 : decode c_Wh_trim 0 = .ok (.aload_n 0, 1) := by decide +kernel
theorem d_Wh_trim_1 : decode c_Wh_trim 1 = .ok (.iload_n 1, 1) := by decide +kernel
theorem d_Wh_trim_2 : decode c_Wh_trim 2 = .ok (.putfield 29, 3) := by decide +kernel
theorem d_Wh_trim_5 : decode c_Wh_trim 5 = .ok (.aload_n 0, 1) := by decide +kernel
theorem d_Wh_trim_6 : decode c_Wh_trim 6 = .ok (.getfield 29, 3) := by decide +kernel
theorem d_Wh_trim_9 : decode c_Wh_trim 9 = .ok (.ifCond .le 30, 3) := by decide +kernel
theorem d_Wh_trim_12 : decode c_Wh_trim 12 = .ok (.aload_n 0, 1) := by decide +kernel
theorem d_Wh_trim_13 : decode c_Wh_trim 13 = .ok (.getfield 9, 3) := by decide +kernel
theorem d_Wh_trim_16 : decode c_Wh_trim 16 = .ok (.aload_n 0, 1) := by decide +kernel
theorem d_Wh_trim_17 : decode c_Wh_trim 17 = .ok (.getfield 29, 3) := by decide +kernel
theorem d_Wh_trim_20 : decode c_Wh_trim 20 = .ok (.iconst 1, 1) := by decide +kernel
theorem d_Wh_trim_21 : decode c_Wh_trim 21 = .ok (.isub, 1) := by decide +kernel
theorem d_Wh_trim_22 : decode c_Wh_trim 22 = .ok (.iaload, 1) := by decide +kernel
theorem d_Wh_trim_23 : decode c_Wh_trim 23 = .ok (.ifCond .ne 16, 3) := by decide +kernel
theorem d_Wh_trim_26 : decode c_Wh_trim 26 = .ok (.aload_n 0, 1) := by decide +kernel
theorem d_Wh_trim_27 : decode c_Wh_trim 27 = .ok (.dup, 1) := by decide +kernel
theorem d_Wh_trim_28 : decode c_Wh_trim 28 = .ok (.getfield 29, 3) := by decide +kernel
theorem d_Wh_trim_31 : decode c_Wh_trim 31 = .ok (.iconst 1, 1) := by decide +kernel
theorem d_Wh_trim_32 : decode c_Wh_trim 32 = .ok (.isub, 1) := by decide +kernel
theorem d_Wh_trim_33 : decode c_Wh_trim 33 = .ok (.putfield 29, 3) := by decide +kernel
theorem d_Wh_trim_36 : decode c_Wh_trim 36 = .ok (.goto (-31), 3) := by decide +kernel
theorem d_Wh_trim_39 : decode c_Wh_trim 39 = .ok (.aload_n 0, 1) := by decide +kernel
theorem d_Wh_trim_40 : decode c_Wh_trim 40 = .ok (.getfield 29, 3) := by decide +kernel
theorem d_Wh_trim_43 : decode c_Wh_trim 43 = .ok (.ifCond .ne 8, 3) := by decide +kernel
theorem d_Wh_trim_46 : decode c_Wh_trim 46 = .ok (.aload_n 0, 1) := by decide +kernel
theorem d_Wh_trim_47 : decode c_Wh_trim 47 = .ok (.iconst 0, 1) := by decide +kernel
theorem d_Wh_trim_48 : decode c_Wh_trim 48 = .ok (.putfield 19, 3) := by decide +kernel
theorem d_Wh_trim_51 : decode c_Wh_trim 51 = .ok (.return_, 1) := by decide +kernel
set_option maxRecDepth 100000 in
set_option maxHeartbeats 16000000 in
/-- trim -/
theorem g_Wh_trim (l : Launch) (G : va_G) (k : Nat → ClassId) (h0 : Nat) (s0 sl : Nat) (mo9 : Nat) (dd : Nat) (LL : Nat) (xs9 : Int32) (ys9 : Int32) (gg : Nat → Nat) (hr : raO LL gg) (hm1 : mo9 ≤ LL) : CG l y_Wh_trim c_Wh_trim 2 none { frames := 0, cells := 0, slots := 0, locals := 0 } [.ref h0, .int (nI mo9)] G k s0 sl [(h0, .inr (2, [.ref dd, .int xs9, .int ys9])), (dd, .inl (k 0, LL, .inl (fun i => nI (gg i))))] (fun (u : Nat) => none) (fun (u : Nat) => u ≤ mo9 ∧ (u = 0 ∨ gg (u - 1) ≠ 0) ∧ vl 2147483648 gg u = vl 2147483648 gg mo9) (fun (u : Nat) => [(h0, .inr (2, [.ref dd, .int (nI u), .int (if u = 0 then 0 else ys9)])), (dd, .inl (k 0, LL, .inl (fun i => nI (gg i))))]) (fun (u : Nat) => 0) (fun (u : Nat) => 0) 0 0 := by
  refine met_startG (by decide) (Nat.le_of_ble_eq_true rfl) ?_
  intro p e s m below meth c C K hA hsz S ls hl
  generalize va_A [(h0, .inr (2, [.ref dd, .int xs9, .int ys9])), (dd, .inl (k 0, LL, .inl (fun i => nI (gg i))))] s0 = A at hA S ⊢
  have hx := C.1
  have hb := C.2.1
  have hl : lv_has ls 2 [(0, .ref h0), (1, .int (nI mo9))] := hl
  have hr0 := hr
  obtain ⟨r1, r2, r3⟩ := hr0
  refine lv_aload_n hx hb d_Wh_trim_0 rfl (lv_at hl 0 rfl) ?_
  refine lv_iload_n hx hb d_Wh_trim_1 rfl (lv_at hl 1 rfl) ?_
  refine r_put C K S 0 rfl rfl clOk_Wh 1 (by decide) wf_Wh_29 rfl (ty := .int) (v := .int (nI mo9)) (by decide +kernel) rfl rfl (Nat.le_of_ble_eq_true rfl) (fs' := [.ref dd, .int (nI mo9), .int ys9]) (ws' := [(h0, .inr (2, [.ref dd, .int (nI mo9), .int ys9])), (dd, .inl (k 0, LL, .inl (fun i => nI (gg i))))]) rfl rfl d_Wh_trim_2 (fun H locs S => ?_)
  have lp : ∀ d9, ∀ (t9 : Nat), t9 < d9 → (t9 ≤ mo9) → (vl 2147483648 gg t9 = vl 2147483648 gg mo9) → ∀ (H : Heap) (locs : List Loc), Sw G A s.heap H locs [(h0, .inr (2, [.ref dd, .int (nI t9), .int ys9])), (dd, .inl (k 0, LL, .inl (fun i => nI (gg i))))] → ∀ ls : Array Slot, lv_has ls 2 [(0, .ref h0), (1, .int (nI mo9))] → W p l e { frames := 0, cells := 0, slots := 0, locals := 0 } s m [Value.ref h0, Value.int (nI mo9)].toArray below meth c H locs 0 0 (MQ below (va_Qg (fun (u : Nat) => none) (fun (u : Nat) => u ≤ mo9 ∧ (u = 0 ∨ gg (u - 1) ≠ 0) ∧ vl 2147483648 gg u = vl 2147483648 gg mo9) (Pog G k A (fun (u : Nat) => [(h0, .inr (2, [.ref dd, .int (nI u), .int (if u = 0 then 0 else ys9)])), (dd, .inl (k 0, LL, .inl (fun i => nI (gg i))))]) s0 sl (fun (u : Nat) => 0) (fun (u : Nat) => 0)) A) [Value.ref h0, Value.int (nI mo9)].toArray s 0 0 A) (F0 m 5 ls []) := by
    intro d9
    induction d9 with
    | zero => intro t9 hm; exact absurd hm (Nat.not_lt_zero _)
    | succ d9 ih_lp =>
      intro t9 hm ht hv9 H locs S ls hl
      have hd9 := r3 (t9 - 1)
      refine lv_aload_n hx hb d_Wh_trim_5 rfl (lv_at hl 0 rfl) ?_
      refine r_get C K S 0 rfl rfl clOk_Wh 1 (by decide) wf_Wh_29 (v := .int (nI t9)) rfl d_Wh_trim_6 ?_
      refine z_if_le (a := t9) (tgt := 39) hx hb d_Wh_trim_9 (by decide) (by omega) (fun hc1 => ?_) (fun hc1 => ?_)
      · refine lv_aload_n hx hb d_Wh_trim_39 rfl (lv_at hl 0 rfl) ?_
        refine r_get C K S 0 rfl rfl clOk_Wh 1 (by decide) wf_Wh_29 (v := .int (nI t9)) rfl d_Wh_trim_40 ?_
        refine z_if_ne (a := t9) (tgt := 51) hx hb d_Wh_trim_43 (by decide) (by omega) (fun hc2 => ?_) (fun hc2 => ?_)
        · have S : Sw G A s.heap H locs [(h0, .inr (2, [.ref dd, .int (nI t9), .int (if t9 = 0 then 0 else ys9)])), (dd, .inl (k 0, LL, .inl (fun i => nI (gg i))))] := by rw [if_neg (by omega)]; exact S
          exact q_vret C K hsz t9 (show t9 ≤ mo9 ∧ (t9 = 0 ∨ gg (t9 - 1) ≠ 0) ∧ vl 2147483648 gg t9 = vl 2147483648 gg mo9 from ⟨ht, Or.inl (by omega), hv9⟩) (S.sub [0, 1] (by decide) rfl) d_Wh_trim_51 (Nat.zero_le _) (Nat.zero_le _) (Nat.zero_le _) (Nat.zero_le _)
        · refine lv_aload_n hx hb d_Wh_trim_46 rfl (lv_at hl 0 rfl) ?_
          refine lv_iconst (v := 0) hx hb d_Wh_trim_47 (by decide) ?_
          refine r_put C K S 0 rfl rfl clOk_Wh 2 (by decide) wf_Wh_19 rfl (ty := .int) (v := .int 0) (by decide +kernel) rfl rfl (Nat.le_of_ble_eq_true rfl) (fs' := [.ref dd, .int (nI t9), .int 0]) (ws' := [(h0, .inr (2, [.ref dd, .int (nI t9), .int 0])), (dd, .inl (k 0, LL, .inl (fun i => nI (gg i))))]) rfl rfl d_Wh_trim_48 (fun H locs S => ?_)
          have S : Sw G A s.heap H locs [(h0, .inr (2, [.ref dd, .int (nI t9), .int (if t9 = 0 then 0 else ys9)])), (dd, .inl (k 0, LL, .inl (fun i => nI (gg i))))] := by rw [if_pos (by omega)]; exact S
          exact q_vret C K hsz t9 (show t9 ≤ mo9 ∧ (t9 = 0 ∨ gg (t9 - 1) ≠ 0) ∧ vl 2147483648 gg t9 = vl 2147483648 gg mo9 from ⟨ht, Or.inl (by omega), hv9⟩) (S.sub [0, 1] (by decide) rfl) d_Wh_trim_51 (Nat.zero_le _) (Nat.zero_le _) (Nat.zero_le _) (Nat.zero_le _)
      · refine lv_aload_n hx hb d_Wh_trim_12 rfl (lv_at hl 0 rfl) ?_
        refine r_get C K S 0 rfl rfl clOk_Wh 0 (by decide) wf_Wh_9 (v := .ref dd) rfl d_Wh_trim_13 ?_
        refine lv_aload_n hx hb d_Wh_trim_16 rfl (lv_at hl 0 rfl) ?_
        refine r_get C K S 0 rfl rfl clOk_Wh 1 (by decide) wf_Wh_29 (v := .int (nI t9)) rfl d_Wh_trim_17 ?_
        refine lv_iconst (v := 1) hx hb d_Wh_trim_20 (by decide) ?_
        refine z_isub (x := nI t9) (y := 1) (v := nI (t9 - 1)) hx hb d_Wh_trim_21 (pk_sub (a := t9) (b := 1) (by omega)) ?_
        refine r_iald C K S 1 rfl (i := nI (t9 - 1)) (show vp_in (nI (t9 - 1)) _ from vp_in_nI (n := (t9 - 1)) (by omega) (by omega)) (v := nI (gg (t9 - 1))) (by rw [nI_clamp (by omega)]) d_Wh_trim_22 ?_
        refine z_if_ne (a := (gg (t9 - 1))) (tgt := 39) hx hb d_Wh_trim_23 (by decide) (by omega) (fun hc3 => ?_) (fun hc3 => ?_)
        · refine lv_aload_n hx hb d_Wh_trim_39 rfl (lv_at hl 0 rfl) ?_
          refine r_get C K S 0 rfl rfl clOk_Wh 1 (by decide) wf_Wh_29 (v := .int (nI t9)) rfl d_Wh_trim_40 ?_
          refine z_if_ne (a := t9) (tgt := 51) hx hb d_Wh_trim_43 (by decide) (by omega) (fun hc4 => ?_) (fun hc4 => ?_)
          · have S : Sw G A s.heap H locs [(h0, .inr (2, [.ref dd, .int (nI t9), .int (if t9 = 0 then 0 else ys9)])), (dd, .inl (k 0, LL, .inl (fun i => nI (gg i))))] := by rw [if_neg (by omega)]; exact S
            exact q_vret C K hsz t9 (show t9 ≤ mo9 ∧ (t9 = 0 ∨ gg (t9 - 1) ≠ 0) ∧ vl 2147483648 gg t9 = vl 2147483648 gg mo9 from ⟨ht, Or.inr (by omega), hv9⟩) (S.sub [0, 1] (by decide) rfl) d_Wh_trim_51 (Nat.zero_le _) (Nat.zero_le _) (Nat.zero_le _) (Nat.zero_le _)
          · refine lv_aload_n hx hb d_Wh_trim_46 rfl (lv_at hl 0 rfl) ?_
            refine lv_iconst (v := 0) hx hb d_Wh_trim_47 (by decide) ?_
            refine r_put C K S 0 rfl rfl clOk_Wh 2 (by decide) wf_Wh_19 rfl (ty := .int) (v := .int 0) (by decide +kernel) rfl rfl (Nat.le_of_ble_eq_true rfl) (fs' := [.ref dd, .int (nI t9), .int 0]) (ws' := [(h0, .inr (2, [.ref dd, .int (nI t9), .int 0])), (dd, .inl (k 0, LL, .inl (fun i => nI (gg i))))]) rfl rfl d_Wh_trim_48 (fun H locs S => ?_)
            have S : Sw G A s.heap H locs [(h0, .inr (2, [.ref dd, .int (nI t9), .int (if t9 = 0 then 0 else ys9)])), (dd, .inl (k 0, LL, .inl (fun i => nI (gg i))))] := by rw [if_pos (by omega)]; exact S
            exact q_vret C K hsz t9 (show t9 ≤ mo9 ∧ (t9 = 0 ∨ gg (t9 - 1) ≠ 0) ∧ vl 2147483648 gg t9 = vl 2147483648 gg mo9 from ⟨ht, Or.inr (by omega), hv9⟩) (S.sub [0, 1] (by decide) rfl) d_Wh_trim_51 (Nat.zero_le _) (Nat.zero_le _) (Nat.zero_le _) (Nat.zero_le _)
        · refine lv_aload_n hx hb d_Wh_trim_26 rfl (lv_at hl 0 rfl) ?_
          refine lv_dup hx hb d_Wh_trim_27 rfl ?_
          refine r_get C K S 0 rfl rfl clOk_Wh 1 (by decide) wf_Wh_29 (v := .int (nI t9)) rfl d_Wh_trim_28 ?_
          refine lv_iconst (v := 1) hx hb d_Wh_trim_31 (by decide) ?_
          refine z_isub (x := nI t9) (y := 1) (v := nI (t9 - 1)) hx hb d_Wh_trim_32 (pk_sub (a := t9) (b := 1) (by omega)) ?_
          refine r_put C K S 0 rfl rfl clOk_Wh 1 (by decide) wf_Wh_29 rfl (ty := .int) (v := .int (nI (t9 - 1))) (by decide +kernel) rfl rfl (Nat.le_of_ble_eq_true rfl) (fs' := [.ref dd, .int (nI (t9 - 1)), .int ys9]) (ws' := [(h0, .inr (2, [.ref dd, .int (nI (t9 - 1)), .int ys9])), (dd, .inl (k 0, LL, .inl (fun i => nI (gg i))))]) rfl rfl d_Wh_trim_33 (fun H locs S => ?_)
          refine lv_goto (tgt := 5) hx hb d_Wh_trim_36 (by decide) ?_
          exact ih_lp (t9 - 1) (by omega) (by omega) (by obtain ⟨y9, hy9⟩ : ∃ y, t9 = y + 1 := ⟨t9 - 1, by omega⟩; subst hy9; rw [vl_s, show gg y9 = 0 by have := hc3; rw [show y9 + 1 - 1 = y9 by omega] at this; exact this, Nat.zero_mul, Nat.add_zero] at hv9; exact hv9) _ _ (S.sub [0, 1] (by decide) rfl) ls (lv_sub hl [0, 1] rfl)
  exact lp _ mo9 (Nat.lt_succ_self _) (by omega) rfl _ _ (S.sub [0, 1] (by decide) rfl) ls (lv_sub hl [0, 1] rfl)
theorem d_Wh_sign_0 : decode c_Wh_sign 0 = .ok (.aload_n 0, 1) := by decide +kernel
theorem d_Wh_sign_1 : decode c_Wh_sign 1 = .ok (.getfield 19, 3) := by decide +kernel
theorem d_Wh_sign_4 : decode c_Wh_sign 4 = .ok (.ireturn, 1) := by decide +kernel
set_option maxRecDepth 100000 in
set_option maxHeartbeats 16000000 in
/-- sign -/
theorem g_Wh_sign (l : Launch) (G : va_G) (k : Nat → ClassId) (h0 : Nat) (s0 sl : Nat) (dd : Nat) (LL : Nat) (nn9 : Nat) (gg : Nat → Nat) (zz : Int) : CG l y_Wh_sign c_Wh_sign 1 (some .int) { frames := 0, cells := 0, slots := 0, locals := 0 } [.ref h0] G k s0 sl [(h0, .inr (2, [.ref dd, .int (nI nn9), .int (sgI zz)])), (dd, .inl (k 0, LL, .inl (fun i => nI (gg i))))] (fun (u : Unit) => some (.int (sgI zz))) (fun (u : Unit) => True) (fun (u : Unit) => [(h0, .inr (2, [.ref dd, .int (nI nn9), .int (sgI zz)])), (dd, .inl (k 0, LL, .inl (fun i => nI (gg i))))]) (fun (u : Unit) => 0) (fun (u : Unit) => 0) 0 0 := by
  refine met_startG (by decide) (Nat.le_of_ble_eq_true rfl) ?_
  intro p e s m below meth c C K hA hsz S ls hl
  generalize va_A [(h0, .inr (2, [.ref dd, .int (nI nn9), .int (sgI zz)])), (dd, .inl (k 0, LL, .inl (fun i => nI (gg i))))] s0 = A at hA S ⊢
  have hx := C.1
  have hb := C.2.1
  have hl : lv_has ls 1 [(0, .ref h0)] := hl
  refine lv_aload_n hx hb d_Wh_sign_0 rfl (lv_at hl 0 rfl) ?_
  refine r_get C K S 0 rfl rfl clOk_Wh 2 (by decide) wf_Wh_19 (v := .int (sgI zz)) rfl d_Wh_sign_1 ?_
  exact q_iret C K hsz rfl () rfl trivial (S.sub [0, 1] (by decide) rfl) d_Wh_sign_4 (Nat.zero_le _) (Nat.zero_le _) (Nat.zero_le _) (Nat.zero_le _)
theorem d_Wh_isSmall_0 : decode c_Wh_isSmall 0 = .ok (.aload_n 0, 1) := by decide +kernel
theorem d_Wh_isSmall_1 : decode c_Wh_isSmall 1 = .ok (.getfield 29, 3) := by decide +kernel
theorem d_Wh_isSmall_4 : decode c_Wh_isSmall 4 = .ok (.iconst 1, 1) := by decide +kernel
theorem d_Wh_isSmall_5 : decode c_Wh_isSmall 5 = .ok (.if_icmp .gt 7, 3) := by decide +kernel
theorem d_Wh_isSmall_8 : decode c_Wh_isSmall 8 = .ok (.iconst 1, 1) := by decide +kernel
theorem d_Wh_isSmall_9 : decode c_Wh_isSmall 9 = .ok (.goto 4, 3) := by decide +kernel
theorem d_Wh_isSmall_12 : decode c_Wh_isSmall 12 = .ok (.iconst 0, 1) := by decide +kernel
theorem d_Wh_isSmall_13 : decode c_Wh_isSmall 13 = .ok (.ireturn, 1) := by decide +kernel
set_option maxRecDepth 100000 in
set_option maxHeartbeats 16000000 in
/-- isSmall -/
theorem g_Wh_isSmall (l : Launch) (G : va_G) (k : Nat → ClassId) (h0 : Nat) (s0 sl : Nat) (dd : Nat) (LL : Nat) (nn9 : Nat) (gg : Nat → Nat) (zz : Int) (hw : whO LL nn9 gg zz) : CG l y_Wh_isSmall c_Wh_isSmall 1 (some .boolean) { frames := 0, cells := 0, slots := 0, locals := 0 } [.ref h0] G k s0 sl [(h0, .inr (2, [.ref dd, .int (nI nn9), .int (sgI zz)])), (dd, .inl (k 0, LL, .inl (fun i => nI (gg i))))] (fun (u : Unit) => some (.int (nI (if nn9 ≤ 1 then 1 else 0)))) (fun (u : Unit) => True) (fun (u : Unit) => [(h0, .inr (2, [.ref dd, .int (nI nn9), .int (sgI zz)])), (dd, .inl (k 0, LL, .inl (fun i => nI (gg i))))]) (fun (u : Unit) => 0) (fun (u : Unit) => 0) 0 0 := by
  refine met_startG (by decide) (Nat.le_of_ble_eq_true rfl) ?_
  intro p e s m below meth c C K hA hsz S ls hl
  generalize va_A [(h0, .inr (2, [.ref dd, .int (nI nn9), .int (sgI zz)])), (dd, .inl (k 0, LL, .inl (fun i => nI (gg i))))] s0 = A at hA S ⊢
  have hx := C.1
  have hb := C.2.1
  have hl : lv_has ls 1 [(0, .ref h0)] := hl
  have hw0 := hw
  obtain ⟨w1, w2, w3, w4, w5, w6⟩ := hw0
  refine lv_aload_n hx hb d_Wh_isSmall_0 rfl (lv_at hl 0 rfl) ?_
  refine r_get C K S 0 rfl rfl clOk_Wh 1 (by decide) wf_Wh_29 (v := .int (nI nn9)) rfl d_Wh_isSmall_1 ?_
  refine lv_iconst (v := 1) hx hb d_Wh_isSmall_4 (by decide) ?_
  refine z_icmp_gt (a := nn9) (b := 1) (tgt := 12) hx hb d_Wh_isSmall_5 (by decide) (by omega) (by omega) (fun hc1 => ?_) (fun hc1 => ?_)
  · refine lv_iconst (v := 0) hx hb d_Wh_isSmall_12 (by decide) ?_
    exact q_iret C K hsz rfl () (by rw [if_neg (by omega)]; rfl) trivial (S.sub [0, 1] (by decide) rfl) d_Wh_isSmall_13 (Nat.zero_le _) (Nat.zero_le _) (Nat.zero_le _) (Nat.zero_le _)
  · refine lv_iconst (v := 1) hx hb d_Wh_isSmall_8 (by decide) ?_
    refine lv_goto (tgt := 13) hx hb d_Wh_isSmall_9 (by decide) ?_
    exact q_iret C K hsz rfl () (by rw [if_pos (by omega)]; rfl) trivial (S.sub [0, 1] (by decide) rfl) d_Wh_isSmall_13 (Nat.zero_le _) (Nat.zero_le _) (Nat.zero_le _) (Nat.zero_le _)
theorem d_Wh_small_0 : decode c_Wh_small 0 = .ok (.aload_n 0, 1) := by decide +kernel
theorem d_Wh_small_1 : decode c_Wh_small 1 = .ok (.getfield 19, 3) := by decide +kernel
theorem d_Wh_small_4 : decode c_Wh_small 4 = .ok (.i2l, 1) := by decide +kernel
theorem d_Wh_small_5 : decode c_Wh_small 5 = .ok (.aload_n 0, 1) := by decide +kernel
theorem d_Wh_small_6 : decode c_Wh_small 6 = .ok (.getfield 9, 3) := by decide +kernel
theorem d_Wh_small_9 : decode c_Wh_small 9 = .ok (.iconst 0, 1) := by decide +kernel
theorem d_Wh_small_10 : decode c_Wh_small 10 = .ok (.iaload, 1) := by decide +kernel
theorem d_Wh_small_11 : decode c_Wh_small 11 = .ok (.i2l, 1) := by decide +kernel
theorem d_Wh_small_12 : decode c_Wh_small 12 = .ok (.lmul, 1) := by decide +kernel
theorem d_Wh_small_13 : decode c_Wh_small 13 = .ok (.lreturn, 1) := by decide +kernel
set_option maxRecDepth 100000 in
set_option maxHeartbeats 16000000 in
/-- small -/
theorem g_Wh_small (l : Launch) (G : va_G) (k : Nat → ClassId) (h0 : Nat) (s0 sl : Nat) (dd : Nat) (LL : Nat) (nn9 : Nat) (gg : Nat → Nat) (zz : Int) (hw : whO LL nn9 gg zz) (hsm : nn9 ≤ 1) : CG l y_Wh_small c_Wh_small 1 (some .long) { frames := 0, cells := 0, slots := 0, locals := 0 } [.ref h0] G k s0 sl [(h0, .inr (2, [.ref dd, .int (nI nn9), .int (sgI zz)])), (dd, .inl (k 0, LL, .inl (fun i => nI (gg i))))] (fun (u : Unit) => some (.long (lZ zz))) (fun (u : Unit) => True) (fun (u : Unit) => [(h0, .inr (2, [.ref dd, .int (nI nn9), .int (sgI zz)])), (dd, .inl (k 0, LL, .inl (fun i => nI (gg i))))]) (fun (u : Unit) => 0) (fun (u : Unit) => 0) 0 0 := by
  refine met_startG (by decide) (Nat.le_of_ble_eq_true rfl) ?_
  intro p e s m below meth c C K hA hsz S ls hl
  generalize va_A [(h0, .inr (2, [.ref dd, .int (nI nn9), .int (sgI zz)])), (dd, .inl (k 0, LL, .inl (fun i => nI (gg i))))] s0 = A at hA S ⊢
  have hx := C.1
  have hb := C.2.1
  have hl : lv_has ls 1 [(0, .ref h0)] := hl
  have hw0 := hw
  obtain ⟨w1, w2, w3, w4, w5, w6⟩ := hw0
  have d0 := w4 0
  refine lv_aload_n hx hb d_Wh_small_0 rfl (lv_at hl 0 rfl) ?_
  refine r_get C K S 0 rfl rfl clOk_Wh 2 (by decide) wf_Wh_19 (v := .int (sgI zz)) rfl d_Wh_small_1 ?_
  refine lv_i2l (v := (sgI zz).toInt64) hx hb d_Wh_small_4 rfl ?_
  refine lv_aload_n hx hb d_Wh_small_5 rfl (lv_at hl 0 rfl) ?_
  refine r_get C K S 0 rfl rfl clOk_Wh 0 (by decide) wf_Wh_9 (v := .ref dd) rfl d_Wh_small_6 ?_
  refine lv_iconst (v := 0) hx hb d_Wh_small_9 (by decide) ?_
  refine r_iald C K S 1 rfl (i := 0) (show vp_in (0) _ from vp_in_nI (n := 0) (by omega) (by omega)) (v := nI (gg 0)) (by rw [show (0 : Int32).toNatClampNeg = 0 from by decide]) d_Wh_small_10 ?_
  refine lv_i2l (v := lN (gg 0)) hx hb d_Wh_small_11 (show (nI (gg 0) : Int32).toInt64 = _ from nI_l (n := (gg 0)) (by omega)) ?_
  refine z_lmul (v := lZ zz) hx hb d_Wh_small_12 (small_val hw hsm) ?_
  exact q_lret C K hsz () rfl trivial (S.sub [0, 1] (by decide) rfl) d_Wh_small_13 (Nat.zero_le _) (Nat.zero_le _) (Nat.zero_le _) (Nat.zero_le _)
theorem d_Wh_digit_0 : decode c_Wh_digit 0 = .ok (.iload_n 1, 1) := by decide +kernel
theorem d_Wh_digit_1 : decode c_Wh_digit 1 = .ok (.aload_n 0, 1) := by decide +kernel
theorem d_Wh_digit_2 : decode c_Wh_digit 2 = .ok (.getfield 29, 3) := by decide +kernel
theorem d_Wh_digit_5 : decode c_Wh_digit 5 = .ok (.if_icmp .ge 12, 3) := by decide +kernel
theorem d_Wh_digit_8 : decode c_Wh_digit 8 = .ok (.aload_n 0, 1) := by decide +kernel
theorem d_Wh_digit_9 : decode c_Wh_digit 9 = .ok (.getfield 9, 3) := by decide +kernel
theorem d_Wh_digit_12 : decode c_Wh_digit 12 = .ok (.iload_n 1, 1) := by decide +kernel
theorem d_Wh_digit_13 : decode c_Wh_digit 13 = .ok (.iaload, 1) := by decide +kernel
theorem d_Wh_digit_14 : decode c_Wh_digit 14 = .ok (.goto 4, 3) := by decide +kernel
theorem d_Wh_digit_17 : decode c_Wh_digit 17 = .ok (.iconst 0, 1) := by decide +kernel
theorem d_Wh_digit_18 : decode c_Wh_digit 18 = .ok (.ireturn, 1) := by decide +kernel
set_option maxRecDepth 100000 in
set_option maxHeartbeats 16000000 in
/-- digit -/
theorem g_Wh_digit (l : Launch) (G : va_G) (k : Nat → ClassId) (h0 : Nat) (s0 sl : Nat) (j9 : Nat) (dd : Nat) (LL : Nat) (nn9 : Nat) (ys9 : Int32) (gg : Nat → Nat) (hr : raO LL gg) (hn : nn9 ≤ LL) (hj : j9 < 2147483648) : CG l y_Wh_digit c_Wh_digit 2 (some .int) { frames := 0, cells := 0, slots := 0, locals := 0 } [.ref h0, .int (nI j9)] G k s0 sl [(h0, .inr (2, [.ref dd, .int (nI nn9), .int ys9])), (dd, .inl (k 0, LL, .inl (fun i => nI (gg i))))] (fun (u : Unit) => some (.int (nI (dgN nn9 gg j9)))) (fun (u : Unit) => True) (fun (u : Unit) => [(h0, .inr (2, [.ref dd, .int (nI nn9), .int ys9])), (dd, .inl (k 0, LL, .inl (fun i => nI (gg i))))]) (fun (u : Unit) => 0) (fun (u : Unit) => 0) 0 0 := by
  refine met_startG (by decide) (Nat.le_of_ble_eq_true rfl) ?_
  intro p e s m below meth c C K hA hsz S ls hl
  generalize va_A [(h0, .inr (2, [.ref dd, .int (nI nn9), .int ys9])), (dd, .inl (k 0, LL, .inl (fun i => nI (gg i))))] s0 = A at hA S ⊢
  have hx := C.1
  have hb := C.2.1
  have hl : lv_has ls 2 [(0, .ref h0), (1, .int (nI j9))] := hl
  have hr0 := hr
  obtain ⟨r1, r2, r3⟩ := hr0
  refine lv_iload_n hx hb d_Wh_digit_0 rfl (lv_at hl 1 rfl) ?_
  refine lv_aload_n hx hb d_Wh_digit_1 rfl (lv_at hl 0 rfl) ?_
  refine r_get C K S 0 rfl rfl clOk_Wh 1 (by decide) wf_Wh_29 (v := .int (nI nn9)) rfl d_Wh_digit_2 ?_
  refine z_icmp_ge (a := j9) (b := nn9) (tgt := 17) hx hb d_Wh_digit_5 (by decide) (by omega) (by omega) (fun hc1 => ?_) (fun hc1 => ?_)
  · refine lv_iconst (v := 0) hx hb d_Wh_digit_17 (by decide) ?_
    exact q_iret C K hsz rfl () (by unfold dgN; rw [if_neg (by omega)]; rfl) trivial (S.sub [0, 1] (by decide) rfl) d_Wh_digit_18 (Nat.zero_le _) (Nat.zero_le _) (Nat.zero_le _) (Nat.zero_le _)
  · refine lv_aload_n hx hb d_Wh_digit_8 rfl (lv_at hl 0 rfl) ?_
    refine r_get C K S 0 rfl rfl clOk_Wh 0 (by decide) wf_Wh_9 (v := .ref dd) rfl d_Wh_digit_9 ?_
    refine lv_iload_n hx hb d_Wh_digit_12 rfl (lv_at hl 1 rfl) ?_
    refine r_iald C K S 1 rfl (i := nI j9) (show vp_in (nI j9) _ from vp_in_nI (n := j9) (by omega) (by omega)) (v := nI (gg j9)) (by rw [nI_clamp (by omega)]) d_Wh_digit_13 ?_
    refine lv_goto (tgt := 18) hx hb d_Wh_digit_14 (by decide) ?_
    exact q_iret C K hsz rfl () (by unfold dgN; rw [if_pos (by omega)]) trivial (S.sub [0, 1] (by decide) rfl) d_Wh_digit_18 (Nat.zero_le _) (Nat.zero_le _) (Nat.zero_le _) (Nat.zero_le _)
theorem d_Wh_negate_0 : decode c_Wh_negate 0 = .ok (.aload_n 0, 1) := by decide +kernel
theorem d_Wh_negate_1 : decode c_Wh_negate 1 = .ok (.aload_n 0, 1) := by decide +kernel
theorem d_Wh_negate_2 : decode c_Wh_negate 2 = .ok (.getfield 19, 3) := by decide +kernel
theorem d_Wh_negate_5 : decode c_Wh_negate 5 = .ok (.ineg, 1) := by decide +kernel
theorem d_Wh_negate_6 : decode c_Wh_negate 6 = .ok (.putfield 19, 3) := by decide +kernel
theorem d_Wh_negate_9 : decode c_Wh_negate 9 = .ok (.return_, 1) := by decide +kernel
set_option maxRecDepth 100000 in
set_option maxHeartbeats 16000000 in
/-- negate -/
theorem g_Wh_negate (l : Launch) (G : va_G) (k : Nat → ClassId) (h0 : Nat) (s0 sl : Nat) (dd : Nat) (LL : Nat) (nn9 : Nat) (gg : Nat → Nat) (zz : Int) : CG l y_Wh_negate c_Wh_negate 1 none { frames := 0, cells := 0, slots := 0, locals := 0 } [.ref h0] G k s0 sl [(h0, .inr (2, [.ref dd, .int (nI nn9), .int (sgI zz)])), (dd, .inl (k 0, LL, .inl (fun i => nI (gg i))))] (fun (u : Unit) => none) (fun (u : Unit) => True) (fun (u : Unit) => [(h0, .inr (2, [.ref dd, .int (nI nn9), .int (sgI (-zz))])), (dd, .inl (k 0, LL, .inl (fun i => nI (gg i))))]) (fun (u : Unit) => 0) (fun (u : Unit) => 0) 0 0 := by
  refine met_startG (by decide) (Nat.le_of_ble_eq_true rfl) ?_
  intro p e s m below meth c C K hA hsz S ls hl
  generalize va_A [(h0, .inr (2, [.ref dd, .int (nI nn9), .int (sgI zz)])), (dd, .inl (k 0, LL, .inl (fun i => nI (gg i))))] s0 = A at hA S ⊢
  have hx := C.1
  have hb := C.2.1
  have hl : lv_has ls 1 [(0, .ref h0)] := hl
  refine lv_aload_n hx hb d_Wh_negate_0 rfl (lv_at hl 0 rfl) ?_
  refine lv_aload_n hx hb d_Wh_negate_1 rfl (lv_at hl 0 rfl) ?_
  refine r_get C K S 0 rfl rfl clOk_Wh 2 (by decide) wf_Wh_19 (v := .int (sgI zz)) rfl d_Wh_negate_2 ?_
  refine z_ineg (v := sgI (-zz)) hx hb d_Wh_negate_5 (sg_neg zz) ?_
  refine r_put C K S 0 rfl rfl clOk_Wh 2 (by decide) wf_Wh_19 rfl (ty := .int) (v := .int (sgI (-zz))) (by decide +kernel) rfl rfl (Nat.le_of_ble_eq_true rfl) (fs' := [.ref dd, .int (nI nn9), .int (sgI (-zz))]) (ws' := [(h0, .inr (2, [.ref dd, .int (nI nn9), .int (sgI (-zz))])), (dd, .inl (k 0, LL, .inl (fun i => nI (gg i))))]) rfl rfl d_Wh_negate_6 (fun H locs S => ?_)
  exact q_vret C K hsz () trivial (S.sub [0, 1] (by decide) rfl) d_Wh_negate_9 (Nat.zero_le _) (Nat.zero_le _) (Nat.zero_le _) (Nat.zero_le _)
