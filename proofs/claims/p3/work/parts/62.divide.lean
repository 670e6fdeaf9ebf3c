theorem dv_j {t j : Nat} (ht : 0 < t) (h : t * 2 ^ j < 65536) : j < 16 := by
  apply Nat.lt_of_not_le
  intro q
  have h1 : 2 ^ 16 ≤ 2 ^ j := Nat.pow_le_pow_right (by decide) q
  have h2 : 1 * 2 ^ j ≤ t * 2 ^ j := Nat.mul_le_mul_right _ ht
  omega
theorem dv_small {A B : Nat} (h : A < B) : 0 = A / B := (Nat.div_eq_of_lt h).symm
theorem dv_put {Q : Nat → Nat} {k9 v : Nat} (h : ∀ i, i < 170 → Q i < 65536) (hv : v < 65536) : ∀ i, i < 170 → va_up Q k9 v i < 65536 := by
  intro i hi
  by_cases q : i = k9
  · rw [q, va_up_self]; exact hv
  · rw [va_up_ne _ _ q]; exact h i hi
theorem dv_put0 {O : Nat → Nat} {N1 : Nat} (h : ∀ i, i < 170 → O i < 65536) : ∀ i, i < 170 → va_up O N1 0 i < 65536 := dv_put h (by decide)
theorem dv_put0v {O : Nat → Nat} {N1 : Nat} : vl 65536 (va_up O N1 0) (N1 + 1) = vl 65536 O N1 := by
  rw [vl_s, va_up_self, Nat.zero_mul, Nat.add_zero]
  exact vl_congr _ (fun i hi => va_up_ne _ _ (by omega))
theorem dv_A {A N j : Nat} (h : A < 65536 ^ N) (hj : j ≤ 16) : A * 2 ^ j < 65536 ^ (N + 1) := by
  have h1 : 2 ^ j ≤ 65536 := Nat.le_trans (Nat.pow_le_pow_right (by decide) hj) (show 2 ^ 16 ≤ 65536 by decide)
  rw [Nat.pow_succ]
  exact Nat.lt_of_lt_of_le (Nat.mul_lt_mul_of_pos_right h (Nat.two_pow_pos j)) (Nat.mul_le_mul_left _ h1)
theorem dv_q0 {O Q D g : Nat → Nat} {n N A j k9 : Nat} (hz : k9 = 0) (h1 : vl 65536 O (k9 + n) + vl 65536 (fun i => Q (k9 + i)) (N + 1 - k9) * (65536 ^ k9 * vl 65536 D n) = A * 2 ^ j) (h2 : vl 65536 O (k9 + n) < 65536 ^ k9 * vl 65536 D n) (hD : vl 65536 D n = vl 65536 g n * 2 ^ j) : vl 65536 Q (N + 1) = A / vl 65536 g n := by
  subst hz
  rw [Nat.pow_zero, Nat.one_mul, hD] at h1 h2
  have e : vl 65536 (fun i => Q (0 + i)) (N + 1 - 0) = vl 65536 Q (N + 1) := vl_congr _ (fun i _ => by rw [Nat.zero_add])
  rw [e] at h1
  exact dv_end h1 h2
theorem d_Mo_divide_0 : decode c_Mo_divide 0 = .ok (.aload_n 0, 1) := by decide +kernel
theorem d_Mo_divide_1 : decode c_Mo_divide 1 = .ok (.getfield 86, 3) := by decide +kernel
theorem d_Mo_divide_4 : decode c_Mo_divide 4 = .ok (.iload_n 1, 1) := by decide +kernel
theorem d_Mo_divide_5 : decode c_Mo_divide 5 = .ok (.iaload, 1) := by decide +kernel
theorem d_Mo_divide_6 : decode c_Mo_divide 6 = .ok (.istore_n 2, 1) := by decide +kernel
theorem d_Mo_divide_7 : decode c_Mo_divide 7 = .ok (.aload_n 0, 1) := by decide +kernel
theorem d_Mo_divide_8 : decode c_Mo_divide 8 = .ok (.getfield 286, 3) := by decide +kernel
theorem d_Mo_divide_11 : decode c_Mo_divide 11 = .ok (.iload_n 2, 1) := by decide +kernel
theorem d_Mo_divide_12 : decode c_Mo_divide 12 = .ok (.if_icmp .ge 9, 3) := by decide +kernel
theorem d_Mo_divide_15 : decode c_Mo_divide 15 = .ok (.aload_n 0, 1) := by decide +kernel
theorem d_Mo_divide_16 : decode c_Mo_divide 16 = .ok (.iconst 0, 1) := by decide +kernel
theorem d_Mo_divide_17 : decode c_Mo_divide 17 = .ok (.putfield 313, 3) := by decide +kernel
theorem d_Mo_divide_20 : decode c_Mo_divide 20 = .ok (.return_, 1) := by decide +kernel
theorem d_Mo_divide_21 : decode c_Mo_divide 21 = .ok (.iconst 0, 1) := by decide +kernel
theorem d_Mo_divide_22 : decode c_Mo_divide 22 = .ok (.istore_n 3, 1) := by decide +kernel
theorem d_Mo_divide_23 : decode c_Mo_divide 23 = .ok (.aload_n 0, 1) := by decide +kernel
theorem d_Mo_divide_24 : decode c_Mo_divide 24 = .ok (.getfield 83, 3) := by decide +kernel
theorem d_Mo_divide_27 : decode c_Mo_divide 27 = .ok (.iload_n 1, 1) := by decide +kernel
theorem d_Mo_divide_28 : decode c_Mo_divide 28 = .ok (.bipush 80, 2) := by decide +kernel
theorem d_Mo_divide_30 : decode c_Mo_divide 30 = .ok (.imul, 1) := by decide +kernel
theorem d_Mo_divide_31 : decode c_Mo_divide 31 = .ok (.iload_n 2, 1) := by decide +kernel
theorem d_Mo_divide_32 : decode c_Mo_divide 32 = .ok (.iadd, 1) := by decide +kernel
theorem d_Mo_divide_33 : decode c_Mo_divide 33 = .ok (.iconst 1, 1) := by decide +kernel
theorem d_Mo_divide_34 : decode c_Mo_divide 34 = .ok (.isub, 1) := by decide +kernel
theorem d_Mo_divide_35 : decode c_Mo_divide 35 = .ok (.iaload, 1) := by decide +kernel
theorem d_Mo_divide_36 : decode c_Mo_divide 36 = .ok (.istore 4, 2) := by decide +kernel
theorem d_Mo_divide_38 : decode c_Mo_divide 38 = .ok (.iload 4, 2) := by decide +kernel
theorem d_Mo_divide_40 : decode c_Mo_divide 40 = .ok (.iload_n 3, 1) := by decide +kernel
theorem d_Mo_divide_41 : decode c_Mo_divide 41 = .ok (.ishl, 1) := by decide +kernel
theorem d_Mo_divide_42 : decode c_Mo_divide 42 = .ok (.ldc_w 316, 3) := by decide +kernel
theorem d_Mo_divide_45 : decode c_Mo_divide 45 = .ok (.if_icmp .ge 9, 3) := by decide +kernel
theorem d_Mo_divide_48 : decode c_Mo_divide 48 = .ok (.iinc 3 1, 3) := by decide +kernel
theorem d_Mo_divide_51 : decode c_Mo_divide 51 = .ok (.goto (-13), 3) := by decide +kernel
theorem d_Mo_divide_54 : decode c_Mo_divide 54 = .ok (.aload_n 0, 1) := by decide +kernel
theorem d_Mo_divide_55 : decode c_Mo_divide 55 = .ok (.iload_n 1, 1) := by decide +kernel
theorem d_Mo_divide_56 : decode c_Mo_divide 56 = .ok (.iload_n 2, 1) := by decide +kernel
theorem d_Mo_divide_57 : decode c_Mo_divide 57 = .ok (.iload_n 3, 1) := by decide +kernel
theorem d_Mo_divide_58 : decode c_Mo_divide 58 = .ok (.invokevirtual 317, 3) := by decide +kernel
theorem d_Mo_divide_61 : decode c_Mo_divide 61 = .ok (.aload_n 0, 1) := by decide +kernel
theorem d_Mo_divide_62 : decode c_Mo_divide 62 = .ok (.getfield 93, 3) := by decide +kernel
theorem d_Mo_divide_65 : decode c_Mo_divide 65 = .ok (.aload_n 0, 1) := by decide +kernel
theorem d_Mo_divide_66 : decode c_Mo_divide 66 = .ok (.getfield 286, 3) := by decide +kernel
theorem d_Mo_divide_69 : decode c_Mo_divide 69 = .ok (.iconst 0, 1) := by decide +kernel
theorem d_Mo_divide_70 : decode c_Mo_divide 70 = .ok (.iastore, 1) := by decide +kernel
theorem d_Mo_divide_71 : decode c_Mo_divide 71 = .ok (.aload_n 0, 1) := by decide +kernel
theorem d_Mo_divide_72 : decode c_Mo_divide 72 = .ok (.iload_n 3, 1) := by decide +kernel
theorem d_Mo_divide_73 : decode c_Mo_divide 73 = .ok (.invokevirtual 320, 3) := by decide +kernel
theorem d_Mo_divide_76 : decode c_Mo_divide 76 = .ok (.aload_n 0, 1) := by decide +kernel
theorem d_Mo_divide_77 : decode c_Mo_divide 77 = .ok (.getfield 286, 3) := by decide +kernel
theorem d_Mo_divide_80 : decode c_Mo_divide 80 = .ok (.iload_n 2, 1) := by decide +kernel
theorem d_Mo_divide_81 : decode c_Mo_divide 81 = .ok (.isub, 1) := by decide +kernel
theorem d_Mo_divide_82 : decode c_Mo_divide 82 = .ok (.istore 5, 2) := by decide +kernel
theorem d_Mo_divide_84 : decode c_Mo_divide 84 = .ok (.iload 5, 2) := by decide +kernel
theorem d_Mo_divide_86 : decode c_Mo_divide 86 = .ok (.ifCond .lt 23, 3) := by decide +kernel
theorem d_Mo_divide_89 : decode c_Mo_divide 89 = .ok (.aload_n 0, 1) := by decide +kernel
theorem d_Mo_divide_90 : decode c_Mo_divide 90 = .ok (.getfield 99, 3) := by decide +kernel
theorem d_Mo_divide_93 : decode c_Mo_divide 93 = .ok (.iload 5, 2) := by decide +kernel
theorem d_Mo_divide_95 : decode c_Mo_divide 95 = .ok (.aload_n 0, 1) := by decide +kernel
theorem d_Mo_divide_96 : decode c_Mo_divide 96 = .ok (.iload 5, 2) := by decide +kernel
theorem d_Mo_divide_98 : decode c_Mo_divide 98 = .ok (.iload_n 2, 1) := by decide +kernel
theorem d_Mo_divide_99 : decode c_Mo_divide 99 = .ok (.invokevirtual 323, 3) := by decide +kernel
theorem d_Mo_divide_102 : decode c_Mo_divide 102 = .ok (.iastore, 1) := by decide +kernel
theorem d_Mo_divide_103 : decode c_Mo_divide 103 = .ok (.iinc 5 (-1), 3) := by decide +kernel
theorem d_Mo_divide_106 : decode c_Mo_divide 106 = .ok (.goto (-22), 3) := by decide +kernel
theorem d_Mo_divide_109 : decode c_Mo_divide 109 = .ok (.aload_n 0, 1) := by decide +kernel
theorem d_Mo_divide_110 : decode c_Mo_divide 110 = .ok (.aload_n 0, 1) := by decide +kernel
theorem d_Mo_divide_111 : decode c_Mo_divide 111 = .ok (.getfield 99, 3) := by decide +kernel
theorem d_Mo_divide_114 : decode c_Mo_divide 114 = .ok (.aload_n 0, 1) := by decide +kernel
theorem d_Mo_divide_115 : decode c_Mo_divide 115 = .ok (.getfield 286, 3) := by decide +kernel
theorem d_Mo_divide_118 : decode c_Mo_divide 118 = .ok (.iload_n 2, 1) := by decide +kernel
theorem d_Mo_divide_119 : decode c_Mo_divide 119 = .ok (.isub, 1) := by decide +kernel
theorem d_Mo_divide_120 : decode c_Mo_divide 120 = .ok (.iconst 1, 1) := by decide +kernel
theorem d_Mo_divide_121 : decode c_Mo_divide 121 = .ok (.iadd, 1) := by decide +kernel
theorem d_Mo_divide_122 : decode c_Mo_divide 122 = .ok (.invokestatic 278, 3) := by decide +kernel
theorem d_Mo_divide_125 : decode c_Mo_divide 125 = .ok (.putfield 313, 3) := by decide +kernel
theorem d_Mo_divide_128 : decode c_Mo_divide 128 = .ok (.return_, 1) := by decide +kernel
set_option maxRecDepth 100000 in
set_option maxHeartbeats 16000000 in
/-- divide(c0) -/
theorem g_Mo_divide (l : Launch) (G : va_G) (k : Nat → ClassId) (h0 : Nat) (s0 : Nat) (c0 : Nat) (N1 : Nat) (ma : Nat → Nat) (iv : Nat → Int32) (co : Int64) (dg : Nat → Nat) (sz : Nat → Nat) (O : Nat → Nat) (qt : Nat → Nat) (Dv : Nat → Nat) (kc : c0 < 3998) (hs : sz c0 ≤ 80) (hp : 0 < sz c0) (ht : dg (c0 * 80 + (sz c0 - 1)) ≠ 0) (hN : N1 ≤ 161) (hdg : ∀ i, i < 319840 → dg i < 65536) (dO : ∀ i, i < 170 → O i < 65536) (dQ : ∀ i, i < 170 → qt i < 65536) (dD : ∀ i, i < 170 → Dv i < 65536) : CV l y_Mo_divide c_Mo_divide 6 { frames := 1, cells := 0, slots := 0, locals := 33 } [.ref h0, .int (nI c0)] G k s0 [(h0, .inr (8, moL ma (va_up iv 19 (nI N1)) co)), ((ma 21), .inl (k 0, 319840, .inl (fun i => nI (dg i)))), ((ma 22), .inl (k 0, 3998, .inl (fun i => nI (sz i)))), ((ma 24), .inl (k 0, 170, .inl (fun i => nI (O i)))), ((ma 26), .inl (k 0, 170, .inl (fun i => nI (qt i)))), ((ma 27), .inl (k 0, 170, .inl (fun i => nI (Dv i))))] (fun (u : (Nat → Nat) × (Nat → Nat) × (Nat → Nat) × Nat) => vl 65536 u.2.1 u.2.2.2 = vl 65536 O N1 / vl 65536 (fun i => dg (c0 * 80 + i)) (sz c0) ∧ u.2.2.2 ≤ 161 ∧ (u.2.2.2 = 0 ∨ u.2.1 (u.2.2.2 - 1) ≠ 0) ∧ (∀ i, i < 170 → u.1 i < 65536) ∧ (∀ i, i < 170 → u.2.1 i < 65536) ∧ (∀ i, i < 170 → u.2.2.1 i < 65536)) (fun u => [(h0, .inr (8, moL ma (va_up (va_up iv 19 (nI N1)) 23 (nI u.2.2.2)) co)), ((ma 21), .inl (k 0, 319840, .inl (fun i => nI (dg i)))), ((ma 22), .inl (k 0, 3998, .inl (fun i => nI (sz i)))), ((ma 24), .inl (k 0, 170, .inl (fun i => nI (u.1 i)))), ((ma 26), .inl (k 0, 170, .inl (fun i => nI (u.2.1 i)))), ((ma 27), .inl (k 0, 170, .inl (fun i => nI (u.2.2.1 i))))]) 0 0 := by
  refine met_start (by decide) (Nat.le_of_ble_eq_true rfl) ?_
  intro p e s m below meth c C K hA hsz S ls hl
  generalize va_A [(h0, .inr (8, moL ma (va_up iv 19 (nI N1)) co)), ((ma 21), .inl (k 0, 319840, .inl (fun i => nI (dg i)))), ((ma 22), .inl (k 0, 3998, .inl (fun i => nI (sz i)))), ((ma 24), .inl (k 0, 170, .inl (fun i => nI (O i)))), ((ma 26), .inl (k 0, 170, .inl (fun i => nI (qt i)))), ((ma 27), .inl (k 0, 170, .inl (fun i => nI (Dv i))))] s0 = A at hA S ⊢
  have hx := C.1
  have hb := C.2.1
  have hl : lv_has ls 6 [(0, .ref h0), (1, .int (nI c0))] := hl
  have d1 : dg (c0 * 80 + sz c0 - 1) < 65536 := hdg _ (by omega)
  have tp : 0 < dg (c0 * 80 + sz c0 - 1) := by
    have e9 : c0 * 80 + sz c0 - 1 = c0 * 80 + (sz c0 - 1) := by omega
    rw [e9]
    exact Nat.pos_of_ne_zero ht
  refine lv_aload_n hx hb d_Mo_divide_0 rfl (lv_at hl 0 rfl) ?_
  refine r_get C K S 0 rfl rfl clOk_Mo 42 (by decide) wf_Mo_86 (v := .ref (ma 22)) rfl d_Mo_divide_1 ?_
  refine lv_iload_n hx hb d_Mo_divide_4 rfl (lv_at hl 1 rfl) ?_
  refine r_iald C K S 2 rfl (i := nI c0) (show vp_in (nI c0) _ from vp_in_nI (n := c0) (by omega) (by decide)) (v := nI (sz c0)) (by rw [nI_clamp (by omega)]) d_Mo_divide_5 ?_
  refine lv_istore_n (lv' := [(2, .int (nI (sz c0))), (0, .ref h0), (1, .int (nI c0))]) hx hb d_Mo_divide_6 rfl hl (by decide) rfl (fun ls hl => ?_)
  refine lv_aload_n hx hb d_Mo_divide_7 rfl (lv_at hl 1 rfl) ?_
  refine r_get C K S 0 rfl rfl clOk_Mo 48 (by decide) wf_Mo_286 (v := .int (nI N1)) rfl d_Mo_divide_8 ?_
  refine lv_iload_n hx hb d_Mo_divide_11 rfl (lv_at hl 0 rfl) ?_
  refine z_icmp_ge (a := N1) (b := (sz c0)) (tgt := 21) hx hb d_Mo_divide_12 (by decide) (by omega) (by omega) (fun hc1 => ?_) (fun hc1 => ?_)
  · refine lv_iconst (v := 0) hx hb d_Mo_divide_21 (by decide) ?_
    refine lv_istore_n (lv' := [(3, .int 0), (2, .int (nI (sz c0))), (0, .ref h0), (1, .int (nI c0))]) hx hb d_Mo_divide_22 rfl hl (by decide) rfl (fun ls hl => ?_)
    refine lv_aload_n hx hb d_Mo_divide_23 rfl (lv_at hl 2 rfl) ?_
    refine r_get C K S 0 rfl rfl clOk_Mo 41 (by decide) wf_Mo_83 (v := .ref (ma 21)) rfl d_Mo_divide_24 ?_
    refine lv_iload_n hx hb d_Mo_divide_27 rfl (lv_at hl 3 rfl) ?_
    refine lv_bipush (v := 80) hx hb d_Mo_divide_28 (by decide) ?_
    refine z_imul (x := nI c0) (y := 80) (v := nI (c0 * 80)) hx hb d_Mo_divide_30 (pk_mul c0 80) ?_
    refine lv_iload_n hx hb d_Mo_divide_31 rfl (lv_at hl 1 rfl) ?_
    refine z_iadd (x := nI (c0 * 80)) (y := nI (sz c0)) (v := nI (c0 * 80 + sz c0)) hx hb d_Mo_divide_32 (nI_add (c0 * 80) (sz c0)) ?_
    refine lv_iconst (v := 1) hx hb d_Mo_divide_33 (by decide) ?_
    refine z_isub (x := nI (c0 * 80 + sz c0)) (y := 1) (v := nI (c0 * 80 + sz c0 - 1)) hx hb d_Mo_divide_34 (pk_sub (a := (c0 * 80 + sz c0)) (b := 1) (by omega)) ?_
    refine r_iald C K S 1 rfl (i := nI (c0 * 80 + sz c0 - 1)) (show vp_in (nI (c0 * 80 + sz c0 - 1)) _ from vp_in_nI (n := (c0 * 80 + sz c0 - 1)) (by omega) (by decide)) (v := nI (dg (c0 * 80 + sz c0 - 1))) (by rw [nI_clamp (by omega)]) d_Mo_divide_35 ?_
    refine lv_istore (lv' := [(4, .int (nI (dg (c0 * 80 + sz c0 - 1)))), (3, .int 0), (2, .int (nI (sz c0))), (0, .ref h0), (1, .int (nI c0))]) hx hb d_Mo_divide_36 hl (by decide) rfl (fun ls hl => ?_)
    have lp : ∀ d9, ∀ (j : Nat), (20 - j) < d9 → (dg (c0 * 80 + sz c0 - 1) * 2 ^ j < 65536) → ∀ (H : Heap) (locs : List Loc), Sw G A s.heap H locs [(h0, .inr (8, moL ma (va_up iv 19 (nI N1)) co)), ((ma 21), .inl (k 0, 319840, .inl (fun i => nI (dg i)))), ((ma 22), .inl (k 0, 3998, .inl (fun i => nI (sz i)))), ((ma 24), .inl (k 0, 170, .inl (fun i => nI (O i)))), ((ma 26), .inl (k 0, 170, .inl (fun i => nI (qt i)))), ((ma 27), .inl (k 0, 170, .inl (fun i => nI (Dv i))))] → ∀ ls : Array Slot, lv_has ls 6 [(4, .int (nI (dg (c0 * 80 + sz c0 - 1)))), (3, .int (nI j)), (2, .int (nI (sz c0))), (1, .int (nI c0)), (0, .ref h0)] → W p l e { frames := 1, cells := 0, slots := 0, locals := 33 } s m [Value.ref h0, Value.int (nI c0)].toArray below meth c H locs 0 0 (MQ below (va_Qv (fun (u : (Nat → Nat) × (Nat → Nat) × (Nat → Nat) × Nat) => vl 65536 u.2.1 u.2.2.2 = vl 65536 O N1 / vl 65536 (fun i => dg (c0 * 80 + i)) (sz c0) ∧ u.2.2.2 ≤ 161 ∧ (u.2.2.2 = 0 ∨ u.2.1 (u.2.2.2 - 1) ≠ 0) ∧ (∀ i, i < 170 → u.1 i < 65536) ∧ (∀ i, i < 170 → u.2.1 i < 65536) ∧ (∀ i, i < 170 → u.2.2.1 i < 65536)) (Po G k A (fun u => [(h0, .inr (8, moL ma (va_up (va_up iv 19 (nI N1)) 23 (nI u.2.2.2)) co)), ((ma 21), .inl (k 0, 319840, .inl (fun i => nI (dg i)))), ((ma 22), .inl (k 0, 3998, .inl (fun i => nI (sz i)))), ((ma 24), .inl (k 0, 170, .inl (fun i => nI (u.1 i)))), ((ma 26), .inl (k 0, 170, .inl (fun i => nI (u.2.1 i)))), ((ma 27), .inl (k 0, 170, .inl (fun i => nI (u.2.2.1 i))))])) A) [Value.ref h0, Value.int (nI c0)].toArray s 0 0 A) (F0 m 38 ls []) := by
      intro d9
      induction d9 with
      | zero => intro j hm; exact absurd hm (Nat.not_lt_zero _)
      | succ d9 ih =>
        intro j hm hj H locs S ls hl
        have j16 : j < 16 := dv_j tp hj
        refine lv_iload hx hb d_Mo_divide_38 (lv_at hl 0 rfl) ?_
        refine lv_iload_n hx hb d_Mo_divide_40 rfl (lv_at hl 1 rfl) ?_
        refine z_ishl (v := nI (dg (c0 * 80 + sz c0 - 1) * 2 ^ j)) hx hb d_Mo_divide_41 (pk_shlN _ j (s_l9 j (by omega)) (by omega)) ?_
        refine lv_ldcw (v := 32768) hx hb C.2.2.2.1 (C.2.2.2.2.1 _ wk_Mo_316) d_Mo_divide_42 ?_
        refine z_icmp_ge (a := (dg (c0 * 80 + sz c0 - 1) * 2 ^ j)) (b := 32768) (tgt := 54) hx hb d_Mo_divide_45 (by decide) (by omega) (by omega) (fun hc2 => ?_) (fun hc2 => ?_)
        · skip
          have e9 : c0 * 80 + sz c0 - 1 = c0 * 80 + (sz c0 - 1) := by omega
          rw [e9] at hj
          have hsh := dv_shift (g := fun i => dg (c0 * 80 + i)) (n := sz c0) (j := j) hp (fun i hi => hdg _ (by omega)) hj (by omega)
          refine lv_aload_n hx hb d_Mo_divide_54 rfl (lv_at hl 4 rfl) ?_
          refine lv_iload_n hx hb d_Mo_divide_55 rfl (lv_at hl 3 rfl) ?_
          refine lv_iload_n hx hb d_Mo_divide_56 rfl (lv_at hl 2 rfl) ?_
          refine lv_iload_n hx hb d_Mo_divide_57 rfl (lv_at hl 1 rfl) ?_
          refine r_backv (wi := [(h0, .inr (8, moL ma (va_up iv 19 (nI N1)) co)), ((ma 21), .inl (k 0, 319840, .inl (fun i => nI (dg i)))), ((ma 27), .inl (k 0, 170, .inl (fun i => nI (Dv i))))]) (wr := [((ma 22), .inl (k 0, 3998, .inl (fun i => nI (sz i)))), ((ma 24), .inl (k 0, 170, .inl (fun i => nI (O i)))), ((ma 26), .inl (k 0, 170, .inl (fun i => nI (qt i))))]) S hA [0, 1, 5] [2, 3, 4] rfl rfl (by decide) (by decide) (va_runV (As := [.int (nI c0), .int (nI (sz c0)), .int (nI j)]) (rest := []) ⟨hx, hb, C.2.2.1, C.2.2.2.1, C.2.2.2.2.1⟩ (g_Mo_shiftInto l G k h0 _ c0 (sz c0) j ma (va_up iv 19 (nI N1)) co dg Dv (by first | assumption | omega) (by first | assumption | omega) (by first | assumption | omega) (by first | assumption | omega) dD) (k_virt (n := 3) C wc_Mo_shiftInto rfl rfl wz_Mo wm_Mo_317 wn_Mo_shiftInto ws_Mo_shiftInto (by decide +kernel) ⟨(Nat.le_of_ble_eq_true rfl), (Nat.le_of_ble_eq_true rfl)⟩) (pr_nowV K S [0, 1, 5] (by decide) rfl 0 rfl rfl) rfl rfl hl.1 rfl (lv_room (Nat.le_of_ble_eq_true rfl)) d_Mo_divide_58 ⟨(Nat.le_of_ble_eq_true rfl), (Nat.le_of_ble_eq_true rfl)⟩) (fun D H locs hw3 S => ?_)
          have S : Sw G A s.heap _ _ [((ma 22), .inl (k 0, 3998, .inl (fun i => nI (sz i)))), ((ma 24), .inl (k 0, 170, .inl (fun i => nI (O i)))), ((ma 26), .inl (k 0, 170, .inl (fun i => nI (qt i)))), (h0, .inr (8, moL ma (va_up iv 19 (nI N1)) co)), ((ma 21), .inl (k 0, 319840, .inl (fun i => nI (dg i)))), ((ma 27), .inl (k 0, 170, .inl (fun i => nI (D i))))] := S
          obtain ⟨⟨c9, hD1, -⟩, hD2, -⟩ := hw3
          have dO1 := dv_put0 (N1 := N1) dO
          refine lv_aload_n hx hb d_Mo_divide_61 rfl (lv_at hl 4 rfl) ?_
          refine r_get C K S 3 rfl rfl clOk_Mo 44 (by decide) wf_Mo_93 (v := .ref (ma 24)) rfl d_Mo_divide_62 ?_
          refine lv_aload_n hx hb d_Mo_divide_65 rfl (lv_at hl 4 rfl) ?_
          refine r_get C K S 3 rfl rfl clOk_Mo 48 (by decide) wf_Mo_286 (v := .int (nI N1)) rfl d_Mo_divide_66 ?_
          refine lv_iconst (v := 0) hx hb d_Mo_divide_69 (by decide) ?_
          refine r_iast C K S 1 rfl (i := nI N1) (x := 0) (show vp_in (nI N1) _ from vp_in_nI (n := N1) (by omega) (by decide)) (f' := fun i => nI (va_up O N1 0 i)) (ws' := [((ma 22), .inl (k 0, 3998, .inl (fun i => nI (sz i)))), ((ma 24), .inl (k 0, 170, .inl (fun i => nI (va_up O N1 0 i)))), ((ma 26), .inl (k 0, 170, .inl (fun i => nI (qt i)))), (h0, .inr (8, moL ma (va_up iv 19 (nI N1)) co)), ((ma 21), .inl (k 0, 319840, .inl (fun i => nI (dg i)))), ((ma 27), .inl (k 0, 170, .inl (fun i => nI (D i))))]) (show upd _ (nI N1 : Int32).toNatClampNeg 0 = _ from upd_nI O (j := N1) (by omega) 0) rfl d_Mo_divide_70 (fun H locs S => ?_)
          refine lv_aload_n hx hb d_Mo_divide_71 rfl (lv_at hl 4 rfl) ?_
          refine lv_iload_n hx hb d_Mo_divide_72 rfl (lv_at hl 1 rfl) ?_
          refine r_backv (wi := [(h0, .inr (8, moL ma (va_up iv 19 (nI N1)) co)), ((ma 24), .inl (k 0, 170, .inl (fun i => nI (va_up O N1 0 i))))]) (wr := [((ma 22), .inl (k 0, 3998, .inl (fun i => nI (sz i)))), ((ma 26), .inl (k 0, 170, .inl (fun i => nI (qt i)))), ((ma 21), .inl (k 0, 319840, .inl (fun i => nI (dg i)))), ((ma 27), .inl (k 0, 170, .inl (fun i => nI (D i))))]) S hA [3, 1] [0, 2, 4, 5] rfl rfl (by decide) (by decide) (va_runV (As := [.int (nI j)]) (rest := []) ⟨hx, hb, C.2.2.1, C.2.2.2.1, C.2.2.2.2.1⟩ (g_Mo_raise l G k h0 _ N1 j ma iv co (va_up O N1 0) (by omega) (by first | assumption | omega) dO1) (k_virt (n := 1) C wc_Mo_raise rfl rfl wz_Mo wm_Mo_320 wn_Mo_raise ws_Mo_raise (by decide +kernel) ⟨(Nat.le_of_ble_eq_true rfl), (Nat.le_of_ble_eq_true rfl)⟩) (pr_nowV K S [3, 1] (by decide) rfl 3 rfl rfl) rfl rfl hl.1 rfl (lv_room (Nat.le_of_ble_eq_true rfl)) d_Mo_divide_73 ⟨(Nat.le_of_ble_eq_true rfl), (Nat.le_of_ble_eq_true rfl)⟩) (fun R0 H locs hw4 S => ?_)
          have S : Sw G A s.heap _ _ [((ma 22), .inl (k 0, 3998, .inl (fun i => nI (sz i)))), ((ma 26), .inl (k 0, 170, .inl (fun i => nI (qt i)))), ((ma 21), .inl (k 0, 319840, .inl (fun i => nI (dg i)))), ((ma 27), .inl (k 0, 170, .inl (fun i => nI (D i)))), (h0, .inr (8, moL ma (va_up iv 19 (nI N1)) co)), ((ma 24), .inl (k 0, 170, .inl (fun i => nI (R0 i))))] := S
          obtain ⟨⟨c8, hR1, -⟩, hR2, -⟩ := hw4
          obtain ⟨-, hD3⟩ := no_carry hD1 hsh
          have hA0 : vl 65536 (va_up O N1 0) (N1 + 1) = vl 65536 O N1 := dv_put0v
          rw [hA0] at hR1
          have hA1 : vl 65536 O N1 < 65536 ^ N1 := vl_lt N1 (fun i hi => dO i (by omega))
          obtain ⟨-, hR3⟩ := no_carry hR1 (dv_A (j := j) hA1 (by omega))
          have hB1 : 65536 ^ (sz c0 - 1) ≤ vl 65536 (fun i => dg (c0 * 80 + i)) (sz c0) := vl_ge hp ht
          have hBp : 0 < vl 65536 (fun i => dg (c0 * 80 + i)) (sz c0) := Nat.lt_of_lt_of_le (Nat.pow_pos (by decide)) hB1
          have hVp : 0 < vl 65536 D (sz c0) := by rw [hD3]; exact Nat.mul_pos hBp (Nat.two_pow_pos j)
          have hVn : vl 65536 D (sz c0) ≤ 65536 ^ (sz c0) := by rw [hD3]; exact Nat.le_of_lt hsh
          have hDt : 0 < D (sz c0 - 1) := vl_top hp (fun i hi => hD2 i (by omega)) (by rw [hD3]; exact Nat.le_trans hB1 (Nat.le_mul_of_pos_right _ (Nat.two_pow_pos j)))
          refine lv_aload_n hx hb d_Mo_divide_76 rfl (lv_at hl 4 rfl) ?_
          refine r_get C K S 4 rfl rfl clOk_Mo 48 (by decide) wf_Mo_286 (v := .int (nI N1)) rfl d_Mo_divide_77 ?_
          refine lv_iload_n hx hb d_Mo_divide_80 rfl (lv_at hl 2 rfl) ?_
          refine z_isub (x := nI N1) (y := nI (sz c0)) (v := nI (N1 - (sz c0))) hx hb d_Mo_divide_81 (pk_sub (a := N1) (b := (sz c0)) (by omega)) ?_
          refine lv_istore (lv' := [(5, .int (nI (N1 - (sz c0)))), (4, .int (nI (dg (c0 * 80 + sz c0 - 1)))), (3, .int (nI j)), (2, .int (nI (sz c0))), (1, .int (nI c0)), (0, .ref h0)]) hx hb d_Mo_divide_82 hl (by decide) rfl (fun ls hl => ?_)
          refine lv_iload hx hb d_Mo_divide_84 (lv_at hl 0 rfl) ?_
          refine z_if_lt (a := (N1 - (sz c0))) (tgt := 109) hx hb d_Mo_divide_86 (by decide) (by omega) ?_
          have dl : ∀ d9, ∀ (k9 : Nat), ∀ (U : Nat → Nat), ∀ (Q : Nat → Nat), k9 < d9 → (k9 ≤ N1 - sz c0) → (vl 65536 U (k9 + 1 + sz c0) + vl 65536 (fun i => Q (k9 + 1 + i)) (N1 - sz c0 - k9) * (65536 ^ (k9 + 1) * vl 65536 D (sz c0)) = vl 65536 O N1 * 2 ^ j) → (vl 65536 U (k9 + 1 + sz c0) < 65536 ^ (k9 + 1) * vl 65536 D (sz c0)) → (∀ i, i < 170 → U i < 65536) → (∀ i, i < 170 → Q i < 65536) → ∀ (H : Heap) (locs : List Loc), Sw G A s.heap H locs [((ma 22), .inl (k 0, 3998, .inl (fun i => nI (sz i)))), ((ma 26), .inl (k 0, 170, .inl (fun i => nI (Q i)))), ((ma 21), .inl (k 0, 319840, .inl (fun i => nI (dg i)))), ((ma 27), .inl (k 0, 170, .inl (fun i => nI (D i)))), (h0, .inr (8, moL ma (va_up iv 19 (nI N1)) co)), ((ma 24), .inl (k 0, 170, .inl (fun i => nI (U i))))] → ∀ ls : Array Slot, lv_has ls 6 [(5, .int (nI k9)), (2, .int (nI (sz c0))), (1, .int (nI c0)), (0, .ref h0)] → W p l e { frames := 1, cells := 0, slots := 0, locals := 33 } s m [Value.ref h0, Value.int (nI c0)].toArray below meth c H locs 0 0 (MQ below (va_Qv (fun (u : (Nat → Nat) × (Nat → Nat) × (Nat → Nat) × Nat) => vl 65536 u.2.1 u.2.2.2 = vl 65536 O N1 / vl 65536 (fun i => dg (c0 * 80 + i)) (sz c0) ∧ u.2.2.2 ≤ 161 ∧ (u.2.2.2 = 0 ∨ u.2.1 (u.2.2.2 - 1) ≠ 0) ∧ (∀ i, i < 170 → u.1 i < 65536) ∧ (∀ i, i < 170 → u.2.1 i < 65536) ∧ (∀ i, i < 170 → u.2.2.1 i < 65536)) (Po G k A (fun u => [(h0, .inr (8, moL ma (va_up (va_up iv 19 (nI N1)) 23 (nI u.2.2.2)) co)), ((ma 21), .inl (k 0, 319840, .inl (fun i => nI (dg i)))), ((ma 22), .inl (k 0, 3998, .inl (fun i => nI (sz i)))), ((ma 24), .inl (k 0, 170, .inl (fun i => nI (u.1 i)))), ((ma 26), .inl (k 0, 170, .inl (fun i => nI (u.2.1 i)))), ((ma 27), .inl (k 0, 170, .inl (fun i => nI (u.2.2.1 i))))])) A) [Value.ref h0, Value.int (nI c0)].toArray s 0 0 A) (F0 m 89 ls []) := by
            intro d9
            induction d9 with
            | zero => intro k9 U Q hm; exact absurd hm (Nat.not_lt_zero _)
            | succ d9 ih =>
              intro k9 U Q hm hk hI hlt dU dQ2 H locs S ls hl
              have hfi := dv_first hlt
              refine lv_aload_n hx hb d_Mo_divide_89 rfl (lv_at hl 3 rfl) ?_
              refine r_get C K S 4 rfl rfl clOk_Mo 46 (by decide) wf_Mo_99 (v := .ref (ma 26)) rfl d_Mo_divide_90 ?_
              refine lv_iload hx hb d_Mo_divide_93 (lv_at hl 0 rfl) ?_
              refine lv_aload_n hx hb d_Mo_divide_95 rfl (lv_at hl 3 rfl) ?_
              refine lv_iload hx hb d_Mo_divide_96 (lv_at hl 0 rfl) ?_
              refine lv_iload_n hx hb d_Mo_divide_98 rfl (lv_at hl 1 rfl) ?_
              refine r_backi (wi := [(h0, .inr (8, moL ma (va_up iv 19 (nI N1)) co)), ((ma 24), .inl (k 0, 170, .inl (fun i => nI (U i)))), ((ma 27), .inl (k 0, 170, .inl (fun i => nI (D i))))]) (wr := [((ma 22), .inl (k 0, 3998, .inl (fun i => nI (sz i)))), ((ma 26), .inl (k 0, 170, .inl (fun i => nI (Q i)))), ((ma 21), .inl (k 0, 319840, .inl (fun i => nI (dg i))))]) S hA [4, 5, 3] [0, 1, 2] rfl rfl (by decide) (by decide) (va_runV (As := [.int (nI k9), .int (nI (sz c0))]) (rest := [.int (nI k9), .ref (ma 26)]) ⟨hx, hb, C.2.2.1, C.2.2.2.1, C.2.2.2.2.1⟩ (g_Mo_digit l G k h0 _ k9 (sz c0) ma (va_up iv 19 (nI N1)) co U D hp hs (by omega) dU hD2 hDt hfi) (k_virt (n := 2) C wc_Mo_digit rfl rfl wz_Mo wm_Mo_323 wn_Mo_digit ws_Mo_digit (by decide +kernel) ⟨(Nat.le_of_ble_eq_true rfl), (Nat.le_of_ble_eq_true rfl)⟩) (pr_nowV K S [4, 5, 3] (by decide) rfl 4 rfl rfl) rfl rfl hl.1 rfl (lv_room (Nat.le_of_ble_eq_true rfl)) d_Mo_divide_99 ⟨(Nat.le_of_ble_eq_true rfl), (Nat.le_of_ble_eq_true rfl)⟩) (fun r7 u5 H locs hw6 S => ?_)
              have S : Sw G A s.heap _ _ [((ma 22), .inl (k 0, 3998, .inl (fun i => nI (sz i)))), ((ma 26), .inl (k 0, 170, .inl (fun i => nI (Q i)))), ((ma 21), .inl (k 0, 319840, .inl (fun i => nI (dg i)))), (h0, .inr (8, moL ma (va_up iv 19 (nI N1)) co)), ((ma 24), .inl (k 0, 170, .inl (fun i => nI (u5 i)))), ((ma 27), .inl (k 0, 170, .inl (fun i => nI (D i))))] := S
              obtain ⟨hw60, hw3⟩ := hw6
              obtain rfl : r7 = nI (vl 65536 (fun i => U (k9 + i)) ((sz c0) + 1) / vl 65536 D (sz c0)) := hw60
              have hnx := dv_next (O := U) (U := u5) (qt := Q) (n := sz c0) (N := N1 - sz c0) (k9 := k9) hk hI hVp hVn (fun i hi => dU i (by omega)) hw3.1 (fun i hi => hw3.2.2 i (Or.inl hi))
              have hqd : vl 65536 (fun i => U (k9 + i)) (sz c0 + 1) / vl 65536 D (sz c0) < 65536 := (Nat.div_lt_iff_lt_mul hVp).mpr hfi
              have dQ3 := dv_put (Q := Q) (k9 := k9) dQ2 hqd
              refine r_iast C K S 1 rfl (i := nI k9) (x := nI (vl 65536 (fun i => U (k9 + i)) ((sz c0) + 1) / vl 65536 D (sz c0))) (show vp_in (nI k9) _ from vp_in_nI (n := k9) (by omega) (by decide)) (f' := fun i => nI (va_up Q k9 (vl 65536 (fun i => U (k9 + i)) ((sz c0) + 1) / vl 65536 D (sz c0)) i)) (ws' := [((ma 22), .inl (k 0, 3998, .inl (fun i => nI (sz i)))), ((ma 26), .inl (k 0, 170, .inl (fun i => nI (va_up Q k9 (vl 65536 (fun i => U (k9 + i)) ((sz c0) + 1) / vl 65536 D (sz c0)) i)))), ((ma 21), .inl (k 0, 319840, .inl (fun i => nI (dg i)))), (h0, .inr (8, moL ma (va_up iv 19 (nI N1)) co)), ((ma 24), .inl (k 0, 170, .inl (fun i => nI (u5 i)))), ((ma 27), .inl (k 0, 170, .inl (fun i => nI (D i))))]) (show upd _ (nI k9 : Int32).toNatClampNeg (nI (vl 65536 (fun i => U (k9 + i)) ((sz c0) + 1) / vl 65536 D (sz c0))) = _ from upd_nI Q (j := k9) (by omega) (vl 65536 (fun i => U (k9 + i)) ((sz c0) + 1) / vl 65536 D (sz c0))) rfl d_Mo_divide_102 (fun H locs S => ?_)
              rcases Nat.eq_zero_or_pos k9 with hz | hz
              · refine lv_iinc (v := (-1)) (lv' := [(5, .int (-1)), (2, .int (nI (sz c0))), (1, .int (nI c0)), (0, .ref h0)]) hx hb d_Mo_divide_103 hl (k := 0) rfl (by rw [hz]; decide) (by decide) rfl (fun ls hl => ?_)
                refine lv_goto (tgt := 84) hx hb d_Mo_divide_106 (by decide) ?_
                refine lv_iload hx hb d_Mo_divide_84 (lv_at hl 0 rfl) ?_
                refine lv_if_lt (tgt := 109) hx hb d_Mo_divide_86 (by decide) (fun _ => ?_) (fun hq => absurd (by decide) hq)
                refine lv_aload_n hx hb d_Mo_divide_109 rfl (lv_at hl 3 rfl) ?_
                refine lv_aload_n hx hb d_Mo_divide_110 rfl (lv_at hl 3 rfl) ?_
                refine r_get C K S 3 rfl rfl clOk_Mo 46 (by decide) wf_Mo_99 (v := .ref (ma 26)) rfl d_Mo_divide_111 ?_
                refine lv_aload_n hx hb d_Mo_divide_114 rfl (lv_at hl 3 rfl) ?_
                refine r_get C K S 3 rfl rfl clOk_Mo 48 (by decide) wf_Mo_286 (v := .int (nI N1)) rfl d_Mo_divide_115 ?_
                refine lv_iload_n hx hb d_Mo_divide_118 rfl (lv_at hl 1 rfl) ?_
                refine z_isub (x := nI N1) (y := nI (sz c0)) (v := nI (N1 - (sz c0))) hx hb d_Mo_divide_119 (pk_sub (a := N1) (b := (sz c0)) (by omega)) ?_
                refine lv_iconst (v := 1) hx hb d_Mo_divide_120 (by decide) ?_
                refine z_iadd (x := nI (N1 - (sz c0))) (y := 1) (v := nI ((N1 - (sz c0)) + 1)) hx hb d_Mo_divide_121 (nI_add (N1 - (sz c0)) 1) ?_
                refine r_backi (wi := [((ma 26), .inl (k 0, 170, .inl (fun i => nI (va_up Q k9 (vl 65536 (fun i => U (k9 + i)) ((sz c0) + 1) / vl 65536 D (sz c0)) i))))]) (wr := [((ma 22), .inl (k 0, 3998, .inl (fun i => nI (sz i)))), ((ma 21), .inl (k 0, 319840, .inl (fun i => nI (dg i)))), (h0, .inr (8, moL ma (va_up iv 19 (nI N1)) co)), ((ma 24), .inl (k 0, 170, .inl (fun i => nI (u5 i)))), ((ma 27), .inl (k 0, 170, .inl (fun i => nI (D i))))]) S hA [1] [0, 2, 3, 4, 5] rfl rfl (by decide) (by decide) (va_runS (As := [.ref (ma 26), .int (nI ((N1 - (sz c0)) + 1))]) (rest := [.ref h0]) ⟨hx, hb, C.2.2.1, C.2.2.2.1, C.2.2.2.2.1⟩ (k_Mo_cut2 l G k (ma 26) _ 170 ((N1 - (sz c0)) + 1) (fun i => nI (va_up Q k9 (vl 65536 (fun i => U (k9 + i)) ((sz c0) + 1) / vl 65536 D (sz c0)) i)) (by omega) (by decide)) (k_stat (n := 2) C wc_Mo_cut2 rfl rfl wz_Mo wm_Mo_278 wt_Mo_cut2 (by decide +kernel) ⟨(Nat.le_of_ble_eq_true rfl), (Nat.le_of_ble_eq_true rfl)⟩) (pr_now K S [1] (by decide) rfl) rfl rfl hl.1 rfl (lv_room (Nat.le_of_ble_eq_true rfl)) d_Mo_divide_122 ⟨(Nat.le_of_ble_eq_true rfl), (Nat.le_of_ble_eq_true rfl)⟩) (fun r10 u8 H locs hw9 S => ?_)
                have S : Sw G A s.heap _ _ [((ma 22), .inl (k 0, 3998, .inl (fun i => nI (sz i)))), ((ma 21), .inl (k 0, 319840, .inl (fun i => nI (dg i)))), (h0, .inr (8, moL ma (va_up iv 19 (nI N1)) co)), ((ma 24), .inl (k 0, 170, .inl (fun i => nI (u5 i)))), ((ma 27), .inl (k 0, 170, .inl (fun i => nI (D i)))), ((ma 26), .inl (k 0, 170, .inl (fun i => nI (va_up Q k9 (vl 65536 (fun i => U (k9 + i)) ((sz c0) + 1) / vl 65536 D (sz c0)) i))))] := S
                obtain rfl : r10 = nI (cutN (fun i => nI (va_up Q k9 (vl 65536 (fun i => U (k9 + i)) ((sz c0) + 1) / vl 65536 D (sz c0)) i)) ((N1 - (sz c0)) + 1)) := hw9
                refine r_put C K S 2 rfl rfl clOk_Mo 52 (by decide) wf_Mo_313 rfl (ty := .int) (v := .int (nI (cutN (fun i => nI (va_up Q k9 (vl 65536 (fun i => U (k9 + i)) ((sz c0) + 1) / vl 65536 D (sz c0)) i)) ((N1 - (sz c0)) + 1)))) (by decide +kernel) rfl rfl (Nat.le_of_ble_eq_true rfl) (fs' := moL ma (va_up (va_up iv 19 (nI N1)) 23 (nI (cutN (fun i => nI (va_up Q k9 (vl 65536 (fun i => U (k9 + i)) ((sz c0) + 1) / vl 65536 D (sz c0)) i)) ((N1 - (sz c0)) + 1)))) co) (ws' := [((ma 22), .inl (k 0, 3998, .inl (fun i => nI (sz i)))), ((ma 21), .inl (k 0, 319840, .inl (fun i => nI (dg i)))), (h0, .inr (8, moL ma (va_up (va_up iv 19 (nI N1)) 23 (nI (cutN (fun i => nI (va_up Q k9 (vl 65536 (fun i => U (k9 + i)) ((sz c0) + 1) / vl 65536 D (sz c0)) i)) ((N1 - (sz c0)) + 1)))) co)), ((ma 24), .inl (k 0, 170, .inl (fun i => nI (u5 i)))), ((ma 27), .inl (k 0, 170, .inl (fun i => nI (D i)))), ((ma 26), .inl (k 0, 170, .inl (fun i => nI (va_up Q k9 (vl 65536 (fun i => U (k9 + i)) ((sz c0) + 1) / vl 65536 D (sz c0)) i))))]) rfl rfl d_Mo_divide_125 (fun H locs S => ?_)
                have hct := vl_cut (B := 65536) (va_up Q k9 (vl 65536 (fun i => U (k9 + i)) (sz c0 + 1) / vl 65536 D (sz c0))) (fun i => nI ((va_up Q k9 (vl 65536 (fun i => U (k9 + i)) (sz c0 + 1) / vl 65536 D (sz c0))) i)) (fun _ => rfl) (N1 - sz c0 + 1) (fun i hi => Nat.lt_trans (dQ3 i (by omega)) (by decide))
                have hen := dv_q0 hz hnx.1 hnx.2 hD3
                exact r_vret C K (u5, (va_up Q k9 (vl 65536 (fun i => U (k9 + i)) (sz c0 + 1) / vl 65536 D (sz c0))), D, cutN (fun i => nI ((va_up Q k9 (vl 65536 (fun i => U (k9 + i)) (sz c0 + 1) / vl 65536 D (sz c0))) i)) (N1 - sz c0 + 1)) ⟨by rw [← hct.1]; exact hen, Nat.le_trans hct.2.1 (by omega), hct.2.2, hw3.2.1, dQ3, hD2⟩ (S.sub [2, 1, 0, 3, 5, 4] (by decide) rfl) d_Mo_divide_128 (Nat.le_of_ble_eq_true rfl) (Nat.le_of_ble_eq_true rfl)
              · refine lv_iinc (v := nI (k9 - 1)) (lv' := [(5, .int (nI (k9 - 1))), (2, .int (nI (sz c0))), (1, .int (nI c0)), (0, .ref h0)]) hx hb d_Mo_divide_103 hl (k := 0) rfl (z_m1 (a := k9) (by omega)) (by decide) rfl (fun ls hl => ?_)
                refine lv_goto (tgt := 84) hx hb d_Mo_divide_106 (by decide) ?_
                refine lv_iload hx hb d_Mo_divide_84 (lv_at hl 0 rfl) ?_
                refine z_if_lt (a := (k9 - 1)) (tgt := 109) hx hb d_Mo_divide_86 (by decide) (by omega) ?_
                exact ih (k9 - 1) u5 (va_up Q k9 (vl 65536 (fun i => U (k9 + i)) (sz c0 + 1) / vl 65536 D (sz c0))) (by omega) (by omega) (by rw [show k9 - 1 + 1 = k9 by omega, show N1 - sz c0 - (k9 - 1) = N1 - sz c0 + 1 - k9 by omega]; exact hnx.1) (by rw [show k9 - 1 + 1 = k9 by omega]; exact hnx.2) hw3.2.1 dQ3 _ _ (S.sub [0, 1, 2, 5, 3, 4] (by decide) rfl) ls (lv_sub hl [0, 1, 2, 3] rfl)
          exact dl _ (N1 - sz c0) R0 qt (Nat.lt_succ_self _) (Nat.le_refl _) (by rw [show N1 - sz c0 + 1 + sz c0 = N1 + 1 by omega, Nat.sub_self]; show vl 65536 R0 (N1 + 1) + 0 * _ = _; rw [hR3, Nat.zero_mul, Nat.add_zero]) (by rw [show N1 - sz c0 + 1 + sz c0 = N1 + 1 by omega, hR3, hD3]; exact dv_start (n := sz c0) (by rw [show N1 - sz c0 + sz c0 = N1 by omega]; exact hA1) hB1 hp) hR2 dQ _ _ (S.sub [0, 1, 2, 3, 4, 5] (by decide) rfl) ls (lv_sub hl [0, 3, 4, 5] rfl)
        · refine lv_iinc (v := nI (j + 1)) (lv' := [(3, .int (nI (j + 1))), (4, .int (nI (dg (c0 * 80 + sz c0 - 1)))), (2, .int (nI (sz c0))), (1, .int (nI c0)), (0, .ref h0)]) hx hb d_Mo_divide_48 hl (k := 1) rfl (show nI j + Int32.ofInt 1 = nI (j + 1) from (nI_add j 1).trans (congrArg nI (by omega))) (by decide) rfl (fun ls hl => ?_)
          refine lv_goto (tgt := 38) hx hb d_Mo_divide_51 (by decide) ?_
          exact ih (j + 1) (by omega) (by rw [Nat.pow_succ, ← Nat.mul_assoc]; omega) _ _ (S.sub [0, 1, 2, 3, 4, 5] (by decide) rfl) ls (lv_sub hl [1, 0, 2, 3, 4] rfl)
    exact lp _ 0 (Nat.lt_succ_self _) (by rw [Nat.pow_zero, Nat.mul_one]; exact d1) _ _ (S.sub [0, 1, 2, 3, 4, 5] (by decide) rfl) ls (lv_sub hl [0, 1, 2, 4, 3] rfl)
  · have hAB : vl 65536 O N1 < vl 65536 (fun i => dg (c0 * 80 + i)) (sz c0) := Nat.lt_of_lt_of_le (vl_lt N1 (fun i hi => dO i (by omega))) (Nat.le_trans (Nat.pow_le_pow_right (by decide) (by omega)) (vl_ge hp ht))
    refine lv_aload_n hx hb d_Mo_divide_15 rfl (lv_at hl 1 rfl) ?_
    refine lv_iconst (v := 0) hx hb d_Mo_divide_16 (by decide) ?_
    refine r_put C K S 0 rfl rfl clOk_Mo 52 (by decide) wf_Mo_313 rfl (ty := .int) (v := .int 0) (by decide +kernel) rfl rfl (Nat.le_of_ble_eq_true rfl) (fs' := moL ma (va_up (va_up iv 19 (nI N1)) 23 0) co) (ws' := [(h0, .inr (8, moL ma (va_up (va_up iv 19 (nI N1)) 23 0) co)), ((ma 21), .inl (k 0, 319840, .inl (fun i => nI (dg i)))), ((ma 22), .inl (k 0, 3998, .inl (fun i => nI (sz i)))), ((ma 24), .inl (k 0, 170, .inl (fun i => nI (O i)))), ((ma 26), .inl (k 0, 170, .inl (fun i => nI (qt i)))), ((ma 27), .inl (k 0, 170, .inl (fun i => nI (Dv i))))]) rfl rfl d_Mo_divide_17 (fun H locs S => ?_)
    exact r_vret C K (O, qt, Dv, 0) ⟨dv_small hAB, Nat.zero_le _, Or.inl rfl, dO, dQ, dD⟩ (S.sub [0, 1, 2, 3, 4, 5] (by decide) rfl) d_Mo_divide_20 (Nat.le_of_ble_eq_true rfl) (Nat.le_of_ble_eq_true rfl)
