theorem ln_neg {x : Int64} (h : 0 < x.toInt) : (-x).toInt = - x.toInt := by
  rw [Int64.toInt_neg]
  exact Int.bmod_eq_of_le (by have := x.toInt_lt; omega) (by omega)
theorem lcg_gt {a b : Int64} (h : 0 < lg_cmp a b) : b.toInt < a.toInt := lz_lt.mp ((lg_cmp_gt _ _).mp h)
theorem p46 : (65536 : Nat) ^ 42 * 9223372036854775808 + 65536 ^ 42 < 65536 ^ 46 ∧ (65536 : Nat) ^ 42 * 2147483648 < 65536 ^ 46 ∧ 5 * (65536 : Nat) ^ 46 < 65536 ^ 80 := by decide +kernel
theorem cv_first0 {b o x : Int} {P Q : Nat} (hPQ : P * 9223372036854775808 + P < Q) (hb : b.natAbs < P) (ho : o.natAbs < P) (hx : x.natAbs ≤ 9223372036854775808) : (b * 1 + x * o).natAbs ≤ 1 * Q := by
  have h2 := Int.natAbs_add_le (b * 1) (x * o)
  rw [Int.natAbs_mul x o] at h2
  rw [Int.mul_one] at h2 ⊢
  have h3 : x.natAbs * o.natAbs ≤ 9223372036854775808 * P := Nat.mul_le_mul hx (Nat.le_of_lt ho)
  omega
theorem cv_first {b o x : Int} (hb : b.natAbs < 65536 ^ 42) (ho : o.natAbs < 65536 ^ 42) (hx : x.natAbs ≤ 9223372036854775808) : (b * 1 + x * o).natAbs ≤ 1 * 65536 ^ 46 := cv_first0 p46.1 hb ho hx
theorem cv_next0 {s b x : Int} {i P Q : Nat} (hPQ : P * 2147483648 < Q) (hs : s.natAbs ≤ (i + 1) * Q) (hb : b.natAbs < P) (hx : x.natAbs ≤ 2147483648) : (s * 1 + b * x).natAbs ≤ (i + 1 + 1) * Q := by
  have h2 := Int.natAbs_add_le (s * 1) (b * x)
  rw [Int.natAbs_mul b x] at h2
  rw [Int.mul_one] at h2 ⊢
  have h3 : b.natAbs * x.natAbs ≤ P * 2147483648 := Nat.mul_le_mul (Nat.le_of_lt hb) hx
  rw [Nat.add_mul (i + 1) 1, Nat.one_mul]
  omega
theorem cv_next {s b x : Int} {i : Nat} (hs : s.natAbs ≤ (i + 1) * 65536 ^ 46) (hb : b.natAbs < 65536 ^ 42) (hx : x.natAbs ≤ 2147483648) : (s * 1 + b * x).natAbs ≤ (i + 1 + 1) * 65536 ^ 46 := cv_next0 p46.2.1 hs hb hx
theorem cv_800 {n i Q R : Nat} (hQR : 5 * Q < R) (h : n ≤ (i + 1) * Q) (hi : i ≤ 4) : n < R := by
  have h2 : (i + 1) * Q ≤ 5 * Q := Nat.mul_le_mul_right _ (by omega)
  omega
theorem cv_80 {n i : Nat} (h : n ≤ (i + 1) * 65536 ^ 46) (hi : i ≤ 4) : n < 65536 ^ 80 := cv_800 p46.2.2 h hi
theorem i64_abs (x : Int32) : x.toInt64.toInt.natAbs ≤ 2147483648 ∧ -9223372036854775808 < x.toInt64.toInt := by
  rw [Int32.toInt_toInt64]
  have h1 := x.toInt_lt
  have h2 := x.le_toInt
  constructor <;> omega
theorem d_Mo_covers_0 : decode c_Mo_covers 0 = .ok (.aload_n 0, 1) := by decide +kernel
theorem d_Mo_covers_1 : decode c_Mo_covers 1 = .ok (.getfield 383, 3) := by decide +kernel
theorem d_Mo_covers_4 : decode c_Mo_covers 4 = .ok (.ifCond .ne 6, 3) := by decide +kernel
theorem d_Mo_covers_7 : decode c_Mo_covers 7 = .ok (.bipush (-2), 2) := by decide +kernel
theorem d_Mo_covers_9 : decode c_Mo_covers 9 = .ok (.ireturn, 1) := by decide +kernel
theorem d_Mo_covers_10 : decode c_Mo_covers 10 = .ok (.aload_n 0, 1) := by decide +kernel
theorem d_Mo_covers_11 : decode c_Mo_covers 11 = .ok (.getfield 9, 3) := by decide +kernel
theorem d_Mo_covers_14 : decode c_Mo_covers 14 = .ok (.aload_n 0, 1) := by decide +kernel
theorem d_Mo_covers_15 : decode c_Mo_covers 15 = .ok (.getfield 392, 3) := by decide +kernel
theorem d_Mo_covers_18 : decode c_Mo_covers 18 = .ok (.iaload, 1) := by decide +kernel
theorem d_Mo_covers_19 : decode c_Mo_covers 19 = .ok (.istore 6, 2) := by decide +kernel
theorem d_Mo_covers_21 : decode c_Mo_covers 21 = .ok (.iload_n 1, 1) := by decide +kernel
theorem d_Mo_covers_22 : decode c_Mo_covers 22 = .ok (.ifCond .lt 11, 3) := by decide +kernel
theorem d_Mo_covers_25 : decode c_Mo_covers 25 = .ok (.iload_n 2, 1) := by decide +kernel
theorem d_Mo_covers_26 : decode c_Mo_covers 26 = .ok (.ifCond .lt 7, 3) := by decide +kernel
theorem d_Mo_covers_29 : decode c_Mo_covers 29 = .ok (.iload_n 3, 1) := by decide +kernel
theorem d_Mo_covers_30 : decode c_Mo_covers 30 = .ok (.ifCond .ge 6, 3) := by decide +kernel
theorem d_Mo_covers_33 : decode c_Mo_covers 33 = .ok (.bipush (-2), 2) := by decide +kernel
theorem d_Mo_covers_35 : decode c_Mo_covers 35 = .ok (.ireturn, 1) := by decide +kernel
theorem d_Mo_covers_36 : decode c_Mo_covers 36 = .ok (.lload 4, 2) := by decide +kernel
theorem d_Mo_covers_38 : decode c_Mo_covers 38 = .ok (.lconst 0, 1) := by decide +kernel
theorem d_Mo_covers_39 : decode c_Mo_covers 39 = .ok (.lcmp, 1) := by decide +kernel
theorem d_Mo_covers_40 : decode c_Mo_covers 40 = .ok (.ifCond .gt 5, 3) := by decide +kernel
theorem d_Mo_covers_43 : decode c_Mo_covers 43 = .ok (.iconst 1, 1) := by decide +kernel
theorem d_Mo_covers_44 : decode c_Mo_covers 44 = .ok (.ireturn, 1) := by decide +kernel
theorem d_Mo_covers_45 : decode c_Mo_covers 45 = .ok (.aload_n 0, 1) := by decide +kernel
theorem d_Mo_covers_46 : decode c_Mo_covers 46 = .ok (.sipush 3990, 3) := by decide +kernel
theorem d_Mo_covers_49 : decode c_Mo_covers 49 = .ok (.lconst 1, 1) := by decide +kernel
theorem d_Mo_covers_50 : decode c_Mo_covers 50 = .ok (.invokevirtual 360, 3) := by decide +kernel
theorem d_Mo_covers_53 : decode c_Mo_covers 53 = .ok (.aload_n 0, 1) := by decide +kernel
theorem d_Mo_covers_54 : decode c_Mo_covers 54 = .ok (.sipush 3991, 3) := by decide +kernel
theorem d_Mo_covers_57 : decode c_Mo_covers 57 = .ok (.lload 4, 2) := by decide +kernel
theorem d_Mo_covers_59 : decode c_Mo_covers 59 = .ok (.lneg, 1) := by decide +kernel
theorem d_Mo_covers_60 : decode c_Mo_covers 60 = .ok (.invokevirtual 360, 3) := by decide +kernel
theorem d_Mo_covers_63 : decode c_Mo_covers 63 = .ok (.aload_n 0, 1) := by decide +kernel
theorem d_Mo_covers_64 : decode c_Mo_covers 64 = .ok (.sipush 3992, 3) := by decide +kernel
theorem d_Mo_covers_67 : decode c_Mo_covers 67 = .ok (.aload_n 0, 1) := by decide +kernel
theorem d_Mo_covers_68 : decode c_Mo_covers 68 = .ok (.iconst 3, 1) := by decide +kernel
theorem d_Mo_covers_69 : decode c_Mo_covers 69 = .ok (.invokevirtual 404, 3) := by decide +kernel
theorem d_Mo_covers_72 : decode c_Mo_covers 72 = .ok (.sipush 3990, 3) := by decide +kernel
theorem d_Mo_covers_75 : decode c_Mo_covers 75 = .ok (.sipush 3991, 3) := by decide +kernel
theorem d_Mo_covers_78 : decode c_Mo_covers 78 = .ok (.sipush 3997, 3) := by decide +kernel
theorem d_Mo_covers_81 : decode c_Mo_covers 81 = .ok (.invokevirtual 409, 3) := by decide +kernel
theorem d_Mo_covers_84 : decode c_Mo_covers 84 = .ok (.iconst 0, 1) := by decide +kernel
theorem d_Mo_covers_85 : decode c_Mo_covers 85 = .ok (.istore 7, 2) := by decide +kernel
theorem d_Mo_covers_87 : decode c_Mo_covers 87 = .ok (.iload 7, 2) := by decide +kernel
theorem d_Mo_covers_89 : decode c_Mo_covers 89 = .ok (.iload 6, 2) := by decide +kernel
theorem d_Mo_covers_91 : decode c_Mo_covers 91 = .ok (.if_icmp .ge 80, 3) := by decide +kernel
theorem d_Mo_covers_94 : decode c_Mo_covers 94 = .ok (.aload_n 0, 1) := by decide +kernel
theorem d_Mo_covers_95 : decode c_Mo_covers 95 = .ok (.sipush 3991, 3) := by decide +kernel
theorem d_Mo_covers_98 : decode c_Mo_covers 98 = .ok (.iload 7, 2) := by decide +kernel
theorem d_Mo_covers_100 : decode c_Mo_covers 100 = .ok (.ifCond .ne 8, 3) := by decide +kernel
theorem d_Mo_covers_103 : decode c_Mo_covers 103 = .ok (.iload_n 1, 1) := by decide +kernel
theorem d_Mo_covers_104 : decode c_Mo_covers 104 = .ok (.i2l, 1) := by decide +kernel
theorem d_Mo_covers_105 : decode c_Mo_covers 105 = .ok (.goto 16, 3) := by decide +kernel
theorem d_Mo_covers_108 : decode c_Mo_covers 108 = .ok (.iload 7, 2) := by decide +kernel
theorem d_Mo_covers_110 : decode c_Mo_covers 110 = .ok (.iconst 1, 1) := by decide +kernel
theorem d_Mo_covers_111 : decode c_Mo_covers 111 = .ok (.if_icmp .ne 8, 3) := by decide +kernel
theorem d_Mo_covers_114 : decode c_Mo_covers 114 = .ok (.iload_n 2, 1) := by decide +kernel
theorem d_Mo_covers_115 : decode c_Mo_covers 115 = .ok (.i2l, 1) := by decide +kernel
theorem d_Mo_covers_116 : decode c_Mo_covers 116 = .ok (.goto 5, 3) := by decide +kernel
theorem d_Mo_covers_119 : decode c_Mo_covers 119 = .ok (.iload_n 3, 1) := by decide +kernel
theorem d_Mo_covers_120 : decode c_Mo_covers 120 = .ok (.i2l, 1) := by decide +kernel
theorem d_Mo_covers_121 : decode c_Mo_covers 121 = .ok (.invokevirtual 360, 3) := by decide +kernel
theorem d_Mo_covers_124 : decode c_Mo_covers 124 = .ok (.aload_n 0, 1) := by decide +kernel
theorem d_Mo_covers_125 : decode c_Mo_covers 125 = .ok (.sipush 3993, 3) := by decide +kernel
theorem d_Mo_covers_128 : decode c_Mo_covers 128 = .ok (.sipush 3992, 3) := by decide +kernel
theorem d_Mo_covers_131 : decode c_Mo_covers 131 = .ok (.sipush 3990, 3) := by decide +kernel
theorem d_Mo_covers_134 : decode c_Mo_covers 134 = .ok (.aload_n 0, 1) := by decide +kernel
theorem d_Mo_covers_135 : decode c_Mo_covers 135 = .ok (.iload 7, 2) := by decide +kernel
theorem d_Mo_covers_137 : decode c_Mo_covers 137 = .ok (.invokevirtual 404, 3) := by decide +kernel
theorem d_Mo_covers_140 : decode c_Mo_covers 140 = .ok (.sipush 3991, 3) := by decide +kernel
theorem d_Mo_covers_143 : decode c_Mo_covers 143 = .ok (.invokevirtual 409, 3) := by decide +kernel
theorem d_Mo_covers_146 : decode c_Mo_covers 146 = .ok (.aload_n 0, 1) := by decide +kernel
theorem d_Mo_covers_147 : decode c_Mo_covers 147 = .ok (.sipush 3992, 3) := by decide +kernel
theorem d_Mo_covers_150 : decode c_Mo_covers 150 = .ok (.sipush 3993, 3) := by decide +kernel
theorem d_Mo_covers_153 : decode c_Mo_covers 153 = .ok (.sipush 3990, 3) := by decide +kernel
theorem d_Mo_covers_156 : decode c_Mo_covers 156 = .ok (.sipush 3994, 3) := by decide +kernel
theorem d_Mo_covers_159 : decode c_Mo_covers 159 = .ok (.sipush 3994, 3) := by decide +kernel
theorem d_Mo_covers_162 : decode c_Mo_covers 162 = .ok (.invokevirtual 409, 3) := by decide +kernel
theorem d_Mo_covers_165 : decode c_Mo_covers 165 = .ok (.iinc 7 1, 3) := by decide +kernel
theorem d_Mo_covers_168 : decode c_Mo_covers 168 = .ok (.goto (-81), 3) := by decide +kernel
theorem d_Mo_covers_171 : decode c_Mo_covers 171 = .ok (.aload_n 0, 1) := by decide +kernel
theorem d_Mo_covers_172 : decode c_Mo_covers 172 = .ok (.sipush 3992, 3) := by decide +kernel
theorem d_Mo_covers_175 : decode c_Mo_covers 175 = .ok (.invokevirtual 330, 3) := by decide +kernel
theorem d_Mo_covers_178 : decode c_Mo_covers 178 = .ok (.ifCond .lt 7, 3) := by decide +kernel
theorem d_Mo_covers_181 : decode c_Mo_covers 181 = .ok (.iconst 1, 1) := by decide +kernel
theorem d_Mo_covers_182 : decode c_Mo_covers 182 = .ok (.goto 4, 3) := by decide +kernel
theorem d_Mo_covers_185 : decode c_Mo_covers 185 = .ok (.iconst 0, 1) := by decide +kernel
theorem d_Mo_covers_186 : decode c_Mo_covers 186 = .ok (.ireturn, 1) := by decide +kernel
set_option maxRecDepth 100000 in
set_option maxHeartbeats 16000000 in
/-- covers(xa, xb, xc, xn) -/
theorem g_Mo_covers (l : Launch) (G : va_G) (k : Nat → ClassId) (h0 : Nat) (s0 : Nat) (xa : Int32) (xb : Int32) (xc : Int32) (xn : Int64) (sv9 : Nat) (bf : Nat) (rows : Nat) (ma : Nat → Nat) (iv : Nat → Int32) (co : Int64) (tk : Nat → Nat) (dg : Nat → Nat) (sz : Nat → Nat) (bl : Nat → Nat) (O : Nat → Nat) (T2 : Nat → Nat) (qt : Nat → Nat) (Dv : Nat → Nat) (T : Nat → Int) (hT : tbO dg sz bl T) (hsv : sv9 ≤ 1) (hbf : bf < 4) (hok : sv9 = 1 → solO (tk bf) rows T) (dO : ∀ i, i < 170 → O i < 65536) (d2 : ∀ i, i < 170 → T2 i < 65536) (dQ : ∀ i, i < 170 → qt i < 65536) (dD : ∀ i, i < 170 → Dv i < 65536) (h94 : T 3994 = 0) : CI l y_Mo_covers c_Mo_covers 8 .int { frames := 5, cells := 0, slots := 0, locals := 190 } [.ref h0, .int xa, .int xb, .int xc, .long xn] G k s0 [(h0, .inr (8, moL ma (va_up (va_up (va_up iv 26 (nI sv9)) 27 (nI bf)) 24 (nI rows)) co)), ((ma 0), .inl (k 0, 4, .inl (fun i => nI (tk i)))), ((ma 21), .inl (k 0, 319840, .inl (fun i => nI (dg i)))), ((ma 22), .inl (k 0, 3998, .inl (fun i => nI (sz i)))), ((ma 23), .inl (k 2, 3998, .inl (fun i => nI (bl i)))), ((ma 24), .inl (k 0, 170, .inl (fun i => nI (O i)))), ((ma 25), .inl (k 0, 170, .inl (fun i => nI (T2 i)))), ((ma 26), .inl (k 0, 170, .inl (fun i => nI (qt i)))), ((ma 27), .inl (k 0, 170, .inl (fun i => nI (Dv i))))] (fun (r : Int32) (u : (Nat → Nat → Nat) × (Nat → Int32)) => (∃ T9, tbO (u.1 0) (u.1 1) (u.1 2) T9 ∧ ∀ c, c < 3990 ∨ c = 3994 ∨ c = 3997 → T9 c = T c) ∧ (∀ i, i < 170 → u.1 3 i < 65536) ∧ (∀ i, i < 170 → u.1 4 i < 65536) ∧ (∀ i, i < 170 → u.1 5 i < 65536) ∧ (∀ i, i < 170 → u.1 6 i < 65536)) (fun u => [(h0, .inr (8, moL ma (va_up (va_up (va_up (va_up (va_up (va_up (va_up (va_up iv 26 (nI sv9)) 27 (nI bf)) 24 (nI rows)) 19 (u.2 0)) 20 (u.2 1)) 21 (u.2 2)) 22 (u.2 3)) 23 (u.2 4)) co)), ((ma 0), .inl (k 0, 4, .inl (fun i => nI (tk i)))), ((ma 21), .inl (k 0, 319840, .inl (fun i => nI (u.1 0 i)))), ((ma 22), .inl (k 0, 3998, .inl (fun i => nI (u.1 1 i)))), ((ma 23), .inl (k 2, 3998, .inl (fun i => nI (u.1 2 i)))), ((ma 24), .inl (k 0, 170, .inl (fun i => nI (u.1 3 i)))), ((ma 25), .inl (k 0, 170, .inl (fun i => nI (u.1 4 i)))), ((ma 26), .inl (k 0, 170, .inl (fun i => nI (u.1 5 i)))), ((ma 27), .inl (k 0, 170, .inl (fun i => nI (u.1 6 i))))]) 0 0 := by
  refine met_start (by decide) (Nat.le_of_ble_eq_true rfl) ?_
  intro p e s m below meth c C K hA hsz S ls hl
  generalize va_A [(h0, .inr (8, moL ma (va_up (va_up (va_up iv 26 (nI sv9)) 27 (nI bf)) 24 (nI rows)) co)), ((ma 0), .inl (k 0, 4, .inl (fun i => nI (tk i)))), ((ma 21), .inl (k 0, 319840, .inl (fun i => nI (dg i)))), ((ma 22), .inl (k 0, 3998, .inl (fun i => nI (sz i)))), ((ma 23), .inl (k 2, 3998, .inl (fun i => nI (bl i)))), ((ma 24), .inl (k 0, 170, .inl (fun i => nI (O i)))), ((ma 25), .inl (k 0, 170, .inl (fun i => nI (T2 i)))), ((ma 26), .inl (k 0, 170, .inl (fun i => nI (qt i)))), ((ma 27), .inl (k 0, 170, .inl (fun i => nI (Dv i))))] s0 = A at hA S ⊢
  have hx := C.1
  have hb := C.2.1
  have hl : lv_has ls 8 [(0, .ref h0), (1, .int xa), (2, .int xb), (3, .int xc), (4, .long xn)] := hl
  refine lv_aload_n hx hb d_Mo_covers_0 rfl (lv_at hl 0 rfl) ?_
  refine r_get C K S 0 rfl rfl clOk_Mo 57 (by decide) wf_Mo_383 (v := .int (nI sv9)) rfl d_Mo_covers_1 ?_
  refine z_if_ne (a := sv9) (tgt := 10) hx hb d_Mo_covers_4 (by decide) (by omega) (fun hc1 => ?_) (fun hc1 => ?_)
  · have hs1 : sv9 = 1 := by omega
    have hS0 := hok (by omega)
    have hn0 := hS0.1
    refine lv_aload_n hx hb d_Mo_covers_10 rfl (lv_at hl 0 rfl) ?_
    refine r_get C K S 0 rfl rfl clOk_Mo 1 (by decide) wf_Mo_9 (v := .ref (ma 0)) rfl d_Mo_covers_11 ?_
    refine lv_aload_n hx hb d_Mo_covers_14 rfl (lv_at hl 0 rfl) ?_
    refine r_get C K S 0 rfl rfl clOk_Mo 58 (by decide) wf_Mo_392 (v := .int (nI bf)) rfl d_Mo_covers_15 ?_
    refine r_iald C K S 1 rfl (i := nI bf) (show vp_in (nI bf) _ from vp_in_nI (n := bf) (by omega) (by decide)) (v := nI (tk bf)) (by rw [nI_clamp (by omega)]) d_Mo_covers_18 ?_
    refine lv_istore (lv' := [(6, .int (nI (tk bf))), (0, .ref h0), (1, .int xa), (2, .int xb), (3, .int xc), (4, .long xn)]) hx hb d_Mo_covers_19 hl (by decide) rfl (fun ls hl => ?_)
    refine lv_iload_n hx hb d_Mo_covers_21 rfl (lv_at hl 2 rfl) ?_
    refine lv_if_lt (tgt := 33) hx hb d_Mo_covers_22 (by decide) (fun hc2 => ?_) (fun hc2 => ?_)
    · refine lv_bipush (v := (-2)) hx hb d_Mo_covers_33 (by decide) ?_
      exact r_iret C K rfl (uz [dg, sz, bl, O, T2, qt, Dv], fun j => iv (19 + j)) ⟨⟨T, hT, fun _ _ => rfl⟩, dO, d2, dQ, dD⟩ (S.sub [0, 1, 2, 3, 4, 5, 6, 7, 8] (by decide) rfl) d_Mo_covers_35 (Nat.le_of_ble_eq_true rfl) (Nat.le_of_ble_eq_true rfl)
    · refine lv_iload_n hx hb d_Mo_covers_25 rfl (lv_at hl 3 rfl) ?_
      refine lv_if_lt (tgt := 33) hx hb d_Mo_covers_26 (by decide) (fun hc3 => ?_) (fun hc3 => ?_)
      · refine lv_bipush (v := (-2)) hx hb d_Mo_covers_33 (by decide) ?_
        exact r_iret C K rfl (uz [dg, sz, bl, O, T2, qt, Dv], fun j => iv (19 + j)) ⟨⟨T, hT, fun _ _ => rfl⟩, dO, d2, dQ, dD⟩ (S.sub [0, 1, 2, 3, 4, 5, 6, 7, 8] (by decide) rfl) d_Mo_covers_35 (Nat.le_of_ble_eq_true rfl) (Nat.le_of_ble_eq_true rfl)
      · refine lv_iload_n hx hb d_Mo_covers_29 rfl (lv_at hl 4 rfl) ?_
        refine lv_if_ge (tgt := 36) hx hb d_Mo_covers_30 (by decide) (fun hc4 => ?_) (fun hc4 => ?_)
        · refine lv_lload hx hb d_Mo_covers_36 (lv_at hl 5 rfl) ?_
          refine lv_lconst (v := 0) hx hb d_Mo_covers_38 (by decide) ?_
          refine W.lcmp hx hb d_Mo_covers_39 ?_
          refine lv_if_gt (tgt := 45) hx hb d_Mo_covers_40 (by decide) (fun hc5 => ?_) (fun hc5 => ?_)
          · have hS := hok (by omega)
            have hn := hS.1
            have hro := hS.2.1
            have hxn := lcg_gt hc5
            have hx0 : (0 : Int64).toInt = 0 := by decide
            rw [hx0] at hxn
            have hng := ln_neg hxn
            refine lv_aload_n hx hb d_Mo_covers_45 rfl (lv_at hl 1 rfl) ?_
            refine lv_sipush (v := 3990) hx hb d_Mo_covers_46 (by decide) ?_
            refine lv_lconst (v := 1) hx hb d_Mo_covers_49 (by decide) ?_
            refine r_backv (wi := [(h0, .inr (8, moL ma (va_up (va_up (va_up iv 26 (nI sv9)) 27 (nI bf)) 24 (nI rows)) co)), ((ma 21), .inl (k 0, 319840, .inl (fun i => nI (dg i)))), ((ma 22), .inl (k 0, 3998, .inl (fun i => nI (sz i)))), ((ma 23), .inl (k 2, 3998, .inl (fun i => nI (bl i))))]) (wr := [((ma 0), .inl (k 0, 4, .inl (fun i => nI (tk i)))), ((ma 24), .inl (k 0, 170, .inl (fun i => nI (O i)))), ((ma 25), .inl (k 0, 170, .inl (fun i => nI (T2 i)))), ((ma 26), .inl (k 0, 170, .inl (fun i => nI (qt i)))), ((ma 27), .inl (k 0, 170, .inl (fun i => nI (Dv i))))]) S hA [0, 2, 3, 4] [1, 5, 6, 7, 8] rfl rfl (by decide) (by decide) (va_runV (As := [.int 3990, .long 1]) (rest := []) ⟨hx, hb, C.2.2.1, C.2.2.2.1, C.2.2.2.2.1⟩ (g_Mo_putZ l G k h0 _ 3990 1 ma (va_up (va_up (va_up iv 26 (nI sv9)) 27 (nI bf)) 24 (nI rows)) co dg sz bl T hT (by omega) (by decide)) (k_virt (n := 2) C wc_Mo_put rfl rfl wz_Mo wm_Mo_360 wn_Mo_put ws_Mo_put (by decide +kernel) ⟨(Nat.le_of_ble_eq_true rfl), (Nat.le_of_ble_eq_true rfl)⟩) (pr_nowV K S [0, 2, 3, 4] (by decide) rfl 0 rfl rfl) rfl rfl hl.1 rfl (lv_room (Nat.le_of_ble_eq_true rfl)) d_Mo_covers_50 ⟨(Nat.le_of_ble_eq_true rfl), (Nat.le_of_ble_eq_true rfl)⟩) (fun p14 H locs hw6 S => ?_)
            have S : Sw G A s.heap _ _ [((ma 0), .inl (k 0, 4, .inl (fun i => nI (tk i)))), ((ma 24), .inl (k 0, 170, .inl (fun i => nI (O i)))), ((ma 25), .inl (k 0, 170, .inl (fun i => nI (T2 i)))), ((ma 26), .inl (k 0, 170, .inl (fun i => nI (qt i)))), ((ma 27), .inl (k 0, 170, .inl (fun i => nI (Dv i)))), (h0, .inr (8, moL ma (va_up (va_up (va_up iv 26 (nI sv9)) 27 (nI bf)) 24 (nI rows)) co)), ((ma 21), .inl (k 0, 319840, .inl (fun i => nI (p14.1 i)))), ((ma 22), .inl (k 0, 3998, .inl (fun i => nI (p14.2.1 i)))), ((ma 23), .inl (k 2, 3998, .inl (fun i => nI (p14.2.2 i))))] := S
            have hT_p14 : tbO p14.1 p14.2.1 p14.2.2 (va_up T 3990 1) := by have h9 := hw6; rw [show (1 : Int64).toInt = 1 from by decide] at h9; exact h9
            refine lv_aload_n hx hb d_Mo_covers_53 rfl (lv_at hl 1 rfl) ?_
            refine lv_sipush (v := 3991) hx hb d_Mo_covers_54 (by decide) ?_
            refine lv_lload hx hb d_Mo_covers_57 (lv_at hl 5 rfl) ?_
            refine lv_lneg hx hb d_Mo_covers_59 ?_
            refine r_backv (wi := [(h0, .inr (8, moL ma (va_up (va_up (va_up iv 26 (nI sv9)) 27 (nI bf)) 24 (nI rows)) co)), ((ma 21), .inl (k 0, 319840, .inl (fun i => nI (p14.1 i)))), ((ma 22), .inl (k 0, 3998, .inl (fun i => nI (p14.2.1 i)))), ((ma 23), .inl (k 2, 3998, .inl (fun i => nI (p14.2.2 i))))]) (wr := [((ma 0), .inl (k 0, 4, .inl (fun i => nI (tk i)))), ((ma 24), .inl (k 0, 170, .inl (fun i => nI (O i)))), ((ma 25), .inl (k 0, 170, .inl (fun i => nI (T2 i)))), ((ma 26), .inl (k 0, 170, .inl (fun i => nI (qt i)))), ((ma 27), .inl (k 0, 170, .inl (fun i => nI (Dv i))))]) S hA [5, 6, 7, 8] [0, 1, 2, 3, 4] rfl rfl (by decide) (by decide) (va_runV (As := [.int 3991, .long (-xn)]) (rest := []) ⟨hx, hb, C.2.2.1, C.2.2.2.1, C.2.2.2.2.1⟩ (g_Mo_putZ l G k h0 _ 3991 (-xn) ma (va_up (va_up (va_up iv 26 (nI sv9)) 27 (nI bf)) 24 (nI rows)) co p14.1 p14.2.1 p14.2.2 (va_up T 3990 1) hT_p14 (by omega) (by rw [hng]; have := xn.toInt_lt; omega)) (k_virt (n := 2) C wc_Mo_put rfl rfl wz_Mo wm_Mo_360 wn_Mo_put ws_Mo_put (by decide +kernel) ⟨(Nat.le_of_ble_eq_true rfl), (Nat.le_of_ble_eq_true rfl)⟩) (pr_nowV K S [5, 6, 7, 8] (by decide) rfl 5 rfl rfl) rfl rfl hl.1 rfl (lv_room (Nat.le_of_ble_eq_true rfl)) d_Mo_covers_60 ⟨(Nat.le_of_ble_eq_true rfl), (Nat.le_of_ble_eq_true rfl)⟩) (fun p15 H locs hw7 S => ?_)
            have S : Sw G A s.heap _ _ [((ma 0), .inl (k 0, 4, .inl (fun i => nI (tk i)))), ((ma 24), .inl (k 0, 170, .inl (fun i => nI (O i)))), ((ma 25), .inl (k 0, 170, .inl (fun i => nI (T2 i)))), ((ma 26), .inl (k 0, 170, .inl (fun i => nI (qt i)))), ((ma 27), .inl (k 0, 170, .inl (fun i => nI (Dv i)))), (h0, .inr (8, moL ma (va_up (va_up (va_up iv 26 (nI sv9)) 27 (nI bf)) 24 (nI rows)) co)), ((ma 21), .inl (k 0, 319840, .inl (fun i => nI (p15.1 i)))), ((ma 22), .inl (k 0, 3998, .inl (fun i => nI (p15.2.1 i)))), ((ma 23), .inl (k 2, 3998, .inl (fun i => nI (p15.2.2 i))))] := S
            have hT_p15 : tbO p15.1 p15.2.1 p15.2.2 (va_up (va_up T 3990 1) 3991 ((-xn).toInt)) := hw7
            refine lv_aload_n hx hb d_Mo_covers_63 rfl (lv_at hl 1 rfl) ?_
            refine lv_sipush (v := 3992) hx hb d_Mo_covers_64 (by decide) ?_
            refine lv_aload_n hx hb d_Mo_covers_67 rfl (lv_at hl 1 rfl) ?_
            refine lv_iconst (v := 3) hx hb d_Mo_covers_68 (by decide) ?_
            refine r_backi (wi := [(h0, .inr (8, moL ma (va_up (va_up (va_up iv 26 (nI sv9)) 27 (nI bf)) 24 (nI rows)) co)), ((ma 0), .inl (k 0, 4, .inl (fun i => nI (tk i))))]) (wr := [((ma 24), .inl (k 0, 170, .inl (fun i => nI (O i)))), ((ma 25), .inl (k 0, 170, .inl (fun i => nI (T2 i)))), ((ma 26), .inl (k 0, 170, .inl (fun i => nI (qt i)))), ((ma 27), .inl (k 0, 170, .inl (fun i => nI (Dv i)))), ((ma 21), .inl (k 0, 319840, .inl (fun i => nI (p15.1 i)))), ((ma 22), .inl (k 0, 3998, .inl (fun i => nI (p15.2.1 i)))), ((ma 23), .inl (k 2, 3998, .inl (fun i => nI (p15.2.2 i))))]) S hA [5, 0] [1, 2, 3, 4, 6, 7, 8] rfl rfl (by decide) (by decide) (va_runV (As := [.int 3]) (rest := [.int 3992, .ref h0]) ⟨hx, hb, C.2.2.1, C.2.2.2.1, C.2.2.2.2.1⟩ (g_Mo_boundAt_3 l G k h0 _ sv9 bf rows ma iv co tk (by first | assumption | omega) (by first | assumption | omega) (by first | assumption | omega)) (k_virt (n := 1) C wc_Mo_boundAt rfl rfl wz_Mo wm_Mo_404 wn_Mo_boundAt ws_Mo_boundAt (by decide +kernel) ⟨(Nat.le_of_ble_eq_true rfl), (Nat.le_of_ble_eq_true rfl)⟩) (pr_nowV K S [5, 0] (by decide) rfl 5 rfl rfl) rfl rfl hl.1 rfl (lv_room (Nat.le_of_ble_eq_true rfl)) d_Mo_covers_69 ⟨(Nat.le_of_ble_eq_true rfl), (Nat.le_of_ble_eq_true rfl)⟩) (fun r10 u8 H locs hw9 S => ?_)
            have S : Sw G A s.heap _ _ [((ma 24), .inl (k 0, 170, .inl (fun i => nI (O i)))), ((ma 25), .inl (k 0, 170, .inl (fun i => nI (T2 i)))), ((ma 26), .inl (k 0, 170, .inl (fun i => nI (qt i)))), ((ma 27), .inl (k 0, 170, .inl (fun i => nI (Dv i)))), ((ma 21), .inl (k 0, 319840, .inl (fun i => nI (p15.1 i)))), ((ma 22), .inl (k 0, 3998, .inl (fun i => nI (p15.2.1 i)))), ((ma 23), .inl (k 2, 3998, .inl (fun i => nI (p15.2.2 i)))), (h0, .inr (8, moL ma (va_up (va_up (va_up iv 26 (nI sv9)) 27 (nI bf)) 24 (nI rows)) co)), ((ma 0), .inl (k 0, 4, .inl (fun i => nI (tk i))))] := S
            obtain ⟨hw90, hp11⟩ := hw9
            obtain rfl : r10 = nI (42 * (rows + 1 + tk bf) + 41) := hw90
            refine lv_sipush (v := 3990) hx hb d_Mo_covers_72 (by decide) ?_
            refine lv_sipush (v := 3991) hx hb d_Mo_covers_75 (by decide) ?_
            refine lv_sipush (v := 3997) hx hb d_Mo_covers_78 (by decide) ?_
            have v1 : (va_up (va_up T 3990 1) 3991 ((-xn).toInt)) (42 * (rows + 1 + tk bf) + 41) = T (42 * (rows + 1 + tk bf) + 41) := by rw [va_up_ne _ _ (by omega), va_up_ne _ _ (by omega)]
            have v2 : (va_up (va_up T 3990 1) 3991 ((-xn).toInt)) 3990 = 1 := by rw [va_up_ne _ _ (by omega), va_up_self]
            have v3 : (va_up (va_up T 3990 1) 3991 ((-xn).toInt)) 3991 = - xn.toInt := by rw [va_up_self, hng]
            have v4 : (va_up (va_up T 3990 1) 3991 ((-xn).toInt)) 3997 = T 3997 := by rw [va_up_ne _ _ (by omega), va_up_ne _ _ (by omega)]
            have hb1 := cv_first (b := T (42 * (rows + 1 + tk bf) + 41)) (o := T 3997) (x := - xn.toInt) (hS.2.2.2.2 _ (Nat.le_refl _)) hS.2.2.2.1 (by have := xn.toInt_lt; omega)
            refine r_backv (wi := [(h0, .inr (8, moL ma (va_up (va_up (va_up iv 26 (nI sv9)) 27 (nI bf)) 24 (nI rows)) co)), ((ma 21), .inl (k 0, 319840, .inl (fun i => nI (p15.1 i)))), ((ma 22), .inl (k 0, 3998, .inl (fun i => nI (p15.2.1 i)))), ((ma 23), .inl (k 2, 3998, .inl (fun i => nI (p15.2.2 i)))), ((ma 24), .inl (k 0, 170, .inl (fun i => nI (O i)))), ((ma 25), .inl (k 0, 170, .inl (fun i => nI (T2 i))))]) (wr := [((ma 26), .inl (k 0, 170, .inl (fun i => nI (qt i)))), ((ma 27), .inl (k 0, 170, .inl (fun i => nI (Dv i)))), ((ma 0), .inl (k 0, 4, .inl (fun i => nI (tk i))))]) S hA [7, 4, 5, 6, 0, 1] [2, 3, 8] rfl rfl (by decide) (by decide) (va_runV (As := [.int 3992, .int (nI (42 * (rows + 1 + tk bf) + 41)), .int 3990, .int 3991, .int 3997]) (rest := []) ⟨hx, hb, C.2.2.1, C.2.2.2.1, C.2.2.2.2.1⟩ (g_Mo_sum l G k h0 _ 3992 (42 * (rows + 1 + tk bf) + 41) 3990 3991 3997 ma (va_up (va_up (va_up iv 26 (nI sv9)) 27 (nI bf)) 24 (nI rows)) co p15.1 p15.2.1 p15.2.2 O T2 (va_up (va_up T 3990 1) 3991 ((-xn).toInt)) hT_p15 (by omega) (by omega) (by omega) (by omega) (by omega) dO d2 (by rw [v1, v2, v3, v4]; exact cv_80 (i := 0) hb1 (by omega))) (k_virt (n := 5) C wc_Mo_sum rfl rfl wz_Mo wm_Mo_409 wn_Mo_sum ws_Mo_sum (by decide +kernel) ⟨(Nat.le_of_ble_eq_true rfl), (Nat.le_of_ble_eq_true rfl)⟩) (pr_nowV K S [7, 4, 5, 6, 0, 1] (by decide) rfl 7 rfl rfl) rfl rfl hl.1 rfl (lv_room (Nat.le_of_ble_eq_true rfl)) d_Mo_covers_81 ⟨(Nat.le_of_ble_eq_true rfl), (Nat.le_of_ble_eq_true rfl)⟩) (fun s1 H locs hw12 S => ?_)
            have S : Sw G A s.heap _ _ [((ma 26), .inl (k 0, 170, .inl (fun i => nI (qt i)))), ((ma 27), .inl (k 0, 170, .inl (fun i => nI (Dv i)))), ((ma 0), .inl (k 0, 4, .inl (fun i => nI (tk i)))), (h0, .inr (8, moL ma (va_up (va_up (va_up (va_up (va_up (va_up (va_up iv 26 (nI sv9)) 27 (nI bf)) 24 (nI rows)) 19 (s1.2 0)) 20 (s1.2 1)) 21 (s1.2 2)) 22 (s1.2 3)) co)), ((ma 21), .inl (k 0, 319840, .inl (fun i => nI (s1.1 0 i)))), ((ma 22), .inl (k 0, 3998, .inl (fun i => nI (s1.1 1 i)))), ((ma 23), .inl (k 2, 3998, .inl (fun i => nI (s1.1 2 i)))), ((ma 24), .inl (k 0, 170, .inl (fun i => nI (s1.1 3 i)))), ((ma 25), .inl (k 0, 170, .inl (fun i => nI (s1.1 4 i))))] := S
            obtain ⟨hs1, hs1a, hs1b⟩ := hw12
            refine lv_iconst (v := 0) hx hb d_Mo_covers_84 (by decide) ?_
            refine lv_istore (lv' := [(7, .int 0), (6, .int (nI (tk bf))), (0, .ref h0), (1, .int xa), (2, .int xb), (3, .int xc), (4, .long xn)]) hx hb d_Mo_covers_85 hl (by decide) rfl (fun ls hl => ?_)
            rw [v1, v2, v3, v4] at hs1
            have lp : ∀ d9, ∀ (i9 : Nat), ∀ (D : Nat → Nat), ∀ (Z : Nat → Nat), ∀ (B : Nat → Nat), ∀ (O9 : Nat → Nat), ∀ (T9a : Nat → Nat), ∀ (w : Nat → Int32), ∀ (T9 : Nat → Int), (tk bf - i9) < d9 → (i9 ≤ tk bf) → (tbO D Z B T9) → (∀ c, c < 3990 ∨ c = 3994 ∨ c = 3997 → T9 c = T c) → (T9 3990 = 1) → ((T9 3992).natAbs ≤ (i9 + 1) * 65536 ^ 46) → (∀ i, i < 170 → O9 i < 65536) → (∀ i, i < 170 → T9a i < 65536) → ∀ (H : Heap) (locs : List Loc), Sw G A s.heap H locs [(h0, .inr (8, moL ma (va_up (va_up (va_up (va_up (va_up (va_up (va_up iv 26 (nI sv9)) 27 (nI bf)) 24 (nI rows)) 19 (w 0)) 20 (w 1)) 21 (w 2)) 22 (w 3)) co)), ((ma 0), .inl (k 0, 4, .inl (fun i => nI (tk i)))), ((ma 21), .inl (k 0, 319840, .inl (fun i => nI (D i)))), ((ma 22), .inl (k 0, 3998, .inl (fun i => nI (Z i)))), ((ma 23), .inl (k 2, 3998, .inl (fun i => nI (B i)))), ((ma 24), .inl (k 0, 170, .inl (fun i => nI (O9 i)))), ((ma 25), .inl (k 0, 170, .inl (fun i => nI (T9a i)))), ((ma 26), .inl (k 0, 170, .inl (fun i => nI (qt i)))), ((ma 27), .inl (k 0, 170, .inl (fun i => nI (Dv i))))] → ∀ ls : Array Slot, lv_has ls 8 [(7, .int (nI i9)), (6, .int (nI (tk bf))), (0, .ref h0), (1, .int xa), (2, .int xb), (3, .int xc), (4, .long xn)] → W p l e { frames := 5, cells := 0, slots := 0, locals := 190 } s m [Value.ref h0, Value.int xa, Value.int xb, Value.int xc, Value.long xn].toArray below meth c H locs 0 0 (MQ below (va_Qi (fun (r : Int32) (u : (Nat → Nat → Nat) × (Nat → Int32)) => (∃ T9, tbO (u.1 0) (u.1 1) (u.1 2) T9 ∧ ∀ c, c < 3990 ∨ c = 3994 ∨ c = 3997 → T9 c = T c) ∧ (∀ i, i < 170 → u.1 3 i < 65536) ∧ (∀ i, i < 170 → u.1 4 i < 65536) ∧ (∀ i, i < 170 → u.1 5 i < 65536) ∧ (∀ i, i < 170 → u.1 6 i < 65536)) (Po G k A (fun u => [(h0, .inr (8, moL ma (va_up (va_up (va_up (va_up (va_up (va_up (va_up (va_up iv 26 (nI sv9)) 27 (nI bf)) 24 (nI rows)) 19 (u.2 0)) 20 (u.2 1)) 21 (u.2 2)) 22 (u.2 3)) 23 (u.2 4)) co)), ((ma 0), .inl (k 0, 4, .inl (fun i => nI (tk i)))), ((ma 21), .inl (k 0, 319840, .inl (fun i => nI (u.1 0 i)))), ((ma 22), .inl (k 0, 3998, .inl (fun i => nI (u.1 1 i)))), ((ma 23), .inl (k 2, 3998, .inl (fun i => nI (u.1 2 i)))), ((ma 24), .inl (k 0, 170, .inl (fun i => nI (u.1 3 i)))), ((ma 25), .inl (k 0, 170, .inl (fun i => nI (u.1 4 i)))), ((ma 26), .inl (k 0, 170, .inl (fun i => nI (u.1 5 i)))), ((ma 27), .inl (k 0, 170, .inl (fun i => nI (u.1 6 i))))])) A) [Value.ref h0, Value.int xa, Value.int xb, Value.int xc, Value.long xn].toArray s 0 0 A) (F0 m 87 ls []) := by
              intro d9
              induction d9 with
              | zero => intro i9 D Z B O9 T9a w T9 hm; exact absurd hm (Nat.not_lt_zero _)
              | succ d9 ih_lp =>
                intro i9 D Z B O9 T9a w T9 hm hi9 hT2 hfr ho hs e1 e2 H locs S ls hl
                refine lv_iload hx hb d_Mo_covers_87 (lv_at hl 0 rfl) ?_
                refine lv_iload hx hb d_Mo_covers_89 (lv_at hl 1 rfl) ?_
                refine z_icmp_ge (a := i9) (b := (tk bf)) (tgt := 171) hx hb d_Mo_covers_91 (by decide) (by omega) (by omega) (fun hc13 => ?_) (fun hc13 => ?_)
                · refine lv_aload_n hx hb d_Mo_covers_171 rfl (lv_at hl 2 rfl) ?_
                  refine lv_sipush (v := 3992) hx hb d_Mo_covers_172 (by decide) ?_
                  refine r_backi (wi := [(h0, .inr (8, moL ma (va_up (va_up (va_up (va_up (va_up (va_up (va_up iv 26 (nI sv9)) 27 (nI bf)) 24 (nI rows)) 19 (w 0)) 20 (w 1)) 21 (w 2)) 22 (w 3)) co)), ((ma 22), .inl (k 0, 3998, .inl (fun i => nI (Z i)))), ((ma 23), .inl (k 2, 3998, .inl (fun i => nI (B i))))]) (wr := [((ma 0), .inl (k 0, 4, .inl (fun i => nI (tk i)))), ((ma 21), .inl (k 0, 319840, .inl (fun i => nI (D i)))), ((ma 24), .inl (k 0, 170, .inl (fun i => nI (O9 i)))), ((ma 25), .inl (k 0, 170, .inl (fun i => nI (T9a i)))), ((ma 26), .inl (k 0, 170, .inl (fun i => nI (qt i)))), ((ma 27), .inl (k 0, 170, .inl (fun i => nI (Dv i))))]) S hA [0, 3, 4] [1, 2, 5, 6, 7, 8] rfl rfl (by decide) (by decide) (va_runV (As := [.int 3992]) (rest := []) ⟨hx, hb, C.2.2.1, C.2.2.2.1, C.2.2.2.2.1⟩ (g_Mo_signOf l G k h0 _ ma (va_up (va_up (va_up (va_up (va_up (va_up (va_up iv 26 (nI sv9)) 27 (nI bf)) 24 (nI rows)) 19 (w 0)) 20 (w 1)) 21 (w 2)) 22 (w 3)) co Z B 3992 (by omega) (hT2.2 _ (by omega)).1 (hT2.2 _ (by omega)).2.1) (k_virt (n := 1) C wc_Mo_signOf rfl rfl wz_Mo wm_Mo_330 wn_Mo_signOf ws_Mo_signOf (by decide +kernel) ⟨(Nat.le_of_ble_eq_true rfl), (Nat.le_of_ble_eq_true rfl)⟩) (pr_nowV K S [0, 3, 4] (by decide) rfl 0 rfl rfl) rfl rfl hl.1 rfl (lv_room (Nat.le_of_ble_eq_true rfl)) d_Mo_covers_175 ⟨(Nat.le_of_ble_eq_true rfl), (Nat.le_of_ble_eq_true rfl)⟩) (fun r16 u14 H locs hw15 S => ?_)
                  have S : Sw G A s.heap _ _ [((ma 0), .inl (k 0, 4, .inl (fun i => nI (tk i)))), ((ma 21), .inl (k 0, 319840, .inl (fun i => nI (D i)))), ((ma 24), .inl (k 0, 170, .inl (fun i => nI (O9 i)))), ((ma 25), .inl (k 0, 170, .inl (fun i => nI (T9a i)))), ((ma 26), .inl (k 0, 170, .inl (fun i => nI (qt i)))), ((ma 27), .inl (k 0, 170, .inl (fun i => nI (Dv i)))), (h0, .inr (8, moL ma (va_up (va_up (va_up (va_up (va_up (va_up (va_up iv 26 (nI sv9)) 27 (nI bf)) 24 (nI rows)) 19 (w 0)) 20 (w 1)) 21 (w 2)) 22 (w 3)) co)), ((ma 22), .inl (k 0, 3998, .inl (fun i => nI (Z i)))), ((ma 23), .inl (k 2, 3998, .inl (fun i => nI (B i))))] := S
                  obtain rfl : r16 = sgN (Z 3992) (B 3992) := hw15
                  refine lv_if_lt (tgt := 185) hx hb d_Mo_covers_178 (by decide) (fun hc18 => ?_) (fun hc18 => ?_)
                  · refine lv_iconst (v := 0) hx hb d_Mo_covers_185 (by decide) ?_
                    exact r_iret C K rfl (uz [D, Z, B, O9, T9a, qt, Dv], fz (w 0) (w 1) (w 2) (w 3) (iv 23)) ⟨⟨T9, hT2, hfr⟩, e1, e2, dQ, dD⟩ (S.sub [6, 0, 1, 7, 8, 2, 3, 4, 5] (by decide) rfl) d_Mo_covers_186 (Nat.le_of_ble_eq_true rfl) (Nat.le_of_ble_eq_true rfl)
                  · refine lv_iconst (v := 1) hx hb d_Mo_covers_181 (by decide) ?_
                    refine lv_goto (tgt := 186) hx hb d_Mo_covers_182 (by decide) ?_
                    exact r_iret C K rfl (uz [D, Z, B, O9, T9a, qt, Dv], fz (w 0) (w 1) (w 2) (w 3) (iv 23)) ⟨⟨T9, hT2, hfr⟩, e1, e2, dQ, dD⟩ (S.sub [6, 0, 1, 7, 8, 2, 3, 4, 5] (by decide) rfl) d_Mo_covers_186 (Nat.le_of_ble_eq_true rfl) (Nat.le_of_ble_eq_true rfl)
                · refine lv_aload_n hx hb d_Mo_covers_94 rfl (lv_at hl 2 rfl) ?_
                  refine lv_sipush (v := 3991) hx hb d_Mo_covers_95 (by decide) ?_
                  have pt : ∀ (x9 : Int64), (x9.toInt.natAbs ≤ 2147483648 ∧ -9223372036854775808 < x9.toInt) → ∀ (H : Heap) (locs : List Loc), Sw G A s.heap H locs [(h0, .inr (8, moL ma (va_up (va_up (va_up (va_up (va_up (va_up (va_up iv 26 (nI sv9)) 27 (nI bf)) 24 (nI rows)) 19 (w 0)) 20 (w 1)) 21 (w 2)) 22 (w 3)) co)), ((ma 0), .inl (k 0, 4, .inl (fun i => nI (tk i)))), ((ma 21), .inl (k 0, 319840, .inl (fun i => nI (D i)))), ((ma 22), .inl (k 0, 3998, .inl (fun i => nI (Z i)))), ((ma 23), .inl (k 2, 3998, .inl (fun i => nI (B i)))), ((ma 24), .inl (k 0, 170, .inl (fun i => nI (O9 i)))), ((ma 25), .inl (k 0, 170, .inl (fun i => nI (T9a i)))), ((ma 26), .inl (k 0, 170, .inl (fun i => nI (qt i)))), ((ma 27), .inl (k 0, 170, .inl (fun i => nI (Dv i))))] → ∀ ls : Array Slot, lv_has ls 8 [(7, .int (nI i9)), (6, .int (nI (tk bf))), (0, .ref h0), (1, .int xa), (2, .int xb), (3, .int xc), (4, .long xn)] → W p l e { frames := 5, cells := 0, slots := 0, locals := 190 } s m [Value.ref h0, Value.int xa, Value.int xb, Value.int xc, Value.long xn].toArray below meth c H locs 0 0 (MQ below (va_Qi (fun (r : Int32) (u : (Nat → Nat → Nat) × (Nat → Int32)) => (∃ T9, tbO (u.1 0) (u.1 1) (u.1 2) T9 ∧ ∀ c, c < 3990 ∨ c = 3994 ∨ c = 3997 → T9 c = T c) ∧ (∀ i, i < 170 → u.1 3 i < 65536) ∧ (∀ i, i < 170 → u.1 4 i < 65536) ∧ (∀ i, i < 170 → u.1 5 i < 65536) ∧ (∀ i, i < 170 → u.1 6 i < 65536)) (Po G k A (fun u => [(h0, .inr (8, moL ma (va_up (va_up (va_up (va_up (va_up (va_up (va_up (va_up iv 26 (nI sv9)) 27 (nI bf)) 24 (nI rows)) 19 (u.2 0)) 20 (u.2 1)) 21 (u.2 2)) 22 (u.2 3)) 23 (u.2 4)) co)), ((ma 0), .inl (k 0, 4, .inl (fun i => nI (tk i)))), ((ma 21), .inl (k 0, 319840, .inl (fun i => nI (u.1 0 i)))), ((ma 22), .inl (k 0, 3998, .inl (fun i => nI (u.1 1 i)))), ((ma 23), .inl (k 2, 3998, .inl (fun i => nI (u.1 2 i)))), ((ma 24), .inl (k 0, 170, .inl (fun i => nI (u.1 3 i)))), ((ma 25), .inl (k 0, 170, .inl (fun i => nI (u.1 4 i)))), ((ma 26), .inl (k 0, 170, .inl (fun i => nI (u.1 5 i)))), ((ma 27), .inl (k 0, 170, .inl (fun i => nI (u.1 6 i))))])) A) [Value.ref h0, Value.int xa, Value.int xb, Value.int xc, Value.long xn].toArray s 0 0 A) (F0 m 121 ls [.long x9, .int 3991, .ref h0]) := by
                    intro x9 hx9 H locs S ls hl
                    refine r_backv (wi := [(h0, .inr (8, moL ma (va_up (va_up (va_up (va_up (va_up (va_up (va_up iv 26 (nI sv9)) 27 (nI bf)) 24 (nI rows)) 19 (w 0)) 20 (w 1)) 21 (w 2)) 22 (w 3)) co)), ((ma 21), .inl (k 0, 319840, .inl (fun i => nI (D i)))), ((ma 22), .inl (k 0, 3998, .inl (fun i => nI (Z i)))), ((ma 23), .inl (k 2, 3998, .inl (fun i => nI (B i))))]) (wr := [((ma 0), .inl (k 0, 4, .inl (fun i => nI (tk i)))), ((ma 24), .inl (k 0, 170, .inl (fun i => nI (O9 i)))), ((ma 25), .inl (k 0, 170, .inl (fun i => nI (T9a i)))), ((ma 26), .inl (k 0, 170, .inl (fun i => nI (qt i)))), ((ma 27), .inl (k 0, 170, .inl (fun i => nI (Dv i))))]) S hA [0, 2, 3, 4] [1, 5, 6, 7, 8] rfl rfl (by decide) (by decide) (va_runV (As := [.int 3991, .long x9]) (rest := []) ⟨hx, hb, C.2.2.1, C.2.2.2.1, C.2.2.2.2.1⟩ (g_Mo_putZ l G k h0 _ 3991 x9 ma (va_up (va_up (va_up (va_up (va_up (va_up (va_up iv 26 (nI sv9)) 27 (nI bf)) 24 (nI rows)) 19 (w 0)) 20 (w 1)) 21 (w 2)) 22 (w 3)) co D Z B T9 hT2 (by omega) hx9.2) (k_virt (n := 2) C wc_Mo_put rfl rfl wz_Mo wm_Mo_360 wn_Mo_put ws_Mo_put (by decide +kernel) ⟨(Nat.le_of_ble_eq_true rfl), (Nat.le_of_ble_eq_true rfl)⟩) (pr_nowV K S [0, 2, 3, 4] (by decide) rfl 0 rfl rfl) rfl rfl hl.1 rfl (lv_room (Nat.le_of_ble_eq_true rfl)) d_Mo_covers_121 ⟨(Nat.le_of_ble_eq_true rfl), (Nat.le_of_ble_eq_true rfl)⟩) (fun p16 H locs hw19 S => ?_)
                    have S : Sw G A s.heap _ _ [((ma 0), .inl (k 0, 4, .inl (fun i => nI (tk i)))), ((ma 24), .inl (k 0, 170, .inl (fun i => nI (O9 i)))), ((ma 25), .inl (k 0, 170, .inl (fun i => nI (T9a i)))), ((ma 26), .inl (k 0, 170, .inl (fun i => nI (qt i)))), ((ma 27), .inl (k 0, 170, .inl (fun i => nI (Dv i)))), (h0, .inr (8, moL ma (va_up (va_up (va_up (va_up (va_up (va_up (va_up iv 26 (nI sv9)) 27 (nI bf)) 24 (nI rows)) 19 (w 0)) 20 (w 1)) 21 (w 2)) 22 (w 3)) co)), ((ma 21), .inl (k 0, 319840, .inl (fun i => nI (p16.1 i)))), ((ma 22), .inl (k 0, 3998, .inl (fun i => nI (p16.2.1 i)))), ((ma 23), .inl (k 2, 3998, .inl (fun i => nI (p16.2.2 i))))] := S
                    have hT_p16 : tbO p16.1 p16.2.1 p16.2.2 (va_up T9 3991 ((x9).toInt)) := hw19
                    refine lv_aload_n hx hb d_Mo_covers_124 rfl (lv_at hl 2 rfl) ?_
                    refine lv_sipush (v := 3993) hx hb d_Mo_covers_125 (by decide) ?_
                    refine lv_sipush (v := 3992) hx hb d_Mo_covers_128 (by decide) ?_
                    refine lv_sipush (v := 3990) hx hb d_Mo_covers_131 (by decide) ?_
                    refine lv_aload_n hx hb d_Mo_covers_134 rfl (lv_at hl 2 rfl) ?_
                    refine lv_iload hx hb d_Mo_covers_135 (lv_at hl 0 rfl) ?_
                    refine r_backi (wi := [(h0, .inr (8, moL ma (va_up (va_up (va_up (va_up (va_up (va_up (va_up iv 19 (w 0)) 20 (w 1)) 21 (w 2)) 22 (w 3)) 26 (nI sv9)) 27 (nI bf)) 24 (nI rows)) co)), ((ma 0), .inl (k 0, 4, .inl (fun i => nI (tk i))))]) (wr := [((ma 24), .inl (k 0, 170, .inl (fun i => nI (O9 i)))), ((ma 25), .inl (k 0, 170, .inl (fun i => nI (T9a i)))), ((ma 26), .inl (k 0, 170, .inl (fun i => nI (qt i)))), ((ma 27), .inl (k 0, 170, .inl (fun i => nI (Dv i)))), ((ma 21), .inl (k 0, 319840, .inl (fun i => nI (p16.1 i)))), ((ma 22), .inl (k 0, 3998, .inl (fun i => nI (p16.2.1 i)))), ((ma 23), .inl (k 2, 3998, .inl (fun i => nI (p16.2.2 i))))]) S hA [5, 0] [1, 2, 3, 4, 6, 7, 8] rfl rfl (by decide) (by decide) (va_runV (As := [.int (nI i9)]) (rest := [.int 3990, .int 3992, .int 3993, .ref h0]) ⟨hx, hb, C.2.2.1, C.2.2.2.1, C.2.2.2.2.1⟩ (g_Mo_boundAt_i l G k h0 _ i9 sv9 bf rows ma (va_up (va_up (va_up (va_up iv 19 (w 0)) 20 (w 1)) 21 (w 2)) 22 (w 3)) co tk (by first | assumption | omega) (by first | assumption | omega) (by first | assumption | omega) (by omega)) (k_virt (n := 1) C wc_Mo_boundAt rfl rfl wz_Mo wm_Mo_404 wn_Mo_boundAt ws_Mo_boundAt (by decide +kernel) ⟨(Nat.le_of_ble_eq_true rfl), (Nat.le_of_ble_eq_true rfl)⟩) (pr_nowV K S [5, 0] (by decide) rfl 5 rfl rfl) rfl rfl hl.1 rfl (lv_room (Nat.le_of_ble_eq_true rfl)) d_Mo_covers_137 ⟨(Nat.le_of_ble_eq_true rfl), (Nat.le_of_ble_eq_true rfl)⟩) (fun r22 u20 H locs hw21 S => ?_)
                    have S : Sw G A s.heap _ _ [((ma 24), .inl (k 0, 170, .inl (fun i => nI (O9 i)))), ((ma 25), .inl (k 0, 170, .inl (fun i => nI (T9a i)))), ((ma 26), .inl (k 0, 170, .inl (fun i => nI (qt i)))), ((ma 27), .inl (k 0, 170, .inl (fun i => nI (Dv i)))), ((ma 21), .inl (k 0, 319840, .inl (fun i => nI (p16.1 i)))), ((ma 22), .inl (k 0, 3998, .inl (fun i => nI (p16.2.1 i)))), ((ma 23), .inl (k 2, 3998, .inl (fun i => nI (p16.2.2 i)))), (h0, .inr (8, moL ma (va_up (va_up (va_up (va_up (va_up (va_up (va_up iv 19 (w 0)) 20 (w 1)) 21 (w 2)) 22 (w 3)) 26 (nI sv9)) 27 (nI bf)) 24 (nI rows)) co)), ((ma 0), .inl (k 0, 4, .inl (fun i => nI (tk i))))] := S
                    obtain ⟨hw210, hp23⟩ := hw21
                    obtain rfl : r22 = nI (42 * (rows + 1 + i9) + 41) := hw210
                    refine lv_sipush (v := 3991) hx hb d_Mo_covers_140 (by decide) ?_
                    have y1 : (va_up T9 3991 ((x9).toInt)) 3992 = T9 3992 := va_up_ne _ _ (by omega)
                    have y2 : (va_up T9 3991 ((x9).toInt)) 3990 = 1 := by rw [va_up_ne _ _ (by omega)]; exact ho
                    have y3 : (va_up T9 3991 ((x9).toInt)) (42 * (rows + 1 + i9) + 41) = T (42 * (rows + 1 + i9) + 41) := by rw [va_up_ne _ _ (by omega)]; exact hfr _ (by omega)
                    have y4 : (va_up T9 3991 ((x9).toInt)) 3991 = x9.toInt := va_up_self _ _ _
                    have hb2 := cv_next (x := x9.toInt) hs (hS.2.2.2.2 i9 (by omega)) hx9.1
                    refine r_backv (wi := [(h0, .inr (8, moL ma (va_up (va_up (va_up (va_up (va_up (va_up (va_up iv 19 (w 0)) 20 (w 1)) 21 (w 2)) 22 (w 3)) 26 (nI sv9)) 27 (nI bf)) 24 (nI rows)) co)), ((ma 21), .inl (k 0, 319840, .inl (fun i => nI (p16.1 i)))), ((ma 22), .inl (k 0, 3998, .inl (fun i => nI (p16.2.1 i)))), ((ma 23), .inl (k 2, 3998, .inl (fun i => nI (p16.2.2 i)))), ((ma 24), .inl (k 0, 170, .inl (fun i => nI (O9 i)))), ((ma 25), .inl (k 0, 170, .inl (fun i => nI (T9a i))))]) (wr := [((ma 26), .inl (k 0, 170, .inl (fun i => nI (qt i)))), ((ma 27), .inl (k 0, 170, .inl (fun i => nI (Dv i)))), ((ma 0), .inl (k 0, 4, .inl (fun i => nI (tk i))))]) S hA [7, 4, 5, 6, 0, 1] [2, 3, 8] rfl rfl (by decide) (by decide) (va_runV (As := [.int 3993, .int 3992, .int 3990, .int (nI (42 * (rows + 1 + i9) + 41)), .int 3991]) (rest := []) ⟨hx, hb, C.2.2.1, C.2.2.2.1, C.2.2.2.2.1⟩ (g_Mo_sum l G k h0 _ 3993 3992 3990 (42 * (rows + 1 + i9) + 41) 3991 ma (va_up (va_up (va_up (va_up (va_up (va_up (va_up iv 19 (w 0)) 20 (w 1)) 21 (w 2)) 22 (w 3)) 26 (nI sv9)) 27 (nI bf)) 24 (nI rows)) co p16.1 p16.2.1 p16.2.2 O9 T9a (va_up T9 3991 ((x9).toInt)) hT_p16 (by omega) (by omega) (by omega) (by omega) (by omega) e1 e2 (by rw [y1, y2, y3, y4]; exact cv_80 (i := i9 + 1) hb2 (by omega))) (k_virt (n := 5) C wc_Mo_sum rfl rfl wz_Mo wm_Mo_409 wn_Mo_sum ws_Mo_sum (by decide +kernel) ⟨(Nat.le_of_ble_eq_true rfl), (Nat.le_of_ble_eq_true rfl)⟩) (pr_nowV K S [7, 4, 5, 6, 0, 1] (by decide) rfl 7 rfl rfl) rfl rfl hl.1 rfl (lv_room (Nat.le_of_ble_eq_true rfl)) d_Mo_covers_143 ⟨(Nat.le_of_ble_eq_true rfl), (Nat.le_of_ble_eq_true rfl)⟩) (fun s2 H locs hw24 S => ?_)
                    have S : Sw G A s.heap _ _ [((ma 26), .inl (k 0, 170, .inl (fun i => nI (qt i)))), ((ma 27), .inl (k 0, 170, .inl (fun i => nI (Dv i)))), ((ma 0), .inl (k 0, 4, .inl (fun i => nI (tk i)))), (h0, .inr (8, moL ma (va_up (va_up (va_up (va_up (va_up (va_up (va_up iv 26 (nI sv9)) 27 (nI bf)) 24 (nI rows)) 19 (s2.2 0)) 20 (s2.2 1)) 21 (s2.2 2)) 22 (s2.2 3)) co)), ((ma 21), .inl (k 0, 319840, .inl (fun i => nI (s2.1 0 i)))), ((ma 22), .inl (k 0, 3998, .inl (fun i => nI (s2.1 1 i)))), ((ma 23), .inl (k 2, 3998, .inl (fun i => nI (s2.1 2 i)))), ((ma 24), .inl (k 0, 170, .inl (fun i => nI (s2.1 3 i)))), ((ma 25), .inl (k 0, 170, .inl (fun i => nI (s2.1 4 i))))] := S
                    obtain ⟨hs2, hs2a, hs2b⟩ := hw24
                    refine lv_aload_n hx hb d_Mo_covers_146 rfl (lv_at hl 2 rfl) ?_
                    refine lv_sipush (v := 3992) hx hb d_Mo_covers_147 (by decide) ?_
                    refine lv_sipush (v := 3993) hx hb d_Mo_covers_150 (by decide) ?_
                    refine lv_sipush (v := 3990) hx hb d_Mo_covers_153 (by decide) ?_
                    refine lv_sipush (v := 3994) hx hb d_Mo_covers_156 (by decide) ?_
                    refine lv_sipush (v := 3994) hx hb d_Mo_covers_159 (by decide) ?_
                    rw [y1, y2, y3, y4] at hs2
                    have w1 : (va_up (va_up T9 3991 ((x9).toInt)) 3993 (T9 3992 * 1 + T (42 * (rows + 1 + i9) + 41) * x9.toInt)) 3993 = T9 3992 * 1 + T (42 * (rows + 1 + i9) + 41) * x9.toInt := va_up_self _ _ _
                    have w2 : (va_up (va_up T9 3991 ((x9).toInt)) 3993 (T9 3992 * 1 + T (42 * (rows + 1 + i9) + 41) * x9.toInt)) 3990 = 1 := by rw [va_up_ne _ _ (by omega)]; exact y2
                    have w3 : (va_up (va_up T9 3991 ((x9).toInt)) 3993 (T9 3992 * 1 + T (42 * (rows + 1 + i9) + 41) * x9.toInt)) 3994 = 0 := by rw [va_up_ne _ _ (by omega), va_up_ne _ _ (by omega), hfr _ (by omega)]; exact h94
                    refine r_backv (wi := [(h0, .inr (8, moL ma (va_up (va_up (va_up (va_up (va_up (va_up (va_up iv 26 (nI sv9)) 27 (nI bf)) 24 (nI rows)) 19 (s2.2 0)) 20 (s2.2 1)) 21 (s2.2 2)) 22 (s2.2 3)) co)), ((ma 21), .inl (k 0, 319840, .inl (fun i => nI (s2.1 0 i)))), ((ma 22), .inl (k 0, 3998, .inl (fun i => nI (s2.1 1 i)))), ((ma 23), .inl (k 2, 3998, .inl (fun i => nI (s2.1 2 i)))), ((ma 24), .inl (k 0, 170, .inl (fun i => nI (s2.1 3 i)))), ((ma 25), .inl (k 0, 170, .inl (fun i => nI (s2.1 4 i))))]) (wr := [((ma 26), .inl (k 0, 170, .inl (fun i => nI (qt i)))), ((ma 27), .inl (k 0, 170, .inl (fun i => nI (Dv i)))), ((ma 0), .inl (k 0, 4, .inl (fun i => nI (tk i))))]) S hA [3, 4, 5, 6, 7, 8] [0, 1, 2] rfl rfl (by decide) (by decide) (va_runV (As := [.int 3992, .int 3993, .int 3990, .int 3994, .int 3994]) (rest := []) ⟨hx, hb, C.2.2.1, C.2.2.2.1, C.2.2.2.2.1⟩ (g_Mo_sum l G k h0 _ 3992 3993 3990 3994 3994 ma (va_up (va_up (va_up (va_up (va_up (va_up (va_up iv 26 (nI sv9)) 27 (nI bf)) 24 (nI rows)) 19 (s2.2 0)) 20 (s2.2 1)) 21 (s2.2 2)) 22 (s2.2 3)) co (s2.1 0) (s2.1 1) (s2.1 2) (s2.1 3) (s2.1 4) (va_up (va_up T9 3991 ((x9).toInt)) 3993 (T9 3992 * 1 + T (42 * (rows + 1 + i9) + 41) * x9.toInt)) hs2 (by omega) (by omega) (by omega) (by omega) (by omega) hs2a hs2b (by rw [w1, w2, w3, Int.mul_zero, Int.add_zero, Int.mul_one]; exact cv_80 (i := i9 + 1) hb2 (by omega))) (k_virt (n := 5) C wc_Mo_sum rfl rfl wz_Mo wm_Mo_409 wn_Mo_sum ws_Mo_sum (by decide +kernel) ⟨(Nat.le_of_ble_eq_true rfl), (Nat.le_of_ble_eq_true rfl)⟩) (pr_nowV K S [3, 4, 5, 6, 7, 8] (by decide) rfl 3 rfl rfl) rfl rfl hl.1 rfl (lv_room (Nat.le_of_ble_eq_true rfl)) d_Mo_covers_162 ⟨(Nat.le_of_ble_eq_true rfl), (Nat.le_of_ble_eq_true rfl)⟩) (fun s3 H locs hw25 S => ?_)
                    have S : Sw G A s.heap _ _ [((ma 26), .inl (k 0, 170, .inl (fun i => nI (qt i)))), ((ma 27), .inl (k 0, 170, .inl (fun i => nI (Dv i)))), ((ma 0), .inl (k 0, 4, .inl (fun i => nI (tk i)))), (h0, .inr (8, moL ma (va_up (va_up (va_up (va_up (va_up (va_up (va_up iv 26 (nI sv9)) 27 (nI bf)) 24 (nI rows)) 19 (s3.2 0)) 20 (s3.2 1)) 21 (s3.2 2)) 22 (s3.2 3)) co)), ((ma 21), .inl (k 0, 319840, .inl (fun i => nI (s3.1 0 i)))), ((ma 22), .inl (k 0, 3998, .inl (fun i => nI (s3.1 1 i)))), ((ma 23), .inl (k 2, 3998, .inl (fun i => nI (s3.1 2 i)))), ((ma 24), .inl (k 0, 170, .inl (fun i => nI (s3.1 3 i)))), ((ma 25), .inl (k 0, 170, .inl (fun i => nI (s3.1 4 i))))] := S
                    obtain ⟨hs3, hs3a, hs3b⟩ := hw25
                    refine lv_iinc (v := nI (i9 + 1)) (lv' := [(7, .int (nI (i9 + 1))), (6, .int (nI (tk bf))), (0, .ref h0), (1, .int xa), (2, .int xb), (3, .int xc), (4, .long xn)]) hx hb d_Mo_covers_165 hl (k := 0) rfl (show nI i9 + Int32.ofInt 1 = nI (i9 + 1) from (nI_add i9 1).trans (congrArg nI (by omega))) (by decide) rfl (fun ls hl => ?_)
                    refine lv_goto (tgt := 87) hx hb d_Mo_covers_168 (by decide) ?_
                    rw [w1, w2, w3, Int.mul_zero, Int.add_zero, Int.mul_one (T9 3992 * 1 + T (42 * (rows + 1 + i9) + 41) * x9.toInt)] at hs3
                    exact ih_lp (i9 + 1) (s3.1 0) (s3.1 1) (s3.1 2) (s3.1 3) (s3.1 4) (fz (s3.2 0) (s3.2 1) (s3.2 2) (s3.2 3) 0) (va_up (va_up (va_up T9 3991 ((x9).toInt)) 3993 (T9 3992 * 1 + T (42 * (rows + 1 + i9) + 41) * x9.toInt)) 3992 (T9 3992 * 1 + T (42 * (rows + 1 + i9) + 41) * x9.toInt)) (by omega) (by omega) hs3 (fun c hc => by rw [va_up_ne _ _ (by omega), va_up_ne _ _ (by omega), va_up_ne _ _ (by omega)]; exact hfr c hc) (by rw [va_up_ne _ _ (by omega)]; exact w2) (by rw [va_up_self]; exact hb2) hs3a hs3b _ _ (S.sub [3, 2, 4, 5, 6, 7, 8, 0, 1] (by decide) rfl) ls (lv_sub hl [0, 1, 2, 3, 4, 5, 6] rfl)
                  refine lv_iload hx hb d_Mo_covers_98 (lv_at hl 0 rfl) ?_
                  refine z_if_ne (a := i9) (tgt := 108) hx hb d_Mo_covers_100 (by decide) (by omega) (fun hc26 => ?_) (fun hc26 => ?_)
                  · refine lv_iload hx hb d_Mo_covers_108 (lv_at hl 0 rfl) ?_
                    refine lv_iconst (v := 1) hx hb d_Mo_covers_110 (by decide) ?_
                    refine z_icmp_ne (a := i9) (b := 1) (tgt := 119) hx hb d_Mo_covers_111 (by decide) (by omega) (by omega) (fun hc27 => ?_) (fun hc27 => ?_)
                    · refine lv_iload_n hx hb d_Mo_covers_119 rfl (lv_at hl 5 rfl) ?_
                      refine lv_i2l (v := xc.toInt64) hx hb d_Mo_covers_120 rfl ?_
                      exact pt xc.toInt64 (i64_abs _) _ _ (S.sub [0, 1, 2, 3, 4, 5, 6, 7, 8] (by decide) rfl) ls (lv_sub hl [0, 1, 2, 3, 4, 5, 6] rfl)
                    · refine lv_iload_n hx hb d_Mo_covers_114 rfl (lv_at hl 4 rfl) ?_
                      refine lv_i2l (v := xb.toInt64) hx hb d_Mo_covers_115 rfl ?_
                      refine lv_goto (tgt := 121) hx hb d_Mo_covers_116 (by decide) ?_
                      exact pt xb.toInt64 (i64_abs _) _ _ (S.sub [0, 1, 2, 3, 4, 5, 6, 7, 8] (by decide) rfl) ls (lv_sub hl [0, 1, 2, 3, 4, 5, 6] rfl)
                  · refine lv_iload_n hx hb d_Mo_covers_103 rfl (lv_at hl 3 rfl) ?_
                    refine lv_i2l (v := xa.toInt64) hx hb d_Mo_covers_104 rfl ?_
                    refine lv_goto (tgt := 121) hx hb d_Mo_covers_105 (by decide) ?_
                    exact pt xa.toInt64 (i64_abs _) _ _ (S.sub [0, 1, 2, 3, 4, 5, 6, 7, 8] (by decide) rfl) ls (lv_sub hl [0, 1, 2, 3, 4, 5, 6] rfl)
            exact lp _ 0 (s1.1 0) (s1.1 1) (s1.1 2) (s1.1 3) (s1.1 4) (fz (s1.2 0) (s1.2 1) (s1.2 2) (s1.2 3) 0) (va_up (va_up (va_up T 3990 1) 3991 ((-xn).toInt)) 3992 (T (42 * (rows + 1 + tk bf) + 41) * 1 + - xn.toInt * T 3997)) (Nat.lt_succ_self _) (by omega) hs1 (fun c hc => by rw [va_up_ne _ _ (by omega), va_up_ne _ _ (by omega), va_up_ne _ _ (by omega)]) (by rw [va_up_ne _ _ (by omega)]; exact v2) (by rw [va_up_self]; exact hb1) hs1a hs1b _ _ (S.sub [3, 2, 4, 5, 6, 7, 8, 0, 1] (by decide) rfl) ls (lv_sub hl [0, 1, 2, 3, 4, 5, 6] rfl)
          · refine lv_iconst (v := 1) hx hb d_Mo_covers_43 (by decide) ?_
            exact r_iret C K rfl (uz [dg, sz, bl, O, T2, qt, Dv], fun j => iv (19 + j)) ⟨⟨T, hT, fun _ _ => rfl⟩, dO, d2, dQ, dD⟩ (S.sub [0, 1, 2, 3, 4, 5, 6, 7, 8] (by decide) rfl) d_Mo_covers_44 (Nat.le_of_ble_eq_true rfl) (Nat.le_of_ble_eq_true rfl)
        · refine lv_bipush (v := (-2)) hx hb d_Mo_covers_33 (by decide) ?_
          exact r_iret C K rfl (uz [dg, sz, bl, O, T2, qt, Dv], fun j => iv (19 + j)) ⟨⟨T, hT, fun _ _ => rfl⟩, dO, d2, dQ, dD⟩ (S.sub [0, 1, 2, 3, 4, 5, 6, 7, 8] (by decide) rfl) d_Mo_covers_35 (Nat.le_of_ble_eq_true rfl) (Nat.le_of_ble_eq_true rfl)
  · refine lv_bipush (v := (-2)) hx hb d_Mo_covers_7 (by decide) ?_
    exact r_iret C K rfl (uz [dg, sz, bl, O, T2, qt, Dv], fun j => iv (19 + j)) ⟨⟨T, hT, fun _ _ => rfl⟩, dO, d2, dQ, dD⟩ (S.sub [0, 1, 2, 3, 4, 5, 6, 7, 8] (by decide) rfl) d_Mo_covers_9 (Nat.le_of_ble_eq_true rfl) (Nat.le_of_ble_eq_true rfl)
