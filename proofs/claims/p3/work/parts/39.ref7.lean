theorem nx_and (a b : Nat) : nI a &&& nI b = nI (a &&& b) := by
  apply Int32.toBitVec_inj.mp
  rw [Int32.toBitVec_and]
  show BitVec.ofNat 32 a &&& BitVec.ofNat 32 b = BitVec.ofNat 32 (a &&& b)
  exact (BitVec.ofNat_and ..).symm
theorem nx_mod (k : Nat) : nI k &&& 65535 = nI (k % 65536) := by
  show nI k &&& nI 65535 = _
  rw [nx_and, show (65535 : Nat) = 2 ^ 16 - 1 from rfl, Nat.and_two_pow_sub_one_eq_mod]
theorem nI_wrap (a : Nat) : nI (a + 4294967296) = nI a := by
  apply Int32.toBitVec_inj.mp
  show BitVec.ofNat 32 (a + 4294967296) = BitVec.ofNat 32 a
  apply BitVec.eq_of_toNat_eq
  rw [BitVec.toNat_ofNat, BitVec.toNat_ofNat]
  omega
/-- a digit less a digit and what is borrowed -/
theorem sb_and {a b c : Nat} (ha : a < 65536) (hb : b < 65536) (hc : c ≤ 1) : (nI a - nI b - nI c) &&& 65535 = nI ((a + 65536 - b - c) % 65536) := by
  rw [← nI_wrap a, pk_sub (by omega), pk_sub (by omega), nx_mod]
  congr 1
  omega
theorem sb_sgn {a b c : Nat} (ha : a < 65536) (hb : b < 65536) (hc : c ≤ 1) : 0 ≤ nI a - nI b - nI c ↔ b + c ≤ a := by
  have e : nI a - nI b - nI c = nI a - nI (b + c) := by rw [← nI_add]; simp only [Int32.sub_eq_add_neg, Int32.neg_add, Int32.add_assoc]
  rw [e, Int32.le_iff_toInt_le, pk_sub_toInt (by omega) (by omega), Int32.toInt_zero]
  omega
theorem vl_bb {B : Nat} {g : Nat → Nat} {nb n : Nat} (h : nb ≤ n) : vl B (fun i => if i < nb then g i else 0) n = vl B g nb := by
  rw [vl_zeros n h (fun i h1 _ => if_neg (by omega))]
  exact vl_congr nb (fun i hi => if_pos hi)
theorem d_Mo_subtract_0 : decode c_Mo_subtract 0 = .ok (.iconst 0, 1) := by decide +kernel
theorem d_Mo_subtract_1 : decode c_Mo_subtract 1 = .ok (.istore 5, 2) := by decide +kernel
theorem d_Mo_subtract_3 : decode c_Mo_subtract 3 = .ok (.iconst 0, 1) := by decide +kernel
theorem d_Mo_subtract_4 : decode c_Mo_subtract 4 = .ok (.istore 6, 2) := by decide +kernel
theorem d_Mo_subtract_6 : decode c_Mo_subtract 6 = .ok (.iload 6, 2) := by decide +kernel
theorem d_Mo_subtract_8 : decode c_Mo_subtract 8 = .ok (.iload_n 1, 1) := by decide +kernel
theorem d_Mo_subtract_9 : decode c_Mo_subtract 9 = .ok (.if_icmp .ge 56, 3) := by decide +kernel
theorem d_Mo_subtract_12 : decode c_Mo_subtract 12 = .ok (.aload_n 0, 1) := by decide +kernel
theorem d_Mo_subtract_13 : decode c_Mo_subtract 13 = .ok (.iload 6, 2) := by decide +kernel
theorem d_Mo_subtract_15 : decode c_Mo_subtract 15 = .ok (.iaload, 1) := by decide +kernel
theorem d_Mo_subtract_16 : decode c_Mo_subtract 16 = .ok (.iload 6, 2) := by decide +kernel
theorem d_Mo_subtract_18 : decode c_Mo_subtract 18 = .ok (.iload_n 3, 1) := by decide +kernel
theorem d_Mo_subtract_19 : decode c_Mo_subtract 19 = .ok (.if_icmp .ge 10, 3) := by decide +kernel
theorem d_Mo_subtract_22 : decode c_Mo_subtract 22 = .ok (.aload_n 2, 1) := by decide +kernel
theorem d_Mo_subtract_23 : decode c_Mo_subtract 23 = .ok (.iload 6, 2) := by decide +kernel
theorem d_Mo_subtract_25 : decode c_Mo_subtract 25 = .ok (.iaload, 1) := by decide +kernel
theorem d_Mo_subtract_26 : decode c_Mo_subtract 26 = .ok (.goto 4, 3) := by decide +kernel
theorem d_Mo_subtract_29 : decode c_Mo_subtract 29 = .ok (.iconst 0, 1) := by decide +kernel
theorem d_Mo_subtract_30 : decode c_Mo_subtract 30 = .ok (.isub, 1) := by decide +kernel
theorem d_Mo_subtract_31 : decode c_Mo_subtract 31 = .ok (.iload 5, 2) := by decide +kernel
theorem d_Mo_subtract_33 : decode c_Mo_subtract 33 = .ok (.isub, 1) := by decide +kernel
theorem d_Mo_subtract_34 : decode c_Mo_subtract 34 = .ok (.istore 7, 2) := by decide +kernel
theorem d_Mo_subtract_36 : decode c_Mo_subtract 36 = .ok (.aload 4, 2) := by decide +kernel
theorem d_Mo_subtract_38 : decode c_Mo_subtract 38 = .ok (.iload 6, 2) := by decide +kernel
theorem d_Mo_subtract_40 : decode c_Mo_subtract 40 = .ok (.iload 7, 2) := by decide +kernel
theorem d_Mo_subtract_42 : decode c_Mo_subtract 42 = .ok (.ldc_w 312, 3) := by decide +kernel
theorem d_Mo_subtract_45 : decode c_Mo_subtract 45 = .ok (.iand, 1) := by decide +kernel
theorem d_Mo_subtract_46 : decode c_Mo_subtract 46 = .ok (.iastore, 1) := by decide +kernel
theorem d_Mo_subtract_47 : decode c_Mo_subtract 47 = .ok (.iload 7, 2) := by decide +kernel
theorem d_Mo_subtract_49 : decode c_Mo_subtract 49 = .ok (.ifCond .ge 7, 3) := by decide +kernel
theorem d_Mo_subtract_52 : decode c_Mo_subtract 52 = .ok (.iconst 1, 1) := by decide +kernel
theorem d_Mo_subtract_53 : decode c_Mo_subtract 53 = .ok (.goto 4, 3) := by decide +kernel
theorem d_Mo_subtract_56 : decode c_Mo_subtract 56 = .ok (.iconst 0, 1) := by decide +kernel
theorem d_Mo_subtract_57 : decode c_Mo_subtract 57 = .ok (.istore 5, 2) := by decide +kernel
theorem d_Mo_subtract_59 : decode c_Mo_subtract 59 = .ok (.iinc 6 1, 3) := by decide +kernel
theorem d_Mo_subtract_62 : decode c_Mo_subtract 62 = .ok (.goto (-56), 3) := by decide +kernel
theorem d_Mo_subtract_65 : decode c_Mo_subtract 65 = .ok (.return_, 1) := by decide +kernel
set_option maxRecDepth 100000 in
set_option maxHeartbeats 8000000 in
/-- subtract(x, na, y, nb, x) -/
theorem g_Mo_subtract_a (l : Launch) (G : va_G) (k : Nat → ClassId) (s0 x y na nb : Nat) (ga gb : Nat → Nat) (hna : na ≤ 170) (hnb : nb ≤ na) (hle : vl 65536 gb nb ≤ vl 65536 ga na) (da : ∀ i, i < 170 → ga i < 65536) (db : ∀ i, i < 170 → gb i < 65536) : CV l y_Mo_subtract c_Mo_subtract 8 { frames := 0, cells := 0, slots := 0, locals := 0 } [.ref x, .int (nI na), .ref y, .int (nI nb), .ref x] G k s0 [(x, .inl (k 0, 170, .inl (fun i => nI (ga i)))), (y, .inl (k 0, 170, .inl (fun i => nI (gb i))))] (fun (U : Nat → Nat) => vl 65536 U na + vl 65536 gb nb = vl 65536 ga na ∧ (∀ i, i < 170 → U i < 65536) ∧ ∀ i, na ≤ i → U i = ga i) (fun U => [(x, .inl (k 0, 170, .inl (fun i => nI (U i)))), (y, .inl (k 0, 170, .inl (fun i => nI (gb i))))]) 0 0 := by
  refine met_start (by decide) (Nat.le_of_ble_eq_true rfl) ?_
  intro p e s m below meth c C K hA hsz S ls hl
  generalize va_A [(x, .inl (k 0, 170, .inl (fun i => nI (ga i)))), (y, .inl (k 0, 170, .inl (fun i => nI (gb i))))] s0 = A at hA S ⊢
  have hx := C.1
  have hb := C.2.1
  have hl : lv_has ls 8 [(0, .ref x), (1, .int (nI na)), (2, .ref y), (3, .int (nI nb)), (4, .ref x)] := hl
  have loop : ∀ d t, t + d = na → ∀ (U : Nat → Nat) (c9 : Nat), (vl 65536 U t + vl 65536 (fun i => if i < nb then gb i else 0) t = vl 65536 ga t + c9 * 65536 ^ t ∧ c9 ≤ 1 ∧ (∀ i, i < 170 → U i < 65536) ∧ ∀ i, t ≤ i → U i = ga i) → ∀ (H : Heap) (locs : List Loc), Sw G A s.heap H locs [(x, .inl (k 0, 170, .inl (fun i => nI (U i)))), (y, .inl (k 0, 170, .inl (fun i => nI (gb i))))] → ∀ ls : Array Slot, lv_has ls 8 [(6, .int (nI t)), (5, .int (nI c9)), (0, .ref x), (1, .int (nI na)), (2, .ref y), (3, .int (nI nb)), (4, .ref x)] → W p l e { frames := 0, cells := 0, slots := 0, locals := 0 } s m [Value.ref x, Value.int (nI na), Value.ref y, Value.int (nI nb), Value.ref x].toArray below meth c H locs 0 0 (MQ below (va_Qv (fun (U : Nat → Nat) => vl 65536 U na + vl 65536 gb nb = vl 65536 ga na ∧ (∀ i, i < 170 → U i < 65536) ∧ ∀ i, na ≤ i → U i = ga i) (Po G k A (fun U => [(x, .inl (k 0, 170, .inl (fun i => nI (U i)))), (y, .inl (k 0, 170, .inl (fun i => nI (gb i))))])) A) [Value.ref x, Value.int (nI na), Value.ref y, Value.int (nI nb), Value.ref x].toArray s 0 0 A) (F0 m 6 ls []) := by
    intro d
    induction d with
    | zero =>
      intro t ht U c9 hI H locs S ls hl
      obtain rfl : t = na := by omega
      have hu := vl_lt (B := 65536) (g := U) t (fun i hi => hI.2.2.1 i (by omega))
      have e0 := hI.1
      rw [vl_bb hnb] at e0
      have hc := hI.2.1
      have ec : c9 = 0 := by
        rcases (show c9 = 0 ∨ c9 = 1 by omega) with w | w
        · exact w
        · rw [w, Nat.one_mul] at e0; omega
      rw [ec, Nat.zero_mul, Nat.add_zero] at e0
      refine lv_iload hx hb d_Mo_subtract_6 (lv_at hl 0 rfl) ?_
      refine lv_iload_n hx hb d_Mo_subtract_8 rfl (lv_at hl 3 rfl) ?_
      refine lv_icmp_ge (tgt := 65) hx hb d_Mo_subtract_9 (by decide) (fun _ => ?_) (fun hq => absurd (nI_le (Nat.le_refl _) (by omega)) hq)
      exact r_vret C K U ⟨e0, hI.2.2.1, hI.2.2.2⟩ (S.sub [0, 1] (by decide) rfl) d_Mo_subtract_65 (Nat.le_of_ble_eq_true rfl) (Nat.le_of_ble_eq_true rfl)
    | succ d ih =>
      intro t ht U c9 hI H locs S ls hl
      have d1 := da t (by omega)
      have d2 := db t (by omega)
      have hc := hI.2.1
      have ut : U t = ga t := hI.2.2.2 t (Nat.le_refl t)
      have cont : ∀ bv : Nat, bv = (if t < nb then gb t else 0) → W p l e { frames := 0, cells := 0, slots := 0, locals := 0 } s m [Value.ref x, Value.int (nI na), Value.ref y, Value.int (nI nb), Value.ref x].toArray below meth c H locs 0 0 (MQ below (va_Qv (fun (U : Nat → Nat) => vl 65536 U na + vl 65536 gb nb = vl 65536 ga na ∧ (∀ i, i < 170 → U i < 65536) ∧ ∀ i, na ≤ i → U i = ga i) (Po G k A (fun U => [(x, .inl (k 0, 170, .inl (fun i => nI (U i)))), (y, .inl (k 0, 170, .inl (fun i => nI (gb i))))])) A) [Value.ref x, Value.int (nI na), Value.ref y, Value.int (nI nb), Value.ref x].toArray s 0 0 A) (F0 m 30 ls [.int (nI bv), .int (nI (ga t))]) := by
        intro bv hbv
        have d3 : bv < 65536 := by rw [hbv]; split <;> omega
        refine lv_isub hx hb d_Mo_subtract_30 ?_
        refine lv_iload hx hb d_Mo_subtract_31 (lv_at hl 1 rfl) ?_
        refine lv_isub hx hb d_Mo_subtract_33 ?_
        refine lv_istore (lv' := [(7, .int (((nI (ga t)) - (nI bv)) - (nI c9))), (6, .int (nI t)), (5, .int (nI c9)), (0, .ref x), (1, .int (nI na)), (2, .ref y), (3, .int (nI nb)), (4, .ref x)]) hx hb d_Mo_subtract_34 hl (by decide) rfl (fun ls hl => ?_)
        refine lv_aload hx hb d_Mo_subtract_36 (lv_at hl 7 rfl) ?_
        refine lv_iload hx hb d_Mo_subtract_38 (lv_at hl 1 rfl) ?_
        refine lv_iload hx hb d_Mo_subtract_40 (lv_at hl 0 rfl) ?_
        refine lv_ldcw (v := 65535) hx hb C.2.2.2.1 (C.2.2.2.2.1 _ wk_Mo_312) d_Mo_subtract_42 ?_
        refine lv_iand hx hb d_Mo_subtract_45 ?_
        rw [sb_and d1 d3 hc]
        refine r_iast C K S 0 rfl (i := (nI t)) (x := nI ((ga t + 65536 - bv - c9) % 65536)) (vp_in_nI (by omega) (by decide)) (f' := fun n => nI (va_up U t ((ga t + 65536 - bv - c9) % 65536) n)) (ws' := [(x, .inl (k 0, 170, .inl (fun n => nI (va_up U t ((ga t + 65536 - bv - c9) % 65536) n)))), (y, .inl (k 0, 170, .inl (fun i => nI (gb i))))]) (upd_nI U (by omega) _) rfl d_Mo_subtract_46 (fun H locs S => ?_)
        refine lv_iload hx hb d_Mo_subtract_47 (lv_at hl 0 rfl) ?_
        have fin : ∀ c2 : Nat, c2 ≤ 1 → ga t + c2 * 65536 = bv + c9 + ((ga t + 65536 - bv - c9) % 65536) → vl 65536 (va_up U t ((ga t + 65536 - bv - c9) % 65536)) (t + 1) + vl 65536 (fun i => if i < nb then gb i else 0) (t + 1) = vl 65536 ga (t + 1) + c2 * 65536 ^ (t + 1) ∧ c2 ≤ 1 ∧ (∀ i, i < 170 → va_up U t ((ga t + 65536 - bv - c9) % 65536) i < 65536) ∧ ∀ i, t + 1 ≤ i → va_up U t ((ga t + 65536 - bv - c9) % 65536) i = ga i := by
          intro c2 h2 he
          have eb : (fun i => if i < nb then gb i else 0) t = bv := hbv.symm
          refine ⟨?_, h2, ?_, ?_⟩
          · rw [vl_s, vl_s, vl_s, va_up_self, vl_congr (h := U) t (fun i hi => va_up_ne U _ (by omega)), Nat.pow_succ]
            have e1 := hI.1
            have e2 : (ga t + c2 * 65536) * 65536 ^ t = (bv + c9 + ((ga t + 65536 - bv - c9) % 65536)) * 65536 ^ t := by rw [he]
            rw [Nat.add_mul, Nat.add_mul, Nat.add_mul] at e2
            have e3 : c2 * (65536 ^ t * 65536) = c2 * 65536 * 65536 ^ t := by rw [Nat.mul_comm (65536 ^ t), Nat.mul_assoc]
            rw [e3]
            have e4 : (if t < nb then gb t else 0) * 65536 ^ t = bv * 65536 ^ t := by rw [hbv]
            rw [e4]
            omega
          · intro i hi
            by_cases w : i = t
            · rw [w, va_up_self]; exact Nat.mod_lt _ (by decide)
            · rw [va_up_ne U _ w]; exact hI.2.2.1 i hi
          · intro i hi
            rw [va_up_ne U _ (by omega)]
            exact hI.2.2.2 i (by omega)
        refine lv_if_ge (tgt := 56) hx hb d_Mo_subtract_49 (by decide) (fun hg => ?_) (fun hg => ?_)
        · refine lv_iconst (v := 0) hx hb d_Mo_subtract_56 (by decide) ?_
          refine lv_istore (lv' := [(5, .int 0), (7, .int (((nI (ga t)) - (nI bv)) - (nI c9))), (6, .int (nI t)), (0, .ref x), (1, .int (nI na)), (2, .ref y), (3, .int (nI nb)), (4, .ref x)]) hx hb d_Mo_subtract_57 hl (by decide) rfl (fun ls hl => ?_)
          refine lv_iinc (v := nI (t + 1)) (lv' := [(6, .int (nI (t + 1))), (5, .int 0), (7, .int (((nI (ga t)) - (nI bv)) - (nI c9))), (0, .ref x), (1, .int (nI na)), (2, .ref y), (3, .int (nI nb)), (4, .ref x)]) hx hb d_Mo_subtract_59 hl (k := 2) rfl (nI_1 t) (by decide) rfl (fun ls hl => ?_)
          refine lv_goto (tgt := 6) hx hb d_Mo_subtract_62 (by decide) ?_
          have hg2 := (sb_sgn d1 d3 hc).mp hg
          exact ih (t + 1) (by omega) (va_up U t ((ga t + 65536 - bv - c9) % 65536)) 0 (fin 0 (by omega) (by omega)) _ _ S ls (lv_sub hl [0, 1, 3, 4, 5, 6, 7] rfl)
        · refine lv_iconst (v := 1) hx hb d_Mo_subtract_52 (by decide) ?_
          refine lv_goto (tgt := 57) hx hb d_Mo_subtract_53 (by decide) ?_
          refine lv_istore (lv' := [(5, .int 1), (7, .int (((nI (ga t)) - (nI bv)) - (nI c9))), (6, .int (nI t)), (0, .ref x), (1, .int (nI na)), (2, .ref y), (3, .int (nI nb)), (4, .ref x)]) hx hb d_Mo_subtract_57 hl (by decide) rfl (fun ls hl => ?_)
          refine lv_iinc (v := nI (t + 1)) (lv' := [(6, .int (nI (t + 1))), (5, .int 1), (7, .int (((nI (ga t)) - (nI bv)) - (nI c9))), (0, .ref x), (1, .int (nI na)), (2, .ref y), (3, .int (nI nb)), (4, .ref x)]) hx hb d_Mo_subtract_59 hl (k := 2) rfl (nI_1 t) (by decide) rfl (fun ls hl => ?_)
          refine lv_goto (tgt := 6) hx hb d_Mo_subtract_62 (by decide) ?_
          have hg2 : ¬ bv + c9 ≤ ga t := fun z => hg ((sb_sgn d1 d3 hc).mpr z)
          exact ih (t + 1) (by omega) (va_up U t ((ga t + 65536 - bv - c9) % 65536)) 1 (fin 1 (by omega) (by omega)) _ _ S ls (lv_sub hl [0, 1, 3, 4, 5, 6, 7] rfl)
      refine lv_iload hx hb d_Mo_subtract_6 (lv_at hl 0 rfl) ?_
      refine lv_iload_n hx hb d_Mo_subtract_8 rfl (lv_at hl 3 rfl) ?_
      refine lv_icmp_ge (tgt := 65) hx hb d_Mo_subtract_9 (by decide) (fun hq => absurd hq (nI_ge (by omega) (by omega))) (fun _ => ?_)
      refine lv_aload_n hx hb d_Mo_subtract_12 rfl (lv_at hl 2 rfl) ?_
      refine lv_iload hx hb d_Mo_subtract_13 (lv_at hl 0 rfl) ?_
      refine r_iald C K S 0 rfl (i := (nI t)) (vp_in_nI (by omega) (by decide)) (v := (nI (ga t))) (by rw [nI_clamp (by omega), ut]) d_Mo_subtract_15 ?_
      refine lv_iload hx hb d_Mo_subtract_16 (lv_at hl 0 rfl) ?_
      refine lv_iload_n hx hb d_Mo_subtract_18 rfl (lv_at hl 5 rfl) ?_
      refine lv_icmp_ge (tgt := 29) hx hb d_Mo_subtract_19 (by decide) (fun hg => ?_) (fun hg => ?_)
      · refine lv_iconst (v := 0) hx hb d_Mo_subtract_29 (by decide) ?_
        exact cont 0 (if_neg (by have := (nI_leI (a := nb) (b := t) (by omega) (by omega)).mp hg; omega)).symm
      · refine lv_aload_n hx hb d_Mo_subtract_22 rfl (lv_at hl 4 rfl) ?_
        refine lv_iload hx hb d_Mo_subtract_23 (lv_at hl 0 rfl) ?_
        refine r_iald C K S 1 rfl (i := (nI t)) (vp_in_nI (by omega) (by decide)) (v := (nI (gb t))) (by rw [nI_clamp (by omega)]) d_Mo_subtract_25 ?_
        refine lv_goto (tgt := 30) hx hb d_Mo_subtract_26 (by decide) ?_
        exact cont (gb t) (if_pos (Nat.lt_of_not_le (fun z => hg ((nI_leI (a := nb) (b := t) (by omega) (by omega)).mpr z)))).symm
  refine lv_iconst (v := 0) hx hb d_Mo_subtract_0 (by decide) ?_
  refine lv_istore (lv' := [(5, .int 0), (0, .ref x), (1, .int (nI na)), (2, .ref y), (3, .int (nI nb)), (4, .ref x)]) hx hb d_Mo_subtract_1 hl (by decide) rfl (fun ls hl => ?_)
  refine lv_iconst (v := 0) hx hb d_Mo_subtract_3 (by decide) ?_
  refine lv_istore (lv' := [(6, .int 0), (5, .int 0), (0, .ref x), (1, .int (nI na)), (2, .ref y), (3, .int (nI nb)), (4, .ref x)]) hx hb d_Mo_subtract_4 hl (by decide) rfl (fun ls hl => ?_)
  exact loop na 0 (by omega) ga 0 ⟨by simp [vl], by omega, da, fun _ _ => rfl⟩ _ _ S ls hl
set_option maxRecDepth 100000 in
set_option maxHeartbeats 8000000 in
/-- subtract(x, na, y, nb, y) -/
theorem g_Mo_subtract_b (l : Launch) (G : va_G) (k : Nat → ClassId) (s0 x y na nb : Nat) (ga gb : Nat → Nat) (hna : na ≤ 170) (hnb : nb ≤ na) (hle : vl 65536 gb nb ≤ vl 65536 ga na) (da : ∀ i, i < 170 → ga i < 65536) (db : ∀ i, i < 170 → gb i < 65536) : CV l y_Mo_subtract c_Mo_subtract 8 { frames := 0, cells := 0, slots := 0, locals := 0 } [.ref x, .int (nI na), .ref y, .int (nI nb), .ref y] G k s0 [(x, .inl (k 0, 170, .inl (fun i => nI (ga i)))), (y, .inl (k 0, 170, .inl (fun i => nI (gb i))))] (fun (U : Nat → Nat) => vl 65536 U na + vl 65536 gb nb = vl 65536 ga na ∧ (∀ i, i < 170 → U i < 65536) ∧ ∀ i, na ≤ i → U i = gb i) (fun U => [(x, .inl (k 0, 170, .inl (fun i => nI (ga i)))), (y, .inl (k 0, 170, .inl (fun i => nI (U i))))]) 0 0 := by
  refine met_start (by decide) (Nat.le_of_ble_eq_true rfl) ?_
  intro p e s m below meth c C K hA hsz S ls hl
  generalize va_A [(x, .inl (k 0, 170, .inl (fun i => nI (ga i)))), (y, .inl (k 0, 170, .inl (fun i => nI (gb i))))] s0 = A at hA S ⊢
  have hx := C.1
  have hb := C.2.1
  have hl : lv_has ls 8 [(0, .ref x), (1, .int (nI na)), (2, .ref y), (3, .int (nI nb)), (4, .ref y)] := hl
  have loop : ∀ d t, t + d = na → ∀ (U : Nat → Nat) (c9 : Nat), (vl 65536 U t + vl 65536 (fun i => if i < nb then gb i else 0) t = vl 65536 ga t + c9 * 65536 ^ t ∧ c9 ≤ 1 ∧ (∀ i, i < 170 → U i < 65536) ∧ ∀ i, t ≤ i → U i = gb i) → ∀ (H : Heap) (locs : List Loc), Sw G A s.heap H locs [(x, .inl (k 0, 170, .inl (fun i => nI (ga i)))), (y, .inl (k 0, 170, .inl (fun i => nI (U i))))] → ∀ ls : Array Slot, lv_has ls 8 [(6, .int (nI t)), (5, .int (nI c9)), (0, .ref x), (1, .int (nI na)), (2, .ref y), (3, .int (nI nb)), (4, .ref y)] → W p l e { frames := 0, cells := 0, slots := 0, locals := 0 } s m [Value.ref x, Value.int (nI na), Value.ref y, Value.int (nI nb), Value.ref y].toArray below meth c H locs 0 0 (MQ below (va_Qv (fun (U : Nat → Nat) => vl 65536 U na + vl 65536 gb nb = vl 65536 ga na ∧ (∀ i, i < 170 → U i < 65536) ∧ ∀ i, na ≤ i → U i = gb i) (Po G k A (fun U => [(x, .inl (k 0, 170, .inl (fun i => nI (ga i)))), (y, .inl (k 0, 170, .inl (fun i => nI (U i))))])) A) [Value.ref x, Value.int (nI na), Value.ref y, Value.int (nI nb), Value.ref y].toArray s 0 0 A) (F0 m 6 ls []) := by
    intro d
    induction d with
    | zero =>
      intro t ht U c9 hI H locs S ls hl
      obtain rfl : t = na := by omega
      have hu := vl_lt (B := 65536) (g := U) t (fun i hi => hI.2.2.1 i (by omega))
      have e0 := hI.1
      rw [vl_bb hnb] at e0
      have hc := hI.2.1
      have ec : c9 = 0 := by
        rcases (show c9 = 0 ∨ c9 = 1 by omega) with w | w
        · exact w
        · rw [w, Nat.one_mul] at e0; omega
      rw [ec, Nat.zero_mul, Nat.add_zero] at e0
      refine lv_iload hx hb d_Mo_subtract_6 (lv_at hl 0 rfl) ?_
      refine lv_iload_n hx hb d_Mo_subtract_8 rfl (lv_at hl 3 rfl) ?_
      refine lv_icmp_ge (tgt := 65) hx hb d_Mo_subtract_9 (by decide) (fun _ => ?_) (fun hq => absurd (nI_le (Nat.le_refl _) (by omega)) hq)
      exact r_vret C K U ⟨e0, hI.2.2.1, hI.2.2.2⟩ (S.sub [0, 1] (by decide) rfl) d_Mo_subtract_65 (Nat.le_of_ble_eq_true rfl) (Nat.le_of_ble_eq_true rfl)
    | succ d ih =>
      intro t ht U c9 hI H locs S ls hl
      have d1 := da t (by omega)
      have d2 := db t (by omega)
      have hc := hI.2.1
      have ut : U t = gb t := hI.2.2.2 t (Nat.le_refl t)
      have cont : ∀ bv : Nat, bv = (if t < nb then gb t else 0) → W p l e { frames := 0, cells := 0, slots := 0, locals := 0 } s m [Value.ref x, Value.int (nI na), Value.ref y, Value.int (nI nb), Value.ref y].toArray below meth c H locs 0 0 (MQ below (va_Qv (fun (U : Nat → Nat) => vl 65536 U na + vl 65536 gb nb = vl 65536 ga na ∧ (∀ i, i < 170 → U i < 65536) ∧ ∀ i, na ≤ i → U i = gb i) (Po G k A (fun U => [(x, .inl (k 0, 170, .inl (fun i => nI (ga i)))), (y, .inl (k 0, 170, .inl (fun i => nI (U i))))])) A) [Value.ref x, Value.int (nI na), Value.ref y, Value.int (nI nb), Value.ref y].toArray s 0 0 A) (F0 m 30 ls [.int (nI bv), .int (nI (ga t))]) := by
        intro bv hbv
        have d3 : bv < 65536 := by rw [hbv]; split <;> omega
        refine lv_isub hx hb d_Mo_subtract_30 ?_
        refine lv_iload hx hb d_Mo_subtract_31 (lv_at hl 1 rfl) ?_
        refine lv_isub hx hb d_Mo_subtract_33 ?_
        refine lv_istore (lv' := [(7, .int (((nI (ga t)) - (nI bv)) - (nI c9))), (6, .int (nI t)), (5, .int (nI c9)), (0, .ref x), (1, .int (nI na)), (2, .ref y), (3, .int (nI nb)), (4, .ref y)]) hx hb d_Mo_subtract_34 hl (by decide) rfl (fun ls hl => ?_)
        refine lv_aload hx hb d_Mo_subtract_36 (lv_at hl 7 rfl) ?_
        refine lv_iload hx hb d_Mo_subtract_38 (lv_at hl 1 rfl) ?_
        refine lv_iload hx hb d_Mo_subtract_40 (lv_at hl 0 rfl) ?_
        refine lv_ldcw (v := 65535) hx hb C.2.2.2.1 (C.2.2.2.2.1 _ wk_Mo_312) d_Mo_subtract_42 ?_
        refine lv_iand hx hb d_Mo_subtract_45 ?_
        rw [sb_and d1 d3 hc]
        refine r_iast C K S 1 rfl (i := (nI t)) (x := nI ((ga t + 65536 - bv - c9) % 65536)) (vp_in_nI (by omega) (by decide)) (f' := fun n => nI (va_up U t ((ga t + 65536 - bv - c9) % 65536) n)) (ws' := [(x, .inl (k 0, 170, .inl (fun i => nI (ga i)))), (y, .inl (k 0, 170, .inl (fun n => nI (va_up U t ((ga t + 65536 - bv - c9) % 65536) n))))]) (upd_nI U (by omega) _) rfl d_Mo_subtract_46 (fun H locs S => ?_)
        refine lv_iload hx hb d_Mo_subtract_47 (lv_at hl 0 rfl) ?_
        have fin : ∀ c2 : Nat, c2 ≤ 1 → ga t + c2 * 65536 = bv + c9 + ((ga t + 65536 - bv - c9) % 65536) → vl 65536 (va_up U t ((ga t + 65536 - bv - c9) % 65536)) (t + 1) + vl 65536 (fun i => if i < nb then gb i else 0) (t + 1) = vl 65536 ga (t + 1) + c2 * 65536 ^ (t + 1) ∧ c2 ≤ 1 ∧ (∀ i, i < 170 → va_up U t ((ga t + 65536 - bv - c9) % 65536) i < 65536) ∧ ∀ i, t + 1 ≤ i → va_up U t ((ga t + 65536 - bv - c9) % 65536) i = gb i := by
          intro c2 h2 he
          have eb : (fun i => if i < nb then gb i else 0) t = bv := hbv.symm
          refine ⟨?_, h2, ?_, ?_⟩
          · rw [vl_s, vl_s, vl_s, va_up_self, vl_congr (h := U) t (fun i hi => va_up_ne U _ (by omega)), Nat.pow_succ]
            have e1 := hI.1
            have e2 : (ga t + c2 * 65536) * 65536 ^ t = (bv + c9 + ((ga t + 65536 - bv - c9) % 65536)) * 65536 ^ t := by rw [he]
            rw [Nat.add_mul, Nat.add_mul, Nat.add_mul] at e2
            have e3 : c2 * (65536 ^ t * 65536) = c2 * 65536 * 65536 ^ t := by rw [Nat.mul_comm (65536 ^ t), Nat.mul_assoc]
            rw [e3]
            have e4 : (if t < nb then gb t else 0) * 65536 ^ t = bv * 65536 ^ t := by rw [hbv]
            rw [e4]
            omega
          · intro i hi
            by_cases w : i = t
            · rw [w, va_up_self]; exact Nat.mod_lt _ (by decide)
            · rw [va_up_ne U _ w]; exact hI.2.2.1 i hi
          · intro i hi
            rw [va_up_ne U _ (by omega)]
            exact hI.2.2.2 i (by omega)
        refine lv_if_ge (tgt := 56) hx hb d_Mo_subtract_49 (by decide) (fun hg => ?_) (fun hg => ?_)
        · refine lv_iconst (v := 0) hx hb d_Mo_subtract_56 (by decide) ?_
          refine lv_istore (lv' := [(5, .int 0), (7, .int (((nI (ga t)) - (nI bv)) - (nI c9))), (6, .int (nI t)), (0, .ref x), (1, .int (nI na)), (2, .ref y), (3, .int (nI nb)), (4, .ref y)]) hx hb d_Mo_subtract_57 hl (by decide) rfl (fun ls hl => ?_)
          refine lv_iinc (v := nI (t + 1)) (lv' := [(6, .int (nI (t + 1))), (5, .int 0), (7, .int (((nI (ga t)) - (nI bv)) - (nI c9))), (0, .ref x), (1, .int (nI na)), (2, .ref y), (3, .int (nI nb)), (4, .ref y)]) hx hb d_Mo_subtract_59 hl (k := 2) rfl (nI_1 t) (by decide) rfl (fun ls hl => ?_)
          refine lv_goto (tgt := 6) hx hb d_Mo_subtract_62 (by decide) ?_
          have hg2 := (sb_sgn d1 d3 hc).mp hg
          exact ih (t + 1) (by omega) (va_up U t ((ga t + 65536 - bv - c9) % 65536)) 0 (fin 0 (by omega) (by omega)) _ _ S ls (lv_sub hl [0, 1, 3, 4, 5, 6, 7] rfl)
        · refine lv_iconst (v := 1) hx hb d_Mo_subtract_52 (by decide) ?_
          refine lv_goto (tgt := 57) hx hb d_Mo_subtract_53 (by decide) ?_
          refine lv_istore (lv' := [(5, .int 1), (7, .int (((nI (ga t)) - (nI bv)) - (nI c9))), (6, .int (nI t)), (0, .ref x), (1, .int (nI na)), (2, .ref y), (3, .int (nI nb)), (4, .ref y)]) hx hb d_Mo_subtract_57 hl (by decide) rfl (fun ls hl => ?_)
          refine lv_iinc (v := nI (t + 1)) (lv' := [(6, .int (nI (t + 1))), (5, .int 1), (7, .int (((nI (ga t)) - (nI bv)) - (nI c9))), (0, .ref x), (1, .int (nI na)), (2, .ref y), (3, .int (nI nb)), (4, .ref y)]) hx hb d_Mo_subtract_59 hl (k := 2) rfl (nI_1 t) (by decide) rfl (fun ls hl => ?_)
          refine lv_goto (tgt := 6) hx hb d_Mo_subtract_62 (by decide) ?_
          have hg2 : ¬ bv + c9 ≤ ga t := fun z => hg ((sb_sgn d1 d3 hc).mpr z)
          exact ih (t + 1) (by omega) (va_up U t ((ga t + 65536 - bv - c9) % 65536)) 1 (fin 1 (by omega) (by omega)) _ _ S ls (lv_sub hl [0, 1, 3, 4, 5, 6, 7] rfl)
      refine lv_iload hx hb d_Mo_subtract_6 (lv_at hl 0 rfl) ?_
      refine lv_iload_n hx hb d_Mo_subtract_8 rfl (lv_at hl 3 rfl) ?_
      refine lv_icmp_ge (tgt := 65) hx hb d_Mo_subtract_9 (by decide) (fun hq => absurd hq (nI_ge (by omega) (by omega))) (fun _ => ?_)
      refine lv_aload_n hx hb d_Mo_subtract_12 rfl (lv_at hl 2 rfl) ?_
      refine lv_iload hx hb d_Mo_subtract_13 (lv_at hl 0 rfl) ?_
      refine r_iald C K S 0 rfl (i := (nI t)) (vp_in_nI (by omega) (by decide)) (v := (nI (ga t))) (by rw [nI_clamp (by omega)]) d_Mo_subtract_15 ?_
      refine lv_iload hx hb d_Mo_subtract_16 (lv_at hl 0 rfl) ?_
      refine lv_iload_n hx hb d_Mo_subtract_18 rfl (lv_at hl 5 rfl) ?_
      refine lv_icmp_ge (tgt := 29) hx hb d_Mo_subtract_19 (by decide) (fun hg => ?_) (fun hg => ?_)
      · refine lv_iconst (v := 0) hx hb d_Mo_subtract_29 (by decide) ?_
        exact cont 0 (if_neg (by have := (nI_leI (a := nb) (b := t) (by omega) (by omega)).mp hg; omega)).symm
      · refine lv_aload_n hx hb d_Mo_subtract_22 rfl (lv_at hl 4 rfl) ?_
        refine lv_iload hx hb d_Mo_subtract_23 (lv_at hl 0 rfl) ?_
        refine r_iald C K S 1 rfl (i := (nI t)) (vp_in_nI (by omega) (by decide)) (v := (nI (gb t))) (by rw [nI_clamp (by omega), ut]) d_Mo_subtract_25 ?_
        refine lv_goto (tgt := 30) hx hb d_Mo_subtract_26 (by decide) ?_
        exact cont (gb t) (if_pos (Nat.lt_of_not_le (fun z => hg ((nI_leI (a := nb) (b := t) (by omega) (by omega)).mpr z)))).symm
  refine lv_iconst (v := 0) hx hb d_Mo_subtract_0 (by decide) ?_
  refine lv_istore (lv' := [(5, .int 0), (0, .ref x), (1, .int (nI na)), (2, .ref y), (3, .int (nI nb)), (4, .ref y)]) hx hb d_Mo_subtract_1 hl (by decide) rfl (fun ls hl => ?_)
  refine lv_iconst (v := 0) hx hb d_Mo_subtract_3 (by decide) ?_
  refine lv_istore (lv' := [(6, .int 0), (5, .int 0), (0, .ref x), (1, .int (nI na)), (2, .ref y), (3, .int (nI nb)), (4, .ref y)]) hx hb d_Mo_subtract_4 hl (by decide) rfl (fun ls hl => ?_)
  exact loop na 0 (by omega) gb 0 ⟨by simp [vl], by omega, db, fun _ _ => rfl⟩ _ _ S ls hl
