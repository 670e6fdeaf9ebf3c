section
theorem z_lif_ne {p : Program} {l : Launch} {e : Env} {R : Room} {s : State} {m : MethodId} {args : Array Value} {below : List Frame} {meth : Method} {c : Code} {H : Heap} {locs : List Loc} {cells slots : Nat} {Q : State → Prop} {cc : ByteArray} {pc : Nat} {ls : Array Slot} {rest : List Value} (hx : p.tables.exec = Jvm.exec) (hb : c.code = cc) {a b : Nat} {off : Int} {tgt : Nat} (hd : decode cc pc = .ok (.ifCond .ne off, 3)) (ht : (pc : Int) + off = (tgt : Int)) (ha : a < 9223372036854775808) (hc : b < 9223372036854775808) (k1 : a ≠ b → W p l e R s m args below meth c H locs cells slots Q (F0 m tgt ls rest)) (k2 : a = b → W p l e R s m args below meth c H locs cells slots Q (F0 m (pc + 3) ls rest)) : W p l e R s m args below meth c H locs cells slots Q (F0 m pc ls (.int (lg_cmp (lN a) (lN b)) :: rest)) := lv_if_ne hx hb hd ht (fun h => k1 (fun z => h ((lg_cmp_eq _ _).mpr (by rw [z])))) (fun h => k2 (by have := congrArg Int64.toInt ((lg_cmp_eq _ _).mp h); rw [pf_lI ha, pf_lI hc] at this; omega))
theorem ln_ne {b : Nat} (h0 : 0 < b) (h : b < 9223372036854775808) : ¬ lN b = 0 := by
  intro q
  have h1 := congrArg Int64.toInt q
  rw [pf_lI (by omega)] at h1
  have h2 : (0 : Int64).toInt = 0 := by decide
  omega
theorem d_Wh_divideByDigit_0 : decode c_Wh_divideByDigit 0 = .ok (.iload_n 1, 1) := by decide +kernel
theorem d_Wh_divideByDigit_1 : decode c_Wh_divideByDigit 1 = .ok (.ifCond .ne 4, 3) := by decide +kernel
theorem d_Wh_divideByDigit_4 : decode c_Wh_divideByDigit 4 = .ok (.return_, 1) := by decide +kernel
theorem d_Wh_divideByDigit_5 : decode c_Wh_divideByDigit 5 = .ok (.lconst 0, 1) := by decide +kernel
theorem d_Wh_divideByDigit_6 : decode c_Wh_divideByDigit 6 = .ok (.lstore_n 2, 1) := by decide +kernel
theorem d_Wh_divideByDigit_7 : decode c_Wh_divideByDigit 7 = .ok (.aload_n 0, 1) := by decide +kernel
theorem d_Wh_divideByDigit_8 : decode c_Wh_divideByDigit 8 = .ok (.getfield 29, 3) := by decide +kernel
theorem d_Wh_divideByDigit_11 : decode c_Wh_divideByDigit 11 = .ok (.iconst 1, 1) := by decide +kernel
theorem d_Wh_divideByDigit_12 : decode c_Wh_divideByDigit 12 = .ok (.isub, 1) := by decide +kernel
theorem d_Wh_divideByDigit_13 : decode c_Wh_divideByDigit 13 = .ok (.istore 4, 2) := by decide +kernel
theorem d_Wh_divideByDigit_15 : decode c_Wh_divideByDigit 15 = .ok (.iload 4, 2) := by decide +kernel
theorem d_Wh_divideByDigit_17 : decode c_Wh_divideByDigit 17 = .ok (.ifCond .lt 40, 3) := by decide +kernel
theorem d_Wh_divideByDigit_20 : decode c_Wh_divideByDigit 20 = .ok (.lload_n 2, 1) := by decide +kernel
theorem d_Wh_divideByDigit_21 : decode c_Wh_divideByDigit 21 = .ok (.bipush 31, 2) := by decide +kernel
theorem d_Wh_divideByDigit_23 : decode c_Wh_divideByDigit 23 = .ok (.lshl, 1) := by decide +kernel
theorem d_Wh_divideByDigit_24 : decode c_Wh_divideByDigit 24 = .ok (.aload_n 0, 1) := by decide +kernel
theorem d_Wh_divideByDigit_25 : decode c_Wh_divideByDigit 25 = .ok (.getfield 9, 3) := by decide +kernel
theorem d_Wh_divideByDigit_28 : decode c_Wh_divideByDigit 28 = .ok (.iload 4, 2) := by decide +kernel
theorem d_Wh_divideByDigit_30 : decode c_Wh_divideByDigit 30 = .ok (.iaload, 1) := by decide +kernel
theorem d_Wh_divideByDigit_31 : decode c_Wh_divideByDigit 31 = .ok (.i2l, 1) := by decide +kernel
theorem d_Wh_divideByDigit_32 : decode c_Wh_divideByDigit 32 = .ok (.lor, 1) := by decide +kernel
theorem d_Wh_divideByDigit_33 : decode c_Wh_divideByDigit 33 = .ok (.lstore_n 2, 1) := by decide +kernel
theorem d_Wh_divideByDigit_34 : decode c_Wh_divideByDigit 34 = .ok (.aload_n 0, 1) := by decide +kernel
theorem d_Wh_divideByDigit_35 : decode c_Wh_divideByDigit 35 = .ok (.getfield 9, 3) := by decide +kernel
theorem d_Wh_divideByDigit_38 : decode c_Wh_divideByDigit 38 = .ok (.iload 4, 2) := by decide +kernel
theorem d_Wh_divideByDigit_40 : decode c_Wh_divideByDigit 40 = .ok (.lload_n 2, 1) := by decide +kernel
theorem d_Wh_divideByDigit_41 : decode c_Wh_divideByDigit 41 = .ok (.iload_n 1, 1) := by decide +kernel
theorem d_Wh_divideByDigit_42 : decode c_Wh_divideByDigit 42 = .ok (.i2l, 1) := by decide +kernel
theorem d_Wh_divideByDigit_43 : decode c_Wh_divideByDigit 43 = .ok (.ldiv, 1) := by decide +kernel
theorem d_Wh_divideByDigit_44 : decode c_Wh_divideByDigit 44 = .ok (.l2i, 1) := by decide +kernel
theorem d_Wh_divideByDigit_45 : decode c_Wh_divideByDigit 45 = .ok (.iastore, 1) := by decide +kernel
theorem d_Wh_divideByDigit_46 : decode c_Wh_divideByDigit 46 = .ok (.lload_n 2, 1) := by decide +kernel
theorem d_Wh_divideByDigit_47 : decode c_Wh_divideByDigit 47 = .ok (.iload_n 1, 1) := by decide +kernel
theorem d_Wh_divideByDigit_48 : decode c_Wh_divideByDigit 48 = .ok (.i2l, 1) := by decide +kernel
theorem d_Wh_divideByDigit_49 : decode c_Wh_divideByDigit 49 = .ok (.lrem, 1) := by decide +kernel
theorem d_Wh_divideByDigit_50 : decode c_Wh_divideByDigit 50 = .ok (.lstore_n 2, 1) := by decide +kernel
theorem d_Wh_divideByDigit_51 : decode c_Wh_divideByDigit 51 = .ok (.iinc 4 (-1), 3) := by decide +kernel
theorem d_Wh_divideByDigit_54 : decode c_Wh_divideByDigit 54 = .ok (.goto (-39), 3) := by decide +kernel
theorem d_Wh_divideByDigit_57 : decode c_Wh_divideByDigit 57 = .ok (.return_, 1) := by decide +kernel
set_option maxRecDepth 100000 in
set_option maxHeartbeats 16000000 in
/-- divideByDigit -/
theorem g_Wh_divideByDigit (l : Launch) (G : va_G) (k : Nat → ClassId) (h0 : Nat) (s0 sl : Nat) (b9 : Nat) (dd : Nat) (LL : Nat) (nn9 : Nat) (gg : Nat → Nat) (zz : Int) (sg9 : Int32) (hw : whO LL nn9 gg zz) (hb0 : 0 < b9) (hb1 : b9 < 2147483648) : CG l y_Wh_divideByDigit c_Wh_divideByDigit 5 none { frames := 0, cells := 0, slots := 0, locals := 0 } [.ref h0, .int (nI b9)] G k s0 sl [(h0, .inr (2, [.ref dd, .int (nI nn9), .int sg9])), (dd, .inl (k 0, LL, .inl (fun i => nI (gg i))))] (fun (u : Nat → Nat) => none) (fun (u : Nat → Nat) => (∀ i, u i < 2147483648) ∧ vl 2147483648 u nn9 = zz.natAbs / b9) (fun (u : Nat → Nat) => [(h0, .inr (2, [.ref dd, .int (nI nn9), .int sg9])), (dd, .inl (k 0, LL, .inl (fun i => nI (u i))))]) (fun (u : Nat → Nat) => 0) (fun (u : Nat → Nat) => 0) 0 0 := by
  refine met_startG (by decide) (Nat.le_of_ble_eq_true rfl) ?_
  intro p e s m below meth c C K hA hsz S ls hl
  generalize va_A [(h0, .inr (2, [.ref dd, .int (nI nn9), .int sg9])), (dd, .inl (k 0, LL, .inl (fun i => nI (gg i))))] s0 = A at hA S ⊢
  have hx := C.1
  have hb := C.2.1
  have hl : lv_has ls 5 [(0, .ref h0), (1, .int (nI b9))] := hl
  have hw0 := hw
  obtain ⟨w1, w2, w3, w4, w5, w6⟩ := hw0
  refine lv_iload_n hx hb d_Wh_divideByDigit_0 rfl (lv_at hl 1 rfl) ?_
  refine z_if_ne (a := b9) (tgt := 5) hx hb d_Wh_divideByDigit_1 (by decide) (by omega) (fun hc1 => ?_) (fun hc1 => False.elim (by omega))
  refine lv_lconst (v := 0) hx hb d_Wh_divideByDigit_5 (by decide) ?_
  refine lv_lstore_n (lv' := [(2, .long 0), (0, .ref h0), (1, .int (nI b9))]) hx hb d_Wh_divideByDigit_6 rfl hl (by decide) rfl (fun ls hl => ?_)
  refine lv_aload_n hx hb d_Wh_divideByDigit_7 rfl (lv_at hl 1 rfl) ?_
  refine r_get C K S 0 rfl rfl clOk_Wh 1 (by decide) wf_Wh_29 (v := .int (nI nn9)) rfl d_Wh_divideByDigit_8 ?_
  refine lv_iconst (v := 1) hx hb d_Wh_divideByDigit_11 (by decide) ?_
  refine z_isub (v := pm nn9) hx hb d_Wh_divideByDigit_12 (pm_of nn9) ?_
  refine lv_istore (lv' := [(4, .int (pm nn9)), (2, .long 0), (0, .ref h0), (1, .int (nI b9))]) hx hb d_Wh_divideByDigit_13 hl (by decide) rfl (fun ls hl => ?_)
  have lp : ∀ (t9 : Nat), ∀ (l8 : Nat), ∀ (T8 : Nat → Nat), (t9 ≤ nn9) → (vl 2147483648 (fun j => gg (t9 + j)) (nn9 - t9) = vl 2147483648 (fun j => T8 (t9 + j)) (nn9 - t9) * b9 + l8) → (l8 < b9) → (∀ i, T8 i < 2147483648) → (∀ i, i < t9 → T8 i = gg i) → ∀ (H : Heap) (locs : List Loc), Sw G A s.heap H locs [(h0, .inr (2, [.ref dd, .int (nI nn9), .int sg9])), (dd, .inl (k 0, LL, .inl (fun i => nI (T8 i))))] → ∀ ls : Array Slot, lv_has ls 5 [(4, .int (pm t9)), (2, .long (lN l8)), (0, .ref h0), (1, .int (nI b9))] → W p l e { frames := 0, cells := 0, slots := 0, locals := 0 } s m [Value.ref h0, Value.int (nI b9)].toArray below meth c H locs 0 0 (MQ below (va_Qg (fun (u : Nat → Nat) => none) (fun (u : Nat → Nat) => (∀ i, u i < 2147483648) ∧ vl 2147483648 u nn9 = zz.natAbs / b9) (Pog G k A (fun (u : Nat → Nat) => [(h0, .inr (2, [.ref dd, .int (nI nn9), .int sg9])), (dd, .inl (k 0, LL, .inl (fun i => nI (u i))))]) s0 sl (fun (u : Nat → Nat) => 0) (fun (u : Nat → Nat) => 0)) A) [Value.ref h0, Value.int (nI b9)].toArray s 0 0 A) (F0 m 15 ls []) := by
    intro t9
    induction t9 with
    | zero =>
      intro l8 T8 ht hI hl8 hD hT H locs S ls hl
      have hl : lv_has ls 5 [(4, .int (-1)), (2, .long (lN l8)), (0, .ref h0), (1, .int (nI b9))] := hl
      refine lv_iload hx hb d_Wh_divideByDigit_15 (lv_at hl 0 rfl) ?_
      refine lv_if_lt (tgt := 57) hx hb d_Wh_divideByDigit_17 (by decide) (fun _ => ?_) (fun hq => absurd (by decide) hq)
      exact q_vret C K hsz T8 (show (∀ i, T8 i < 2147483648) ∧ vl 2147483648 T8 nn9 = zz.natAbs / b9 from ⟨hD, by rw [← w6]; simp only [Nat.zero_add, Nat.sub_zero] at hI; exact dd_end hI hl8⟩) (S.sub [0, 1] (by decide) rfl) d_Wh_divideByDigit_57 (Nat.zero_le _) (Nat.zero_le _) (Nat.zero_le _) (Nat.zero_le _)
    | succ y9 ih_lp =>
      intro l8 T8 ht hI hl8 hD hT H locs S ls hl
      have hl : lv_has ls 5 [(4, .int (nI y9)), (2, .long (lN l8)), (0, .ref h0), (1, .int (nI b9))] := hl
      have d3 := hD y9
      have q7 := dd_lt (d := T8 y9) hl8 hb1 d3
      refine lv_iload hx hb d_Wh_divideByDigit_15 (lv_at hl 0 rfl) ?_
      refine z_if_lt (a := y9) (tgt := 57) hx hb d_Wh_divideByDigit_17 (by decide) (by omega) ?_
      refine lv_lload_n hx hb d_Wh_divideByDigit_20 rfl (lv_at hl 1 rfl) ?_
      refine lv_bipush (v := 31) hx hb d_Wh_divideByDigit_21 (by decide) ?_
      refine lv_lshl (v := lN (l8 * 2147483648)) hx hb d_Wh_divideByDigit_23 (lN_shl31 (by omega)) ?_
      refine lv_aload_n hx hb d_Wh_divideByDigit_24 rfl (lv_at hl 2 rfl) ?_
      refine r_get C K S 0 rfl rfl clOk_Wh 0 (by decide) wf_Wh_9 (v := .ref dd) rfl d_Wh_divideByDigit_25 ?_
      refine lv_iload hx hb d_Wh_divideByDigit_28 (lv_at hl 0 rfl) ?_
      refine r_iald C K S 1 rfl (i := nI y9) (show vp_in (nI y9) _ from vp_in_nI (n := y9) (by omega) (by omega)) (v := nI (T8 y9)) (by rw [nI_clamp (by omega)]) d_Wh_divideByDigit_30 ?_
      refine lv_i2l (v := lN (T8 y9)) hx hb d_Wh_divideByDigit_31 (show (nI (T8 y9) : Int32).toInt64 = _ from nI_l (n := (T8 y9)) (by omega)) ?_
      refine z_lor (v := lN (l8 * 2147483648 + T8 y9)) hx hb d_Wh_divideByDigit_32 (lN_or31 d3 (by omega)) ?_
      refine lv_lstore_n (lv' := [(2, .long (lN (l8 * 2147483648 + T8 y9))), (4, .int (nI y9)), (0, .ref h0), (1, .int (nI b9))]) hx hb d_Wh_divideByDigit_33 rfl hl (by decide) rfl (fun ls hl => ?_)
      refine lv_aload_n hx hb d_Wh_divideByDigit_34 rfl (lv_at hl 2 rfl) ?_
      refine r_get C K S 0 rfl rfl clOk_Wh 0 (by decide) wf_Wh_9 (v := .ref dd) rfl d_Wh_divideByDigit_35 ?_
      refine lv_iload hx hb d_Wh_divideByDigit_38 (lv_at hl 1 rfl) ?_
      refine lv_lload_n hx hb d_Wh_divideByDigit_40 rfl (lv_at hl 0 rfl) ?_
      refine lv_iload_n hx hb d_Wh_divideByDigit_41 rfl (lv_at hl 3 rfl) ?_
      refine lv_i2l (v := lN b9) hx hb d_Wh_divideByDigit_42 (show (nI b9 : Int32).toInt64 = _ from nI_l (n := b9) (by omega)) ?_
      refine z_ldiv (v := lN ((l8 * 2147483648 + T8 y9) / b9)) hx hb d_Wh_divideByDigit_43 (ln_ne hb0 (by omega)) (pk_lDiv (by omega) hb0 (by omega)) ?_
      refine lv_l2i (v := nI ((l8 * 2147483648 + T8 y9) / b9)) hx hb d_Wh_divideByDigit_44 (lN_i ((l8 * 2147483648 + T8 y9) / b9)) ?_
      refine r_iast C K S 1 rfl (i := nI y9) (x := nI ((l8 * 2147483648 + T8 y9) / b9)) (show vp_in (nI y9) _ from vp_in_nI (n := y9) (by omega) (by omega)) (f' := fun i => nI (va_up T8 y9 ((l8 * 2147483648 + T8 y9) / b9) i)) (ws' := [(h0, .inr (2, [.ref dd, .int (nI nn9), .int sg9])), (dd, .inl (k 0, LL, .inl (fun i => nI (va_up T8 y9 ((l8 * 2147483648 + T8 y9) / b9) i))))]) (show upd _ (nI y9 : Int32).toNatClampNeg (nI ((l8 * 2147483648 + T8 y9) / b9)) = _ from upd_nI T8 (j := y9) (by omega) ((l8 * 2147483648 + T8 y9) / b9)) rfl d_Wh_divideByDigit_45 (fun H locs S => ?_)
      refine lv_lload_n hx hb d_Wh_divideByDigit_46 rfl (lv_at hl 0 rfl) ?_
      refine lv_iload_n hx hb d_Wh_divideByDigit_47 rfl (lv_at hl 3 rfl) ?_
      refine lv_i2l (v := lN b9) hx hb d_Wh_divideByDigit_48 (show (nI b9 : Int32).toInt64 = _ from nI_l (n := b9) (by omega)) ?_
      refine z_lrem (v := lN ((l8 * 2147483648 + T8 y9) % b9)) hx hb d_Wh_divideByDigit_49 (ln_ne hb0 (by omega)) (pk_lRem (by omega) (by omega) (by omega)) ?_
      refine lv_lstore_n (lv' := [(2, .long (lN ((l8 * 2147483648 + T8 y9) % b9))), (4, .int (nI y9)), (0, .ref h0), (1, .int (nI b9))]) hx hb d_Wh_divideByDigit_50 rfl hl (by decide) rfl (fun ls hl => ?_)
      refine lv_iinc (v := pm y9) (lv' := [(4, .int (pm y9)), (2, .long (lN ((l8 * 2147483648 + T8 y9) % b9))), (0, .ref h0), (1, .int (nI b9))]) hx hb d_Wh_divideByDigit_51 hl (k := 1) rfl (pm_dn y9) (by decide) rfl (fun ls hl => ?_)
      refine lv_goto (tgt := 15) hx hb d_Wh_divideByDigit_54 (by decide) ?_
      exact ih_lp ((l8 * 2147483648 + T8 y9) % b9) (va_up T8 y9 ((l8 * 2147483648 + T8 y9) / b9)) (by omega) (dd_step (by omega) hI hb0 hl8 (hT y9 (by omega))) (Nat.mod_lt _ hb0) (up31 hD q7.1) (fun i q => by rw [va_up_ne _ _ (by omega)]; exact hT i (by omega)) _ _ (S.sub [0, 1] (by decide) rfl) ls (lv_sub hl [0, 1, 2, 3] rfl)
  exact lp nn9 0 gg (by omega) (by simp [vl]) hb0 w4 (fun _ _ => rfl) _ _ (S.sub [0, 1] (by decide) rfl) ls (lv_sub hl [0, 1, 2, 3] rfl)
theorem bf_end {a f : Nat} (h0 : 0 < a) (hf : a * 2 ^ f < 2147483648) (hno : ∀ j, f < j → j < 31 → 2147483648 ≤ a * 2 ^ j) (h3 : f ≤ 30) : 1073741824 ≤ a * 2 ^ f := by
  by_cases q : f = 30
  · subst q
    have : 1 * 2 ^ 30 ≤ a * 2 ^ 30 := Nat.mul_le_mul_right _ h0
    omega
  · have := hno (f + 1) (by omega) (by omega)
    rw [Nat.pow_succ, ← Nat.mul_assoc] at this
    omega
theorem d_Wh_bitsFree_0 : decode c_Wh_bitsFree 0 = .ok (.iconst 0, 1) := by decide +kernel
theorem d_Wh_bitsFree_1 : decode c_Wh_bitsFree 1 = .ok (.istore_n 1, 1) := by decide +kernel
theorem d_Wh_bitsFree_2 : decode c_Wh_bitsFree 2 = .ok (.aload_n 0, 1) := by decide +kernel
theorem d_Wh_bitsFree_3 : decode c_Wh_bitsFree 3 = .ok (.aload_n 0, 1) := by decide +kernel
theorem d_Wh_bitsFree_4 : decode c_Wh_bitsFree 4 = .ok (.getfield 29, 3) := by decide +kernel
theorem d_Wh_bitsFree_7 : decode c_Wh_bitsFree 7 = .ok (.iconst 1, 1) := by decide +kernel
theorem d_Wh_bitsFree_8 : decode c_Wh_bitsFree 8 = .ok (.isub, 1) := by decide +kernel
theorem d_Wh_bitsFree_9 : decode c_Wh_bitsFree 9 = .ok (.invokevirtual 64, 3) := by decide +kernel
theorem d_Wh_bitsFree_12 : decode c_Wh_bitsFree 12 = .ok (.i2l, 1) := by decide +kernel
theorem d_Wh_bitsFree_13 : decode c_Wh_bitsFree 13 = .ok (.lstore_n 2, 1) := by decide +kernel
theorem d_Wh_bitsFree_14 : decode c_Wh_bitsFree 14 = .ok (.iconst 1, 1) := by decide +kernel
theorem d_Wh_bitsFree_15 : decode c_Wh_bitsFree 15 = .ok (.istore 4, 2) := by decide +kernel
theorem d_Wh_bitsFree_17 : decode c_Wh_bitsFree 17 = .ok (.iload 4, 2) := by decide +kernel
theorem d_Wh_bitsFree_19 : decode c_Wh_bitsFree 19 = .ok (.bipush 31, 2) := by decide +kernel
theorem d_Wh_bitsFree_21 : decode c_Wh_bitsFree 21 = .ok (.if_icmp .ge 23, 3) := by decide +kernel
theorem d_Wh_bitsFree_24 : decode c_Wh_bitsFree 24 = .ok (.lload_n 2, 1) := by decide +kernel
theorem d_Wh_bitsFree_25 : decode c_Wh_bitsFree 25 = .ok (.iload 4, 2) := by decide +kernel
theorem d_Wh_bitsFree_27 : decode c_Wh_bitsFree 27 = .ok (.lshl, 1) := by decide +kernel
theorem d_Wh_bitsFree_28 : decode c_Wh_bitsFree 28 = .ok (.ldc2_w 93, 3) := by decide +kernel
theorem d_Wh_bitsFree_31 : decode c_Wh_bitsFree 31 = .ok (.lcmp, 1) := by decide +kernel
theorem d_Wh_bitsFree_32 : decode c_Wh_bitsFree 32 = .ok (.ifCond .ge 6, 3) := by decide +kernel
theorem d_Wh_bitsFree_35 : decode c_Wh_bitsFree 35 = .ok (.iload 4, 2) := by decide +kernel
theorem d_Wh_bitsFree_37 : decode c_Wh_bitsFree 37 = .ok (.istore_n 1, 1) := by decide +kernel
theorem d_Wh_bitsFree_38 : decode c_Wh_bitsFree 38 = .ok (.iinc 4 1, 3) := by decide +kernel
theorem d_Wh_bitsFree_41 : decode c_Wh_bitsFree 41 = .ok (.goto (-24), 3) := by decide +kernel
theorem d_Wh_bitsFree_44 : decode c_Wh_bitsFree 44 = .ok (.iload_n 1, 1) := by decide +kernel
theorem d_Wh_bitsFree_45 : decode c_Wh_bitsFree 45 = .ok (.ireturn, 1) := by decide +kernel
set_option maxRecDepth 100000 in
set_option maxHeartbeats 16000000 in
/-- bitsFree -/
theorem g_Wh_bitsFree (l : Launch) (G : va_G) (k : Nat → ClassId) (h0 : Nat) (s0 sl : Nat) (dd : Nat) (LL : Nat) (nn9 : Nat) (gg : Nat → Nat) (zz : Int) (hw : whO LL nn9 gg zz) (hn1 : 1 ≤ nn9) : CG l y_Wh_bitsFree c_Wh_bitsFree 5 (some .int) { frames := 1, cells := 0, slots := 0, locals := 21 } [.ref h0] G k s0 sl [(h0, .inr (2, [.ref dd, .int (nI nn9), .int (sgI zz)])), (dd, .inl (k 0, LL, .inl (fun i => nI (gg i))))] (fun (u : Nat) => some (.int (nI u))) (fun (u : Nat) => u ≤ 30 ∧ gg (nn9 - 1) * 2 ^ u < 2147483648 ∧ 1073741824 ≤ gg (nn9 - 1) * 2 ^ u) (fun (u : Nat) => [(h0, .inr (2, [.ref dd, .int (nI nn9), .int (sgI zz)])), (dd, .inl (k 0, LL, .inl (fun i => nI (gg i))))]) (fun (u : Nat) => 0) (fun (u : Nat) => 0) 0 0 := by
  refine met_startG (by decide) (Nat.le_of_ble_eq_true rfl) ?_
  intro p e s m below meth c C K hA hsz S ls hl
  generalize va_A [(h0, .inr (2, [.ref dd, .int (nI nn9), .int (sgI zz)])), (dd, .inl (k 0, LL, .inl (fun i => nI (gg i))))] s0 = A at hA S ⊢
  have hx := C.1
  have hb := C.2.1
  have hl : lv_has ls 5 [(0, .ref h0)] := hl
  have hw0 := hw
  obtain ⟨w1, w2, w3, w4, w5, w6⟩ := hw0
  have htop : 0 < gg (nn9 - 1) := by omega
  have hdt := w4 (nn9 - 1)
  refine lv_iconst (v := 0) hx hb d_Wh_bitsFree_0 (by decide) ?_
  refine lv_istore_n (lv' := [(1, .int 0), (0, .ref h0)]) hx hb d_Wh_bitsFree_1 rfl hl (by decide) rfl (fun ls hl => ?_)
  refine lv_aload_n hx hb d_Wh_bitsFree_2 rfl (lv_at hl 1 rfl) ?_
  refine lv_aload_n hx hb d_Wh_bitsFree_3 rfl (lv_at hl 1 rfl) ?_
  refine r_get C K S 0 rfl rfl clOk_Wh 1 (by decide) wf_Wh_29 (v := .int (nI nn9)) rfl d_Wh_bitsFree_4 ?_
  refine lv_iconst (v := 1) hx hb d_Wh_bitsFree_7 (by decide) ?_
  refine z_isub (x := nI nn9) (y := 1) (v := nI (nn9 - 1)) hx hb d_Wh_bitsFree_8 (pk_sub (a := nn9) (b := 1) (by omega)) ?_
  refine q_back0 (wi := [(h0, .inr (2, [.ref dd, .int (nI nn9), .int (sgI zz)])), (dd, .inl (k 0, LL, .inl (fun i => nI (gg i))))]) (wr := []) S hA [0, 1] [] rfl rfl (by decide) (by decide) (va_runV (As := [.int (nI (nn9 - 1))]) (rest := []) ⟨hx, hb, C.2.2.1, C.2.2.2.1, C.2.2.2.2.1⟩ (g_Wh_digit l G k h0 _ _ (nn9 - 1) dd LL nn9 (sgI zz) gg (wh_ra hw) (by omega) (by omega)) (k_virt (n := 1) C wc_Wh_digit rfl rfl wz_Wh wm_Wh_64 wn_Wh_digit ws_Wh_digit (by decide +kernel) ⟨(Nat.le_of_ble_eq_true rfl), (Nat.le_of_ble_eq_true rfl)⟩) (pr_nowVG K S [0, 1] (by decide) rfl 0 rfl rfl) rfl rfl hl.1 rfl (lv_room (Nat.le_of_ble_eq_true rfl)) d_Wh_bitsFree_9 ⟨(Nat.zero_le _), (Nat.zero_le _)⟩) (fun u1 H locs hw2 S => ?_)
  have S : Sw G A s.heap _ _ [(h0, .inr (2, [.ref dd, .int (nI nn9), .int (sgI zz)])), (dd, .inl (k 0, LL, .inl (fun i => nI (gg i))))] := S
  have hw2 : True := hw2
  show W p l e _ s m _ below meth c H locs _ _ _ (F0 m 12 ls [.int (nI (dgN nn9 gg (nn9 - 1)))])
  rw [show dgN nn9 gg (nn9 - 1) = gg (nn9 - 1) by unfold dgN; rw [if_pos (by omega)]]
  refine lv_i2l (v := lN (gg (nn9 - 1))) hx hb d_Wh_bitsFree_12 (show (nI (gg (nn9 - 1)) : Int32).toInt64 = _ from nI_l (n := (gg (nn9 - 1))) (by omega)) ?_
  refine lv_lstore_n (lv' := [(2, .long (lN (gg (nn9 - 1)))), (1, .int 0), (0, .ref h0)]) hx hb d_Wh_bitsFree_13 rfl hl (by decide) rfl (fun ls hl => ?_)
  refine lv_iconst (v := 1) hx hb d_Wh_bitsFree_14 (by decide) ?_
  refine lv_istore (lv' := [(4, .int 1), (2, .long (lN (gg (nn9 - 1)))), (1, .int 0), (0, .ref h0)]) hx hb d_Wh_bitsFree_15 hl (by decide) rfl (fun ls hl => ?_)
  have lp : ∀ d9, ∀ (f8 : Nat), ∀ (i9 : Nat), (31 - i9) < d9 → (1 ≤ i9) → (i9 ≤ 31) → (f8 < i9) → (gg (nn9 - 1) * 2 ^ f8 < 2147483648) → (∀ j, f8 < j → j < i9 → 2147483648 ≤ gg (nn9 - 1) * 2 ^ j) → ∀ (H : Heap) (locs : List Loc), Sw G A s.heap H locs [(h0, .inr (2, [.ref dd, .int (nI nn9), .int (sgI zz)])), (dd, .inl (k 0, LL, .inl (fun i => nI (gg i))))] → ∀ ls : Array Slot, lv_has ls 5 [(1, .int (nI f8)), (4, .int (nI i9)), (2, .long (lN (gg (nn9 - 1)))), (0, .ref h0)] → W p l e { frames := 1, cells := 0, slots := 0, locals := 21 } s m [Value.ref h0].toArray below meth c H locs 0 0 (MQ below (va_Qg (fun (u : Nat) => some (.int (nI u))) (fun (u : Nat) => u ≤ 30 ∧ gg (nn9 - 1) * 2 ^ u < 2147483648 ∧ 1073741824 ≤ gg (nn9 - 1) * 2 ^ u) (Pog G k A (fun (u : Nat) => [(h0, .inr (2, [.ref dd, .int (nI nn9), .int (sgI zz)])), (dd, .inl (k 0, LL, .inl (fun i => nI (gg i))))]) s0 sl (fun (u : Nat) => 0) (fun (u : Nat) => 0)) A) [Value.ref h0].toArray s 0 0 A) (F0 m 17 ls []) := by
    intro d9
    induction d9 with
    | zero => intro f8 i9 hm; exact absurd hm (Nat.not_lt_zero _)
    | succ d9 ih_lp =>
      intro f8 i9 hm hi hi2 hf hfB hno H locs S ls hl
      have hp9 : gg (nn9 - 1) * 2 ^ i9 ≤ 2147483647 * 2 ^ 31 := Nat.mul_le_mul (by omega) (Nat.pow_le_pow_right (by decide) (by omega))
      refine lv_iload hx hb d_Wh_bitsFree_17 (lv_at hl 1 rfl) ?_
      refine lv_bipush (v := 31) hx hb d_Wh_bitsFree_19 (by decide) ?_
      refine z_icmp_ge (a := i9) (b := 31) (tgt := 44) hx hb d_Wh_bitsFree_21 (by decide) (by omega) (by omega) (fun hc3 => ?_) (fun hc3 => ?_)
      · refine lv_iload_n hx hb d_Wh_bitsFree_44 rfl (lv_at hl 0 rfl) ?_
        exact q_iret C K hsz rfl f8 rfl (show f8 ≤ 30 ∧ gg (nn9 - 1) * 2 ^ f8 < 2147483648 ∧ 1073741824 ≤ gg (nn9 - 1) * 2 ^ f8 from ⟨by omega, hfB, bf_end htop hfB (fun j q1 q2 => hno j q1 (by omega)) (by omega)⟩) (S.sub [0, 1] (by decide) rfl) d_Wh_bitsFree_45 (Nat.zero_le _) (Nat.zero_le _) (Nat.zero_le _) (Nat.zero_le _)
      · refine lv_lload_n hx hb d_Wh_bitsFree_24 rfl (lv_at hl 2 rfl) ?_
        refine lv_iload hx hb d_Wh_bitsFree_25 (lv_at hl 1 rfl) ?_
        refine lv_lshl (v := lN (gg (nn9 - 1) * 2 ^ i9)) hx hb d_Wh_bitsFree_27 (lN_shlj (by omega) (by omega)) ?_
        refine lv_ldc2 (v := 2147483648) hx hb C.2.2.2.1 (C.2.2.2.2.1 _ wk_Wh_93) d_Wh_bitsFree_28 ?_
        refine W.lcmp hx hb d_Wh_bitsFree_31 ?_
        refine z_lif_ge (a := (gg (nn9 - 1) * 2 ^ i9)) (b := 2147483648) (tgt := 38) hx hb d_Wh_bitsFree_32 (by decide) (by omega) (by omega) (fun hc4 => ?_) (fun hc4 => ?_)
        · refine lv_iinc (v := nI (i9 + 1)) (lv' := [(4, .int (nI (i9 + 1))), (1, .int (nI f8)), (2, .long (lN (gg (nn9 - 1)))), (0, .ref h0)]) hx hb d_Wh_bitsFree_38 hl (k := 1) rfl (show nI i9 + Int32.ofInt 1 = nI (i9 + 1) from (nI_add i9 1).trans (congrArg nI (by omega))) (by decide) rfl (fun ls hl => ?_)
          refine lv_goto (tgt := 17) hx hb d_Wh_bitsFree_41 (by decide) ?_
          exact ih_lp f8 (i9 + 1) (by omega) (by omega) (by omega) (by omega) (by omega) (fun j q1 q2 => (Decidable.em (j = i9)).elim (fun q => by rw [q]; omega) (fun q => hno j q1 (by omega))) _ _ (S.sub [0, 1] (by decide) rfl) ls (lv_sub hl [1, 0, 2, 3] rfl)
        · refine lv_iload hx hb d_Wh_bitsFree_35 (lv_at hl 1 rfl) ?_
          refine lv_istore_n (lv' := [(1, .int (nI i9)), (4, .int (nI i9)), (2, .long (lN (gg (nn9 - 1)))), (0, .ref h0)]) hx hb d_Wh_bitsFree_37 rfl hl (by decide) rfl (fun ls hl => ?_)
          refine lv_iinc (v := nI (i9 + 1)) (lv' := [(4, .int (nI (i9 + 1))), (1, .int (nI i9)), (2, .long (lN (gg (nn9 - 1)))), (0, .ref h0)]) hx hb d_Wh_bitsFree_38 hl (k := 1) rfl (show nI i9 + Int32.ofInt 1 = nI (i9 + 1) from (nI_add i9 1).trans (congrArg nI (by omega))) (by decide) rfl (fun ls hl => ?_)
          refine lv_goto (tgt := 17) hx hb d_Wh_bitsFree_41 (by decide) ?_
          exact ih_lp i9 (i9 + 1) (by omega) (by omega) (by omega) (by omega) (by omega) (fun j q1 q2 => by omega) _ _ (S.sub [0, 1] (by decide) rfl) ls (lv_sub hl [1, 0, 2, 3] rfl)
  exact lp _ 0 1 (Nat.lt_succ_self _) (by omega) (by omega) (by omega) (by rw [Nat.pow_zero]; omega) (fun j q1 q2 => by omega) _ _ (S.sub [0, 1] (by decide) rfl) ls (lv_sub hl [2, 0, 1, 3] rfl)
theorem d_Wh_shift_0 : decode c_Wh_shift 0 = .ok (.aload_n 0, 1) := by decide +kernel
theorem d_Wh_shift_1 : decode c_Wh_shift 1 = .ok (.aload_n 1, 1) := by decide +kernel
theorem d_Wh_shift_2 : decode c_Wh_shift 2 = .ok (.getfield 29, 3) := by decide +kernel
theorem d_Wh_shift_5 : decode c_Wh_shift 5 = .ok (.iconst 1, 1) := by decide +kernel
theorem d_Wh_shift_6 : decode c_Wh_shift 6 = .ok (.iadd, 1) := by decide +kernel
theorem d_Wh_shift_7 : decode c_Wh_shift 7 = .ok (.invokevirtual 32, 3) := by decide +kernel
theorem d_Wh_shift_10 : decode c_Wh_shift 10 = .ok (.lconst 0, 1) := by decide +kernel
theorem d_Wh_shift_11 : decode c_Wh_shift 11 = .ok (.lstore_n 3, 1) := by decide +kernel
theorem d_Wh_shift_12 : decode c_Wh_shift 12 = .ok (.iconst 0, 1) := by decide +kernel
theorem d_Wh_shift_13 : decode c_Wh_shift 13 = .ok (.istore 5, 2) := by decide +kernel
theorem d_Wh_shift_15 : decode c_Wh_shift 15 = .ok (.iload 5, 2) := by decide +kernel
theorem d_Wh_shift_17 : decode c_Wh_shift 17 = .ok (.aload_n 1, 1) := by decide +kernel
theorem d_Wh_shift_18 : decode c_Wh_shift 18 = .ok (.getfield 29, 3) := by decide +kernel
theorem d_Wh_shift_21 : decode c_Wh_shift 21 = .ok (.if_icmp .ge 40, 3) := by decide +kernel
theorem d_Wh_shift_24 : decode c_Wh_shift 24 = .ok (.lload_n 3, 1) := by decide +kernel
theorem d_Wh_shift_25 : decode c_Wh_shift 25 = .ok (.aload_n 1, 1) := by decide +kernel
theorem d_Wh_shift_26 : decode c_Wh_shift 26 = .ok (.getfield 9, 3) := by decide +kernel
theorem d_Wh_shift_29 : decode c_Wh_shift 29 = .ok (.iload 5, 2) := by decide +kernel
theorem d_Wh_shift_31 : decode c_Wh_shift 31 = .ok (.iaload, 1) := by decide +kernel
theorem d_Wh_shift_32 : decode c_Wh_shift 32 = .ok (.i2l, 1) := by decide +kernel
theorem d_Wh_shift_33 : decode c_Wh_shift 33 = .ok (.iload_n 2, 1) := by decide +kernel
theorem d_Wh_shift_34 : decode c_Wh_shift 34 = .ok (.lshl, 1) := by decide +kernel
theorem d_Wh_shift_35 : decode c_Wh_shift 35 = .ok (.lor, 1) := by decide +kernel
theorem d_Wh_shift_36 : decode c_Wh_shift 36 = .ok (.lstore_n 3, 1) := by decide +kernel
theorem d_Wh_shift_37 : decode c_Wh_shift 37 = .ok (.aload_n 0, 1) := by decide +kernel
theorem d_Wh_shift_38 : decode c_Wh_shift 38 = .ok (.getfield 9, 3) := by decide +kernel
theorem d_Wh_shift_41 : decode c_Wh_shift 41 = .ok (.iload 5, 2) := by decide +kernel
theorem d_Wh_shift_43 : decode c_Wh_shift 43 = .ok (.lload_n 3, 1) := by decide +kernel
theorem d_Wh_shift_44 : decode c_Wh_shift 44 = .ok (.ldc2_w 23, 3) := by decide +kernel
theorem d_Wh_shift_47 : decode c_Wh_shift 47 = .ok (.land, 1) := by decide +kernel
theorem d_Wh_shift_48 : decode c_Wh_shift 48 = .ok (.l2i, 1) := by decide +kernel
theorem d_Wh_shift_49 : decode c_Wh_shift 49 = .ok (.iastore, 1) := by decide +kernel
theorem d_Wh_shift_50 : decode c_Wh_shift 50 = .ok (.lload_n 3, 1) := by decide +kernel
theorem d_Wh_shift_51 : decode c_Wh_shift 51 = .ok (.bipush 31, 2) := by decide +kernel
theorem d_Wh_shift_53 : decode c_Wh_shift 53 = .ok (.lshr, 1) := by decide +kernel
theorem d_Wh_shift_54 : decode c_Wh_shift 54 = .ok (.lstore_n 3, 1) := by decide +kernel
theorem d_Wh_shift_55 : decode c_Wh_shift 55 = .ok (.iinc 5 1, 3) := by decide +kernel
theorem d_Wh_shift_58 : decode c_Wh_shift 58 = .ok (.goto (-43), 3) := by decide +kernel
theorem d_Wh_shift_61 : decode c_Wh_shift 61 = .ok (.aload_n 0, 1) := by decide +kernel
theorem d_Wh_shift_62 : decode c_Wh_shift 62 = .ok (.getfield 9, 3) := by decide +kernel
theorem d_Wh_shift_65 : decode c_Wh_shift 65 = .ok (.aload_n 1, 1) := by decide +kernel
theorem d_Wh_shift_66 : decode c_Wh_shift 66 = .ok (.getfield 29, 3) := by decide +kernel
theorem d_Wh_shift_69 : decode c_Wh_shift 69 = .ok (.lload_n 3, 1) := by decide +kernel
theorem d_Wh_shift_70 : decode c_Wh_shift 70 = .ok (.l2i, 1) := by decide +kernel
theorem d_Wh_shift_71 : decode c_Wh_shift 71 = .ok (.iastore, 1) := by decide +kernel
theorem d_Wh_shift_72 : decode c_Wh_shift 72 = .ok (.return_, 1) := by decide +kernel
set_option maxRecDepth 100000 in
set_option maxHeartbeats 16000000 in
/-- shift -/
theorem g_Wh_shift (l : Launch) (G : va_G) (k : Nat → ClassId) (h0 : Nat) (s0 sl : Nat) (by9 : Nat) (sg9 : Int32) (Mx : Nat) (dd : Nat) (LL : Nat) (xs9 : Int32) (ys9 : Int32) (gg : Nat → Nat) (ho : Nat) (do9 : Nat) (Lo : Nat) (no9 : Nat) (go : Nat → Nat) (zo : Int) (hr : raO LL gg) (hv : whO Lo no9 go zo) (hby : by9 ≤ 30) (hm1 : 2 * (no9 + 1) ≤ Mx) (hm2 : LL ≤ Mx) (hm3 : Mx ≤ 400) : CG l y_Wh_shift c_Wh_shift 6 none { frames := 3, cells := Mx, slots := 2 * Mx, locals := 104 } [.ref h0, .ref ho, .int (nI by9)] G k s0 sl [(h0, .inr (2, [.ref dd, .int xs9, .int ys9])), (dd, .inl (k 0, LL, .inl (fun i => nI (gg i)))), (ho, .inr (2, [.ref do9, .int (nI no9), .int sg9])), (do9, .inl (k 0, Lo, .inl (fun i => nI (go i))))] (fun (u : Nat × Nat × (Nat → Nat)) => none) (fun (u : Nat × Nat × (Nat → Nat)) => raO u.2.1 u.2.2 ∧ LL ≤ u.2.1 ∧ no9 + 1 ≤ u.2.1 ∧ u.2.1 ≤ Mx ∧ vl 2147483648 u.2.2 (no9 + 1) = zo.natAbs * 2 ^ by9) (fun (u : Nat × Nat × (Nat → Nat)) => [(h0, .inr (2, [.ref u.1, .int xs9, .int ys9])), (u.1, .inl (k 0, u.2.1, .inl (fun i => nI (u.2.2 i)))), (ho, .inr (2, [.ref do9, .int (nI no9), .int sg9])), (do9, .inl (k 0, Lo, .inl (fun i => nI (go i))))]) (fun (u : Nat × Nat × (Nat → Nat)) => u.2.1 - LL) (fun (u : Nat × Nat × (Nat → Nat)) => 2 * (u.2.1 - LL)) Mx (2 * Mx) := by
  refine met_startG (by decide) (Nat.le_of_ble_eq_true rfl) ?_
  intro p e s m below meth c C K hA hsz S ls hl
  generalize va_A [(h0, .inr (2, [.ref dd, .int xs9, .int ys9])), (dd, .inl (k 0, LL, .inl (fun i => nI (gg i)))), (ho, .inr (2, [.ref do9, .int (nI no9), .int sg9])), (do9, .inl (k 0, Lo, .inl (fun i => nI (go i))))] s0 = A at hA S ⊢
  have hx := C.1
  have hb := C.2.1
  have hl : lv_has ls 6 [(0, .ref h0), (1, .ref ho), (2, .int (nI by9))] := hl
  have hr0 := hr
  obtain ⟨r1, r2, r3⟩ := hr0
  have hv0 := hv
  obtain ⟨v1, v2, v3, v4, v5, v6⟩ := hv0
  refine lv_aload_n hx hb d_Wh_shift_0 rfl (lv_at hl 0 rfl) ?_
  refine lv_aload_n hx hb d_Wh_shift_1 rfl (lv_at hl 1 rfl) ?_
  refine r_get C K S 2 rfl rfl clOk_Wh 1 (by decide) wf_Wh_29 (v := .int (nI no9)) rfl d_Wh_shift_2 ?_
  refine lv_iconst (v := 1) hx hb d_Wh_shift_5 (by decide) ?_
  refine z_iadd (x := nI no9) (y := 1) (v := nI (no9 + 1)) hx hb d_Wh_shift_6 (nI_add no9 1) ?_
  refine q_back0 (wi := [(h0, .inr (2, [.ref dd, .int xs9, .int ys9])), (dd, .inl (k 0, LL, .inl (fun i => nI (gg i))))]) (wr := [(ho, .inr (2, [.ref do9, .int (nI no9), .int sg9])), (do9, .inl (k 0, Lo, .inl (fun i => nI (go i))))]) S hA [0, 1] [2, 3] rfl rfl (by decide) (by decide) (va_runV (As := [.int (nI (no9 + 1))]) (rest := []) ⟨hx, hb, C.2.2.1, C.2.2.2.1, C.2.2.2.2.1⟩ (g_Wh_room l G k h0 _ _ (no9 + 1) Mx dd LL xs9 ys9 gg (by first | exact hr | exact wh_ra hw) (by first | assumption | omega) (by first | assumption | omega) (by first | assumption | omega)) (k_virt (n := 1) C wc_Wh_room rfl rfl wz_Wh wm_Wh_32 wn_Wh_room ws_Wh_room (by decide +kernel) ⟨(Nat.le_of_ble_eq_true rfl), (Nat.le_of_ble_eq_true rfl)⟩) (pr_nowVG K S [0, 1] (by decide) rfl 0 rfl rfl) rfl rfl hl.1 rfl (lv_room (Nat.le_of_ble_eq_true rfl)) d_Wh_shift_7 ⟨(show 0 + Mx ≤ Mx from by omega), (show 0 + (2 * Mx) ≤ 2 * Mx from by omega)⟩) (fun w8 H locs hw1 S => ?_)
  have S : Sw G A s.heap _ _ [(ho, .inr (2, [.ref do9, .int (nI no9), .int sg9])), (do9, .inl (k 0, Lo, .inl (fun i => nI (go i)))), (h0, .inr (2, [.ref w8.1, .int xs9, .int ys9])), (w8.1, .inl (k 0, w8.2.1, .inl (fun i => nI (w8.2.2 i))))] := S
  have hw1 : raO w8.2.1 w8.2.2 ∧ LL ≤ w8.2.1 ∧ (no9 + 1) ≤ w8.2.1 ∧ w8.2.1 ≤ Mx ∧ ∀ i, i < LL → w8.2.2 i = gg i := hw1
  show W p l e _ s m _ below meth c H locs _ _ _ (F0 m 10 ls [])
  obtain ⟨⟨s1, s2, s3⟩, s4, s5, s6, s7⟩ := hw1
  refine lv_lconst (v := 0) hx hb d_Wh_shift_10 (by decide) ?_
  refine lv_lstore_n (lv' := [(3, .long 0), (0, .ref h0), (1, .ref ho), (2, .int (nI by9))]) hx hb d_Wh_shift_11 rfl hl (by decide) rfl (fun ls hl => ?_)
  refine lv_iconst (v := 0) hx hb d_Wh_shift_12 (by decide) ?_
  refine lv_istore (lv' := [(5, .int 0), (3, .long 0), (0, .ref h0), (1, .ref ho), (2, .int (nI by9))]) hx hb d_Wh_shift_13 hl (by decide) rfl (fun ls hl => ?_)
  have lp : ∀ d9, ∀ (i9 : Nat), ∀ (c8 : Nat), ∀ (T8 : Nat → Nat), (no9 - i9) < d9 → (i9 ≤ no9) → (vl 2147483648 T8 i9 + c8 * 2147483648 ^ i9 = vl 2147483648 go i9 * 2 ^ by9) → (c8 < 2 ^ by9) → (∀ i, T8 i < 2147483648) → ∀ (H : Heap) (locs : List Loc), Sw G A s.heap H locs [(ho, .inr (2, [.ref do9, .int (nI no9), .int sg9])), (do9, .inl (k 0, Lo, .inl (fun i => nI (go i)))), (h0, .inr (2, [.ref w8.1, .int xs9, .int ys9])), (w8.1, .inl (k 0, w8.2.1, .inl (fun i => nI (T8 i))))] → ∀ ls : Array Slot, lv_has ls 6 [(3, .long (lN c8)), (5, .int (nI i9)), (0, .ref h0), (1, .ref ho), (2, .int (nI by9))] → W p l e { frames := 3, cells := Mx, slots := 2 * Mx, locals := 104 } s m [Value.ref h0, Value.ref ho, Value.int (nI by9)].toArray below meth c H locs (0 + (w8.2.1 - LL)) (0 + (2 * (w8.2.1 - LL))) (MQ below (va_Qg (fun (u : Nat × Nat × (Nat → Nat)) => none) (fun (u : Nat × Nat × (Nat → Nat)) => raO u.2.1 u.2.2 ∧ LL ≤ u.2.1 ∧ no9 + 1 ≤ u.2.1 ∧ u.2.1 ≤ Mx ∧ vl 2147483648 u.2.2 (no9 + 1) = zo.natAbs * 2 ^ by9) (Pog G k A (fun (u : Nat × Nat × (Nat → Nat)) => [(h0, .inr (2, [.ref u.1, .int xs9, .int ys9])), (u.1, .inl (k 0, u.2.1, .inl (fun i => nI (u.2.2 i)))), (ho, .inr (2, [.ref do9, .int (nI no9), .int sg9])), (do9, .inl (k 0, Lo, .inl (fun i => nI (go i))))]) s0 sl (fun (u : Nat × Nat × (Nat → Nat)) => u.2.1 - LL) (fun (u : Nat × Nat × (Nat → Nat)) => 2 * (u.2.1 - LL))) A) [Value.ref h0, Value.ref ho, Value.int (nI by9)].toArray s Mx (2 * Mx) A) (F0 m 15 ls []) := by
    intro d9
    induction d9 with
    | zero => intro i9 c8 T8 hm; exact absurd hm (Nat.not_lt_zero _)
    | succ d9 ih_lp =>
      intro i9 c8 T8 hm hi hI hc8 hD H locs S ls hl
      have d3 := v4 i9
      have q7 := sf_lt d3 hby hc8
      have q6 := Nat.pow_le_pow_right (n := 2) (by decide) hby
      refine lv_iload hx hb d_Wh_shift_15 (lv_at hl 1 rfl) ?_
      refine lv_aload_n hx hb d_Wh_shift_17 rfl (lv_at hl 3 rfl) ?_
      refine r_get C K S 0 rfl rfl clOk_Wh 1 (by decide) wf_Wh_29 (v := .int (nI no9)) rfl d_Wh_shift_18 ?_
      refine z_icmp_ge (a := i9) (b := no9) (tgt := 61) hx hb d_Wh_shift_21 (by decide) (by omega) (by omega) (fun hc2 => ?_) (fun hc2 => ?_)
      · refine lv_aload_n hx hb d_Wh_shift_61 rfl (lv_at hl 2 rfl) ?_
        refine r_get C K S 2 rfl rfl clOk_Wh 0 (by decide) wf_Wh_9 (v := .ref w8.1) rfl d_Wh_shift_62 ?_
        refine lv_aload_n hx hb d_Wh_shift_65 rfl (lv_at hl 3 rfl) ?_
        refine r_get C K S 0 rfl rfl clOk_Wh 1 (by decide) wf_Wh_29 (v := .int (nI no9)) rfl d_Wh_shift_66 ?_
        refine lv_lload_n hx hb d_Wh_shift_69 rfl (lv_at hl 0 rfl) ?_
        refine lv_l2i (v := nI c8) hx hb d_Wh_shift_70 (lN_i c8) ?_
        refine r_iast C K S 3 rfl (i := nI no9) (x := nI c8) (show vp_in (nI no9) _ from vp_in_nI (n := no9) (by omega) (by omega)) (f' := fun i => nI (va_up T8 no9 c8 i)) (ws' := [(ho, .inr (2, [.ref do9, .int (nI no9), .int sg9])), (do9, .inl (k 0, Lo, .inl (fun i => nI (go i)))), (h0, .inr (2, [.ref w8.1, .int xs9, .int ys9])), (w8.1, .inl (k 0, w8.2.1, .inl (fun i => nI (va_up T8 no9 c8 i))))]) (show upd _ (nI no9 : Int32).toNatClampNeg (nI c8) = _ from upd_nI T8 (j := no9) (by omega) c8) rfl d_Wh_shift_71 (fun H locs S => ?_)
        exact q_vret C K hsz (w8.1, w8.2.1, va_up T8 no9 c8) (show raO w8.2.1 (va_up T8 no9 c8) ∧ LL ≤ w8.2.1 ∧ no9 + 1 ≤ w8.2.1 ∧ w8.2.1 ≤ Mx ∧ vl 2147483648 (va_up T8 no9 c8) (no9 + 1) = zo.natAbs * 2 ^ by9 from ⟨⟨s1, s2, up31 hD (by have := Nat.pow_le_pow_right (n := 2) (by decide) hby; omega)⟩, s4, s5, s6, by have e : i9 = no9 := (by omega); rw [e] at hI; show vl 2147483648 (va_up T8 no9 c8) (no9 + 1) = _; rw [vl_put, hI, v6]⟩) (S.sub [2, 3, 0, 1] (by decide) rfl) d_Wh_shift_72 (show 0 + (w8.2.1 - LL) ≤ w8.2.1 - LL from by omega) (show 0 + (2 * (w8.2.1 - LL)) ≤ 2 * (w8.2.1 - LL) from by omega) (show 0 + (w8.2.1 - LL) ≤ Mx from by omega) (show 0 + (2 * (w8.2.1 - LL)) ≤ 2 * Mx from by omega)
      · refine lv_lload_n hx hb d_Wh_shift_24 rfl (lv_at hl 0 rfl) ?_
        refine lv_aload_n hx hb d_Wh_shift_25 rfl (lv_at hl 3 rfl) ?_
        refine r_get C K S 0 rfl rfl clOk_Wh 0 (by decide) wf_Wh_9 (v := .ref do9) rfl d_Wh_shift_26 ?_
        refine lv_iload hx hb d_Wh_shift_29 (lv_at hl 1 rfl) ?_
        refine r_iald C K S 1 rfl (i := nI i9) (show vp_in (nI i9) _ from vp_in_nI (n := i9) (by omega) (by omega)) (v := nI (go i9)) (by rw [nI_clamp (by omega)]) d_Wh_shift_31 ?_
        refine lv_i2l (v := lN (go i9)) hx hb d_Wh_shift_32 (show (nI (go i9) : Int32).toInt64 = _ from nI_l (n := (go i9)) (by omega)) ?_
        refine lv_iload_n hx hb d_Wh_shift_33 rfl (lv_at hl 4 rfl) ?_
        refine lv_lshl (v := lN (go i9 * 2 ^ by9)) hx hb d_Wh_shift_34 (lN_shlj (by omega) (by omega)) ?_
        refine z_lor (v := lN (c8 + go i9 * 2 ^ by9)) hx hb d_Wh_shift_35 (lN_orj hc8 (by omega)) ?_
        refine lv_lstore_n (lv' := [(3, .long (lN (c8 + go i9 * 2 ^ by9))), (5, .int (nI i9)), (0, .ref h0), (1, .ref ho), (2, .int (nI by9))]) hx hb d_Wh_shift_36 rfl hl (by decide) rfl (fun ls hl => ?_)
        refine lv_aload_n hx hb d_Wh_shift_37 rfl (lv_at hl 2 rfl) ?_
        refine r_get C K S 2 rfl rfl clOk_Wh 0 (by decide) wf_Wh_9 (v := .ref w8.1) rfl d_Wh_shift_38 ?_
        refine lv_iload hx hb d_Wh_shift_41 (lv_at hl 1 rfl) ?_
        refine lv_lload_n hx hb d_Wh_shift_43 rfl (lv_at hl 0 rfl) ?_
        refine lv_ldc2 (v := 2147483647) hx hb C.2.2.2.1 (C.2.2.2.2.1 _ wk_Wh_23) d_Wh_shift_44 ?_
        refine z_land (v := lN ((c8 + go i9 * 2 ^ by9) % 2147483648)) hx hb d_Wh_shift_47 (lN_and31 (by omega)) ?_
        refine lv_l2i (v := nI ((c8 + go i9 * 2 ^ by9) % 2147483648)) hx hb d_Wh_shift_48 (lN_i ((c8 + go i9 * 2 ^ by9) % 2147483648)) ?_
        refine r_iast C K S 3 rfl (i := nI i9) (x := nI ((c8 + go i9 * 2 ^ by9) % 2147483648)) (show vp_in (nI i9) _ from vp_in_nI (n := i9) (by omega) (by omega)) (f' := fun i => nI (va_up T8 i9 ((c8 + go i9 * 2 ^ by9) % 2147483648) i)) (ws' := [(ho, .inr (2, [.ref do9, .int (nI no9), .int sg9])), (do9, .inl (k 0, Lo, .inl (fun i => nI (go i)))), (h0, .inr (2, [.ref w8.1, .int xs9, .int ys9])), (w8.1, .inl (k 0, w8.2.1, .inl (fun i => nI (va_up T8 i9 ((c8 + go i9 * 2 ^ by9) % 2147483648) i))))]) (show upd _ (nI i9 : Int32).toNatClampNeg (nI ((c8 + go i9 * 2 ^ by9) % 2147483648)) = _ from upd_nI T8 (j := i9) (by omega) ((c8 + go i9 * 2 ^ by9) % 2147483648)) rfl d_Wh_shift_49 (fun H locs S => ?_)
        refine lv_lload_n hx hb d_Wh_shift_50 rfl (lv_at hl 0 rfl) ?_
        refine lv_bipush (v := 31) hx hb d_Wh_shift_51 (by decide) ?_
        refine lv_lshr (v := lN ((c8 + go i9 * 2 ^ by9) / 2147483648)) hx hb d_Wh_shift_53 (lN_shr31 (by omega)) ?_
        refine lv_lstore_n (lv' := [(3, .long (lN ((c8 + go i9 * 2 ^ by9) / 2147483648))), (5, .int (nI i9)), (0, .ref h0), (1, .ref ho), (2, .int (nI by9))]) hx hb d_Wh_shift_54 rfl hl (by decide) rfl (fun ls hl => ?_)
        refine lv_iinc (v := nI (i9 + 1)) (lv' := [(5, .int (nI (i9 + 1))), (3, .long (lN ((c8 + go i9 * 2 ^ by9) / 2147483648))), (0, .ref h0), (1, .ref ho), (2, .int (nI by9))]) hx hb d_Wh_shift_55 hl (k := 1) rfl (show nI i9 + Int32.ofInt 1 = nI (i9 + 1) from (nI_add i9 1).trans (congrArg nI (by omega))) (by decide) rfl (fun ls hl => ?_)
        refine lv_goto (tgt := 15) hx hb d_Wh_shift_58 (by decide) ?_
        exact ih_lp (i9 + 1) ((c8 + go i9 * 2 ^ by9) / 2147483648) (va_up T8 i9 ((c8 + go i9 * 2 ^ by9) % 2147483648)) (by omega) (by omega) (sf_step hI) q7.1 (up31 hD (by omega)) _ _ (S.sub [0, 1, 2, 3] (by decide) rfl) ls (lv_sub hl [1, 0, 2, 3, 4] rfl)
  exact lp _ 0 0 w8.2.2 (Nat.lt_succ_self _) (by omega) (by simp [vl]) (Nat.two_pow_pos by9) s3 _ _ (S.sub [0, 1, 2, 3] (by decide) rfl) ls (lv_sub hl [1, 0, 2, 3, 4] rfl)
theorem d_Wh_guess_0 : decode c_Wh_guess 0 = .ok (.aload_n 1, 1) := by decide +kernel
theorem d_Wh_guess_1 : decode c_Wh_guess 1 = .ok (.getfield 9, 3) := by decide +kernel
theorem d_Wh_guess_4 : decode c_Wh_guess 4 = .ok (.iload_n 2, 1) := by decide +kernel
theorem d_Wh_guess_5 : decode c_Wh_guess 5 = .ok (.iconst 1, 1) := by decide +kernel
theorem d_Wh_guess_6 : decode c_Wh_guess 6 = .ok (.isub, 1) := by decide +kernel
theorem d_Wh_guess_7 : decode c_Wh_guess 7 = .ok (.iaload, 1) := by decide +kernel
theorem d_Wh_guess_8 : decode c_Wh_guess 8 = .ok (.i2l, 1) := by decide +kernel
theorem d_Wh_guess_9 : decode c_Wh_guess 9 = .ok (.lstore 4, 2) := by decide +kernel
theorem d_Wh_guess_11 : decode c_Wh_guess 11 = .ok (.lload 4, 2) := by decide +kernel
theorem d_Wh_guess_13 : decode c_Wh_guess 13 = .ok (.lconst 0, 1) := by decide +kernel
theorem d_Wh_guess_14 : decode c_Wh_guess 14 = .ok (.lcmp, 1) := by decide +kernel
theorem d_Wh_guess_15 : decode c_Wh_guess 15 = .ok (.ifCond .ne 5, 3) := by decide +kernel
theorem d_Wh_guess_18 : decode c_Wh_guess 18 = .ok (.lconst 0, 1) := by decide +kernel
theorem d_Wh_guess_19 : decode c_Wh_guess 19 = .ok (.lreturn, 1) := by decide +kernel
theorem d_Wh_guess_20 : decode c_Wh_guess 20 = .ok (.aload_n 0, 1) := by decide +kernel
theorem d_Wh_guess_21 : decode c_Wh_guess 21 = .ok (.getfield 9, 3) := by decide +kernel
theorem d_Wh_guess_24 : decode c_Wh_guess 24 = .ok (.iload_n 3, 1) := by decide +kernel
theorem d_Wh_guess_25 : decode c_Wh_guess 25 = .ok (.iload_n 2, 1) := by decide +kernel
theorem d_Wh_guess_26 : decode c_Wh_guess 26 = .ok (.iadd, 1) := by decide +kernel
theorem d_Wh_guess_27 : decode c_Wh_guess 27 = .ok (.iaload, 1) := by decide +kernel
theorem d_Wh_guess_28 : decode c_Wh_guess 28 = .ok (.i2l, 1) := by decide +kernel
theorem d_Wh_guess_29 : decode c_Wh_guess 29 = .ok (.bipush 31, 2) := by decide +kernel
theorem d_Wh_guess_31 : decode c_Wh_guess 31 = .ok (.lshl, 1) := by decide +kernel
theorem d_Wh_guess_32 : decode c_Wh_guess 32 = .ok (.aload_n 0, 1) := by decide +kernel
theorem d_Wh_guess_33 : decode c_Wh_guess 33 = .ok (.getfield 9, 3) := by decide +kernel
theorem d_Wh_guess_36 : decode c_Wh_guess 36 = .ok (.iload_n 3, 1) := by decide +kernel
theorem d_Wh_guess_37 : decode c_Wh_guess 37 = .ok (.iload_n 2, 1) := by decide +kernel
theorem d_Wh_guess_38 : decode c_Wh_guess 38 = .ok (.iadd, 1) := by decide +kernel
theorem d_Wh_guess_39 : decode c_Wh_guess 39 = .ok (.iconst 1, 1) := by decide +kernel
theorem d_Wh_guess_40 : decode c_Wh_guess 40 = .ok (.isub, 1) := by decide +kernel
theorem d_Wh_guess_41 : decode c_Wh_guess 41 = .ok (.iaload, 1) := by decide +kernel
theorem d_Wh_guess_42 : decode c_Wh_guess 42 = .ok (.i2l, 1) := by decide +kernel
theorem d_Wh_guess_43 : decode c_Wh_guess 43 = .ok (.lor, 1) := by decide +kernel
theorem d_Wh_guess_44 : decode c_Wh_guess 44 = .ok (.lstore 6, 2) := by decide +kernel
theorem d_Wh_guess_46 : decode c_Wh_guess 46 = .ok (.lload 6, 2) := by decide +kernel
theorem d_Wh_guess_48 : decode c_Wh_guess 48 = .ok (.lload 4, 2) := by decide +kernel
theorem d_Wh_guess_50 : decode c_Wh_guess 50 = .ok (.ldiv, 1) := by decide +kernel
theorem d_Wh_guess_51 : decode c_Wh_guess 51 = .ok (.lstore 8, 2) := by decide +kernel
theorem d_Wh_guess_53 : decode c_Wh_guess 53 = .ok (.lload 6, 2) := by decide +kernel
theorem d_Wh_guess_55 : decode c_Wh_guess 55 = .ok (.lload 4, 2) := by decide +kernel
theorem d_Wh_guess_57 : decode c_Wh_guess 57 = .ok (.lrem, 1) := by decide +kernel
theorem d_Wh_guess_58 : decode c_Wh_guess 58 = .ok (.lstore 10, 2) := by decide +kernel
theorem d_Wh_guess_60 : decode c_Wh_guess 60 = .ok (.aload_n 1, 1) := by decide +kernel
theorem d_Wh_guess_61 : decode c_Wh_guess 61 = .ok (.getfield 9, 3) := by decide +kernel
theorem d_Wh_guess_64 : decode c_Wh_guess 64 = .ok (.iload_n 2, 1) := by decide +kernel
theorem d_Wh_guess_65 : decode c_Wh_guess 65 = .ok (.iconst 2, 1) := by decide +kernel
theorem d_Wh_guess_66 : decode c_Wh_guess 66 = .ok (.isub, 1) := by decide +kernel
theorem d_Wh_guess_67 : decode c_Wh_guess 67 = .ok (.iaload, 1) := by decide +kernel
theorem d_Wh_guess_68 : decode c_Wh_guess 68 = .ok (.i2l, 1) := by decide +kernel
theorem d_Wh_guess_69 : decode c_Wh_guess 69 = .ok (.lstore 12, 2) := by decide +kernel
theorem d_Wh_guess_71 : decode c_Wh_guess 71 = .ok (.iconst 0, 1) := by decide +kernel
theorem d_Wh_guess_72 : decode c_Wh_guess 72 = .ok (.istore 14, 2) := by decide +kernel
theorem d_Wh_guess_74 : decode c_Wh_guess 74 = .ok (.iload 14, 2) := by decide +kernel
theorem d_Wh_guess_76 : decode c_Wh_guess 76 = .ok (.iconst 2, 1) := by decide +kernel
theorem d_Wh_guess_77 : decode c_Wh_guess 77 = .ok (.if_icmp .ge 66, 3) := by decide +kernel
theorem d_Wh_guess_80 : decode c_Wh_guess 80 = .ok (.lload 10, 2) := by decide +kernel
theorem d_Wh_guess_82 : decode c_Wh_guess 82 = .ok (.ldc2_w 93, 3) := by decide +kernel
theorem d_Wh_guess_85 : decode c_Wh_guess 85 = .ok (.lcmp, 1) := by decide +kernel
theorem d_Wh_guess_86 : decode c_Wh_guess 86 = .ok (.ifCond .ge 57, 3) := by decide +kernel
theorem d_Wh_guess_89 : decode c_Wh_guess 89 = .ok (.lload 8, 2) := by decide +kernel
theorem d_Wh_guess_91 : decode c_Wh_guess 91 = .ok (.ldc2_w 93, 3) := by decide +kernel
theorem d_Wh_guess_94 : decode c_Wh_guess 94 = .ok (.lcmp, 1) := by decide +kernel
theorem d_Wh_guess_95 : decode c_Wh_guess 95 = .ok (.ifCond .ge 29, 3) := by decide +kernel
theorem d_Wh_guess_98 : decode c_Wh_guess 98 = .ok (.lload 8, 2) := by decide +kernel
theorem d_Wh_guess_100 : decode c_Wh_guess 100 = .ok (.lload 12, 2) := by decide +kernel
theorem d_Wh_guess_102 : decode c_Wh_guess 102 = .ok (.lmul, 1) := by decide +kernel
theorem d_Wh_guess_103 : decode c_Wh_guess 103 = .ok (.lload 10, 2) := by decide +kernel
theorem d_Wh_guess_105 : decode c_Wh_guess 105 = .ok (.bipush 31, 2) := by decide +kernel
theorem d_Wh_guess_107 : decode c_Wh_guess 107 = .ok (.lshl, 1) := by decide +kernel
theorem d_Wh_guess_108 : decode c_Wh_guess 108 = .ok (.aload_n 0, 1) := by decide +kernel
theorem d_Wh_guess_109 : decode c_Wh_guess 109 = .ok (.getfield 9, 3) := by decide +kernel
theorem d_Wh_guess_112 : decode c_Wh_guess 112 = .ok (.iload_n 3, 1) := by decide +kernel
theorem d_Wh_guess_113 : decode c_Wh_guess 113 = .ok (.iload_n 2, 1) := by decide +kernel
theorem d_Wh_guess_114 : decode c_Wh_guess 114 = .ok (.iadd, 1) := by decide +kernel
theorem d_Wh_guess_115 : decode c_Wh_guess 115 = .ok (.iconst 2, 1) := by decide +kernel
theorem d_Wh_guess_116 : decode c_Wh_guess 116 = .ok (.isub, 1) := by decide +kernel
theorem d_Wh_guess_117 : decode c_Wh_guess 117 = .ok (.iaload, 1) := by decide +kernel
theorem d_Wh_guess_118 : decode c_Wh_guess 118 = .ok (.i2l, 1) := by decide +kernel
theorem d_Wh_guess_119 : decode c_Wh_guess 119 = .ok (.lor, 1) := by decide +kernel
theorem d_Wh_guess_120 : decode c_Wh_guess 120 = .ok (.lcmp, 1) := by decide +kernel
theorem d_Wh_guess_121 : decode c_Wh_guess 121 = .ok (.ifCond .le 16, 3) := by decide +kernel
theorem d_Wh_guess_124 : decode c_Wh_guess 124 = .ok (.lload 8, 2) := by decide +kernel
theorem d_Wh_guess_126 : decode c_Wh_guess 126 = .ok (.lconst 1, 1) := by decide +kernel
theorem d_Wh_guess_127 : decode c_Wh_guess 127 = .ok (.lsub, 1) := by decide +kernel
theorem d_Wh_guess_128 : decode c_Wh_guess 128 = .ok (.lstore 8, 2) := by decide +kernel
theorem d_Wh_guess_130 : decode c_Wh_guess 130 = .ok (.lload 10, 2) := by decide +kernel
theorem d_Wh_guess_132 : decode c_Wh_guess 132 = .ok (.lload 4, 2) := by decide +kernel
theorem d_Wh_guess_134 : decode c_Wh_guess 134 = .ok (.ladd, 1) := by decide +kernel
theorem d_Wh_guess_135 : decode c_Wh_guess 135 = .ok (.lstore 10, 2) := by decide +kernel
theorem d_Wh_guess_137 : decode c_Wh_guess 137 = .ok (.iinc 14 1, 3) := by decide +kernel
theorem d_Wh_guess_140 : decode c_Wh_guess 140 = .ok (.goto (-66), 3) := by decide +kernel
theorem d_Wh_guess_143 : decode c_Wh_guess 143 = .ok (.lload 8, 2) := by decide +kernel
theorem d_Wh_guess_145 : decode c_Wh_guess 145 = .ok (.lreturn, 1) := by decide +kernel
set_option maxRecDepth 100000 in
set_option maxHeartbeats 16000000 in
/-- guess -/
theorem g_Wh_guess (l : Launch) (G : va_G) (k : Nat → ClassId) (h0 : Nat) (s0 sl : Nat) (wi9 : Nat) (by9 : Nat) (dd : Nat) (LL : Nat) (xs9 : Int32) (ys9 : Int32) (gg : Nat → Nat) (hu : Nat) (du : Nat) (Lu : Nat) (xu9 : Int32) (yu9 : Int32) (gu : Nat → Nat) (hr : raO LL gg) (hru : raO Lu gu) (hw2 : 2 ≤ wi9) (hwu : wi9 ≤ Lu) (hbl : by9 + wi9 < LL) (htop : 1073741824 ≤ gu (wi9 - 1)) (hWV : vl 2147483648 (fun i => gg (by9 + i)) (wi9 + 1) < 2147483648 * vl 2147483648 gu wi9) : CG l y_Wh_guess c_Wh_guess 15 (some .long) { frames := 0, cells := 0, slots := 0, locals := 0 } [.ref h0, .ref hu, .int (nI wi9), .int (nI by9)] G k s0 sl [(h0, .inr (2, [.ref dd, .int xs9, .int ys9])), (dd, .inl (k 0, LL, .inl (fun i => nI (gg i)))), (hu, .inr (2, [.ref du, .int xu9, .int yu9])), (du, .inl (k 0, Lu, .inl (fun i => nI (gu i))))] (fun (u : Nat) => some (.long (lN u))) (fun (u : Nat) => vl 2147483648 (fun i => gg (by9 + i)) (wi9 + 1) / vl 2147483648 gu wi9 ≤ u ∧ u ≤ vl 2147483648 (fun i => gg (by9 + i)) (wi9 + 1) / vl 2147483648 gu wi9 + 1 ∧ u ≤ 2147483648) (fun (u : Nat) => [(h0, .inr (2, [.ref dd, .int xs9, .int ys9])), (dd, .inl (k 0, LL, .inl (fun i => nI (gg i)))), (hu, .inr (2, [.ref du, .int xu9, .int yu9])), (du, .inl (k 0, Lu, .inl (fun i => nI (gu i))))]) (fun (u : Nat) => 0) (fun (u : Nat) => 0) 0 0 := by
  refine met_startG (by decide) (Nat.le_of_ble_eq_true rfl) ?_
  intro p e s m below meth c C K hA hsz S ls hl
  generalize va_A [(h0, .inr (2, [.ref dd, .int xs9, .int ys9])), (dd, .inl (k 0, LL, .inl (fun i => nI (gg i)))), (hu, .inr (2, [.ref du, .int xu9, .int yu9])), (du, .inl (k 0, Lu, .inl (fun i => nI (gu i))))] s0 = A at hA S ⊢
  have hx := C.1
  have hb := C.2.1
  have hl : lv_has ls 15 [(0, .ref h0), (1, .ref hu), (2, .int (nI wi9)), (3, .int (nI by9))] := hl
  have hr0 := hr
  obtain ⟨r1, r2, r3⟩ := hr0
  obtain ⟨u1, u2, u3⟩ := hru
  have a1 := u3 (wi9 - 1)
  have a2 := u3 (wi9 - 2)
  have a3 := r3 (by9 + wi9)
  have a4 := r3 (by9 + wi9 - 1)
  have a5 := r3 (by9 + wi9 - 2)
  obtain ⟨P9, hP9⟩ : ∃ x9, x9 = 2147483648 ^ (wi9 - 2) := ⟨_, rfl⟩
  have hP0 : 0 < P9 := by rw [hP9]; exact Nat.pow_pos (by decide)
  obtain ⟨z9, hz9⟩ : ∃ x9, x9 = vl 2147483648 (fun i => gg (by9 + i)) (wi9 - 2) := ⟨_, rfl⟩
  have hzP : z9 < P9 := by rw [hz9, hP9]; exact vl_lt _ (fun i _ => r3 _)
  obtain ⟨e9, he9⟩ : ∃ x9, x9 = vl 2147483648 gu (wi9 - 2) := ⟨_, rfl⟩
  have heP : e9 < P9 := by rw [he9, hP9]; exact vl_lt _ (fun i _ => u3 i)
  have eW : vl 2147483648 (fun i => gg (by9 + i)) (wi9 + 1) = ((gg (by9 + wi9) * 2147483648 + gg (by9 + wi9 - 1)) * 2147483648 + gg (by9 + wi9 - 2)) * P9 + z9 := by rw [vl_hi3 hw2, hP9, hz9, show by9 + (wi9 - 1) = by9 + wi9 - 1 by omega, show by9 + (wi9 - 2) = by9 + wi9 - 2 by omega]
  have eV : vl 2147483648 gu wi9 = (gu (wi9 - 1) * 2147483648 + gu (wi9 - 2)) * P9 + e9 := by rw [vl_hi hw2, hP9, he9]
  obtain ⟨q9, hq9⟩ : ∃ x9, x9 = vl 2147483648 (fun i => gg (by9 + i)) (wi9 + 1) / vl 2147483648 gu wi9 := ⟨_, rfl⟩
  have hqB : q9 < 2147483648 := by rw [hq9]; exact Nat.div_lt_of_lt_mul (by rw [Nat.mul_comm (vl 2147483648 gu wi9)]; exact hWV)
  have hq8 : q9 = (((gg (by9 + wi9) * 2147483648 + gg (by9 + wi9 - 1)) * 2147483648 + gg (by9 + wi9 - 2)) * P9 + z9) / ((gu (wi9 - 1) * 2147483648 + gu (wi9 - 2)) * P9 + e9) := by rw [hq9, eW, eV]
  have hR9 : ((gg (by9 + wi9) * 2147483648 + gg (by9 + wi9 - 1)) * 2147483648 + gg (by9 + wi9 - 2)) * P9 + z9 < 2147483648 * ((gu (wi9 - 1) * 2147483648 + gu (wi9 - 2)) * P9 + e9) := by rw [← eW, ← eV]; exact hWV
  have g0 := gs_0 (by omega) a1 a2 hP0 heP a5 hzP hR9 hq8
  refine lv_aload_n hx hb d_Wh_guess_0 rfl (lv_at hl 1 rfl) ?_
  refine r_get C K S 2 rfl rfl clOk_Wh 0 (by decide) wf_Wh_9 (v := .ref du) rfl d_Wh_guess_1 ?_
  refine lv_iload_n hx hb d_Wh_guess_4 rfl (lv_at hl 2 rfl) ?_
  refine lv_iconst (v := 1) hx hb d_Wh_guess_5 (by decide) ?_
  refine z_isub (x := nI wi9) (y := 1) (v := nI (wi9 - 1)) hx hb d_Wh_guess_6 (pk_sub (a := wi9) (b := 1) (by omega)) ?_
  refine r_iald C K S 3 rfl (i := nI (wi9 - 1)) (show vp_in (nI (wi9 - 1)) _ from vp_in_nI (n := (wi9 - 1)) (by omega) (by omega)) (v := nI (gu (wi9 - 1))) (by rw [nI_clamp (by omega)]) d_Wh_guess_7 ?_
  refine lv_i2l (v := lN (gu (wi9 - 1))) hx hb d_Wh_guess_8 (show (nI (gu (wi9 - 1)) : Int32).toInt64 = _ from nI_l (n := (gu (wi9 - 1))) (by omega)) ?_
  refine lv_lstore (lv' := [(4, .long (lN (gu (wi9 - 1)))), (0, .ref h0), (1, .ref hu), (2, .int (nI wi9)), (3, .int (nI by9))]) hx hb d_Wh_guess_9 hl (by decide) rfl (fun ls hl => ?_)
  refine lv_lload hx hb d_Wh_guess_11 (lv_at hl 0 rfl) ?_
  refine lv_lconst (v := 0) hx hb d_Wh_guess_13 (by decide) ?_
  refine W.lcmp hx hb d_Wh_guess_14 ?_
  refine z_lif_ne (a := (gu (wi9 - 1))) (b := 0) (tgt := 20) hx hb d_Wh_guess_15 (by decide) (by omega) (by omega) (fun hc1 => ?_) (fun hc1 => False.elim (by omega))
  refine lv_aload_n hx hb d_Wh_guess_20 rfl (lv_at hl 1 rfl) ?_
  refine r_get C K S 0 rfl rfl clOk_Wh 0 (by decide) wf_Wh_9 (v := .ref dd) rfl d_Wh_guess_21 ?_
  refine lv_iload_n hx hb d_Wh_guess_24 rfl (lv_at hl 4 rfl) ?_
  refine lv_iload_n hx hb d_Wh_guess_25 rfl (lv_at hl 3 rfl) ?_
  refine z_iadd (x := nI by9) (y := nI wi9) (v := nI (by9 + wi9)) hx hb d_Wh_guess_26 (nI_add by9 wi9) ?_
  refine r_iald C K S 1 rfl (i := nI (by9 + wi9)) (show vp_in (nI (by9 + wi9)) _ from vp_in_nI (n := (by9 + wi9)) (by omega) (by omega)) (v := nI (gg (by9 + wi9))) (by rw [nI_clamp (by omega)]) d_Wh_guess_27 ?_
  refine lv_i2l (v := lN (gg (by9 + wi9))) hx hb d_Wh_guess_28 (show (nI (gg (by9 + wi9)) : Int32).toInt64 = _ from nI_l (n := (gg (by9 + wi9))) (by omega)) ?_
  refine lv_bipush (v := 31) hx hb d_Wh_guess_29 (by decide) ?_
  refine lv_lshl (v := lN (gg (by9 + wi9) * 2147483648)) hx hb d_Wh_guess_31 (lN_shl31 (by omega)) ?_
  refine lv_aload_n hx hb d_Wh_guess_32 rfl (lv_at hl 1 rfl) ?_
  refine r_get C K S 0 rfl rfl clOk_Wh 0 (by decide) wf_Wh_9 (v := .ref dd) rfl d_Wh_guess_33 ?_
  refine lv_iload_n hx hb d_Wh_guess_36 rfl (lv_at hl 4 rfl) ?_
  refine lv_iload_n hx hb d_Wh_guess_37 rfl (lv_at hl 3 rfl) ?_
  refine z_iadd (x := nI by9) (y := nI wi9) (v := nI (by9 + wi9)) hx hb d_Wh_guess_38 (nI_add by9 wi9) ?_
  refine lv_iconst (v := 1) hx hb d_Wh_guess_39 (by decide) ?_
  refine z_isub (x := nI (by9 + wi9)) (y := 1) (v := nI (by9 + wi9 - 1)) hx hb d_Wh_guess_40 (pk_sub (a := (by9 + wi9)) (b := 1) (by omega)) ?_
  refine r_iald C K S 1 rfl (i := nI (by9 + wi9 - 1)) (show vp_in (nI (by9 + wi9 - 1)) _ from vp_in_nI (n := (by9 + wi9 - 1)) (by omega) (by omega)) (v := nI (gg (by9 + wi9 - 1))) (by rw [nI_clamp (by omega)]) d_Wh_guess_41 ?_
  refine lv_i2l (v := lN (gg (by9 + wi9 - 1))) hx hb d_Wh_guess_42 (show (nI (gg (by9 + wi9 - 1)) : Int32).toInt64 = _ from nI_l (n := (gg (by9 + wi9 - 1))) (by omega)) ?_
  refine z_lor (v := lN (gg (by9 + wi9) * 2147483648 + gg (by9 + wi9 - 1))) hx hb d_Wh_guess_43 (lN_or31 a4 (by omega)) ?_
  refine lv_lstore (lv' := [(6, .long (lN (gg (by9 + wi9) * 2147483648 + gg (by9 + wi9 - 1)))), (4, .long (lN (gu (wi9 - 1)))), (0, .ref h0), (1, .ref hu), (2, .int (nI wi9)), (3, .int (nI by9))]) hx hb d_Wh_guess_44 hl (by decide) rfl (fun ls hl => ?_)
  refine lv_lload hx hb d_Wh_guess_46 (lv_at hl 0 rfl) ?_
  refine lv_lload hx hb d_Wh_guess_48 (lv_at hl 1 rfl) ?_
  refine z_ldiv (v := lN ((gg (by9 + wi9) * 2147483648 + gg (by9 + wi9 - 1)) / gu (wi9 - 1))) hx hb d_Wh_guess_50 (ln_ne (by omega) (by omega)) (pk_lDiv (by omega) (by omega) (by omega)) ?_
  refine lv_lstore (lv' := [(8, .long (lN ((gg (by9 + wi9) * 2147483648 + gg (by9 + wi9 - 1)) / gu (wi9 - 1)))), (6, .long (lN (gg (by9 + wi9) * 2147483648 + gg (by9 + wi9 - 1)))), (4, .long (lN (gu (wi9 - 1)))), (0, .ref h0), (1, .ref hu), (2, .int (nI wi9)), (3, .int (nI by9))]) hx hb d_Wh_guess_51 hl (by decide) rfl (fun ls hl => ?_)
  refine lv_lload hx hb d_Wh_guess_53 (lv_at hl 1 rfl) ?_
  refine lv_lload hx hb d_Wh_guess_55 (lv_at hl 2 rfl) ?_
  refine z_lrem (v := lN ((gg (by9 + wi9) * 2147483648 + gg (by9 + wi9 - 1)) % gu (wi9 - 1))) hx hb d_Wh_guess_57 (ln_ne (by omega) (by omega)) (pk_lRem (by omega) (by omega) (by omega)) ?_
  refine lv_lstore (lv' := [(10, .long (lN ((gg (by9 + wi9) * 2147483648 + gg (by9 + wi9 - 1)) % gu (wi9 - 1)))), (8, .long (lN ((gg (by9 + wi9) * 2147483648 + gg (by9 + wi9 - 1)) / gu (wi9 - 1)))), (6, .long (lN (gg (by9 + wi9) * 2147483648 + gg (by9 + wi9 - 1)))), (4, .long (lN (gu (wi9 - 1)))), (0, .ref h0), (1, .ref hu), (2, .int (nI wi9)), (3, .int (nI by9))]) hx hb d_Wh_guess_58 hl (by decide) rfl (fun ls hl => ?_)
  refine lv_aload_n hx hb d_Wh_guess_60 rfl (lv_at hl 5 rfl) ?_
  refine r_get C K S 2 rfl rfl clOk_Wh 0 (by decide) wf_Wh_9 (v := .ref du) rfl d_Wh_guess_61 ?_
  refine lv_iload_n hx hb d_Wh_guess_64 rfl (lv_at hl 6 rfl) ?_
  refine lv_iconst (v := 2) hx hb d_Wh_guess_65 (by decide) ?_
  refine z_isub (x := nI wi9) (y := 2) (v := nI (wi9 - 2)) hx hb d_Wh_guess_66 (pk_sub (a := wi9) (b := 2) (by omega)) ?_
  refine r_iald C K S 3 rfl (i := nI (wi9 - 2)) (show vp_in (nI (wi9 - 2)) _ from vp_in_nI (n := (wi9 - 2)) (by omega) (by omega)) (v := nI (gu (wi9 - 2))) (by rw [nI_clamp (by omega)]) d_Wh_guess_67 ?_
  refine lv_i2l (v := lN (gu (wi9 - 2))) hx hb d_Wh_guess_68 (show (nI (gu (wi9 - 2)) : Int32).toInt64 = _ from nI_l (n := (gu (wi9 - 2))) (by omega)) ?_
  refine lv_lstore (lv' := [(12, .long (lN (gu (wi9 - 2)))), (10, .long (lN ((gg (by9 + wi9) * 2147483648 + gg (by9 + wi9 - 1)) % gu (wi9 - 1)))), (8, .long (lN ((gg (by9 + wi9) * 2147483648 + gg (by9 + wi9 - 1)) / gu (wi9 - 1)))), (6, .long (lN (gg (by9 + wi9) * 2147483648 + gg (by9 + wi9 - 1)))), (4, .long (lN (gu (wi9 - 1)))), (0, .ref h0), (1, .ref hu), (2, .int (nI wi9)), (3, .int (nI by9))]) hx hb d_Wh_guess_69 hl (by decide) rfl (fun ls hl => ?_)
  refine lv_iconst (v := 0) hx hb d_Wh_guess_71 (by decide) ?_
  refine lv_istore (lv' := [(14, .int 0), (12, .long (lN (gu (wi9 - 2)))), (10, .long (lN ((gg (by9 + wi9) * 2147483648 + gg (by9 + wi9 - 1)) % gu (wi9 - 1)))), (8, .long (lN ((gg (by9 + wi9) * 2147483648 + gg (by9 + wi9 - 1)) / gu (wi9 - 1)))), (6, .long (lN (gg (by9 + wi9) * 2147483648 + gg (by9 + wi9 - 1)))), (4, .long (lN (gu (wi9 - 1)))), (0, .ref h0), (1, .ref hu), (2, .int (nI wi9)), (3, .int (nI by9))]) hx hb d_Wh_guess_72 hl (by decide) rfl (fun ls hl => ?_)
  have lp : ∀ d9, ∀ (t8 : Nat), ∀ (l8 : Nat), ∀ (i9 : Nat), (2 - i9) < d9 → (i9 ≤ 2) → (gsO (gu (wi9 - 1)) (gu (wi9 - 2)) (gg (by9 + wi9) * 2147483648 + gg (by9 + wi9 - 1)) (gg (by9 + wi9 - 2)) q9 i9 t8 l8) → ∀ (H : Heap) (locs : List Loc), Sw G A s.heap H locs [(h0, .inr (2, [.ref dd, .int xs9, .int ys9])), (dd, .inl (k 0, LL, .inl (fun i => nI (gg i)))), (hu, .inr (2, [.ref du, .int xu9, .int yu9])), (du, .inl (k 0, Lu, .inl (fun i => nI (gu i))))] → ∀ ls : Array Slot, lv_has ls 15 [(8, .long (lN t8)), (10, .long (lN l8)), (14, .int (nI i9)), (12, .long (lN (gu (wi9 - 2)))), (6, .long (lN (gg (by9 + wi9) * 2147483648 + gg (by9 + wi9 - 1)))), (4, .long (lN (gu (wi9 - 1)))), (0, .ref h0), (1, .ref hu), (2, .int (nI wi9)), (3, .int (nI by9))] → W p l e { frames := 0, cells := 0, slots := 0, locals := 0 } s m [Value.ref h0, Value.ref hu, Value.int (nI wi9), Value.int (nI by9)].toArray below meth c H locs 0 0 (MQ below (va_Qg (fun (u : Nat) => some (.long (lN u))) (fun (u : Nat) => vl 2147483648 (fun i => gg (by9 + i)) (wi9 + 1) / vl 2147483648 gu wi9 ≤ u ∧ u ≤ vl 2147483648 (fun i => gg (by9 + i)) (wi9 + 1) / vl 2147483648 gu wi9 + 1 ∧ u ≤ 2147483648) (Pog G k A (fun (u : Nat) => [(h0, .inr (2, [.ref dd, .int xs9, .int ys9])), (dd, .inl (k 0, LL, .inl (fun i => nI (gg i)))), (hu, .inr (2, [.ref du, .int xu9, .int yu9])), (du, .inl (k 0, Lu, .inl (fun i => nI (gu i))))]) s0 sl (fun (u : Nat) => 0) (fun (u : Nat) => 0)) A) [Value.ref h0, Value.ref hu, Value.int (nI wi9), Value.int (nI by9)].toArray s 0 0 A) (F0 m 74 ls []) := by
    intro d9
    induction d9 with
    | zero => intro t8 l8 i9 hm; exact absurd hm (Nat.not_lt_zero _)
    | succ d9 ih_lp =>
      intro t8 l8 i9 hm hi hg H locs S ls hl
      have hg3 := hg.2.2.1
      have hl8 : l8 ≤ (gg (by9 + wi9) * 2147483648 + gg (by9 + wi9 - 1)) := by have := hg.1; omega
      have hm8 : t8 * gu (wi9 - 2) ≤ 2147483649 * 2147483647 := Nat.mul_le_mul hg3 (by omega)
      refine lv_iload hx hb d_Wh_guess_74 (lv_at hl 2 rfl) ?_
      refine lv_iconst (v := 2) hx hb d_Wh_guess_76 (by decide) ?_
      refine z_icmp_ge (a := i9) (b := 2) (tgt := 143) hx hb d_Wh_guess_77 (by decide) (by omega) (by omega) (fun hc2 => ?_) (fun hc2 => ?_)
      · refine lv_lload hx hb d_Wh_guess_143 (lv_at hl 0 rfl) ?_
        exact q_lret C K hsz t8 rfl (show vl 2147483648 (fun i => gg (by9 + i)) (wi9 + 1) / vl 2147483648 gu wi9 ≤ t8 ∧ t8 ≤ vl 2147483648 (fun i => gg (by9 + i)) (wi9 + 1) / vl 2147483648 gu wi9 + 1 ∧ t8 ≤ 2147483648 from (by have k9 := gs_end (by omega) a2 heP hq8 hqB hP0 hg (by omega); rw [← hq9]; exact k9)) (S.sub [0, 1, 2, 3] (by decide) rfl) d_Wh_guess_145 (Nat.zero_le _) (Nat.zero_le _) (Nat.zero_le _) (Nat.zero_le _)
      · refine lv_lload hx hb d_Wh_guess_80 (lv_at hl 1 rfl) ?_
        refine lv_ldc2 (v := 2147483648) hx hb C.2.2.2.1 (C.2.2.2.2.1 _ wk_Wh_93) d_Wh_guess_82 ?_
        refine W.lcmp hx hb d_Wh_guess_85 ?_
        refine z_lif_ge (a := l8) (b := 2147483648) (tgt := 143) hx hb d_Wh_guess_86 (by decide) (by omega) (by omega) (fun hc3 => ?_) (fun hc3 => ?_)
        · refine lv_lload hx hb d_Wh_guess_143 (lv_at hl 0 rfl) ?_
          exact q_lret C K hsz t8 rfl (show vl 2147483648 (fun i => gg (by9 + i)) (wi9 + 1) / vl 2147483648 gu wi9 ≤ t8 ∧ t8 ≤ vl 2147483648 (fun i => gg (by9 + i)) (wi9 + 1) / vl 2147483648 gu wi9 + 1 ∧ t8 ≤ 2147483648 from (by have k9 := gs_end (by omega) a2 heP hq8 hqB hP0 hg (by omega); rw [← hq9]; exact k9)) (S.sub [0, 1, 2, 3] (by decide) rfl) d_Wh_guess_145 (Nat.zero_le _) (Nat.zero_le _) (Nat.zero_le _) (Nat.zero_le _)
        · refine lv_lload hx hb d_Wh_guess_89 (lv_at hl 0 rfl) ?_
          refine lv_ldc2 (v := 2147483648) hx hb C.2.2.2.1 (C.2.2.2.2.1 _ wk_Wh_93) d_Wh_guess_91 ?_
          refine W.lcmp hx hb d_Wh_guess_94 ?_
          refine z_lif_ge (a := t8) (b := 2147483648) (tgt := 124) hx hb d_Wh_guess_95 (by decide) (by omega) (by omega) (fun hc4 => ?_) (fun hc4 => ?_)
          · refine lv_lload hx hb d_Wh_guess_124 (lv_at hl 0 rfl) ?_
            refine lv_lconst (v := 1) hx hb d_Wh_guess_126 (by decide) ?_
            refine z_lsub (x := lN t8) (y := 1) (v := lN (t8 - 1)) hx hb d_Wh_guess_127 (lN_sub (a := t8) (b := 1) (gs_dec hP0 hzP hq8 hqB hg (by omega) (by omega)).2) ?_
            refine lv_lstore (lv' := [(8, .long (lN (t8 - 1))), (10, .long (lN l8)), (14, .int (nI i9)), (12, .long (lN (gu (wi9 - 2)))), (6, .long (lN (gg (by9 + wi9) * 2147483648 + gg (by9 + wi9 - 1)))), (4, .long (lN (gu (wi9 - 1)))), (0, .ref h0), (1, .ref hu), (2, .int (nI wi9)), (3, .int (nI by9))]) hx hb d_Wh_guess_128 hl (by decide) rfl (fun ls hl => ?_)
            refine lv_lload hx hb d_Wh_guess_130 (lv_at hl 1 rfl) ?_
            refine lv_lload hx hb d_Wh_guess_132 (lv_at hl 5 rfl) ?_
            refine z_ladd (x := lN l8) (y := lN (gu (wi9 - 1))) (v := lN (l8 + (gu (wi9 - 1)))) hx hb d_Wh_guess_134 (lN_add l8 (gu (wi9 - 1))) ?_
            refine lv_lstore (lv' := [(10, .long (lN (l8 + (gu (wi9 - 1))))), (8, .long (lN (t8 - 1))), (14, .int (nI i9)), (12, .long (lN (gu (wi9 - 2)))), (6, .long (lN (gg (by9 + wi9) * 2147483648 + gg (by9 + wi9 - 1)))), (4, .long (lN (gu (wi9 - 1)))), (0, .ref h0), (1, .ref hu), (2, .int (nI wi9)), (3, .int (nI by9))]) hx hb d_Wh_guess_135 hl (by decide) rfl (fun ls hl => ?_)
            refine lv_iinc (v := nI (i9 + 1)) (lv' := [(14, .int (nI (i9 + 1))), (10, .long (lN (l8 + (gu (wi9 - 1))))), (8, .long (lN (t8 - 1))), (12, .long (lN (gu (wi9 - 2)))), (6, .long (lN (gg (by9 + wi9) * 2147483648 + gg (by9 + wi9 - 1)))), (4, .long (lN (gu (wi9 - 1)))), (0, .ref h0), (1, .ref hu), (2, .int (nI wi9)), (3, .int (nI by9))]) hx hb d_Wh_guess_137 hl (k := 2) rfl (show nI i9 + Int32.ofInt 1 = nI (i9 + 1) from (nI_add i9 1).trans (congrArg nI (by omega))) (by decide) rfl (fun ls hl => ?_)
            refine lv_goto (tgt := 74) hx hb d_Wh_guess_140 (by decide) ?_
            exact ih_lp (t8 - 1) (l8 + gu (wi9 - 1)) (i9 + 1) (by omega) (by omega) (gs_dec hP0 hzP hq8 hqB hg (by omega) (by omega)).1 _ _ (S.sub [0, 1, 2, 3] (by decide) rfl) ls (lv_sub hl [2, 1, 0, 3, 4, 5, 6, 7, 8, 9] rfl)
          · refine lv_lload hx hb d_Wh_guess_98 (lv_at hl 0 rfl) ?_
            refine lv_lload hx hb d_Wh_guess_100 (lv_at hl 3 rfl) ?_
            refine z_lmul (x := lN t8) (y := lN (gu (wi9 - 2))) (v := lN (t8 * (gu (wi9 - 2)))) hx hb d_Wh_guess_102 (lN_mul t8 (gu (wi9 - 2))) ?_
            refine lv_lload hx hb d_Wh_guess_103 (lv_at hl 1 rfl) ?_
            refine lv_bipush (v := 31) hx hb d_Wh_guess_105 (by decide) ?_
            refine lv_lshl (v := lN (l8 * 2147483648)) hx hb d_Wh_guess_107 (lN_shl31 (by omega)) ?_
            refine lv_aload_n hx hb d_Wh_guess_108 rfl (lv_at hl 6 rfl) ?_
            refine r_get C K S 0 rfl rfl clOk_Wh 0 (by decide) wf_Wh_9 (v := .ref dd) rfl d_Wh_guess_109 ?_
            refine lv_iload_n hx hb d_Wh_guess_112 rfl (lv_at hl 9 rfl) ?_
            refine lv_iload_n hx hb d_Wh_guess_113 rfl (lv_at hl 8 rfl) ?_
            refine z_iadd (x := nI by9) (y := nI wi9) (v := nI (by9 + wi9)) hx hb d_Wh_guess_114 (nI_add by9 wi9) ?_
            refine lv_iconst (v := 2) hx hb d_Wh_guess_115 (by decide) ?_
            refine z_isub (x := nI (by9 + wi9)) (y := 2) (v := nI (by9 + wi9 - 2)) hx hb d_Wh_guess_116 (pk_sub (a := (by9 + wi9)) (b := 2) (by omega)) ?_
            refine r_iald C K S 1 rfl (i := nI (by9 + wi9 - 2)) (show vp_in (nI (by9 + wi9 - 2)) _ from vp_in_nI (n := (by9 + wi9 - 2)) (by omega) (by omega)) (v := nI (gg (by9 + wi9 - 2))) (by rw [nI_clamp (by omega)]) d_Wh_guess_117 ?_
            refine lv_i2l (v := lN (gg (by9 + wi9 - 2))) hx hb d_Wh_guess_118 (show (nI (gg (by9 + wi9 - 2)) : Int32).toInt64 = _ from nI_l (n := (gg (by9 + wi9 - 2))) (by omega)) ?_
            refine z_lor (v := lN (l8 * 2147483648 + gg (by9 + wi9 - 2))) hx hb d_Wh_guess_119 (lN_or31 a5 (by omega)) ?_
            refine W.lcmp hx hb d_Wh_guess_120 ?_
            refine z_lif_le (a := (t8 * (gu (wi9 - 2)))) (b := (l8 * 2147483648 + gg (by9 + wi9 - 2))) (tgt := 137) hx hb d_Wh_guess_121 (by decide) (by omega) (by omega) (fun hc5 => ?_) (fun hc5 => ?_)
            · refine lv_iinc (v := nI (i9 + 1)) (lv' := [(14, .int (nI (i9 + 1))), (8, .long (lN t8)), (10, .long (lN l8)), (12, .long (lN (gu (wi9 - 2)))), (6, .long (lN (gg (by9 + wi9) * 2147483648 + gg (by9 + wi9 - 1)))), (4, .long (lN (gu (wi9 - 1)))), (0, .ref h0), (1, .ref hu), (2, .int (nI wi9)), (3, .int (nI by9))]) hx hb d_Wh_guess_137 hl (k := 2) rfl (show nI i9 + Int32.ofInt 1 = nI (i9 + 1) from (nI_add i9 1).trans (congrArg nI (by omega))) (by decide) rfl (fun ls hl => ?_)
              refine lv_goto (tgt := 74) hx hb d_Wh_guess_140 (by decide) ?_
              exact ih_lp t8 l8 (i9 + 1) (by omega) (by omega) (gs_skip hg (by omega) (by omega)) _ _ (S.sub [0, 1, 2, 3] (by decide) rfl) ls (lv_sub hl [1, 2, 0, 3, 4, 5, 6, 7, 8, 9] rfl)
            · refine lv_lload hx hb d_Wh_guess_124 (lv_at hl 0 rfl) ?_
              refine lv_lconst (v := 1) hx hb d_Wh_guess_126 (by decide) ?_
              refine z_lsub (x := lN t8) (y := 1) (v := lN (t8 - 1)) hx hb d_Wh_guess_127 (lN_sub (a := t8) (b := 1) (gs_dec hP0 hzP hq8 hqB hg (by omega) (by omega)).2) ?_
              refine lv_lstore (lv' := [(8, .long (lN (t8 - 1))), (10, .long (lN l8)), (14, .int (nI i9)), (12, .long (lN (gu (wi9 - 2)))), (6, .long (lN (gg (by9 + wi9) * 2147483648 + gg (by9 + wi9 - 1)))), (4, .long (lN (gu (wi9 - 1)))), (0, .ref h0), (1, .ref hu), (2, .int (nI wi9)), (3, .int (nI by9))]) hx hb d_Wh_guess_128 hl (by decide) rfl (fun ls hl => ?_)
              refine lv_lload hx hb d_Wh_guess_130 (lv_at hl 1 rfl) ?_
              refine lv_lload hx hb d_Wh_guess_132 (lv_at hl 5 rfl) ?_
              refine z_ladd (x := lN l8) (y := lN (gu (wi9 - 1))) (v := lN (l8 + (gu (wi9 - 1)))) hx hb d_Wh_guess_134 (lN_add l8 (gu (wi9 - 1))) ?_
              refine lv_lstore (lv' := [(10, .long (lN (l8 + (gu (wi9 - 1))))), (8, .long (lN (t8 - 1))), (14, .int (nI i9)), (12, .long (lN (gu (wi9 - 2)))), (6, .long (lN (gg (by9 + wi9) * 2147483648 + gg (by9 + wi9 - 1)))), (4, .long (lN (gu (wi9 - 1)))), (0, .ref h0), (1, .ref hu), (2, .int (nI wi9)), (3, .int (nI by9))]) hx hb d_Wh_guess_135 hl (by decide) rfl (fun ls hl => ?_)
              refine lv_iinc (v := nI (i9 + 1)) (lv' := [(14, .int (nI (i9 + 1))), (10, .long (lN (l8 + (gu (wi9 - 1))))), (8, .long (lN (t8 - 1))), (12, .long (lN (gu (wi9 - 2)))), (6, .long (lN (gg (by9 + wi9) * 2147483648 + gg (by9 + wi9 - 1)))), (4, .long (lN (gu (wi9 - 1)))), (0, .ref h0), (1, .ref hu), (2, .int (nI wi9)), (3, .int (nI by9))]) hx hb d_Wh_guess_137 hl (k := 2) rfl (show nI i9 + Int32.ofInt 1 = nI (i9 + 1) from (nI_add i9 1).trans (congrArg nI (by omega))) (by decide) rfl (fun ls hl => ?_)
              refine lv_goto (tgt := 74) hx hb d_Wh_guess_140 (by decide) ?_
              exact ih_lp (t8 - 1) (l8 + gu (wi9 - 1)) (i9 + 1) (by omega) (by omega) (gs_dec hP0 hzP hq8 hqB hg (by omega) (by omega)).1 _ _ (S.sub [0, 1, 2, 3] (by decide) rfl) ls (lv_sub hl [2, 1, 0, 3, 4, 5, 6, 7, 8, 9] rfl)
  exact lp _ ((gg (by9 + wi9) * 2147483648 + gg (by9 + wi9 - 1)) / gu (wi9 - 1)) ((gg (by9 + wi9) * 2147483648 + gg (by9 + wi9 - 1)) % gu (wi9 - 1)) 0 (Nat.lt_succ_self _) (by omega) g0 _ _ (S.sub [0, 1, 2, 3] (by decide) rfl) ls (lv_sub hl [3, 2, 0, 1, 4, 5, 6, 7, 8, 9] rfl)
theorem d_Wh_takeOff_0 : decode c_Wh_takeOff 0 = .ok (.lconst 0, 1) := by decide +kernel
theorem d_Wh_takeOff_1 : decode c_Wh_takeOff 1 = .ok (.lstore 6, 2) := by decide +kernel
theorem d_Wh_takeOff_3 : decode c_Wh_takeOff 3 = .ok (.iconst 0, 1) := by decide +kernel
theorem d_Wh_takeOff_4 : decode c_Wh_takeOff 4 = .ok (.istore 8, 2) := by decide +kernel
theorem d_Wh_takeOff_6 : decode c_Wh_takeOff 6 = .ok (.iload 8, 2) := by decide +kernel
theorem d_Wh_takeOff_8 : decode c_Wh_takeOff 8 = .ok (.iload_n 2, 1) := by decide +kernel
theorem d_Wh_takeOff_9 : decode c_Wh_takeOff 9 = .ok (.if_icmp .ge 59, 3) := by decide +kernel
theorem d_Wh_takeOff_12 : decode c_Wh_takeOff 12 = .ok (.lload 6, 2) := by decide +kernel
theorem d_Wh_takeOff_14 : decode c_Wh_takeOff 14 = .ok (.aload_n 0, 1) := by decide +kernel
theorem d_Wh_takeOff_15 : decode c_Wh_takeOff 15 = .ok (.getfield 9, 3) := by decide +kernel
theorem d_Wh_takeOff_18 : decode c_Wh_takeOff 18 = .ok (.iload_n 3, 1) := by decide +kernel
theorem d_Wh_takeOff_19 : decode c_Wh_takeOff 19 = .ok (.iload 8, 2) := by decide +kernel
theorem d_Wh_takeOff_21 : decode c_Wh_takeOff 21 = .ok (.iadd, 1) := by decide +kernel
theorem d_Wh_takeOff_22 : decode c_Wh_takeOff 22 = .ok (.iaload, 1) := by decide +kernel
theorem d_Wh_takeOff_23 : decode c_Wh_takeOff 23 = .ok (.i2l, 1) := by decide +kernel
theorem d_Wh_takeOff_24 : decode c_Wh_takeOff 24 = .ok (.lload 4, 2) := by decide +kernel
theorem d_Wh_takeOff_26 : decode c_Wh_takeOff 26 = .ok (.aload_n 1, 1) := by decide +kernel
theorem d_Wh_takeOff_27 : decode c_Wh_takeOff 27 = .ok (.getfield 9, 3) := by decide +kernel
theorem d_Wh_takeOff_30 : decode c_Wh_takeOff 30 = .ok (.iload 8, 2) := by decide +kernel
theorem d_Wh_takeOff_32 : decode c_Wh_takeOff 32 = .ok (.iaload, 1) := by decide +kernel
theorem d_Wh_takeOff_33 : decode c_Wh_takeOff 33 = .ok (.i2l, 1) := by decide +kernel
theorem d_Wh_takeOff_34 : decode c_Wh_takeOff 34 = .ok (.lmul, 1) := by decide +kernel
theorem d_Wh_takeOff_35 : decode c_Wh_takeOff 35 = .ok (.lsub, 1) := by decide +kernel
theorem d_Wh_takeOff_36 : decode c_Wh_takeOff 36 = .ok (.ladd, 1) := by decide +kernel
theorem d_Wh_takeOff_37 : decode c_Wh_takeOff 37 = .ok (.lstore 6, 2) := by decide +kernel
theorem d_Wh_takeOff_39 : decode c_Wh_takeOff 39 = .ok (.aload_n 0, 1) := by decide +kernel
theorem d_Wh_takeOff_40 : decode c_Wh_takeOff 40 = .ok (.getfield 9, 3) := by decide +kernel
theorem d_Wh_takeOff_43 : decode c_Wh_takeOff 43 = .ok (.iload_n 3, 1) := by decide +kernel
theorem d_Wh_takeOff_44 : decode c_Wh_takeOff 44 = .ok (.iload 8, 2) := by decide +kernel
theorem d_Wh_takeOff_46 : decode c_Wh_takeOff 46 = .ok (.iadd, 1) := by decide +kernel
theorem d_Wh_takeOff_47 : decode c_Wh_takeOff 47 = .ok (.lload 6, 2) := by decide +kernel
theorem d_Wh_takeOff_49 : decode c_Wh_takeOff 49 = .ok (.ldc2_w 23, 3) := by decide +kernel
theorem d_Wh_takeOff_52 : decode c_Wh_takeOff 52 = .ok (.land, 1) := by decide +kernel
theorem d_Wh_takeOff_53 : decode c_Wh_takeOff 53 = .ok (.l2i, 1) := by decide +kernel
theorem d_Wh_takeOff_54 : decode c_Wh_takeOff 54 = .ok (.iastore, 1) := by decide +kernel
theorem d_Wh_takeOff_55 : decode c_Wh_takeOff 55 = .ok (.lload 6, 2) := by decide +kernel
theorem d_Wh_takeOff_57 : decode c_Wh_takeOff 57 = .ok (.bipush 31, 2) := by decide +kernel
theorem d_Wh_takeOff_59 : decode c_Wh_takeOff 59 = .ok (.lshr, 1) := by decide +kernel
theorem d_Wh_takeOff_60 : decode c_Wh_takeOff 60 = .ok (.lstore 6, 2) := by decide +kernel
theorem d_Wh_takeOff_62 : decode c_Wh_takeOff 62 = .ok (.iinc 8 1, 3) := by decide +kernel
theorem d_Wh_takeOff_65 : decode c_Wh_takeOff 65 = .ok (.goto (-59), 3) := by decide +kernel
theorem d_Wh_takeOff_68 : decode c_Wh_takeOff 68 = .ok (.lload 6, 2) := by decide +kernel
theorem d_Wh_takeOff_70 : decode c_Wh_takeOff 70 = .ok (.aload_n 0, 1) := by decide +kernel
theorem d_Wh_takeOff_71 : decode c_Wh_takeOff 71 = .ok (.getfield 9, 3) := by decide +kernel
theorem d_Wh_takeOff_74 : decode c_Wh_takeOff 74 = .ok (.iload_n 3, 1) := by decide +kernel
theorem d_Wh_takeOff_75 : decode c_Wh_takeOff 75 = .ok (.iload_n 2, 1) := by decide +kernel
theorem d_Wh_takeOff_76 : decode c_Wh_takeOff 76 = .ok (.iadd, 1) := by decide +kernel
theorem d_Wh_takeOff_77 : decode c_Wh_takeOff 77 = .ok (.iaload, 1) := by decide +kernel
theorem d_Wh_takeOff_78 : decode c_Wh_takeOff 78 = .ok (.i2l, 1) := by decide +kernel
theorem d_Wh_takeOff_79 : decode c_Wh_takeOff 79 = .ok (.ladd, 1) := by decide +kernel
theorem d_Wh_takeOff_80 : decode c_Wh_takeOff 80 = .ok (.lreturn, 1) := by decide +kernel
set_option maxRecDepth 100000 in
set_option maxHeartbeats 16000000 in
/-- takeOff -/
theorem g_Wh_takeOff (l : Launch) (G : va_G) (k : Nat → ClassId) (h0 : Nat) (s0 sl : Nat) (wi9 : Nat) (by9 : Nat) (tm9 : Int) (dd : Nat) (LL : Nat) (xs9 : Int32) (ys9 : Int32) (gg : Nat → Nat) (hu : Nat) (du : Nat) (Lu : Nat) (xu9 : Int32) (yu9 : Int32) (gu : Nat → Nat) (hr : raO LL gg) (hru : raO Lu gu) (hwu : wi9 ≤ Lu) (hbl : by9 + wi9 < LL) (ht1 : -1 ≤ tm9) (ht2 : tm9 ≤ 2147483648) : CG l y_Wh_takeOff c_Wh_takeOff 9 (some .long) { frames := 0, cells := 0, slots := 0, locals := 0 } [.ref h0, .ref hu, .int (nI wi9), .int (nI by9), .long (lZ tm9)] G k s0 sl [(h0, .inr (2, [.ref dd, .int xs9, .int ys9])), (dd, .inl (k 0, LL, .inl (fun i => nI (gg i)))), (hu, .inr (2, [.ref du, .int xu9, .int yu9])), (du, .inl (k 0, Lu, .inl (fun i => nI (gu i))))] (fun (u : Int × (Nat → Nat)) => some (.long (lZ (u.1 + (gg (by9 + wi9) : Int))))) (fun (u : Int × (Nat → Nat)) => (vl 2147483648 (fun i => u.2 (by9 + i)) wi9 : Int) + u.1 * (2147483648 : Int) ^ wi9 = (vl 2147483648 (fun i => gg (by9 + i)) wi9 : Int) - tm9 * (vl 2147483648 gu wi9 : Int) ∧ (∀ i, u.2 i < 2147483648) ∧ (∀ i, i < by9 ∨ by9 + wi9 ≤ i → u.2 i = gg i) ∧ -2147483649 ≤ u.1 ∧ u.1 ≤ 1) (fun (u : Int × (Nat → Nat)) => [(h0, .inr (2, [.ref dd, .int xs9, .int ys9])), (dd, .inl (k 0, LL, .inl (fun i => nI (u.2 i)))), (hu, .inr (2, [.ref du, .int xu9, .int yu9])), (du, .inl (k 0, Lu, .inl (fun i => nI (gu i))))]) (fun (u : Int × (Nat → Nat)) => 0) (fun (u : Int × (Nat → Nat)) => 0) 0 0 := by
  refine met_startG (by decide) (Nat.le_of_ble_eq_true rfl) ?_
  intro p e s m below meth c C K hA hsz S ls hl
  generalize va_A [(h0, .inr (2, [.ref dd, .int xs9, .int ys9])), (dd, .inl (k 0, LL, .inl (fun i => nI (gg i)))), (hu, .inr (2, [.ref du, .int xu9, .int yu9])), (du, .inl (k 0, Lu, .inl (fun i => nI (gu i))))] s0 = A at hA S ⊢
  have hx := C.1
  have hb := C.2.1
  have hl : lv_has ls 9 [(0, .ref h0), (1, .ref hu), (2, .int (nI wi9)), (3, .int (nI by9)), (4, .long (lZ tm9))] := hl
  have hr0 := hr
  obtain ⟨r1, r2, r3⟩ := hr0
  obtain ⟨u1, u2, u3⟩ := hru
  refine lv_lconst (v := 0) hx hb d_Wh_takeOff_0 (by decide) ?_
  refine z_topl (y := lZ 0) (by decide) ?_
  refine lv_lstore (lv' := [(6, .long (lZ 0)), (0, .ref h0), (1, .ref hu), (2, .int (nI wi9)), (3, .int (nI by9)), (4, .long (lZ tm9))]) hx hb d_Wh_takeOff_1 hl (by decide) rfl (fun ls hl => ?_)
  refine lv_iconst (v := 0) hx hb d_Wh_takeOff_3 (by decide) ?_
  refine lv_istore (lv' := [(8, .int 0), (6, .long (lZ 0)), (0, .ref h0), (1, .ref hu), (2, .int (nI wi9)), (3, .int (nI by9)), (4, .long (lZ tm9))]) hx hb d_Wh_takeOff_4 hl (by decide) rfl (fun ls hl => ?_)
  have lp : ∀ d9, ∀ (i9 : Nat), ∀ (c8 : Int), ∀ (T8 : Nat → Nat), (wi9 - i9) < d9 → (i9 ≤ wi9) → ((vl 2147483648 (fun i => T8 (by9 + i)) i9 : Int) + c8 * (2147483648 : Int) ^ i9 = (vl 2147483648 (fun i => gg (by9 + i)) i9 : Int) - tm9 * (vl 2147483648 gu i9 : Int)) → (∀ i, T8 i < 2147483648) → (∀ i, i < by9 ∨ by9 + i9 ≤ i → T8 i = gg i) → (-2147483649 ≤ c8) → (c8 ≤ 1) → ∀ (H : Heap) (locs : List Loc), Sw G A s.heap H locs [(h0, .inr (2, [.ref dd, .int xs9, .int ys9])), (dd, .inl (k 0, LL, .inl (fun i => nI (T8 i)))), (hu, .inr (2, [.ref du, .int xu9, .int yu9])), (du, .inl (k 0, Lu, .inl (fun i => nI (gu i))))] → ∀ ls : Array Slot, lv_has ls 9 [(6, .long (lZ c8)), (8, .int (nI i9)), (0, .ref h0), (1, .ref hu), (2, .int (nI wi9)), (3, .int (nI by9)), (4, .long (lZ tm9))] → W p l e { frames := 0, cells := 0, slots := 0, locals := 0 } s m [Value.ref h0, Value.ref hu, Value.int (nI wi9), Value.int (nI by9), Value.long (lZ tm9)].toArray below meth c H locs 0 0 (MQ below (va_Qg (fun (u : Int × (Nat → Nat)) => some (.long (lZ (u.1 + (gg (by9 + wi9) : Int))))) (fun (u : Int × (Nat → Nat)) => (vl 2147483648 (fun i => u.2 (by9 + i)) wi9 : Int) + u.1 * (2147483648 : Int) ^ wi9 = (vl 2147483648 (fun i => gg (by9 + i)) wi9 : Int) - tm9 * (vl 2147483648 gu wi9 : Int) ∧ (∀ i, u.2 i < 2147483648) ∧ (∀ i, i < by9 ∨ by9 + wi9 ≤ i → u.2 i = gg i) ∧ -2147483649 ≤ u.1 ∧ u.1 ≤ 1) (Pog G k A (fun (u : Int × (Nat → Nat)) => [(h0, .inr (2, [.ref dd, .int xs9, .int ys9])), (dd, .inl (k 0, LL, .inl (fun i => nI (u.2 i)))), (hu, .inr (2, [.ref du, .int xu9, .int yu9])), (du, .inl (k 0, Lu, .inl (fun i => nI (gu i))))]) s0 sl (fun (u : Int × (Nat → Nat)) => 0) (fun (u : Int × (Nat → Nat)) => 0)) A) [Value.ref h0, Value.ref hu, Value.int (nI wi9), Value.int (nI by9), Value.long (lZ tm9)].toArray s 0 0 A) (F0 m 6 ls []) := by
    intro d9
    induction d9 with
    | zero => intro i9 c8 T8 hm; exact absurd hm (Nat.not_lt_zero _)
    | succ d9 ih_lp =>
      intro i9 c8 T8 hm hi hI hD hT hb1 hb2 H locs S ls hl
      have d1 := hD (by9 + i9)
      have d2 := tm_b ht1 ht2 (u3 i9)
      have d4 := u3 i9
      have d5 := hD (by9 + wi9)
      refine lv_iload hx hb d_Wh_takeOff_6 (lv_at hl 1 rfl) ?_
      refine lv_iload_n hx hb d_Wh_takeOff_8 rfl (lv_at hl 4 rfl) ?_
      refine z_icmp_ge (a := i9) (b := wi9) (tgt := 68) hx hb d_Wh_takeOff_9 (by decide) (by omega) (by omega) (fun hc1 => ?_) (fun hc1 => ?_)
      · refine lv_lload hx hb d_Wh_takeOff_68 (lv_at hl 0 rfl) ?_
        refine lv_aload_n hx hb d_Wh_takeOff_70 rfl (lv_at hl 2 rfl) ?_
        refine r_get C K S 0 rfl rfl clOk_Wh 0 (by decide) wf_Wh_9 (v := .ref dd) rfl d_Wh_takeOff_71 ?_
        refine lv_iload_n hx hb d_Wh_takeOff_74 rfl (lv_at hl 5 rfl) ?_
        refine lv_iload_n hx hb d_Wh_takeOff_75 rfl (lv_at hl 4 rfl) ?_
        refine z_iadd (x := nI by9) (y := nI wi9) (v := nI (by9 + wi9)) hx hb d_Wh_takeOff_76 (nI_add by9 wi9) ?_
        refine r_iald C K S 1 rfl (i := nI (by9 + wi9)) (show vp_in (nI (by9 + wi9)) _ from vp_in_nI (n := (by9 + wi9)) (by omega) (by omega)) (v := nI (T8 (by9 + wi9))) (by rw [nI_clamp (by omega)]) d_Wh_takeOff_77 ?_
        refine lv_i2l (v := lN (T8 (by9 + wi9))) hx hb d_Wh_takeOff_78 (show (nI (T8 (by9 + wi9)) : Int32).toInt64 = _ from nI_l (n := (T8 (by9 + wi9))) (by omega)) ?_
        refine z_ladd (v := lZ (c8 + ((T8 (by9 + wi9) : Nat) : Int))) hx hb d_Wh_takeOff_79 (by rw [lN_lZ, lZ_add]) ?_
        have e9 : i9 = wi9 := by omega
        rw [e9] at hI hT
        exact q_lret C K hsz (c8, T8) (by rw [hT (by9 + wi9) (Or.inr (Nat.le_refl _))]) (show (vl 2147483648 (fun i => T8 (by9 + i)) wi9 : Int) + c8 * (2147483648 : Int) ^ wi9 = (vl 2147483648 (fun i => gg (by9 + i)) wi9 : Int) - tm9 * (vl 2147483648 gu wi9 : Int) ∧ (∀ i, T8 i < 2147483648) ∧ (∀ i, i < by9 ∨ by9 + wi9 ≤ i → T8 i = gg i) ∧ -2147483649 ≤ c8 ∧ c8 ≤ 1 from ⟨hI, hD, hT, hb1, hb2⟩) (S.sub [0, 1, 2, 3] (by decide) rfl) d_Wh_takeOff_80 (Nat.zero_le _) (Nat.zero_le _) (Nat.zero_le _) (Nat.zero_le _)
      · refine lv_lload hx hb d_Wh_takeOff_12 (lv_at hl 0 rfl) ?_
        refine lv_aload_n hx hb d_Wh_takeOff_14 rfl (lv_at hl 2 rfl) ?_
        refine r_get C K S 0 rfl rfl clOk_Wh 0 (by decide) wf_Wh_9 (v := .ref dd) rfl d_Wh_takeOff_15 ?_
        refine lv_iload_n hx hb d_Wh_takeOff_18 rfl (lv_at hl 5 rfl) ?_
        refine lv_iload hx hb d_Wh_takeOff_19 (lv_at hl 1 rfl) ?_
        refine z_iadd (x := nI by9) (y := nI i9) (v := nI (by9 + i9)) hx hb d_Wh_takeOff_21 (nI_add by9 i9) ?_
        refine r_iald C K S 1 rfl (i := nI (by9 + i9)) (show vp_in (nI (by9 + i9)) _ from vp_in_nI (n := (by9 + i9)) (by omega) (by omega)) (v := nI (T8 (by9 + i9))) (by rw [nI_clamp (by omega)]) d_Wh_takeOff_22 ?_
        refine lv_i2l (v := lN (T8 (by9 + i9))) hx hb d_Wh_takeOff_23 (show (nI (T8 (by9 + i9)) : Int32).toInt64 = _ from nI_l (n := (T8 (by9 + i9))) (by omega)) ?_
        refine lv_lload hx hb d_Wh_takeOff_24 (lv_at hl 6 rfl) ?_
        refine lv_aload_n hx hb d_Wh_takeOff_26 rfl (lv_at hl 3 rfl) ?_
        refine r_get C K S 2 rfl rfl clOk_Wh 0 (by decide) wf_Wh_9 (v := .ref du) rfl d_Wh_takeOff_27 ?_
        refine lv_iload hx hb d_Wh_takeOff_30 (lv_at hl 1 rfl) ?_
        refine r_iald C K S 3 rfl (i := nI i9) (show vp_in (nI i9) _ from vp_in_nI (n := i9) (by omega) (by omega)) (v := nI (gu i9)) (by rw [nI_clamp (by omega)]) d_Wh_takeOff_32 ?_
        refine lv_i2l (v := lN (gu i9)) hx hb d_Wh_takeOff_33 (show (nI (gu i9) : Int32).toInt64 = _ from nI_l (n := (gu i9)) (by omega)) ?_
        refine z_lmul (v := lZ (tm9 * ((gu i9 : Nat) : Int))) hx hb d_Wh_takeOff_34 (by rw [lN_lZ, lZ_mul]) ?_
        refine z_lsub (v := lZ (((T8 (by9 + i9) : Nat) : Int) - tm9 * ((gu i9 : Nat) : Int))) hx hb d_Wh_takeOff_35 (by rw [lN_lZ, lZ_sub]) ?_
        refine z_ladd (v := lZ (c8 + (((T8 (by9 + i9) : Nat) : Int) - tm9 * ((gu i9 : Nat) : Int)))) hx hb d_Wh_takeOff_36 (lZ_add _ _) ?_
        refine lv_lstore (lv' := [(6, .long (lZ (c8 + (((T8 (by9 + i9) : Nat) : Int) - tm9 * ((gu i9 : Nat) : Int))))), (8, .int (nI i9)), (0, .ref h0), (1, .ref hu), (2, .int (nI wi9)), (3, .int (nI by9)), (4, .long (lZ tm9))]) hx hb d_Wh_takeOff_37 hl (by decide) rfl (fun ls hl => ?_)
        refine lv_aload_n hx hb d_Wh_takeOff_39 rfl (lv_at hl 2 rfl) ?_
        refine r_get C K S 0 rfl rfl clOk_Wh 0 (by decide) wf_Wh_9 (v := .ref dd) rfl d_Wh_takeOff_40 ?_
        refine lv_iload_n hx hb d_Wh_takeOff_43 rfl (lv_at hl 5 rfl) ?_
        refine lv_iload hx hb d_Wh_takeOff_44 (lv_at hl 1 rfl) ?_
        refine z_iadd (x := nI by9) (y := nI i9) (v := nI (by9 + i9)) hx hb d_Wh_takeOff_46 (nI_add by9 i9) ?_
        refine lv_lload hx hb d_Wh_takeOff_47 (lv_at hl 0 rfl) ?_
        refine lv_ldc2 (v := 2147483647) hx hb C.2.2.2.1 (C.2.2.2.2.1 _ wk_Wh_23) d_Wh_takeOff_49 ?_
        refine z_land (v := lZ ((c8 + (((T8 (by9 + i9) : Nat) : Int) - tm9 * ((gu i9 : Nat) : Int))) % 2147483648)) hx hb d_Wh_takeOff_52 (lZ_and _) ?_
        refine lv_l2i (v := nI (((c8 + (((T8 (by9 + i9) : Nat) : Int) - tm9 * ((gu i9 : Nat) : Int))) % 2147483648).toNat)) hx hb d_Wh_takeOff_53 (lZ_i (by omega) (by omega)) ?_
        refine r_iast C K S 1 rfl (i := nI (by9 + i9)) (x := nI (((c8 + (((T8 (by9 + i9) : Nat) : Int) - tm9 * ((gu i9 : Nat) : Int))) % 2147483648).toNat)) (show vp_in (nI (by9 + i9)) _ from vp_in_nI (n := (by9 + i9)) (by omega) (by omega)) (f' := fun i => nI (va_up T8 (by9 + i9) (((c8 + (((T8 (by9 + i9) : Nat) : Int) - tm9 * ((gu i9 : Nat) : Int))) % 2147483648).toNat) i)) (ws' := [(h0, .inr (2, [.ref dd, .int xs9, .int ys9])), (dd, .inl (k 0, LL, .inl (fun i => nI (va_up T8 (by9 + i9) (((c8 + (((T8 (by9 + i9) : Nat) : Int) - tm9 * ((gu i9 : Nat) : Int))) % 2147483648).toNat) i)))), (hu, .inr (2, [.ref du, .int xu9, .int yu9])), (du, .inl (k 0, Lu, .inl (fun i => nI (gu i))))]) (show upd _ (nI (by9 + i9) : Int32).toNatClampNeg (nI (((c8 + (((T8 (by9 + i9) : Nat) : Int) - tm9 * ((gu i9 : Nat) : Int))) % 2147483648).toNat)) = _ from upd_nI T8 (j := (by9 + i9)) (by omega) (((c8 + (((T8 (by9 + i9) : Nat) : Int) - tm9 * ((gu i9 : Nat) : Int))) % 2147483648).toNat)) rfl d_Wh_takeOff_54 (fun H locs S => ?_)
        refine lv_lload hx hb d_Wh_takeOff_55 (lv_at hl 0 rfl) ?_
        refine lv_bipush (v := 31) hx hb d_Wh_takeOff_57 (by decide) ?_
        refine lv_lshr (v := lZ ((c8 + (((T8 (by9 + i9) : Nat) : Int) - tm9 * ((gu i9 : Nat) : Int))) / 2147483648)) hx hb d_Wh_takeOff_59 (lZ_shr (by omega) (by omega) d31) ?_
        refine lv_lstore (lv' := [(6, .long (lZ ((c8 + (((T8 (by9 + i9) : Nat) : Int) - tm9 * ((gu i9 : Nat) : Int))) / 2147483648))), (8, .int (nI i9)), (0, .ref h0), (1, .ref hu), (2, .int (nI wi9)), (3, .int (nI by9)), (4, .long (lZ tm9))]) hx hb d_Wh_takeOff_60 hl (by decide) rfl (fun ls hl => ?_)
        refine lv_iinc (v := nI (i9 + 1)) (lv' := [(8, .int (nI (i9 + 1))), (6, .long (lZ ((c8 + (((T8 (by9 + i9) : Nat) : Int) - tm9 * ((gu i9 : Nat) : Int))) / 2147483648))), (0, .ref h0), (1, .ref hu), (2, .int (nI wi9)), (3, .int (nI by9)), (4, .long (lZ tm9))]) hx hb d_Wh_takeOff_62 hl (k := 1) rfl (show nI i9 + Int32.ofInt 1 = nI (i9 + 1) from (nI_add i9 1).trans (congrArg nI (by omega))) (by decide) rfl (fun ls hl => ?_)
        refine lv_goto (tgt := 6) hx hb d_Wh_takeOff_65 (by decide) ?_
        exact ih_lp (i9 + 1) ((c8 + (((T8 (by9 + i9) : Nat) : Int) - tm9 * ((gu i9 : Nat) : Int))) / 2147483648) (va_up T8 (by9 + i9) (((c8 + (((T8 (by9 + i9) : Nat) : Int) - tm9 * ((gu i9 : Nat) : Int))) % 2147483648).toNat)) (by omega) (by omega) (to_step (hT _ (Or.inr (Nat.le_refl _))) hI) (up31 hD (by omega)) (fun i q => by rw [va_up_ne _ _ (by omega)]; exact hT i (by omega)) (by omega) (by omega) _ _ (S.sub [0, 1, 2, 3] (by decide) rfl) ls (lv_sub hl [1, 0, 2, 3, 4, 5, 6] rfl)
  exact lp _ 0 0 gg (Nat.lt_succ_self _) (by omega) (by simp [vl]) r3 (fun _ _ => rfl) (by omega) (by omega) _ _ (S.sub [0, 1, 2, 3] (by decide) rfl) ls (lv_sub hl [1, 0, 2, 3, 4, 5, 6] rfl)
theorem d_Wh_lowest_0 : decode c_Wh_lowest 0 = .ok (.lconst 0, 1) := by decide +kernel
theorem d_Wh_lowest_1 : decode c_Wh_lowest 1 = .ok (.lstore_n 1, 1) := by decide +kernel
theorem d_Wh_lowest_2 : decode c_Wh_lowest 2 = .ok (.iconst 0, 1) := by decide +kernel
theorem d_Wh_lowest_3 : decode c_Wh_lowest 3 = .ok (.istore_n 3, 1) := by decide +kernel
theorem d_Wh_lowest_4 : decode c_Wh_lowest 4 = .ok (.iload_n 3, 1) := by decide +kernel
theorem d_Wh_lowest_5 : decode c_Wh_lowest 5 = .ok (.aload_n 0, 1) := by decide +kernel
theorem d_Wh_lowest_6 : decode c_Wh_lowest 6 = .ok (.getfield 29, 3) := by decide +kernel
theorem d_Wh_lowest_9 : decode c_Wh_lowest 9 = .ok (.if_icmp .ge 29, 3) := by decide +kernel
theorem d_Wh_lowest_12 : decode c_Wh_lowest 12 = .ok (.iload_n 3, 1) := by decide +kernel
theorem d_Wh_lowest_13 : decode c_Wh_lowest 13 = .ok (.iconst 3, 1) := by decide +kernel
theorem d_Wh_lowest_14 : decode c_Wh_lowest 14 = .ok (.if_icmp .ge 24, 3) := by decide +kernel
theorem d_Wh_lowest_17 : decode c_Wh_lowest 17 = .ok (.lload_n 1, 1) := by decide +kernel
theorem d_Wh_lowest_18 : decode c_Wh_lowest 18 = .ok (.aload_n 0, 1) := by decide +kernel
theorem d_Wh_lowest_19 : decode c_Wh_lowest 19 = .ok (.getfield 9, 3) := by decide +kernel
theorem d_Wh_lowest_22 : decode c_Wh_lowest 22 = .ok (.iload_n 3, 1) := by decide +kernel
theorem d_Wh_lowest_23 : decode c_Wh_lowest 23 = .ok (.iaload, 1) := by decide +kernel
theorem d_Wh_lowest_24 : decode c_Wh_lowest 24 = .ok (.i2l, 1) := by decide +kernel
theorem d_Wh_lowest_25 : decode c_Wh_lowest 25 = .ok (.iload_n 3, 1) := by decide +kernel
theorem d_Wh_lowest_26 : decode c_Wh_lowest 26 = .ok (.bipush 31, 2) := by decide +kernel
theorem d_Wh_lowest_28 : decode c_Wh_lowest 28 = .ok (.imul, 1) := by decide +kernel
theorem d_Wh_lowest_29 : decode c_Wh_lowest 29 = .ok (.lshl, 1) := by decide +kernel
theorem d_Wh_lowest_30 : decode c_Wh_lowest 30 = .ok (.lor, 1) := by decide +kernel
theorem d_Wh_lowest_31 : decode c_Wh_lowest 31 = .ok (.lstore_n 1, 1) := by decide +kernel
theorem d_Wh_lowest_32 : decode c_Wh_lowest 32 = .ok (.iinc 3 1, 3) := by decide +kernel
theorem d_Wh_lowest_35 : decode c_Wh_lowest 35 = .ok (.goto (-31), 3) := by decide +kernel
theorem d_Wh_lowest_38 : decode c_Wh_lowest 38 = .ok (.aload_n 0, 1) := by decide +kernel
theorem d_Wh_lowest_39 : decode c_Wh_lowest 39 = .ok (.getfield 19, 3) := by decide +kernel
theorem d_Wh_lowest_42 : decode c_Wh_lowest 42 = .ok (.ifCond .ge 8, 3) := by decide +kernel
theorem d_Wh_lowest_45 : decode c_Wh_lowest 45 = .ok (.lload_n 1, 1) := by decide +kernel
theorem d_Wh_lowest_46 : decode c_Wh_lowest 46 = .ok (.lneg, 1) := by decide +kernel
theorem d_Wh_lowest_47 : decode c_Wh_lowest 47 = .ok (.goto 4, 3) := by decide +kernel
theorem d_Wh_lowest_50 : decode c_Wh_lowest 50 = .ok (.lload_n 1, 1) := by decide +kernel
theorem d_Wh_lowest_51 : decode c_Wh_lowest 51 = .ok (.lreturn, 1) := by decide +kernel
set_option maxRecDepth 100000 in
set_option maxHeartbeats 16000000 in
/-- lowest -/
theorem g_Wh_lowest (l : Launch) (G : va_G) (k : Nat → ClassId) (h0 : Nat) (s0 sl : Nat) (dd : Nat) (LL : Nat) (nn9 : Nat) (gg : Nat → Nat) (zz : Int) (hw : whO LL nn9 gg zz) : CG l y_Wh_lowest c_Wh_lowest 4 (some .long) { frames := 0, cells := 0, slots := 0, locals := 0 } [.ref h0] G k s0 sl [(h0, .inr (2, [.ref dd, .int (nI nn9), .int (sgI zz)])), (dd, .inl (k 0, LL, .inl (fun i => nI (gg i))))] (fun (u : Int64) => some (.long u)) (fun (u : Int64) => True) (fun (u : Int64) => [(h0, .inr (2, [.ref dd, .int (nI nn9), .int (sgI zz)])), (dd, .inl (k 0, LL, .inl (fun i => nI (gg i))))]) (fun (u : Int64) => 0) (fun (u : Int64) => 0) 0 0 := by
  refine met_startG (by decide) (Nat.le_of_ble_eq_true rfl) ?_
  intro p e s m below meth c C K hA hsz S ls hl
  generalize va_A [(h0, .inr (2, [.ref dd, .int (nI nn9), .int (sgI zz)])), (dd, .inl (k 0, LL, .inl (fun i => nI (gg i))))] s0 = A at hA S ⊢
  have hx := C.1
  have hb := C.2.1
  have hl : lv_has ls 4 [(0, .ref h0)] := hl
  have hw0 := hw
  obtain ⟨w1, w2, w3, w4, w5, w6⟩ := hw0
  refine lv_lconst (v := 0) hx hb d_Wh_lowest_0 (by decide) ?_
  refine lv_lstore_n (lv' := [(1, .long 0), (0, .ref h0)]) hx hb d_Wh_lowest_1 rfl hl (by decide) rfl (fun ls hl => ?_)
  refine lv_iconst (v := 0) hx hb d_Wh_lowest_2 (by decide) ?_
  refine lv_istore_n (lv' := [(3, .int 0), (1, .long 0), (0, .ref h0)]) hx hb d_Wh_lowest_3 rfl hl (by decide) rfl (fun ls hl => ?_)
  have lp : ∀ d9, ∀ (b8 : Int64), ∀ (i9 : Nat), (3 - i9) < d9 → (i9 ≤ 3) → ∀ (H : Heap) (locs : List Loc), Sw G A s.heap H locs [(h0, .inr (2, [.ref dd, .int (nI nn9), .int (sgI zz)])), (dd, .inl (k 0, LL, .inl (fun i => nI (gg i))))] → ∀ ls : Array Slot, lv_has ls 4 [(1, .long b8), (3, .int (nI i9)), (0, .ref h0)] → W p l e { frames := 0, cells := 0, slots := 0, locals := 0 } s m [Value.ref h0].toArray below meth c H locs 0 0 (MQ below (va_Qg (fun (u : Int64) => some (.long u)) (fun (u : Int64) => True) (Pog G k A (fun (u : Int64) => [(h0, .inr (2, [.ref dd, .int (nI nn9), .int (sgI zz)])), (dd, .inl (k 0, LL, .inl (fun i => nI (gg i))))]) s0 sl (fun (u : Int64) => 0) (fun (u : Int64) => 0)) A) [Value.ref h0].toArray s 0 0 A) (F0 m 4 ls []) := by
    intro d9
    induction d9 with
    | zero => intro b8 i9 hm; exact absurd hm (Nat.not_lt_zero _)
    | succ d9 ih_lp =>
      intro b8 i9 hm hi H locs S ls hl
      have d9 := w4 i9
      refine lv_iload_n hx hb d_Wh_lowest_4 rfl (lv_at hl 1 rfl) ?_
      refine lv_aload_n hx hb d_Wh_lowest_5 rfl (lv_at hl 2 rfl) ?_
      refine r_get C K S 0 rfl rfl clOk_Wh 1 (by decide) wf_Wh_29 (v := .int (nI nn9)) rfl d_Wh_lowest_6 ?_
      refine z_icmp_ge (a := i9) (b := nn9) (tgt := 38) hx hb d_Wh_lowest_9 (by decide) (by omega) (by omega) (fun hc1 => ?_) (fun hc1 => ?_)
      · refine lv_aload_n hx hb d_Wh_lowest_38 rfl (lv_at hl 2 rfl) ?_
        refine r_get C K S 0 rfl rfl clOk_Wh 2 (by decide) wf_Wh_19 (v := .int (sgI zz)) rfl d_Wh_lowest_39 ?_
        refine lv_if_ge (tgt := 50) hx hb d_Wh_lowest_42 (by decide) (fun hc2 => ?_) (fun hc2 => ?_)
        · refine lv_lload_n hx hb d_Wh_lowest_50 rfl (lv_at hl 0 rfl) ?_
          exact q_lret C K hsz b8 rfl trivial (S.sub [0, 1] (by decide) rfl) d_Wh_lowest_51 (Nat.zero_le _) (Nat.zero_le _) (Nat.zero_le _) (Nat.zero_le _)
        · refine lv_lload_n hx hb d_Wh_lowest_45 rfl (lv_at hl 0 rfl) ?_
          refine lv_lneg hx hb d_Wh_lowest_46 ?_
          refine lv_goto (tgt := 51) hx hb d_Wh_lowest_47 (by decide) ?_
          exact q_lret C K hsz (-b8) rfl trivial (S.sub [0, 1] (by decide) rfl) d_Wh_lowest_51 (Nat.zero_le _) (Nat.zero_le _) (Nat.zero_le _) (Nat.zero_le _)
      · refine lv_iload_n hx hb d_Wh_lowest_12 rfl (lv_at hl 1 rfl) ?_
        refine lv_iconst (v := 3) hx hb d_Wh_lowest_13 (by decide) ?_
        refine z_icmp_ge (a := i9) (b := 3) (tgt := 38) hx hb d_Wh_lowest_14 (by decide) (by omega) (by omega) (fun hc3 => ?_) (fun hc3 => ?_)
        · refine lv_aload_n hx hb d_Wh_lowest_38 rfl (lv_at hl 2 rfl) ?_
          refine r_get C K S 0 rfl rfl clOk_Wh 2 (by decide) wf_Wh_19 (v := .int (sgI zz)) rfl d_Wh_lowest_39 ?_
          refine lv_if_ge (tgt := 50) hx hb d_Wh_lowest_42 (by decide) (fun hc4 => ?_) (fun hc4 => ?_)
          · refine lv_lload_n hx hb d_Wh_lowest_50 rfl (lv_at hl 0 rfl) ?_
            exact q_lret C K hsz b8 rfl trivial (S.sub [0, 1] (by decide) rfl) d_Wh_lowest_51 (Nat.zero_le _) (Nat.zero_le _) (Nat.zero_le _) (Nat.zero_le _)
          · refine lv_lload_n hx hb d_Wh_lowest_45 rfl (lv_at hl 0 rfl) ?_
            refine lv_lneg hx hb d_Wh_lowest_46 ?_
            refine lv_goto (tgt := 51) hx hb d_Wh_lowest_47 (by decide) ?_
            exact q_lret C K hsz (-b8) rfl trivial (S.sub [0, 1] (by decide) rfl) d_Wh_lowest_51 (Nat.zero_le _) (Nat.zero_le _) (Nat.zero_le _) (Nat.zero_le _)
        · refine lv_lload_n hx hb d_Wh_lowest_17 rfl (lv_at hl 0 rfl) ?_
          refine lv_aload_n hx hb d_Wh_lowest_18 rfl (lv_at hl 2 rfl) ?_
          refine r_get C K S 0 rfl rfl clOk_Wh 0 (by decide) wf_Wh_9 (v := .ref dd) rfl d_Wh_lowest_19 ?_
          refine lv_iload_n hx hb d_Wh_lowest_22 rfl (lv_at hl 1 rfl) ?_
          refine r_iald C K S 1 rfl (i := nI i9) (show vp_in (nI i9) _ from vp_in_nI (n := i9) (by omega) (by omega)) (v := nI (gg i9)) (by rw [nI_clamp (by omega)]) d_Wh_lowest_23 ?_
          refine lv_i2l (v := lN (gg i9)) hx hb d_Wh_lowest_24 (show (nI (gg i9) : Int32).toInt64 = _ from nI_l (n := (gg i9)) (by omega)) ?_
          refine lv_iload_n hx hb d_Wh_lowest_25 rfl (lv_at hl 1 rfl) ?_
          refine lv_bipush (v := 31) hx hb d_Wh_lowest_26 (by decide) ?_
          refine z_imul (x := nI i9) (y := 31) (v := nI (i9 * 31)) hx hb d_Wh_lowest_28 (pk_mul i9 31) ?_
          refine lv_lshl (v := lN (gg i9) <<< ((nI (i9 * 31)).toInt64 &&& 63)) hx hb d_Wh_lowest_29 rfl ?_
          refine lv_lor hx hb d_Wh_lowest_30 ?_
          refine lv_lstore_n (lv' := [(1, .long (b8 ||| (lN (gg i9) <<< ((nI (i9 * 31)).toInt64 &&& 63)))), (3, .int (nI i9)), (0, .ref h0)]) hx hb d_Wh_lowest_31 rfl hl (by decide) rfl (fun ls hl => ?_)
          refine lv_iinc (v := nI (i9 + 1)) (lv' := [(3, .int (nI (i9 + 1))), (1, .long (b8 ||| (lN (gg i9) <<< ((nI (i9 * 31)).toInt64 &&& 63)))), (0, .ref h0)]) hx hb d_Wh_lowest_32 hl (k := 1) rfl (show nI i9 + Int32.ofInt 1 = nI (i9 + 1) from (nI_add i9 1).trans (congrArg nI (by omega))) (by decide) rfl (fun ls hl => ?_)
          refine lv_goto (tgt := 4) hx hb d_Wh_lowest_35 (by decide) ?_
          exact ih_lp (b8 ||| (lN (gg i9) <<< ((nI (i9 * 31)).toInt64 &&& 63))) (i9 + 1) (by omega) (by omega) _ _ (S.sub [0, 1] (by decide) rfl) ls (lv_sub hl [1, 0, 2] rfl)
  exact lp _ 0 0 (Nat.lt_succ_self _) (by omega) _ _ (S.sub [0, 1] (by decide) rfl) ls (lv_sub hl [1, 0, 2] rfl)
end
section
theorem d_Wh_divide_0 : decode c_Wh_divide 0 = .ok (.aload_n 1, 1) := by decide +kernel
theorem d_Wh_divide_1 : decode c_Wh_divide 1 = .ok (.getfield 29, 3) := by decide +kernel
theorem d_Wh_divide_4 : decode c_Wh_divide 4 = .ok (.ifCond .eq 11, 3) := by decide +kernel
theorem d_Wh_divide_7 : decode c_Wh_divide 7 = .ok (.aload_n 0, 1) := by decide +kernel
theorem d_Wh_divide_8 : decode c_Wh_divide 8 = .ok (.aload_n 1, 1) := by decide +kernel
theorem d_Wh_divide_9 : decode c_Wh_divide 9 = .ok (.invokevirtual 46, 3) := by decide +kernel
theorem d_Wh_divide_12 : decode c_Wh_divide 12 = .ok (.ifCond .ge 9, 3) := by decide +kernel
theorem d_Wh_divide_15 : decode c_Wh_divide 15 = .ok (.aload_n 0, 1) := by decide +kernel
theorem d_Wh_divide_16 : decode c_Wh_divide 16 = .ok (.lconst 0, 1) := by decide +kernel
theorem d_Wh_divide_17 : decode c_Wh_divide 17 = .ok (.invokevirtual 68, 3) := by decide +kernel
theorem d_Wh_divide_20 : decode c_Wh_divide 20 = .ok (.return_, 1) := by decide +kernel
theorem d_Wh_divide_21 : decode c_Wh_divide 21 = .ok (.aload_n 0, 1) := by decide +kernel
theorem d_Wh_divide_22 : decode c_Wh_divide 22 = .ok (.aload_n 0, 1) := by decide +kernel
theorem d_Wh_divide_23 : decode c_Wh_divide 23 = .ok (.getfield 19, 3) := by decide +kernel
theorem d_Wh_divide_26 : decode c_Wh_divide 26 = .ok (.aload_n 1, 1) := by decide +kernel
theorem d_Wh_divide_27 : decode c_Wh_divide 27 = .ok (.getfield 19, 3) := by decide +kernel
theorem d_Wh_divide_30 : decode c_Wh_divide 30 = .ok (.imul, 1) := by decide +kernel
theorem d_Wh_divide_31 : decode c_Wh_divide 31 = .ok (.putfield 19, 3) := by decide +kernel
theorem d_Wh_divide_34 : decode c_Wh_divide 34 = .ok (.aload_n 0, 1) := by decide +kernel
theorem d_Wh_divide_35 : decode c_Wh_divide 35 = .ok (.getfield 29, 3) := by decide +kernel
theorem d_Wh_divide_38 : decode c_Wh_divide 38 = .ok (.aload_n 1, 1) := by decide +kernel
theorem d_Wh_divide_39 : decode c_Wh_divide 39 = .ok (.getfield 29, 3) := by decide +kernel
theorem d_Wh_divide_42 : decode c_Wh_divide 42 = .ok (.isub, 1) := by decide +kernel
theorem d_Wh_divide_43 : decode c_Wh_divide 43 = .ok (.istore 4, 2) := by decide +kernel
theorem d_Wh_divide_45 : decode c_Wh_divide 45 = .ok (.aload_n 1, 1) := by decide +kernel
theorem d_Wh_divide_46 : decode c_Wh_divide 46 = .ok (.getfield 29, 3) := by decide +kernel
theorem d_Wh_divide_49 : decode c_Wh_divide 49 = .ok (.iconst 1, 1) := by decide +kernel
theorem d_Wh_divide_50 : decode c_Wh_divide 50 = .ok (.if_icmp .ne 16, 3) := by decide +kernel
theorem d_Wh_divide_53 : decode c_Wh_divide 53 = .ok (.aload_n 0, 1) := by decide +kernel
theorem d_Wh_divide_54 : decode c_Wh_divide 54 = .ok (.aload_n 1, 1) := by decide +kernel
theorem d_Wh_divide_55 : decode c_Wh_divide 55 = .ok (.getfield 9, 3) := by decide +kernel
theorem d_Wh_divide_58 : decode c_Wh_divide 58 = .ok (.iconst 0, 1) := by decide +kernel
theorem d_Wh_divide_59 : decode c_Wh_divide 59 = .ok (.iaload, 1) := by decide +kernel
theorem d_Wh_divide_60 : decode c_Wh_divide 60 = .ok (.invokevirtual 72, 3) := by decide +kernel
theorem d_Wh_divide_63 : decode c_Wh_divide 63 = .ok (.goto 100, 3) := by decide +kernel
theorem d_Wh_divide_66 : decode c_Wh_divide 66 = .ok (.aload_n 1, 1) := by decide +kernel
theorem d_Wh_divide_67 : decode c_Wh_divide 67 = .ok (.invokevirtual 75, 3) := by decide +kernel
theorem d_Wh_divide_70 : decode c_Wh_divide 70 = .ok (.istore 5, 2) := by decide +kernel
theorem d_Wh_divide_72 : decode c_Wh_divide 72 = .ok (.aload_n 2, 1) := by decide +kernel
theorem d_Wh_divide_73 : decode c_Wh_divide 73 = .ok (.aload_n 0, 1) := by decide +kernel
theorem d_Wh_divide_74 : decode c_Wh_divide 74 = .ok (.iload 5, 2) := by decide +kernel
theorem d_Wh_divide_76 : decode c_Wh_divide 76 = .ok (.invokevirtual 79, 3) := by decide +kernel
theorem d_Wh_divide_79 : decode c_Wh_divide 79 = .ok (.aload_n 3, 1) := by decide +kernel
theorem d_Wh_divide_80 : decode c_Wh_divide 80 = .ok (.aload_n 1, 1) := by decide +kernel
theorem d_Wh_divide_81 : decode c_Wh_divide 81 = .ok (.iload 5, 2) := by decide +kernel
theorem d_Wh_divide_83 : decode c_Wh_divide 83 = .ok (.invokevirtual 79, 3) := by decide +kernel
theorem d_Wh_divide_86 : decode c_Wh_divide 86 = .ok (.iload 4, 2) := by decide +kernel
theorem d_Wh_divide_88 : decode c_Wh_divide 88 = .ok (.istore 6, 2) := by decide +kernel
theorem d_Wh_divide_90 : decode c_Wh_divide 90 = .ok (.iload 6, 2) := by decide +kernel
theorem d_Wh_divide_92 : decode c_Wh_divide 92 = .ok (.ifCond .lt 71, 3) := by decide +kernel
theorem d_Wh_divide_95 : decode c_Wh_divide 95 = .ok (.aload_n 2, 1) := by decide +kernel
theorem d_Wh_divide_96 : decode c_Wh_divide 96 = .ok (.aload_n 3, 1) := by decide +kernel
theorem d_Wh_divide_97 : decode c_Wh_divide 97 = .ok (.aload_n 1, 1) := by decide +kernel
theorem d_Wh_divide_98 : decode c_Wh_divide 98 = .ok (.getfield 29, 3) := by decide +kernel
theorem d_Wh_divide_101 : decode c_Wh_divide 101 = .ok (.iload 6, 2) := by decide +kernel
theorem d_Wh_divide_103 : decode c_Wh_divide 103 = .ok (.invokevirtual 83, 3) := by decide +kernel
theorem d_Wh_divide_106 : decode c_Wh_divide 106 = .ok (.lstore 7, 2) := by decide +kernel
theorem d_Wh_divide_108 : decode c_Wh_divide 108 = .ok (.aload_n 2, 1) := by decide +kernel
theorem d_Wh_divide_109 : decode c_Wh_divide 109 = .ok (.aload_n 3, 1) := by decide +kernel
theorem d_Wh_divide_110 : decode c_Wh_divide 110 = .ok (.aload_n 1, 1) := by decide +kernel
theorem d_Wh_divide_111 : decode c_Wh_divide 111 = .ok (.getfield 29, 3) := by decide +kernel
theorem d_Wh_divide_114 : decode c_Wh_divide 114 = .ok (.iload 6, 2) := by decide +kernel
theorem d_Wh_divide_116 : decode c_Wh_divide 116 = .ok (.lload 7, 2) := by decide +kernel
theorem d_Wh_divide_118 : decode c_Wh_divide 118 = .ok (.invokevirtual 87, 3) := by decide +kernel
theorem d_Wh_divide_121 : decode c_Wh_divide 121 = .ok (.lconst 0, 1) := by decide +kernel
theorem d_Wh_divide_122 : decode c_Wh_divide 122 = .ok (.lcmp, 1) := by decide +kernel
theorem d_Wh_divide_123 : decode c_Wh_divide 123 = .ok (.ifCond .ge 24, 3) := by decide +kernel
theorem d_Wh_divide_126 : decode c_Wh_divide 126 = .ok (.lload 7, 2) := by decide +kernel
theorem d_Wh_divide_128 : decode c_Wh_divide 128 = .ok (.lconst 1, 1) := by decide +kernel
theorem d_Wh_divide_129 : decode c_Wh_divide 129 = .ok (.lsub, 1) := by decide +kernel
theorem d_Wh_divide_130 : decode c_Wh_divide 130 = .ok (.lstore 7, 2) := by decide +kernel
theorem d_Wh_divide_132 : decode c_Wh_divide 132 = .ok (.aload_n 2, 1) := by decide +kernel
theorem d_Wh_divide_133 : decode c_Wh_divide 133 = .ok (.aload_n 3, 1) := by decide +kernel
theorem d_Wh_divide_134 : decode c_Wh_divide 134 = .ok (.aload_n 1, 1) := by decide +kernel
theorem d_Wh_divide_135 : decode c_Wh_divide 135 = .ok (.getfield 29, 3) := by decide +kernel
theorem d_Wh_divide_138 : decode c_Wh_divide 138 = .ok (.iload 6, 2) := by decide +kernel
theorem d_Wh_divide_140 : decode c_Wh_divide 140 = .ok (.ldc2_w 91, 3) := by decide +kernel
theorem d_Wh_divide_143 : decode c_Wh_divide 143 = .ok (.invokevirtual 87, 3) := by decide +kernel
theorem d_Wh_divide_146 : decode c_Wh_divide 146 = .ok (.pop2, 1) := by decide +kernel
theorem d_Wh_divide_147 : decode c_Wh_divide 147 = .ok (.aload_n 0, 1) := by decide +kernel
theorem d_Wh_divide_148 : decode c_Wh_divide 148 = .ok (.getfield 9, 3) := by decide +kernel
theorem d_Wh_divide_151 : decode c_Wh_divide 151 = .ok (.iload 6, 2) := by decide +kernel
theorem d_Wh_divide_153 : decode c_Wh_divide 153 = .ok (.lload 7, 2) := by decide +kernel
theorem d_Wh_divide_155 : decode c_Wh_divide 155 = .ok (.l2i, 1) := by decide +kernel
theorem d_Wh_divide_156 : decode c_Wh_divide 156 = .ok (.iastore, 1) := by decide +kernel
theorem d_Wh_divide_157 : decode c_Wh_divide 157 = .ok (.iinc 6 (-1), 3) := by decide +kernel
theorem d_Wh_divide_160 : decode c_Wh_divide 160 = .ok (.goto (-70), 3) := by decide +kernel
theorem d_Wh_divide_163 : decode c_Wh_divide 163 = .ok (.aload_n 0, 1) := by decide +kernel
theorem d_Wh_divide_164 : decode c_Wh_divide 164 = .ok (.iload 4, 2) := by decide +kernel
theorem d_Wh_divide_166 : decode c_Wh_divide 166 = .ok (.iconst 1, 1) := by decide +kernel
theorem d_Wh_divide_167 : decode c_Wh_divide 167 = .ok (.iadd, 1) := by decide +kernel
theorem d_Wh_divide_168 : decode c_Wh_divide 168 = .ok (.invokevirtual 25, 3) := by decide +kernel
theorem d_Wh_divide_171 : decode c_Wh_divide 171 = .ok (.return_, 1) := by decide +kernel
set_option maxRecDepth 100000 in
set_option maxHeartbeats 16000000 in
/-- divide -/
theorem g_Wh_divide (l : Launch) (G : va_G) (k : Nat → ClassId) (h0 : Nat) (s0 sl : Nat) (Mx : Nat) (dd : Nat) (LL : Nat) (nn9 : Nat) (gg : Nat → Nat) (zz : Int) (ho : Nat) (do9 : Nat) (Lo : Nat) (no9 : Nat) (go : Nat → Nat) (zo : Int) (hq : Nat) (dq : Nat) (Lq : Nat) (xq9 : Int32) (yq9 : Int32) (gq : Nat → Nat) (hu : Nat) (du : Nat) (Lu : Nat) (xu9 : Int32) (yu9 : Int32) (gu : Nat → Nat) (hw : whO LL nn9 gg zz) (hv : whO Lo no9 go zo) (hrq : raO Lq gq) (hru : raO Lu gu) (hm1 : 2 * (nn9 + 1) ≤ Mx) (hm0 : 2 * (no9 + 1) ≤ Mx) (hmq : Lq ≤ Mx) (hmu : Lu ≤ Mx) (hm3 : Mx ≤ 400) : CG l y_Wh_divide c_Wh_divide 9 none { frames := 4, cells := 2 * Mx, slots := 4 * Mx, locals := 129 } [.ref h0, .ref ho, .ref hq, .ref hu] G k s0 sl [(h0, .inr (2, [.ref dd, .int (nI nn9), .int (sgI zz)])), (dd, .inl (k 0, LL, .inl (fun i => nI (gg i)))), (ho, .inr (2, [.ref do9, .int (nI no9), .int (sgI zo)])), (do9, .inl (k 0, Lo, .inl (fun i => nI (go i)))), (hq, .inr (2, [.ref dq, .int xq9, .int yq9])), (dq, .inl (k 0, Lq, .inl (fun i => nI (gq i)))), (hu, .inr (2, [.ref du, .int xu9, .int yu9])), (du, .inl (k 0, Lu, .inl (fun i => nI (gu i))))] (fun (u : Nat × (Nat → Nat) × (Nat × Nat × (Nat → Nat)) × (Nat × Nat × (Nat → Nat))) => none) (fun (u : Nat × (Nat → Nat) × (Nat × Nat × (Nat → Nat)) × (Nat × Nat × (Nat → Nat))) => whO LL u.1 u.2.1 (zz.tdiv zo) ∧ raO u.2.2.1.2.1 u.2.2.1.2.2 ∧ Lq ≤ u.2.2.1.2.1 ∧ u.2.2.1.2.1 ≤ Mx ∧ raO u.2.2.2.2.1 u.2.2.2.2.2 ∧ Lu ≤ u.2.2.2.2.1 ∧ u.2.2.2.2.1 ≤ Mx) (fun (u : Nat × (Nat → Nat) × (Nat × Nat × (Nat → Nat)) × (Nat × Nat × (Nat → Nat))) => [(h0, .inr (2, [.ref dd, .int (nI u.1), .int (sgI (zz.tdiv zo))])), (dd, .inl (k 0, LL, .inl (fun i => nI (u.2.1 i)))), (ho, .inr (2, [.ref do9, .int (nI no9), .int (sgI zo)])), (do9, .inl (k 0, Lo, .inl (fun i => nI (go i)))), (hq, .inr (2, [.ref u.2.2.1.1, .int xq9, .int yq9])), (u.2.2.1.1, .inl (k 0, u.2.2.1.2.1, .inl (fun i => nI (u.2.2.1.2.2 i)))), (hu, .inr (2, [.ref u.2.2.2.1, .int xu9, .int yu9])), (u.2.2.2.1, .inl (k 0, u.2.2.2.2.1, .inl (fun i => nI (u.2.2.2.2.2 i))))]) (fun (u : Nat × (Nat → Nat) × (Nat × Nat × (Nat → Nat)) × (Nat × Nat × (Nat → Nat))) => (u.2.2.1.2.1 - Lq) + (u.2.2.2.2.1 - Lu)) (fun (u : Nat × (Nat → Nat) × (Nat × Nat × (Nat → Nat)) × (Nat × Nat × (Nat → Nat))) => 2 * (u.2.2.1.2.1 - Lq) + 2 * (u.2.2.2.2.1 - Lu)) (2 * Mx) (4 * Mx) := by
  refine met_startG (by decide) (Nat.le_of_ble_eq_true rfl) ?_
  intro p e s m below meth c C K hA hsz S ls hl
  generalize va_A [(h0, .inr (2, [.ref dd, .int (nI nn9), .int (sgI zz)])), (dd, .inl (k 0, LL, .inl (fun i => nI (gg i)))), (ho, .inr (2, [.ref do9, .int (nI no9), .int (sgI zo)])), (do9, .inl (k 0, Lo, .inl (fun i => nI (go i)))), (hq, .inr (2, [.ref dq, .int xq9, .int yq9])), (dq, .inl (k 0, Lq, .inl (fun i => nI (gq i)))), (hu, .inr (2, [.ref du, .int xu9, .int yu9])), (du, .inl (k 0, Lu, .inl (fun i => nI (gu i))))] s0 = A at hA S ⊢
  have hx := C.1
  have hb := C.2.1
  have hl : lv_has ls 9 [(0, .ref h0), (1, .ref ho), (2, .ref hq), (3, .ref hu)] := hl
  have hw0 := hw
  obtain ⟨w1, w2, w3, w4, w5, w6⟩ := hw0
  have hv0 := hv
  obtain ⟨v1, v2, v3, v4, v5, v6⟩ := hv0
  refine lv_aload_n hx hb d_Wh_divide_0 rfl (lv_at hl 1 rfl) ?_
  refine r_get C K S 2 rfl rfl clOk_Wh 1 (by decide) wf_Wh_29 (v := .int (nI no9)) rfl d_Wh_divide_1 ?_
  refine z_if_eq (a := no9) (tgt := 15) hx hb d_Wh_divide_4 (by decide) (by omega) (fun hc1 => ?_) (fun hc1 => ?_)
  · refine lv_aload_n hx hb d_Wh_divide_15 rfl (lv_at hl 0 rfl) ?_
    refine lv_lconst (v := 0) hx hb d_Wh_divide_16 (by decide) ?_
    refine z_topl (y := lZ 0) (by decide) ?_
    refine q_back0 (wi := [(h0, .inr (2, [.ref dd, .int (nI nn9), .int (sgI zz)])), (dd, .inl (k 0, LL, .inl (fun i => nI (gg i))))]) (wr := [(ho, .inr (2, [.ref do9, .int (nI no9), .int (sgI zo)])), (do9, .inl (k 0, Lo, .inl (fun i => nI (go i)))), (hq, .inr (2, [.ref dq, .int xq9, .int yq9])), (dq, .inl (k 0, Lq, .inl (fun i => nI (gq i)))), (hu, .inr (2, [.ref du, .int xu9, .int yu9])), (du, .inl (k 0, Lu, .inl (fun i => nI (gu i))))]) S hA [0, 1] [2, 3, 4, 5, 6, 7] rfl rfl (by decide) (by decide) (va_runV (As := [.long (lZ 0)]) (rest := []) ⟨hx, hb, C.2.2.1, C.2.2.2.1, C.2.2.2.2.1⟩ (g_Wh_set l G k h0 _ _ 0 dd LL (nI nn9) (sgI zz) gg (wh_ra hw) (by decide) (by decide)) (k_virt (n := 1) C wc_Wh_set rfl rfl wz_Wh wm_Wh_68 wn_Wh_set ws_Wh_set (by decide +kernel) ⟨(Nat.le_of_ble_eq_true rfl), (Nat.le_of_ble_eq_true rfl)⟩) (pr_nowVG K S [0, 1] (by decide) rfl 0 rfl rfl) rfl rfl hl.1 rfl (lv_room (Nat.le_of_ble_eq_true rfl)) d_Wh_divide_17 ⟨(Nat.zero_le _), (Nat.zero_le _)⟩) (fun c8 H locs hw2 S => ?_)
    have S : Sw G A s.heap _ _ [(ho, .inr (2, [.ref do9, .int (nI no9), .int (sgI zo)])), (do9, .inl (k 0, Lo, .inl (fun i => nI (go i)))), (hq, .inr (2, [.ref dq, .int xq9, .int yq9])), (dq, .inl (k 0, Lq, .inl (fun i => nI (gq i)))), (hu, .inr (2, [.ref du, .int xu9, .int yu9])), (du, .inl (k 0, Lu, .inl (fun i => nI (gu i)))), (h0, .inr (2, [.ref dd, .int (nI c8.1), .int (sgI 0)])), (dd, .inl (k 0, LL, .inl (fun i => nI (c8.2 i))))] := S
    have hw2 : whO LL c8.1 c8.2 0 := hw2
    show W p l e _ s m _ below meth c H locs _ _ _ (F0 m 20 ls [])
    have k1 := hw2
    have e1 : zz.tdiv zo = 0 := tdiv_0 (Or.inl ((whn_0 hv).mp hc1))
    have S : Sw G A s.heap H locs [(ho, .inr (2, [.ref do9, .int (nI no9), .int (sgI zo)])), (do9, .inl (k 0, Lo, .inl (fun i => nI (go i)))), (hq, .inr (2, [.ref dq, .int xq9, .int yq9])), (dq, .inl (k 0, Lq, .inl (fun i => nI (gq i)))), (hu, .inr (2, [.ref du, .int xu9, .int yu9])), (du, .inl (k 0, Lu, .inl (fun i => nI (gu i)))), (h0, .inr (2, [.ref dd, .int (nI c8.1), .int (sgI (zz.tdiv zo))])), (dd, .inl (k 0, LL, .inl (fun i => nI (c8.2 i))))] := by rw [e1]; exact S
    exact q_vret C K hsz (c8.1, c8.2, (dq, Lq, gq), (du, Lu, gu)) (show whO LL c8.1 c8.2 (zz.tdiv zo) ∧ raO Lq gq ∧ Lq ≤ Lq ∧ Lq ≤ Mx ∧ raO Lu gu ∧ Lu ≤ Lu ∧ Lu ≤ Mx from ⟨by rw [e1]; exact k1, hrq, Nat.le_refl _, hmq, hru, Nat.le_refl _, hmu⟩) (S.sub [6, 7, 0, 1, 2, 3, 4, 5] (by decide) rfl) d_Wh_divide_20 (Nat.zero_le _) (Nat.zero_le _) (Nat.zero_le _) (Nat.zero_le _)
  · refine lv_aload_n hx hb d_Wh_divide_7 rfl (lv_at hl 0 rfl) ?_
    refine lv_aload_n hx hb d_Wh_divide_8 rfl (lv_at hl 1 rfl) ?_
    refine q_back0 (wi := [(h0, .inr (2, [.ref dd, .int (nI nn9), .int (sgI zz)])), (dd, .inl (k 0, LL, .inl (fun i => nI (gg i)))), (ho, .inr (2, [.ref do9, .int (nI no9), .int (sgI zo)])), (do9, .inl (k 0, Lo, .inl (fun i => nI (go i))))]) (wr := [(hq, .inr (2, [.ref dq, .int xq9, .int yq9])), (dq, .inl (k 0, Lq, .inl (fun i => nI (gq i)))), (hu, .inr (2, [.ref du, .int xu9, .int yu9])), (du, .inl (k 0, Lu, .inl (fun i => nI (gu i))))]) S hA [0, 1, 2, 3] [4, 5, 6, 7] rfl rfl (by decide) (by decide) (va_runV (As := [.ref ho]) (rest := []) ⟨hx, hb, C.2.2.1, C.2.2.2.1, C.2.2.2.2.1⟩ (g_Wh_compareAmount l G k h0 _ _ dd LL nn9 gg zz ho do9 Lo no9 go zo (by first | assumption | omega) (by first | assumption | omega)) (k_virt (n := 1) C wc_Wh_compareAmount rfl rfl wz_Wh wm_Wh_46 wn_Wh_compareAmount ws_Wh_compareAmount (by decide +kernel) ⟨(Nat.le_of_ble_eq_true rfl), (Nat.le_of_ble_eq_true rfl)⟩) (pr_nowVG K S [0, 1, 2, 3] (by decide) rfl 0 rfl rfl) rfl rfl hl.1 rfl (lv_room (Nat.le_of_ble_eq_true rfl)) d_Wh_divide_9 ⟨(Nat.zero_le _), (Nat.zero_le _)⟩) (fun u3 H locs hw4 S => ?_)
    have S : Sw G A s.heap _ _ [(hq, .inr (2, [.ref dq, .int xq9, .int yq9])), (dq, .inl (k 0, Lq, .inl (fun i => nI (gq i)))), (hu, .inr (2, [.ref du, .int xu9, .int yu9])), (du, .inl (k 0, Lu, .inl (fun i => nI (gu i)))), (h0, .inr (2, [.ref dd, .int (nI nn9), .int (sgI zz)])), (dd, .inl (k 0, LL, .inl (fun i => nI (gg i)))), (ho, .inr (2, [.ref do9, .int (nI no9), .int (sgI zo)])), (do9, .inl (k 0, Lo, .inl (fun i => nI (go i))))] := S
    have hw4 : True := hw4
    show W p l e _ s m _ below meth c H locs _ _ _ (F0 m 12 ls [.int (cpN zz.natAbs zo.natAbs)])
    refine lv_if_ge (tgt := 21) hx hb d_Wh_divide_12 (by decide) (fun hc5 => ?_) (fun hc5 => ?_)
    · refine lv_aload_n hx hb d_Wh_divide_21 rfl (lv_at hl 0 rfl) ?_
      refine lv_aload_n hx hb d_Wh_divide_22 rfl (lv_at hl 0 rfl) ?_
      refine r_get C K S 4 rfl rfl clOk_Wh 2 (by decide) wf_Wh_19 (v := .int (sgI zz)) rfl d_Wh_divide_23 ?_
      refine lv_aload_n hx hb d_Wh_divide_26 rfl (lv_at hl 1 rfl) ?_
      refine r_get C K S 6 rfl rfl clOk_Wh 2 (by decide) wf_Wh_19 (v := .int (sgI zo)) rfl d_Wh_divide_27 ?_
      refine z_imul (v := sgI zz * sgI zo) hx hb d_Wh_divide_30 rfl ?_
      refine r_put C K S 4 rfl rfl clOk_Wh 2 (by decide) wf_Wh_19 rfl (ty := .int) (v := .int (sgI zz * sgI zo)) (by decide +kernel) rfl rfl (Nat.le_of_ble_eq_true rfl) (fs' := [.ref dd, .int (nI nn9), .int (sgI zz * sgI zo)]) (ws' := [(hq, .inr (2, [.ref dq, .int xq9, .int yq9])), (dq, .inl (k 0, Lq, .inl (fun i => nI (gq i)))), (hu, .inr (2, [.ref du, .int xu9, .int yu9])), (du, .inl (k 0, Lu, .inl (fun i => nI (gu i)))), (h0, .inr (2, [.ref dd, .int (nI nn9), .int (sgI zz * sgI zo)])), (dd, .inl (k 0, LL, .inl (fun i => nI (gg i)))), (ho, .inr (2, [.ref do9, .int (nI no9), .int (sgI zo)])), (do9, .inl (k 0, Lo, .inl (fun i => nI (go i))))]) rfl rfl d_Wh_divide_31 (fun H locs S => ?_)
      have hle : zo.natAbs ≤ zz.natAbs := by have := mt cp_nz.mpr (Int32.not_lt.mpr hc5); omega
      have n1 : zo ≠ 0 := fun q => by have := (whn_0 hv).mpr q; omega
      have hnn := ca_le hv hw hle
      have hn0 : 1 ≤ no9 := by omega
      refine lv_aload_n hx hb d_Wh_divide_34 rfl (lv_at hl 0 rfl) ?_
      refine r_get C K S 4 rfl rfl clOk_Wh 1 (by decide) wf_Wh_29 (v := .int (nI nn9)) rfl d_Wh_divide_35 ?_
      refine lv_aload_n hx hb d_Wh_divide_38 rfl (lv_at hl 1 rfl) ?_
      refine r_get C K S 6 rfl rfl clOk_Wh 1 (by decide) wf_Wh_29 (v := .int (nI no9)) rfl d_Wh_divide_39 ?_
      refine z_isub (x := nI nn9) (y := nI no9) (v := nI (nn9 - no9)) hx hb d_Wh_divide_42 (pk_sub (a := nn9) (b := no9) (by omega)) ?_
      refine lv_istore (lv' := [(4, .int (nI (nn9 - no9))), (0, .ref h0), (1, .ref ho), (2, .ref hq), (3, .ref hu)]) hx hb d_Wh_divide_43 hl (by decide) rfl (fun ls hl => ?_)
      refine lv_aload_n hx hb d_Wh_divide_45 rfl (lv_at hl 2 rfl) ?_
      refine r_get C K S 6 rfl rfl clOk_Wh 1 (by decide) wf_Wh_29 (v := .int (nI no9)) rfl d_Wh_divide_46 ?_
      refine lv_iconst (v := 1) hx hb d_Wh_divide_49 (by decide) ?_
      refine z_icmp_ne (a := no9) (b := 1) (tgt := 66) hx hb d_Wh_divide_50 (by decide) (by omega) (by omega) (fun hc6 => ?_) (fun hc6 => ?_)
      · refine lv_aload_n hx hb d_Wh_divide_66 rfl (lv_at hl 2 rfl) ?_
        refine q_back0 (wi := [(ho, .inr (2, [.ref do9, .int (nI no9), .int (sgI zo)])), (do9, .inl (k 0, Lo, .inl (fun i => nI (go i))))]) (wr := [(hq, .inr (2, [.ref dq, .int xq9, .int yq9])), (dq, .inl (k 0, Lq, .inl (fun i => nI (gq i)))), (hu, .inr (2, [.ref du, .int xu9, .int yu9])), (du, .inl (k 0, Lu, .inl (fun i => nI (gu i)))), (h0, .inr (2, [.ref dd, .int (nI nn9), .int (sgI zz * sgI zo)])), (dd, .inl (k 0, LL, .inl (fun i => nI (gg i))))]) S hA [6, 7] [0, 1, 2, 3, 4, 5] rfl rfl (by decide) (by decide) (va_runV (As := []) (rest := []) ⟨hx, hb, C.2.2.1, C.2.2.2.1, C.2.2.2.2.1⟩ (g_Wh_bitsFree l G k ho _ _ do9 Lo no9 go zo hv hn0) (k_virt (n := 0) C wc_Wh_bitsFree rfl rfl wz_Wh wm_Wh_75 wn_Wh_bitsFree ws_Wh_bitsFree (by decide +kernel) ⟨(Nat.le_of_ble_eq_true rfl), (Nat.le_of_ble_eq_true rfl)⟩) (pr_nowVG K S [6, 7] (by decide) rfl 6 rfl rfl) rfl rfl hl.1 rfl (lv_room (Nat.le_of_ble_eq_true rfl)) d_Wh_divide_67 ⟨(Nat.zero_le _), (Nat.zero_le _)⟩) (fun f7 H locs hw7 S => ?_)
        have S : Sw G A s.heap _ _ [(hq, .inr (2, [.ref dq, .int xq9, .int yq9])), (dq, .inl (k 0, Lq, .inl (fun i => nI (gq i)))), (hu, .inr (2, [.ref du, .int xu9, .int yu9])), (du, .inl (k 0, Lu, .inl (fun i => nI (gu i)))), (h0, .inr (2, [.ref dd, .int (nI nn9), .int (sgI zz * sgI zo)])), (dd, .inl (k 0, LL, .inl (fun i => nI (gg i)))), (ho, .inr (2, [.ref do9, .int (nI no9), .int (sgI zo)])), (do9, .inl (k 0, Lo, .inl (fun i => nI (go i))))] := S
        have hw7 : f7 ≤ 30 ∧ go (no9 - 1) * 2 ^ f7 < 2147483648 ∧ 1073741824 ≤ go (no9 - 1) * 2 ^ f7 := hw7
        show W p l e _ s m _ below meth c H locs _ _ _ (F0 m 70 ls [.int (nI f7)])
        obtain ⟨f1, f2, f3⟩ := hw7
        refine lv_istore (lv' := [(5, .int (nI f7)), (4, .int (nI (nn9 - no9))), (0, .ref h0), (1, .ref ho), (2, .ref hq), (3, .ref hu)]) hx hb d_Wh_divide_70 hl (by decide) rfl (fun ls hl => ?_)
        refine lv_aload_n hx hb d_Wh_divide_72 rfl (lv_at hl 4 rfl) ?_
        refine lv_aload_n hx hb d_Wh_divide_73 rfl (lv_at hl 2 rfl) ?_
        refine lv_iload hx hb d_Wh_divide_74 (lv_at hl 0 rfl) ?_
        refine q_back0 (wi := [(hq, .inr (2, [.ref dq, .int xq9, .int yq9])), (dq, .inl (k 0, Lq, .inl (fun i => nI (gq i)))), (h0, .inr (2, [.ref dd, .int (nI nn9), .int (sgI zz * sgI zo)])), (dd, .inl (k 0, LL, .inl (fun i => nI (gg i))))]) (wr := [(hu, .inr (2, [.ref du, .int xu9, .int yu9])), (du, .inl (k 0, Lu, .inl (fun i => nI (gu i)))), (ho, .inr (2, [.ref do9, .int (nI no9), .int (sgI zo)])), (do9, .inl (k 0, Lo, .inl (fun i => nI (go i))))]) S hA [0, 1, 4, 5] [2, 3, 6, 7] rfl rfl (by decide) (by decide) (va_runV (As := [.ref h0, .int (nI f7)]) (rest := []) ⟨hx, hb, C.2.2.1, C.2.2.2.1, C.2.2.2.2.1⟩ (g_Wh_shift l G k hq _ _ f7 (sgI zz * sgI zo) Mx dq Lq xq9 yq9 gq h0 dd LL nn9 gg zz hrq hw f1 hm1 hmq hm3) (k_virt (n := 2) C wc_Wh_shift rfl rfl wz_Wh wm_Wh_79 wn_Wh_shift ws_Wh_shift (by decide +kernel) ⟨(Nat.le_of_ble_eq_true rfl), (Nat.le_of_ble_eq_true rfl)⟩) (pr_nowVG K S [0, 1, 4, 5] (by decide) rfl 0 rfl rfl) rfl rfl hl.1 rfl (lv_room (Nat.le_of_ble_eq_true rfl)) d_Wh_divide_76 ⟨(show 0 + Mx ≤ 2 * Mx from by omega), (show 0 + (2 * Mx) ≤ 4 * Mx from by omega)⟩) (fun p7 H locs hw8 S => ?_)
        have S : Sw G A s.heap _ _ [(hu, .inr (2, [.ref du, .int xu9, .int yu9])), (du, .inl (k 0, Lu, .inl (fun i => nI (gu i)))), (ho, .inr (2, [.ref do9, .int (nI no9), .int (sgI zo)])), (do9, .inl (k 0, Lo, .inl (fun i => nI (go i)))), (hq, .inr (2, [.ref p7.1, .int xq9, .int yq9])), (p7.1, .inl (k 0, p7.2.1, .inl (fun i => nI (p7.2.2 i)))), (h0, .inr (2, [.ref dd, .int (nI nn9), .int (sgI zz * sgI zo)])), (dd, .inl (k 0, LL, .inl (fun i => nI (gg i))))] := S
        have hw8 : raO p7.2.1 p7.2.2 ∧ Lq ≤ p7.2.1 ∧ nn9 + 1 ≤ p7.2.1 ∧ p7.2.1 ≤ Mx ∧ vl 2147483648 p7.2.2 (nn9 + 1) = zz.natAbs * 2 ^ f7 := hw8
        show W p l e _ s m _ below meth c H locs _ _ _ (F0 m 79 ls [])
        obtain ⟨x1, x2, x3, x4, x5⟩ := hw8
        refine lv_aload_n hx hb d_Wh_divide_79 rfl (lv_at hl 5 rfl) ?_
        refine lv_aload_n hx hb d_Wh_divide_80 rfl (lv_at hl 3 rfl) ?_
        refine lv_iload hx hb d_Wh_divide_81 (lv_at hl 0 rfl) ?_
        refine q_back0 (wi := [(hu, .inr (2, [.ref du, .int xu9, .int yu9])), (du, .inl (k 0, Lu, .inl (fun i => nI (gu i)))), (ho, .inr (2, [.ref do9, .int (nI no9), .int (sgI zo)])), (do9, .inl (k 0, Lo, .inl (fun i => nI (go i))))]) (wr := [(hq, .inr (2, [.ref p7.1, .int xq9, .int yq9])), (p7.1, .inl (k 0, p7.2.1, .inl (fun i => nI (p7.2.2 i)))), (h0, .inr (2, [.ref dd, .int (nI nn9), .int (sgI zz * sgI zo)])), (dd, .inl (k 0, LL, .inl (fun i => nI (gg i))))]) S hA [0, 1, 2, 3] [4, 5, 6, 7] rfl rfl (by decide) (by decide) (va_runV (As := [.ref ho, .int (nI f7)]) (rest := []) ⟨hx, hb, C.2.2.1, C.2.2.2.1, C.2.2.2.2.1⟩ (g_Wh_shift l G k hu _ _ f7 (sgI zo) Mx du Lu xu9 yu9 gu ho do9 Lo no9 go zo hru hv f1 hm0 hmu hm3) (k_virt (n := 2) C wc_Wh_shift rfl rfl wz_Wh wm_Wh_79 wn_Wh_shift ws_Wh_shift (by decide +kernel) ⟨(Nat.le_of_ble_eq_true rfl), (Nat.le_of_ble_eq_true rfl)⟩) (pr_nowVG K S [0, 1, 2, 3] (by decide) rfl 0 rfl rfl) rfl rfl hl.1 rfl (lv_room (Nat.le_of_ble_eq_true rfl)) d_Wh_divide_83 ⟨(show 0 + (p7.2.1 - Lq) + Mx ≤ 2 * Mx from by omega), (show 0 + (2 * (p7.2.1 - Lq)) + (2 * Mx) ≤ 4 * Mx from by omega)⟩) (fun p6 H locs hw9 S => ?_)
        have S : Sw G A s.heap _ _ [(hq, .inr (2, [.ref p7.1, .int xq9, .int yq9])), (p7.1, .inl (k 0, p7.2.1, .inl (fun i => nI (p7.2.2 i)))), (h0, .inr (2, [.ref dd, .int (nI nn9), .int (sgI zz * sgI zo)])), (dd, .inl (k 0, LL, .inl (fun i => nI (gg i)))), (hu, .inr (2, [.ref p6.1, .int xu9, .int yu9])), (p6.1, .inl (k 0, p6.2.1, .inl (fun i => nI (p6.2.2 i)))), (ho, .inr (2, [.ref do9, .int (nI no9), .int (sgI zo)])), (do9, .inl (k 0, Lo, .inl (fun i => nI (go i))))] := S
        have hw9 : raO p6.2.1 p6.2.2 ∧ Lu ≤ p6.2.1 ∧ no9 + 1 ≤ p6.2.1 ∧ p6.2.1 ≤ Mx ∧ vl 2147483648 p6.2.2 (no9 + 1) = zo.natAbs * 2 ^ f7 := hw9
        show W p l e _ s m _ below meth c H locs _ _ _ (F0 m 86 ls [])
        obtain ⟨y1, y2, y3, y4, y5⟩ := hw9
        refine lv_iload hx hb d_Wh_divide_86 (lv_at hl 1 rfl) ?_
        refine lv_istore (lv' := [(6, .int (nI (nn9 - no9))), (5, .int (nI f7)), (4, .int (nI (nn9 - no9))), (0, .ref h0), (1, .ref ho), (2, .ref hq), (3, .ref hu)]) hx hb d_Wh_divide_88 hl (by decide) rfl (fun ls hl => ?_)
        have fit := su_fit hn0 v4 f2 f1
        have flo := su_lo hn0 f3
        rw [v6] at fit flo
        obtain ⟨eV, etop⟩ := su_top hn0 y1.2.2 y5 fit flo
        have hV0 : 0 < vl 2147483648 p6.2.2 no9 := by rw [eV]; exact Nat.mul_pos (by omega) (Nat.two_pow_pos _)
        have hVn : vl 2147483648 p6.2.2 no9 ≤ 2147483648 ^ no9 := by rw [eV]; omega
        have hst : vl 2147483648 p7.2.2 (nn9 + 1) < 2147483648 ^ (nn9 - no9 + 1) * vl 2147483648 p6.2.2 no9 := by rw [x5, eV]; exact du_start (n := no9) (by rw [show nn9 - no9 + no9 = nn9 by omega]; exact wh_lt hw) (by rw [← v6]; exact vl_ge (by omega) (by omega)) hn0
        have lp : ∀ (t9 : Nat), ∀ (O8 : Nat → Nat), ∀ (Q8 : Nat → Nat), (t9 ≤ nn9 - no9 + 1) → (vl 2147483648 O8 (t9 + no9) + vl 2147483648 (fun i => Q8 (t9 + i)) (nn9 - no9 + 1 - t9) * (2147483648 ^ t9 * vl 2147483648 p6.2.2 no9) = zz.natAbs * 2 ^ f7) → (vl 2147483648 O8 (t9 + no9) < 2147483648 ^ t9 * vl 2147483648 p6.2.2 no9) → (∀ i, O8 i < 2147483648) → (∀ i, Q8 i < 2147483648) → ∀ (H : Heap) (locs : List Loc), Sw G A s.heap H locs [(hq, .inr (2, [.ref p7.1, .int xq9, .int yq9])), (p7.1, .inl (k 0, p7.2.1, .inl (fun i => nI (O8 i)))), (h0, .inr (2, [.ref dd, .int (nI nn9), .int (sgI zz * sgI zo)])), (dd, .inl (k 0, LL, .inl (fun i => nI (Q8 i)))), (hu, .inr (2, [.ref p6.1, .int xu9, .int yu9])), (p6.1, .inl (k 0, p6.2.1, .inl (fun i => nI (p6.2.2 i)))), (ho, .inr (2, [.ref do9, .int (nI no9), .int (sgI zo)])), (do9, .inl (k 0, Lo, .inl (fun i => nI (go i))))] → ∀ ls : Array Slot, lv_has ls 9 [(6, .int (pm t9)), (4, .int (nI (nn9 - no9))), (0, .ref h0), (1, .ref ho), (2, .ref hq), (3, .ref hu)] → W p l e { frames := 4, cells := 2 * Mx, slots := 4 * Mx, locals := 129 } s m [Value.ref h0, Value.ref ho, Value.ref hq, Value.ref hu].toArray below meth c H locs (0 + (p7.2.1 - Lq) + (p6.2.1 - Lu)) (0 + (2 * (p7.2.1 - Lq)) + (2 * (p6.2.1 - Lu))) (MQ below (va_Qg (fun (u : Nat × (Nat → Nat) × (Nat × Nat × (Nat → Nat)) × (Nat × Nat × (Nat → Nat))) => none) (fun (u : Nat × (Nat → Nat) × (Nat × Nat × (Nat → Nat)) × (Nat × Nat × (Nat → Nat))) => whO LL u.1 u.2.1 (zz.tdiv zo) ∧ raO u.2.2.1.2.1 u.2.2.1.2.2 ∧ Lq ≤ u.2.2.1.2.1 ∧ u.2.2.1.2.1 ≤ Mx ∧ raO u.2.2.2.2.1 u.2.2.2.2.2 ∧ Lu ≤ u.2.2.2.2.1 ∧ u.2.2.2.2.1 ≤ Mx) (Pog G k A (fun (u : Nat × (Nat → Nat) × (Nat × Nat × (Nat → Nat)) × (Nat × Nat × (Nat → Nat))) => [(h0, .inr (2, [.ref dd, .int (nI u.1), .int (sgI (zz.tdiv zo))])), (dd, .inl (k 0, LL, .inl (fun i => nI (u.2.1 i)))), (ho, .inr (2, [.ref do9, .int (nI no9), .int (sgI zo)])), (do9, .inl (k 0, Lo, .inl (fun i => nI (go i)))), (hq, .inr (2, [.ref u.2.2.1.1, .int xq9, .int yq9])), (u.2.2.1.1, .inl (k 0, u.2.2.1.2.1, .inl (fun i => nI (u.2.2.1.2.2 i)))), (hu, .inr (2, [.ref u.2.2.2.1, .int xu9, .int yu9])), (u.2.2.2.1, .inl (k 0, u.2.2.2.2.1, .inl (fun i => nI (u.2.2.2.2.2 i))))]) s0 sl (fun (u : Nat × (Nat → Nat) × (Nat × Nat × (Nat → Nat)) × (Nat × Nat × (Nat → Nat))) => (u.2.2.1.2.1 - Lq) + (u.2.2.2.2.1 - Lu)) (fun (u : Nat × (Nat → Nat) × (Nat × Nat × (Nat → Nat)) × (Nat × Nat × (Nat → Nat))) => 2 * (u.2.2.1.2.1 - Lq) + 2 * (u.2.2.2.2.1 - Lu))) A) [Value.ref h0, Value.ref ho, Value.ref hq, Value.ref hu].toArray s (2 * Mx) (4 * Mx) A) (F0 m 90 ls []) := by
          intro t9
          induction t9 with
          | zero =>
            intro O8 Q8 ht hI hlt hO hQ H locs S ls hl
            have hl : lv_has ls 9 [(6, .int (-1)), (4, .int (nI (nn9 - no9))), (0, .ref h0), (1, .ref ho), (2, .ref hq), (3, .ref hu)] := hl
            refine lv_iload hx hb d_Wh_divide_90 (lv_at hl 0 rfl) ?_
            refine lv_if_lt (tgt := 163) hx hb d_Wh_divide_92 (by decide) (fun _ => ?_) (fun hq => absurd (by decide) hq)
            refine lv_aload_n hx hb d_Wh_divide_163 rfl (lv_at hl 2 rfl) ?_
            refine lv_iload hx hb d_Wh_divide_164 (lv_at hl 1 rfl) ?_
            refine lv_iconst (v := 1) hx hb d_Wh_divide_166 (by decide) ?_
            refine z_iadd (x := nI (nn9 - no9)) (y := 1) (v := nI ((nn9 - no9) + 1)) hx hb d_Wh_divide_167 (nI_add (nn9 - no9) 1) ?_
            have qd : vl 2147483648 Q8 (nn9 - no9 + 1) = zz.natAbs / zo.natAbs := by
              simp only [Nat.zero_add, Nat.sub_zero, Nat.pow_zero, Nat.one_mul] at hI hlt
              rw [eV] at hI hlt
              exact dv_end hI hlt
            refine q_back0 (wi := [(h0, .inr (2, [.ref dd, .int (nI nn9), .int (sgI zz * sgI zo)])), (dd, .inl (k 0, LL, .inl (fun i => nI (Q8 i))))]) (wr := [(hq, .inr (2, [.ref p7.1, .int xq9, .int yq9])), (p7.1, .inl (k 0, p7.2.1, .inl (fun i => nI (O8 i)))), (hu, .inr (2, [.ref p6.1, .int xu9, .int yu9])), (p6.1, .inl (k 0, p6.2.1, .inl (fun i => nI (p6.2.2 i)))), (ho, .inr (2, [.ref do9, .int (nI no9), .int (sgI zo)])), (do9, .inl (k 0, Lo, .inl (fun i => nI (go i))))]) S hA [2, 3] [0, 1, 4, 5, 6, 7] rfl rfl (by decide) (by decide) (va_runV (As := [.int (nI ((nn9 - no9) + 1))]) (rest := []) ⟨hx, hb, C.2.2.1, C.2.2.2.1, C.2.2.2.2.1⟩ (g_Wh_trim l G k h0 _ _ ((nn9 - no9) + 1) dd LL (nI nn9) (sgI zz * sgI zo) Q8 ⟨w2, w3, hQ⟩ (by omega)) (k_virt (n := 1) C wc_Wh_trim rfl rfl wz_Wh wm_Wh_25 wn_Wh_trim ws_Wh_trim (by decide +kernel) ⟨(Nat.le_of_ble_eq_true rfl), (Nat.le_of_ble_eq_true rfl)⟩) (pr_nowVG K S [2, 3] (by decide) rfl 2 rfl rfl) rfl rfl hl.1 rfl (lv_room (Nat.le_of_ble_eq_true rfl)) d_Wh_divide_168 ⟨(show 0 + (p7.2.1 - Lq) + (p6.2.1 - Lu) ≤ 2 * Mx from by omega), (show 0 + (2 * (p7.2.1 - Lq)) + (2 * (p6.2.1 - Lu)) ≤ 4 * Mx from by omega)⟩) (fun n7 H locs hw10 S => ?_)
            have S : Sw G A s.heap _ _ [(hq, .inr (2, [.ref p7.1, .int xq9, .int yq9])), (p7.1, .inl (k 0, p7.2.1, .inl (fun i => nI (O8 i)))), (hu, .inr (2, [.ref p6.1, .int xu9, .int yu9])), (p6.1, .inl (k 0, p6.2.1, .inl (fun i => nI (p6.2.2 i)))), (ho, .inr (2, [.ref do9, .int (nI no9), .int (sgI zo)])), (do9, .inl (k 0, Lo, .inl (fun i => nI (go i)))), (h0, .inr (2, [.ref dd, .int (nI n7), .int (if n7 = 0 then 0 else (sgI zz * sgI zo))])), (dd, .inl (k 0, LL, .inl (fun i => nI (Q8 i))))] := S
            have hw10 : n7 ≤ ((nn9 - no9) + 1) ∧ (n7 = 0 ∨ Q8 (n7 - 1) ≠ 0) ∧ vl 2147483648 Q8 n7 = vl 2147483648 Q8 ((nn9 - no9) + 1) := hw10
            show W p l e _ s m _ below meth c H locs _ _ _ (F0 m 171 ls [])
            obtain ⟨t1, t2, t3⟩ := hw10
            have kw : whO LL n7 Q8 (zz.tdiv zo) := wh_of (a := zz.natAbs / zo.natAbs) (by omega) ⟨w2, w3, hQ⟩ t2 (by rw [t3]; exact qd) (Int.natAbs_tdiv zz zo)
            have S : Sw G A s.heap H locs [(hq, .inr (2, [.ref p7.1, .int xq9, .int yq9])), (p7.1, .inl (k 0, p7.2.1, .inl (fun i => nI (O8 i)))), (hu, .inr (2, [.ref p6.1, .int xu9, .int yu9])), (p6.1, .inl (k 0, p6.2.1, .inl (fun i => nI (p6.2.2 i)))), (ho, .inr (2, [.ref do9, .int (nI no9), .int (sgI zo)])), (do9, .inl (k 0, Lo, .inl (fun i => nI (go i)))), (h0, .inr (2, [.ref dd, .int (nI n7), .int (sgI (zz.tdiv zo))])), (dd, .inl (k 0, LL, .inl (fun i => nI (Q8 i))))] := by rw [show sgI (zz.tdiv zo) = (if n7 = 0 then 0 else sgI zz * sgI zo) from by rw [← sg_div hle n1]; exact (sg_pick (whn_0 kw) (fun q => q) (fun _ => rfl)).symm]; exact S
            exact q_vret C K hsz (n7, Q8, (p7.1, p7.2.1, O8), (p6.1, p6.2.1, p6.2.2)) (show whO LL n7 Q8 (zz.tdiv zo) ∧ raO p7.2.1 O8 ∧ Lq ≤ p7.2.1 ∧ p7.2.1 ≤ Mx ∧ raO p6.2.1 p6.2.2 ∧ Lu ≤ p6.2.1 ∧ p6.2.1 ≤ Mx from ⟨kw, ⟨x1.1, x1.2.1, hO⟩, x2, x4, y1, y2, y4⟩) (S.sub [6, 7, 4, 5, 0, 1, 2, 3] (by decide) rfl) d_Wh_divide_171 (show 0 + (p7.2.1 - Lq) + (p6.2.1 - Lu) ≤ (p7.2.1 - Lq) + (p6.2.1 - Lu) from by omega) (show 0 + (2 * (p7.2.1 - Lq)) + (2 * (p6.2.1 - Lu)) ≤ 2 * (p7.2.1 - Lq) + 2 * (p6.2.1 - Lu) from by omega) (show 0 + (p7.2.1 - Lq) + (p6.2.1 - Lu) ≤ 2 * Mx from by omega) (show 0 + (2 * (p7.2.1 - Lq)) + (2 * (p6.2.1 - Lu)) ≤ 4 * Mx from by omega)
          | succ y9 ih_lp =>
            intro O8 Q8 ht hI hlt hO hQ H locs S ls hl
            have hl : lv_has ls 9 [(6, .int (nI y9)), (4, .int (nI (nn9 - no9))), (0, .ref h0), (1, .ref ho), (2, .ref hq), (3, .ref hu)] := hl
            refine lv_iload hx hb d_Wh_divide_90 (lv_at hl 0 rfl) ?_
            refine z_if_lt (a := y9) (tgt := 163) hx hb d_Wh_divide_92 (by decide) (by omega) ?_
            refine lv_aload_n hx hb d_Wh_divide_95 rfl (lv_at hl 4 rfl) ?_
            refine lv_aload_n hx hb d_Wh_divide_96 rfl (lv_at hl 5 rfl) ?_
            refine lv_aload_n hx hb d_Wh_divide_97 rfl (lv_at hl 3 rfl) ?_
            refine r_get C K S 6 rfl rfl clOk_Wh 1 (by decide) wf_Wh_29 (v := .int (nI no9)) rfl d_Wh_divide_98 ?_
            refine lv_iload hx hb d_Wh_divide_101 (lv_at hl 0 rfl) ?_
            have hWV := du_first (n := no9) hlt
            refine q_back0 (wi := [(hq, .inr (2, [.ref p7.1, .int xq9, .int yq9])), (p7.1, .inl (k 0, p7.2.1, .inl (fun i => nI (O8 i)))), (hu, .inr (2, [.ref p6.1, .int xu9, .int yu9])), (p6.1, .inl (k 0, p6.2.1, .inl (fun i => nI (p6.2.2 i))))]) (wr := [(h0, .inr (2, [.ref dd, .int (nI nn9), .int (sgI zz * sgI zo)])), (dd, .inl (k 0, LL, .inl (fun i => nI (Q8 i)))), (ho, .inr (2, [.ref do9, .int (nI no9), .int (sgI zo)])), (do9, .inl (k 0, Lo, .inl (fun i => nI (go i))))]) S hA [0, 1, 4, 5] [2, 3, 6, 7] rfl rfl (by decide) (by decide) (va_runV (As := [.ref hu, .int (nI no9), .int (nI y9)]) (rest := []) ⟨hx, hb, C.2.2.1, C.2.2.2.1, C.2.2.2.2.1⟩ (g_Wh_guess l G k hq _ _ no9 y9 p7.1 p7.2.1 xq9 yq9 O8 hu p6.1 p6.2.1 xu9 yu9 p6.2.2 ⟨x1.1, x1.2.1, hO⟩ y1 (by omega) (by omega) (by omega) etop hWV) (k_virt (n := 3) C wc_Wh_guess rfl rfl wz_Wh wm_Wh_83 wn_Wh_guess ws_Wh_guess (by decide +kernel) ⟨(Nat.le_of_ble_eq_true rfl), (Nat.le_of_ble_eq_true rfl)⟩) (pr_nowVG K S [0, 1, 4, 5] (by decide) rfl 0 rfl rfl) rfl rfl hl.1 rfl (lv_room (Nat.le_of_ble_eq_true rfl)) d_Wh_divide_103 ⟨(show 0 + (p7.2.1 - Lq) + (p6.2.1 - Lu) ≤ 2 * Mx from by omega), (show 0 + (2 * (p7.2.1 - Lq)) + (2 * (p6.2.1 - Lu)) ≤ 4 * Mx from by omega)⟩) (fun t7 H locs hw11 S => ?_)
            have S : Sw G A s.heap _ _ [(h0, .inr (2, [.ref dd, .int (nI nn9), .int (sgI zz * sgI zo)])), (dd, .inl (k 0, LL, .inl (fun i => nI (Q8 i)))), (ho, .inr (2, [.ref do9, .int (nI no9), .int (sgI zo)])), (do9, .inl (k 0, Lo, .inl (fun i => nI (go i)))), (hq, .inr (2, [.ref p7.1, .int xq9, .int yq9])), (p7.1, .inl (k 0, p7.2.1, .inl (fun i => nI (O8 i)))), (hu, .inr (2, [.ref p6.1, .int xu9, .int yu9])), (p6.1, .inl (k 0, p6.2.1, .inl (fun i => nI (p6.2.2 i))))] := S
            have hw11 : vl 2147483648 (fun i => O8 (y9 + i)) (no9 + 1) / vl 2147483648 p6.2.2 no9 ≤ t7 ∧ t7 ≤ vl 2147483648 (fun i => O8 (y9 + i)) (no9 + 1) / vl 2147483648 p6.2.2 no9 + 1 ∧ t7 ≤ 2147483648 := hw11
            show W p l e _ s m _ below meth c H locs _ _ _ (F0 m 106 ls [.long (lN t7)])
            obtain ⟨g1, g2, g3⟩ := hw11
            refine z_topl (y := lZ (t7 : Int)) (lN_lZ t7) ?_
            refine lv_lstore (lv' := [(7, .long (lZ (t7 : Int))), (6, .int (nI y9)), (4, .int (nI (nn9 - no9))), (0, .ref h0), (1, .ref ho), (2, .ref hq), (3, .ref hu)]) hx hb d_Wh_divide_106 hl (by decide) rfl (fun ls hl => ?_)
            refine lv_aload_n hx hb d_Wh_divide_108 rfl (lv_at hl 5 rfl) ?_
            refine lv_aload_n hx hb d_Wh_divide_109 rfl (lv_at hl 6 rfl) ?_
            refine lv_aload_n hx hb d_Wh_divide_110 rfl (lv_at hl 4 rfl) ?_
            refine r_get C K S 2 rfl rfl clOk_Wh 1 (by decide) wf_Wh_29 (v := .int (nI no9)) rfl d_Wh_divide_111 ?_
            refine lv_iload hx hb d_Wh_divide_114 (lv_at hl 1 rfl) ?_
            refine lv_lload hx hb d_Wh_divide_116 (lv_at hl 0 rfl) ?_
            refine q_back0 (wi := [(hq, .inr (2, [.ref p7.1, .int xq9, .int yq9])), (p7.1, .inl (k 0, p7.2.1, .inl (fun i => nI (O8 i)))), (hu, .inr (2, [.ref p6.1, .int xu9, .int yu9])), (p6.1, .inl (k 0, p6.2.1, .inl (fun i => nI (p6.2.2 i))))]) (wr := [(h0, .inr (2, [.ref dd, .int (nI nn9), .int (sgI zz * sgI zo)])), (dd, .inl (k 0, LL, .inl (fun i => nI (Q8 i)))), (ho, .inr (2, [.ref do9, .int (nI no9), .int (sgI zo)])), (do9, .inl (k 0, Lo, .inl (fun i => nI (go i))))]) S hA [4, 5, 6, 7] [0, 1, 2, 3] rfl rfl (by decide) (by decide) (va_runV (As := [.ref hu, .int (nI no9), .int (nI y9), .long (lZ (t7 : Int))]) (rest := []) ⟨hx, hb, C.2.2.1, C.2.2.2.1, C.2.2.2.2.1⟩ (g_Wh_takeOff l G k hq _ _ no9 y9 (t7 : Int) p7.1 p7.2.1 xq9 yq9 O8 hu p6.1 p6.2.1 xu9 yu9 p6.2.2 ⟨x1.1, x1.2.1, hO⟩ y1 (by omega) (by omega) (by omega) (by omega)) (k_virt (n := 4) C wc_Wh_takeOff rfl rfl wz_Wh wm_Wh_87 wn_Wh_takeOff ws_Wh_takeOff (by decide +kernel) ⟨(Nat.le_of_ble_eq_true rfl), (Nat.le_of_ble_eq_true rfl)⟩) (pr_nowVG K S [4, 5, 6, 7] (by decide) rfl 4 rfl rfl) rfl rfl hl.1 rfl (lv_room (Nat.le_of_ble_eq_true rfl)) d_Wh_divide_118 ⟨(show 0 + (p7.2.1 - Lq) + (p6.2.1 - Lu) ≤ 2 * Mx from by omega), (show 0 + (2 * (p7.2.1 - Lq)) + (2 * (p6.2.1 - Lu)) ≤ 4 * Mx from by omega)⟩) (fun r7 H locs hw12 S => ?_)
            have S : Sw G A s.heap _ _ [(h0, .inr (2, [.ref dd, .int (nI nn9), .int (sgI zz * sgI zo)])), (dd, .inl (k 0, LL, .inl (fun i => nI (Q8 i)))), (ho, .inr (2, [.ref do9, .int (nI no9), .int (sgI zo)])), (do9, .inl (k 0, Lo, .inl (fun i => nI (go i)))), (hq, .inr (2, [.ref p7.1, .int xq9, .int yq9])), (p7.1, .inl (k 0, p7.2.1, .inl (fun i => nI (r7.2 i)))), (hu, .inr (2, [.ref p6.1, .int xu9, .int yu9])), (p6.1, .inl (k 0, p6.2.1, .inl (fun i => nI (p6.2.2 i))))] := S
            have hw12 : (vl 2147483648 (fun i => r7.2 (y9 + i)) no9 : Int) + r7.1 * (2147483648 : Int) ^ no9 = (vl 2147483648 (fun i => O8 (y9 + i)) no9 : Int) - (t7 : Int) * (vl 2147483648 p6.2.2 no9 : Int) ∧ (∀ i, r7.2 i < 2147483648) ∧ (∀ i, i < y9 ∨ y9 + no9 ≤ i → r7.2 i = O8 i) ∧ -2147483649 ≤ r7.1 ∧ r7.1 ≤ 1 := hw12
            show W p l e _ s m _ below meth c H locs _ _ _ (F0 m 121 ls [.long (lZ (r7.1 + (O8 (y9 + no9) : Int)))])
            obtain ⟨a1, a2, a3, a4, a5⟩ := hw12
            have hsp := to_end (W := vl 2147483648 (fun i => O8 (y9 + i)) (no9 + 1)) (Tp := O8 (y9 + no9)) (vl_s _ _ _) hVn hV0 (vl_lt no9 (fun i _ => a2 _)) a1 (by omega) (by omega)
            obtain ⟨b1, b2, b3⟩ := hsp
            have d5 := hO (y9 + no9)
            obtain ⟨q7, hq7⟩ : ∃ x9, x9 = vl 2147483648 (fun i => O8 (y9 + i)) (no9 + 1) / vl 2147483648 p6.2.2 no9 := ⟨_, rfl⟩
            rw [← hq7] at b1 b2 b3 g1 g2
            refine lv_lconst (v := 0) hx hb d_Wh_divide_121 (by decide) ?_
            refine W.lcmp hx hb d_Wh_divide_122 ?_
            refine lv_if_ge (tgt := 147) hx hb d_Wh_divide_123 (by decide) (fun hc13 => ?_) (fun hc13 => ?_)
            · refine lv_aload_n hx hb d_Wh_divide_147 rfl (lv_at hl 3 rfl) ?_
              refine r_get C K S 0 rfl rfl clOk_Wh 0 (by decide) wf_Wh_9 (v := .ref dd) rfl d_Wh_divide_148 ?_
              refine lv_iload hx hb d_Wh_divide_151 (lv_at hl 1 rfl) ?_
              refine lv_lload hx hb d_Wh_divide_153 (lv_at hl 0 rfl) ?_
              have hc7 : (t7 : Int) = (q7 : Int) := by have q8 := (lz_ge0 (by omega) (by omega)).mp hc13; have q6 := mt b1.mpr (by omega); omega
              have x9 : t7 = vl 2147483648 (fun i => O8 (y9 + i)) (no9 + 1) / vl 2147483648 p6.2.2 no9 := by rw [← hq7]; omega
              have hqB : q7 < 2147483648 := by rw [hq7]; exact Nat.div_lt_of_lt_mul (by rw [Nat.mul_comm (vl 2147483648 p6.2.2 no9)]; exact hWV)
              refine lv_l2i (v := nI t7) hx hb d_Wh_divide_155 (by rw [lZ_i (by omega) (by omega)]; first | rfl | (congr 1; omega)) ?_
              refine r_iast C K S 1 rfl (i := nI y9) (x := nI t7) (show vp_in (nI y9) _ from vp_in_nI (n := y9) (by omega) (by omega)) (f' := fun i => nI (va_up Q8 y9 t7 i)) (ws' := [(h0, .inr (2, [.ref dd, .int (nI nn9), .int (sgI zz * sgI zo)])), (dd, .inl (k 0, LL, .inl (fun i => nI (va_up Q8 y9 t7 i)))), (ho, .inr (2, [.ref do9, .int (nI no9), .int (sgI zo)])), (do9, .inl (k 0, Lo, .inl (fun i => nI (go i)))), (hq, .inr (2, [.ref p7.1, .int xq9, .int yq9])), (p7.1, .inl (k 0, p7.2.1, .inl (fun i => nI (r7.2 i)))), (hu, .inr (2, [.ref p6.1, .int xu9, .int yu9])), (p6.1, .inl (k 0, p6.2.1, .inl (fun i => nI (p6.2.2 i))))]) (show upd _ (nI y9 : Int32).toNatClampNeg (nI t7) = _ from upd_nI Q8 (j := y9) (by omega) t7) rfl d_Wh_divide_156 (fun H locs S => ?_)
              refine lv_iinc (v := pm y9) (lv' := [(6, .int (pm y9)), (7, .long (lZ (t7 : Int))), (4, .int (nI (nn9 - no9))), (0, .ref h0), (1, .ref ho), (2, .ref hq), (3, .ref hu)]) hx hb d_Wh_divide_157 hl (k := 1) rfl (pm_dn y9) (by decide) rfl (fun ls hl => ?_)
              refine lv_goto (tgt := 90) hx hb d_Wh_divide_160 (by decide) ?_
              obtain ⟨m1, m2⟩ := du_next (O := O8) (U := r7.2) (qt := Q8) (n := no9) (N := nn9 - no9) (k9 := y9) (by omega) hI hV0 hO (b2 hc7) (fun i q => a3 i (Or.inl q)) x9
              exact ih_lp r7.2 (va_up Q8 y9 (t7)) (by omega) m1 m2 a2 (up31 hQ (by omega)) _ _ (S.sub [4, 5, 0, 1, 6, 7, 2, 3] (by decide) rfl) ls (lv_sub hl [0, 2, 3, 4, 5, 6] rfl)
            · refine lv_lload hx hb d_Wh_divide_126 (lv_at hl 0 rfl) ?_
              refine lv_lconst (v := 1) hx hb d_Wh_divide_128 (by decide) ?_
              refine z_lsub (v := lZ ((t7 : Int) - 1)) hx hb d_Wh_divide_129 (by rw [show (1 : Int64) = lZ 1 from by decide, lZ_sub]) ?_
              refine lv_lstore (lv' := [(7, .long (lZ ((t7 : Int) - 1))), (6, .int (nI y9)), (4, .int (nI (nn9 - no9))), (0, .ref h0), (1, .ref ho), (2, .ref hq), (3, .ref hu)]) hx hb d_Wh_divide_130 hl (by decide) rfl (fun ls hl => ?_)
              refine lv_aload_n hx hb d_Wh_divide_132 rfl (lv_at hl 5 rfl) ?_
              refine lv_aload_n hx hb d_Wh_divide_133 rfl (lv_at hl 6 rfl) ?_
              refine lv_aload_n hx hb d_Wh_divide_134 rfl (lv_at hl 4 rfl) ?_
              refine r_get C K S 2 rfl rfl clOk_Wh 1 (by decide) wf_Wh_29 (v := .int (nI no9)) rfl d_Wh_divide_135 ?_
              refine lv_iload hx hb d_Wh_divide_138 (lv_at hl 1 rfl) ?_
              refine lv_ldc2 (v := (-1)) hx hb C.2.2.2.1 (C.2.2.2.2.1 _ wk_Wh_91) d_Wh_divide_140 ?_
              refine z_topl (y := lZ (-1)) (by decide) ?_
              refine q_back0 (wi := [(hq, .inr (2, [.ref p7.1, .int xq9, .int yq9])), (p7.1, .inl (k 0, p7.2.1, .inl (fun i => nI (r7.2 i)))), (hu, .inr (2, [.ref p6.1, .int xu9, .int yu9])), (p6.1, .inl (k 0, p6.2.1, .inl (fun i => nI (p6.2.2 i))))]) (wr := [(h0, .inr (2, [.ref dd, .int (nI nn9), .int (sgI zz * sgI zo)])), (dd, .inl (k 0, LL, .inl (fun i => nI (Q8 i)))), (ho, .inr (2, [.ref do9, .int (nI no9), .int (sgI zo)])), (do9, .inl (k 0, Lo, .inl (fun i => nI (go i))))]) S hA [4, 5, 6, 7] [0, 1, 2, 3] rfl rfl (by decide) (by decide) (va_runV (As := [.ref hu, .int (nI no9), .int (nI y9), .long (lZ (-1))]) (rest := []) ⟨hx, hb, C.2.2.1, C.2.2.2.1, C.2.2.2.2.1⟩ (g_Wh_takeOff l G k hq _ _ no9 y9 (-1) p7.1 p7.2.1 xq9 yq9 r7.2 hu p6.1 p6.2.1 xu9 yu9 p6.2.2 ⟨x1.1, x1.2.1, a2⟩ y1 (by omega) (by omega) (by decide) (by decide)) (k_virt (n := 4) C wc_Wh_takeOff rfl rfl wz_Wh wm_Wh_87 wn_Wh_takeOff ws_Wh_takeOff (by decide +kernel) ⟨(Nat.le_of_ble_eq_true rfl), (Nat.le_of_ble_eq_true rfl)⟩) (pr_nowVG K S [4, 5, 6, 7] (by decide) rfl 4 rfl rfl) rfl rfl hl.1 rfl (lv_room (Nat.le_of_ble_eq_true rfl)) d_Wh_divide_143 ⟨(show 0 + (p7.2.1 - Lq) + (p6.2.1 - Lu) ≤ 2 * Mx from by omega), (show 0 + (2 * (p7.2.1 - Lq)) + (2 * (p6.2.1 - Lu)) ≤ 4 * Mx from by omega)⟩) (fun r6 H locs hw14 S => ?_)
              have S : Sw G A s.heap _ _ [(h0, .inr (2, [.ref dd, .int (nI nn9), .int (sgI zz * sgI zo)])), (dd, .inl (k 0, LL, .inl (fun i => nI (Q8 i)))), (ho, .inr (2, [.ref do9, .int (nI no9), .int (sgI zo)])), (do9, .inl (k 0, Lo, .inl (fun i => nI (go i)))), (hq, .inr (2, [.ref p7.1, .int xq9, .int yq9])), (p7.1, .inl (k 0, p7.2.1, .inl (fun i => nI (r6.2 i)))), (hu, .inr (2, [.ref p6.1, .int xu9, .int yu9])), (p6.1, .inl (k 0, p6.2.1, .inl (fun i => nI (p6.2.2 i))))] := S
              have hw14 : (vl 2147483648 (fun i => r6.2 (y9 + i)) no9 : Int) + r6.1 * (2147483648 : Int) ^ no9 = (vl 2147483648 (fun i => r7.2 (y9 + i)) no9 : Int) - (-1) * (vl 2147483648 p6.2.2 no9 : Int) ∧ (∀ i, r6.2 i < 2147483648) ∧ (∀ i, i < y9 ∨ y9 + no9 ≤ i → r6.2 i = r7.2 i) ∧ -2147483649 ≤ r6.1 ∧ r6.1 ≤ 1 := hw14
              show W p l e _ s m _ below meth c H locs _ _ _ (F0 m 146 ls [.long (lZ (r6.1 + (r7.2 (y9 + no9) : Int)))])
              obtain ⟨c1, c2, c3, c4, c5⟩ := hw14
              refine lv_pop2_2 hx hb d_Wh_divide_146 rfl ?_
              refine lv_aload_n hx hb d_Wh_divide_147 rfl (lv_at hl 3 rfl) ?_
              refine r_get C K S 0 rfl rfl clOk_Wh 0 (by decide) wf_Wh_9 (v := .ref dd) rfl d_Wh_divide_148 ?_
              refine lv_iload hx hb d_Wh_divide_151 (lv_at hl 1 rfl) ?_
              refine lv_lload hx hb d_Wh_divide_153 (lv_at hl 0 rfl) ?_
              have hc7 : (t7 : Int) = (q7 : Int) + 1 := b1.mp (by have := mt (lz_ge0 (by omega) (by omega)).mpr hc13; omega)
              have x9 : t7 - 1 = vl 2147483648 (fun i => O8 (y9 + i)) (no9 + 1) / vl 2147483648 p6.2.2 no9 := by rw [← hq7]; omega
              have hqB : q7 < 2147483648 := by rw [hq7]; exact Nat.div_lt_of_lt_mul (by rw [Nat.mul_comm (vl 2147483648 p6.2.2 no9)]; exact hWV)
              refine lv_l2i (v := nI (t7 - 1)) hx hb d_Wh_divide_155 (by rw [lZ_i (by omega) (by omega)]; first | rfl | (congr 1; omega)) ?_
              refine r_iast C K S 1 rfl (i := nI y9) (x := nI (t7 - 1)) (show vp_in (nI y9) _ from vp_in_nI (n := y9) (by omega) (by omega)) (f' := fun i => nI (va_up Q8 y9 (t7 - 1) i)) (ws' := [(h0, .inr (2, [.ref dd, .int (nI nn9), .int (sgI zz * sgI zo)])), (dd, .inl (k 0, LL, .inl (fun i => nI (va_up Q8 y9 (t7 - 1) i)))), (ho, .inr (2, [.ref do9, .int (nI no9), .int (sgI zo)])), (do9, .inl (k 0, Lo, .inl (fun i => nI (go i)))), (hq, .inr (2, [.ref p7.1, .int xq9, .int yq9])), (p7.1, .inl (k 0, p7.2.1, .inl (fun i => nI (r6.2 i)))), (hu, .inr (2, [.ref p6.1, .int xu9, .int yu9])), (p6.1, .inl (k 0, p6.2.1, .inl (fun i => nI (p6.2.2 i))))]) (show upd _ (nI y9 : Int32).toNatClampNeg (nI (t7 - 1)) = _ from upd_nI Q8 (j := y9) (by omega) (t7 - 1)) rfl d_Wh_divide_156 (fun H locs S => ?_)
              refine lv_iinc (v := pm y9) (lv' := [(6, .int (pm y9)), (7, .long (lZ ((t7 : Int) - 1))), (4, .int (nI (nn9 - no9))), (0, .ref h0), (1, .ref ho), (2, .ref hq), (3, .ref hu)]) hx hb d_Wh_divide_157 hl (k := 1) rfl (pm_dn y9) (by decide) rfl (fun ls hl => ?_)
              refine lv_goto (tgt := 90) hx hb d_Wh_divide_160 (by decide) ?_
              obtain ⟨m1, m2⟩ := du_next (O := O8) (U := r6.2) (qt := Q8) (n := no9) (N := nn9 - no9) (k9 := y9) (by omega) hI hV0 hO (to_back hVn (Nat.mod_lt _ hV0) (vl_lt no9 (fun i _ => c2 _)) c1 (b3 hc7)) (fun i q => by rw [c3 i (Or.inl q), a3 i (Or.inl q)]) x9
              exact ih_lp r6.2 (va_up Q8 y9 (t7 - 1)) (by omega) m1 m2 c2 (up31 hQ (by omega)) _ _ (S.sub [4, 5, 0, 1, 6, 7, 2, 3] (by decide) rfl) ls (lv_sub hl [0, 2, 3, 4, 5, 6] rfl)
        exact lp (nn9 - no9 + 1) p7.2.2 gg (by omega) (by rw [show nn9 - no9 + 1 + no9 = nn9 + 1 by omega, x5, Nat.sub_self]; simp [vl]) (by rw [show nn9 - no9 + 1 + no9 = nn9 + 1 by omega]; exact hst) x1.2.2 w4 _ _ (S.sub [0, 1, 2, 3, 4, 5, 6, 7] (by decide) rfl) ls (lv_sub hl [0, 2, 3, 4, 5, 6] rfl)
      · refine lv_aload_n hx hb d_Wh_divide_53 rfl (lv_at hl 1 rfl) ?_
        refine lv_aload_n hx hb d_Wh_divide_54 rfl (lv_at hl 2 rfl) ?_
        refine r_get C K S 6 rfl rfl clOk_Wh 0 (by decide) wf_Wh_9 (v := .ref do9) rfl d_Wh_divide_55 ?_
        refine lv_iconst (v := 0) hx hb d_Wh_divide_58 (by decide) ?_
        refine r_iald C K S 7 rfl (i := 0) (show vp_in (0) _ from vp_in_nI (n := 0) (by omega) (by omega)) (v := nI (go 0)) (by rw [show (0 : Int32).toNatClampNeg = 0 from by decide]) d_Wh_divide_59 ?_
        obtain e1 : no9 = 1 := by omega
        have hgo : go 0 = zo.natAbs := by rw [← v6, e1, show (1 : Nat) = 0 + 1 from rfl, vl_s]; simp [vl]
        have hg1 : go 0 ≠ 0 := by rw [hgo]; omega
        refine q_back0 (wi := [(h0, .inr (2, [.ref dd, .int (nI nn9), .int (sgI zz * sgI zo)])), (dd, .inl (k 0, LL, .inl (fun i => nI (gg i))))]) (wr := [(hq, .inr (2, [.ref dq, .int xq9, .int yq9])), (dq, .inl (k 0, Lq, .inl (fun i => nI (gq i)))), (hu, .inr (2, [.ref du, .int xu9, .int yu9])), (du, .inl (k 0, Lu, .inl (fun i => nI (gu i)))), (ho, .inr (2, [.ref do9, .int (nI no9), .int (sgI zo)])), (do9, .inl (k 0, Lo, .inl (fun i => nI (go i))))]) S hA [4, 5] [0, 1, 2, 3, 6, 7] rfl rfl (by decide) (by decide) (va_runV (As := [.int (nI (go 0))]) (rest := []) ⟨hx, hb, C.2.2.1, C.2.2.2.1, C.2.2.2.2.1⟩ (g_Wh_divideByDigit l G k h0 _ _ (go 0) dd LL nn9 gg zz (sgI zz * sgI zo) hw (by omega) (v4 0)) (k_virt (n := 1) C wc_Wh_divideByDigit rfl rfl wz_Wh wm_Wh_72 wn_Wh_divideByDigit ws_Wh_divideByDigit (by decide +kernel) ⟨(Nat.le_of_ble_eq_true rfl), (Nat.le_of_ble_eq_true rfl)⟩) (pr_nowVG K S [4, 5] (by decide) rfl 4 rfl rfl) rfl rfl hl.1 rfl (lv_room (Nat.le_of_ble_eq_true rfl)) d_Wh_divide_60 ⟨(Nat.zero_le _), (Nat.zero_le _)⟩) (fun Q8 H locs hw15 S => ?_)
        have S : Sw G A s.heap _ _ [(hq, .inr (2, [.ref dq, .int xq9, .int yq9])), (dq, .inl (k 0, Lq, .inl (fun i => nI (gq i)))), (hu, .inr (2, [.ref du, .int xu9, .int yu9])), (du, .inl (k 0, Lu, .inl (fun i => nI (gu i)))), (ho, .inr (2, [.ref do9, .int (nI no9), .int (sgI zo)])), (do9, .inl (k 0, Lo, .inl (fun i => nI (go i)))), (h0, .inr (2, [.ref dd, .int (nI nn9), .int (sgI zz * sgI zo)])), (dd, .inl (k 0, LL, .inl (fun i => nI (Q8 i))))] := S
        have hw15 : (∀ i, Q8 i < 2147483648) ∧ vl 2147483648 Q8 nn9 = zz.natAbs / (go 0) := hw15
        show W p l e _ s m _ below meth c H locs _ _ _ (F0 m 63 ls [])
        obtain ⟨k4, k5⟩ := hw15
        refine lv_goto (tgt := 163) hx hb d_Wh_divide_63 (by decide) ?_
        refine lv_aload_n hx hb d_Wh_divide_163 rfl (lv_at hl 1 rfl) ?_
        refine lv_iload hx hb d_Wh_divide_164 (lv_at hl 0 rfl) ?_
        refine lv_iconst (v := 1) hx hb d_Wh_divide_166 (by decide) ?_
        refine z_iadd (x := nI (nn9 - no9)) (y := 1) (v := nI ((nn9 - no9) + 1)) hx hb d_Wh_divide_167 (nI_add (nn9 - no9) 1) ?_
        refine q_back0 (wi := [(h0, .inr (2, [.ref dd, .int (nI nn9), .int (sgI zz * sgI zo)])), (dd, .inl (k 0, LL, .inl (fun i => nI (Q8 i))))]) (wr := [(hq, .inr (2, [.ref dq, .int xq9, .int yq9])), (dq, .inl (k 0, Lq, .inl (fun i => nI (gq i)))), (hu, .inr (2, [.ref du, .int xu9, .int yu9])), (du, .inl (k 0, Lu, .inl (fun i => nI (gu i)))), (ho, .inr (2, [.ref do9, .int (nI no9), .int (sgI zo)])), (do9, .inl (k 0, Lo, .inl (fun i => nI (go i))))]) S hA [6, 7] [0, 1, 2, 3, 4, 5] rfl rfl (by decide) (by decide) (va_runV (As := [.int (nI ((nn9 - no9) + 1))]) (rest := []) ⟨hx, hb, C.2.2.1, C.2.2.2.1, C.2.2.2.2.1⟩ (g_Wh_trim l G k h0 _ _ ((nn9 - no9) + 1) dd LL (nI nn9) (sgI zz * sgI zo) Q8 ⟨w2, w3, k4⟩ (by omega)) (k_virt (n := 1) C wc_Wh_trim rfl rfl wz_Wh wm_Wh_25 wn_Wh_trim ws_Wh_trim (by decide +kernel) ⟨(Nat.le_of_ble_eq_true rfl), (Nat.le_of_ble_eq_true rfl)⟩) (pr_nowVG K S [6, 7] (by decide) rfl 6 rfl rfl) rfl rfl hl.1 rfl (lv_room (Nat.le_of_ble_eq_true rfl)) d_Wh_divide_168 ⟨(Nat.zero_le _), (Nat.zero_le _)⟩) (fun n7 H locs hw16 S => ?_)
        have S : Sw G A s.heap _ _ [(hq, .inr (2, [.ref dq, .int xq9, .int yq9])), (dq, .inl (k 0, Lq, .inl (fun i => nI (gq i)))), (hu, .inr (2, [.ref du, .int xu9, .int yu9])), (du, .inl (k 0, Lu, .inl (fun i => nI (gu i)))), (ho, .inr (2, [.ref do9, .int (nI no9), .int (sgI zo)])), (do9, .inl (k 0, Lo, .inl (fun i => nI (go i)))), (h0, .inr (2, [.ref dd, .int (nI n7), .int (if n7 = 0 then 0 else (sgI zz * sgI zo))])), (dd, .inl (k 0, LL, .inl (fun i => nI (Q8 i))))] := S
        have hw16 : n7 ≤ ((nn9 - no9) + 1) ∧ (n7 = 0 ∨ Q8 (n7 - 1) ≠ 0) ∧ vl 2147483648 Q8 n7 = vl 2147483648 Q8 ((nn9 - no9) + 1) := hw16
        show W p l e _ s m _ below meth c H locs _ _ _ (F0 m 171 ls [])
        obtain ⟨t1, t2, t3⟩ := hw16
        have kw : whO LL n7 Q8 (zz.tdiv zo) := wh_of (a := zz.natAbs / zo.natAbs) (by omega) ⟨w2, w3, k4⟩ t2 (by rw [t3, show nn9 - no9 + 1 = nn9 by omega, k5, hgo]) (Int.natAbs_tdiv zz zo)
        have S : Sw G A s.heap H locs [(hq, .inr (2, [.ref dq, .int xq9, .int yq9])), (dq, .inl (k 0, Lq, .inl (fun i => nI (gq i)))), (hu, .inr (2, [.ref du, .int xu9, .int yu9])), (du, .inl (k 0, Lu, .inl (fun i => nI (gu i)))), (ho, .inr (2, [.ref do9, .int (nI no9), .int (sgI zo)])), (do9, .inl (k 0, Lo, .inl (fun i => nI (go i)))), (h0, .inr (2, [.ref dd, .int (nI n7), .int (sgI (zz.tdiv zo))])), (dd, .inl (k 0, LL, .inl (fun i => nI (Q8 i))))] := by rw [show sgI (zz.tdiv zo) = (if n7 = 0 then 0 else sgI zz * sgI zo) from by rw [← sg_div hle n1]; exact (sg_pick (whn_0 kw) (fun q => q) (fun _ => rfl)).symm]; exact S
        exact q_vret C K hsz (n7, Q8, (dq, Lq, gq), (du, Lu, gu)) (show whO LL n7 Q8 (zz.tdiv zo) ∧ raO Lq gq ∧ Lq ≤ Lq ∧ Lq ≤ Mx ∧ raO Lu gu ∧ Lu ≤ Lu ∧ Lu ≤ Mx from ⟨kw, hrq, Nat.le_refl _, hmq, hru, Nat.le_refl _, hmu⟩) (S.sub [6, 7, 4, 5, 0, 1, 2, 3] (by decide) rfl) d_Wh_divide_171 (Nat.zero_le _) (Nat.zero_le _) (Nat.zero_le _) (Nat.zero_le _)
    · refine lv_aload_n hx hb d_Wh_divide_15 rfl (lv_at hl 0 rfl) ?_
      refine lv_lconst (v := 0) hx hb d_Wh_divide_16 (by decide) ?_
      refine z_topl (y := lZ 0) (by decide) ?_
      refine q_back0 (wi := [(h0, .inr (2, [.ref dd, .int (nI nn9), .int (sgI zz)])), (dd, .inl (k 0, LL, .inl (fun i => nI (gg i))))]) (wr := [(hq, .inr (2, [.ref dq, .int xq9, .int yq9])), (dq, .inl (k 0, Lq, .inl (fun i => nI (gq i)))), (hu, .inr (2, [.ref du, .int xu9, .int yu9])), (du, .inl (k 0, Lu, .inl (fun i => nI (gu i)))), (ho, .inr (2, [.ref do9, .int (nI no9), .int (sgI zo)])), (do9, .inl (k 0, Lo, .inl (fun i => nI (go i))))]) S hA [4, 5] [0, 1, 2, 3, 6, 7] rfl rfl (by decide) (by decide) (va_runV (As := [.long (lZ 0)]) (rest := []) ⟨hx, hb, C.2.2.1, C.2.2.2.1, C.2.2.2.2.1⟩ (g_Wh_set l G k h0 _ _ 0 dd LL (nI nn9) (sgI zz) gg (wh_ra hw) (by decide) (by decide)) (k_virt (n := 1) C wc_Wh_set rfl rfl wz_Wh wm_Wh_68 wn_Wh_set ws_Wh_set (by decide +kernel) ⟨(Nat.le_of_ble_eq_true rfl), (Nat.le_of_ble_eq_true rfl)⟩) (pr_nowVG K S [4, 5] (by decide) rfl 4 rfl rfl) rfl rfl hl.1 rfl (lv_room (Nat.le_of_ble_eq_true rfl)) d_Wh_divide_17 ⟨(Nat.zero_le _), (Nat.zero_le _)⟩) (fun c8 H locs hw17 S => ?_)
      have S : Sw G A s.heap _ _ [(hq, .inr (2, [.ref dq, .int xq9, .int yq9])), (dq, .inl (k 0, Lq, .inl (fun i => nI (gq i)))), (hu, .inr (2, [.ref du, .int xu9, .int yu9])), (du, .inl (k 0, Lu, .inl (fun i => nI (gu i)))), (ho, .inr (2, [.ref do9, .int (nI no9), .int (sgI zo)])), (do9, .inl (k 0, Lo, .inl (fun i => nI (go i)))), (h0, .inr (2, [.ref dd, .int (nI c8.1), .int (sgI 0)])), (dd, .inl (k 0, LL, .inl (fun i => nI (c8.2 i))))] := S
      have hw17 : whO LL c8.1 c8.2 0 := hw17
      show W p l e _ s m _ below meth c H locs _ _ _ (F0 m 20 ls [])
      have k1 := hw17
      have e1 : zz.tdiv zo = 0 := tdiv_0 (Or.inr (by have := cp_nz.mp (Int32.not_le.mp hc5); exact this))
      have S : Sw G A s.heap H locs [(hq, .inr (2, [.ref dq, .int xq9, .int yq9])), (dq, .inl (k 0, Lq, .inl (fun i => nI (gq i)))), (hu, .inr (2, [.ref du, .int xu9, .int yu9])), (du, .inl (k 0, Lu, .inl (fun i => nI (gu i)))), (ho, .inr (2, [.ref do9, .int (nI no9), .int (sgI zo)])), (do9, .inl (k 0, Lo, .inl (fun i => nI (go i)))), (h0, .inr (2, [.ref dd, .int (nI c8.1), .int (sgI (zz.tdiv zo))])), (dd, .inl (k 0, LL, .inl (fun i => nI (c8.2 i))))] := by rw [e1]; exact S
      exact q_vret C K hsz (c8.1, c8.2, (dq, Lq, gq), (du, Lu, gu)) (show whO LL c8.1 c8.2 (zz.tdiv zo) ∧ raO Lq gq ∧ Lq ≤ Lq ∧ Lq ≤ Mx ∧ raO Lu gu ∧ Lu ≤ Lu ∧ Lu ≤ Mx from ⟨by rw [e1]; exact k1, hrq, Nat.le_refl _, hmq, hru, Nat.le_refl _, hmu⟩) (S.sub [6, 7, 4, 5, 0, 1, 2, 3] (by decide) rfl) d_Wh_divide_20 (Nat.zero_le _) (Nat.zero_le _) (Nat.zero_le _) (Nat.zero_le _)
end
section
/-! all whole numbers of the class as one pool: table cells 0 .. 3730, then under, pivot, left, right, rest; the parts 0 .. 3, under, sum, factor, product, rest of the best bounds -/
abbrev wQ : Type := Nat × Nat × Nat × Int32 × Int32 × (Nat → Nat)
def twQ (k : Nat → ClassId) (q : wQ) : va_W := [(q.1, .inr (2, [.ref q.2.1, .int q.2.2.2.1, .int q.2.2.2.2.1])), (q.2.1, .inl (k 0, q.2.2.1, .inl (fun i => nI (q.2.2.2.2.2 i))))]
def tpl (k : Nat → ClassId) (st : Nat → Option wQ) : Nat → va_W
  | 0 => []
  | n + 1 => tpl k st n ++ (match st n with | none => [] | some q => twQ k q)
theorem tpl_congr {k : Nat → ClassId} {st st' : Nat → Option wQ} : ∀ n, (∀ i, i < n → st i = st' i) → tpl k st n = tpl k st' n
  | 0, _ => rfl
  | n + 1, h => by rw [tpl, tpl, tpl_congr n (fun i hi => h i (by omega)), h n (by omega)]
theorem tpl_out {k : Nat → ClassId} {st : Nat → Option wQ} {i : Nat} {q : wQ} (hq : st i = some q) : ∀ n, i < n → (tpl k st n).Perm (twQ k q ++ tpl k (va_up st i none) n)
  | 0, h => absurd h (Nat.not_lt_zero _)
  | n + 1, h => by
    rw [tpl, tpl]
    by_cases e : i = n
    · subst e
      rw [hq, va_up_self, tpl_congr (st' := va_up st i none) i (fun j hj => by rw [va_up_ne _ _ (by omega)])]
      show (_ ++ twQ k q).Perm (twQ k q ++ (_ ++ []))
      rw [List.append_nil]
      exact List.perm_append_comm
    · rw [va_up_ne _ _ (show n ≠ i by omega)]
      rw [← List.append_assoc]
      exact (tpl_out hq n (by omega)).append_right _
theorem up_up {α : Type} (f : Nat → α) (i : Nat) (a b : α) : va_up (va_up f i a) i b = va_up f i b := by
  funext j
  by_cases q : j = i
  · subst q; rw [va_up_self, va_up_self]
  · rw [va_up_ne _ _ q, va_up_ne _ _ q, va_up_ne _ _ q]
theorem up_id {α : Type} (f : Nat → α) (i : Nat) {a : α} (h : f i = a) : va_up f i a = f := by
  funext j
  by_cases q : j = i
  · subst q; rw [va_up_self, h]
  · rw [va_up_ne _ _ q]
theorem up_comm {α : Type} (f : Nat → α) {i j : Nat} (h : i ≠ j) (a b : α) : va_up (va_up f i a) j b = va_up (va_up f j b) i a := by
  funext x
  by_cases q : x = j
  · subst q; rw [va_up_self, va_up_ne _ _ (show x ≠ i by omega), va_up_self]
  · by_cases w : x = i
    · subst w; rw [va_up_ne _ _ q, va_up_self, va_up_self]
    · rw [va_up_ne _ _ q, va_up_ne _ _ w, va_up_ne _ _ w, va_up_ne _ _ q]
theorem tpl_in {k : Nat → ClassId} {st : Nat → Option wQ} {i : Nat} {q : wQ} {n : Nat} (h : i < n) : (twQ k q ++ tpl k (va_up st i none) n).Perm (tpl k (va_up st i (some q)) n) := by
  have := (tpl_out (k := k) (st := va_up st i (some q)) (i := i) (q := q) (va_up_self _ _ _) n h).symm
  rw [up_up] at this
  exact this
theorem tpl_mem {k : Nat → ClassId} {st : Nat → Option wQ} {i n : Nat} {q : wQ} (hq : st i = some q) (h : i < n) : (q.1, (.inr (2, [.ref q.2.1, .int q.2.2.2.1, .int q.2.2.2.2.1]) : va_E)) ∈ tpl k st n :=
  (tpl_out hq n h).mem_iff.mpr (List.mem_append_left _ (by unfold twQ; simp))
/-- how large each may grow; how much they may still grow -/
def Mb (i : Nat) : Nat := if i < 3731 then 98 else 200
theorem Mb_le (i : Nat) : Mb i ≤ 200 := by unfold Mb; split <;> decide
def cpO (o : Option wQ) : Nat := match o with | none => 0 | some q => q.2.2.1
def pt (st : Nat → Option wQ) : Nat → Nat
  | 0 => 0
  | n + 1 => pt st n + (Mb n - cpO (st n))
theorem pt_congr {st st' : Nat → Option wQ} : ∀ n, (∀ i, i < n → cpO (st i) = cpO (st' i)) → pt st n = pt st' n
  | 0, _ => rfl
  | n + 1, h => by rw [pt, pt, pt_congr n (fun i hi => h i (by omega)), h n (by omega)]
theorem pt_up {st : Nat → Option wQ} {i : Nat} {o : Option wQ} (h1 : cpO (st i) ≤ cpO o) (h2 : cpO o ≤ Mb i) : ∀ n, i < n → pt (va_up st i o) n + (cpO o - cpO (st i)) = pt st n
  | 0, h => absurd h (Nat.not_lt_zero _)
  | n + 1, h => by
    rw [pt, pt]
    by_cases e : i = n
    · subst e
      rw [va_up_self, pt_congr (st' := st) i (fun j hj => by rw [va_up_ne _ _ (by omega)])]
      omega
    · rw [va_up_ne _ _ (show n ≠ i by omega)]
      have := pt_up h1 h2 n (by omega)
      omega
/-- addresses stay -/
def keO (st u : Nat → Option wQ) : Prop := ∀ j q, st j = some q → ∃ q', u j = some q' ∧ q'.1 = q.1
def atO (st : Nat → Option wQ) (i a : Nat) : Prop := ∃ q, st i = some q ∧ q.1 = a
theorem keO.at {st u : Nat → Option wQ} (h : keO st u) {i a : Nat} (g : atO st i a) : atO u i a := by
  obtain ⟨q, h1, h2⟩ := g
  obtain ⟨q', h3, h4⟩ := h i q h1
  exact ⟨q', h3, by rw [h4, h2]⟩
theorem keO.rf (st : Nat → Option wQ) : keO st st := fun _ q h => ⟨q, h, rfl⟩
theorem keO.tr {a b c : Nat → Option wQ} (h : keO a b) (g : keO b c) : keO a c := fun j q hq => by
  obtain ⟨q1, h1, h2⟩ := h j q hq
  obtain ⟨q2, h3, h4⟩ := g j q1 h1
  exact ⟨q2, h3, by rw [h4, h2]⟩
theorem ke_up {st : Nat → Option wQ} {i : Nat} {q q' : wQ} (h : st i = some q) (e : q'.1 = q.1) : keO st (va_up st i (some q')) := fun j x hx => by
  by_cases w : j = i
  · subst w
    rw [h] at hx
    obtain rfl := Option.some.inj hx
    exact ⟨q', va_up_self _ _ _, e⟩
  · exact ⟨x, by rw [va_up_ne _ _ w]; exact hx, rfl⟩
def adO (o : Option wQ) : Option Nat := o.map (·.1)
def saO (st u : Nat → Option wQ) : Prop := (fun j => adO (u j)) = fun j => adO (st j)
theorem saO.tr {a b c : Nat → Option wQ} (h : saO a b) (g : saO b c) : saO a c := Eq.trans g h
theorem sa_up {st : Nat → Option wQ} {i : Nat} {q q' : wQ} (h : st i = some q) (e : q'.1 = q.1) : saO st (va_up st i (some q')) := by
  funext j
  by_cases w : j = i
  · subst w
    rw [va_up_self, h]
    show some q'.1 = some q.1
    rw [e]
  · rw [va_up_ne _ _ w]
/-- what they are: Z by index, where V says that it is so -/
def whQ (q : wQ) (z : Int) : Prop := ∃ n, q.2.2.2.1 = nI n ∧ q.2.2.2.2.1 = sgI z ∧ whO q.2.2.1 n q.2.2.2.2.2 z
def raQ (q : wQ) : Prop := raO q.2.2.1 q.2.2.2.2.2
def gO (st : Nat → Option wQ) (Z : Nat → Int) (V : Nat → Prop) : Prop := ∀ i, i < 3745 → (st i = none ∧ i < 3731 ∧ Z i = 0) ∨ ∃ q, st i = some q ∧ q.2.2.1 ≤ Mb i ∧ raQ q ∧ (V i → whQ q (Z i))
theorem gO.get {st : Nat → Option wQ} {Z : Nat → Int} {V : Nat → Prop} (h : gO st Z V) {i : Nat} {q : wQ} (hi : i < 3745) (hq : st i = some q) : q.2.2.1 ≤ Mb i ∧ raQ q ∧ (V i → whQ q (Z i)) := by
  rcases h i hi with ⟨h1, -, -⟩ | ⟨q', h1, h2⟩
  · rw [hq] at h1; cases h1
  · rw [hq] at h1; obtain rfl := Option.some.inj h1; exact h2
theorem gO.up {st : Nat → Option wQ} {Z : Nat → Int} {V : Nat → Prop} (h : gO st Z V) {i : Nat} {q : wQ} {z : Int} {v : Prop} (h1 : q.2.2.1 ≤ Mb i) (h2 : raQ q) (h3 : v → whQ q z) : gO (va_up st i (some q)) (va_up Z i z) (va_up V i v) := by
  intro j hj
  by_cases w : j = i
  · subst w
    rw [va_up_self, va_up_self, va_up_self]
    exact Or.inr ⟨q, rfl, h1, h2, h3⟩
  · rw [va_up_ne _ _ w, va_up_ne _ _ w, va_up_ne _ _ w]
    exact h j hj
theorem gO.weak {st : Nat → Option wQ} {Z Z' : Nat → Int} {V V' : Nat → Prop} (h : gO st Z V) (h1 : ∀ i, i < 3745 → V' i → V i ∧ Z' i = Z i) (h2 : ∀ i, i < 3731 → Z' i = Z i) : gO st Z' V' := by
  intro i hi
  rcases h i hi with ⟨a, b, c⟩ | ⟨q, a, b, c, d⟩
  · exact Or.inl ⟨a, b, by rw [h2 i b]; exact c⟩
  · refine Or.inr ⟨q, a, b, c, fun v => ?_⟩
    obtain ⟨e1, e2⟩ := h1 i hi v
    rw [e2]; exact d e1
/-- a whole number's digits, by its size -/
theorem whQ_n {q : wQ} {z : Int} (h : whQ q z) : ∃ n, q.2.2.2.1 = nI n ∧ q.2.2.2.2.1 = sgI z ∧ whO q.2.2.1 n q.2.2.2.2.2 z := h
def smB (z : Int) : Nat := if z.natAbs < 2147483648 then 1 else 0
theorem sm_n {L n : Nat} {g : Nat → Nat} {z : Int} (h : whO L n g z) : (if n ≤ 1 then 1 else 0) = smB z := by
  unfold smB
  by_cases q : n ≤ 1
  · rw [if_pos q, if_pos (small_abs h q)]
  · rw [if_neg q, if_neg (fun w => q (wh_size (m := 1) h (by rw [Nat.pow_one]; exact w)))]
/-- numbers out of the pool and back -/
theorem tp1 {k : Nat → ClassId} {st : Nat → Option wQ} {n i : Nat} (hi : i < n) (a : wQ) : (twQ k a ++ tpl k (va_up st i none) n).Perm (tpl k (va_up st i (some a)) n) := tpl_in hi
theorem tp2 {k : Nat → ClassId} {st : Nat → Option wQ} {n i x : Nat} (hi : i < n) (hx : x < n) (hix : i ≠ x) (a b : wQ) : (twQ k a ++ (twQ k b ++ tpl k (va_up (va_up st i none) x none) n)).Perm (tpl k (va_up (va_up st x (some b)) i (some a)) n) := by
  refine List.Perm.trans ((tpl_in (k := k) (q := b) (st := va_up st i none) hx).append_left _) ?_
  rw [up_comm st hix]
  exact tp1 hi a
theorem tp3 {k : Nat → ClassId} {st : Nat → Option wQ} {n i x y : Nat} (hi : i < n) (hx : x < n) (hy : y < n) (hix : i ≠ x) (hiy : i ≠ y) (hxy : x ≠ y) (a b c : wQ) : (twQ k a ++ (twQ k b ++ (twQ k c ++ tpl k (va_up (va_up (va_up st i none) x none) y none) n))).Perm (tpl k (va_up (va_up (va_up st y (some c)) x (some b)) i (some a)) n) := by
  refine List.Perm.trans (((tpl_in (k := k) (q := c) (st := va_up (va_up st i none) x none) hy).append_left _).append_left _) ?_
  rw [up_comm _ hxy, up_comm st hiy]
  exact tp2 hi hx hix a b
theorem tp4 {k : Nat → ClassId} {st : Nat → Option wQ} {n i x y w : Nat} (hi : i < n) (hx : x < n) (hy : y < n) (hw : w < n) (hix : i ≠ x) (hiy : i ≠ y) (hiw : i ≠ w) (hxy : x ≠ y) (hxw : x ≠ w) (hyw : y ≠ w) (a b c d : wQ) : (twQ k a ++ (twQ k b ++ (twQ k c ++ (twQ k d ++ tpl k (va_up (va_up (va_up (va_up st i none) x none) y none) w none) n)))).Perm (tpl k (va_up (va_up (va_up (va_up st w (some d)) y (some c)) x (some b)) i (some a)) n) := by
  refine List.Perm.trans ((((tpl_in (k := k) (q := d) (st := va_up (va_up (va_up st i none) x none) y none) hw).append_left _).append_left _).append_left _) ?_
  rw [up_comm _ hyw, up_comm _ hxw, up_comm st hiw]
  exact tp3 hi hx hy hix hiy hxy a b c
theorem at_mem {k : Nat → ClassId} {X : va_W} {st : Nat → Option wQ} {i a n : Nat} (h : atO st i a) (hi : i < n) : ∃ fs, (a, (.inr (2, fs) : va_E)) ∈ X ++ tpl k st n := by
  obtain ⟨q, h1, rfl⟩ := h
  exact ⟨_, List.mem_append_right _ (tpl_mem h1 hi)⟩
theorem at_mem2 {k : Nat → ClassId} {X Y : va_W} {st : Nat → Option wQ} {i a n : Nat} (h : atO st i a) (hi : i < n) : ∃ fs, (a, (.inr (2, fs) : va_E)) ∈ X ++ (tpl k st n ++ Y) := by
  obtain ⟨q, h1, rfl⟩ := h
  exact ⟨_, List.mem_append_right _ (List.mem_append_left _ (tpl_mem h1 hi))⟩
section TN
variable {G : va_G} {A : Nat → Prop} {H0 H : Heap} {locs : List Loc} {k : Nat → ClassId}
/-- a new number goes into the pool -/
theorem Sw.tnew {X : va_W} {st : Nat → Option wQ} {t n : Nat} {q : wQ} (S : Sw G A H0 H locs ((X ++ twQ k q) ++ tpl k st n)) (h : st t = none) (ht : t < n) : Sw G A H0 H locs (X ++ tpl k (va_up st t (some q)) n) := by
  refine S.perm ?_
  rw [List.append_assoc]
  refine List.Perm.append_left X ?_
  have := tpl_in (k := k) (st := st) (q := q) ht
  rw [up_id st t h] at this
  exact this
end TN
section CGA
variable {l : Launch} {y : MethodName} {cc : ByteArray} {n : Nat} {ret : Option FieldType} {rm : Room} {as : List Value} {G : va_G} {k : Nat → ClassId} {sz sl : Nat} {mc ms : Nat}
theorem cg_as {S : Type} {rv : S → Option Value} {post : S → Prop} {wi t : va_W} {wo tu : S → va_W} {cu nu : S → Nat} (wf : va_W) (h : CG l y cc n ret rm as G k sz sl (wi ++ t) rv post (fun u => wo u ++ tu u) cu nu mc ms) : CG l y cc n ret rm as G k sz sl (wi ++ (t ++ wf)) rv post (fun u => wo u ++ (tu u ++ wf)) cu nu mc ms := by
  have f := cg_frame wf h
  rw [List.append_assoc] at f
  exact cg_imp f (fun u hu => ⟨u, hu, rfl, by rw [List.append_assoc], Nat.le_refl _, Nat.le_refl _⟩)
end CGA
section RN
variable {p : Program} {l : Launch} {e : Env} {R : Room} {s : State} {m : MethodId} {args : Array Value} {below : List Frame} {meth : Method} {c : Code} {H : Heap} {locs : List Loc} {cells slots : Nat} {Q : State → Prop}
variable {cc : ByteArray} {own nm : String} {nL : Nat} {ret : Option FieldType} {G : va_G} {k : Nat → ClassId} {A : Nat → Prop} {ws : va_W} {pc : Nat} {ls : Array Slot} {rest : List Value} {a : Nat}
theorem r_aald0 (C : Cx p s m args meth c cc own nL ret nm) (K : Kn G k s) (S : Sw G A s.heap H locs ws) (q0 t0 : Nat) {cA : ClassId} {N : String} {n : Nat} {f : Nat → Option Nat} (ha : ws[q0]? = some (a, .inl (cA, n, .inr (.inr (.inr (.inr f)))))) (ht : (tyl k)[t0]? = some (cA, .object N)) {i : Int32} (hin : vp_in i n) (hv : f i.toNatClampNeg = none) (hdg : decode cc pc = .ok (.aaload, 1))
    (kk : W p l e R s m args below meth c H locs cells slots Q (F0 m (pc + 1) ls (.null :: rest))) : W p l e R s m args below meth c H locs cells slots Q (F0 m pc ls (.int i :: .ref a :: rest)) :=
  va_aldq C.1 C.2.1 K.1 S.1 q0 t0 ha ht hin hdg (by rw [hv]; exact kk)
end RN
theorem b50 {z : Int} (h : z.natAbs < 2147483648 ^ 49) : z.natAbs < 2147483648 ^ 50 := Nat.lt_trans h (by decide +kernel)
theorem b98 {x y : Int} (hx : x.natAbs < 2147483648 ^ 49) (hy : y.natAbs < 2147483648 ^ 49) : (x * y).natAbs < 2147483648 ^ 98 := by
  rw [Int.natAbs_mul]
  have h1 := Nat.mul_lt_mul'' hx hy
  rw [← Nat.pow_add] at h1
  exact h1
theorem b99 {z : Int} (h : z.natAbs < 2147483648 ^ 98) : z.natAbs < 2147483648 ^ 99 := Nat.lt_trans h (by decide +kernel)
theorem b99s {x y : Int} (hx : x.natAbs < 2147483648 ^ 98) (hy : y.natAbs < 2147483648 ^ 98) : (x - y).natAbs < 2147483648 ^ 99 := by
  have h1 : (2147483648 : Nat) ^ 98 + 2147483648 ^ 98 ≤ 2147483648 ^ 99 := by decide +kernel
  omega
theorem b99z {z : Int} (h : z.natAbs < 2147483648 ^ 49) : z.natAbs < 2147483648 ^ 99 := Nat.lt_trans h (by decide +kernel)
end
section
set_option maxRecDepth 100000 in
set_option maxHeartbeats 4000000 in
theorem g_P_sign (l : Launch) (G : va_G) (k : Nat → ClassId) (s0 sl : Nat) (i9 : Nat) (ai9 : Nat) (zi : Int) (N9 : Nat) (st : Nat → Option wQ) (Z : Nat → Int) (V9 : Nat → Prop) (hN : N9 = 3745) (hg : gO st Z V9) (hi : i9 < 3745) (ai : atO st i9 ai9) (ezi : Z i9 = zi) (vi : V9 i9) : CG l y_Wh_sign c_Wh_sign 1 (some .int) { frames := 0, cells := 0, slots := 0, locals := 0 } [.ref ai9] G k s0 sl ([] ++ (tpl k st N9)) (fun (u : Unit) => some (.int (sgI (zi)))) (fun (u : Unit) => True) (fun (u : Unit) => ([] ++ (tpl k st N9))) (fun (u : Unit) => 0) (fun (u : Unit) => 0) 0 0 := by
  subst ezi
  obtain ⟨⟨oi, di, Li, xi, yi, gi⟩, ei, rfl⟩ := ai
  obtain ⟨ci, ri, wi⟩ := hg.get hi ei
  obtain ⟨ni, m1, m2, ki⟩ := wi vi
  obtain rfl : xi = nI ni := m1
  obtain rfl : yi = sgI (Z i9) := m2
  have ki : whO Li ni gi (Z i9) := ki
  have ri : raO Li gi := ri
  have ci : Li ≤ Mb i9 := ci
  have base := g_Wh_sign l G k oi s0 sl di Li ni gi (Z i9)
  have f9 := cg_frame (tpl k (va_up st i9 none) N9) base
  have hp0 : (twQ k (oi, di, Li, nI ni, sgI (Z i9), gi) ++ tpl k (va_up st i9 none) N9).Perm (tpl k st N9) := by
    have t9 := tp1 (show i9 < N9 by omega)  (st := st) (k := k) (oi, di, Li, nI ni, sgI (Z i9), gi)
    rw [up_id _ _ ei] at t9
    exact t9
  refine cg_imp (cg_perm (wi' := [] ++ (tpl k st N9)) hp0 f9) (fun u hu => ?_)
  refine ⟨(), trivial, rfl, hp0, Nat.le_refl _, Nat.le_refl _⟩
set_option maxRecDepth 100000 in
set_option maxHeartbeats 4000000 in
theorem g_P_isSmall (l : Launch) (G : va_G) (k : Nat → ClassId) (s0 sl : Nat) (i9 : Nat) (ai9 : Nat) (zi : Int) (N9 : Nat) (st : Nat → Option wQ) (Z : Nat → Int) (V9 : Nat → Prop) (hN : N9 = 3745) (hg : gO st Z V9) (hi : i9 < 3745) (ai : atO st i9 ai9) (ezi : Z i9 = zi) (vi : V9 i9) : CG l y_Wh_isSmall c_Wh_isSmall 1 (some .boolean) { frames := 0, cells := 0, slots := 0, locals := 0 } [.ref ai9] G k s0 sl ([] ++ (tpl k st N9)) (fun (u : Unit) => some (.int (nI (smB (zi))))) (fun (u : Unit) => True) (fun (u : Unit) => ([] ++ (tpl k st N9))) (fun (u : Unit) => 0) (fun (u : Unit) => 0) 0 0 := by
  subst ezi
  obtain ⟨⟨oi, di, Li, xi, yi, gi⟩, ei, rfl⟩ := ai
  obtain ⟨ci, ri, wi⟩ := hg.get hi ei
  obtain ⟨ni, m1, m2, ki⟩ := wi vi
  obtain rfl : xi = nI ni := m1
  obtain rfl : yi = sgI (Z i9) := m2
  have ki : whO Li ni gi (Z i9) := ki
  have ri : raO Li gi := ri
  have ci : Li ≤ Mb i9 := ci
  have e9 := sm_n ki
  have base := g_Wh_isSmall l G k oi s0 sl di Li ni gi (Z i9) ki
  have f9 := cg_frame (tpl k (va_up st i9 none) N9) base
  have hp0 : (twQ k (oi, di, Li, nI ni, sgI (Z i9), gi) ++ tpl k (va_up st i9 none) N9).Perm (tpl k st N9) := by
    have t9 := tp1 (show i9 < N9 by omega)  (st := st) (k := k) (oi, di, Li, nI ni, sgI (Z i9), gi)
    rw [up_id _ _ ei] at t9
    exact t9
  refine cg_imp (cg_perm (wi' := [] ++ (tpl k st N9)) hp0 f9) (fun u hu => ?_)
  refine ⟨(), trivial, ?_, hp0, Nat.le_refl _, Nat.le_refl _⟩
  show some (Value.int (nI (smB (Z i9)))) = some (.int (nI (if ni ≤ 1 then 1 else 0)))
  rw [e9]
set_option maxRecDepth 100000 in
set_option maxHeartbeats 4000000 in
theorem g_P_small (l : Launch) (G : va_G) (k : Nat → ClassId) (s0 sl : Nat) (i9 : Nat) (ai9 : Nat) (zi : Int) (N9 : Nat) (st : Nat → Option wQ) (Z : Nat → Int) (V9 : Nat → Prop) (hN : N9 = 3745) (hg : gO st Z V9) (hi : i9 < 3745) (ai : atO st i9 ai9) (ezi : Z i9 = zi) (vi : V9 i9) (hsm : (zi).natAbs < 2147483648) : CG l y_Wh_small c_Wh_small 1 (some .long) { frames := 0, cells := 0, slots := 0, locals := 0 } [.ref ai9] G k s0 sl ([] ++ (tpl k st N9)) (fun (u : Unit) => some (.long (lZ (zi)))) (fun (u : Unit) => True) (fun (u : Unit) => ([] ++ (tpl k st N9))) (fun (u : Unit) => 0) (fun (u : Unit) => 0) 0 0 := by
  subst ezi
  obtain ⟨⟨oi, di, Li, xi, yi, gi⟩, ei, rfl⟩ := ai
  obtain ⟨ci, ri, wi⟩ := hg.get hi ei
  obtain ⟨ni, m1, m2, ki⟩ := wi vi
  obtain rfl : xi = nI ni := m1
  obtain rfl : yi = sgI (Z i9) := m2
  have ki : whO Li ni gi (Z i9) := ki
  have ri : raO Li gi := ri
  have ci : Li ≤ Mb i9 := ci
  have base := g_Wh_small l G k oi s0 sl di Li ni gi (Z i9) ki (wh_size (m := 1) ki (by rw [Nat.pow_one]; exact hsm))
  have f9 := cg_frame (tpl k (va_up st i9 none) N9) base
  have hp0 : (twQ k (oi, di, Li, nI ni, sgI (Z i9), gi) ++ tpl k (va_up st i9 none) N9).Perm (tpl k st N9) := by
    have t9 := tp1 (show i9 < N9 by omega)  (st := st) (k := k) (oi, di, Li, nI ni, sgI (Z i9), gi)
    rw [up_id _ _ ei] at t9
    exact t9
  refine cg_imp (cg_perm (wi' := [] ++ (tpl k st N9)) hp0 f9) (fun u hu => ?_)
  refine ⟨(), trivial, rfl, hp0, Nat.le_refl _, Nat.le_refl _⟩
set_option maxRecDepth 100000 in
set_option maxHeartbeats 4000000 in
theorem g_P_compare (l : Launch) (G : va_G) (k : Nat → ClassId) (s0 sl : Nat) (i9 : Nat) (x9 : Nat) (ai9 : Nat) (ax9 : Nat) (zi : Int) (zx : Int) (N9 : Nat) (st : Nat → Option wQ) (Z : Nat → Int) (V9 : Nat → Prop) (hN : N9 = 3745) (hg : gO st Z V9) (hi : i9 < 3745) (hx : x9 < 3745) (ai : atO st i9 ai9) (ax : atO st x9 ax9) (ezi : Z i9 = zi) (ezx : Z x9 = zx) (vi : V9 i9) (vx : V9 x9) (dix : i9 ≠ x9) : CG l y_Wh_compare c_Wh_compare 2 (some .int) { frames := 2, cells := 0, slots := 0, locals := 43 } [.ref ai9, .ref ax9] G k s0 sl ([] ++ (tpl k st N9)) (fun (u : Unit) => some (.int (czI (zi) (zx)))) (fun (u : Unit) => True) (fun (u : Unit) => ([] ++ (tpl k st N9))) (fun (u : Unit) => 0) (fun (u : Unit) => 0) 0 0 := by
  subst ezi
  subst ezx
  obtain ⟨⟨oi, di, Li, xi, yi, gi⟩, ei, rfl⟩ := ai
  obtain ⟨ci, ri, wi⟩ := hg.get hi ei
  obtain ⟨ni, m1, m2, ki⟩ := wi vi
  obtain rfl : xi = nI ni := m1
  obtain rfl : yi = sgI (Z i9) := m2
  have ki : whO Li ni gi (Z i9) := ki
  have ri : raO Li gi := ri
  have ci : Li ≤ Mb i9 := ci
  obtain ⟨⟨ox, dx, Lx, xx, yx, gx⟩, ex, rfl⟩ := ax
  obtain ⟨cx, rx, wx⟩ := hg.get hx ex
  obtain ⟨nx, m1, m2, kx⟩ := wx vx
  obtain rfl : xx = nI nx := m1
  obtain rfl : yx = sgI (Z x9) := m2
  have kx : whO Lx nx gx (Z x9) := kx
  have rx : raO Lx gx := rx
  have cx : Lx ≤ Mb x9 := cx
  have base := g_Wh_compare l G k oi s0 sl di Li ni gi (Z i9) ox dx Lx nx gx (Z x9) ki kx
  have f9 := cg_frame (tpl k (va_up (va_up st i9 none) x9 none) N9) base
  have hp0 : (twQ k (oi, di, Li, nI ni, sgI (Z i9), gi) ++ (twQ k (ox, dx, Lx, nI nx, sgI (Z x9), gx) ++ tpl k (va_up (va_up st i9 none) x9 none) N9)).Perm (tpl k st N9) := by
    have t9 := tp2 (show i9 < N9 by omega) (show x9 < N9 by omega) dix (st := st) (k := k) (oi, di, Li, nI ni, sgI (Z i9), gi) (ox, dx, Lx, nI nx, sgI (Z x9), gx)
    rw [up_id _ _ ex, up_id _ _ ei] at t9
    exact t9
  refine cg_imp (cg_perm (wi' := [] ++ (tpl k st N9)) hp0 f9) (fun u hu => ?_)
  refine ⟨(), trivial, rfl, hp0, Nat.le_refl _, Nat.le_refl _⟩
set_option maxRecDepth 100000 in
set_option maxHeartbeats 4000000 in
theorem g_P_negate (l : Launch) (G : va_G) (k : Nat → ClassId) (s0 sl : Nat) (i9 : Nat) (ai9 : Nat) (zi : Int) (N9 : Nat) (st : Nat → Option wQ) (Z : Nat → Int) (V9 : Nat → Prop) (hN : N9 = 3745) (hg : gO st Z V9) (hi : i9 < 3745) (ai : atO st i9 ai9) (ezi : Z i9 = zi) (vi : V9 i9) : CG l y_Wh_negate c_Wh_negate 1 none { frames := 0, cells := 0, slots := 0, locals := 0 } [.ref ai9] G k s0 sl ([] ++ (tpl k st N9)) (fun (u : (Nat → Option wQ)) => none) (fun (u : (Nat → Option wQ)) => gO u (va_up Z i9 (-(zi))) (va_up V9 i9 True) ∧ keO st u ∧ pt u N9 ≤ pt st N9 ∧ saO st u) (fun (u : (Nat → Option wQ)) => ([] ++ (tpl k u N9))) (fun (u : (Nat → Option wQ)) => pt st N9 - pt u N9) (fun (u : (Nat → Option wQ)) => 2 * (pt st N9 - pt u N9)) 0 0 := by
  subst ezi
  obtain ⟨⟨oi, di, Li, xi, yi, gi⟩, ei, rfl⟩ := ai
  obtain ⟨ci, ri, wi⟩ := hg.get hi ei
  obtain ⟨ni, m1, m2, ki⟩ := wi vi
  obtain rfl : xi = nI ni := m1
  obtain rfl : yi = sgI (Z i9) := m2
  have ki : whO Li ni gi (Z i9) := ki
  have ri : raO Li gi := ri
  have ci : Li ≤ Mb i9 := ci
  have base := g_Wh_negate l G k oi s0 sl di Li ni gi (Z i9)
  have f9 := cg_frame (tpl k (va_up st i9 none) N9) base
  have hp0 : (twQ k (oi, di, Li, nI ni, sgI (Z i9), gi) ++ tpl k (va_up st i9 none) N9).Perm (tpl k st N9) := by
    have t9 := tp1 (show i9 < N9 by omega)  (st := st) (k := k) (oi, di, Li, nI ni, sgI (Z i9), gi)
    rw [up_id _ _ ei] at t9
    exact t9
  refine cg_imp (cg_perm (wi' := [] ++ (tpl k st N9)) hp0 f9) (fun u hu => ?_)
  have t8 := tp1 (show i9 < N9 by omega) (st := st) (k := k) (oi, di, Li, nI ni, sgI (-(Z i9)), gi)
  have g1 := gO.up (i := i9) (q := (oi, di, Li, nI ni, sgI (-(Z i9)), gi)) (z := -(Z i9)) (v := True) hg ci ri (fun _ => ⟨ni, rfl, rfl, wh_abs ki (Int.natAbs_neg _)⟩)
  have s1 : st i9 = some (oi, di, Li, nI ni, sgI (Z i9), gi) := by exact ei
  have p1 := pt_up (st := st) (i := i9) (o := some (oi, di, Li, nI ni, sgI (-(Z i9)), gi)) (by rw [s1]; exact (Nat.le_refl _)) ci N9 (by omega)
  rw [s1] at p1
  have p1 : pt (va_up st i9 (some (oi, di, Li, nI ni, sgI (-(Z i9)), gi))) N9 + (Li - Li) = pt st N9 := p1
  have q1 : keO st (va_up st i9 (some (oi, di, Li, nI ni, sgI (-(Z i9)), gi))) := ke_up s1 rfl
  have b1_ : saO st (va_up st i9 (some (oi, di, Li, nI ni, sgI (-(Z i9)), gi))) := sa_up s1 rfl
  refine ⟨(va_up st i9 (some (oi, di, Li, nI ni, sgI (-(Z i9)), gi))), ⟨?_, q1, by omega, b1_⟩, rfl, t8, ?_, ?_⟩
  · exact g1
  · show 0 ≤ _
    show _ ≤ pt st N9 - pt _ N9
    omega
  · show 0 ≤ _
    show _ ≤ 2 * (pt st N9 - pt _ N9)
    omega
set_option maxRecDepth 100000 in
set_option maxHeartbeats 4000000 in
theorem g_P_set (l : Launch) (G : va_G) (k : Nat → ClassId) (s0 sl : Nat) (v9 : Int) (i9 : Nat) (ai9 : Nat) (N9 : Nat) (st : Nat → Option wQ) (Z : Nat → Int) (V9 : Nat → Prop) (hN : N9 = 3745) (hg : gO st Z V9) (hi : i9 < 3745) (ai : atO st i9 ai9) (hz1 : -9223372036854775808 ≤ v9) (hz2 : v9 < 9223372036854775808) : CG l y_Wh_set c_Wh_set 6 none { frames := 1, cells := 0, slots := 0, locals := 23 } [.ref ai9, .long (lZ v9)] G k s0 sl ([] ++ (tpl k st N9)) (fun (u : (Nat → Option wQ)) => none) (fun (u : (Nat → Option wQ)) => gO u (va_up Z i9 v9) (va_up V9 i9 True) ∧ keO st u ∧ pt u N9 ≤ pt st N9 ∧ saO st u) (fun (u : (Nat → Option wQ)) => ([] ++ (tpl k u N9))) (fun (u : (Nat → Option wQ)) => pt st N9 - pt u N9) (fun (u : (Nat → Option wQ)) => 2 * (pt st N9 - pt u N9)) 0 0 := by
  obtain ⟨⟨oi, di, Li, xi, yi, gi⟩, ei, rfl⟩ := ai
  obtain ⟨ci, ri, wi⟩ := hg.get hi ei
  have ri : raO Li gi := ri
  have ci : Li ≤ Mb i9 := ci
  have base := g_Wh_set l G k oi s0 sl v9 di Li xi yi gi ri hz1 hz2
  have f9 := cg_frame (tpl k (va_up st i9 none) N9) base
  have hp0 : (twQ k (oi, di, Li, xi, yi, gi) ++ tpl k (va_up st i9 none) N9).Perm (tpl k st N9) := by
    have t9 := tp1 (show i9 < N9 by omega)  (st := st) (k := k) (oi, di, Li, xi, yi, gi)
    rw [up_id _ _ ei] at t9
    exact t9
  refine cg_imp (cg_perm (wi' := [] ++ (tpl k st N9)) hp0 f9) (fun u hu => ?_)
  have hu : whO Li u.1 u.2 v9 := hu
  have t8 := tp1 (show i9 < N9 by omega) (st := st) (k := k) (oi, di, Li, nI u.1, sgI v9, u.2)
  have g1 := gO.up (i := i9) (q := (oi, di, Li, nI u.1, sgI v9, u.2)) (z := v9) (v := True) hg ci (wh_ra hu) (fun _ => ⟨u.1, rfl, rfl, hu⟩)
  have s1 : st i9 = some (oi, di, Li, xi, yi, gi) := by exact ei
  have p1 := pt_up (st := st) (i := i9) (o := some (oi, di, Li, nI u.1, sgI v9, u.2)) (by rw [s1]; exact (Nat.le_refl _)) ci N9 (by omega)
  rw [s1] at p1
  have p1 : pt (va_up st i9 (some (oi, di, Li, nI u.1, sgI v9, u.2))) N9 + (Li - Li) = pt st N9 := p1
  have q1 : keO st (va_up st i9 (some (oi, di, Li, nI u.1, sgI v9, u.2))) := ke_up s1 rfl
  have b1_ : saO st (va_up st i9 (some (oi, di, Li, nI u.1, sgI v9, u.2))) := sa_up s1 rfl
  refine ⟨(va_up st i9 (some (oi, di, Li, nI u.1, sgI v9, u.2))), ⟨?_, q1, by omega, b1_⟩, rfl, t8, ?_, ?_⟩
  · exact g1
  · show 0 ≤ _
    show _ ≤ pt st N9 - pt _ N9
    omega
  · show 0 ≤ _
    show _ ≤ 2 * (pt st N9 - pt _ N9)
    omega
set_option maxRecDepth 100000 in
set_option maxHeartbeats 4000000 in
theorem g_P_copy (l : Launch) (G : va_G) (k : Nat → ClassId) (s0 sl : Nat) (i9 : Nat) (x9 : Nat) (ai9 : Nat) (ax9 : Nat) (zx : Int) (N9 : Nat) (st : Nat → Option wQ) (Z : Nat → Int) (V9 : Nat → Prop) (hN : N9 = 3745) (hg : gO st Z V9) (hi : i9 < 3745) (hx : x9 < 3745) (ai : atO st i9 ai9) (ax : atO st x9 ax9) (ezx : Z x9 = zx) (vx : V9 x9) (dix : i9 ≠ x9) (b1 : (zx).natAbs < 2147483648 ^ 49) : CG l y_Wh_copy c_Wh_copy 2 none { frames := 3, cells := Mb i9, slots := 2 * Mb i9, locals := 104 } [.ref ai9, .ref ax9] G k s0 sl ([] ++ (tpl k st N9)) (fun (u : (Nat → Option wQ)) => none) (fun (u : (Nat → Option wQ)) => gO u (va_up Z i9 zx) (va_up V9 i9 True) ∧ keO st u ∧ pt u N9 ≤ pt st N9 ∧ saO st u) (fun (u : (Nat → Option wQ)) => ([] ++ (tpl k u N9))) (fun (u : (Nat → Option wQ)) => pt st N9 - pt u N9) (fun (u : (Nat → Option wQ)) => 2 * (pt st N9 - pt u N9)) (Mb i9) (2 * Mb i9) := by
  subst ezx
  obtain ⟨⟨oi, di, Li, xi, yi, gi⟩, ei, rfl⟩ := ai
  obtain ⟨ci, ri, wi⟩ := hg.get hi ei
  have ri : raO Li gi := ri
  have ci : Li ≤ Mb i9 := ci
  obtain ⟨⟨ox, dx, Lx, xx, yx, gx⟩, ex, rfl⟩ := ax
  obtain ⟨cx, rx, wx⟩ := hg.get hx ex
  obtain ⟨nx, m1, m2, kx⟩ := wx vx
  obtain rfl : xx = nI nx := m1
  obtain rfl : yx = sgI (Z x9) := m2
  have kx : whO Lx nx gx (Z x9) := kx
  have rx : raO Lx gx := rx
  have cx : Lx ≤ Mb x9 := cx
  have hn9 := wh_size kx b1
  have hM9 : 98 ≤ Mb i9 ∧ Mb i9 ≤ 200 := by unfold Mb; split <;> omega
  have base := g_Wh_copy l G k oi s0 sl (Mb i9) di Li xi yi gi ox dx Lx nx gx (Z x9) ri kx (by omega) ci (by omega)
  have f9 := cg_frame (tpl k (va_up (va_up st i9 none) x9 none) N9) base
  have hp0 : (twQ k (oi, di, Li, xi, yi, gi) ++ (twQ k (ox, dx, Lx, nI nx, sgI (Z x9), gx) ++ tpl k (va_up (va_up st i9 none) x9 none) N9)).Perm (tpl k st N9) := by
    have t9 := tp2 (show i9 < N9 by omega) (show x9 < N9 by omega) dix (st := st) (k := k) (oi, di, Li, xi, yi, gi) (ox, dx, Lx, nI nx, sgI (Z x9), gx)
    rw [up_id _ _ ex, up_id _ _ ei] at t9
    exact t9
  refine cg_imp (cg_perm (wi' := [] ++ (tpl k st N9)) hp0 f9) (fun u hu => ?_)
  obtain ⟨hu, k1, k2⟩ : whO u.2.1 nx u.2.2 (Z x9) ∧ Li ≤ u.2.1 ∧ u.2.1 ≤ Mb i9 := hu
  have t8 := tp2 (show i9 < N9 by omega) (show x9 < N9 by omega) dix (st := st) (k := k) (oi, u.1, u.2.1, nI nx, sgI (Z x9), u.2.2) (ox, dx, Lx, nI nx, sgI (Z x9), gx)
  rw [up_id st x9 (show st x9 = some (ox, dx, Lx, nI nx, sgI (Z x9), gx) by exact ex)] at t8
  have g1 := gO.up (i := i9) (q := (oi, u.1, u.2.1, nI nx, sgI (Z x9), u.2.2)) (z := Z x9) (v := True) hg k2 (wh_ra hu) (fun _ => ⟨nx, rfl, rfl, hu⟩)
  have s1 : st i9 = some (oi, di, Li, xi, yi, gi) := by exact ei
  have p1 := pt_up (st := st) (i := i9) (o := some (oi, u.1, u.2.1, nI nx, sgI (Z x9), u.2.2)) (by rw [s1]; exact k1) k2 N9 (by omega)
  rw [s1] at p1
  have p1 : pt (va_up st i9 (some (oi, u.1, u.2.1, nI nx, sgI (Z x9), u.2.2))) N9 + (u.2.1 - Li) = pt st N9 := p1
  have q1 : keO st (va_up st i9 (some (oi, u.1, u.2.1, nI nx, sgI (Z x9), u.2.2))) := ke_up s1 rfl
  have b1_ : saO st (va_up st i9 (some (oi, u.1, u.2.1, nI nx, sgI (Z x9), u.2.2))) := sa_up s1 rfl
  refine ⟨(va_up st i9 (some (oi, u.1, u.2.1, nI nx, sgI (Z x9), u.2.2))), ⟨?_, q1, by omega, b1_⟩, rfl, t8, ?_, ?_⟩
  · exact g1
  · show u.2.1 - Li ≤ _
    show _ ≤ pt st N9 - pt _ N9
    omega
  · show 2 * (u.2.1 - Li) ≤ _
    show _ ≤ 2 * (pt st N9 - pt _ N9)
    omega
set_option maxRecDepth 100000 in
set_option maxHeartbeats 4000000 in
theorem g_P_multiply (l : Launch) (G : va_G) (k : Nat → ClassId) (s0 sl : Nat) (i9 : Nat) (x9 : Nat) (y9 : Nat) (ai9 : Nat) (ax9 : Nat) (ay9 : Nat) (zx : Int) (zy : Int) (N9 : Nat) (st : Nat → Option wQ) (Z : Nat → Int) (V9 : Nat → Prop) (hN : N9 = 3745) (hg : gO st Z V9) (hi : i9 < 3745) (hx : x9 < 3745) (hy : y9 < 3745) (ai : atO st i9 ai9) (ax : atO st x9 ax9) (ay : atO st y9 ay9) (ezx : Z x9 = zx) (ezy : Z y9 = zy) (vx : V9 x9) (vy : V9 y9) (dix : i9 ≠ x9) (diy : i9 ≠ y9) (dxy : x9 ≠ y9) (hM : 3731 ≤ i9) (b1 : (zx).natAbs < 2147483648 ^ 50) (b2 : (zy).natAbs < 2147483648 ^ 50) : CG l y_Wh_multiply c_Wh_multiply 8 none { frames := 3, cells := 200, slots := 400, locals := 104 } [.ref ai9, .ref ax9, .ref ay9] G k s0 sl ([] ++ (tpl k st N9)) (fun (u : (Nat → Option wQ)) => none) (fun (u : (Nat → Option wQ)) => gO u (va_up Z i9 (zx * zy)) (va_up V9 i9 True) ∧ keO st u ∧ pt u N9 ≤ pt st N9 ∧ saO st u) (fun (u : (Nat → Option wQ)) => ([] ++ (tpl k u N9))) (fun (u : (Nat → Option wQ)) => pt st N9 - pt u N9) (fun (u : (Nat → Option wQ)) => 2 * (pt st N9 - pt u N9)) 200 400 := by
  subst ezx
  subst ezy
  obtain ⟨⟨oi, di, Li, xi, yi, gi⟩, ei, rfl⟩ := ai
  obtain ⟨ci, ri, wi⟩ := hg.get hi ei
  have ri : raO Li gi := ri
  have ci : Li ≤ Mb i9 := ci
  obtain ⟨⟨ox, dx, Lx, xx, yx, gx⟩, ex, rfl⟩ := ax
  obtain ⟨cx, rx, wx⟩ := hg.get hx ex
  obtain ⟨nx, m1, m2, kx⟩ := wx vx
  obtain rfl : xx = nI nx := m1
  obtain rfl : yx = sgI (Z x9) := m2
  have kx : whO Lx nx gx (Z x9) := kx
  have rx : raO Lx gx := rx
  have cx : Lx ≤ Mb x9 := cx
  obtain ⟨⟨oy, dy, Ly, xy, yy, gy⟩, ey, rfl⟩ := ay
  obtain ⟨cy, ry, wy⟩ := hg.get hy ey
  obtain ⟨ny, m1, m2, ky⟩ := wy vy
  obtain rfl : xy = nI ny := m1
  obtain rfl : yy = sgI (Z y9) := m2
  have ky : whO Ly ny gy (Z y9) := ky
  have ry : raO Ly gy := ry
  have cy : Ly ≤ Mb y9 := cy
  have hn9 := wh_size kx b1
  have hn8 := wh_size ky b2
  have hM9 := (show Mb i9 = 200 by unfold Mb; rw [if_neg (by omega)])
  have base := g_Wh_multiply l G k oi s0 sl 200 di Li xi yi gi ox dx Lx nx gx (Z x9) oy dy Ly ny gy (Z y9) ri kx ky (by omega) (by omega) (by decide)
  have f9 := cg_frame (tpl k (va_up (va_up (va_up st i9 none) x9 none) y9 none) N9) base
  have hp0 : (twQ k (oi, di, Li, xi, yi, gi) ++ (twQ k (ox, dx, Lx, nI nx, sgI (Z x9), gx) ++ (twQ k (oy, dy, Ly, nI ny, sgI (Z y9), gy) ++ tpl k (va_up (va_up (va_up st i9 none) x9 none) y9 none) N9))).Perm (tpl k st N9) := by
    have t9 := tp3 (show i9 < N9 by omega) (show x9 < N9 by omega) (show y9 < N9 by omega) dix diy dxy (st := st) (k := k) (oi, di, Li, xi, yi, gi) (ox, dx, Lx, nI nx, sgI (Z x9), gx) (oy, dy, Ly, nI ny, sgI (Z y9), gy)
    rw [up_id _ _ ey, up_id _ _ ex, up_id _ _ ei] at t9
    exact t9
  refine cg_imp (cg_perm (wi' := [] ++ (tpl k st N9)) hp0 f9) (fun u hu => ?_)
  obtain ⟨hu, k1, k2⟩ : whO u.2.1 u.2.2.1 u.2.2.2 (Z x9 * Z y9) ∧ Li ≤ u.2.1 ∧ u.2.1 ≤ 200 := hu
  have t8 := tp3 (show i9 < N9 by omega) (show x9 < N9 by omega) (show y9 < N9 by omega) dix diy dxy (st := st) (k := k) (oi, u.1, u.2.1, nI u.2.2.1, sgI (Z x9 * Z y9), u.2.2.2) (ox, dx, Lx, nI nx, sgI (Z x9), gx) (oy, dy, Ly, nI ny, sgI (Z y9), gy)
  rw [up_id st y9 (show st y9 = some (oy, dy, Ly, nI ny, sgI (Z y9), gy) by exact ey)] at t8
  rw [up_id st x9 (show st x9 = some (ox, dx, Lx, nI nx, sgI (Z x9), gx) by exact ex)] at t8
  have g1 := gO.up (i := i9) (q := (oi, u.1, u.2.1, nI u.2.2.1, sgI (Z x9 * Z y9), u.2.2.2)) (z := Z x9 * Z y9) (v := True) hg (by rw [(show Mb i9 = 200 by unfold Mb; rw [if_neg (by omega)])]; exact k2) (wh_ra hu) (fun _ => ⟨u.2.2.1, rfl, rfl, hu⟩)
  have s1 : st i9 = some (oi, di, Li, xi, yi, gi) := by exact ei
  have p1 := pt_up (st := st) (i := i9) (o := some (oi, u.1, u.2.1, nI u.2.2.1, sgI (Z x9 * Z y9), u.2.2.2)) (by rw [s1]; exact k1) (by rw [(show Mb i9 = 200 by unfold Mb; rw [if_neg (by omega)])]; exact k2) N9 (by omega)
  rw [s1] at p1
  have p1 : pt (va_up st i9 (some (oi, u.1, u.2.1, nI u.2.2.1, sgI (Z x9 * Z y9), u.2.2.2))) N9 + (u.2.1 - Li) = pt st N9 := p1
  have q1 : keO st (va_up st i9 (some (oi, u.1, u.2.1, nI u.2.2.1, sgI (Z x9 * Z y9), u.2.2.2))) := ke_up s1 rfl
  have b1_ : saO st (va_up st i9 (some (oi, u.1, u.2.1, nI u.2.2.1, sgI (Z x9 * Z y9), u.2.2.2))) := sa_up s1 rfl
  refine ⟨(va_up st i9 (some (oi, u.1, u.2.1, nI u.2.2.1, sgI (Z x9 * Z y9), u.2.2.2))), ⟨?_, q1, by omega, b1_⟩, rfl, t8, ?_, ?_⟩
  · exact g1
  · show u.2.1 - Li ≤ _
    show _ ≤ pt st N9 - pt _ N9
    omega
  · show 2 * (u.2.1 - Li) ≤ _
    show _ ≤ 2 * (pt st N9 - pt _ N9)
    omega
set_option maxRecDepth 100000 in
set_option maxHeartbeats 4000000 in
theorem g_P_subtract (l : Launch) (G : va_G) (k : Nat → ClassId) (s0 sl : Nat) (i9 : Nat) (x9 : Nat) (ai9 : Nat) (ax9 : Nat) (zi : Int) (zx : Int) (N9 : Nat) (st : Nat → Option wQ) (Z : Nat → Int) (V9 : Nat → Prop) (hN : N9 = 3745) (hg : gO st Z V9) (hi : i9 < 3745) (hx : x9 < 3745) (ai : atO st i9 ai9) (ax : atO st x9 ax9) (ezi : Z i9 = zi) (ezx : Z x9 = zx) (vi : V9 i9) (vx : V9 x9) (dix : i9 ≠ x9) (hM : 3731 ≤ i9) (b1 : (zi).natAbs < 2147483648 ^ 99) (b2 : (zx).natAbs < 2147483648 ^ 99) : CG l y_Wh_subtract c_Wh_subtract 2 none { frames := 4, cells := 200, slots := 400, locals := 130 } [.ref ai9, .ref ax9] G k s0 sl ([] ++ (tpl k st N9)) (fun (u : (Nat → Option wQ)) => none) (fun (u : (Nat → Option wQ)) => gO u (va_up Z i9 (zi - zx)) (va_up V9 i9 True) ∧ keO st u ∧ pt u N9 ≤ pt st N9 ∧ saO st u) (fun (u : (Nat → Option wQ)) => ([] ++ (tpl k u N9))) (fun (u : (Nat → Option wQ)) => pt st N9 - pt u N9) (fun (u : (Nat → Option wQ)) => 2 * (pt st N9 - pt u N9)) 200 400 := by
  subst ezi
  subst ezx
  obtain ⟨⟨oi, di, Li, xi, yi, gi⟩, ei, rfl⟩ := ai
  obtain ⟨ci, ri, wi⟩ := hg.get hi ei
  obtain ⟨ni, m1, m2, ki⟩ := wi vi
  obtain rfl : xi = nI ni := m1
  obtain rfl : yi = sgI (Z i9) := m2
  have ki : whO Li ni gi (Z i9) := ki
  have ri : raO Li gi := ri
  have ci : Li ≤ Mb i9 := ci
  obtain ⟨⟨ox, dx, Lx, xx, yx, gx⟩, ex, rfl⟩ := ax
  obtain ⟨cx, rx, wx⟩ := hg.get hx ex
  obtain ⟨nx, m1, m2, kx⟩ := wx vx
  obtain rfl : xx = nI nx := m1
  obtain rfl : yx = sgI (Z x9) := m2
  have kx : whO Lx nx gx (Z x9) := kx
  have rx : raO Lx gx := rx
  have cx : Lx ≤ Mb x9 := cx
  have hn9 := wh_size ki b1
  have hn8 := wh_size kx b2
  have hM9 := (show Mb i9 = 200 by unfold Mb; rw [if_neg (by omega)])
  have base := g_Wh_subtract l G k oi s0 sl 200 di Li ni gi (Z i9) ox dx Lx nx gx (Z x9) ki kx (by omega) (by omega) (by omega) (by decide)
  have f9 := cg_frame (tpl k (va_up (va_up st i9 none) x9 none) N9) base
  have hp0 : (twQ k (oi, di, Li, nI ni, sgI (Z i9), gi) ++ (twQ k (ox, dx, Lx, nI nx, sgI (Z x9), gx) ++ tpl k (va_up (va_up st i9 none) x9 none) N9)).Perm (tpl k st N9) := by
    have t9 := tp2 (show i9 < N9 by omega) (show x9 < N9 by omega) dix (st := st) (k := k) (oi, di, Li, nI ni, sgI (Z i9), gi) (ox, dx, Lx, nI nx, sgI (Z x9), gx)
    rw [up_id _ _ ex, up_id _ _ ei] at t9
    exact t9
  refine cg_imp (cg_perm (wi' := [] ++ (tpl k st N9)) hp0 f9) (fun u hu => ?_)
  obtain ⟨hu, k1, k2⟩ : whO u.2.1 u.2.2.1 u.2.2.2 (Z i9 - Z x9) ∧ Li ≤ u.2.1 ∧ u.2.1 ≤ 200 := hu
  have t8 := tp2 (show i9 < N9 by omega) (show x9 < N9 by omega) dix (st := st) (k := k) (oi, u.1, u.2.1, nI u.2.2.1, sgI (Z i9 - Z x9), u.2.2.2) (ox, dx, Lx, nI nx, sgI (Z x9), gx)
  rw [up_id st x9 (show st x9 = some (ox, dx, Lx, nI nx, sgI (Z x9), gx) by exact ex)] at t8
  have g1 := gO.up (i := i9) (q := (oi, u.1, u.2.1, nI u.2.2.1, sgI (Z i9 - Z x9), u.2.2.2)) (z := Z i9 - Z x9) (v := True) hg (by rw [(show Mb i9 = 200 by unfold Mb; rw [if_neg (by omega)])]; exact k2) (wh_ra hu) (fun _ => ⟨u.2.2.1, rfl, rfl, hu⟩)
  have s1 : st i9 = some (oi, di, Li, nI ni, sgI (Z i9), gi) := by exact ei
  have p1 := pt_up (st := st) (i := i9) (o := some (oi, u.1, u.2.1, nI u.2.2.1, sgI (Z i9 - Z x9), u.2.2.2)) (by rw [s1]; exact k1) (by rw [(show Mb i9 = 200 by unfold Mb; rw [if_neg (by omega)])]; exact k2) N9 (by omega)
  rw [s1] at p1
  have p1 : pt (va_up st i9 (some (oi, u.1, u.2.1, nI u.2.2.1, sgI (Z i9 - Z x9), u.2.2.2))) N9 + (u.2.1 - Li) = pt st N9 := p1
  have q1 : keO st (va_up st i9 (some (oi, u.1, u.2.1, nI u.2.2.1, sgI (Z i9 - Z x9), u.2.2.2))) := ke_up s1 rfl
  have b1_ : saO st (va_up st i9 (some (oi, u.1, u.2.1, nI u.2.2.1, sgI (Z i9 - Z x9), u.2.2.2))) := sa_up s1 rfl
  refine ⟨(va_up st i9 (some (oi, u.1, u.2.1, nI u.2.2.1, sgI (Z i9 - Z x9), u.2.2.2))), ⟨?_, q1, by omega, b1_⟩, rfl, t8, ?_, ?_⟩
  · exact g1
  · show u.2.1 - Li ≤ _
    show _ ≤ pt st N9 - pt _ N9
    omega
  · show 2 * (u.2.1 - Li) ≤ _
    show _ ≤ 2 * (pt st N9 - pt _ N9)
    omega
set_option maxRecDepth 100000 in
set_option maxHeartbeats 4000000 in
theorem g_P_divide (l : Launch) (G : va_G) (k : Nat → ClassId) (s0 sl : Nat) (i9 : Nat) (x9 : Nat) (y9 : Nat) (w9 : Nat) (ai9 : Nat) (ax9 : Nat) (ay9 : Nat) (aw9 : Nat) (zi : Int) (zx : Int) (N9 : Nat) (st : Nat → Option wQ) (Z : Nat → Int) (V9 : Nat → Prop) (hN : N9 = 3745) (hg : gO st Z V9) (hi : i9 < 3745) (hx : x9 < 3745) (hy : y9 < 3745) (hw : w9 < 3745) (ai : atO st i9 ai9) (ax : atO st x9 ax9) (ay : atO st y9 ay9) (aw : atO st w9 aw9) (ezi : Z i9 = zi) (ezx : Z x9 = zx) (vi : V9 i9) (vx : V9 x9) (dix : i9 ≠ x9) (diy : i9 ≠ y9) (diw : i9 ≠ w9) (dxy : x9 ≠ y9) (dxw : x9 ≠ w9) (dyw : y9 ≠ w9) (hM : 3731 ≤ i9) (hMy : 3731 ≤ y9) (hMw : 3731 ≤ w9) (b1 : (zi).natAbs < 2147483648 ^ 99) (b2 : (zx).natAbs < 2147483648 ^ 99) : CG l y_Wh_divide c_Wh_divide 9 none { frames := 4, cells := 400, slots := 800, locals := 129 } [.ref ai9, .ref ax9, .ref ay9, .ref aw9] G k s0 sl ([] ++ (tpl k st N9)) (fun (u : (Nat → Option wQ)) => none) (fun (u : (Nat → Option wQ)) => gO u (va_up Z i9 (zi.tdiv zx)) (va_up (va_up (va_up V9 w9 False) y9 False) i9 True) ∧ keO st u ∧ pt u N9 ≤ pt st N9 ∧ saO st u) (fun (u : (Nat → Option wQ)) => ([] ++ (tpl k u N9))) (fun (u : (Nat → Option wQ)) => pt st N9 - pt u N9) (fun (u : (Nat → Option wQ)) => 2 * (pt st N9 - pt u N9)) 400 800 := by
  subst ezi
  subst ezx
  obtain ⟨⟨oi, di, Li, xi, yi, gi⟩, ei, rfl⟩ := ai
  obtain ⟨ci, ri, wi⟩ := hg.get hi ei
  obtain ⟨ni, m1, m2, ki⟩ := wi vi
  obtain rfl : xi = nI ni := m1
  obtain rfl : yi = sgI (Z i9) := m2
  have ki : whO Li ni gi (Z i9) := ki
  have ri : raO Li gi := ri
  have ci : Li ≤ Mb i9 := ci
  obtain ⟨⟨ox, dx, Lx, xx, yx, gx⟩, ex, rfl⟩ := ax
  obtain ⟨cx, rx, wx⟩ := hg.get hx ex
  obtain ⟨nx, m1, m2, kx⟩ := wx vx
  obtain rfl : xx = nI nx := m1
  obtain rfl : yx = sgI (Z x9) := m2
  have kx : whO Lx nx gx (Z x9) := kx
  have rx : raO Lx gx := rx
  have cx : Lx ≤ Mb x9 := cx
  obtain ⟨⟨oy, dy, Ly, xy, yy, gy⟩, ey, rfl⟩ := ay
  obtain ⟨cy, ry, wy⟩ := hg.get hy ey
  have ry : raO Ly gy := ry
  have cy : Ly ≤ Mb y9 := cy
  obtain ⟨⟨ow, dw, Lw, xw, yw, gw⟩, ew, rfl⟩ := aw
  obtain ⟨cw, rw_, ww⟩ := hg.get hw ew
  have rw_ : raO Lw gw := rw_
  have cw : Lw ≤ Mb w9 := cw
  have hn9 := wh_size ki b1
  have hn8 := wh_size kx b2
  have hM8 := (show Mb y9 = 200 by unfold Mb; rw [if_neg (by omega)])
  have hM7 := (show Mb w9 = 200 by unfold Mb; rw [if_neg (by omega)])
  have rw9 : raO Lw gw := rw_
  have base := g_Wh_divide l G k oi s0 sl 200 di Li ni gi (Z i9) ox dx Lx nx gx (Z x9) oy dy Ly xy yy gy ow dw Lw xw yw gw ki kx ry rw9 (by omega) (by omega) (by omega) (by omega) (by decide)
  have f9 := cg_frame (tpl k (va_up (va_up (va_up (va_up st i9 none) x9 none) y9 none) w9 none) N9) base
  have hp0 : (twQ k (oi, di, Li, nI ni, sgI (Z i9), gi) ++ (twQ k (ox, dx, Lx, nI nx, sgI (Z x9), gx) ++ (twQ k (oy, dy, Ly, xy, yy, gy) ++ (twQ k (ow, dw, Lw, xw, yw, gw) ++ tpl k (va_up (va_up (va_up (va_up st i9 none) x9 none) y9 none) w9 none) N9)))).Perm (tpl k st N9) := by
    have t9 := tp4 (show i9 < N9 by omega) (show x9 < N9 by omega) (show y9 < N9 by omega) (show w9 < N9 by omega) dix diy diw dxy dxw dyw (st := st) (k := k) (oi, di, Li, nI ni, sgI (Z i9), gi) (ox, dx, Lx, nI nx, sgI (Z x9), gx) (oy, dy, Ly, xy, yy, gy) (ow, dw, Lw, xw, yw, gw)
    rw [up_id _ _ ew, up_id _ _ ey, up_id _ _ ex, up_id _ _ ei] at t9
    exact t9
  refine cg_imp (cg_perm (wi' := [] ++ (tpl k st N9)) hp0 f9) (fun u hu => ?_)
  obtain ⟨hu, k1, k2, k3, k4, k5, k6⟩ : whO Li u.1 u.2.1 ((Z i9).tdiv (Z x9)) ∧ raO u.2.2.1.2.1 u.2.2.1.2.2 ∧ Ly ≤ u.2.2.1.2.1 ∧ u.2.2.1.2.1 ≤ 200 ∧ raO u.2.2.2.2.1 u.2.2.2.2.2 ∧ Lw ≤ u.2.2.2.2.1 ∧ u.2.2.2.2.1 ≤ 200 := hu
  have t8 := tp4 (show i9 < N9 by omega) (show x9 < N9 by omega) (show y9 < N9 by omega) (show w9 < N9 by omega) dix diy diw dxy dxw dyw (st := st) (k := k) (oi, di, Li, nI u.1, sgI ((Z i9).tdiv (Z x9)), u.2.1) (ox, dx, Lx, nI nx, sgI (Z x9), gx) (oy, u.2.2.1.1, u.2.2.1.2.1, xy, yy, u.2.2.1.2.2) (ow, u.2.2.2.1, u.2.2.2.2.1, xw, yw, u.2.2.2.2.2)
  rw [up_id (va_up (va_up st w9 (some (ow, u.2.2.2.1, u.2.2.2.2.1, xw, yw, u.2.2.2.2.2))) y9 (some (oy, u.2.2.1.1, u.2.2.1.2.1, xy, yy, u.2.2.1.2.2))) x9 (show (va_up (va_up st w9 (some (ow, u.2.2.2.1, u.2.2.2.2.1, xw, yw, u.2.2.2.2.2))) y9 (some (oy, u.2.2.1.1, u.2.2.1.2.1, xy, yy, u.2.2.1.2.2))) x9 = some (ox, dx, Lx, nI nx, sgI (Z x9), gx) by rw [va_up_ne _ _ dxy, va_up_ne _ _ dxw]; exact ex)] at t8
  have g1 := gO.up (i := w9) (q := (ow, u.2.2.2.1, u.2.2.2.2.1, xw, yw, u.2.2.2.2.2)) (z := Z w9) (v := False) hg (by rw [(show Mb w9 = 200 by unfold Mb; rw [if_neg (by omega)])]; exact k6) k4 (fun q => q.elim)
  have s1 : st w9 = some (ow, dw, Lw, xw, yw, gw) := by exact ew
  have p1 := pt_up (st := st) (i := w9) (o := some (ow, u.2.2.2.1, u.2.2.2.2.1, xw, yw, u.2.2.2.2.2)) (by rw [s1]; exact k5) (by rw [(show Mb w9 = 200 by unfold Mb; rw [if_neg (by omega)])]; exact k6) N9 (by omega)
  rw [s1] at p1
  have p1 : pt (va_up st w9 (some (ow, u.2.2.2.1, u.2.2.2.2.1, xw, yw, u.2.2.2.2.2))) N9 + (u.2.2.2.2.1 - Lw) = pt st N9 := p1
  have q1 : keO st (va_up st w9 (some (ow, u.2.2.2.1, u.2.2.2.2.1, xw, yw, u.2.2.2.2.2))) := ke_up s1 rfl
  have b1_ : saO st (va_up st w9 (some (ow, u.2.2.2.1, u.2.2.2.2.1, xw, yw, u.2.2.2.2.2))) := sa_up s1 rfl
  have g2 := gO.up (i := y9) (q := (oy, u.2.2.1.1, u.2.2.1.2.1, xy, yy, u.2.2.1.2.2)) (z := Z y9) (v := False) g1 (by rw [(show Mb y9 = 200 by unfold Mb; rw [if_neg (by omega)])]; exact k3) k1 (fun q => q.elim)
  have s2 : (va_up st w9 (some (ow, u.2.2.2.1, u.2.2.2.2.1, xw, yw, u.2.2.2.2.2))) y9 = some (oy, dy, Ly, xy, yy, gy) := by rw [va_up_ne _ _ (show y9 ≠ w9 by first | assumption | exact Ne.symm (by assumption))]; exact ey
  have p2 := pt_up (st := (va_up st w9 (some (ow, u.2.2.2.1, u.2.2.2.2.1, xw, yw, u.2.2.2.2.2)))) (i := y9) (o := some (oy, u.2.2.1.1, u.2.2.1.2.1, xy, yy, u.2.2.1.2.2)) (by rw [s2]; exact k2) (by rw [(show Mb y9 = 200 by unfold Mb; rw [if_neg (by omega)])]; exact k3) N9 (by omega)
  rw [s2] at p2
  have p2 : pt (va_up (va_up st w9 (some (ow, u.2.2.2.1, u.2.2.2.2.1, xw, yw, u.2.2.2.2.2))) y9 (some (oy, u.2.2.1.1, u.2.2.1.2.1, xy, yy, u.2.2.1.2.2))) N9 + (u.2.2.1.2.1 - Ly) = pt (va_up st w9 (some (ow, u.2.2.2.1, u.2.2.2.2.1, xw, yw, u.2.2.2.2.2))) N9 := p2
  have q2 : keO (va_up st w9 (some (ow, u.2.2.2.1, u.2.2.2.2.1, xw, yw, u.2.2.2.2.2))) (va_up (va_up st w9 (some (ow, u.2.2.2.1, u.2.2.2.2.1, xw, yw, u.2.2.2.2.2))) y9 (some (oy, u.2.2.1.1, u.2.2.1.2.1, xy, yy, u.2.2.1.2.2))) := ke_up s2 rfl
  have b2_ : saO (va_up st w9 (some (ow, u.2.2.2.1, u.2.2.2.2.1, xw, yw, u.2.2.2.2.2))) (va_up (va_up st w9 (some (ow, u.2.2.2.1, u.2.2.2.2.1, xw, yw, u.2.2.2.2.2))) y9 (some (oy, u.2.2.1.1, u.2.2.1.2.1, xy, yy, u.2.2.1.2.2))) := sa_up s2 rfl
  have g3 := gO.up (i := i9) (q := (oi, di, Li, nI u.1, sgI ((Z i9).tdiv (Z x9)), u.2.1)) (z := (Z i9).tdiv (Z x9)) (v := True) g2 ci (wh_ra hu) (fun _ => ⟨u.1, rfl, rfl, hu⟩)
  have s3 : (va_up (va_up st w9 (some (ow, u.2.2.2.1, u.2.2.2.2.1, xw, yw, u.2.2.2.2.2))) y9 (some (oy, u.2.2.1.1, u.2.2.1.2.1, xy, yy, u.2.2.1.2.2))) i9 = some (oi, di, Li, nI ni, sgI (Z i9), gi) := by rw [va_up_ne _ _ (show i9 ≠ y9 by first | assumption | exact Ne.symm (by assumption)), va_up_ne _ _ (show i9 ≠ w9 by first | assumption | exact Ne.symm (by assumption))]; exact ei
  have p3 := pt_up (st := (va_up (va_up st w9 (some (ow, u.2.2.2.1, u.2.2.2.2.1, xw, yw, u.2.2.2.2.2))) y9 (some (oy, u.2.2.1.1, u.2.2.1.2.1, xy, yy, u.2.2.1.2.2)))) (i := i9) (o := some (oi, di, Li, nI u.1, sgI ((Z i9).tdiv (Z x9)), u.2.1)) (by rw [s3]; exact (Nat.le_refl _)) ci N9 (by omega)
  rw [s3] at p3
  have p3 : pt (va_up (va_up (va_up st w9 (some (ow, u.2.2.2.1, u.2.2.2.2.1, xw, yw, u.2.2.2.2.2))) y9 (some (oy, u.2.2.1.1, u.2.2.1.2.1, xy, yy, u.2.2.1.2.2))) i9 (some (oi, di, Li, nI u.1, sgI ((Z i9).tdiv (Z x9)), u.2.1))) N9 + (Li - Li) = pt (va_up (va_up st w9 (some (ow, u.2.2.2.1, u.2.2.2.2.1, xw, yw, u.2.2.2.2.2))) y9 (some (oy, u.2.2.1.1, u.2.2.1.2.1, xy, yy, u.2.2.1.2.2))) N9 := p3
  have q3 : keO (va_up (va_up st w9 (some (ow, u.2.2.2.1, u.2.2.2.2.1, xw, yw, u.2.2.2.2.2))) y9 (some (oy, u.2.2.1.1, u.2.2.1.2.1, xy, yy, u.2.2.1.2.2))) (va_up (va_up (va_up st w9 (some (ow, u.2.2.2.1, u.2.2.2.2.1, xw, yw, u.2.2.2.2.2))) y9 (some (oy, u.2.2.1.1, u.2.2.1.2.1, xy, yy, u.2.2.1.2.2))) i9 (some (oi, di, Li, nI u.1, sgI ((Z i9).tdiv (Z x9)), u.2.1))) := ke_up s3 rfl
  have b3_ : saO (va_up (va_up st w9 (some (ow, u.2.2.2.1, u.2.2.2.2.1, xw, yw, u.2.2.2.2.2))) y9 (some (oy, u.2.2.1.1, u.2.2.1.2.1, xy, yy, u.2.2.1.2.2))) (va_up (va_up (va_up st w9 (some (ow, u.2.2.2.1, u.2.2.2.2.1, xw, yw, u.2.2.2.2.2))) y9 (some (oy, u.2.2.1.1, u.2.2.1.2.1, xy, yy, u.2.2.1.2.2))) i9 (some (oi, di, Li, nI u.1, sgI ((Z i9).tdiv (Z x9)), u.2.1))) := sa_up s3 rfl
  refine ⟨(va_up (va_up (va_up st w9 (some (ow, u.2.2.2.1, u.2.2.2.2.1, xw, yw, u.2.2.2.2.2))) y9 (some (oy, u.2.2.1.1, u.2.2.1.2.1, xy, yy, u.2.2.1.2.2))) i9 (some (oi, di, Li, nI u.1, sgI ((Z i9).tdiv (Z x9)), u.2.1))), ⟨?_, ((q1.tr q2).tr q3), by omega, (saO.tr (saO.tr b1_ b2_) b3_)⟩, rfl, t8, ?_, ?_⟩
  · rw [up_id Z w9 rfl, up_id Z y9 rfl] at g3
    exact g3
  · show (u.2.2.1.2.1 - Ly) + (u.2.2.2.2.1 - Lw) ≤ pt st N9 - pt _ N9
    omega
  · show 2 * (u.2.2.1.2.1 - Ly) + 2 * (u.2.2.2.2.1 - Lw) ≤ 2 * (pt st N9 - pt _ N9)
    omega
theorem g_P_lowest (l : Launch) (G : va_G) (k : Nat → ClassId) (s0 sl : Nat) (i9 : Nat) (ai9 : Nat) (N9 : Nat) (st : Nat → Option wQ) (Z : Nat → Int) (V9 : Nat → Prop) (hN : N9 = 3745) (hg : gO st Z V9) (hi : i9 < 3745) (ai : atO st i9 ai9) (vi : V9 i9) : CG l y_Wh_lowest c_Wh_lowest 4 (some .long) { frames := 0, cells := 0, slots := 0, locals := 0 } [.ref ai9] G k s0 sl ([] ++ (tpl k st N9)) (fun (u : Int64) => some (.long u)) (fun (u : Int64) => True) (fun (u : Int64) => ([] ++ (tpl k st N9))) (fun (u : Int64) => 0) (fun (u : Int64) => 0) 0 0 := by
  obtain ⟨⟨oi, di, Li, xi, yi, gi⟩, ei, rfl⟩ := ai
  obtain ⟨ci, ri, wi⟩ := hg.get hi ei
  obtain ⟨ni, m1, m2, ki⟩ := wi vi
  obtain rfl : xi = nI ni := m1
  obtain rfl : yi = sgI (Z i9) := m2
  have base := g_Wh_lowest l G k oi s0 sl di Li ni gi (Z i9) ki
  have f9 := cg_frame (tpl k (va_up st i9 none) N9) base
  have hp0 : (twQ k (oi, di, Li, nI ni, sgI (Z i9), gi) ++ tpl k (va_up st i9 none) N9).Perm (tpl k st N9) := by
    have t9 := tp1 (show i9 < N9 by omega) (st := st) (k := k) (oi, di, Li, nI ni, sgI (Z i9), gi)
    rw [up_id _ _ ei] at t9
    exact t9
  exact cg_imp (cg_perm (wi' := [] ++ (tpl k st N9)) hp0 f9) (fun u hu => ⟨u, trivial, rfl, hp0, Nat.le_refl _, Nat.le_refl _⟩)
end
section
/-! the class's table: what an exchange does to it -/
def V0 (i : Nat) : Prop := i < 3733 ∨ (3736 ≤ i ∧ i ≤ 3740)
def bdO (Z : Nat → Int) : Prop := ∀ i, i < 3745 → V0 i → (Z i).natAbs < 2147483648 ^ 49
def hO (st : Nat → Option wQ) (Z : Nat → Int) : Prop := gO st Z V0 ∧ bdO Z
theorem bd_up {Z : Nat → Int} {i : Nat} {z : Int} (h : bdO Z) (hz : z.natAbs < 2147483648 ^ 49) : bdO (va_up Z i z) := by
  intro j hj hv
  by_cases q : j = i
  · subst q; rw [va_up_self]; exact hz
  · rw [va_up_ne _ _ q]; exact h j hj hv
/-- scratch numbers are forgotten -/
theorem hO_of {st : Nat → Option wQ} {Z Z' : Nat → Int} {V : Nat → Prop} (h : gO st Z V) (hb : bdO Z') (h1 : ∀ i, i < 3745 → V0 i → V i ∧ Z' i = Z i) : hO st Z' := ⟨h.weak h1 (fun i hi => (h1 i (by omega) (Or.inl (by omega))).2), hb⟩
theorem b49 : (41 * 2147483648) ^ 41 < 2147483648 ^ 49 := by decide +kernel
theorem ix_ne {C i j i2 j2 : Nat} (hj : j ≤ C) (hj2 : j2 ≤ C) (h : i ≠ i2 ∨ j ≠ j2) : i * (C + 1) + j ≠ i2 * (C + 1) + j2 := by
  intro e
  rcases Nat.lt_trichotomy i i2 with q | q | q
  · have : (i + 1) * (C + 1) ≤ i2 * (C + 1) := Nat.mul_le_mul_right _ q
    rw [Nat.add_mul, Nat.one_mul] at this
    omega
  · subst q; omega
  · have : (i2 + 1) * (C + 1) ≤ i * (C + 1) := Nat.mul_le_mul_right _ q
    rw [Nat.add_mul, Nat.one_mul] at this
    omega
theorem ix_lt {C R i j : Nat} (hi : i < R) (hj : j ≤ C) (hR : R ≤ 91) (hC : C ≤ 40) : i * (C + 1) + j < 3731 := by
  have h1 : (i + 1) * (C + 1) ≤ 91 * 41 := Nat.mul_le_mul (by omega) (by omega)
  rw [Nat.add_mul, Nat.one_mul] at h1
  omega
def tabO (n R : Nat) (Z : Nat → Int) : Prop := ∃ F nm cn e, (∀ v, dt_nm (n + 1) (F v) ≤ 41 * 2147483648) ∧ sxT n F R nm cn e (fun i j => Z (i * (n + 1) + j)) (Z 3731)
theorem tab_pow {n : Nat} (hn : n ≤ 40) {x : Nat} (h : x ≤ (41 * 2147483648) ^ (n + 1)) : x < 2147483648 ^ 49 := by
  have h1 : (41 * 2147483648) ^ (n + 1) ≤ (41 * 2147483648) ^ 41 := Nat.pow_le_pow_right (by decide) (by omega)
  have := b49
  omega
theorem tab_pos {n R : Nat} {Z : Nat → Int} (h : tabO n R Z) : 0 < Z 3731 := by
  obtain ⟨F, nm, cn, e, -, h2⟩ := h
  exact h2.2.2.1
def wv (n row col : Nat) (Z : Nat → Int) (i j : Nat) : Int := (Z (row * (n + 1) + col) * Z (i * (n + 1) + j) - Z (i * (n + 1) + col) * Z (row * (n + 1) + j)) / Z 3731
theorem tab_W {n R row col : Nat} {Z : Nat → Int} (h : tabO n R Z) (hn : n ≤ 40) (hr : row < R) (hc : col < n) {i j : Nat} (hi : i < R) (hj : j ≤ n) (hne : j ≠ col) : Z (row * (n + 1) + col) * Z (i * (n + 1) + j) - Z (i * (n + 1) + col) * Z (row * (n + 1) + j) = wv n row col Z i j * Z 3731 ∧ (wv n row col Z i j).natAbs < 2147483648 ^ 49 := by
  obtain ⟨F, nm, cn, e, h1, h2⟩ := h
  have hc9 : ∀ j, j < n → (fun j => if j = col then nm row else cn j) j = if j = col then nm row else cn j := fun _ _ => rfl
  have e1 := sx_exact h2 hr hc hi (show j < n + 1 by omega) hne hc9
  have e2 := sx_div h2 hr hc hi (show j < n + 1 by omega) hne hc9
  have e2 : wv n row col Z i j = e * tT n F (fun j => if j = col then nm row else cn j) (nm i) j := e2
  refine ⟨?_, ?_⟩
  · rw [e2, Int.mul_comm _ (Z 3731)]; exact e1
  · rw [e2, sx_abs h2.1]
    exact tab_pow hn (tT_le (by decide) h1 _ _)
theorem tab_next {n R row col : Nat} {Z Z' : Nat → Int} (h : tabO n R Z) (hr : row < R) (hc : col < n) (hp : 0 < Z (row * (n + 1) + col)) (h1 : ∀ i, i < R → i ≠ row → ∀ j, j ≤ n → j ≠ col → Z' (i * (n + 1) + j) = wv n row col Z i j) (h2 : ∀ i, i < R → i ≠ row → Z' (i * (n + 1) + col) = Z (i * (n + 1) + col)) (h3 : ∀ j, j ≤ n → j ≠ col → Z' (row * (n + 1) + j) = - Z (row * (n + 1) + j)) (h4 : Z' (row * (n + 1) + col) = Z 3731) (h5 : Z' 3731 = Z (row * (n + 1) + col)) : tabO n R Z' := by
  obtain ⟨F, nm, cn, e, g1, g2⟩ := h
  have es : sxS (Z (row * (n + 1) + col)) = 1 := by unfold sxS; rw [if_pos hp]
  have key := sx_next g2 hr hc (show (fun i j => Z (i * (n + 1) + j)) row col ≠ 0 from by show Z (row * (n + 1) + col) ≠ 0; omega) (nm' := fun i => if i = row then cn col else nm i) (cn' := fun j => if j = col then nm row else cn j) (fun _ _ => rfl) (fun _ _ => rfl) (t' := fun i j => Z' (i * (n + 1) + j))
    (fun i hi hne j hj hjc => by show Z' (i * (n + 1) + j) = sxS (Z (row * (n + 1) + col)) * _; rw [h1 i hi hne j (by omega) hjc, es, Int.one_mul]; rfl)
    (fun i hi hne => by show Z' (i * (n + 1) + col) = sxS (Z (row * (n + 1) + col)) * _; rw [h2 i hi hne, es, Int.one_mul])
    (fun j hj hjc => by show Z' (row * (n + 1) + j) = - (sxS (Z (row * (n + 1) + col)) * _); rw [h3 j (by omega) hjc, es, Int.one_mul])
    (by show Z' (row * (n + 1) + col) = sxS (Z (row * (n + 1) + col)) * _; rw [h4, es, Int.one_mul])
  have e5 : (((fun i j => Z (i * (n + 1) + j)) row col).natAbs : Int) = Z' 3731 := by
    show ((Z (row * (n + 1) + col)).natAbs : Int) = Z' 3731
    rw [h5]; omega
  rw [e5] at key
  exact ⟨F, _, _, _, g1, key⟩
/-- the first table -/
theorem nm_le {f : Nat → Int} {b : Nat} : ∀ n, (∀ j, j < n → (f j).natAbs ≤ b) → dt_nm n f ≤ n * b
  | 0, _ => Nat.zero_le _
  | n + 1, h => by
    have h1 := nm_le n (fun j hj => h j (by omega))
    have h2 := h n (by omega)
    rw [dt_nm, Nat.add_mul, Nat.one_mul]
    omega
theorem tab_first {n R : Nat} {Z : Nat → Int} (hn : n ≤ 40) (h1 : Z 3731 = 1) (hb : ∀ i, i < R → ∀ j, j ≤ n → (Z (i * (n + 1) + j)).natAbs ≤ 2147483648) : tabO n R Z := by
  refine ⟨fun v c => if v < n then (if v = c then 1 else 0) else if v < n + R then Z ((v - n) * (n + 1) + c) else 0, fun i => n + i, fun j => j, 1, fun v => ?_, ?_⟩
  · refine Nat.le_trans (nm_le (b := 2147483648) (n + 1) (fun j hj => ?_)) (Nat.mul_le_mul_right _ (by omega))
    by_cases q : v < n
    · simp only [q, if_true]
      by_cases w : v = j
      · simp [w]
      · simp [w]
    · by_cases w : v < n + R
      · simp only [q, w, if_true, if_false]
        exact hb (v - n) (by omega) j (by omega)
      · simp [q, w]
  · rw [h1]
    refine sx_first (fun v hv c hc => by simp [hv]) (fun i hi j hj => ?_) (fun _ _ => rfl)
    show Z (i * (n + 1) + j) = _
    simp only [show ¬ n + i < n by omega, show n + i < n + R by omega, if_true, if_false, show n + i - n = i by omega]
/-- how far an exchange has come -/
def prO (n R row col : Nat) (Z Z8 : Nat → Int) (i9 j9 : Nat) : Prop := (∀ i, i < R → ∀ j, j ≤ n → Z8 (i * (n + 1) + j) = if (i < i9 ∨ (i = i9 ∧ j < j9)) ∧ i ≠ row ∧ j ≠ col then wv n row col Z i j else Z (i * (n + 1) + j)) ∧ Z8 3731 = Z 3731 ∧ Z8 3732 = Z (row * (n + 1) + col)
section PR
variable {n R row col : Nat} {Z Z8 : Nat → Int} {i9 j9 : Nat}
theorem pr_at (h : prO n R row col Z Z8 i9 j9) {i j : Nat} (hi : i < R) (hj : j ≤ n) (hn : ¬ ((i < i9 ∨ (i = i9 ∧ j < j9)) ∧ i ≠ row ∧ j ≠ col)) : Z8 (i * (n + 1) + j) = Z (i * (n + 1) + j) := by rw [h.1 i hi j hj, if_neg hn]
theorem pr_put2 (h : prO n R row col Z Z8 i9 j9) (hR : R ≤ 91) (hC : n ≤ 40) (hi : i9 < R) (hj : j9 ≤ n) (hr : i9 ≠ row) (hc : j9 ≠ col) : prO n R row col Z (va_up Z8 (i9 * (n + 1) + j9) (wv n row col Z i9 j9)) i9 (j9 + 1) := by
  have hlt := ix_lt hi hj hR hC
  refine ⟨fun i hi2 j hj2 => ?_, by rw [va_up_ne _ _ (by omega)]; exact h.2.1, by rw [va_up_ne _ _ (by omega)]; exact h.2.2⟩
  by_cases q : i = i9 ∧ j = j9
  · obtain ⟨rfl, rfl⟩ := q
    rw [va_up_self, if_pos ⟨Or.inr ⟨rfl, by omega⟩, hr, hc⟩]
  · rw [va_up_ne _ _ (ix_ne hj2 hj (by omega)), h.1 i hi2 j hj2]
    by_cases w : (i < i9 ∨ (i = i9 ∧ j < j9)) ∧ i ≠ row ∧ j ≠ col
    · rw [if_pos w, if_pos (by omega)]
    · rw [if_neg w, if_neg (by omega)]
theorem pr_skip (h : prO n R row col Z Z8 i9 j9) (hs : i9 < R → j9 ≤ n → i9 ≠ row → j9 ≠ col → wv n row col Z i9 j9 = Z (i9 * (n + 1) + j9)) : prO n R row col Z Z8 i9 (j9 + 1) := by
  refine ⟨fun i hi2 j hj2 => ?_, h.2.1, h.2.2⟩
  rw [h.1 i hi2 j hj2]
  by_cases q : i = i9 ∧ j = j9
  · obtain ⟨rfl, rfl⟩ := q
    rw [if_neg (by omega)]
    by_cases w : i ≠ row ∧ j ≠ col
    · rw [if_pos (by omega), hs hi2 hj2 w.1 w.2]
    · rw [if_neg (by omega)]
  · by_cases w : (i < i9 ∨ (i = i9 ∧ j < j9)) ∧ i ≠ row ∧ j ≠ col
    · rw [if_pos w, if_pos (by omega)]
    · rw [if_neg w, if_neg (by omega)]
theorem pr_row (h : prO n R row col Z Z8 i9 (n + 1)) : prO n R row col Z Z8 (i9 + 1) 0 := by
  refine ⟨fun i hi2 j hj2 => ?_, h.2.1, h.2.2⟩
  rw [h.1 i hi2 j hj2]
  by_cases w : (i < i9 ∨ (i = i9 ∧ j < n + 1)) ∧ i ≠ row ∧ j ≠ col
  · rw [if_pos w, if_pos (by omega)]
  · rw [if_neg w, if_neg (by omega)]
theorem pr_apart (h : prO n R row col Z Z8 i9 0) (hs : i9 < R → i9 ≠ row → ∀ j, j ≤ n → j ≠ col → wv n row col Z i9 j = Z (i9 * (n + 1) + j)) : prO n R row col Z Z8 (i9 + 1) 0 := by
  refine ⟨fun i hi2 j hj2 => ?_, h.2.1, h.2.2⟩
  rw [h.1 i hi2 j hj2]
  by_cases q : i = i9
  · subst q
    rw [if_neg (by omega)]
    by_cases w : i ≠ row ∧ j ≠ col
    · rw [if_pos (by omega), hs hi2 w.1 j hj2 w.2]
    · rw [if_neg (by omega)]
  · by_cases w : (i < i9 ∨ (i = i9 ∧ j < 0)) ∧ i ≠ row ∧ j ≠ col
    · rw [if_pos w, if_pos (by omega)]
    · rw [if_neg w, if_neg (by omega)]
theorem wv_same (h0 : 0 < Z 3731) (hp : Z (row * (n + 1) + col) = Z 3731) {i j : Nat} (hz : Z (i * (n + 1) + col) = 0 ∨ Z (row * (n + 1) + j) = 0) : wv n row col Z i j = Z (i * (n + 1) + j) := by
  unfold wv
  have e : Z (i * (n + 1) + col) * Z (row * (n + 1) + j) = 0 := by
    rcases hz with q | q
    · rw [q, Int.zero_mul]
    · rw [q, Int.mul_zero]
  rw [e, hp, Int.sub_zero]
  exact Int.mul_ediv_cancel_left _ (by omega)
/-- the row is turned about, up to j9 -/
def ngO (n R row col : Nat) (Z Z8 : Nat → Int) (j9 : Nat) : Prop := (∀ i, i < R → i ≠ row → ∀ j, j ≤ n → Z8 (i * (n + 1) + j) = if j ≠ col then wv n row col Z i j else Z (i * (n + 1) + j)) ∧ (∀ j, j ≤ n → Z8 (row * (n + 1) + j) = if j < j9 then - Z (row * (n + 1) + j) else Z (row * (n + 1) + j)) ∧ Z8 3731 = Z 3731 ∧ Z8 3732 = Z (row * (n + 1) + col)
theorem ng_0 (h : prO n R row col Z Z8 R 0) (hr : row < R) : ngO n R row col Z Z8 0 := by
  refine ⟨fun i hi hne j hj => ?_, fun j hj => ?_, h.2.1, h.2.2⟩
  · rw [h.1 i hi j hj]
    by_cases w : j ≠ col
    · rw [if_pos w, if_pos ⟨Or.inl hi, hne, w⟩]
    · rw [if_neg w, if_neg (fun q => w q.2.2)]
  · rw [h.1 row hr j hj, if_neg (fun q => q.2.1 rfl), if_neg (by omega)]
theorem ng_s (h : ngO n R row col Z Z8 j9) (hr : row < R) (hR : R ≤ 91) (hC : n ≤ 40) (hj : j9 ≤ n) : ngO n R row col Z (va_up Z8 (row * (n + 1) + j9) (- Z8 (row * (n + 1) + j9))) (j9 + 1) := by
  have hlt := ix_lt hr hj hR hC
  refine ⟨fun i hi hne j hj2 => ?_, fun j hj2 => ?_, by rw [va_up_ne _ _ (by omega)]; exact h.2.2.1, by rw [va_up_ne _ _ (by omega)]; exact h.2.2.2⟩
  · rw [va_up_ne _ _ (ix_ne hj2 hj (Or.inl hne)), h.1 i hi hne j hj2]
  · by_cases q : j = j9
    · subst q
      rw [va_up_self, h.2.1 j hj2, if_neg (by omega), if_pos (by omega)]
    · rw [va_up_ne _ _ (ix_ne hj2 hj (Or.inr q)), h.2.1 j hj2]
      by_cases w : j < j9
      · rw [if_pos w, if_pos (by omega)]
      · rw [if_neg w, if_neg (by omega)]
theorem ng_end (ht : tabO n R Z) (h : ngO n R row col Z Z8 (n + 1)) (hr : row < R) (hc : col < n) (hR : R ≤ 91) (hC : n ≤ 40) (hp : 0 < Z (row * (n + 1) + col)) : tabO n R (va_up (va_up Z8 (row * (n + 1) + col) (Z 3731)) 3731 (Z (row * (n + 1) + col))) := by
  have hlt := fun {i j : Nat} (hi : i < R) (hj : j ≤ n) => ix_lt hi hj hR hC
  have hl0 := hlt hr (show col ≤ n by omega)
  refine tab_next ht hr hc hp (fun i hi hne j hj hjc => ?_) (fun i hi hne => ?_) (fun j hj hjc => ?_) ?_ (va_up_self _ _ _)
  · have := hlt hi hj
    rw [va_up_ne _ _ (by omega), va_up_ne _ _ (ix_ne hj (by omega) (Or.inl hne)), h.1 i hi hne j hj, if_pos hjc]
  · have := hlt hi (show col ≤ n by omega)
    rw [va_up_ne _ _ (by omega), va_up_ne _ _ (ix_ne (by omega) (by omega) (Or.inl hne)), h.1 i hi hne col (by omega), if_neg (by omega)]
  · have := hlt hr hj
    rw [va_up_ne _ _ (by omega), va_up_ne _ _ (ix_ne hj (by omega) (Or.inr hjc)), h.2.1 j hj, if_pos (by omega)]
  · rw [va_up_ne _ _ (by omega), va_up_self]
end PR
theorem lZ_tdiv {a b : Int} (h1 : a.natAbs < 9223372036854775808) (h2 : b.natAbs < 9223372036854775808) (hb : b ≠ 0) : lZ a / lZ b = lZ (a.tdiv b) := by
  apply Int64.toInt_inj.mp
  have h3 : (a.tdiv b).natAbs ≤ a.natAbs := by rw [show (a.tdiv b).natAbs = a.natAbs / b.natAbs from Int.natAbs_tdiv a b]; exact Nat.div_le_self _ _
  rw [Int64.toInt_div, lZ_toInt (by omega) (by omega), lZ_toInt (by omega) (by omega), lZ_toInt (by omega) (by omega)]
  exact Int.bmod_eq_of_le (by omega) (by omega)
end
