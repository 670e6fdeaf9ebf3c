theorem z_lif_ne {p : Program} {l : Launch} {e : Env} {R : Room} {s : State} {m : MethodId} {args : Array Value} {below : List Frame} {meth : Method} {c : Code} {H : Heap} {locs : List Loc} {cells slots : Nat} {Q : State → Prop} {cc : ByteArray} {pc : Nat} {ls : Array Slot} {rest : List Value} (hx : p.tables.exec = Jvm.exec) (hb : c.code = cc) {a b : Nat} {off : Int} {tgt : Nat} (hd : decode cc pc = .ok (.ifCond .ne off, 3)) (ht : (pc : Int) + off = (tgt : Int)) (ha : a < 9223372036854775808) (hc : b < 9223372036854775808) (k1 : a ≠ b → W p l e R s m args below meth c H locs cells slots Q (F0 m tgt ls rest)) (k2 : a = b → W p l e R s m args below meth c H locs cells slots Q (F0 m (pc + 3) ls rest)) : W p l e R s m args below meth c H locs cells slots Q (F0 m pc ls (.int (lg_cmp (lN a) (lN b)) :: rest)) := lv_if_ne hx hb hd ht (fun h => k1 (fun z => h ((lg_cmp_eq _ _).mpr (by rw [z])))) (fun h => k2 (by have := congrArg Int64.toInt ((lg_cmp_eq _ _).mp h); rw [pf_lI ha, pf_lI hc] at this; omega))
theorem ln_ne {b : Nat} (h0 : 0 < b) (h : b < 9223372036854775808) : ¬ lN b = 0 := by
  intro q
  have h1 := congrArg Int64.toInt q
  rw [pf_lI (by omega)] at h1
  have h2 : (0 : Int64).toInt = 0 := by decide
  omega
theorem d_Wh_divideByDigit_0 : decode c_Wh_divideByDigit 0 = .ok (.iload_n 1, 1) := by decide +kernel
theorem d_Wh_divideByDigit_1 : decode c_Wh_divideByDigit 1 = .ok (.ifCond .ne 4, 3) := by decide +kernel
theorem d_Wh_divideByDigit_4 : decode c_Wh_divideByDigit 4 = .ok (.return_, 1) := by decide +kernel
theorem d_Wh_divideByDigit_5 : decode c_Wh_divideByDigit 5 = .ok (.lconst 0, 1) := by decide +kernel
theorem d_Wh_divideByDigit_6 : decode c_Wh_divideByDigit 6 = .ok (.lstore_n 2, 1) := by decide +kernel
theorem d_Wh_divideByDigit_7 : decode c_Wh_divideByDigit 7 = .ok (.aload_n 0, 1) := by decide +kernel
theorem d_Wh_divideByDigit_8 : decode c_Wh_divideByDigit 8 = .ok (.getfield 29, 3) := by decide +kernel
theorem d_Wh_divideByDigit_11 : decode c_Wh_divideByDigit 11 = .ok (.iconst 1, 1) := by decide +kernel
theorem d_Wh_divideByDigit_12 : decode c_Wh_divideByDigit 12 = .ok (.isub, 1) := by decide +kernel
theorem d_Wh_divideByDigit_13 : decode c_Wh_divideByDigit 13 = .ok (.istore 4, 2) := by decide +kernel
theorem d_Wh_divideByDigit_15 : decode c_Wh_divideByDigit 15 = .ok (.iload 4, 2) := by decide +kernel
theorem d_Wh_divideByDigit_17 : decode c_Wh_divideByDigit 17 = .ok (.ifCond .lt 40, 3) := by decide +kernel
theorem d_Wh_divideByDigit_20 : decode c_Wh_divideByDigit 20 = .ok (.lload_n 2, 1) := by decide +kernel
theorem d_Wh_divideByDigit_21 : decode c_Wh_divideByDigit 21 = .ok (.bipush 31, 2) := by decide +kernel
theorem d_Wh_divideByDigit_23 : decode c_Wh_divideByDigit 23 = .ok (.lshl, 1) := by decide +kernel
theorem d_Wh_divideByDigit_24 : decode c_Wh_divideByDigit 24 = .ok (.aload_n 0, 1) := by decide +kernel
theorem d_Wh_divideByDigit_25 : decode c_Wh_divideByDigit 25 = .ok (.getfield 9, 3) := by decide +kernel
theorem d_Wh_divideByDigit_28 : decode c_Wh_divideByDigit 28 = .ok (.iload 4, 2) := by decide +kernel
theorem d_Wh_divideByDigit_30 : decode c_Wh_divideByDigit 30 = .ok (.iaload, 1) := by decide +kernel
theorem d_Wh_divideByDigit_31 : decode c_Wh_divideByDigit 31 = .ok (.i2l, 1) := by decide +kernel
theorem d_Wh_divideByDigit_32 : decode c_Wh_divideByDigit 32 = .ok (.lor, 1) := by decide +kernel
theorem d_Wh_divideByDigit_33 : decode c_Wh_divideByDigit 33 = .ok (.lstore_n 2, 1) := by decide +kernel
theorem d_Wh_divideByDigit_34 : decode c_Wh_divideByDigit 34 = .ok (.aload_n 0, 1) := by decide +kernel
theorem d_Wh_divideByDigit_35 : decode c_Wh_divideByDigit 35 = .ok (.getfield 9, 3) := by decide +kernel
theorem d_Wh_divideByDigit_38 : decode c_Wh_divideByDigit 38 = .ok (.iload 4, 2) := by decide +kernel
theorem d_Wh_divideByDigit_40 : decode c_Wh_divideByDigit 40 = .ok (.lload_n 2, 1) := by decide +kernel
theorem d_Wh_divideByDigit_41 : decode c_Wh_divideByDigit 41 = .ok (.iload_n 1, 1) := by decide +kernel
theorem d_Wh_divideByDigit_42 : decode c_Wh_divideByDigit 42 = .ok (.i2l, 1) := by decide +kernel
theorem d_Wh_divideByDigit_43 : decode c_Wh_divideByDigit 43 = .ok (.ldiv, 1) := by decide +kernel
theorem d_Wh_divideByDigit_44 : decode c_Wh_divideByDigit 44 = .ok (.l2i, 1) := by decide +kernel
theorem d_Wh_divideByDigit_45 : decode c_Wh_divideByDigit 45 = .ok (.iastore, 1) := by decide +kernel
theorem d_Wh_divideByDigit_46 : decode c_Wh_divideByDigit 46 = .ok (.lload_n 2, 1) := by decide +kernel
theorem d_Wh_divideByDigit_47 : decode c_Wh_divideByDigit 47 = .ok (.iload_n 1, 1) := by decide +kernel
theorem d_Wh_divideByDigit_48 : decode c_Wh_divideByDigit 48 = .ok (.i2l, 1) := by decide +kernel
theorem d_Wh_divideByDigit_49 : decode c_Wh_divideByDigit 49 = .ok (.lrem, 1) := by decide +kernel
theorem d_Wh_divideByDigit_50 : decode c_Wh_divideByDigit 50 = .ok (.lstore_n 2, 1) := by decide +kernel
theorem d_Wh_divideByDigit_51 : decode c_Wh_divideByDigit 51 = .ok (.iinc 4 (-1), 3) := by decide +kernel
theorem d_Wh_divideByDigit_54 : decode c_Wh_divideByDigit 54 = .ok (.goto (-39), 3) := by decide +kernel
theorem d_Wh_divideByDigit_57 : decode c_Wh_divideByDigit 57 = .ok (.return_, 1) := by decide +kernel
set_option maxRecDepth 100000 in
set_option maxHeartbeats 16000000 in
/-- divideByDigit -/
theorem g_Wh_divideByDigit (l : Launch) (G : va_G) (k : Nat → ClassId) (h0 : Nat) (s0 sl : Nat) (b9 : Nat) (dd : Nat) (LL : Nat) (nn9 : Nat) (gg : Nat → Nat) (zz : Int) (sg9 : Int32) (hw : whO LL nn9 gg zz) (hb0 : 0 < b9) (hb1 : b9 < 2147483648) : CG l y_Wh_divideByDigit c_Wh_divideByDigit 5 none { frames := 0, cells := 0, slots := 0, locals := 0 } [.ref h0, .int (nI b9)] G k s0 sl [(h0, .inr (2, [.ref dd, .int (nI nn9), .int sg9])), (dd, .inl (k 0, LL, .inl (fun i => nI (gg i))))] (fun (u : Nat → Nat) => none) (fun (u : Nat → Nat) => (∀ i, u i < 2147483648) ∧ vl 2147483648 u nn9 = zz.natAbs / b9) (fun (u : Nat → Nat) => [(h0, .inr (2, [.ref dd, .int (nI nn9), .int sg9])), (dd, .inl (k 0, LL, .inl (fun i => nI (u i))))]) (fun (u : Nat → Nat) => 0) (fun (u : Nat → Nat) => 0) 0 0 := by
  refine met_startG (by decide) (Nat.le_of_ble_eq_true rfl) ?_
  intro p e s m below meth c C K hA hsz S ls hl
  generalize va_A [(h0, .inr (2, [.ref dd, .int (nI nn9), .int sg9])), (dd, .inl (k 0, LL, .inl (fun i => nI (gg i))))] s0 = A at hA S ⊢
  have hx := C.1
  have hb := C.2.1
  have hl : lv_has ls 5 [(0, .ref h0), (1, .int (nI b9))] := hl
  have hw0 := hw
  obtain ⟨w1, w2, w3, w4, w5, w6⟩ := hw0
  refine lv_iload_n hx hb d_Wh_divideByDigit_0 rfl (lv_at hl 1 rfl) ?_
  refine z_if_ne (a := b9) (tgt := 5) hx hb d_Wh_divideByDigit_1 (by decide) (by omega) (fun hc1 => ?_) (fun hc1 => False.elim (by omega))
  refine lv_lconst (v := 0) hx hb d_Wh_divideByDigit_5 (by decide) ?_
  refine lv_lstore_n (lv' := [(2, .long 0), (0, .ref h0), (1, .int (nI b9))]) hx hb d_Wh_divideByDigit_6 rfl hl (by decide) rfl (fun ls hl => ?_)
  refine lv_aload_n hx hb d_Wh_divideByDigit_7 rfl (lv_at hl 1 rfl) ?_
  refine r_get C K S 0 rfl rfl clOk_Wh 1 (by decide) wf_Wh_29 (v := .int (nI nn9)) rfl d_Wh_divideByDigit_8 ?_
  refine lv_iconst (v := 1) hx hb d_Wh_divideByDigit_11 (by decide) ?_
  refine z_isub (v := pm nn9) hx hb d_Wh_divideByDigit_12 (pm_of nn9) ?_
  refine lv_istore (lv' := [(4, .int (pm nn9)), (2, .long 0), (0, .ref h0), (1, .int (nI b9))]) hx hb d_Wh_divideByDigit_13 hl (by decide) rfl (fun ls hl => ?_)
  have lp : ∀ (t9 : Nat), ∀ (l8 : Nat), ∀ (T8 : Nat → Nat), (t9 ≤ nn9) → (vl 2147483648 (fun j => gg (t9 + j)) (nn9 - t9) = vl 2147483648 (fun j => T8 (t9 + j)) (nn9 - t9) * b9 + l8) → (l8 < b9) → (∀ i, T8 i < 2147483648) → (∀ i, i < t9 → T8 i = gg i) → ∀ (H : Heap) (locs : List Loc), Sw G A s.heap H locs [(h0, .inr (2, [.ref dd, .int (nI nn9), .int sg9])), (dd, .inl (k 0, LL, .inl (fun i => nI (T8 i))))] → ∀ ls : Array Slot, lv_has ls 5 [(4, .int (pm t9)), (2, .long (lN l8)), (0, .ref h0), (1, .int (nI b9))] → W p l e { frames := 0, cells := 0, slots := 0, locals := 0 } s m [Value.ref h0, Value.int (nI b9)].toArray below meth c H locs 0 0 (MQ below (va_Qg (fun (u : Nat → Nat) => none) (fun (u : Nat → Nat) => (∀ i, u i < 2147483648) ∧ vl 2147483648 u nn9 = zz.natAbs / b9) (Pog G k A (fun (u : Nat → Nat) => [(h0, .inr (2, [.ref dd, .int (nI nn9), .int sg9])), (dd, .inl (k 0, LL, .inl (fun i => nI (u i))))]) s0 sl (fun (u : Nat → Nat) => 0) (fun (u : Nat → Nat) => 0)) A) [Value.ref h0, Value.int (nI b9)].toArray s 0 0 A) (F0 m 15 ls []) := by
    intro t9
    induction t9 with
    | zero =>
      intro l8 T8 ht hI hl8 hD hT H locs S ls hl
      have hl : lv_has ls 5 [(4, .int (-1)), (2, .long (lN l8)), (0, .ref h0), (1, .int (nI b9))] := hl
      refine lv_iload hx hb d_Wh_divideByDigit_15 (lv_at hl 0 rfl) ?_
      refine lv_if_lt (tgt := 57) hx hb d_Wh_divideByDigit_17 (by decide) (fun _ => ?_) (fun hq => absurd (by decide) hq)
      exact q_vret C K hsz T8 (show (∀ i, T8 i < 2147483648) ∧ vl 2147483648 T8 nn9 = zz.natAbs / b9 from ⟨hD, by rw [← w6]; simp only [Nat.zero_add, Nat.sub_zero] at hI; exact dd_end hI hl8⟩) (S.sub [0, 1] (by decide) rfl) d_Wh_divideByDigit_57 (Nat.zero_le _) (Nat.zero_le _) (Nat.zero_le _) (Nat.zero_le _)
    | succ y9 ih_lp =>
      intro l8 T8 ht hI hl8 hD hT H locs S ls hl
      have hl : lv_has ls 5 [(4, .int (nI y9)), (2, .long (lN l8)), (0, .ref h0), (1, .int (nI b9))] := hl
      have d3 := hD y9
      have q7 := dd_lt (d := T8 y9) hl8 hb1 d3
      refine lv_iload hx hb d_Wh_divideByDigit_15 (lv_at hl 0 rfl) ?_
      refine z_if_lt (a := y9) (tgt := 57) hx hb d_Wh_divideByDigit_17 (by decide) (by omega) ?_
      refine lv_lload_n hx hb d_Wh_divideByDigit_20 rfl (lv_at hl 1 rfl) ?_
      refine lv_bipush (v := 31) hx hb d_Wh_divideByDigit_21 (by decide) ?_
      refine lv_lshl (v := lN (l8 * 2147483648)) hx hb d_Wh_divideByDigit_23 (lN_shl31 (by omega)) ?_
      refine lv_aload_n hx hb d_Wh_divideByDigit_24 rfl (lv_at hl 2 rfl) ?_
      refine r_get C K S 0 rfl rfl clOk_Wh 0 (by decide) wf_Wh_9 (v := .ref dd) rfl d_Wh_divideByDigit_25 ?_
      refine lv_iload hx hb d_Wh_divideByDigit_28 (lv_at hl 0 rfl) ?_
      refine r_iald C K S 1 rfl (i := nI y9) (show vp_in (nI y9) _ from vp_in_nI (n := y9) (by omega) (by omega)) (v := nI (T8 y9)) (by rw [nI_clamp (by omega)]) d_Wh_divideByDigit_30 ?_
      refine lv_i2l (v := lN (T8 y9)) hx hb d_Wh_divideByDigit_31 (show (nI (T8 y9) : Int32).toInt64 = _ from nI_l (n := (T8 y9)) (by omega)) ?_
      refine z_lor (v := lN (l8 * 2147483648 + T8 y9)) hx hb d_Wh_divideByDigit_32 (lN_or31 d3 (by omega)) ?_
      refine lv_lstore_n (lv' := [(2, .long (lN (l8 * 2147483648 + T8 y9))), (4, .int (nI y9)), (0, .ref h0), (1, .int (nI b9))]) hx hb d_Wh_divideByDigit_33 rfl hl (by decide) rfl (fun ls hl => ?_)
      refine lv_aload_n hx hb d_Wh_divideByDigit_34 rfl (lv_at hl 2 rfl) ?_
      refine r_get C K S 0 rfl rfl clOk_Wh 0 (by decide) wf_Wh_9 (v := .ref dd) rfl d_Wh_divideByDigit_35 ?_
      refine lv_iload hx hb d_Wh_divideByDigit_38 (lv_at hl 1 rfl) ?_
      refine lv_lload_n hx hb d_Wh_divideByDigit_40 rfl (lv_at hl 0 rfl) ?_
      refine lv_iload_n hx hb d_Wh_divideByDigit_41 rfl (lv_at hl 3 rfl) ?_
      refine lv_i2l (v := lN b9) hx hb d_Wh_divideByDigit_42 (show (nI b9 : Int32).toInt64 = _ from nI_l (n := b9) (by omega)) ?_
      refine z_ldiv (v := lN ((l8 * 2147483648 + T8 y9) / b9)) hx hb d_Wh_divideByDigit_43 (ln_ne hb0 (by omega)) (pk_lDiv (by omega) hb0 (by omega)) ?_
      refine lv_l2i (v := nI ((l8 * 2147483648 + T8 y9) / b9)) hx hb d_Wh_divideByDigit_44 (lN_i ((l8 * 2147483648 + T8 y9) / b9)) ?_
      refine r_iast C K S 1 rfl (i := nI y9) (x := nI ((l8 * 2147483648 + T8 y9) / b9)) (show vp_in (nI y9) _ from vp_in_nI (n := y9) (by omega) (by omega)) (f' := fun i => nI (va_up T8 y9 ((l8 * 2147483648 + T8 y9) / b9) i)) (ws' := [(h0, .inr (2, [.ref dd, .int (nI nn9), .int sg9])), (dd, .inl (k 0, LL, .inl (fun i => nI (va_up T8 y9 ((l8 * 2147483648 + T8 y9) / b9) i))))]) (show upd _ (nI y9 : Int32).toNatClampNeg (nI ((l8 * 2147483648 + T8 y9) / b9)) = _ from upd_nI T8 (j := y9) (by omega) ((l8 * 2147483648 + T8 y9) / b9)) rfl d_Wh_divideByDigit_45 (fun H locs S => ?_)
      refine lv_lload_n hx hb d_Wh_divideByDigit_46 rfl (lv_at hl 0 rfl) ?_
      refine lv_iload_n hx hb d_Wh_divideByDigit_47 rfl (lv_at hl 3 rfl) ?_
      refine lv_i2l (v := lN b9) hx hb d_Wh_divideByDigit_48 (show (nI b9 : Int32).toInt64 = _ from nI_l (n := b9) (by omega)) ?_
      refine z_lrem (v := lN ((l8 * 2147483648 + T8 y9) % b9)) hx hb d_Wh_divideByDigit_49 (ln_ne hb0 (by omega)) (pk_lRem (by omega) (by omega) (by omega)) ?_
      refine lv_lstore_n (lv' := [(2, .long (lN ((l8 * 2147483648 + T8 y9) % b9))), (4, .int (nI y9)), (0, .ref h0), (1, .int (nI b9))]) hx hb d_Wh_divideByDigit_50 rfl hl (by decide) rfl (fun ls hl => ?_)
      refine lv_iinc (v := pm y9) (lv' := [(4, .int (pm y9)), (2, .long (lN ((l8 * 2147483648 + T8 y9) % b9))), (0, .ref h0), (1, .int (nI b9))]) hx hb d_Wh_divideByDigit_51 hl (k := 1) rfl (pm_dn y9) (by decide) rfl (fun ls hl => ?_)
      refine lv_goto (tgt := 15) hx hb d_Wh_divideByDigit_54 (by decide) ?_
      exact ih_lp ((l8 * 2147483648 + T8 y9) % b9) (va_up T8 y9 ((l8 * 2147483648 + T8 y9) / b9)) (by omega) (dd_step (by omega) hI hb0 hl8 (hT y9 (by omega))) (Nat.mod_lt _ hb0) (up31 hD q7.1) (fun i q => by rw [va_up_ne _ _ (by omega)]; exact hT i (by omega)) _ _ (S.sub [0, 1] (by decide) rfl) ls (lv_sub hl [0, 1, 2, 3] rfl)
  exact lp nn9 0 gg (by omega) (by simp [vl]) hb0 w4 (fun _ _ => rfl) _ _ (S.sub [0, 1] (by decide) rfl) ls (lv_sub hl [0, 1, 2, 3] rfl)
theorem bf_end {a f : Nat} (h0 : 0 < a) (hf : a * 2 ^ f < 2147483648) (hno : ∀ j, f < j → j < 31 → 2147483648 ≤ a * 2 ^ j) (h3 : f ≤ 30) : 1073741824 ≤ a * 2 ^ f := by
  by_cases q : f = 30
  · subst q
    have : 1 * 2 ^ 30 ≤ a * 2 ^ 30 := Nat.mul_le_mul_right _ h0
    omega
  · have := hno (f + 1) (by omega) (by omega)
    rw [Nat.pow_succ, ← Nat.mul_assoc] at this
    omega
theorem d_Wh_bitsFree_0 : decode c_Wh_bitsFree 0 = .ok (.iconst 0, 1) := by decide +kernel
theorem d_Wh_bitsFree_1 : decode c_Wh_bitsFree 1 = .ok (.istore_n 1, 1) := by decide +kernel
theorem d_Wh_bitsFree_2 : decode c_Wh_bitsFree 2 = .ok (.aload_n 0, 1) := by decide +kernel
theorem d_Wh_bitsFree_3 : decode c_Wh_bitsFree 3 = .ok (.aload_n 0, 1) := by decide +kernel
theorem d_Wh_bitsFree_4 : decode c_Wh_bitsFree 4 = .ok (.getfield 29, 3) := by decide +kernel
theorem d_Wh_bitsFree_7 : decode c_Wh_bitsFree 7 = .ok (.iconst 1, 1) := by decide +kernel
theorem d_Wh_bitsFree_8 : decode c_Wh_bitsFree 8 = .ok (.isub, 1) := by decide +kernel
theorem d_Wh_bitsFree_9 : decode c_Wh_bitsFree 9 = .ok (.invokevirtual 64, 3) := by decide +kernel
theorem d_Wh_bitsFree_12 : decode c_Wh_bitsFree 12 = .ok (.i2l, 1) := by decide +kernel
theorem d_Wh_bitsFree_13 : decode c_Wh_bitsFree 13 = .ok (.lstore_n 2, 1) := by decide +kernel
theorem d_Wh_bitsFree_14 : decode c_Wh_bitsFree 14 = .ok (.iconst 1, 1) := by decide +kernel
theorem d_Wh_bitsFree_15 : decode c_Wh_bitsFree 15 = .ok (.istore 4, 2) := by decide +kernel
theorem d_Wh_bitsFree_17 : decode c_Wh_bitsFree 17 = .ok (.iload 4, 2) := by decide +kernel
theorem d_Wh_bitsFree_19 : decode c_Wh_bitsFree 19 = .ok (.bipush 31, 2) := by decide +kernel
theorem d_Wh_bitsFree_21 : decode c_Wh_bitsFree 21 = .ok (.if_icmp .ge 23, 3) := by decide +kernel
theorem d_Wh_bitsFree_24 : decode c_Wh_bitsFree 24 = .ok (.lload_n 2, 1) := by decide +kernel
theorem d_Wh_bitsFree_25 : decode c_Wh_bitsFree 25 = .ok (.iload 4, 2) := by decide +kernel
theorem d_Wh_bitsFree_27 : decode c_Wh_bitsFree 27 = .ok (.lshl, 1) := by decide +kernel
theorem d_Wh_bitsFree_28 : decode c_Wh_bitsFree 28 = .ok (.ldc2_w 93, 3) := by decide +kernel
theorem d_Wh_bitsFree_31 : decode c_Wh_bitsFree 31 = .ok (.lcmp, 1) := by decide +kernel
theorem d_Wh_bitsFree_32 : decode c_Wh_bitsFree 32 = .ok (.ifCond .ge 6, 3) := by decide +kernel
theorem d_Wh_bitsFree_35 : decode c_Wh_bitsFree 35 = .ok (.iload 4, 2) := by decide +kernel
theorem d_Wh_bitsFree_37 : decode c_Wh_bitsFree 37 = .ok (.istore_n 1, 1) := by decide +kernel
theorem d_Wh_bitsFree_38 : decode c_Wh_bitsFree 38 = .ok (.iinc 4 1, 3) := by decide +kernel
theorem d_Wh_bitsFree_41 : decode c_Wh_bitsFree 41 = .ok (.goto (-24), 3) := by decide +kernel
theorem d_Wh_bitsFree_44 : decode c_Wh_bitsFree 44 = .ok (.iload_n 1, 1) := by decide +kernel
theorem d_Wh_bitsFree_45 : decode c_Wh_bitsFree 45 = .ok (.ireturn, 1) := by decide +kernel
set_option maxRecDepth 100000 in
set_option maxHeartbeats 16000000 in
/-- bitsFree -/
theorem g_Wh_bitsFree (l : Launch) (G : va_G) (k : Nat → ClassId) (h0 : Nat) (s0 sl : Nat) (dd : Nat) (LL : Nat) (nn9 : Nat) (gg : Nat → Nat) (zz : Int) (hw : whO LL nn9 gg zz) (hn1 : 1 ≤ nn9) : CG l y_Wh_bitsFree c_Wh_bitsFree 5 (some .int) { frames := 1, cells := 0, slots := 0, locals := 21 } [.ref h0] G k s0 sl [(h0, .inr (2, [.ref dd, .int (nI nn9), .int (sgI zz)])), (dd, .inl (k 0, LL, .inl (fun i => nI (gg i))))] (fun (u : Nat) => some (.int (nI u))) (fun (u : Nat) => u ≤ 30 ∧ gg (nn9 - 1) * 2 ^ u < 2147483648 ∧ 1073741824 ≤ gg (nn9 - 1) * 2 ^ u) (fun (u : Nat) => [(h0, .inr (2, [.ref dd, .int (nI nn9), .int (sgI zz)])), (dd, .inl (k 0, LL, .inl (fun i => nI (gg i))))]) (fun (u : Nat) => 0) (fun (u : Nat) => 0) 0 0 := by
  refine met_startG (by decide) (Nat.le_of_ble_eq_true rfl) ?_
  intro p e s m below meth c C K hA hsz S ls hl
  generalize va_A [(h0, .inr (2, [.ref dd, .int (nI nn9), .int (sgI zz)])), (dd, .inl (k 0, LL, .inl (fun i => nI (gg i))))] s0 = A at hA S ⊢
  have hx := C.1
  have hb := C.2.1
  have hl : lv_has ls 5 [(0, .ref h0)] := hl
  have hw0 := hw
  obtain ⟨w1, w2, w3, w4, w5, w6⟩ := hw0
  have htop : 0 < gg (nn9 - 1) := by omega
  have hdt := w4 (nn9 - 1)
  refine lv_iconst (v := 0) hx hb d_Wh_bitsFree_0 (by decide) ?_
  refine lv_istore_n (lv' := [(1, .int 0), (0, .ref h0)]) hx hb d_Wh_bitsFree_1 rfl hl (by decide) rfl (fun ls hl => ?_)
  refine lv_aload_n hx hb d_Wh_bitsFree_2 rfl (lv_at hl 1 rfl) ?_
  refine lv_aload_n hx hb d_Wh_bitsFree_3 rfl (lv_at hl 1 rfl) ?_
  refine r_get C K S 0 rfl rfl clOk_Wh 1 (by decide) wf_Wh_29 (v := .int (nI nn9)) rfl d_Wh_bitsFree_4 ?_
  refine lv_iconst (v := 1) hx hb d_Wh_bitsFree_7 (by decide) ?_
  refine z_isub (x := nI nn9) (y := 1) (v := nI (nn9 - 1)) hx hb d_Wh_bitsFree_8 (pk_sub (a := nn9) (b := 1) (by omega)) ?_
  refine q_back0 (wi := [(h0, .inr (2, [.ref dd, .int (nI nn9), .int (sgI zz)])), (dd, .inl (k 0, LL, .inl (fun i => nI (gg i))))]) (wr := []) S hA [0, 1] [] rfl rfl (by decide) (by decide) (va_runV (As := [.int (nI (nn9 - 1))]) (rest := []) ⟨hx, hb, C.2.2.1, C.2.2.2.1, C.2.2.2.2.1⟩ (g_Wh_digit l G k h0 _ _ (nn9 - 1) dd LL nn9 (sgI zz) gg (wh_ra hw) (by omega) (by omega)) (k_virt (n := 1) C wc_Wh_digit rfl rfl wz_Wh wm_Wh_64 wn_Wh_digit ws_Wh_digit (by decide +kernel) ⟨(Nat.le_of_ble_eq_true rfl), (Nat.le_of_ble_eq_true rfl)⟩) (pr_nowVG K S [0, 1] (by decide) rfl 0 rfl rfl) rfl rfl hl.1 rfl (lv_room (Nat.le_of_ble_eq_true rfl)) d_Wh_bitsFree_9 ⟨(Nat.zero_le _), (Nat.zero_le _)⟩) (fun u1 H locs hw2 S => ?_)
  have S : Sw G A s.heap _ _ [(h0, .inr (2, [.ref dd, .int (nI nn9), .int (sgI zz)])), (dd, .inl (k 0, LL, .inl (fun i => nI (gg i))))] := S
  have hw2 : True := hw2
  show W p l e _ s m _ below meth c H locs _ _ _ (F0 m 12 ls [.int (nI (dgN nn9 gg (nn9 - 1)))])
  rw [show dgN nn9 gg (nn9 - 1) = gg (nn9 - 1) by unfold dgN; rw [if_pos (by omega)]]
  refine lv_i2l (v := lN (gg (nn9 - 1))) hx hb d_Wh_bitsFree_12 (show (nI (gg (nn9 - 1)) : Int32).toInt64 = _ from nI_l (n := (gg (nn9 - 1))) (by omega)) ?_
  refine lv_lstore_n (lv' := [(2, .long (lN (gg (nn9 - 1)))), (1, .int 0), (0, .ref h0)]) hx hb d_Wh_bitsFree_13 rfl hl (by decide) rfl (fun ls hl => ?_)
  refine lv_iconst (v := 1) hx hb d_Wh_bitsFree_14 (by decide) ?_
  refine lv_istore (lv' := [(4, .int 1), (2, .long (lN (gg (nn9 - 1)))), (1, .int 0), (0, .ref h0)]) hx hb d_Wh_bitsFree_15 hl (by decide) rfl (fun ls hl => ?_)
  have lp : ∀ d9, ∀ (f8 : Nat), ∀ (i9 : Nat), (31 - i9) < d9 → (1 ≤ i9) → (i9 ≤ 31) → (f8 < i9) → (gg (nn9 - 1) * 2 ^ f8 < 2147483648) → (∀ j, f8 < j → j < i9 → 2147483648 ≤ gg (nn9 - 1) * 2 ^ j) → ∀ (H : Heap) (locs : List Loc), Sw G A s.heap H locs [(h0, .inr (2, [.ref dd, .int (nI nn9), .int (sgI zz)])), (dd, .inl (k 0, LL, .inl (fun i => nI (gg i))))] → ∀ ls : Array Slot, lv_has ls 5 [(1, .int (nI f8)), (4, .int (nI i9)), (2, .long (lN (gg (nn9 - 1)))), (0, .ref h0)] → W p l e { frames := 1, cells := 0, slots := 0, locals := 21 } s m [Value.ref h0].toArray below meth c H locs 0 0 (MQ below (va_Qg (fun (u : Nat) => some (.int (nI u))) (fun (u : Nat) => u ≤ 30 ∧ gg (nn9 - 1) * 2 ^ u < 2147483648 ∧ 1073741824 ≤ gg (nn9 - 1) * 2 ^ u) (Pog G k A (fun (u : Nat) => [(h0, .inr (2, [.ref dd, .int (nI nn9), .int (sgI zz)])), (dd, .inl (k 0, LL, .inl (fun i => nI (gg i))))]) s0 sl (fun (u : Nat) => 0) (fun (u : Nat) => 0)) A) [Value.ref h0].toArray s 0 0 A) (F0 m 17 ls []) := by
    intro d9
    induction d9 with
    | zero => intro f8 i9 hm; exact absurd hm (Nat.not_lt_zero _)
    | succ d9 ih_lp =>
      intro f8 i9 hm hi hi2 hf hfB hno H locs S ls hl
      have hp9 : gg (nn9 - 1) * 2 ^ i9 ≤ 2147483647 * 2 ^ 31 := Nat.mul_le_mul (by omega) (Nat.pow_le_pow_right (by decide) (by omega))
      refine lv_iload hx hb d_Wh_bitsFree_17 (lv_at hl 1 rfl) ?_
      refine lv_bipush (v := 31) hx hb d_Wh_bitsFree_19 (by decide) ?_
      refine z_icmp_ge (a := i9) (b := 31) (tgt := 44) hx hb d_Wh_bitsFree_21 (by decide) (by omega) (by omega) (fun hc3 => ?_) (fun hc3 => ?_)
      · refine lv_iload_n hx hb d_Wh_bitsFree_44 rfl (lv_at hl 0 rfl) ?_
        exact q_iret C K hsz rfl f8 rfl (show f8 ≤ 30 ∧ gg (nn9 - 1) * 2 ^ f8 < 2147483648 ∧ 1073741824 ≤ gg (nn9 - 1) * 2 ^ f8 from ⟨by omega, hfB, bf_end htop hfB (fun j q1 q2 => hno j q1 (by omega)) (by omega)⟩) (S.sub [0, 1] (by decide) rfl) d_Wh_bitsFree_45 (Nat.zero_le _) (Nat.zero_le _) (Nat.zero_le _) (Nat.zero_le _)
      · refine lv_lload_n hx hb d_Wh_bitsFree_24 rfl (lv_at hl 2 rfl) ?_
        refine lv_iload hx hb d_Wh_bitsFree_25 (lv_at hl 1 rfl) ?_
        refine lv_lshl (v := lN (gg (nn9 - 1) * 2 ^ i9)) hx hb d_Wh_bitsFree_27 (lN_shlj (by omega) (by omega)) ?_
        refine lv_ldc2 (v := 2147483648) hx hb C.2.2.2.1 (C.2.2.2.2.1 _ wk_Wh_93) d_Wh_bitsFree_28 ?_
        refine W.lcmp hx hb d_Wh_bitsFree_31 ?_
        refine z_lif_ge (a := (gg (nn9 - 1) * 2 ^ i9)) (b := 2147483648) (tgt := 38) hx hb d_Wh_bitsFree_32 (by decide) (by omega) (by omega) (fun hc4 => ?_) (fun hc4 => ?_)
        · refine lv_iinc (v := nI (i9 + 1)) (lv' := [(4, .int (nI (i9 + 1))), (1, .int (nI f8)), (2, .long (lN (gg (nn9 - 1)))), (0, .ref h0)]) hx hb d_Wh_bitsFree_38 hl (k := 1) rfl (show nI i9 + Int32.ofInt 1 = nI (i9 + 1) from (nI_add i9 1).trans (congrArg nI (by omega))) (by decide) rfl (fun ls hl => ?_)
          refine lv_goto (tgt := 17) hx hb d_Wh_bitsFree_41 (by decide) ?_
          exact ih_lp f8 (i9 + 1) (by omega) (by omega) (by omega) (by omega) (by omega) (fun j q1 q2 => (Decidable.em (j = i9)).elim (fun q => by rw [q]; omega) (fun q => hno j q1 (by omega))) _ _ (S.sub [0, 1] (by decide) rfl) ls (lv_sub hl [1, 0, 2, 3] rfl)
        · refine lv_iload hx hb d_Wh_bitsFree_35 (lv_at hl 1 rfl) ?_
          refine lv_istore_n (lv' := [(1, .int (nI i9)), (4, .int (nI i9)), (2, .long (lN (gg (nn9 - 1)))), (0, .ref h0)]) hx hb d_Wh_bitsFree_37 rfl hl (by decide) rfl (fun ls hl => ?_)
          refine lv_iinc (v := nI (i9 + 1)) (lv' := [(4, .int (nI (i9 + 1))), (1, .int (nI i9)), (2, .long (lN (gg (nn9 - 1)))), (0, .ref h0)]) hx hb d_Wh_bitsFree_38 hl (k := 1) rfl (show nI i9 + Int32.ofInt 1 = nI (i9 + 1) from (nI_add i9 1).trans (congrArg nI (by omega))) (by decide) rfl (fun ls hl => ?_)
          refine lv_goto (tgt := 17) hx hb d_Wh_bitsFree_41 (by decide) ?_
          exact ih_lp i9 (i9 + 1) (by omega) (by omega) (by omega) (by omega) (by omega) (fun j q1 q2 => by omega) _ _ (S.sub [0, 1] (by decide) rfl) ls (lv_sub hl [1, 0, 2, 3] rfl)
  exact lp _ 0 1 (Nat.lt_succ_self _) (by omega) (by omega) (by omega) (by rw [Nat.pow_zero]; omega) (fun j q1 q2 => by omega) _ _ (S.sub [0, 1] (by decide) rfl) ls (lv_sub hl [2, 0, 1, 3] rfl)
theorem d_Wh_shift_0 : decode c_Wh_shift 0 = .ok (.aload_n 0, 1) := by decide +kernel
theorem d_Wh_shift_1 : decode c_Wh_shift 1 = .ok (.aload_n 1, 1) := by decide +kernel
theorem d_Wh_shift_2 : decode c_Wh_shift 2 = .ok (.getfield 29, 3) := by decide +kernel
theorem d_Wh_shift_5 : decode c_Wh_shift 5 = .ok (.iconst 1, 1) := by decide +kernel
theorem d_Wh_shift_6 : decode c_Wh_shift 6 = .ok (.iadd, 1) := by decide +kernel
theorem d_Wh_shift_7 : decode c_Wh_shift 7 = .ok (.invokevirtual 32, 3) := by decide +kernel
theorem d_Wh_shift_10 : decode c_Wh_shift 10 = .ok (.lconst 0, 1) := by decide +kernel
theorem d_Wh_shift_11 : decode c_Wh_shift 11 = .ok (.lstore_n 3, 1) := by decide +kernel
theorem d_Wh_shift_12 : decode c_Wh_shift 12 = .ok (.iconst 0, 1) := by decide +kernel
theorem d_Wh_shift_13 : decode c_Wh_shift 13 = .ok (.istore 5, 2) := by decide +kernel
theorem d_Wh_shift_15 : decode c_Wh_shift 15 = .ok (.iload 5, 2) := by decide +kernel
theorem d_Wh_shift_17 : decode c_Wh_shift 17 = .ok (.aload_n 1, 1) := by decide +kernel
theorem d_Wh_shift_18 : decode c_Wh_shift 18 = .ok (.getfield 29, 3) := by decide +kernel
theorem d_Wh_shift_21 : decode c_Wh_shift 21 = .ok (.if_icmp .ge 40, 3) := by decide +kernel
theorem d_Wh_shift_24 : decode c_Wh_shift 24 = .ok (.lload_n 3, 1) := by decide +kernel
theorem d_Wh_shift_25 : decode c_Wh_shift 25 = .ok (.aload_n 1, 1) := by decide +kernel
theorem d_Wh_shift_26 : decode c_Wh_shift 26 = .ok (.getfield 9, 3) := by decide +kernel
theorem d_Wh_shift_29 : decode c_Wh_shift 29 = .ok (.iload 5, 2) := by decide +kernel
theorem d_Wh_shift_31 : decode c_Wh_shift 31 = .ok (.iaload, 1) := by decide +kernel
theorem d_Wh_shift_32 : decode c_Wh_shift 32 = .ok (.i2l, 1) := by decide +kernel
theorem d_Wh_shift_33 : decode c_Wh_shift 33 = .ok (.iload_n 2, 1) := by decide +kernel
theorem d_Wh_shift_34 : decode c_Wh_shift 34 = .ok (.lshl, 1) := by decide +kernel
theorem d_Wh_shift_35 : decode c_Wh_shift 35 = .ok (.lor, 1) := by decide +kernel
theorem d_Wh_shift_36 : decode c_Wh_shift 36 = .ok (.lstore_n 3, 1) := by decide +kernel
theorem d_Wh_shift_37 : decode c_Wh_shift 37 = .ok (.aload_n 0, 1) := by decide +kernel
theorem d_Wh_shift_38 : decode c_Wh_shift 38 = .ok (.getfield 9, 3) := by decide +kernel
theorem d_Wh_shift_41 : decode c_Wh_shift 41 = .ok (.iload 5, 2) := by decide +kernel
theorem d_Wh_shift_43 : decode c_Wh_shift 43 = .ok (.lload_n 3, 1) := by decide +kernel
theorem d_Wh_shift_44 : decode c_Wh_shift 44 = .ok (.ldc2_w 23, 3) := by decide +kernel
theorem d_Wh_shift_47 : decode c_Wh_shift 47 = .ok (.land, 1) := by decide +kernel
theorem d_Wh_shift_48 : decode c_Wh_shift 48 = .ok (.l2i, 1) := by decide +kernel
theorem d_Wh_shift_49 : decode c_Wh_shift 49 = .ok (.iastore, 1) := by decide +kernel
theorem d_Wh_shift_50 : decode c_Wh_shift 50 = .ok (.lload_n 3, 1) := by decide +kernel
theorem d_Wh_shift_51 : decode c_Wh_shift 51 = .ok (.bipush 31, 2) := by decide +kernel
theorem d_Wh_shift_53 : decode c_Wh_shift 53 = .ok (.lshr, 1) := by decide +kernel
theorem d_Wh_shift_54 : decode c_Wh_shift 54 = .ok (.lstore_n 3, 1) := by decide +kernel
theorem d_Wh_shift_55 : decode c_Wh_shift 55 = .ok (.iinc 5 1, 3) := by decide +kernel
theorem d_Wh_shift_58 : decode c_Wh_shift 58 = .ok (.goto (-43), 3) := by decide +kernel
theorem d_Wh_shift_61 : decode c_Wh_shift 61 = .ok (.aload_n 0, 1) := by decide +kernel
theorem d_Wh_shift_62 : decode c_Wh_shift 62 = .ok (.getfield 9, 3) := by decide +kernel
theorem d_Wh_shift_65 : decode c_Wh_shift 65 = .ok (.aload_n 1, 1) := by decide +kernel
theorem d_Wh_shift_66 : decode c_Wh_shift 66 = .ok (.getfield 29, 3) := by decide +kernel
theorem d_Wh_shift_69 : decode c_Wh_shift 69 = .ok (.lload_n 3, 1) := by decide +kernel
theorem d_Wh_shift_70 : decode c_Wh_shift 70 = .ok (.l2i, 1) := by decide +kernel
theorem d_Wh_shift_71 : decode c_Wh_shift 71 = .ok (.iastore, 1) := by decide +kernel
theorem d_Wh_shift_72 : decode c_Wh_shift 72 = .ok (.return_, 1) := by decide +kernel
set_option maxRecDepth 100000 in
set_option maxHeartbeats 16000000 in
/-- shift -/
theorem g_Wh_shift (l : Launch) (G : va_G) (k : Nat → ClassId) (h0 : Nat) (s0 sl : Nat) (by9 : Nat) (sg9 : Int32) (Mx : Nat) (dd : Nat) (LL : Nat) (xs9 : Int32) (ys9 : Int32) (gg : Nat → Nat) (ho : Nat) (do9 : Nat) (Lo : Nat) (no9 : Nat) (go : Nat → Nat) (zo : Int) (hr : raO LL gg) (hv : whO Lo no9 go zo) (hby : by9 ≤ 30) (hm1 : 2 * (no9 + 1) ≤ Mx) (hm2 : LL ≤ Mx) (hm3 : Mx ≤ 400) : CG l y_Wh_shift c_Wh_shift 6 none { frames := 3, cells := Mx, slots := 2 * Mx, locals := 104 } [.ref h0, .ref ho, .int (nI by9)] G k s0 sl [(h0, .inr (2, [.ref dd, .int xs9, .int ys9])), (dd, .inl (k 0, LL, .inl (fun i => nI (gg i)))), (ho, .inr (2, [.ref do9, .int (nI no9), .int sg9])), (do9, .inl (k 0, Lo, .inl (fun i => nI (go i))))] (fun (u : Nat × Nat × (Nat → Nat)) => none) (fun (u : Nat × Nat × (Nat → Nat)) => raO u.2.1 u.2.2 ∧ LL ≤ u.2.1 ∧ no9 + 1 ≤ u.2.1 ∧ u.2.1 ≤ Mx ∧ vl 2147483648 u.2.2 (no9 + 1) = zo.natAbs * 2 ^ by9) (fun (u : Nat × Nat × (Nat → Nat)) => [(h0, .inr (2, [.ref u.1, .int xs9, .int ys9])), (u.1, .inl (k 0, u.2.1, .inl (fun i => nI (u.2.2 i)))), (ho, .inr (2, [.ref do9, .int (nI no9), .int sg9])), (do9, .inl (k 0, Lo, .inl (fun i => nI (go i))))]) (fun (u : Nat × Nat × (Nat → Nat)) => u.2.1 - LL) (fun (u : Nat × Nat × (Nat → Nat)) => 2 * (u.2.1 - LL)) Mx (2 * Mx) := by
  refine met_startG (by decide) (Nat.le_of_ble_eq_true rfl) ?_
  intro p e s m below meth c C K hA hsz S ls hl
  generalize va_A [(h0, .inr (2, [.ref dd, .int xs9, .int ys9])), (dd, .inl (k 0, LL, .inl (fun i => nI (gg i)))), (ho, .inr (2, [.ref do9, .int (nI no9), .int sg9])), (do9, .inl (k 0, Lo, .inl (fun i => nI (go i))))] s0 = A at hA S ⊢
  have hx := C.1
  have hb := C.2.1
  have hl : lv_has ls 6 [(0, .ref h0), (1, .ref ho), (2, .int (nI by9))] := hl
  have hr0 := hr
  obtain ⟨r1, r2, r3⟩ := hr0
  have hv0 := hv
  obtain ⟨v1, v2, v3, v4, v5, v6⟩ := hv0
  refine lv_aload_n hx hb d_Wh_shift_0 rfl (lv_at hl 0 rfl) ?_
  refine lv_aload_n hx hb d_Wh_shift_1 rfl (lv_at hl 1 rfl) ?_
  refine r_get C K S 2 rfl rfl clOk_Wh 1 (by decide) wf_Wh_29 (v := .int (nI no9)) rfl d_Wh_shift_2 ?_
  refine lv_iconst (v := 1) hx hb d_Wh_shift_5 (by decide) ?_
  refine z_iadd (x := nI no9) (y := 1) (v := nI (no9 + 1)) hx hb d_Wh_shift_6 (nI_add no9 1) ?_
  refine q_back0 (wi := [(h0, .inr (2, [.ref dd, .int xs9, .int ys9])), (dd, .inl (k 0, LL, .inl (fun i => nI (gg i))))]) (wr := [(ho, .inr (2, [.ref do9, .int (nI no9), .int sg9])), (do9, .inl (k 0, Lo, .inl (fun i => nI (go i))))]) S hA [0, 1] [2, 3] rfl rfl (by decide) (by decide) (va_runV (As := [.int (nI (no9 + 1))]) (rest := []) ⟨hx, hb, C.2.2.1, C.2.2.2.1, C.2.2.2.2.1⟩ (g_Wh_room l G k h0 _ _ (no9 + 1) Mx dd LL xs9 ys9 gg (by first | exact hr | exact wh_ra hw) (by first | assumption | omega) (by first | assumption | omega) (by first | assumption | omega)) (k_virt (n := 1) C wc_Wh_room rfl rfl wz_Wh wm_Wh_32 wn_Wh_room ws_Wh_room (by decide +kernel) ⟨(Nat.le_of_ble_eq_true rfl), (Nat.le_of_ble_eq_true rfl)⟩) (pr_nowVG K S [0, 1] (by decide) rfl 0 rfl rfl) rfl rfl hl.1 rfl (lv_room (Nat.le_of_ble_eq_true rfl)) d_Wh_shift_7 ⟨(show 0 + Mx ≤ Mx from by omega), (show 0 + (2 * Mx) ≤ 2 * Mx from by omega)⟩) (fun w8 H locs hw1 S => ?_)
  have S : Sw G A s.heap _ _ [(ho, .inr (2, [.ref do9, .int (nI no9), .int sg9])), (do9, .inl (k 0, Lo, .inl (fun i => nI (go i)))), (h0, .inr (2, [.ref w8.1, .int xs9, .int ys9])), (w8.1, .inl (k 0, w8.2.1, .inl (fun i => nI (w8.2.2 i))))] := S
  have hw1 : raO w8.2.1 w8.2.2 ∧ LL ≤ w8.2.1 ∧ (no9 + 1) ≤ w8.2.1 ∧ w8.2.1 ≤ Mx ∧ ∀ i, i < LL → w8.2.2 i = gg i := hw1
  show W p l e _ s m _ below meth c H locs _ _ _ (F0 m 10 ls [])
  obtain ⟨⟨s1, s2, s3⟩, s4, s5, s6, s7⟩ := hw1
  refine lv_lconst (v := 0) hx hb d_Wh_shift_10 (by decide) ?_
  refine lv_lstore_n (lv' := [(3, .long 0), (0, .ref h0), (1, .ref ho), (2, .int (nI by9))]) hx hb d_Wh_shift_11 rfl hl (by decide) rfl (fun ls hl => ?_)
  refine lv_iconst (v := 0) hx hb d_Wh_shift_12 (by decide) ?_
  refine lv_istore (lv' := [(5, .int 0), (3, .long 0), (0, .ref h0), (1, .ref ho), (2, .int (nI by9))]) hx hb d_Wh_shift_13 hl (by decide) rfl (fun ls hl => ?_)
  have lp : ∀ d9, ∀ (i9 : Nat), ∀ (c8 : Nat), ∀ (T8 : Nat → Nat), (no9 - i9) < d9 → (i9 ≤ no9) → (vl 2147483648 T8 i9 + c8 * 2147483648 ^ i9 = vl 2147483648 go i9 * 2 ^ by9) → (c8 < 2 ^ by9) → (∀ i, T8 i < 2147483648) → ∀ (H : Heap) (locs : List Loc), Sw G A s.heap H locs [(ho, .inr (2, [.ref do9, .int (nI no9), .int sg9])), (do9, .inl (k 0, Lo, .inl (fun i => nI (go i)))), (h0, .inr (2, [.ref w8.1, .int xs9, .int ys9])), (w8.1, .inl (k 0, w8.2.1, .inl (fun i => nI (T8 i))))] → ∀ ls : Array Slot, lv_has ls 6 [(3, .long (lN c8)), (5, .int (nI i9)), (0, .ref h0), (1, .ref ho), (2, .int (nI by9))] → W p l e { frames := 3, cells := Mx, slots := 2 * Mx, locals := 104 } s m [Value.ref h0, Value.ref ho, Value.int (nI by9)].toArray below meth c H locs (0 + (w8.2.1 - LL)) (0 + (2 * (w8.2.1 - LL))) (MQ below (va_Qg (fun (u : Nat × Nat × (Nat → Nat)) => none) (fun (u : Nat × Nat × (Nat → Nat)) => raO u.2.1 u.2.2 ∧ LL ≤ u.2.1 ∧ no9 + 1 ≤ u.2.1 ∧ u.2.1 ≤ Mx ∧ vl 2147483648 u.2.2 (no9 + 1) = zo.natAbs * 2 ^ by9) (Pog G k A (fun (u : Nat × Nat × (Nat → Nat)) => [(h0, .inr (2, [.ref u.1, .int xs9, .int ys9])), (u.1, .inl (k 0, u.2.1, .inl (fun i => nI (u.2.2 i)))), (ho, .inr (2, [.ref do9, .int (nI no9), .int sg9])), (do9, .inl (k 0, Lo, .inl (fun i => nI (go i))))]) s0 sl (fun (u : Nat × Nat × (Nat → Nat)) => u.2.1 - LL) (fun (u : Nat × Nat × (Nat → Nat)) => 2 * (u.2.1 - LL))) A) [Value.ref h0, Value.ref ho, Value.int (nI by9)].toArray s Mx (2 * Mx) A) (F0 m 15 ls []) := by
    intro d9
    induction d9 with
    | zero => intro i9 c8 T8 hm; exact absurd hm (Nat.not_lt_zero _)
    | succ d9 ih_lp =>
      intro i9 c8 T8 hm hi hI hc8 hD H locs S ls hl
      have d3 := v4 i9
      have q7 := sf_lt d3 hby hc8
      have q6 := Nat.pow_le_pow_right (n := 2) (by decide) hby
      refine lv_iload hx hb d_Wh_shift_15 (lv_at hl 1 rfl) ?_
      refine lv_aload_n hx hb d_Wh_shift_17 rfl (lv_at hl 3 rfl) ?_
      refine r_get C K S 0 rfl rfl clOk_Wh 1 (by decide) wf_Wh_29 (v := .int (nI no9)) rfl d_Wh_shift_18 ?_
      refine z_icmp_ge (a := i9) (b := no9) (tgt := 61) hx hb d_Wh_shift_21 (by decide) (by omega) (by omega) (fun hc2 => ?_) (fun hc2 => ?_)
      · refine lv_aload_n hx hb d_Wh_shift_61 rfl (lv_at hl 2 rfl) ?_
        refine r_get C K S 2 rfl rfl clOk_Wh 0 (by decide) wf_Wh_9 (v := .ref w8.1) rfl d_Wh_shift_62 ?_
        refine lv_aload_n hx hb d_Wh_shift_65 rfl (lv_at hl 3 rfl) ?_
        refine r_get C K S 0 rfl rfl clOk_Wh 1 (by decide) wf_Wh_29 (v := .int (nI no9)) rfl d_Wh_shift_66 ?_
        refine lv_lload_n hx hb d_Wh_shift_69 rfl (lv_at hl 0 rfl) ?_
        refine lv_l2i (v := nI c8) hx hb d_Wh_shift_70 (lN_i c8) ?_
        refine r_iast C K S 3 rfl (i := nI no9) (x := nI c8) (show vp_in (nI no9) _ from vp_in_nI (n := no9) (by omega) (by omega)) (f' := fun i => nI (va_up T8 no9 c8 i)) (ws' := [(ho, .inr (2, [.ref do9, .int (nI no9), .int sg9])), (do9, .inl (k 0, Lo, .inl (fun i => nI (go i)))), (h0, .inr (2, [.ref w8.1, .int xs9, .int ys9])), (w8.1, .inl (k 0, w8.2.1, .inl (fun i => nI (va_up T8 no9 c8 i))))]) (show upd _ (nI no9 : Int32).toNatClampNeg (nI c8) = _ from upd_nI T8 (j := no9) (by omega) c8) rfl d_Wh_shift_71 (fun H locs S => ?_)
        exact q_vret C K hsz (w8.1, w8.2.1, va_up T8 no9 c8) (show raO w8.2.1 (va_up T8 no9 c8) ∧ LL ≤ w8.2.1 ∧ no9 + 1 ≤ w8.2.1 ∧ w8.2.1 ≤ Mx ∧ vl 2147483648 (va_up T8 no9 c8) (no9 + 1) = zo.natAbs * 2 ^ by9 from ⟨⟨s1, s2, up31 hD (by have := Nat.pow_le_pow_right (n := 2) (by decide) hby; omega)⟩, s4, s5, s6, by have e : i9 = no9 := (by omega); rw [e] at hI; show vl 2147483648 (va_up T8 no9 c8) (no9 + 1) = _; rw [vl_put, hI, v6]⟩) (S.sub [2, 3, 0, 1] (by decide) rfl) d_Wh_shift_72 (show 0 + (w8.2.1 - LL) ≤ w8.2.1 - LL from by omega) (show 0 + (2 * (w8.2.1 - LL)) ≤ 2 * (w8.2.1 - LL) from by omega) (show 0 + (w8.2.1 - LL) ≤ Mx from by omega) (show 0 + (2 * (w8.2.1 - LL)) ≤ 2 * Mx from by omega)
      · refine lv_lload_n hx hb d_Wh_shift_24 rfl (lv_at hl 0 rfl) ?_
        refine lv_aload_n hx hb d_Wh_shift_25 rfl (lv_at hl 3 rfl) ?_
        refine r_get C K S 0 rfl rfl clOk_Wh 0 (by decide) wf_Wh_9 (v := .ref do9) rfl d_Wh_shift_26 ?_
        refine lv_iload hx hb d_Wh_shift_29 (lv_at hl 1 rfl) ?_
        refine r_iald C K S 1 rfl (i := nI i9) (show vp_in (nI i9) _ from vp_in_nI (n := i9) (by omega) (by omega)) (v := nI (go i9)) (by rw [nI_clamp (by omega)]) d_Wh_shift_31 ?_
        refine lv_i2l (v := lN (go i9)) hx hb d_Wh_shift_32 (show (nI (go i9) : Int32).toInt64 = _ from nI_l (n := (go i9)) (by omega)) ?_
        refine lv_iload_n hx hb d_Wh_shift_33 rfl (lv_at hl 4 rfl) ?_
        refine lv_lshl (v := lN (go i9 * 2 ^ by9)) hx hb d_Wh_shift_34 (lN_shlj (by omega) (by omega)) ?_
        refine z_lor (v := lN (c8 + go i9 * 2 ^ by9)) hx hb d_Wh_shift_35 (lN_orj hc8 (by omega)) ?_
        refine lv_lstore_n (lv' := [(3, .long (lN (c8 + go i9 * 2 ^ by9))), (5, .int (nI i9)), (0, .ref h0), (1, .ref ho), (2, .int (nI by9))]) hx hb d_Wh_shift_36 rfl hl (by decide) rfl (fun ls hl => ?_)
        refine lv_aload_n hx hb d_Wh_shift_37 rfl (lv_at hl 2 rfl) ?_
        refine r_get C K S 2 rfl rfl clOk_Wh 0 (by decide) wf_Wh_9 (v := .ref w8.1) rfl d_Wh_shift_38 ?_
        refine lv_iload hx hb d_Wh_shift_41 (lv_at hl 1 rfl) ?_
        refine lv_lload_n hx hb d_Wh_shift_43 rfl (lv_at hl 0 rfl) ?_
        refine lv_ldc2 (v := 2147483647) hx hb C.2.2.2.1 (C.2.2.2.2.1 _ wk_Wh_23) d_Wh_shift_44 ?_
        refine z_land (v := lN ((c8 + go i9 * 2 ^ by9) % 2147483648)) hx hb d_Wh_shift_47 (lN_and31 (by omega)) ?_
        refine lv_l2i (v := nI ((c8 + go i9 * 2 ^ by9) % 2147483648)) hx hb d_Wh_shift_48 (lN_i ((c8 + go i9 * 2 ^ by9) % 2147483648)) ?_
        refine r_iast C K S 3 rfl (i := nI i9) (x := nI ((c8 + go i9 * 2 ^ by9) % 2147483648)) (show vp_in (nI i9) _ from vp_in_nI (n := i9) (by omega) (by omega)) (f' := fun i => nI (va_up T8 i9 ((c8 + go i9 * 2 ^ by9) % 2147483648) i)) (ws' := [(ho, .inr (2, [.ref do9, .int (nI no9), .int sg9])), (do9, .inl (k 0, Lo, .inl (fun i => nI (go i)))), (h0, .inr (2, [.ref w8.1, .int xs9, .int ys9])), (w8.1, .inl (k 0, w8.2.1, .inl (fun i => nI (va_up T8 i9 ((c8 + go i9 * 2 ^ by9) % 2147483648) i))))]) (show upd _ (nI i9 : Int32).toNatClampNeg (nI ((c8 + go i9 * 2 ^ by9) % 2147483648)) = _ from upd_nI T8 (j := i9) (by omega) ((c8 + go i9 * 2 ^ by9) % 2147483648)) rfl d_Wh_shift_49 (fun H locs S => ?_)
        refine lv_lload_n hx hb d_Wh_shift_50 rfl (lv_at hl 0 rfl) ?_
        refine lv_bipush (v := 31) hx hb d_Wh_shift_51 (by decide) ?_
        refine lv_lshr (v := lN ((c8 + go i9 * 2 ^ by9) / 2147483648)) hx hb d_Wh_shift_53 (lN_shr31 (by omega)) ?_
        refine lv_lstore_n (lv' := [(3, .long (lN ((c8 + go i9 * 2 ^ by9) / 2147483648))), (5, .int (nI i9)), (0, .ref h0), (1, .ref ho), (2, .int (nI by9))]) hx hb d_Wh_shift_54 rfl hl (by decide) rfl (fun ls hl => ?_)
        refine lv_iinc (v := nI (i9 + 1)) (lv' := [(5, .int (nI (i9 + 1))), (3, .long (lN ((c8 + go i9 * 2 ^ by9) / 2147483648))), (0, .ref h0), (1, .ref ho), (2, .int (nI by9))]) hx hb d_Wh_shift_55 hl (k := 1) rfl (show nI i9 + Int32.ofInt 1 = nI (i9 + 1) from (nI_add i9 1).trans (congrArg nI (by omega))) (by decide) rfl (fun ls hl => ?_)
        refine lv_goto (tgt := 15) hx hb d_Wh_shift_58 (by decide) ?_
        exact ih_lp (i9 + 1) ((c8 + go i9 * 2 ^ by9) / 2147483648) (va_up T8 i9 ((c8 + go i9 * 2 ^ by9) % 2147483648)) (by omega) (by omega) (sf_step hI) q7.1 (up31 hD (by omega)) _ _ (S.sub [0, 1, 2, 3] (by decide) rfl) ls (lv_sub hl [1, 0, 2, 3, 4] rfl)
  exact lp _ 0 0 w8.2.2 (Nat.lt_succ_self _) (by omega) (by simp [vl]) (Nat.two_pow_pos by9) s3 _ _ (S.sub [0, 1, 2, 3] (by decide) rfl) ls (lv_sub hl [1, 0, 2, 3, 4] rfl)
theorem d_Wh_guess_0 : decode c_Wh_guess 0 = .ok (.aload_n 1, 1) := by decide +kernel
theorem d_Wh_guess_1 : decode c_Wh_guess 1 = .ok (.getfield 9, 3) := by decide +kernel
theorem d_Wh_guess_4 : decode c_Wh_guess 4 = .ok (.iload_n 2, 1) := by decide +kernel
theorem d_Wh_guess_5 : decode c_Wh_guess 5 = .ok (.iconst 1, 1) := by decide +kernel
theorem d_Wh_guess_6 : decode c_Wh_guess 6 = .ok (.isub, 1) := by decide +kernel
theorem d_Wh_guess_7 : decode c_Wh_guess 7 = .ok (.iaload, 1) := by decide +kernel
theorem d_Wh_guess_8 : decode c_Wh_guess 8 = .ok (.i2l, 1) := by decide +kernel
theorem d_Wh_guess_9 : decode c_Wh_guess 9 = .ok (.lstore 4, 2) := by decide +kernel
theorem d_Wh_guess_11 : decode c_Wh_guess 11 = .ok (.lload 4, 2) := by decide +kernel
theorem d_Wh_guess_13 : decode c_Wh_guess 13 = .ok (.lconst 0, 1) := by decide +kernel
theorem d_Wh_guess_14 : decode c_Wh_guess 14 = .ok (.lcmp, 1) := by decide +kernel
theorem d_Wh_guess_15 : decode c_Wh_guess 15 = .ok (.ifCond .ne 5, 3) := by decide +kernel
theorem d_Wh_guess_18 : decode c_Wh_guess 18 = .ok (.lconst 0, 1) := by decide +kernel
theorem d_Wh_guess_19 : decode c_Wh_guess 19 = .ok (.lreturn, 1) := by decide +kernel
theorem d_Wh_guess_20 : decode c_Wh_guess 20 = .ok (.aload_n 0, 1) := by decide +kernel
theorem d_Wh_guess_21 : decode c_Wh_guess 21 = .ok (.getfield 9, 3) := by decide +kernel
theorem d_Wh_guess_24 : decode c_Wh_guess 24 = .ok (.iload_n 3, 1) := by decide +kernel
theorem d_Wh_guess_25 : decode c_Wh_guess 25 = .ok (.iload_n 2, 1) := by decide +kernel
theorem d_Wh_guess_26 : decode c_Wh_guess 26 = .ok (.iadd, 1) := by decide +kernel
theorem d_Wh_guess_27 : decode c_Wh_guess 27 = .ok (.iaload, 1) := by decide +kernel
theorem d_Wh_guess_28 : decode c_Wh_guess 28 = .ok (.i2l, 1) := by decide +kernel
theorem d_Wh_guess_29 : decode c_Wh_guess 29 = .ok (.bipush 31, 2) := by decide +kernel
theorem d_Wh_guess_31 : decode c_Wh_guess 31 = .ok (.lshl, 1) := by decide +kernel
theorem d_Wh_guess_32 : decode c_Wh_guess 32 = .ok (.aload_n 0, 1) := by decide +kernel
theorem d_Wh_guess_33 : decode c_Wh_guess 33 = .ok (.getfield 9, 3) := by decide +kernel
theorem d_Wh_guess_36 : decode c_Wh_guess 36 = .ok (.iload_n 3, 1) := by decide +kernel
theorem d_Wh_guess_37 : decode c_Wh_guess 37 = .ok (.iload_n 2, 1) := by decide +kernel
theorem d_Wh_guess_38 : decode c_Wh_guess 38 = .ok (.iadd, 1) := by decide +kernel
theorem d_Wh_guess_39 : decode c_Wh_guess 39 = .ok (.iconst 1, 1) := by decide +kernel
theorem d_Wh_guess_40 : decode c_Wh_guess 40 = .ok (.isub, 1) := by decide +kernel
theorem d_Wh_guess_41 : decode c_Wh_guess 41 = .ok (.iaload, 1) := by decide +kernel
theorem d_Wh_guess_42 : decode c_Wh_guess 42 = .ok (.i2l, 1) := by decide +kernel
theorem d_Wh_guess_43 : decode c_Wh_guess 43 = .ok (.lor, 1) := by decide +kernel
theorem d_Wh_guess_44 : decode c_Wh_guess 44 = .ok (.lstore 6, 2) := by decide +kernel
theorem d_Wh_guess_46 : decode c_Wh_guess 46 = .ok (.lload 6, 2) := by decide +kernel
theorem d_Wh_guess_48 : decode c_Wh_guess 48 = .ok (.lload 4, 2) := by decide +kernel
theorem d_Wh_guess_50 : decode c_Wh_guess 50 = .ok (.ldiv, 1) := by decide +kernel
theorem d_Wh_guess_51 : decode c_Wh_guess 51 = .ok (.lstore 8, 2) := by decide +kernel
theorem d_Wh_guess_53 : decode c_Wh_guess 53 = .ok (.lload 6, 2) := by decide +kernel
theorem d_Wh_guess_55 : decode c_Wh_guess 55 = .ok (.lload 4, 2) := by decide +kernel
theorem d_Wh_guess_57 : decode c_Wh_guess 57 = .ok (.lrem, 1) := by decide +kernel
theorem d_Wh_guess_58 : decode c_Wh_guess 58 = .ok (.lstore 10, 2) := by decide +kernel
theorem d_Wh_guess_60 : decode c_Wh_guess 60 = .ok (.aload_n 1, 1) := by decide +kernel
theorem d_Wh_guess_61 : decode c_Wh_guess 61 = .ok (.getfield 9, 3) := by decide +kernel
theorem d_Wh_guess_64 : decode c_Wh_guess 64 = .ok (.iload_n 2, 1) := by decide +kernel
theorem d_Wh_guess_65 : decode c_Wh_guess 65 = .ok (.iconst 2, 1) := by decide +kernel
theorem d_Wh_guess_66 : decode c_Wh_guess 66 = .ok (.isub, 1) := by decide +kernel
theorem d_Wh_guess_67 : decode c_Wh_guess 67 = .ok (.iaload, 1) := by decide +kernel
theorem d_Wh_guess_68 : decode c_Wh_guess 68 = .ok (.i2l, 1) := by decide +kernel
theorem d_Wh_guess_69 : decode c_Wh_guess 69 = .ok (.lstore 12, 2) := by decide +kernel
theorem d_Wh_guess_71 : decode c_Wh_guess 71 = .ok (.iconst 0, 1) := by decide +kernel
theorem d_Wh_guess_72 : decode c_Wh_guess 72 = .ok (.istore 14, 2) := by decide +kernel
theorem d_Wh_guess_74 : decode c_Wh_guess 74 = .ok (.iload 14, 2) := by decide +kernel
theorem d_Wh_guess_76 : decode c_Wh_guess 76 = .ok (.iconst 2, 1) := by decide +kernel
theorem d_Wh_guess_77 : decode c_Wh_guess 77 = .ok (.if_icmp .ge 66, 3) := by decide +kernel
theorem d_Wh_guess_80 : decode c_Wh_guess 80 = .ok (.lload 10, 2) := by decide +kernel
theorem d_Wh_guess_82 : decode c_Wh_guess 82 = .ok (.ldc2_w 93, 3) := by decide +kernel
theorem d_Wh_guess_85 : decode c_Wh_guess 85 = .ok (.lcmp, 1) := by decide +kernel
theorem d_Wh_guess_86 : decode c_Wh_guess 86 = .ok (.ifCond .ge 57, 3) := by decide +kernel
theorem d_Wh_guess_89 : decode c_Wh_guess 89 = .ok (.lload 8, 2) := by decide +kernel
theorem d_Wh_guess_91 : decode c_Wh_guess 91 = .ok (.ldc2_w 93, 3) := by decide +kernel
theorem d_Wh_guess_94 : decode c_Wh_guess 94 = .ok (.lcmp, 1) := by decide +kernel
theorem d_Wh_guess_95 : decode c_Wh_guess 95 = .ok (.ifCond .ge 29, 3) := by decide +kernel
theorem d_Wh_guess_98 : decode c_Wh_guess 98 = .ok (.lload 8, 2) := by decide +kernel
theorem d_Wh_guess_100 : decode c_Wh_guess 100 = .ok (.lload 12, 2) := by decide +kernel
theorem d_Wh_guess_102 : decode c_Wh_guess 102 = .ok (.lmul, 1) := by decide +kernel
theorem d_Wh_guess_103 : decode c_Wh_guess 103 = .ok (.lload 10, 2) := by decide +kernel
theorem d_Wh_guess_105 : decode c_Wh_guess 105 = .ok (.bipush 31, 2) := by decide +kernel
theorem d_Wh_guess_107 : decode c_Wh_guess 107 = .ok (.lshl, 1) := by decide +kernel
theorem d_Wh_guess_108 : decode c_Wh_guess 108 = .ok (.aload_n 0, 1) := by decide +kernel
theorem d_Wh_guess_109 : decode c_Wh_guess 109 = .ok (.getfield 9, 3) := by decide +kernel
theorem d_Wh_guess_112 : decode c_Wh_guess 112 = .ok (.iload_n 3, 1) := by decide +kernel
theorem d_Wh_guess_113 : decode c_Wh_guess 113 = .ok (.iload_n 2, 1) := by decide +kernel
theorem d_Wh_guess_114 : decode c_Wh_guess 114 = .ok (.iadd, 1) := by decide +kernel
theorem d_Wh_guess_115 : decode c_Wh_guess 115 = .ok (.iconst 2, 1) := by decide +kernel
theorem d_Wh_guess_116 : decode c_Wh_guess 116 = .ok (.isub, 1) := by decide +kernel
theorem d_Wh_guess_117 : decode c_Wh_guess 117 = .ok (.iaload, 1) := by decide +kernel
theorem d_Wh_guess_118 : decode c_Wh_guess 118 = .ok (.i2l, 1) := by decide +kernel
theorem d_Wh_guess_119 : decode c_Wh_guess 119 = .ok (.lor, 1) := by decide +kernel
theorem d_Wh_guess_120 : decode c_Wh_guess 120 = .ok (.lcmp, 1) := by decide +kernel
theorem d_Wh_guess_121 : decode c_Wh_guess 121 = .ok (.ifCond .le 16, 3) := by decide +kernel
theorem d_Wh_guess_124 : decode c_Wh_guess 124 = .ok (.lload 8, 2) := by decide +kernel
theorem d_Wh_guess_126 : decode c_Wh_guess 126 = .ok (.lconst 1, 1) := by decide +kernel
theorem d_Wh_guess_127 : decode c_Wh_guess 127 = .ok (.lsub, 1) := by decide +kernel
theorem d_Wh_guess_128 : decode c_Wh_guess 128 = .ok (.lstore 8, 2) := by decide +kernel
theorem d_Wh_guess_130 : decode c_Wh_guess 130 = .ok (.lload 10, 2) := by decide +kernel
theorem d_Wh_guess_132 : decode c_Wh_guess 132 = .ok (.lload 4, 2) := by decide +kernel
theorem d_Wh_guess_134 : decode c_Wh_guess 134 = .ok (.ladd, 1) := by decide +kernel
theorem d_Wh_guess_135 : decode c_Wh_guess 135 = .ok (.lstore 10, 2) := by decide +kernel
theorem d_Wh_guess_137 : decode c_Wh_guess 137 = .ok (.iinc 14 1, 3) := by decide +kernel
theorem d_Wh_guess_140 : decode c_Wh_guess 140 = .ok (.goto (-66), 3) := by decide +kernel
theorem d_Wh_guess_143 : decode c_Wh_guess 143 = .ok (.lload 8, 2) := by decide +kernel
theorem d_Wh_guess_145 : decode c_Wh_guess 145 = .ok (.lreturn, 1) := by decide +kernel
set_option maxRecDepth 100000 in
set_option maxHeartbeats 16000000 in
/-- guess -/
theorem g_Wh_guess (l : Launch) (G : va_G) (k : Nat → ClassId) (h0 : Nat) (s0 sl : Nat) (wi9 : Nat) (by9 : Nat) (dd : Nat) (LL : Nat) (xs9 : Int32) (ys9 : Int32) (gg : Nat → Nat) (hu : Nat) (du : Nat) (Lu : Nat) (xu9 : Int32) (yu9 : Int32) (gu : Nat → Nat) (hr : raO LL gg) (hru : raO Lu gu) (hw2 : 2 ≤ wi9) (hwu : wi9 ≤ Lu) (hbl : by9 + wi9 < LL) (htop : 1073741824 ≤ gu (wi9 - 1)) (hWV : vl 2147483648 (fun i => gg (by9 + i)) (wi9 + 1) < 2147483648 * vl 2147483648 gu wi9) : CG l y_Wh_guess c_Wh_guess 15 (some .long) { frames := 0, cells := 0, slots := 0, locals := 0 } [.ref h0, .ref hu, .int (nI wi9), .int (nI by9)] G k s0 sl [(h0, .inr (2, [.ref dd, .int xs9, .int ys9])), (dd, .inl (k 0, LL, .inl (fun i => nI (gg i)))), (hu, .inr (2, [.ref du, .int xu9, .int yu9])), (du, .inl (k 0, Lu, .inl (fun i => nI (gu i))))] (fun (u : Nat) => some (.long (lN u))) (fun (u : Nat) => vl 2147483648 (fun i => gg (by9 + i)) (wi9 + 1) / vl 2147483648 gu wi9 ≤ u ∧ u ≤ vl 2147483648 (fun i => gg (by9 + i)) (wi9 + 1) / vl 2147483648 gu wi9 + 1 ∧ u ≤ 2147483648) (fun (u : Nat) => [(h0, .inr (2, [.ref dd, .int xs9, .int ys9])), (dd, .inl (k 0, LL, .inl (fun i => nI (gg i)))), (hu, .inr (2, [.ref du, .int xu9, .int yu9])), (du, .inl (k 0, Lu, .inl (fun i => nI (gu i))))]) (fun (u : Nat) => 0) (fun (u : Nat) => 0) 0 0 := by
  refine met_startG (by decide) (Nat.le_of_ble_eq_true rfl) ?_
  intro p e s m below meth c C K hA hsz S ls hl
  generalize va_A [(h0, .inr (2, [.ref dd, .int xs9, .int ys9])), (dd, .inl (k 0, LL, .inl (fun i => nI (gg i)))), (hu, .inr (2, [.ref du, .int xu9, .int yu9])), (du, .inl (k 0, Lu, .inl (fun i => nI (gu i))))] s0 = A at hA S ⊢
  have hx := C.1
  have hb := C.2.1
  have hl : lv_has ls 15 [(0, .ref h0), (1, .ref hu), (2, .int (nI wi9)), (3, .int (nI by9))] := hl
  have hr0 := hr
  obtain ⟨r1, r2, r3⟩ := hr0
  obtain ⟨u1, u2, u3⟩ := hru
  have a1 := u3 (wi9 - 1)
  have a2 := u3 (wi9 - 2)
  have a3 := r3 (by9 + wi9)
  have a4 := r3 (by9 + wi9 - 1)
  have a5 := r3 (by9 + wi9 - 2)
  obtain ⟨P9, hP9⟩ : ∃ x9, x9 = 2147483648 ^ (wi9 - 2) := ⟨_, rfl⟩
  have hP0 : 0 < P9 := by rw [hP9]; exact Nat.pow_pos (by decide)
  obtain ⟨z9, hz9⟩ : ∃ x9, x9 = vl 2147483648 (fun i => gg (by9 + i)) (wi9 - 2) := ⟨_, rfl⟩
  have hzP : z9 < P9 := by rw [hz9, hP9]; exact vl_lt _ (fun i _ => r3 _)
  obtain ⟨e9, he9⟩ : ∃ x9, x9 = vl 2147483648 gu (wi9 - 2) := ⟨_, rfl⟩
  have heP : e9 < P9 := by rw [he9, hP9]; exact vl_lt _ (fun i _ => u3 i)
  have eW : vl 2147483648 (fun i => gg (by9 + i)) (wi9 + 1) = ((gg (by9 + wi9) * 2147483648 + gg (by9 + wi9 - 1)) * 2147483648 + gg (by9 + wi9 - 2)) * P9 + z9 := by rw [vl_hi3 hw2, hP9, hz9, show by9 + (wi9 - 1) = by9 + wi9 - 1 by omega, show by9 + (wi9 - 2) = by9 + wi9 - 2 by omega]
  have eV : vl 2147483648 gu wi9 = (gu (wi9 - 1) * 2147483648 + gu (wi9 - 2)) * P9 + e9 := by rw [vl_hi hw2, hP9, he9]
  obtain ⟨q9, hq9⟩ : ∃ x9, x9 = vl 2147483648 (fun i => gg (by9 + i)) (wi9 + 1) / vl 2147483648 gu wi9 := ⟨_, rfl⟩
  have hqB : q9 < 2147483648 := by rw [hq9]; exact Nat.div_lt_of_lt_mul (by rw [Nat.mul_comm (vl 2147483648 gu wi9)]; exact hWV)
  have hq8 : q9 = (((gg (by9 + wi9) * 2147483648 + gg (by9 + wi9 - 1)) * 2147483648 + gg (by9 + wi9 - 2)) * P9 + z9) / ((gu (wi9 - 1) * 2147483648 + gu (wi9 - 2)) * P9 + e9) := by rw [hq9, eW, eV]
  have hR9 : ((gg (by9 + wi9) * 2147483648 + gg (by9 + wi9 - 1)) * 2147483648 + gg (by9 + wi9 - 2)) * P9 + z9 < 2147483648 * ((gu (wi9 - 1) * 2147483648 + gu (wi9 - 2)) * P9 + e9) := by rw [← eW, ← eV]; exact hWV
  have g0 := gs_0 (by omega) a1 a2 hP0 heP a5 hzP hR9 hq8
  refine lv_aload_n hx hb d_Wh_guess_0 rfl (lv_at hl 1 rfl) ?_
  refine r_get C K S 2 rfl rfl clOk_Wh 0 (by decide) wf_Wh_9 (v := .ref du) rfl d_Wh_guess_1 ?_
  refine lv_iload_n hx hb d_Wh_guess_4 rfl (lv_at hl 2 rfl) ?_
  refine lv_iconst (v := 1) hx hb d_Wh_guess_5 (by decide) ?_
  refine z_isub (x := nI wi9) (y := 1) (v := nI (wi9 - 1)) hx hb d_Wh_guess_6 (pk_sub (a := wi9) (b := 1) (by omega)) ?_
  refine r_iald C K S 3 rfl (i := nI (wi9 - 1)) (show vp_in (nI (wi9 - 1)) _ from vp_in_nI (n := (wi9 - 1)) (by omega) (by omega)) (v := nI (gu (wi9 - 1))) (by rw [nI_clamp (by omega)]) d_Wh_guess_7 ?_
  refine lv_i2l (v := lN (gu (wi9 - 1))) hx hb d_Wh_guess_8 (show (nI (gu (wi9 - 1)) : Int32).toInt64 = _ from nI_l (n := (gu (wi9 - 1))) (by omega)) ?_
  refine lv_lstore (lv' := [(4, .long (lN (gu (wi9 - 1)))), (0, .ref h0), (1, .ref hu), (2, .int (nI wi9)), (3, .int (nI by9))]) hx hb d_Wh_guess_9 hl (by decide) rfl (fun ls hl => ?_)
  refine lv_lload hx hb d_Wh_guess_11 (lv_at hl 0 rfl) ?_
  refine lv_lconst (v := 0) hx hb d_Wh_guess_13 (by decide) ?_
  refine W.lcmp hx hb d_Wh_guess_14 ?_
  refine z_lif_ne (a := (gu (wi9 - 1))) (b := 0) (tgt := 20) hx hb d_Wh_guess_15 (by decide) (by omega) (by omega) (fun hc1 => ?_) (fun hc1 => False.elim (by omega))
  refine lv_aload_n hx hb d_Wh_guess_20 rfl (lv_at hl 1 rfl) ?_
  refine r_get C K S 0 rfl rfl clOk_Wh 0 (by decide) wf_Wh_9 (v := .ref dd) rfl d_Wh_guess_21 ?_
  refine lv_iload_n hx hb d_Wh_guess_24 rfl (lv_at hl 4 rfl) ?_
  refine lv_iload_n hx hb d_Wh_guess_25 rfl (lv_at hl 3 rfl) ?_
  refine z_iadd (x := nI by9) (y := nI wi9) (v := nI (by9 + wi9)) hx hb d_Wh_guess_26 (nI_add by9 wi9) ?_
  refine r_iald C K S 1 rfl (i := nI (by9 + wi9)) (show vp_in (nI (by9 + wi9)) _ from vp_in_nI (n := (by9 + wi9)) (by omega) (by omega)) (v := nI (gg (by9 + wi9))) (by rw [nI_clamp (by omega)]) d_Wh_guess_27 ?_
  refine lv_i2l (v := lN (gg (by9 + wi9))) hx hb d_Wh_guess_28 (show (nI (gg (by9 + wi9)) : Int32).toInt64 = _ from nI_l (n := (gg (by9 + wi9))) (by omega)) ?_
  refine lv_bipush (v := 31) hx hb d_Wh_guess_29 (by decide) ?_
  refine lv_lshl (v := lN (gg (by9 + wi9) * 2147483648)) hx hb d_Wh_guess_31 (lN_shl31 (by omega)) ?_
  refine lv_aload_n hx hb d_Wh_guess_32 rfl (lv_at hl 1 rfl) ?_
  refine r_get C K S 0 rfl rfl clOk_Wh 0 (by decide) wf_Wh_9 (v := .ref dd) rfl d_Wh_guess_33 ?_
  refine lv_iload_n hx hb d_Wh_guess_36 rfl (lv_at hl 4 rfl) ?_
  refine lv_iload_n hx hb d_Wh_guess_37 rfl (lv_at hl 3 rfl) ?_
  refine z_iadd (x := nI by9) (y := nI wi9) (v := nI (by9 + wi9)) hx hb d_Wh_guess_38 (nI_add by9 wi9) ?_
  refine lv_iconst (v := 1) hx hb d_Wh_guess_39 (by decide) ?_
  refine z_isub (x := nI (by9 + wi9)) (y := 1) (v := nI (by9 + wi9 - 1)) hx hb d_Wh_guess_40 (pk_sub (a := (by9 + wi9)) (b := 1) (by omega)) ?_
  refine r_iald C K S 1 rfl (i := nI (by9 + wi9 - 1)) (show vp_in (nI (by9 + wi9 - 1)) _ from vp_in_nI (n := (by9 + wi9 - 1)) (by omega) (by omega)) (v := nI (gg (by9 + wi9 - 1))) (by rw [nI_clamp (by omega)]) d_Wh_guess_41 ?_
  refine lv_i2l (v := lN (gg (by9 + wi9 - 1))) hx hb d_Wh_guess_42 (show (nI (gg (by9 + wi9 - 1)) : Int32).toInt64 = _ from nI_l (n := (gg (by9 + wi9 - 1))) (by omega)) ?_
  refine z_lor (v := lN (gg (by9 + wi9) * 2147483648 + gg (by9 + wi9 - 1))) hx hb d_Wh_guess_43 (lN_or31 a4 (by omega)) ?_
  refine lv_lstore (lv' := [(6, .long (lN (gg (by9 + wi9) * 2147483648 + gg (by9 + wi9 - 1)))), (4, .long (lN (gu (wi9 - 1)))), (0, .ref h0), (1, .ref hu), (2, .int (nI wi9)), (3, .int (nI by9))]) hx hb d_Wh_guess_44 hl (by decide) rfl (fun ls hl => ?_)
  refine lv_lload hx hb d_Wh_guess_46 (lv_at hl 0 rfl) ?_
  refine lv_lload hx hb d_Wh_guess_48 (lv_at hl 1 rfl) ?_
  refine z_ldiv (v := lN ((gg (by9 + wi9) * 2147483648 + gg (by9 + wi9 - 1)) / gu (wi9 - 1))) hx hb d_Wh_guess_50 (ln_ne (by omega) (by omega)) (pk_lDiv (by omega) (by omega) (by omega)) ?_
  refine lv_lstore (lv' := [(8, .long (lN ((gg (by9 + wi9) * 2147483648 + gg (by9 + wi9 - 1)) / gu (wi9 - 1)))), (6, .long (lN (gg (by9 + wi9) * 2147483648 + gg (by9 + wi9 - 1)))), (4, .long (lN (gu (wi9 - 1)))), (0, .ref h0), (1, .ref hu), (2, .int (nI wi9)), (3, .int (nI by9))]) hx hb d_Wh_guess_51 hl (by decide) rfl (fun ls hl => ?_)
  refine lv_lload hx hb d_Wh_guess_53 (lv_at hl 1 rfl) ?_
  refine lv_lload hx hb d_Wh_guess_55 (lv_at hl 2 rfl) ?_
  refine z_lrem (v := lN ((gg (by9 + wi9) * 2147483648 + gg (by9 + wi9 - 1)) % gu (wi9 - 1))) hx hb d_Wh_guess_57 (ln_ne (by omega) (by omega)) (pk_lRem (by omega) (by omega) (by omega)) ?_
  refine lv_lstore (lv' := [(10, .long (lN ((gg (by9 + wi9) * 2147483648 + gg (by9 + wi9 - 1)) % gu (wi9 - 1)))), (8, .long (lN ((gg (by9 + wi9) * 2147483648 + gg (by9 + wi9 - 1)) / gu (wi9 - 1)))), (6, .long (lN (gg (by9 + wi9) * 2147483648 + gg (by9 + wi9 - 1)))), (4, .long (lN (gu (wi9 - 1)))), (0, .ref h0), (1, .ref hu), (2, .int (nI wi9)), (3, .int (nI by9))]) hx hb d_Wh_guess_58 hl (by decide) rfl (fun ls hl => ?_)
  refine lv_aload_n hx hb d_Wh_guess_60 rfl (lv_at hl 5 rfl) ?_
  refine r_get C K S 2 rfl rfl clOk_Wh 0 (by decide) wf_Wh_9 (v := .ref du) rfl d_Wh_guess_61 ?_
  refine lv_iload_n hx hb d_Wh_guess_64 rfl (lv_at hl 6 rfl) ?_
  refine lv_iconst (v := 2) hx hb d_Wh_guess_65 (by decide) ?_
  refine z_isub (x := nI wi9) (y := 2) (v := nI (wi9 - 2)) hx hb d_Wh_guess_66 (pk_sub (a := wi9) (b := 2) (by omega)) ?_
  refine r_iald C K S 3 rfl (i := nI (wi9 - 2)) (show vp_in (nI (wi9 - 2)) _ from vp_in_nI (n := (wi9 - 2)) (by omega) (by omega)) (v := nI (gu (wi9 - 2))) (by rw [nI_clamp (by omega)]) d_Wh_guess_67 ?_
  refine lv_i2l (v := lN (gu (wi9 - 2))) hx hb d_Wh_guess_68 (show (nI (gu (wi9 - 2)) : Int32).toInt64 = _ from nI_l (n := (gu (wi9 - 2))) (by omega)) ?_
  refine lv_lstore (lv' := [(12, .long (lN (gu (wi9 - 2)))), (10, .long (lN ((gg (by9 + wi9) * 2147483648 + gg (by9 + wi9 - 1)) % gu (wi9 - 1)))), (8, .long (lN ((gg (by9 + wi9) * 2147483648 + gg (by9 + wi9 - 1)) / gu (wi9 - 1)))), (6, .long (lN (gg (by9 + wi9) * 2147483648 + gg (by9 + wi9 - 1)))), (4, .long (lN (gu (wi9 - 1)))), (0, .ref h0), (1, .ref hu), (2, .int (nI wi9)), (3, .int (nI by9))]) hx hb d_Wh_guess_69 hl (by decide) rfl (fun ls hl => ?_)
  refine lv_iconst (v := 0) hx hb d_Wh_guess_71 (by decide) ?_
  refine lv_istore (lv' := [(14, .int 0), (12, .long (lN (gu (wi9 - 2)))), (10, .long (lN ((gg (by9 + wi9) * 2147483648 + gg (by9 + wi9 - 1)) % gu (wi9 - 1)))), (8, .long (lN ((gg (by9 + wi9) * 2147483648 + gg (by9 + wi9 - 1)) / gu (wi9 - 1)))), (6, .long (lN (gg (by9 + wi9) * 2147483648 + gg (by9 + wi9 - 1)))), (4, .long (lN (gu (wi9 - 1)))), (0, .ref h0), (1, .ref hu), (2, .int (nI wi9)), (3, .int (nI by9))]) hx hb d_Wh_guess_72 hl (by decide) rfl (fun ls hl => ?_)
  have lp : ∀ d9, ∀ (t8 : Nat), ∀ (l8 : Nat), ∀ (i9 : Nat), (2 - i9) < d9 → (i9 ≤ 2) → (gsO (gu (wi9 - 1)) (gu (wi9 - 2)) (gg (by9 + wi9) * 2147483648 + gg (by9 + wi9 - 1)) (gg (by9 + wi9 - 2)) q9 i9 t8 l8) → ∀ (H : Heap) (locs : List Loc), Sw G A s.heap H locs [(h0, .inr (2, [.ref dd, .int xs9, .int ys9])), (dd, .inl (k 0, LL, .inl (fun i => nI (gg i)))), (hu, .inr (2, [.ref du, .int xu9, .int yu9])), (du, .inl (k 0, Lu, .inl (fun i => nI (gu i))))] → ∀ ls : Array Slot, lv_has ls 15 [(8, .long (lN t8)), (10, .long (lN l8)), (14, .int (nI i9)), (12, .long (lN (gu (wi9 - 2)))), (6, .long (lN (gg (by9 + wi9) * 2147483648 + gg (by9 + wi9 - 1)))), (4, .long (lN (gu (wi9 - 1)))), (0, .ref h0), (1, .ref hu), (2, .int (nI wi9)), (3, .int (nI by9))] → W p l e { frames := 0, cells := 0, slots := 0, locals := 0 } s m [Value.ref h0, Value.ref hu, Value.int (nI wi9), Value.int (nI by9)].toArray below meth c H locs 0 0 (MQ below (va_Qg (fun (u : Nat) => some (.long (lN u))) (fun (u : Nat) => vl 2147483648 (fun i => gg (by9 + i)) (wi9 + 1) / vl 2147483648 gu wi9 ≤ u ∧ u ≤ vl 2147483648 (fun i => gg (by9 + i)) (wi9 + 1) / vl 2147483648 gu wi9 + 1 ∧ u ≤ 2147483648) (Pog G k A (fun (u : Nat) => [(h0, .inr (2, [.ref dd, .int xs9, .int ys9])), (dd, .inl (k 0, LL, .inl (fun i => nI (gg i)))), (hu, .inr (2, [.ref du, .int xu9, .int yu9])), (du, .inl (k 0, Lu, .inl (fun i => nI (gu i))))]) s0 sl (fun (u : Nat) => 0) (fun (u : Nat) => 0)) A) [Value.ref h0, Value.ref hu, Value.int (nI wi9), Value.int (nI by9)].toArray s 0 0 A) (F0 m 74 ls []) := by
    intro d9
    induction d9 with
    | zero => intro t8 l8 i9 hm; exact absurd hm (Nat.not_lt_zero _)
    | succ d9 ih_lp =>
      intro t8 l8 i9 hm hi hg H locs S ls hl
      have hg3 := hg.2.2.1
      have hl8 : l8 ≤ (gg (by9 + wi9) * 2147483648 + gg (by9 + wi9 - 1)) := by have := hg.1; omega
      have hm8 : t8 * gu (wi9 - 2) ≤ 2147483649 * 2147483647 := Nat.mul_le_mul hg3 (by omega)
      refine lv_iload hx hb d_Wh_guess_74 (lv_at hl 2 rfl) ?_
      refine lv_iconst (v := 2) hx hb d_Wh_guess_76 (by decide) ?_
      refine z_icmp_ge (a := i9) (b := 2) (tgt := 143) hx hb d_Wh_guess_77 (by decide) (by omega) (by omega) (fun hc2 => ?_) (fun hc2 => ?_)
      · refine lv_lload hx hb d_Wh_guess_143 (lv_at hl 0 rfl) ?_
        exact q_lret C K hsz t8 rfl (show vl 2147483648 (fun i => gg (by9 + i)) (wi9 + 1) / vl 2147483648 gu wi9 ≤ t8 ∧ t8 ≤ vl 2147483648 (fun i => gg (by9 + i)) (wi9 + 1) / vl 2147483648 gu wi9 + 1 ∧ t8 ≤ 2147483648 from (by have k9 := gs_end (by omega) a2 heP hq8 hqB hP0 hg (by omega); rw [← hq9]; exact k9)) (S.sub [0, 1, 2, 3] (by decide) rfl) d_Wh_guess_145 (Nat.zero_le _) (Nat.zero_le _) (Nat.zero_le _) (Nat.zero_le _)
      · refine lv_lload hx hb d_Wh_guess_80 (lv_at hl 1 rfl) ?_
        refine lv_ldc2 (v := 2147483648) hx hb C.2.2.2.1 (C.2.2.2.2.1 _ wk_Wh_93) d_Wh_guess_82 ?_
        refine W.lcmp hx hb d_Wh_guess_85 ?_
        refine z_lif_ge (a := l8) (b := 2147483648) (tgt := 143) hx hb d_Wh_guess_86 (by decide) (by omega) (by omega) (fun hc3 => ?_) (fun hc3 => ?_)
        · refine lv_lload hx hb d_Wh_guess_143 (lv_at hl 0 rfl) ?_
          exact q_lret C K hsz t8 rfl (show vl 2147483648 (fun i => gg (by9 + i)) (wi9 + 1) / vl 2147483648 gu wi9 ≤ t8 ∧ t8 ≤ vl 2147483648 (fun i => gg (by9 + i)) (wi9 + 1) / vl 2147483648 gu wi9 + 1 ∧ t8 ≤ 2147483648 from (by have k9 := gs_end (by omega) a2 heP hq8 hqB hP0 hg (by omega); rw [← hq9]; exact k9)) (S.sub [0, 1, 2, 3] (by decide) rfl) d_Wh_guess_145 (Nat.zero_le _) (Nat.zero_le _) (Nat.zero_le _) (Nat.zero_le _)
        · refine lv_lload hx hb d_Wh_guess_89 (lv_at hl 0 rfl) ?_
          refine lv_ldc2 (v := 2147483648) hx hb C.2.2.2.1 (C.2.2.2.2.1 _ wk_Wh_93) d_Wh_guess_91 ?_
          refine W.lcmp hx hb d_Wh_guess_94 ?_
          refine z_lif_ge (a := t8) (b := 2147483648) (tgt := 124) hx hb d_Wh_guess_95 (by decide) (by omega) (by omega) (fun hc4 => ?_) (fun hc4 => ?_)
          · refine lv_lload hx hb d_Wh_guess_124 (lv_at hl 0 rfl) ?_
            refine lv_lconst (v := 1) hx hb d_Wh_guess_126 (by decide) ?_
            refine z_lsub (x := lN t8) (y := 1) (v := lN (t8 - 1)) hx hb d_Wh_guess_127 (lN_sub (a := t8) (b := 1) (gs_dec hP0 hzP hq8 hqB hg (by omega) (by omega)).2) ?_
            refine lv_lstore (lv' := [(8, .long (lN (t8 - 1))), (10, .long (lN l8)), (14, .int (nI i9)), (12, .long (lN (gu (wi9 - 2)))), (6, .long (lN (gg (by9 + wi9) * 2147483648 + gg (by9 + wi9 - 1)))), (4, .long (lN (gu (wi9 - 1)))), (0, .ref h0), (1, .ref hu), (2, .int (nI wi9)), (3, .int (nI by9))]) hx hb d_Wh_guess_128 hl (by decide) rfl (fun ls hl => ?_)
            refine lv_lload hx hb d_Wh_guess_130 (lv_at hl 1 rfl) ?_
            refine lv_lload hx hb d_Wh_guess_132 (lv_at hl 5 rfl) ?_
            refine z_ladd (x := lN l8) (y := lN (gu (wi9 - 1))) (v := lN (l8 + (gu (wi9 - 1)))) hx hb d_Wh_guess_134 (lN_add l8 (gu (wi9 - 1))) ?_
            refine lv_lstore (lv' := [(10, .long (lN (l8 + (gu (wi9 - 1))))), (8, .long (lN (t8 - 1))), (14, .int (nI i9)), (12, .long (lN (gu (wi9 - 2)))), (6, .long (lN (gg (by9 + wi9) * 2147483648 + gg (by9 + wi9 - 1)))), (4, .long (lN (gu (wi9 - 1)))), (0, .ref h0), (1, .ref hu), (2, .int (nI wi9)), (3, .int (nI by9))]) hx hb d_Wh_guess_135 hl (by decide) rfl (fun ls hl => ?_)
            refine lv_iinc (v := nI (i9 + 1)) (lv' := [(14, .int (nI (i9 + 1))), (10, .long (lN (l8 + (gu (wi9 - 1))))), (8, .long (lN (t8 - 1))), (12, .long (lN (gu (wi9 - 2)))), (6, .long (lN (gg (by9 + wi9) * 2147483648 + gg (by9 + wi9 - 1)))), (4, .long (lN (gu (wi9 - 1)))), (0, .ref h0), (1, .ref hu), (2, .int (nI wi9)), (3, .int (nI by9))]) hx hb d_Wh_guess_137 hl (k := 2) rfl (show nI i9 + Int32.ofInt 1 = nI (i9 + 1) from (nI_add i9 1).trans (congrArg nI (by omega))) (by decide) rfl (fun ls hl => ?_)
            refine lv_goto (tgt := 74) hx hb d_Wh_guess_140 (by decide) ?_
            exact ih_lp (t8 - 1) (l8 + gu (wi9 - 1)) (i9 + 1) (by omega) (by omega) (gs_dec hP0 hzP hq8 hqB hg (by omega) (by omega)).1 _ _ (S.sub [0, 1, 2, 3] (by decide) rfl) ls (lv_sub hl [2, 1, 0, 3, 4, 5, 6, 7, 8, 9] rfl)
          · refine lv_lload hx hb d_Wh_guess_98 (lv_at hl 0 rfl) ?_
            refine lv_lload hx hb d_Wh_guess_100 (lv_at hl 3 rfl) ?_
            refine z_lmul (x := lN t8) (y := lN (gu (wi9 - 2))) (v := lN (t8 * (gu (wi9 - 2)))) hx hb d_Wh_guess_102 (lN_mul t8 (gu (wi9 - 2))) ?_
            refine lv_lload hx hb d_Wh_guess_103 (lv_at hl 1 rfl) ?_
            refine lv_bipush (v := 31) hx hb d_Wh_guess_105 (by decide) ?_
            refine lv_lshl (v := lN (l8 * 2147483648)) hx hb d_Wh_guess_107 (lN_shl31 (by omega)) ?_
            refine lv_aload_n hx hb d_Wh_guess_108 rfl (lv_at hl 6 rfl) ?_
            refine r_get C K S 0 rfl rfl clOk_Wh 0 (by decide) wf_Wh_9 (v := .ref dd) rfl d_Wh_guess_109 ?_
            refine lv_iload_n hx hb d_Wh_guess_112 rfl (lv_at hl 9 rfl) ?_
            refine lv_iload_n hx hb d_Wh_guess_113 rfl (lv_at hl 8 rfl) ?_
            refine z_iadd (x := nI by9) (y := nI wi9) (v := nI (by9 + wi9)) hx hb d_Wh_guess_114 (nI_add by9 wi9) ?_
            refine lv_iconst (v := 2) hx hb d_Wh_guess_115 (by decide) ?_
            refine z_isub (x := nI (by9 + wi9)) (y := 2) (v := nI (by9 + wi9 - 2)) hx hb d_Wh_guess_116 (pk_sub (a := (by9 + wi9)) (b := 2) (by omega)) ?_
            refine r_iald C K S 1 rfl (i := nI (by9 + wi9 - 2)) (show vp_in (nI (by9 + wi9 - 2)) _ from vp_in_nI (n := (by9 + wi9 - 2)) (by omega) (by omega)) (v := nI (gg (by9 + wi9 - 2))) (by rw [nI_clamp (by omega)]) d_Wh_guess_117 ?_
            refine lv_i2l (v := lN (gg (by9 + wi9 - 2))) hx hb d_Wh_guess_118 (show (nI (gg (by9 + wi9 - 2)) : Int32).toInt64 = _ from nI_l (n := (gg (by9 + wi9 - 2))) (by omega)) ?_
            refine z_lor (v := lN (l8 * 2147483648 + gg (by9 + wi9 - 2))) hx hb d_Wh_guess_119 (lN_or31 a5 (by omega)) ?_
            refine W.lcmp hx hb d_Wh_guess_120 ?_
            refine z_lif_le (a := (t8 * (gu (wi9 - 2)))) (b := (l8 * 2147483648 + gg (by9 + wi9 - 2))) (tgt := 137) hx hb d_Wh_guess_121 (by decide) (by omega) (by omega) (fun hc5 => ?_) (fun hc5 => ?_)
            · refine lv_iinc (v := nI (i9 + 1)) (lv' := [(14, .int (nI (i9 + 1))), (8, .long (lN t8)), (10, .long (lN l8)), (12, .long (lN (gu (wi9 - 2)))), (6, .long (lN (gg (by9 + wi9) * 2147483648 + gg (by9 + wi9 - 1)))), (4, .long (lN (gu (wi9 - 1)))), (0, .ref h0), (1, .ref hu), (2, .int (nI wi9)), (3, .int (nI by9))]) hx hb d_Wh_guess_137 hl (k := 2) rfl (show nI i9 + Int32.ofInt 1 = nI (i9 + 1) from (nI_add i9 1).trans (congrArg nI (by omega))) (by decide) rfl (fun ls hl => ?_)
              refine lv_goto (tgt := 74) hx hb d_Wh_guess_140 (by decide) ?_
              exact ih_lp t8 l8 (i9 + 1) (by omega) (by omega) (gs_skip hg (by omega) (by omega)) _ _ (S.sub [0, 1, 2, 3] (by decide) rfl) ls (lv_sub hl [1, 2, 0, 3, 4, 5, 6, 7, 8, 9] rfl)
            · refine lv_lload hx hb d_Wh_guess_124 (lv_at hl 0 rfl) ?_
              refine lv_lconst (v := 1) hx hb d_Wh_guess_126 (by decide) ?_
              refine z_lsub (x := lN t8) (y := 1) (v := lN (t8 - 1)) hx hb d_Wh_guess_127 (lN_sub (a := t8) (b := 1) (gs_dec hP0 hzP hq8 hqB hg (by omega) (by omega)).2) ?_
              refine lv_lstore (lv' := [(8, .long (lN (t8 - 1))), (10, .long (lN l8)), (14, .int (nI i9)), (12, .long (lN (gu (wi9 - 2)))), (6, .long (lN (gg (by9 + wi9) * 2147483648 + gg (by9 + wi9 - 1)))), (4, .long (lN (gu (wi9 - 1)))), (0, .ref h0), (1, .ref hu), (2, .int (nI wi9)), (3, .int (nI by9))]) hx hb d_Wh_guess_128 hl (by decide) rfl (fun ls hl => ?_)
              refine lv_lload hx hb d_Wh_guess_130 (lv_at hl 1 rfl) ?_
              refine lv_lload hx hb d_Wh_guess_132 (lv_at hl 5 rfl) ?_
              refine z_ladd (x := lN l8) (y := lN (gu (wi9 - 1))) (v := lN (l8 + (gu (wi9 - 1)))) hx hb d_Wh_guess_134 (lN_add l8 (gu (wi9 - 1))) ?_
              refine lv_lstore (lv' := [(10, .long (lN (l8 + (gu (wi9 - 1))))), (8, .long (lN (t8 - 1))), (14, .int (nI i9)), (12, .long (lN (gu (wi9 - 2)))), (6, .long (lN (gg (by9 + wi9) * 2147483648 + gg (by9 + wi9 - 1)))), (4, .long (lN (gu (wi9 - 1)))), (0, .ref h0), (1, .ref hu), (2, .int (nI wi9)), (3, .int (nI by9))]) hx hb d_Wh_guess_135 hl (by decide) rfl (fun ls hl => ?_)
              refine lv_iinc (v := nI (i9 + 1)) (lv' := [(14, .int (nI (i9 + 1))), (10, .long (lN (l8 + (gu (wi9 - 1))))), (8, .long (lN (t8 - 1))), (12, .long (lN (gu (wi9 - 2)))), (6, .long (lN (gg (by9 + wi9) * 2147483648 + gg (by9 + wi9 - 1)))), (4, .long (lN (gu (wi9 - 1)))), (0, .ref h0), (1, .ref hu), (2, .int (nI wi9)), (3, .int (nI by9))]) hx hb d_Wh_guess_137 hl (k := 2) rfl (show nI i9 + Int32.ofInt 1 = nI (i9 + 1) from (nI_add i9 1).trans (congrArg nI (by omega))) (by decide) rfl (fun ls hl => ?_)
              refine lv_goto (tgt := 74) hx hb d_Wh_guess_140 (by decide) ?_
              exact ih_lp (t8 - 1) (l8 + gu (wi9 - 1)) (i9 + 1) (by omega) (by omega) (gs_dec hP0 hzP hq8 hqB hg (by omega) (by omega)).1 _ _ (S.sub [0, 1, 2, 3] (by decide) rfl) ls (lv_sub hl [2, 1, 0, 3, 4, 5, 6, 7, 8, 9] rfl)
  exact lp _ ((gg (by9 + wi9) * 2147483648 + gg (by9 + wi9 - 1)) / gu (wi9 - 1)) ((gg (by9 + wi9) * 2147483648 + gg (by9 + wi9 - 1)) % gu (wi9 - 1)) 0 (Nat.lt_succ_self _) (by omega) g0 _ _ (S.sub [0, 1, 2, 3] (by decide) rfl) ls (lv_sub hl [3, 2, 0, 1, 4, 5, 6, 7, 8, 9] rfl)
theorem d_Wh_takeOff_0 : decode c_Wh_takeOff 0 = .ok (.lconst 0, 1) := by decide +kernel
theorem d_Wh_takeOff_1 : decode c_Wh_takeOff 1 = .ok (.lstore 6, 2) := by decide +kernel
theorem d_Wh_takeOff_3 : decode c_Wh_takeOff 3 = .ok (.iconst 0, 1) := by decide +kernel
theorem d_Wh_takeOff_4 : decode c_Wh_takeOff 4 = .ok (.istore 8, 2) := by decide +kernel
theorem d_Wh_takeOff_6 : decode c_Wh_takeOff 6 = .ok (.iload 8, 2) := by decide +kernel
theorem d_Wh_takeOff_8 : decode c_Wh_takeOff 8 = .ok (.iload_n 2, 1) := by decide +kernel
theorem d_Wh_takeOff_9 : decode c_Wh_takeOff 9 = .ok (.if_icmp .ge 59, 3) := by decide +kernel
theorem d_Wh_takeOff_12 : decode c_Wh_takeOff 12 = .ok (.lload 6, 2) := by decide +kernel
theorem d_Wh_takeOff_14 : decode c_Wh_takeOff 14 = .ok (.aload_n 0, 1) := by decide +kernel
theorem d_Wh_takeOff_15 : decode c_Wh_takeOff 15 = .ok (.getfield 9, 3) := by decide +kernel
theorem d_Wh_takeOff_18 : decode c_Wh_takeOff 18 = .ok (.iload_n 3, 1) := by decide +kernel
theorem d_Wh_takeOff_19 : decode c_Wh_takeOff 19 = .ok (.iload 8, 2) := by decide +kernel
theorem d_Wh_takeOff_21 : decode c_Wh_takeOff 21 = .ok (.iadd, 1) := by decide +kernel
theorem d_Wh_takeOff_22 : decode c_Wh_takeOff 22 = .ok (.iaload, 1) := by decide +kernel
theorem d_Wh_takeOff_23 : decode c_Wh_takeOff 23 = .ok (.i2l, 1) := by decide +kernel
theorem d_Wh_takeOff_24 : decode c_Wh_takeOff 24 = .ok (.lload 4, 2) := by decide +kernel
theorem d_Wh_takeOff_26 : decode c_Wh_takeOff 26 = .ok (.aload_n 1, 1) := by decide +kernel
theorem d_Wh_takeOff_27 : decode c_Wh_takeOff 27 = .ok (.getfield 9, 3) := by decide +kernel
theorem d_Wh_takeOff_30 : decode c_Wh_takeOff 30 = .ok (.iload 8, 2) := by decide +kernel
theorem d_Wh_takeOff_32 : decode c_Wh_takeOff 32 = .ok (.iaload, 1) := by decide +kernel
theorem d_Wh_takeOff_33 : decode c_Wh_takeOff 33 = .ok (.i2l, 1) := by decide +kernel
theorem d_Wh_takeOff_34 : decode c_Wh_takeOff 34 = .ok (.lmul, 1) := by decide +kernel
theorem d_Wh_takeOff_35 : decode c_Wh_takeOff 35 = .ok (.lsub, 1) := by decide +kernel
theorem d_Wh_takeOff_36 : decode c_Wh_takeOff 36 = .ok (.ladd, 1) := by decide +kernel
theorem d_Wh_takeOff_37 : decode c_Wh_takeOff 37 = .ok (.lstore 6, 2) := by decide +kernel
theorem d_Wh_takeOff_39 : decode c_Wh_takeOff 39 = .ok (.aload_n 0, 1) := by decide +kernel
theorem d_Wh_takeOff_40 : decode c_Wh_takeOff 40 = .ok (.getfield 9, 3) := by decide +kernel
theorem d_Wh_takeOff_43 : decode c_Wh_takeOff 43 = .ok (.iload_n 3, 1) := by decide +kernel
theorem d_Wh_takeOff_44 : decode c_Wh_takeOff 44 = .ok (.iload 8, 2) := by decide +kernel
theorem d_Wh_takeOff_46 : decode c_Wh_takeOff 46 = .ok (.iadd, 1) := by decide +kernel
theorem d_Wh_takeOff_47 : decode c_Wh_takeOff 47 = .ok (.lload 6, 2) := by decide +kernel
theorem d_Wh_takeOff_49 : decode c_Wh_takeOff 49 = .ok (.ldc2_w 23, 3) := by decide +kernel
theorem d_Wh_takeOff_52 : decode c_Wh_takeOff 52 = .ok (.land, 1) := by decide +kernel
theorem d_Wh_takeOff_53 : decode c_Wh_takeOff 53 = .ok (.l2i, 1) := by decide +kernel
theorem d_Wh_takeOff_54 : decode c_Wh_takeOff 54 = .ok (.iastore, 1) := by decide +kernel
theorem d_Wh_takeOff_55 : decode c_Wh_takeOff 55 = .ok (.lload 6, 2) := by decide +kernel
theorem d_Wh_takeOff_57 : decode c_Wh_takeOff 57 = .ok (.bipush 31, 2) := by decide +kernel
theorem d_Wh_takeOff_59 : decode c_Wh_takeOff 59 = .ok (.lshr, 1) := by decide +kernel
theorem d_Wh_takeOff_60 : decode c_Wh_takeOff 60 = .ok (.lstore 6, 2) := by decide +kernel
theorem d_Wh_takeOff_62 : decode c_Wh_takeOff 62 = .ok (.iinc 8 1, 3) := by decide +kernel
theorem d_Wh_takeOff_65 : decode c_Wh_takeOff 65 = .ok (.goto (-59), 3) := by decide +kernel
theorem d_Wh_takeOff_68 : decode c_Wh_takeOff 68 = .ok (.lload 6, 2) := by decide +kernel
theorem d_Wh_takeOff_70 : decode c_Wh_takeOff 70 = .ok (.aload_n 0, 1) := by decide +kernel
theorem d_Wh_takeOff_71 : decode c_Wh_takeOff 71 = .ok (.getfield 9, 3) := by decide +kernel
theorem d_Wh_takeOff_74 : decode c_Wh_takeOff 74 = .ok (.iload_n 3, 1) := by decide +kernel
theorem d_Wh_takeOff_75 : decode c_Wh_takeOff 75 = .ok (.iload_n 2, 1) := by decide +kernel
theorem d_Wh_takeOff_76 : decode c_Wh_takeOff 76 = .ok (.iadd, 1) := by decide +kernel
theorem d_Wh_takeOff_77 : decode c_Wh_takeOff 77 = .ok (.iaload, 1) := by decide +kernel
theorem d_Wh_takeOff_78 : decode c_Wh_takeOff 78 = .ok (.i2l, 1) := by decide +kernel
theorem d_Wh_takeOff_79 : decode c_Wh_takeOff 79 = .ok (.ladd, 1) := by decide +kernel
theorem d_Wh_takeOff_80 : decode c_Wh_takeOff 80 = .ok (.lreturn, 1) := by decide +kernel
set_option maxRecDepth 100000 in
set_option maxHeartbeats 16000000 in
/-- takeOff -/
theorem g_Wh_takeOff (l : Launch) (G : va_G) (k : Nat → ClassId) (h0 : Nat) (s0 sl : Nat) (wi9 : Nat) (by9 : Nat) (tm9 : Int) (dd : Nat) (LL : Nat) (xs9 : Int32) (ys9 : Int32) (gg : Nat → Nat) (hu : Nat) (du : Nat) (Lu : Nat) (xu9 : Int32) (yu9 : Int32) (gu : Nat → Nat) (hr : raO LL gg) (hru : raO Lu gu) (hwu : wi9 ≤ Lu) (hbl : by9 + wi9 < LL) (ht1 : -1 ≤ tm9) (ht2 : tm9 ≤ 2147483648) : CG l y_Wh_takeOff c_Wh_takeOff 9 (some .long) { frames := 0, cells := 0, slots := 0, locals := 0 } [.ref h0, .ref hu, .int (nI wi9), .int (nI by9), .long (lZ tm9)] G k s0 sl [(h0, .inr (2, [.ref dd, .int xs9, .int ys9])), (dd, .inl (k 0, LL, .inl (fun i => nI (gg i)))), (hu, .inr (2, [.ref du, .int xu9, .int yu9])), (du, .inl (k 0, Lu, .inl (fun i => nI (gu i))))] (fun (u : Int × (Nat → Nat)) => some (.long (lZ (u.1 + (gg (by9 + wi9) : Int))))) (fun (u : Int × (Nat → Nat)) => (vl 2147483648 (fun i => u.2 (by9 + i)) wi9 : Int) + u.1 * (2147483648 : Int) ^ wi9 = (vl 2147483648 (fun i => gg (by9 + i)) wi9 : Int) - tm9 * (vl 2147483648 gu wi9 : Int) ∧ (∀ i, u.2 i < 2147483648) ∧ (∀ i, i < by9 ∨ by9 + wi9 ≤ i → u.2 i = gg i) ∧ -2147483649 ≤ u.1 ∧ u.1 ≤ 1) (fun (u : Int × (Nat → Nat)) => [(h0, .inr (2, [.ref dd, .int xs9, .int ys9])), (dd, .inl (k 0, LL, .inl (fun i => nI (u.2 i)))), (hu, .inr (2, [.ref du, .int xu9, .int yu9])), (du, .inl (k 0, Lu, .inl (fun i => nI (gu i))))]) (fun (u : Int × (Nat → Nat)) => 0) (fun (u : Int × (Nat → Nat)) => 0) 0 0 := by
  refine met_startG (by decide) (Nat.le_of_ble_eq_true rfl) ?_
  intro p e s m below meth c C K hA hsz S ls hl
  generalize va_A [(h0, .inr (2, [.ref dd, .int xs9, .int ys9])), (dd, .inl (k 0, LL, .inl (fun i => nI (gg i)))), (hu, .inr (2, [.ref du, .int xu9, .int yu9])), (du, .inl (k 0, Lu, .inl (fun i => nI (gu i))))] s0 = A at hA S ⊢
  have hx := C.1
  have hb := C.2.1
  have hl : lv_has ls 9 [(0, .ref h0), (1, .ref hu), (2, .int (nI wi9)), (3, .int (nI by9)), (4, .long (lZ tm9))] := hl
  have hr0 := hr
  obtain ⟨r1, r2, r3⟩ := hr0
  obtain ⟨u1, u2, u3⟩ := hru
  refine lv_lconst (v := 0) hx hb d_Wh_takeOff_0 (by decide) ?_
  refine z_topl (y := lZ 0) (by decide) ?_
  refine lv_lstore (lv' := [(6, .long (lZ 0)), (0, .ref h0), (1, .ref hu), (2, .int (nI wi9)), (3, .int (nI by9)), (4, .long (lZ tm9))]) hx hb d_Wh_takeOff_1 hl (by decide) rfl (fun ls hl => ?_)
  refine lv_iconst (v := 0) hx hb d_Wh_takeOff_3 (by decide) ?_
  refine lv_istore (lv' := [(8, .int 0), (6, .long (lZ 0)), (0, .ref h0), (1, .ref hu), (2, .int (nI wi9)), (3, .int (nI by9)), (4, .long (lZ tm9))]) hx hb d_Wh_takeOff_4 hl (by decide) rfl (fun ls hl => ?_)
  have lp : ∀ d9, ∀ (i9 : Nat), ∀ (c8 : Int), ∀ (T8 : Nat → Nat), (wi9 - i9) < d9 → (i9 ≤ wi9) → ((vl 2147483648 (fun i => T8 (by9 + i)) i9 : Int) + c8 * (2147483648 : Int) ^ i9 = (vl 2147483648 (fun i => gg (by9 + i)) i9 : Int) - tm9 * (vl 2147483648 gu i9 : Int)) → (∀ i, T8 i < 2147483648) → (∀ i, i < by9 ∨ by9 + i9 ≤ i → T8 i = gg i) → (-2147483649 ≤ c8) → (c8 ≤ 1) → ∀ (H : Heap) (locs : List Loc), Sw G A s.heap H locs [(h0, .inr (2, [.ref dd, .int xs9, .int ys9])), (dd, .inl (k 0, LL, .inl (fun i => nI (T8 i)))), (hu, .inr (2, [.ref du, .int xu9, .int yu9])), (du, .inl (k 0, Lu, .inl (fun i => nI (gu i))))] → ∀ ls : Array Slot, lv_has ls 9 [(6, .long (lZ c8)), (8, .int (nI i9)), (0, .ref h0), (1, .ref hu), (2, .int (nI wi9)), (3, .int (nI by9)), (4, .long (lZ tm9))] → W p l e { frames := 0, cells := 0, slots := 0, locals := 0 } s m [Value.ref h0, Value.ref hu, Value.int (nI wi9), Value.int (nI by9), Value.long (lZ tm9)].toArray below meth c H locs 0 0 (MQ below (va_Qg (fun (u : Int × (Nat → Nat)) => some (.long (lZ (u.1 + (gg (by9 + wi9) : Int))))) (fun (u : Int × (Nat → Nat)) => (vl 2147483648 (fun i => u.2 (by9 + i)) wi9 : Int) + u.1 * (2147483648 : Int) ^ wi9 = (vl 2147483648 (fun i => gg (by9 + i)) wi9 : Int) - tm9 * (vl 2147483648 gu wi9 : Int) ∧ (∀ i, u.2 i < 2147483648) ∧ (∀ i, i < by9 ∨ by9 + wi9 ≤ i → u.2 i = gg i) ∧ -2147483649 ≤ u.1 ∧ u.1 ≤ 1) (Pog G k A (fun (u : Int × (Nat → Nat)) => [(h0, .inr (2, [.ref dd, .int xs9, .int ys9])), (dd, .inl (k 0, LL, .inl (fun i => nI (u.2 i)))), (hu, .inr (2, [.ref du, .int xu9, .int yu9])), (du, .inl (k 0, Lu, .inl (fun i => nI (gu i))))]) s0 sl (fun (u : Int × (Nat → Nat)) => 0) (fun (u : Int × (Nat → Nat)) => 0)) A) [Value.ref h0, Value.ref hu, Value.int (nI wi9), Value.int (nI by9), Value.long (lZ tm9)].toArray s 0 0 A) (F0 m 6 ls []) := by
    intro d9
    induction d9 with
    | zero => intro i9 c8 T8 hm; exact absurd hm (Nat.not_lt_zero _)
    | succ d9 ih_lp =>
      intro i9 c8 T8 hm hi hI hD hT hb1 hb2 H locs S ls hl
      have d1 := hD (by9 + i9)
      have d2 := tm_b ht1 ht2 (u3 i9)
      have d4 := u3 i9
      have d5 := hD (by9 + wi9)
      refine lv_iload hx hb d_Wh_takeOff_6 (lv_at hl 1 rfl) ?_
      refine lv_iload_n hx hb d_Wh_takeOff_8 rfl (lv_at hl 4 rfl) ?_
      refine z_icmp_ge (a := i9) (b := wi9) (tgt := 68) hx hb d_Wh_takeOff_9 (by decide) (by omega) (by omega) (fun hc1 => ?_) (fun hc1 => ?_)
      · refine lv_lload hx hb d_Wh_takeOff_68 (lv_at hl 0 rfl) ?_
        refine lv_aload_n hx hb d_Wh_takeOff_70 rfl (lv_at hl 2 rfl) ?_
        refine r_get C K S 0 rfl rfl clOk_Wh 0 (by decide) wf_Wh_9 (v := .ref dd) rfl d_Wh_takeOff_71 ?_
        refine lv_iload_n hx hb d_Wh_takeOff_74 rfl (lv_at hl 5 rfl) ?_
        refine lv_iload_n hx hb d_Wh_takeOff_75 rfl (lv_at hl 4 rfl) ?_
        refine z_iadd (x := nI by9) (y := nI wi9) (v := nI (by9 + wi9)) hx hb d_Wh_takeOff_76 (nI_add by9 wi9) ?_
        refine r_iald C K S 1 rfl (i := nI (by9 + wi9)) (show vp_in (nI (by9 + wi9)) _ from vp_in_nI (n := (by9 + wi9)) (by omega) (by omega)) (v := nI (T8 (by9 + wi9))) (by rw [nI_clamp (by omega)]) d_Wh_takeOff_77 ?_
        refine lv_i2l (v := lN (T8 (by9 + wi9))) hx hb d_Wh_takeOff_78 (show (nI (T8 (by9 + wi9)) : Int32).toInt64 = _ from nI_l (n := (T8 (by9 + wi9))) (by omega)) ?_
        refine z_ladd (v := lZ (c8 + ((T8 (by9 + wi9) : Nat) : Int))) hx hb d_Wh_takeOff_79 (by rw [lN_lZ, lZ_add]) ?_
        have e9 : i9 = wi9 := by omega
        rw [e9] at hI hT
        exact q_lret C K hsz (c8, T8) (by rw [hT (by9 + wi9) (Or.inr (Nat.le_refl _))]) (show (vl 2147483648 (fun i => T8 (by9 + i)) wi9 : Int) + c8 * (2147483648 : Int) ^ wi9 = (vl 2147483648 (fun i => gg (by9 + i)) wi9 : Int) - tm9 * (vl 2147483648 gu wi9 : Int) ∧ (∀ i, T8 i < 2147483648) ∧ (∀ i, i < by9 ∨ by9 + wi9 ≤ i → T8 i = gg i) ∧ -2147483649 ≤ c8 ∧ c8 ≤ 1 from ⟨hI, hD, hT, hb1, hb2⟩) (S.sub [0, 1, 2, 3] (by decide) rfl) d_Wh_takeOff_80 (Nat.zero_le _) (Nat.zero_le _) (Nat.zero_le _) (Nat.zero_le _)
      · refine lv_lload hx hb d_Wh_takeOff_12 (lv_at hl 0 rfl) ?_
        refine lv_aload_n hx hb d_Wh_takeOff_14 rfl (lv_at hl 2 rfl) ?_
        refine r_get C K S 0 rfl rfl clOk_Wh 0 (by decide) wf_Wh_9 (v := .ref dd) rfl d_Wh_takeOff_15 ?_
        refine lv_iload_n hx hb d_Wh_takeOff_18 rfl (lv_at hl 5 rfl) ?_
        refine lv_iload hx hb d_Wh_takeOff_19 (lv_at hl 1 rfl) ?_
        refine z_iadd (x := nI by9) (y := nI i9) (v := nI (by9 + i9)) hx hb d_Wh_takeOff_21 (nI_add by9 i9) ?_
        refine r_iald C K S 1 rfl (i := nI (by9 + i9)) (show vp_in (nI (by9 + i9)) _ from vp_in_nI (n := (by9 + i9)) (by omega) (by omega)) (v := nI (T8 (by9 + i9))) (by rw [nI_clamp (by omega)]) d_Wh_takeOff_22 ?_
        refine lv_i2l (v := lN (T8 (by9 + i9))) hx hb d_Wh_takeOff_23 (show (nI (T8 (by9 + i9)) : Int32).toInt64 = _ from nI_l (n := (T8 (by9 + i9))) (by omega)) ?_
        refine lv_lload hx hb d_Wh_takeOff_24 (lv_at hl 6 rfl) ?_
        refine lv_aload_n hx hb d_Wh_takeOff_26 rfl (lv_at hl 3 rfl) ?_
        refine r_get C K S 2 rfl rfl clOk_Wh 0 (by decide) wf_Wh_9 (v := .ref du) rfl d_Wh_takeOff_27 ?_
        refine lv_iload hx hb d_Wh_takeOff_30 (lv_at hl 1 rfl) ?_
        refine r_iald C K S 3 rfl (i := nI i9) (show vp_in (nI i9) _ from vp_in_nI (n := i9) (by omega) (by omega)) (v := nI (gu i9)) (by rw [nI_clamp (by omega)]) d_Wh_takeOff_32 ?_
        refine lv_i2l (v := lN (gu i9)) hx hb d_Wh_takeOff_33 (show (nI (gu i9) : Int32).toInt64 = _ from nI_l (n := (gu i9)) (by omega)) ?_
        refine z_lmul (v := lZ (tm9 * ((gu i9 : Nat) : Int))) hx hb d_Wh_takeOff_34 (by rw [lN_lZ, lZ_mul]) ?_
        refine z_lsub (v := lZ (((T8 (by9 + i9) : Nat) : Int) - tm9 * ((gu i9 : Nat) : Int))) hx hb d_Wh_takeOff_35 (by rw [lN_lZ, lZ_sub]) ?_
        refine z_ladd (v := lZ (c8 + (((T8 (by9 + i9) : Nat) : Int) - tm9 * ((gu i9 : Nat) : Int)))) hx hb d_Wh_takeOff_36 (lZ_add _ _) ?_
        refine lv_lstore (lv' := [(6, .long (lZ (c8 + (((T8 (by9 + i9) : Nat) : Int) - tm9 * ((gu i9 : Nat) : Int))))), (8, .int (nI i9)), (0, .ref h0), (1, .ref hu), (2, .int (nI wi9)), (3, .int (nI by9)), (4, .long (lZ tm9))]) hx hb d_Wh_takeOff_37 hl (by decide) rfl (fun ls hl => ?_)
        refine lv_aload_n hx hb d_Wh_takeOff_39 rfl (lv_at hl 2 rfl) ?_
        refine r_get C K S 0 rfl rfl clOk_Wh 0 (by decide) wf_Wh_9 (v := .ref dd) rfl d_Wh_takeOff_40 ?_
        refine lv_iload_n hx hb d_Wh_takeOff_43 rfl (lv_at hl 5 rfl) ?_
        refine lv_iload hx hb d_Wh_takeOff_44 (lv_at hl 1 rfl) ?_
        refine z_iadd (x := nI by9) (y := nI i9) (v := nI (by9 + i9)) hx hb d_Wh_takeOff_46 (nI_add by9 i9) ?_
        refine lv_lload hx hb d_Wh_takeOff_47 (lv_at hl 0 rfl) ?_
        refine lv_ldc2 (v := 2147483647) hx hb C.2.2.2.1 (C.2.2.2.2.1 _ wk_Wh_23) d_Wh_takeOff_49 ?_
        refine z_land (v := lZ ((c8 + (((T8 (by9 + i9) : Nat) : Int) - tm9 * ((gu i9 : Nat) : Int))) % 2147483648)) hx hb d_Wh_takeOff_52 (lZ_and _) ?_
        refine lv_l2i (v := nI (((c8 + (((T8 (by9 + i9) : Nat) : Int) - tm9 * ((gu i9 : Nat) : Int))) % 2147483648).toNat)) hx hb d_Wh_takeOff_53 (lZ_i (by omega) (by omega)) ?_
        refine r_iast C K S 1 rfl (i := nI (by9 + i9)) (x := nI (((c8 + (((T8 (by9 + i9) : Nat) : Int) - tm9 * ((gu i9 : Nat) : Int))) % 2147483648).toNat)) (show vp_in (nI (by9 + i9)) _ from vp_in_nI (n := (by9 + i9)) (by omega) (by omega)) (f' := fun i => nI (va_up T8 (by9 + i9) (((c8 + (((T8 (by9 + i9) : Nat) : Int) - tm9 * ((gu i9 : Nat) : Int))) % 2147483648).toNat) i)) (ws' := [(h0, .inr (2, [.ref dd, .int xs9, .int ys9])), (dd, .inl (k 0, LL, .inl (fun i => nI (va_up T8 (by9 + i9) (((c8 + (((T8 (by9 + i9) : Nat) : Int) - tm9 * ((gu i9 : Nat) : Int))) % 2147483648).toNat) i)))), (hu, .inr (2, [.ref du, .int xu9, .int yu9])), (du, .inl (k 0, Lu, .inl (fun i => nI (gu i))))]) (show upd _ (nI (by9 + i9) : Int32).toNatClampNeg (nI (((c8 + (((T8 (by9 + i9) : Nat) : Int) - tm9 * ((gu i9 : Nat) : Int))) % 2147483648).toNat)) = _ from upd_nI T8 (j := (by9 + i9)) (by omega) (((c8 + (((T8 (by9 + i9) : Nat) : Int) - tm9 * ((gu i9 : Nat) : Int))) % 2147483648).toNat)) rfl d_Wh_takeOff_54 (fun H locs S => ?_)
        refine lv_lload hx hb d_Wh_takeOff_55 (lv_at hl 0 rfl) ?_
        refine lv_bipush (v := 31) hx hb d_Wh_takeOff_57 (by decide) ?_
        refine lv_lshr (v := lZ ((c8 + (((T8 (by9 + i9) : Nat) : Int) - tm9 * ((gu i9 : Nat) : Int))) / 2147483648)) hx hb d_Wh_takeOff_59 (lZ_shr (by omega) (by omega) d31) ?_
        refine lv_lstore (lv' := [(6, .long (lZ ((c8 + (((T8 (by9 + i9) : Nat) : Int) - tm9 * ((gu i9 : Nat) : Int))) / 2147483648))), (8, .int (nI i9)), (0, .ref h0), (1, .ref hu), (2, .int (nI wi9)), (3, .int (nI by9)), (4, .long (lZ tm9))]) hx hb d_Wh_takeOff_60 hl (by decide) rfl (fun ls hl => ?_)
        refine lv_iinc (v := nI (i9 + 1)) (lv' := [(8, .int (nI (i9 + 1))), (6, .long (lZ ((c8 + (((T8 (by9 + i9) : Nat) : Int) - tm9 * ((gu i9 : Nat) : Int))) / 2147483648))), (0, .ref h0), (1, .ref hu), (2, .int (nI wi9)), (3, .int (nI by9)), (4, .long (lZ tm9))]) hx hb d_Wh_takeOff_62 hl (k := 1) rfl (show nI i9 + Int32.ofInt 1 = nI (i9 + 1) from (nI_add i9 1).trans (congrArg nI (by omega))) (by decide) rfl (fun ls hl => ?_)
        refine lv_goto (tgt := 6) hx hb d_Wh_takeOff_65 (by decide) ?_
        exact ih_lp (i9 + 1) ((c8 + (((T8 (by9 + i9) : Nat) : Int) - tm9 * ((gu i9 : Nat) : Int))) / 2147483648) (va_up T8 (by9 + i9) (((c8 + (((T8 (by9 + i9) : Nat) : Int) - tm9 * ((gu i9 : Nat) : Int))) % 2147483648).toNat)) (by omega) (by omega) (to_step (hT _ (Or.inr (Nat.le_refl _))) hI) (up31 hD (by omega)) (fun i q => by rw [va_up_ne _ _ (by omega)]; exact hT i (by omega)) (by omega) (by omega) _ _ (S.sub [0, 1, 2, 3] (by decide) rfl) ls (lv_sub hl [1, 0, 2, 3, 4, 5, 6] rfl)
  exact lp _ 0 0 gg (Nat.lt_succ_self _) (by omega) (by simp [vl]) r3 (fun _ _ => rfl) (by omega) (by omega) _ _ (S.sub [0, 1, 2, 3] (by decide) rfl) ls (lv_sub hl [1, 0, 2, 3, 4, 5, 6] rfl)
theorem d_Wh_lowest_0 : decode c_Wh_lowest 0 = .ok (.lconst 0, 1) := by decide +kernel
theorem d_Wh_lowest_1 : decode c_Wh_lowest 1 = .ok (.lstore_n 1, 1) := by decide +kernel
theorem d_Wh_lowest_2 : decode c_Wh_lowest 2 = .ok (.iconst 0, 1) := by decide +kernel
theorem d_Wh_lowest_3 : decode c_Wh_lowest 3 = .ok (.istore_n 3, 1) := by decide +kernel
theorem d_Wh_lowest_4 : decode c_Wh_lowest 4 = .ok (.iload_n 3, 1) := by decide +kernel
theorem d_Wh_lowest_5 : decode c_Wh_lowest 5 = .ok (.aload_n 0, 1) := by decide +kernel
theorem d_Wh_lowest_6 : decode c_Wh_lowest 6 = .ok (.getfield 29, 3) := by decide +kernel
theorem d_Wh_lowest_9 : decode c_Wh_lowest 9 = .ok (.if_icmp .ge 29, 3) := by decide +kernel
theorem d_Wh_lowest_12 : decode c_Wh_lowest 12 = .ok (.iload_n 3, 1) := by decide +kernel
theorem d_Wh_lowest_13 : decode c_Wh_lowest 13 = .ok (.iconst 3, 1) := by decide +kernel
theorem d_Wh_lowest_14 : decode c_Wh_lowest 14 = .ok (.if_icmp .ge 24, 3) := by decide +kernel
theorem d_Wh_lowest_17 : decode c_Wh_lowest 17 = .ok (.lload_n 1, 1) := by decide +kernel
theorem d_Wh_lowest_18 : decode c_Wh_lowest 18 = .ok (.aload_n 0, 1) := by decide +kernel
theorem d_Wh_lowest_19 : decode c_Wh_lowest 19 = .ok (.getfield 9, 3) := by decide +kernel
theorem d_Wh_lowest_22 : decode c_Wh_lowest 22 = .ok (.iload_n 3, 1) := by decide +kernel
theorem d_Wh_lowest_23 : decode c_Wh_lowest 23 = .ok (.iaload, 1) := by decide +kernel
theorem d_Wh_lowest_24 : decode c_Wh_lowest 24 = .ok (.i2l, 1) := by decide +kernel
theorem d_Wh_lowest_25 : decode c_Wh_lowest 25 = .ok (.iload_n 3, 1) := by decide +kernel
theorem d_Wh_lowest_26 : decode c_Wh_lowest 26 = .ok (.bipush 31, 2) := by decide +kernel
theorem d_Wh_lowest_28 : decode c_Wh_lowest 28 = .ok (.imul, 1) := by decide +kernel
theorem d_Wh_lowest_29 : decode c_Wh_lowest 29 = .ok (.lshl, 1) := by decide +kernel
theorem d_Wh_lowest_30 : decode c_Wh_lowest 30 = .ok (.lor, 1) := by decide +kernel
theorem d_Wh_lowest_31 : decode c_Wh_lowest 31 = .ok (.lstore_n 1, 1) := by decide +kernel
theorem d_Wh_lowest_32 : decode c_Wh_lowest 32 = .ok (.iinc 3 1, 3) := by decide +kernel
theorem d_Wh_lowest_35 : decode c_Wh_lowest 35 = .ok (.goto (-31), 3) := by decide +kernel
theorem d_Wh_lowest_38 : decode c_Wh_lowest 38 = .ok (.aload_n 0, 1) := by decide +kernel
theorem d_Wh_lowest_39 : decode c_Wh_lowest 39 = .ok (.getfield 19, 3) := by decide +kernel
theorem d_Wh_lowest_42 : decode c_Wh_lowest 42 = .ok (.ifCond .ge 8, 3) := by decide +kernel
theorem d_Wh_lowest_45 : decode c_Wh_lowest 45 = .ok (.lload_n 1, 1) := by decide +kernel
theorem d_Wh_lowest_46 : decode c_Wh_lowest 46 = .ok (.lneg, 1) := by decide +kernel
theorem d_Wh_lowest_47 : decode c_Wh_lowest 47 = .ok (.goto 4, 3) := by decide +kernel
theorem d_Wh_lowest_50 : decode c_Wh_lowest 50 = .ok (.lload_n 1, 1) := by decide +kernel
theorem d_Wh_lowest_51 : decode c_Wh_lowest 51 = .ok (.lreturn, 1) := by decide +kernel
set_option maxRecDepth 100000 in
set_option maxHeartbeats 16000000 in
/-- lowest -/
theorem g_Wh_lowest (l : Launch) (G : va_G) (k : Nat → ClassId) (h0 : Nat) (s0 sl : Nat) (dd : Nat) (LL : Nat) (nn9 : Nat) (gg : Nat → Nat) (zz : Int) (hw : whO LL nn9 gg zz) : CG l y_Wh_lowest c_Wh_lowest 4 (some .long) { frames := 0, cells := 0, slots := 0, locals := 0 } [.ref h0] G k s0 sl [(h0, .inr (2, [.ref dd, .int (nI nn9), .int (sgI zz)])), (dd, .inl (k 0, LL, .inl (fun i => nI (gg i))))] (fun (u : Int64) => some (.long u)) (fun (u : Int64) => True) (fun (u : Int64) => [(h0, .inr (2, [.ref dd, .int (nI nn9), .int (sgI zz)])), (dd, .inl (k 0, LL, .inl (fun i => nI (gg i))))]) (fun (u : Int64) => 0) (fun (u : Int64) => 0) 0 0 := by
  refine met_startG (by decide) (Nat.le_of_ble_eq_true rfl) ?_
  intro p e s m below meth c C K hA hsz S ls hl
  generalize va_A [(h0, .inr (2, [.ref dd, .int (nI nn9), .int (sgI zz)])), (dd, .inl (k 0, LL, .inl (fun i => nI (gg i))))] s0 = A at hA S ⊢
  have hx := C.1
  have hb := C.2.1
  have hl : lv_has ls 4 [(0, .ref h0)] := hl
  have hw0 := hw
  obtain ⟨w1, w2, w3, w4, w5, w6⟩ := hw0
  refine lv_lconst (v := 0) hx hb d_Wh_lowest_0 (by decide) ?_
  refine lv_lstore_n (lv' := [(1, .long 0), (0, .ref h0)]) hx hb d_Wh_lowest_1 rfl hl (by decide) rfl (fun ls hl => ?_)
  refine lv_iconst (v := 0) hx hb d_Wh_lowest_2 (by decide) ?_
  refine lv_istore_n (lv' := [(3, .int 0), (1, .long 0), (0, .ref h0)]) hx hb d_Wh_lowest_3 rfl hl (by decide) rfl (fun ls hl => ?_)
  have lp : ∀ d9, ∀ (b8 : Int64), ∀ (i9 : Nat), (3 - i9) < d9 → (i9 ≤ 3) → ∀ (H : Heap) (locs : List Loc), Sw G A s.heap H locs [(h0, .inr (2, [.ref dd, .int (nI nn9), .int (sgI zz)])), (dd, .inl (k 0, LL, .inl (fun i => nI (gg i))))] → ∀ ls : Array Slot, lv_has ls 4 [(1, .long b8), (3, .int (nI i9)), (0, .ref h0)] → W p l e { frames := 0, cells := 0, slots := 0, locals := 0 } s m [Value.ref h0].toArray below meth c H locs 0 0 (MQ below (va_Qg (fun (u : Int64) => some (.long u)) (fun (u : Int64) => True) (Pog G k A (fun (u : Int64) => [(h0, .inr (2, [.ref dd, .int (nI nn9), .int (sgI zz)])), (dd, .inl (k 0, LL, .inl (fun i => nI (gg i))))]) s0 sl (fun (u : Int64) => 0) (fun (u : Int64) => 0)) A) [Value.ref h0].toArray s 0 0 A) (F0 m 4 ls []) := by
    intro d9
    induction d9 with
    | zero => intro b8 i9 hm; exact absurd hm (Nat.not_lt_zero _)
    | succ d9 ih_lp =>
      intro b8 i9 hm hi H locs S ls hl
      have d9 := w4 i9
      refine lv_iload_n hx hb d_Wh_lowest_4 rfl (lv_at hl 1 rfl) ?_
      refine lv_aload_n hx hb d_Wh_lowest_5 rfl (lv_at hl 2 rfl) ?_
      refine r_get C K S 0 rfl rfl clOk_Wh 1 (by decide) wf_Wh_29 (v := .int (nI nn9)) rfl d_Wh_lowest_6 ?_
      refine z_icmp_ge (a := i9) (b := nn9) (tgt := 38) hx hb d_Wh_lowest_9 (by decide) (by omega) (by omega) (fun hc1 => ?_) (fun hc1 => ?_)
      · refine lv_aload_n hx hb d_Wh_lowest_38 rfl (lv_at hl 2 rfl) ?_
        refine r_get C K S 0 rfl rfl clOk_Wh 2 (by decide) wf_Wh_19 (v := .int (sgI zz)) rfl d_Wh_lowest_39 ?_
        refine lv_if_ge (tgt := 50) hx hb d_Wh_lowest_42 (by decide) (fun hc2 => ?_) (fun hc2 => ?_)
        · refine lv_lload_n hx hb d_Wh_lowest_50 rfl (lv_at hl 0 rfl) ?_
          exact q_lret C K hsz b8 rfl trivial (S.sub [0, 1] (by decide) rfl) d_Wh_lowest_51 (Nat.zero_le _) (Nat.zero_le _) (Nat.zero_le _) (Nat.zero_le _)
        · refine lv_lload_n hx hb d_Wh_lowest_45 rfl (lv_at hl 0 rfl) ?_
          refine lv_lneg hx hb d_Wh_lowest_46 ?_
          refine lv_goto (tgt := 51) hx hb d_Wh_lowest_47 (by decide) ?_
          exact q_lret C K hsz (-b8) rfl trivial (S.sub [0, 1] (by decide) rfl) d_Wh_lowest_51 (Nat.zero_le _) (Nat.zero_le _) (Nat.zero_le _) (Nat.zero_le _)
      · refine lv_iload_n hx hb d_Wh_lowest_12 rfl (lv_at hl 1 rfl) ?_
        refine lv_iconst (v := 3) hx hb d_Wh_lowest_13 (by decide) ?_
        refine z_icmp_ge (a := i9) (b := 3) (tgt := 38) hx hb d_Wh_lowest_14 (by decide) (by omega) (by omega) (fun hc3 => ?_) (fun hc3 => ?_)
        · refine lv_aload_n hx hb d_Wh_lowest_38 rfl (lv_at hl 2 rfl) ?_
          refine r_get C K S 0 rfl rfl clOk_Wh 2 (by decide) wf_Wh_19 (v := .int (sgI zz)) rfl d_Wh_lowest_39 ?_
          refine lv_if_ge (tgt := 50) hx hb d_Wh_lowest_42 (by decide) (fun hc4 => ?_) (fun hc4 => ?_)
          · refine lv_lload_n hx hb d_Wh_lowest_50 rfl (lv_at hl 0 rfl) ?_
            exact q_lret C K hsz b8 rfl trivial (S.sub [0, 1] (by decide) rfl) d_Wh_lowest_51 (Nat.zero_le _) (Nat.zero_le _) (Nat.zero_le _) (Nat.zero_le _)
          · refine lv_lload_n hx hb d_Wh_lowest_45 rfl (lv_at hl 0 rfl) ?_
            refine lv_lneg hx hb d_Wh_lowest_46 ?_
            refine lv_goto (tgt := 51) hx hb d_Wh_lowest_47 (by decide) ?_
            exact q_lret C K hsz (-b8) rfl trivial (S.sub [0, 1] (by decide) rfl) d_Wh_lowest_51 (Nat.zero_le _) (Nat.zero_le _) (Nat.zero_le _) (Nat.zero_le _)
        · refine lv_lload_n hx hb d_Wh_lowest_17 rfl (lv_at hl 0 rfl) ?_
          refine lv_aload_n hx hb d_Wh_lowest_18 rfl (lv_at hl 2 rfl) ?_
          refine r_get C K S 0 rfl rfl clOk_Wh 0 (by decide) wf_Wh_9 (v := .ref dd) rfl d_Wh_lowest_19 ?_
          refine lv_iload_n hx hb d_Wh_lowest_22 rfl (lv_at hl 1 rfl) ?_
          refine r_iald C K S 1 rfl (i := nI i9) (show vp_in (nI i9) _ from vp_in_nI (n := i9) (by omega) (by omega)) (v := nI (gg i9)) (by rw [nI_clamp (by omega)]) d_Wh_lowest_23 ?_
          refine lv_i2l (v := lN (gg i9)) hx hb d_Wh_lowest_24 (show (nI (gg i9) : Int32).toInt64 = _ from nI_l (n := (gg i9)) (by omega)) ?_
          refine lv_iload_n hx hb d_Wh_lowest_25 rfl (lv_at hl 1 rfl) ?_
          refine lv_bipush (v := 31) hx hb d_Wh_lowest_26 (by decide) ?_
          refine z_imul (x := nI i9) (y := 31) (v := nI (i9 * 31)) hx hb d_Wh_lowest_28 (pk_mul i9 31) ?_
          refine lv_lshl (v := lN (gg i9) <<< ((nI (i9 * 31)).toInt64 &&& 63)) hx hb d_Wh_lowest_29 rfl ?_
          refine lv_lor hx hb d_Wh_lowest_30 ?_
          refine lv_lstore_n (lv' := [(1, .long (b8 ||| (lN (gg i9) <<< ((nI (i9 * 31)).toInt64 &&& 63)))), (3, .int (nI i9)), (0, .ref h0)]) hx hb d_Wh_lowest_31 rfl hl (by decide) rfl (fun ls hl => ?_)
          refine lv_iinc (v := nI (i9 + 1)) (lv' := [(3, .int (nI (i9 + 1))), (1, .long (b8 ||| (lN (gg i9) <<< ((nI (i9 * 31)).toInt64 &&& 63)))), (0, .ref h0)]) hx hb d_Wh_lowest_32 hl (k := 1) rfl (show nI i9 + Int32.ofInt 1 = nI (i9 + 1) from (nI_add i9 1).trans (congrArg nI (by omega))) (by decide) rfl (fun ls hl => ?_)
          refine lv_goto (tgt := 4) hx hb d_Wh_lowest_35 (by decide) ?_
          exact ih_lp (b8 ||| (lN (gg i9) <<< ((nI (i9 * 31)).toInt64 &&& 63))) (i9 + 1) (by omega) (by omega) _ _ (S.sub [0, 1] (by decide) rfl) ls (lv_sub hl [1, 0, 2] rfl)
  exact lp _ 0 0 (Nat.lt_succ_self _) (by omega) _ _ (S.sub [0, 1] (by decide) rfl) ls (lv_sub hl [1, 0, 2] rfl)
