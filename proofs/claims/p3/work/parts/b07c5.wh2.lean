theorem d_Wh_addAmount_0 : decode c_Wh_addAmount 0 = .ok (.aload_n 0, 1) := by decide +kernel
theorem d_Wh_addAmount_1 : decode c_Wh_addAmount 1 = .ok (.getfield 29, 3) := by decide +kernel
theorem d_Wh_addAmount_4 : decode c_Wh_addAmount 4 = .ok (.aload_n 1, 1) := by decide +kernel
theorem d_Wh_addAmount_5 : decode c_Wh_addAmount 5 = .ok (.getfield 29, 3) := by decide +kernel
theorem d_Wh_addAmount_8 : decode c_Wh_addAmount 8 = .ok (.if_icmp .le 10, 3) := by decide +kernel
theorem d_Wh_addAmount_11 : decode c_Wh_addAmount 11 = .ok (.aload_n 0, 1) := by decide +kernel
theorem d_Wh_addAmount_12 : decode c_Wh_addAmount 12 = .ok (.getfield 29, 3) := by decide +kernel
theorem d_Wh_addAmount_15 : decode c_Wh_addAmount 15 = .ok (.goto 7, 3) := by decide +kernel
theorem d_Wh_addAmount_18 : decode c_Wh_addAmount 18 = .ok (.aload_n 1, 1) := by decide +kernel
theorem d_Wh_addAmount_19 : decode c_Wh_addAmount 19 = .ok (.getfield 29, 3) := by decide +kernel
theorem d_Wh_addAmount_22 : decode c_Wh_addAmount 22 = .ok (.iconst 1, 1) := by decide +kernel
theorem d_Wh_addAmount_23 : decode c_Wh_addAmount 23 = .ok (.iadd, 1) := by decide +kernel
theorem d_Wh_addAmount_24 : decode c_Wh_addAmount 24 = .ok (.istore_n 2, 1) := by decide +kernel
theorem d_Wh_addAmount_25 : decode c_Wh_addAmount 25 = .ok (.aload_n 0, 1) := by decide +kernel
theorem d_Wh_addAmount_26 : decode c_Wh_addAmount 26 = .ok (.iload_n 2, 1) := by decide +kernel
theorem d_Wh_addAmount_27 : decode c_Wh_addAmount 27 = .ok (.invokevirtual 32, 3) := by decide +kernel
theorem d_Wh_addAmount_30 : decode c_Wh_addAmount 30 = .ok (.lconst 0, 1) := by decide +kernel
theorem d_Wh_addAmount_31 : decode c_Wh_addAmount 31 = .ok (.lstore_n 3, 1) := by decide +kernel
theorem d_Wh_addAmount_32 : decode c_Wh_addAmount 32 = .ok (.iconst 0, 1) := by decide +kernel
theorem d_Wh_addAmount_33 : decode c_Wh_addAmount 33 = .ok (.istore 5, 2) := by decide +kernel
theorem d_Wh_addAmount_35 : decode c_Wh_addAmount 35 = .ok (.iload 5, 2) := by decide +kernel
theorem d_Wh_addAmount_37 : decode c_Wh_addAmount 37 = .ok (.iload_n 2, 1) := by decide +kernel
theorem d_Wh_addAmount_38 : decode c_Wh_addAmount 38 = .ok (.if_icmp .ge 45, 3) := by decide +kernel
theorem d_Wh_addAmount_41 : decode c_Wh_addAmount 41 = .ok (.lload_n 3, 1) := by decide +kernel
theorem d_Wh_addAmount_42 : decode c_Wh_addAmount 42 = .ok (.aload_n 0, 1) := by decide +kernel
theorem d_Wh_addAmount_43 : decode c_Wh_addAmount 43 = .ok (.iload 5, 2) := by decide +kernel
theorem d_Wh_addAmount_45 : decode c_Wh_addAmount 45 = .ok (.invokevirtual 64, 3) := by decide +kernel
theorem d_Wh_addAmount_48 : decode c_Wh_addAmount 48 = .ok (.i2l, 1) := by decide +kernel
theorem d_Wh_addAmount_49 : decode c_Wh_addAmount 49 = .ok (.aload_n 1, 1) := by decide +kernel
theorem d_Wh_addAmount_50 : decode c_Wh_addAmount 50 = .ok (.iload 5, 2) := by decide +kernel
theorem d_Wh_addAmount_52 : decode c_Wh_addAmount 52 = .ok (.invokevirtual 64, 3) := by decide +kernel
theorem d_Wh_addAmount_55 : decode c_Wh_addAmount 55 = .ok (.i2l, 1) := by decide +kernel
theorem d_Wh_addAmount_56 : decode c_Wh_addAmount 56 = .ok (.ladd, 1) := by decide +kernel
theorem d_Wh_addAmount_57 : decode c_Wh_addAmount 57 = .ok (.ladd, 1) := by decide +kernel
theorem d_Wh_addAmount_58 : decode c_Wh_addAmount 58 = .ok (.lstore_n 3, 1) := by decide +kernel
theorem d_Wh_addAmount_59 : decode c_Wh_addAmount 59 = .ok (.aload_n 0, 1) := by decide +kernel
theorem d_Wh_addAmount_60 : decode c_Wh_addAmount 60 = .ok (.getfield 9, 3) := by decide +kernel
theorem d_Wh_addAmount_63 : decode c_Wh_addAmount 63 = .ok (.iload 5, 2) := by decide +kernel
theorem d_Wh_addAmount_65 : decode c_Wh_addAmount 65 = .ok (.lload_n 3, 1) := by decide +kernel
theorem d_Wh_addAmount_66 : decode c_Wh_addAmount 66 = .ok (.ldc2_w 23, 3) := by decide +kernel
theorem d_Wh_addAmount_69 : decode c_Wh_addAmount 69 = .ok (.land, 1) := by decide +kernel
theorem d_Wh_addAmount_70 : decode c_Wh_addAmount 70 = .ok (.l2i, 1) := by decide +kernel
theorem d_Wh_addAmount_71 : decode c_Wh_addAmount 71 = .ok (.iastore, 1) := by decide +kernel
theorem d_Wh_addAmount_72 : decode c_Wh_addAmount 72 = .ok (.lload_n 3, 1) := by decide +kernel
theorem d_Wh_addAmount_73 : decode c_Wh_addAmount 73 = .ok (.bipush 31, 2) := by decide +kernel
theorem d_Wh_addAmount_75 : decode c_Wh_addAmount 75 = .ok (.lshr, 1) := by decide +kernel
theorem d_Wh_addAmount_76 : decode c_Wh_addAmount 76 = .ok (.lstore_n 3, 1) := by decide +kernel
theorem d_Wh_addAmount_77 : decode c_Wh_addAmount 77 = .ok (.iinc 5 1, 3) := by decide +kernel
theorem d_Wh_addAmount_80 : decode c_Wh_addAmount 80 = .ok (.goto (-45), 3) := by decide +kernel
theorem d_Wh_addAmount_83 : decode c_Wh_addAmount 83 = .ok (.aload_n 0, 1) := by decide +kernel
theorem d_Wh_addAmount_84 : decode c_Wh_addAmount 84 = .ok (.iload_n 2, 1) := by decide +kernel
theorem d_Wh_addAmount_85 : decode c_Wh_addAmount 85 = .ok (.invokevirtual 25, 3) := by decide +kernel
theorem d_Wh_addAmount_88 : decode c_Wh_addAmount 88 = .ok (.return_, 1) := by decide +kernel
set_option maxRecDepth 100000 in
set_option maxHeartbeats 16000000 in
/-- addAmount -/
theorem g_Wh_addAmount (l : Launch) (G : va_G) (k : Nat → ClassId) (h0 : Nat) (s0 sl : Nat) (Mx : Nat) (dd : Nat) (LL : Nat) (nn9 : Nat) (gg : Nat → Nat) (zz : Int) (ho : Nat) (do9 : Nat) (Lo : Nat) (no9 : Nat) (go : Nat → Nat) (zo : Int) (hw : whO LL nn9 gg zz) (hv : whO Lo no9 go zo) (hm1 : 2 * (nn9 + 1) ≤ Mx) (hm0 : 2 * (no9 + 1) ≤ Mx) (hm2 : LL ≤ Mx) (hm3 : Mx ≤ 400) : CG l y_Wh_addAmount c_Wh_addAmount 6 none { frames := 3, cells := Mx, slots := 2 * Mx, locals := 104 } [.ref h0, .ref ho] G k s0 sl [(h0, .inr (2, [.ref dd, .int (nI nn9), .int (sgI zz)])), (dd, .inl (k 0, LL, .inl (fun i => nI (gg i)))), (ho, .inr (2, [.ref do9, .int (nI no9), .int (sgI zo)])), (do9, .inl (k 0, Lo, .inl (fun i => nI (go i))))] (fun (u : Nat × Nat × Nat × (Nat → Nat)) => none) (fun (u : Nat × Nat × Nat × (Nat → Nat)) => whO u.2.1 u.2.2.1 u.2.2.2 ((zz.natAbs + zo.natAbs : Nat) : Int) ∧ LL ≤ u.2.1 ∧ u.2.1 ≤ Mx) (fun (u : Nat × Nat × Nat × (Nat → Nat)) => [(h0, .inr (2, [.ref u.1, .int (nI u.2.2.1), .int (if u.2.2.1 = 0 then 0 else sgI zz)])), (u.1, .inl (k 0, u.2.1, .inl (fun i => nI (u.2.2.2 i)))), (ho, .inr (2, [.ref do9, .int (nI no9), .int (sgI zo)])), (do9, .inl (k 0, Lo, .inl (fun i => nI (go i))))]) (fun (u : Nat × Nat × Nat × (Nat → Nat)) => u.2.1 - LL) (fun (u : Nat × Nat × Nat × (Nat → Nat)) => 2 * (u.2.1 - LL)) Mx (2 * Mx) := by
  refine met_startG (by decide) (Nat.le_of_ble_eq_true rfl) ?_
  intro p e s m below meth c C K hA hsz S ls hl
  generalize va_A [(h0, .inr (2, [.ref dd, .int (nI nn9), .int (sgI zz)])), (dd, .inl (k 0, LL, .inl (fun i => nI (gg i)))), (ho, .inr (2, [.ref do9, .int (nI no9), .int (sgI zo)])), (do9, .inl (k 0, Lo, .inl (fun i => nI (go i))))] s0 = A at hA S ⊢
  have hx := C.1
  have hb := C.2.1
  have hl : lv_has ls 6 [(0, .ref h0), (1, .ref ho)] := hl
  have hw0 := hw
  obtain ⟨w1, w2, w3, w4, w5, w6⟩ := hw0
  have hv0 := hv
  obtain ⟨v1, v2, v3, v4, v5, v6⟩ := hv0
  have key : ∀ (mo9 : Nat), (nn9 < mo9) → (no9 < mo9) → (2 * mo9 ≤ Mx) → ∀ (H : Heap) (locs : List Loc), Sw G A s.heap H locs [(h0, .inr (2, [.ref dd, .int (nI nn9), .int (sgI zz)])), (dd, .inl (k 0, LL, .inl (fun i => nI (gg i)))), (ho, .inr (2, [.ref do9, .int (nI no9), .int (sgI zo)])), (do9, .inl (k 0, Lo, .inl (fun i => nI (go i))))] → ∀ ls : Array Slot, lv_has ls 6 [(2, .int (nI mo9)), (0, .ref h0), (1, .ref ho)] → W p l e { frames := 3, cells := Mx, slots := 2 * Mx, locals := 104 } s m [Value.ref h0, Value.ref ho].toArray below meth c H locs 0 0 (MQ below (va_Qg (fun (u : Nat × Nat × Nat × (Nat → Nat)) => none) (fun (u : Nat × Nat × Nat × (Nat → Nat)) => whO u.2.1 u.2.2.1 u.2.2.2 ((zz.natAbs + zo.natAbs : Nat) : Int) ∧ LL ≤ u.2.1 ∧ u.2.1 ≤ Mx) (Pog G k A (fun (u : Nat × Nat × Nat × (Nat → Nat)) => [(h0, .inr (2, [.ref u.1, .int (nI u.2.2.1), .int (if u.2.2.1 = 0 then 0 else sgI zz)])), (u.1, .inl (k 0, u.2.1, .inl (fun i => nI (u.2.2.2 i)))), (ho, .inr (2, [.ref do9, .int (nI no9), .int (sgI zo)])), (do9, .inl (k 0, Lo, .inl (fun i => nI (go i))))]) s0 sl (fun (u : Nat × Nat × Nat × (Nat → Nat)) => u.2.1 - LL) (fun (u : Nat × Nat × Nat × (Nat → Nat)) => 2 * (u.2.1 - LL))) A) [Value.ref h0, Value.ref ho].toArray s Mx (2 * Mx) A) (F0 m 25 ls []) := by
    intro mo9 ho1 ho2 ho3 H locs S ls hl
    refine lv_aload_n hx hb d_Wh_addAmount_25 rfl (lv_at hl 1 rfl) ?_
    refine lv_iload_n hx hb d_Wh_addAmount_26 rfl (lv_at hl 0 rfl) ?_
    refine q_back0 (wi := [(h0, .inr (2, [.ref dd, .int (nI nn9), .int (sgI zz)])), (dd, .inl (k 0, LL, .inl (fun i => nI (gg i))))]) (wr := [(ho, .inr (2, [.ref do9, .int (nI no9), .int (sgI zo)])), (do9, .inl (k 0, Lo, .inl (fun i => nI (go i))))]) S hA [0, 1] [2, 3] rfl rfl (by decide) (by decide) (va_runV (As := [.int (nI mo9)]) (rest := []) ⟨hx, hb, C.2.2.1, C.2.2.2.1, C.2.2.2.2.1⟩ (g_Wh_room l G k h0 _ _ mo9 Mx dd LL (nI nn9) (sgI zz) gg (by first | exact hr | exact wh_ra hw) (by first | assumption | omega) (by first | assumption | omega) (by first | assumption | omega)) (k_virt (n := 1) C wc_Wh_room rfl rfl wz_Wh wm_Wh_32 wn_Wh_room ws_Wh_room (by decide +kernel) ⟨(Nat.le_of_ble_eq_true rfl), (Nat.le_of_ble_eq_true rfl)⟩) (pr_nowVG K S [0, 1] (by decide) rfl 0 rfl rfl) rfl rfl hl.1 rfl (lv_room (Nat.le_of_ble_eq_true rfl)) d_Wh_addAmount_27 ⟨(show 0 + Mx ≤ Mx from by omega), (show 0 + (2 * Mx) ≤ 2 * Mx from by omega)⟩) (fun w8 H locs hw1 S => ?_)
    have S : Sw G A s.heap _ _ [(ho, .inr (2, [.ref do9, .int (nI no9), .int (sgI zo)])), (do9, .inl (k 0, Lo, .inl (fun i => nI (go i)))), (h0, .inr (2, [.ref w8.1, .int (nI nn9), .int (sgI zz)])), (w8.1, .inl (k 0, w8.2.1, .inl (fun i => nI (w8.2.2 i))))] := S
    have hw1 : raO w8.2.1 w8.2.2 ∧ LL ≤ w8.2.1 ∧ mo9 ≤ w8.2.1 ∧ w8.2.1 ≤ Mx ∧ ∀ i, i < LL → w8.2.2 i = gg i := hw1
    show W p l e _ s m _ below meth c H locs _ _ _ (F0 m 30 ls [])
    obtain ⟨⟨s1, s2, s3⟩, s4, s5, s6, s7⟩ := hw1
    refine lv_lconst (v := 0) hx hb d_Wh_addAmount_30 (by decide) ?_
    refine lv_lstore_n (lv' := [(3, .long 0), (2, .int (nI mo9)), (0, .ref h0), (1, .ref ho)]) hx hb d_Wh_addAmount_31 rfl hl (by decide) rfl (fun ls hl => ?_)
    refine lv_iconst (v := 0) hx hb d_Wh_addAmount_32 (by decide) ?_
    refine lv_istore (lv' := [(5, .int 0), (3, .long 0), (2, .int (nI mo9)), (0, .ref h0), (1, .ref ho)]) hx hb d_Wh_addAmount_33 hl (by decide) rfl (fun ls hl => ?_)
    have lp : ∀ d9, ∀ (i9 : Nat), ∀ (c8 : Nat), ∀ (T8 : Nat → Nat), (mo9 - i9) < d9 → (i9 ≤ mo9) → (vl 2147483648 T8 i9 + c8 * 2147483648 ^ i9 = vl 2147483648 (dgN nn9 gg) i9 + vl 2147483648 (dgN no9 go) i9) → (c8 ≤ 1) → (∀ i, T8 i < 2147483648) → (∀ i, i9 ≤ i → i < LL → T8 i = gg i) → ∀ (H : Heap) (locs : List Loc), Sw G A s.heap H locs [(h0, .inr (2, [.ref w8.1, .int (nI nn9), .int (sgI zz)])), (w8.1, .inl (k 0, w8.2.1, .inl (fun i => nI (T8 i)))), (ho, .inr (2, [.ref do9, .int (nI no9), .int (sgI zo)])), (do9, .inl (k 0, Lo, .inl (fun i => nI (go i))))] → ∀ ls : Array Slot, lv_has ls 6 [(3, .long (lN c8)), (5, .int (nI i9)), (2, .int (nI mo9)), (0, .ref h0), (1, .ref ho)] → W p l e { frames := 3, cells := Mx, slots := 2 * Mx, locals := 104 } s m [Value.ref h0, Value.ref ho].toArray below meth c H locs (0 + (w8.2.1 - LL)) (0 + (2 * (w8.2.1 - LL))) (MQ below (va_Qg (fun (u : Nat × Nat × Nat × (Nat → Nat)) => none) (fun (u : Nat × Nat × Nat × (Nat → Nat)) => whO u.2.1 u.2.2.1 u.2.2.2 ((zz.natAbs + zo.natAbs : Nat) : Int) ∧ LL ≤ u.2.1 ∧ u.2.1 ≤ Mx) (Pog G k A (fun (u : Nat × Nat × Nat × (Nat → Nat)) => [(h0, .inr (2, [.ref u.1, .int (nI u.2.2.1), .int (if u.2.2.1 = 0 then 0 else sgI zz)])), (u.1, .inl (k 0, u.2.1, .inl (fun i => nI (u.2.2.2 i)))), (ho, .inr (2, [.ref do9, .int (nI no9), .int (sgI zo)])), (do9, .inl (k 0, Lo, .inl (fun i => nI (go i))))]) s0 sl (fun (u : Nat × Nat × Nat × (Nat → Nat)) => u.2.1 - LL) (fun (u : Nat × Nat × Nat × (Nat → Nat)) => 2 * (u.2.1 - LL))) A) [Value.ref h0, Value.ref ho].toArray s Mx (2 * Mx) A) (F0 m 35 ls []) := by
      intro d9
      induction d9 with
      | zero => intro i9 c8 T8 hm; exact absurd hm (Nat.not_lt_zero _)
      | succ d9 ih_lp =>
        intro i9 c8 T8 hm hi hI hc8 hD hT H locs S ls hl
        have e1 := dg_lt (n := nn9) w4 i9
        have e2 := dg_lt (n := no9) v4 i9
        refine lv_iload hx hb d_Wh_addAmount_35 (lv_at hl 1 rfl) ?_
        refine lv_iload_n hx hb d_Wh_addAmount_37 rfl (lv_at hl 2 rfl) ?_
        refine z_icmp_ge (a := i9) (b := mo9) (tgt := 83) hx hb d_Wh_addAmount_38 (by decide) (by omega) (by omega) (fun hc2 => ?_) (fun hc2 => ?_)
        · refine lv_aload_n hx hb d_Wh_addAmount_83 rfl (lv_at hl 3 rfl) ?_
          refine lv_iload_n hx hb d_Wh_addAmount_84 rfl (lv_at hl 2 rfl) ?_
          obtain rfl : i9 = mo9 := by omega
          rw [dg_vl (by omega), dg_vl (by omega), w6, v6] at hI
          obtain ⟨-, e5⟩ := add_end hI (wh_lt hw) (wh_lt hv) (by omega) (by omega)
          refine q_back0 (wi := [(h0, .inr (2, [.ref w8.1, .int (nI nn9), .int (sgI zz)])), (w8.1, .inl (k 0, w8.2.1, .inl (fun i => nI (T8 i))))]) (wr := [(ho, .inr (2, [.ref do9, .int (nI no9), .int (sgI zo)])), (do9, .inl (k 0, Lo, .inl (fun i => nI (go i))))]) S hA [0, 1] [2, 3] rfl rfl (by decide) (by decide) (va_runV (As := [.int (nI i9)]) (rest := []) ⟨hx, hb, C.2.2.1, C.2.2.2.1, C.2.2.2.2.1⟩ (g_Wh_trim l G k h0 _ _ i9 w8.1 w8.2.1 (nI nn9) (sgI zz) T8 ⟨s1, s2, hD⟩ (by omega)) (k_virt (n := 1) C wc_Wh_trim rfl rfl wz_Wh wm_Wh_25 wn_Wh_trim ws_Wh_trim (by decide +kernel) ⟨(Nat.le_of_ble_eq_true rfl), (Nat.le_of_ble_eq_true rfl)⟩) (pr_nowVG K S [0, 1] (by decide) rfl 0 rfl rfl) rfl rfl hl.1 rfl (lv_room (Nat.le_of_ble_eq_true rfl)) d_Wh_addAmount_85 ⟨(show 0 + (w8.2.1 - LL) ≤ Mx from by omega), (show 0 + (2 * (w8.2.1 - LL)) ≤ 2 * Mx from by omega)⟩) (fun n7 H locs hw3 S => ?_)
          have S : Sw G A s.heap _ _ [(ho, .inr (2, [.ref do9, .int (nI no9), .int (sgI zo)])), (do9, .inl (k 0, Lo, .inl (fun i => nI (go i)))), (h0, .inr (2, [.ref w8.1, .int (nI n7), .int (if n7 = 0 then 0 else (sgI zz))])), (w8.1, .inl (k 0, w8.2.1, .inl (fun i => nI (T8 i))))] := S
          have hw3 : n7 ≤ i9 ∧ (n7 = 0 ∨ T8 (n7 - 1) ≠ 0) ∧ vl 2147483648 T8 n7 = vl 2147483648 T8 i9 := hw3
          show W p l e _ s m _ below meth c H locs _ _ _ (F0 m 88 ls [])
          obtain ⟨t1, t2, t3⟩ := hw3
          exact q_vret C K hsz (w8.1, w8.2.1, n7, T8) (show whO w8.2.1 n7 T8 ((zz.natAbs + zo.natAbs : Nat) : Int) ∧ LL ≤ w8.2.1 ∧ w8.2.1 ≤ Mx from ⟨wh_of (by omega) ⟨s1, s2, hD⟩ t2 t3 (by rw [Int.natAbs_natCast, e5]), s4, s6⟩) (S.sub [2, 3, 0, 1] (by decide) rfl) d_Wh_addAmount_88 (show 0 + (w8.2.1 - LL) ≤ w8.2.1 - LL from by omega) (show 0 + (2 * (w8.2.1 - LL)) ≤ 2 * (w8.2.1 - LL) from by omega) (show 0 + (w8.2.1 - LL) ≤ Mx from by omega) (show 0 + (2 * (w8.2.1 - LL)) ≤ 2 * Mx from by omega)
        · refine lv_lload_n hx hb d_Wh_addAmount_41 rfl (lv_at hl 0 rfl) ?_
          refine lv_aload_n hx hb d_Wh_addAmount_42 rfl (lv_at hl 3 rfl) ?_
          refine lv_iload hx hb d_Wh_addAmount_43 (lv_at hl 1 rfl) ?_
          refine q_back0 (wi := [(h0, .inr (2, [.ref w8.1, .int (nI nn9), .int (sgI zz)])), (w8.1, .inl (k 0, w8.2.1, .inl (fun i => nI (T8 i))))]) (wr := [(ho, .inr (2, [.ref do9, .int (nI no9), .int (sgI zo)])), (do9, .inl (k 0, Lo, .inl (fun i => nI (go i))))]) S hA [0, 1] [2, 3] rfl rfl (by decide) (by decide) (va_runV (As := [.int (nI i9)]) (rest := [.long (lN c8)]) ⟨hx, hb, C.2.2.1, C.2.2.2.1, C.2.2.2.2.1⟩ (g_Wh_digit l G k h0 _ _ i9 w8.1 w8.2.1 nn9 (sgI zz) T8 ⟨s1, s2, hD⟩ (by omega) (by omega)) (k_virt (n := 1) C wc_Wh_digit rfl rfl wz_Wh wm_Wh_64 wn_Wh_digit ws_Wh_digit (by decide +kernel) ⟨(Nat.le_of_ble_eq_true rfl), (Nat.le_of_ble_eq_true rfl)⟩) (pr_nowVG K S [0, 1] (by decide) rfl 0 rfl rfl) rfl rfl hl.1 rfl (lv_room (Nat.le_of_ble_eq_true rfl)) d_Wh_addAmount_45 ⟨(show 0 + (w8.2.1 - LL) ≤ Mx from by omega), (show 0 + (2 * (w8.2.1 - LL)) ≤ 2 * Mx from by omega)⟩) (fun u4 H locs hw5 S => ?_)
          have S : Sw G A s.heap _ _ [(ho, .inr (2, [.ref do9, .int (nI no9), .int (sgI zo)])), (do9, .inl (k 0, Lo, .inl (fun i => nI (go i)))), (h0, .inr (2, [.ref w8.1, .int (nI nn9), .int (sgI zz)])), (w8.1, .inl (k 0, w8.2.1, .inl (fun i => nI (T8 i))))] := S
          have hw5 : True := hw5
          show W p l e _ s m _ below meth c H locs _ _ _ (F0 m 48 ls [.int (nI (dgN nn9 T8 i9)), .long (lN c8)])
          rw [dg_eq2 (n := nn9) (g2 := gg) (fun q9 => hT i9 (Nat.le_refl _) (by omega))]
          refine lv_i2l (v := lN (dgN nn9 gg i9)) hx hb d_Wh_addAmount_48 (show (nI (dgN nn9 gg i9) : Int32).toInt64 = _ from nI_l (n := (dgN nn9 gg i9)) (by omega)) ?_
          refine lv_aload_n hx hb d_Wh_addAmount_49 rfl (lv_at hl 4 rfl) ?_
          refine lv_iload hx hb d_Wh_addAmount_50 (lv_at hl 1 rfl) ?_
          refine q_back0 (wi := [(ho, .inr (2, [.ref do9, .int (nI no9), .int (sgI zo)])), (do9, .inl (k 0, Lo, .inl (fun i => nI (go i))))]) (wr := [(h0, .inr (2, [.ref w8.1, .int (nI nn9), .int (sgI zz)])), (w8.1, .inl (k 0, w8.2.1, .inl (fun i => nI (T8 i))))]) S hA [0, 1] [2, 3] rfl rfl (by decide) (by decide) (va_runV (As := [.int (nI i9)]) (rest := [.long (lN (dgN nn9 gg i9)), .long (lN c8)]) ⟨hx, hb, C.2.2.1, C.2.2.2.1, C.2.2.2.2.1⟩ (g_Wh_digit l G k ho _ _ i9 do9 Lo no9 (sgI zo) go (wh_ra hv) (by omega) (by omega)) (k_virt (n := 1) C wc_Wh_digit rfl rfl wz_Wh wm_Wh_64 wn_Wh_digit ws_Wh_digit (by decide +kernel) ⟨(Nat.le_of_ble_eq_true rfl), (Nat.le_of_ble_eq_true rfl)⟩) (pr_nowVG K S [0, 1] (by decide) rfl 0 rfl rfl) rfl rfl hl.1 rfl (lv_room (Nat.le_of_ble_eq_true rfl)) d_Wh_addAmount_52 ⟨(show 0 + (w8.2.1 - LL) ≤ Mx from by omega), (show 0 + (2 * (w8.2.1 - LL)) ≤ 2 * Mx from by omega)⟩) (fun u6 H locs hw7 S => ?_)
          have S : Sw G A s.heap _ _ [(h0, .inr (2, [.ref w8.1, .int (nI nn9), .int (sgI zz)])), (w8.1, .inl (k 0, w8.2.1, .inl (fun i => nI (T8 i)))), (ho, .inr (2, [.ref do9, .int (nI no9), .int (sgI zo)])), (do9, .inl (k 0, Lo, .inl (fun i => nI (go i))))] := S
          have hw7 : True := hw7
          show W p l e _ s m _ below meth c H locs _ _ _ (F0 m 55 ls [.int (nI (dgN no9 go i9)), .long (lN (dgN nn9 gg i9)), .long (lN c8)])
          refine lv_i2l (v := lN (dgN no9 go i9)) hx hb d_Wh_addAmount_55 (show (nI (dgN no9 go i9) : Int32).toInt64 = _ from nI_l (n := (dgN no9 go i9)) (by omega)) ?_
          refine z_ladd (x := lN (dgN nn9 gg i9)) (y := lN (dgN no9 go i9)) (v := lN (dgN nn9 gg i9 + dgN no9 go i9)) hx hb d_Wh_addAmount_56 (lN_add (dgN nn9 gg i9) (dgN no9 go i9)) ?_
          refine z_ladd (x := lN c8) (y := lN (dgN nn9 gg i9 + dgN no9 go i9)) (v := lN (c8 + (dgN nn9 gg i9 + dgN no9 go i9))) hx hb d_Wh_addAmount_57 (lN_add c8 (dgN nn9 gg i9 + dgN no9 go i9)) ?_
          refine lv_lstore_n (lv' := [(3, .long (lN (c8 + (dgN nn9 gg i9 + dgN no9 go i9)))), (5, .int (nI i9)), (2, .int (nI mo9)), (0, .ref h0), (1, .ref ho)]) hx hb d_Wh_addAmount_58 rfl hl (by decide) rfl (fun ls hl => ?_)
          refine lv_aload_n hx hb d_Wh_addAmount_59 rfl (lv_at hl 3 rfl) ?_
          refine r_get C K S 0 rfl rfl clOk_Wh 0 (by decide) wf_Wh_9 (v := .ref w8.1) rfl d_Wh_addAmount_60 ?_
          refine lv_iload hx hb d_Wh_addAmount_63 (lv_at hl 1 rfl) ?_
          refine lv_lload_n hx hb d_Wh_addAmount_65 rfl (lv_at hl 0 rfl) ?_
          refine lv_ldc2 (v := 2147483647) hx hb C.2.2.2.1 (C.2.2.2.2.1 _ wk_Wh_23) d_Wh_addAmount_66 ?_
          refine z_land (v := lN ((c8 + (dgN nn9 gg i9 + dgN no9 go i9)) % 2147483648)) hx hb d_Wh_addAmount_69 (lN_and31 (by omega)) ?_
          refine lv_l2i (v := nI ((c8 + (dgN nn9 gg i9 + dgN no9 go i9)) % 2147483648)) hx hb d_Wh_addAmount_70 (lN_i ((c8 + (dgN nn9 gg i9 + dgN no9 go i9)) % 2147483648)) ?_
          refine r_iast C K S 1 rfl (i := nI i9) (x := nI ((c8 + (dgN nn9 gg i9 + dgN no9 go i9)) % 2147483648)) (show vp_in (nI i9) _ from vp_in_nI (n := i9) (by omega) (by omega)) (f' := fun i => nI (va_up T8 i9 ((c8 + (dgN nn9 gg i9 + dgN no9 go i9)) % 2147483648) i)) (ws' := [(h0, .inr (2, [.ref w8.1, .int (nI nn9), .int (sgI zz)])), (w8.1, .inl (k 0, w8.2.1, .inl (fun i => nI (va_up T8 i9 ((c8 + (dgN nn9 gg i9 + dgN no9 go i9)) % 2147483648) i)))), (ho, .inr (2, [.ref do9, .int (nI no9), .int (sgI zo)])), (do9, .inl (k 0, Lo, .inl (fun i => nI (go i))))]) (show upd _ (nI i9 : Int32).toNatClampNeg (nI ((c8 + (dgN nn9 gg i9 + dgN no9 go i9)) % 2147483648)) = _ from upd_nI T8 (j := i9) (by omega) ((c8 + (dgN nn9 gg i9 + dgN no9 go i9)) % 2147483648)) rfl d_Wh_addAmount_71 (fun H locs S => ?_)
          refine lv_lload_n hx hb d_Wh_addAmount_72 rfl (lv_at hl 0 rfl) ?_
          refine lv_bipush (v := 31) hx hb d_Wh_addAmount_73 (by decide) ?_
          refine lv_lshr (v := lN ((c8 + (dgN nn9 gg i9 + dgN no9 go i9)) / 2147483648)) hx hb d_Wh_addAmount_75 (lN_shr31 (by omega)) ?_
          refine lv_lstore_n (lv' := [(3, .long (lN ((c8 + (dgN nn9 gg i9 + dgN no9 go i9)) / 2147483648))), (5, .int (nI i9)), (2, .int (nI mo9)), (0, .ref h0), (1, .ref ho)]) hx hb d_Wh_addAmount_76 rfl hl (by decide) rfl (fun ls hl => ?_)
          refine lv_iinc (v := nI (i9 + 1)) (lv' := [(5, .int (nI (i9 + 1))), (3, .long (lN ((c8 + (dgN nn9 gg i9 + dgN no9 go i9)) / 2147483648))), (2, .int (nI mo9)), (0, .ref h0), (1, .ref ho)]) hx hb d_Wh_addAmount_77 hl (k := 1) rfl (show nI i9 + Int32.ofInt 1 = nI (i9 + 1) from (nI_add i9 1).trans (congrArg nI (by omega))) (by decide) rfl (fun ls hl => ?_)
          refine lv_goto (tgt := 35) hx hb d_Wh_addAmount_80 (by decide) ?_
          exact ih_lp (i9 + 1) ((c8 + (dgN nn9 gg i9 + dgN no9 go i9)) / 2147483648) (va_up T8 i9 ((c8 + (dgN nn9 gg i9 + dgN no9 go i9)) % 2147483648)) (by omega) (by omega) (add_step hI) (by omega) (up31 hD (by omega)) (fun i q1 q2 => by rw [va_up_ne _ _ (by omega)]; exact hT i (by omega) q2) _ _ (S.sub [0, 1, 2, 3] (by decide) rfl) ls (lv_sub hl [1, 0, 2, 3, 4] rfl)
    exact lp _ 0 0 w8.2.2 (Nat.lt_succ_self _) (by omega) rfl (by omega) s3 (fun i _ q => s7 i q) _ _ (S.sub [2, 3, 0, 1] (by decide) rfl) ls (lv_sub hl [1, 0, 2, 3, 4] rfl)
  refine lv_aload_n hx hb d_Wh_addAmount_0 rfl (lv_at hl 0 rfl) ?_
  refine r_get C K S 0 rfl rfl clOk_Wh 1 (by decide) wf_Wh_29 (v := .int (nI nn9)) rfl d_Wh_addAmount_1 ?_
  refine lv_aload_n hx hb d_Wh_addAmount_4 rfl (lv_at hl 1 rfl) ?_
  refine r_get C K S 2 rfl rfl clOk_Wh 1 (by decide) wf_Wh_29 (v := .int (nI no9)) rfl d_Wh_addAmount_5 ?_
  refine z_icmp_le (a := nn9) (b := no9) (tgt := 18) hx hb d_Wh_addAmount_8 (by decide) (by omega) (by omega) (fun hc8 => ?_) (fun hc8 => ?_)
  · refine lv_aload_n hx hb d_Wh_addAmount_18 rfl (lv_at hl 1 rfl) ?_
    refine r_get C K S 2 rfl rfl clOk_Wh 1 (by decide) wf_Wh_29 (v := .int (nI no9)) rfl d_Wh_addAmount_19 ?_
    refine lv_iconst (v := 1) hx hb d_Wh_addAmount_22 (by decide) ?_
    refine z_iadd (x := nI no9) (y := 1) (v := nI (no9 + 1)) hx hb d_Wh_addAmount_23 (nI_add no9 1) ?_
    refine lv_istore_n (lv' := [(2, .int (nI (no9 + 1))), (0, .ref h0), (1, .ref ho)]) hx hb d_Wh_addAmount_24 rfl hl (by decide) rfl (fun ls hl => ?_)
    exact key (no9 + 1) (by omega) (by omega) (by omega) _ _ (S.sub [0, 1, 2, 3] (by decide) rfl) ls (lv_sub hl [0, 1, 2] rfl)
  · refine lv_aload_n hx hb d_Wh_addAmount_11 rfl (lv_at hl 0 rfl) ?_
    refine r_get C K S 0 rfl rfl clOk_Wh 1 (by decide) wf_Wh_29 (v := .int (nI nn9)) rfl d_Wh_addAmount_12 ?_
    refine lv_goto (tgt := 22) hx hb d_Wh_addAmount_15 (by decide) ?_
    refine lv_iconst (v := 1) hx hb d_Wh_addAmount_22 (by decide) ?_
    refine z_iadd (x := nI nn9) (y := 1) (v := nI (nn9 + 1)) hx hb d_Wh_addAmount_23 (nI_add nn9 1) ?_
    refine lv_istore_n (lv' := [(2, .int (nI (nn9 + 1))), (0, .ref h0), (1, .ref ho)]) hx hb d_Wh_addAmount_24 rfl hl (by decide) rfl (fun ls hl => ?_)
    exact key (nn9 + 1) (by omega) (by omega) (by omega) _ _ (S.sub [0, 1, 2, 3] (by decide) rfl) ls (lv_sub hl [0, 1, 2] rfl)
theorem ca_le {L L2 n n2 : Nat} {g g2 : Nat → Nat} {z z2 : Int} (h : whO L n g z) (h2 : whO L2 n2 g2 z2) (hle : z.natAbs ≤ z2.natAbs) : n ≤ n2 := wh_size h (Nat.lt_of_le_of_lt hle (wh_lt h2))
theorem d_Wh_differ_0 : decode c_Wh_differ 0 = .ok (.aload_n 1, 1) := by decide +kernel
theorem d_Wh_differ_1 : decode c_Wh_differ 1 = .ok (.getfield 29, 3) := by decide +kernel
theorem d_Wh_differ_4 : decode c_Wh_differ 4 = .ok (.istore_n 3, 1) := by decide +kernel
theorem d_Wh_differ_5 : decode c_Wh_differ 5 = .ok (.aload_n 0, 1) := by decide +kernel
theorem d_Wh_differ_6 : decode c_Wh_differ 6 = .ok (.iload_n 3, 1) := by decide +kernel
theorem d_Wh_differ_7 : decode c_Wh_differ 7 = .ok (.invokevirtual 32, 3) := by decide +kernel
theorem d_Wh_differ_10 : decode c_Wh_differ 10 = .ok (.lconst 0, 1) := by decide +kernel
theorem d_Wh_differ_11 : decode c_Wh_differ 11 = .ok (.lstore 4, 2) := by decide +kernel
theorem d_Wh_differ_13 : decode c_Wh_differ 13 = .ok (.iconst 0, 1) := by decide +kernel
theorem d_Wh_differ_14 : decode c_Wh_differ 14 = .ok (.istore 6, 2) := by decide +kernel
theorem d_Wh_differ_16 : decode c_Wh_differ 16 = .ok (.iload 6, 2) := by decide +kernel
theorem d_Wh_differ_18 : decode c_Wh_differ 18 = .ok (.iload_n 3, 1) := by decide +kernel
theorem d_Wh_differ_19 : decode c_Wh_differ 19 = .ok (.if_icmp .ge 50, 3) := by decide +kernel
theorem d_Wh_differ_22 : decode c_Wh_differ 22 = .ok (.lload 4, 2) := by decide +kernel
theorem d_Wh_differ_24 : decode c_Wh_differ 24 = .ok (.aload_n 1, 1) := by decide +kernel
theorem d_Wh_differ_25 : decode c_Wh_differ 25 = .ok (.iload 6, 2) := by decide +kernel
theorem d_Wh_differ_27 : decode c_Wh_differ 27 = .ok (.invokevirtual 64, 3) := by decide +kernel
theorem d_Wh_differ_30 : decode c_Wh_differ 30 = .ok (.i2l, 1) := by decide +kernel
theorem d_Wh_differ_31 : decode c_Wh_differ 31 = .ok (.aload_n 2, 1) := by decide +kernel
theorem d_Wh_differ_32 : decode c_Wh_differ 32 = .ok (.iload 6, 2) := by decide +kernel
theorem d_Wh_differ_34 : decode c_Wh_differ 34 = .ok (.invokevirtual 64, 3) := by decide +kernel
theorem d_Wh_differ_37 : decode c_Wh_differ 37 = .ok (.i2l, 1) := by decide +kernel
theorem d_Wh_differ_38 : decode c_Wh_differ 38 = .ok (.lsub, 1) := by decide +kernel
theorem d_Wh_differ_39 : decode c_Wh_differ 39 = .ok (.ladd, 1) := by decide +kernel
theorem d_Wh_differ_40 : decode c_Wh_differ 40 = .ok (.lstore 4, 2) := by decide +kernel
theorem d_Wh_differ_42 : decode c_Wh_differ 42 = .ok (.aload_n 0, 1) := by decide +kernel
theorem d_Wh_differ_43 : decode c_Wh_differ 43 = .ok (.getfield 9, 3) := by decide +kernel
theorem d_Wh_differ_46 : decode c_Wh_differ 46 = .ok (.iload 6, 2) := by decide +kernel
theorem d_Wh_differ_48 : decode c_Wh_differ 48 = .ok (.lload 4, 2) := by decide +kernel
theorem d_Wh_differ_50 : decode c_Wh_differ 50 = .ok (.ldc2_w 23, 3) := by decide +kernel
theorem d_Wh_differ_53 : decode c_Wh_differ 53 = .ok (.land, 1) := by decide +kernel
theorem d_Wh_differ_54 : decode c_Wh_differ 54 = .ok (.l2i, 1) := by decide +kernel
theorem d_Wh_differ_55 : decode c_Wh_differ 55 = .ok (.iastore, 1) := by decide +kernel
theorem d_Wh_differ_56 : decode c_Wh_differ 56 = .ok (.lload 4, 2) := by decide +kernel
theorem d_Wh_differ_58 : decode c_Wh_differ 58 = .ok (.bipush 31, 2) := by decide +kernel
theorem d_Wh_differ_60 : decode c_Wh_differ 60 = .ok (.lshr, 1) := by decide +kernel
theorem d_Wh_differ_61 : decode c_Wh_differ 61 = .ok (.lstore 4, 2) := by decide +kernel
theorem d_Wh_differ_63 : decode c_Wh_differ 63 = .ok (.iinc 6 1, 3) := by decide +kernel
theorem d_Wh_differ_66 : decode c_Wh_differ 66 = .ok (.goto (-50), 3) := by decide +kernel
theorem d_Wh_differ_69 : decode c_Wh_differ 69 = .ok (.aload_n 0, 1) := by decide +kernel
theorem d_Wh_differ_70 : decode c_Wh_differ 70 = .ok (.iload_n 3, 1) := by decide +kernel
theorem d_Wh_differ_71 : decode c_Wh_differ 71 = .ok (.invokevirtual 25, 3) := by decide +kernel
theorem d_Wh_differ_74 : decode c_Wh_differ 74 = .ok (.return_, 1) := by decide +kernel
set_option maxRecDepth 100000 in
set_option maxHeartbeats 16000000 in
/-- differ -/
theorem g_Wh_differ_a (l : Launch) (G : va_G) (k : Nat → ClassId) (h0 : Nat) (s0 sl : Nat) (Mx : Nat) (dd : Nat) (LL : Nat) (nn9 : Nat) (gg : Nat → Nat) (zz : Int) (ho : Nat) (do9 : Nat) (Lo : Nat) (no9 : Nat) (go : Nat → Nat) (zo : Int) (hw : whO LL nn9 gg zz) (hv : whO Lo no9 go zo) (hle : zo.natAbs ≤ zz.natAbs) (hm1 : 2 * nn9 ≤ Mx) (hm2 : LL ≤ Mx) (hm3 : Mx ≤ 400) : CG l y_Wh_differ c_Wh_differ 7 none { frames := 3, cells := Mx, slots := 2 * Mx, locals := 104 } [.ref h0, .ref h0, .ref ho] G k s0 sl [(h0, .inr (2, [.ref dd, .int (nI nn9), .int (sgI zz)])), (dd, .inl (k 0, LL, .inl (fun i => nI (gg i)))), (ho, .inr (2, [.ref do9, .int (nI no9), .int (sgI zo)])), (do9, .inl (k 0, Lo, .inl (fun i => nI (go i))))] (fun (u : Nat × Nat × Nat × (Nat → Nat)) => none) (fun (u : Nat × Nat × Nat × (Nat → Nat)) => whO u.2.1 u.2.2.1 u.2.2.2 ((zz.natAbs - zo.natAbs : Nat) : Int) ∧ LL ≤ u.2.1 ∧ u.2.1 ≤ Mx) (fun (u : Nat × Nat × Nat × (Nat → Nat)) => [(h0, .inr (2, [.ref u.1, .int (nI u.2.2.1), .int (if u.2.2.1 = 0 then 0 else sgI zz)])), (u.1, .inl (k 0, u.2.1, .inl (fun i => nI (u.2.2.2 i)))), (ho, .inr (2, [.ref do9, .int (nI no9), .int (sgI zo)])), (do9, .inl (k 0, Lo, .inl (fun i => nI (go i))))]) (fun (u : Nat × Nat × Nat × (Nat → Nat)) => u.2.1 - LL) (fun (u : Nat × Nat × Nat × (Nat → Nat)) => 2 * (u.2.1 - LL)) Mx (2 * Mx) := by
  refine met_startG (by decide) (Nat.le_of_ble_eq_true rfl) ?_
  intro p e s m below meth c C K hA hsz S ls hl
  generalize va_A [(h0, .inr (2, [.ref dd, .int (nI nn9), .int (sgI zz)])), (dd, .inl (k 0, LL, .inl (fun i => nI (gg i)))), (ho, .inr (2, [.ref do9, .int (nI no9), .int (sgI zo)])), (do9, .inl (k 0, Lo, .inl (fun i => nI (go i))))] s0 = A at hA S ⊢
  have hx := C.1
  have hb := C.2.1
  have hl : lv_has ls 7 [(0, .ref h0), (1, .ref h0), (2, .ref ho)] := hl
  have hw0 := hw
  obtain ⟨w1, w2, w3, w4, w5, w6⟩ := hw0
  have hv0 := hv
  obtain ⟨v1, v2, v3, v4, v5, v6⟩ := hv0
  refine lv_aload_n hx hb d_Wh_differ_0 rfl (lv_at hl 1 rfl) ?_
  refine r_get C K S 0 rfl rfl clOk_Wh 1 (by decide) wf_Wh_29 (v := .int (nI nn9)) rfl d_Wh_differ_1 ?_
  refine lv_istore_n (lv' := [(3, .int (nI nn9)), (0, .ref h0), (1, .ref h0), (2, .ref ho)]) hx hb d_Wh_differ_4 rfl hl (by decide) rfl (fun ls hl => ?_)
  refine lv_aload_n hx hb d_Wh_differ_5 rfl (lv_at hl 1 rfl) ?_
  refine lv_iload_n hx hb d_Wh_differ_6 rfl (lv_at hl 0 rfl) ?_
  refine q_back0 (wi := [(h0, .inr (2, [.ref dd, .int (nI nn9), .int (sgI zz)])), (dd, .inl (k 0, LL, .inl (fun i => nI (gg i))))]) (wr := [(ho, .inr (2, [.ref do9, .int (nI no9), .int (sgI zo)])), (do9, .inl (k 0, Lo, .inl (fun i => nI (go i))))]) S hA [0, 1] [2, 3] rfl rfl (by decide) (by decide) (va_runV (As := [.int (nI nn9)]) (rest := []) ⟨hx, hb, C.2.2.1, C.2.2.2.1, C.2.2.2.2.1⟩ (g_Wh_room l G k h0 _ _ nn9 Mx dd LL (nI nn9) (sgI zz) gg (by first | exact hr | exact wh_ra hw) (by first | assumption | omega) (by first | assumption | omega) (by first | assumption | omega)) (k_virt (n := 1) C wc_Wh_room rfl rfl wz_Wh wm_Wh_32 wn_Wh_room ws_Wh_room (by decide +kernel) ⟨(Nat.le_of_ble_eq_true rfl), (Nat.le_of_ble_eq_true rfl)⟩) (pr_nowVG K S [0, 1] (by decide) rfl 0 rfl rfl) rfl rfl hl.1 rfl (lv_room (Nat.le_of_ble_eq_true rfl)) d_Wh_differ_7 ⟨(show 0 + Mx ≤ Mx from by omega), (show 0 + (2 * Mx) ≤ 2 * Mx from by omega)⟩) (fun w8 H locs hw1 S => ?_)
  have S : Sw G A s.heap _ _ [(ho, .inr (2, [.ref do9, .int (nI no9), .int (sgI zo)])), (do9, .inl (k 0, Lo, .inl (fun i => nI (go i)))), (h0, .inr (2, [.ref w8.1, .int (nI nn9), .int (sgI zz)])), (w8.1, .inl (k 0, w8.2.1, .inl (fun i => nI (w8.2.2 i))))] := S
  have hw1 : raO w8.2.1 w8.2.2 ∧ LL ≤ w8.2.1 ∧ nn9 ≤ w8.2.1 ∧ w8.2.1 ≤ Mx ∧ ∀ i, i < LL → w8.2.2 i = gg i := hw1
  show W p l e _ s m _ below meth c H locs _ _ _ (F0 m 10 ls [])
  obtain ⟨⟨s1, s2, s3⟩, s4, s5, s6, s7⟩ := hw1
  refine lv_lconst (v := 0) hx hb d_Wh_differ_10 (by decide) ?_
  refine z_topl (y := lZ 0) (by decide) ?_
  refine lv_lstore (lv' := [(4, .long (lZ 0)), (3, .int (nI nn9)), (0, .ref h0), (1, .ref h0), (2, .ref ho)]) hx hb d_Wh_differ_11 hl (by decide) rfl (fun ls hl => ?_)
  refine lv_iconst (v := 0) hx hb d_Wh_differ_13 (by decide) ?_
  refine lv_istore (lv' := [(6, .int 0), (4, .long (lZ 0)), (3, .int (nI nn9)), (0, .ref h0), (1, .ref h0), (2, .ref ho)]) hx hb d_Wh_differ_14 hl (by decide) rfl (fun ls hl => ?_)
  have lp : ∀ d9, ∀ (i9 : Nat), ∀ (c8 : Int), ∀ (T8 : Nat → Nat), (nn9 - i9) < d9 → (i9 ≤ nn9) → ((vl 2147483648 T8 i9 : Int) + c8 * (2147483648 : Int) ^ i9 = (vl 2147483648 (dgN nn9 gg) i9 : Int) - vl 2147483648 (dgN no9 go) i9) → (-1 ≤ c8) → (c8 ≤ 0) → (∀ i, T8 i < 2147483648) → (∀ i, i9 ≤ i → i < LL → T8 i = gg i) → ∀ (H : Heap) (locs : List Loc), Sw G A s.heap H locs [(h0, .inr (2, [.ref w8.1, .int (nI nn9), .int (sgI zz)])), (w8.1, .inl (k 0, w8.2.1, .inl (fun i => nI (T8 i)))), (ho, .inr (2, [.ref do9, .int (nI no9), .int (sgI zo)])), (do9, .inl (k 0, Lo, .inl (fun i => nI (go i))))] → ∀ ls : Array Slot, lv_has ls 7 [(4, .long (lZ c8)), (6, .int (nI i9)), (3, .int (nI nn9)), (0, .ref h0), (1, .ref h0), (2, .ref ho)] → W p l e { frames := 3, cells := Mx, slots := 2 * Mx, locals := 104 } s m [Value.ref h0, Value.ref h0, Value.ref ho].toArray below meth c H locs (0 + (w8.2.1 - LL)) (0 + (2 * (w8.2.1 - LL))) (MQ below (va_Qg (fun (u : Nat × Nat × Nat × (Nat → Nat)) => none) (fun (u : Nat × Nat × Nat × (Nat → Nat)) => whO u.2.1 u.2.2.1 u.2.2.2 ((zz.natAbs - zo.natAbs : Nat) : Int) ∧ LL ≤ u.2.1 ∧ u.2.1 ≤ Mx) (Pog G k A (fun (u : Nat × Nat × Nat × (Nat → Nat)) => [(h0, .inr (2, [.ref u.1, .int (nI u.2.2.1), .int (if u.2.2.1 = 0 then 0 else sgI zz)])), (u.1, .inl (k 0, u.2.1, .inl (fun i => nI (u.2.2.2 i)))), (ho, .inr (2, [.ref do9, .int (nI no9), .int (sgI zo)])), (do9, .inl (k 0, Lo, .inl (fun i => nI (go i))))]) s0 sl (fun (u : Nat × Nat × Nat × (Nat → Nat)) => u.2.1 - LL) (fun (u : Nat × Nat × Nat × (Nat → Nat)) => 2 * (u.2.1 - LL))) A) [Value.ref h0, Value.ref h0, Value.ref ho].toArray s Mx (2 * Mx) A) (F0 m 16 ls []) := by
    intro d9
    induction d9 with
    | zero => intro i9 c8 T8 hm; exact absurd hm (Nat.not_lt_zero _)
    | succ d9 ih_lp =>
      intro i9 c8 T8 hm hi hI hc8 hc9 hD hT H locs S ls hl
      have e1 := dg_lt (n := nn9) w4 i9
      have e2 := dg_lt (n := no9) v4 i9
      refine lv_iload hx hb d_Wh_differ_16 (lv_at hl 1 rfl) ?_
      refine lv_iload_n hx hb d_Wh_differ_18 rfl (lv_at hl 2 rfl) ?_
      refine z_icmp_ge (a := i9) (b := nn9) (tgt := 69) hx hb d_Wh_differ_19 (by decide) (by omega) (by omega) (fun hc2 => ?_) (fun hc2 => ?_)
      · refine lv_aload_n hx hb d_Wh_differ_69 rfl (lv_at hl 3 rfl) ?_
        refine lv_iload_n hx hb d_Wh_differ_70 rfl (lv_at hl 2 rfl) ?_
        obtain ⟨i8, hi8⟩ : ∃ x9, x9 = i9 := ⟨_, rfl⟩
        have e6 : i9 = nn9 := by omega
        rw [e6, dg_vl (n := nn9) (Nat.le_refl _), dg_vl (n := no9) (by have := ca_le hv hw hle; omega), w6, v6] at hI
        have e5 := sub_end hI hle (wh_lt hw) (vl_lt _ (fun i _ => hD i)) hc8 hc9
        refine q_back0 (wi := [(h0, .inr (2, [.ref w8.1, .int (nI nn9), .int (sgI zz)])), (w8.1, .inl (k 0, w8.2.1, .inl (fun i => nI (T8 i))))]) (wr := [(ho, .inr (2, [.ref do9, .int (nI no9), .int (sgI zo)])), (do9, .inl (k 0, Lo, .inl (fun i => nI (go i))))]) S hA [0, 1] [2, 3] rfl rfl (by decide) (by decide) (va_runV (As := [.int (nI nn9)]) (rest := []) ⟨hx, hb, C.2.2.1, C.2.2.2.1, C.2.2.2.2.1⟩ (g_Wh_trim l G k h0 _ _ nn9 w8.1 w8.2.1 (nI nn9) (sgI zz) T8 ⟨s1, s2, hD⟩ (by omega)) (k_virt (n := 1) C wc_Wh_trim rfl rfl wz_Wh wm_Wh_25 wn_Wh_trim ws_Wh_trim (by decide +kernel) ⟨(Nat.le_of_ble_eq_true rfl), (Nat.le_of_ble_eq_true rfl)⟩) (pr_nowVG K S [0, 1] (by decide) rfl 0 rfl rfl) rfl rfl hl.1 rfl (lv_room (Nat.le_of_ble_eq_true rfl)) d_Wh_differ_71 ⟨(show 0 + (w8.2.1 - LL) ≤ Mx from by omega), (show 0 + (2 * (w8.2.1 - LL)) ≤ 2 * Mx from by omega)⟩) (fun n7 H locs hw3 S => ?_)
        have S : Sw G A s.heap _ _ [(ho, .inr (2, [.ref do9, .int (nI no9), .int (sgI zo)])), (do9, .inl (k 0, Lo, .inl (fun i => nI (go i)))), (h0, .inr (2, [.ref w8.1, .int (nI n7), .int (if n7 = 0 then 0 else (sgI zz))])), (w8.1, .inl (k 0, w8.2.1, .inl (fun i => nI (T8 i))))] := S
        have hw3 : n7 ≤ nn9 ∧ (n7 = 0 ∨ T8 (n7 - 1) ≠ 0) ∧ vl 2147483648 T8 n7 = vl 2147483648 T8 nn9 := hw3
        show W p l e _ s m _ below meth c H locs _ _ _ (F0 m 74 ls [])
        obtain ⟨t1, t2, t3⟩ := hw3
        exact q_vret C K hsz (w8.1, w8.2.1, n7, T8) (show whO w8.2.1 n7 T8 ((zz.natAbs - zo.natAbs : Nat) : Int) ∧ LL ≤ w8.2.1 ∧ w8.2.1 ≤ Mx from ⟨wh_of (by omega) ⟨s1, s2, hD⟩ t2 t3 (by rw [Int.natAbs_natCast, e5]), s4, s6⟩) (S.sub [2, 3, 0, 1] (by decide) rfl) d_Wh_differ_74 (show 0 + (w8.2.1 - LL) ≤ w8.2.1 - LL from by omega) (show 0 + (2 * (w8.2.1 - LL)) ≤ 2 * (w8.2.1 - LL) from by omega) (show 0 + (w8.2.1 - LL) ≤ Mx from by omega) (show 0 + (2 * (w8.2.1 - LL)) ≤ 2 * Mx from by omega)
      · refine lv_lload hx hb d_Wh_differ_22 (lv_at hl 0 rfl) ?_
        refine lv_aload_n hx hb d_Wh_differ_24 rfl (lv_at hl 4 rfl) ?_
        refine lv_iload hx hb d_Wh_differ_25 (lv_at hl 1 rfl) ?_
        refine q_back0 (wi := [(h0, .inr (2, [.ref w8.1, .int (nI nn9), .int (sgI zz)])), (w8.1, .inl (k 0, w8.2.1, .inl (fun i => nI (T8 i))))]) (wr := [(ho, .inr (2, [.ref do9, .int (nI no9), .int (sgI zo)])), (do9, .inl (k 0, Lo, .inl (fun i => nI (go i))))]) S hA [0, 1] [2, 3] rfl rfl (by decide) (by decide) (va_runV (As := [.int (nI i9)]) (rest := [.long (lZ c8)]) ⟨hx, hb, C.2.2.1, C.2.2.2.1, C.2.2.2.2.1⟩ (g_Wh_digit l G k h0 _ _ i9 w8.1 w8.2.1 nn9 (sgI zz) T8 ⟨s1, s2, hD⟩ (by omega) (by omega)) (k_virt (n := 1) C wc_Wh_digit rfl rfl wz_Wh wm_Wh_64 wn_Wh_digit ws_Wh_digit (by decide +kernel) ⟨(Nat.le_of_ble_eq_true rfl), (Nat.le_of_ble_eq_true rfl)⟩) (pr_nowVG K S [0, 1] (by decide) rfl 0 rfl rfl) rfl rfl hl.1 rfl (lv_room (Nat.le_of_ble_eq_true rfl)) d_Wh_differ_27 ⟨(show 0 + (w8.2.1 - LL) ≤ Mx from by omega), (show 0 + (2 * (w8.2.1 - LL)) ≤ 2 * Mx from by omega)⟩) (fun u4 H locs hw5 S => ?_)
        have S : Sw G A s.heap _ _ [(ho, .inr (2, [.ref do9, .int (nI no9), .int (sgI zo)])), (do9, .inl (k 0, Lo, .inl (fun i => nI (go i)))), (h0, .inr (2, [.ref w8.1, .int (nI nn9), .int (sgI zz)])), (w8.1, .inl (k 0, w8.2.1, .inl (fun i => nI (T8 i))))] := S
        have hw5 : True := hw5
        show W p l e _ s m _ below meth c H locs _ _ _ (F0 m 30 ls [.int (nI (dgN nn9 T8 i9)), .long (lZ c8)])
        rw [dg_eq2 (n := nn9) (g2 := gg) (fun q9 => hT i9 (Nat.le_refl _) (by omega))]
        refine lv_i2l (v := lN (dgN nn9 gg i9)) hx hb d_Wh_differ_30 (show (nI (dgN nn9 gg i9) : Int32).toInt64 = _ from nI_l (n := (dgN nn9 gg i9)) (by omega)) ?_
        refine lv_aload_n hx hb d_Wh_differ_31 rfl (lv_at hl 5 rfl) ?_
        refine lv_iload hx hb d_Wh_differ_32 (lv_at hl 1 rfl) ?_
        refine q_back0 (wi := [(ho, .inr (2, [.ref do9, .int (nI no9), .int (sgI zo)])), (do9, .inl (k 0, Lo, .inl (fun i => nI (go i))))]) (wr := [(h0, .inr (2, [.ref w8.1, .int (nI nn9), .int (sgI zz)])), (w8.1, .inl (k 0, w8.2.1, .inl (fun i => nI (T8 i))))]) S hA [0, 1] [2, 3] rfl rfl (by decide) (by decide) (va_runV (As := [.int (nI i9)]) (rest := [.long (lN (dgN nn9 gg i9)), .long (lZ c8)]) ⟨hx, hb, C.2.2.1, C.2.2.2.1, C.2.2.2.2.1⟩ (g_Wh_digit l G k ho _ _ i9 do9 Lo no9 (sgI zo) go (wh_ra hv) (by omega) (by omega)) (k_virt (n := 1) C wc_Wh_digit rfl rfl wz_Wh wm_Wh_64 wn_Wh_digit ws_Wh_digit (by decide +kernel) ⟨(Nat.le_of_ble_eq_true rfl), (Nat.le_of_ble_eq_true rfl)⟩) (pr_nowVG K S [0, 1] (by decide) rfl 0 rfl rfl) rfl rfl hl.1 rfl (lv_room (Nat.le_of_ble_eq_true rfl)) d_Wh_differ_34 ⟨(show 0 + (w8.2.1 - LL) ≤ Mx from by omega), (show 0 + (2 * (w8.2.1 - LL)) ≤ 2 * Mx from by omega)⟩) (fun u6 H locs hw7 S => ?_)
        have S : Sw G A s.heap _ _ [(h0, .inr (2, [.ref w8.1, .int (nI nn9), .int (sgI zz)])), (w8.1, .inl (k 0, w8.2.1, .inl (fun i => nI (T8 i)))), (ho, .inr (2, [.ref do9, .int (nI no9), .int (sgI zo)])), (do9, .inl (k 0, Lo, .inl (fun i => nI (go i))))] := S
        have hw7 : True := hw7
        show W p l e _ s m _ below meth c H locs _ _ _ (F0 m 37 ls [.int (nI (dgN no9 go i9)), .long (lN (dgN nn9 gg i9)), .long (lZ c8)])
        refine lv_i2l (v := lN (dgN no9 go i9)) hx hb d_Wh_differ_37 (show (nI (dgN no9 go i9) : Int32).toInt64 = _ from nI_l (n := (dgN no9 go i9)) (by omega)) ?_
        refine z_lsub (v := lZ (((dgN nn9 gg i9 : Nat) : Int) - ((dgN no9 go i9 : Nat) : Int))) hx hb d_Wh_differ_38 (by rw [lN_lZ, lN_lZ, lZ_sub]) ?_
        refine z_ladd (v := lZ (c8 + (((dgN nn9 gg i9 : Nat) : Int) - ((dgN no9 go i9 : Nat) : Int)))) hx hb d_Wh_differ_39 (lZ_add _ _) ?_
        refine lv_lstore (lv' := [(4, .long (lZ (c8 + (((dgN nn9 gg i9 : Nat) : Int) - ((dgN no9 go i9 : Nat) : Int))))), (6, .int (nI i9)), (3, .int (nI nn9)), (0, .ref h0), (1, .ref h0), (2, .ref ho)]) hx hb d_Wh_differ_40 hl (by decide) rfl (fun ls hl => ?_)
        refine lv_aload_n hx hb d_Wh_differ_42 rfl (lv_at hl 3 rfl) ?_
        refine r_get C K S 0 rfl rfl clOk_Wh 0 (by decide) wf_Wh_9 (v := .ref w8.1) rfl d_Wh_differ_43 ?_
        refine lv_iload hx hb d_Wh_differ_46 (lv_at hl 1 rfl) ?_
        refine lv_lload hx hb d_Wh_differ_48 (lv_at hl 0 rfl) ?_
        refine lv_ldc2 (v := 2147483647) hx hb C.2.2.2.1 (C.2.2.2.2.1 _ wk_Wh_23) d_Wh_differ_50 ?_
        refine z_land (v := lZ ((c8 + (((dgN nn9 gg i9 : Nat) : Int) - ((dgN no9 go i9 : Nat) : Int))) % 2147483648)) hx hb d_Wh_differ_53 (lZ_and _) ?_
        refine lv_l2i (v := nI (((c8 + (((dgN nn9 gg i9 : Nat) : Int) - ((dgN no9 go i9 : Nat) : Int))) % 2147483648).toNat)) hx hb d_Wh_differ_54 (lZ_i (by omega) (by omega)) ?_
        refine r_iast C K S 1 rfl (i := nI i9) (x := nI (((c8 + (((dgN nn9 gg i9 : Nat) : Int) - ((dgN no9 go i9 : Nat) : Int))) % 2147483648).toNat)) (show vp_in (nI i9) _ from vp_in_nI (n := i9) (by omega) (by omega)) (f' := fun i => nI (va_up T8 i9 (((c8 + (((dgN nn9 gg i9 : Nat) : Int) - ((dgN no9 go i9 : Nat) : Int))) % 2147483648).toNat) i)) (ws' := [(h0, .inr (2, [.ref w8.1, .int (nI nn9), .int (sgI zz)])), (w8.1, .inl (k 0, w8.2.1, .inl (fun i => nI (va_up T8 i9 (((c8 + (((dgN nn9 gg i9 : Nat) : Int) - ((dgN no9 go i9 : Nat) : Int))) % 2147483648).toNat) i)))), (ho, .inr (2, [.ref do9, .int (nI no9), .int (sgI zo)])), (do9, .inl (k 0, Lo, .inl (fun i => nI (go i))))]) (show upd _ (nI i9 : Int32).toNatClampNeg (nI (((c8 + (((dgN nn9 gg i9 : Nat) : Int) - ((dgN no9 go i9 : Nat) : Int))) % 2147483648).toNat)) = _ from upd_nI T8 (j := i9) (by omega) (((c8 + (((dgN nn9 gg i9 : Nat) : Int) - ((dgN no9 go i9 : Nat) : Int))) % 2147483648).toNat)) rfl d_Wh_differ_55 (fun H locs S => ?_)
        refine lv_lload hx hb d_Wh_differ_56 (lv_at hl 0 rfl) ?_
        refine lv_bipush (v := 31) hx hb d_Wh_differ_58 (by decide) ?_
        refine lv_lshr (v := lZ ((c8 + (((dgN nn9 gg i9 : Nat) : Int) - ((dgN no9 go i9 : Nat) : Int))) / 2147483648)) hx hb d_Wh_differ_60 (lZ_shr (by omega) (by omega) d31) ?_
        refine lv_lstore (lv' := [(4, .long (lZ ((c8 + (((dgN nn9 gg i9 : Nat) : Int) - ((dgN no9 go i9 : Nat) : Int))) / 2147483648))), (6, .int (nI i9)), (3, .int (nI nn9)), (0, .ref h0), (1, .ref h0), (2, .ref ho)]) hx hb d_Wh_differ_61 hl (by decide) rfl (fun ls hl => ?_)
        refine lv_iinc (v := nI (i9 + 1)) (lv' := [(6, .int (nI (i9 + 1))), (4, .long (lZ ((c8 + (((dgN nn9 gg i9 : Nat) : Int) - ((dgN no9 go i9 : Nat) : Int))) / 2147483648))), (3, .int (nI nn9)), (0, .ref h0), (1, .ref h0), (2, .ref ho)]) hx hb d_Wh_differ_63 hl (k := 1) rfl (show nI i9 + Int32.ofInt 1 = nI (i9 + 1) from (nI_add i9 1).trans (congrArg nI (by omega))) (by decide) rfl (fun ls hl => ?_)
        refine lv_goto (tgt := 16) hx hb d_Wh_differ_66 (by decide) ?_
        exact ih_lp (i9 + 1) ((c8 + (((dgN nn9 gg i9 : Nat) : Int) - ((dgN no9 go i9 : Nat) : Int))) / 2147483648) (va_up T8 i9 (((c8 + (((dgN nn9 gg i9 : Nat) : Int) - ((dgN no9 go i9 : Nat) : Int))) % 2147483648).toNat)) (by omega) (by omega) (sub_step hI) (by omega) (by omega) (up31 hD (by omega)) (fun i q1 q2 => by rw [va_up_ne _ _ (by omega)]; exact hT i (by omega) q2) _ _ (S.sub [0, 1, 2, 3] (by decide) rfl) ls (lv_sub hl [1, 0, 2, 3, 4, 5] rfl)
  exact lp _ 0 0 w8.2.2 (Nat.lt_succ_self _) (by omega) rfl (by omega) (by omega) s3 (fun i _ q => s7 i q) _ _ (S.sub [2, 3, 0, 1] (by decide) rfl) ls (lv_sub hl [1, 0, 2, 3, 4, 5] rfl)
set_option maxRecDepth 100000 in
set_option maxHeartbeats 16000000 in
/-- differ -/
theorem g_Wh_differ_b (l : Launch) (G : va_G) (k : Nat → ClassId) (h0 : Nat) (s0 sl : Nat) (Mx : Nat) (dd : Nat) (LL : Nat) (nn9 : Nat) (gg : Nat → Nat) (zz : Int) (ho : Nat) (do9 : Nat) (Lo : Nat) (no9 : Nat) (go : Nat → Nat) (zo : Int) (hw : whO LL nn9 gg zz) (hv : whO Lo no9 go zo) (hle : zz.natAbs ≤ zo.natAbs) (hm1 : 2 * no9 ≤ Mx) (hm2 : LL ≤ Mx) (hm3 : Mx ≤ 400) : CG l y_Wh_differ c_Wh_differ 7 none { frames := 3, cells := Mx, slots := 2 * Mx, locals := 104 } [.ref h0, .ref ho, .ref h0] G k s0 sl [(h0, .inr (2, [.ref dd, .int (nI nn9), .int (sgI zz)])), (dd, .inl (k 0, LL, .inl (fun i => nI (gg i)))), (ho, .inr (2, [.ref do9, .int (nI no9), .int (sgI zo)])), (do9, .inl (k 0, Lo, .inl (fun i => nI (go i))))] (fun (u : Nat × Nat × Nat × (Nat → Nat)) => none) (fun (u : Nat × Nat × Nat × (Nat → Nat)) => whO u.2.1 u.2.2.1 u.2.2.2 ((zo.natAbs - zz.natAbs : Nat) : Int) ∧ LL ≤ u.2.1 ∧ u.2.1 ≤ Mx) (fun (u : Nat × Nat × Nat × (Nat → Nat)) => [(h0, .inr (2, [.ref u.1, .int (nI u.2.2.1), .int (if u.2.2.1 = 0 then 0 else sgI zz)])), (u.1, .inl (k 0, u.2.1, .inl (fun i => nI (u.2.2.2 i)))), (ho, .inr (2, [.ref do9, .int (nI no9), .int (sgI zo)])), (do9, .inl (k 0, Lo, .inl (fun i => nI (go i))))]) (fun (u : Nat × Nat × Nat × (Nat → Nat)) => u.2.1 - LL) (fun (u : Nat × Nat × Nat × (Nat → Nat)) => 2 * (u.2.1 - LL)) Mx (2 * Mx) := by
  refine met_startG (by decide) (Nat.le_of_ble_eq_true rfl) ?_
  intro p e s m below meth c C K hA hsz S ls hl
  generalize va_A [(h0, .inr (2, [.ref dd, .int (nI nn9), .int (sgI zz)])), (dd, .inl (k 0, LL, .inl (fun i => nI (gg i)))), (ho, .inr (2, [.ref do9, .int (nI no9), .int (sgI zo)])), (do9, .inl (k 0, Lo, .inl (fun i => nI (go i))))] s0 = A at hA S ⊢
  have hx := C.1
  have hb := C.2.1
  have hl : lv_has ls 7 [(0, .ref h0), (1, .ref ho), (2, .ref h0)] := hl
  have hw0 := hw
  obtain ⟨w1, w2, w3, w4, w5, w6⟩ := hw0
  have hv0 := hv
  obtain ⟨v1, v2, v3, v4, v5, v6⟩ := hv0
  refine lv_aload_n hx hb d_Wh_differ_0 rfl (lv_at hl 1 rfl) ?_
  refine r_get C K S 2 rfl rfl clOk_Wh 1 (by decide) wf_Wh_29 (v := .int (nI no9)) rfl d_Wh_differ_1 ?_
  refine lv_istore_n (lv' := [(3, .int (nI no9)), (0, .ref h0), (1, .ref ho), (2, .ref h0)]) hx hb d_Wh_differ_4 rfl hl (by decide) rfl (fun ls hl => ?_)
  refine lv_aload_n hx hb d_Wh_differ_5 rfl (lv_at hl 1 rfl) ?_
  refine lv_iload_n hx hb d_Wh_differ_6 rfl (lv_at hl 0 rfl) ?_
  refine q_back0 (wi := [(h0, .inr (2, [.ref dd, .int (nI nn9), .int (sgI zz)])), (dd, .inl (k 0, LL, .inl (fun i => nI (gg i))))]) (wr := [(ho, .inr (2, [.ref do9, .int (nI no9), .int (sgI zo)])), (do9, .inl (k 0, Lo, .inl (fun i => nI (go i))))]) S hA [0, 1] [2, 3] rfl rfl (by decide) (by decide) (va_runV (As := [.int (nI no9)]) (rest := []) ⟨hx, hb, C.2.2.1, C.2.2.2.1, C.2.2.2.2.1⟩ (g_Wh_room l G k h0 _ _ no9 Mx dd LL (nI nn9) (sgI zz) gg (by first | exact hr | exact wh_ra hw) (by first | assumption | omega) (by first | assumption | omega) (by first | assumption | omega)) (k_virt (n := 1) C wc_Wh_room rfl rfl wz_Wh wm_Wh_32 wn_Wh_room ws_Wh_room (by decide +kernel) ⟨(Nat.le_of_ble_eq_true rfl), (Nat.le_of_ble_eq_true rfl)⟩) (pr_nowVG K S [0, 1] (by decide) rfl 0 rfl rfl) rfl rfl hl.1 rfl (lv_room (Nat.le_of_ble_eq_true rfl)) d_Wh_differ_7 ⟨(show 0 + Mx ≤ Mx from by omega), (show 0 + (2 * Mx) ≤ 2 * Mx from by omega)⟩) (fun w8 H locs hw1 S => ?_)
  have S : Sw G A s.heap _ _ [(ho, .inr (2, [.ref do9, .int (nI no9), .int (sgI zo)])), (do9, .inl (k 0, Lo, .inl (fun i => nI (go i)))), (h0, .inr (2, [.ref w8.1, .int (nI nn9), .int (sgI zz)])), (w8.1, .inl (k 0, w8.2.1, .inl (fun i => nI (w8.2.2 i))))] := S
  have hw1 : raO w8.2.1 w8.2.2 ∧ LL ≤ w8.2.1 ∧ no9 ≤ w8.2.1 ∧ w8.2.1 ≤ Mx ∧ ∀ i, i < LL → w8.2.2 i = gg i := hw1
  show W p l e _ s m _ below meth c H locs _ _ _ (F0 m 10 ls [])
  obtain ⟨⟨s1, s2, s3⟩, s4, s5, s6, s7⟩ := hw1
  refine lv_lconst (v := 0) hx hb d_Wh_differ_10 (by decide) ?_
  refine z_topl (y := lZ 0) (by decide) ?_
  refine lv_lstore (lv' := [(4, .long (lZ 0)), (3, .int (nI no9)), (0, .ref h0), (1, .ref ho), (2, .ref h0)]) hx hb d_Wh_differ_11 hl (by decide) rfl (fun ls hl => ?_)
  refine lv_iconst (v := 0) hx hb d_Wh_differ_13 (by decide) ?_
  refine lv_istore (lv' := [(6, .int 0), (4, .long (lZ 0)), (3, .int (nI no9)), (0, .ref h0), (1, .ref ho), (2, .ref h0)]) hx hb d_Wh_differ_14 hl (by decide) rfl (fun ls hl => ?_)
  have lp : ∀ d9, ∀ (i9 : Nat), ∀ (c8 : Int), ∀ (T8 : Nat → Nat), (no9 - i9) < d9 → (i9 ≤ no9) → ((vl 2147483648 T8 i9 : Int) + c8 * (2147483648 : Int) ^ i9 = (vl 2147483648 (dgN no9 go) i9 : Int) - vl 2147483648 (dgN nn9 gg) i9) → (-1 ≤ c8) → (c8 ≤ 0) → (∀ i, T8 i < 2147483648) → (∀ i, i9 ≤ i → i < LL → T8 i = gg i) → ∀ (H : Heap) (locs : List Loc), Sw G A s.heap H locs [(h0, .inr (2, [.ref w8.1, .int (nI nn9), .int (sgI zz)])), (w8.1, .inl (k 0, w8.2.1, .inl (fun i => nI (T8 i)))), (ho, .inr (2, [.ref do9, .int (nI no9), .int (sgI zo)])), (do9, .inl (k 0, Lo, .inl (fun i => nI (go i))))] → ∀ ls : Array Slot, lv_has ls 7 [(4, .long (lZ c8)), (6, .int (nI i9)), (3, .int (nI no9)), (0, .ref h0), (1, .ref ho), (2, .ref h0)] → W p l e { frames := 3, cells := Mx, slots := 2 * Mx, locals := 104 } s m [Value.ref h0, Value.ref ho, Value.ref h0].toArray below meth c H locs (0 + (w8.2.1 - LL)) (0 + (2 * (w8.2.1 - LL))) (MQ below (va_Qg (fun (u : Nat × Nat × Nat × (Nat → Nat)) => none) (fun (u : Nat × Nat × Nat × (Nat → Nat)) => whO u.2.1 u.2.2.1 u.2.2.2 ((zo.natAbs - zz.natAbs : Nat) : Int) ∧ LL ≤ u.2.1 ∧ u.2.1 ≤ Mx) (Pog G k A (fun (u : Nat × Nat × Nat × (Nat → Nat)) => [(h0, .inr (2, [.ref u.1, .int (nI u.2.2.1), .int (if u.2.2.1 = 0 then 0 else sgI zz)])), (u.1, .inl (k 0, u.2.1, .inl (fun i => nI (u.2.2.2 i)))), (ho, .inr (2, [.ref do9, .int (nI no9), .int (sgI zo)])), (do9, .inl (k 0, Lo, .inl (fun i => nI (go i))))]) s0 sl (fun (u : Nat × Nat × Nat × (Nat → Nat)) => u.2.1 - LL) (fun (u : Nat × Nat × Nat × (Nat → Nat)) => 2 * (u.2.1 - LL))) A) [Value.ref h0, Value.ref ho, Value.ref h0].toArray s Mx (2 * Mx) A) (F0 m 16 ls []) := by
    intro d9
    induction d9 with
    | zero => intro i9 c8 T8 hm; exact absurd hm (Nat.not_lt_zero _)
    | succ d9 ih_lp =>
      intro i9 c8 T8 hm hi hI hc8 hc9 hD hT H locs S ls hl
      have e1 := dg_lt (n := nn9) w4 i9
      have e2 := dg_lt (n := no9) v4 i9
      refine lv_iload hx hb d_Wh_differ_16 (lv_at hl 1 rfl) ?_
      refine lv_iload_n hx hb d_Wh_differ_18 rfl (lv_at hl 2 rfl) ?_
      refine z_icmp_ge (a := i9) (b := no9) (tgt := 69) hx hb d_Wh_differ_19 (by decide) (by omega) (by omega) (fun hc2 => ?_) (fun hc2 => ?_)
      · refine lv_aload_n hx hb d_Wh_differ_69 rfl (lv_at hl 3 rfl) ?_
        refine lv_iload_n hx hb d_Wh_differ_70 rfl (lv_at hl 2 rfl) ?_
        obtain ⟨i8, hi8⟩ : ∃ x9, x9 = i9 := ⟨_, rfl⟩
        have e6 : i9 = no9 := by omega
        rw [e6, dg_vl (n := no9) (Nat.le_refl _), dg_vl (n := nn9) (by have := ca_le hw hv hle; omega), v6, w6] at hI
        have e5 := sub_end hI hle (wh_lt hv) (vl_lt _ (fun i _ => hD i)) hc8 hc9
        refine q_back0 (wi := [(h0, .inr (2, [.ref w8.1, .int (nI nn9), .int (sgI zz)])), (w8.1, .inl (k 0, w8.2.1, .inl (fun i => nI (T8 i))))]) (wr := [(ho, .inr (2, [.ref do9, .int (nI no9), .int (sgI zo)])), (do9, .inl (k 0, Lo, .inl (fun i => nI (go i))))]) S hA [0, 1] [2, 3] rfl rfl (by decide) (by decide) (va_runV (As := [.int (nI no9)]) (rest := []) ⟨hx, hb, C.2.2.1, C.2.2.2.1, C.2.2.2.2.1⟩ (g_Wh_trim l G k h0 _ _ no9 w8.1 w8.2.1 (nI nn9) (sgI zz) T8 ⟨s1, s2, hD⟩ (by omega)) (k_virt (n := 1) C wc_Wh_trim rfl rfl wz_Wh wm_Wh_25 wn_Wh_trim ws_Wh_trim (by decide +kernel) ⟨(Nat.le_of_ble_eq_true rfl), (Nat.le_of_ble_eq_true rfl)⟩) (pr_nowVG K S [0, 1] (by decide) rfl 0 rfl rfl) rfl rfl hl.1 rfl (lv_room (Nat.le_of_ble_eq_true rfl)) d_Wh_differ_71 ⟨(show 0 + (w8.2.1 - LL) ≤ Mx from by omega), (show 0 + (2 * (w8.2.1 - LL)) ≤ 2 * Mx from by omega)⟩) (fun n7 H locs hw3 S => ?_)
        have S : Sw G A s.heap _ _ [(ho, .inr (2, [.ref do9, .int (nI no9), .int (sgI zo)])), (do9, .inl (k 0, Lo, .inl (fun i => nI (go i)))), (h0, .inr (2, [.ref w8.1, .int (nI n7), .int (if n7 = 0 then 0 else (sgI zz))])), (w8.1, .inl (k 0, w8.2.1, .inl (fun i => nI (T8 i))))] := S
        have hw3 : n7 ≤ no9 ∧ (n7 = 0 ∨ T8 (n7 - 1) ≠ 0) ∧ vl 2147483648 T8 n7 = vl 2147483648 T8 no9 := hw3
        show W p l e _ s m _ below meth c H locs _ _ _ (F0 m 74 ls [])
        obtain ⟨t1, t2, t3⟩ := hw3
        exact q_vret C K hsz (w8.1, w8.2.1, n7, T8) (show whO w8.2.1 n7 T8 ((zo.natAbs - zz.natAbs : Nat) : Int) ∧ LL ≤ w8.2.1 ∧ w8.2.1 ≤ Mx from ⟨wh_of (by omega) ⟨s1, s2, hD⟩ t2 t3 (by rw [Int.natAbs_natCast, e5]), s4, s6⟩) (S.sub [2, 3, 0, 1] (by decide) rfl) d_Wh_differ_74 (show 0 + (w8.2.1 - LL) ≤ w8.2.1 - LL from by omega) (show 0 + (2 * (w8.2.1 - LL)) ≤ 2 * (w8.2.1 - LL) from by omega) (show 0 + (w8.2.1 - LL) ≤ Mx from by omega) (show 0 + (2 * (w8.2.1 - LL)) ≤ 2 * Mx from by omega)
      · refine lv_lload hx hb d_Wh_differ_22 (lv_at hl 0 rfl) ?_
        refine lv_aload_n hx hb d_Wh_differ_24 rfl (lv_at hl 4 rfl) ?_
        refine lv_iload hx hb d_Wh_differ_25 (lv_at hl 1 rfl) ?_
        refine q_back0 (wi := [(ho, .inr (2, [.ref do9, .int (nI no9), .int (sgI zo)])), (do9, .inl (k 0, Lo, .inl (fun i => nI (go i))))]) (wr := [(h0, .inr (2, [.ref w8.1, .int (nI nn9), .int (sgI zz)])), (w8.1, .inl (k 0, w8.2.1, .inl (fun i => nI (T8 i))))]) S hA [2, 3] [0, 1] rfl rfl (by decide) (by decide) (va_runV (As := [.int (nI i9)]) (rest := [.long (lZ c8)]) ⟨hx, hb, C.2.2.1, C.2.2.2.1, C.2.2.2.2.1⟩ (g_Wh_digit l G k ho _ _ i9 do9 Lo no9 (sgI zo) go (wh_ra hv) (by omega) (by omega)) (k_virt (n := 1) C wc_Wh_digit rfl rfl wz_Wh wm_Wh_64 wn_Wh_digit ws_Wh_digit (by decide +kernel) ⟨(Nat.le_of_ble_eq_true rfl), (Nat.le_of_ble_eq_true rfl)⟩) (pr_nowVG K S [2, 3] (by decide) rfl 2 rfl rfl) rfl rfl hl.1 rfl (lv_room (Nat.le_of_ble_eq_true rfl)) d_Wh_differ_27 ⟨(show 0 + (w8.2.1 - LL) ≤ Mx from by omega), (show 0 + (2 * (w8.2.1 - LL)) ≤ 2 * Mx from by omega)⟩) (fun u4 H locs hw5 S => ?_)
        have S : Sw G A s.heap _ _ [(h0, .inr (2, [.ref w8.1, .int (nI nn9), .int (sgI zz)])), (w8.1, .inl (k 0, w8.2.1, .inl (fun i => nI (T8 i)))), (ho, .inr (2, [.ref do9, .int (nI no9), .int (sgI zo)])), (do9, .inl (k 0, Lo, .inl (fun i => nI (go i))))] := S
        have hw5 : True := hw5
        show W p l e _ s m _ below meth c H locs _ _ _ (F0 m 30 ls [.int (nI (dgN no9 go i9)), .long (lZ c8)])
        refine lv_i2l (v := lN (dgN no9 go i9)) hx hb d_Wh_differ_30 (show (nI (dgN no9 go i9) : Int32).toInt64 = _ from nI_l (n := (dgN no9 go i9)) (by omega)) ?_
        refine lv_aload_n hx hb d_Wh_differ_31 rfl (lv_at hl 5 rfl) ?_
        refine lv_iload hx hb d_Wh_differ_32 (lv_at hl 1 rfl) ?_
        refine q_back0 (wi := [(h0, .inr (2, [.ref w8.1, .int (nI nn9), .int (sgI zz)])), (w8.1, .inl (k 0, w8.2.1, .inl (fun i => nI (T8 i))))]) (wr := [(ho, .inr (2, [.ref do9, .int (nI no9), .int (sgI zo)])), (do9, .inl (k 0, Lo, .inl (fun i => nI (go i))))]) S hA [0, 1] [2, 3] rfl rfl (by decide) (by decide) (va_runV (As := [.int (nI i9)]) (rest := [.long (lN (dgN no9 go i9)), .long (lZ c8)]) ⟨hx, hb, C.2.2.1, C.2.2.2.1, C.2.2.2.2.1⟩ (g_Wh_digit l G k h0 _ _ i9 w8.1 w8.2.1 nn9 (sgI zz) T8 ⟨s1, s2, hD⟩ (by omega) (by omega)) (k_virt (n := 1) C wc_Wh_digit rfl rfl wz_Wh wm_Wh_64 wn_Wh_digit ws_Wh_digit (by decide +kernel) ⟨(Nat.le_of_ble_eq_true rfl), (Nat.le_of_ble_eq_true rfl)⟩) (pr_nowVG K S [0, 1] (by decide) rfl 0 rfl rfl) rfl rfl hl.1 rfl (lv_room (Nat.le_of_ble_eq_true rfl)) d_Wh_differ_34 ⟨(show 0 + (w8.2.1 - LL) ≤ Mx from by omega), (show 0 + (2 * (w8.2.1 - LL)) ≤ 2 * Mx from by omega)⟩) (fun u6 H locs hw7 S => ?_)
        have S : Sw G A s.heap _ _ [(ho, .inr (2, [.ref do9, .int (nI no9), .int (sgI zo)])), (do9, .inl (k 0, Lo, .inl (fun i => nI (go i)))), (h0, .inr (2, [.ref w8.1, .int (nI nn9), .int (sgI zz)])), (w8.1, .inl (k 0, w8.2.1, .inl (fun i => nI (T8 i))))] := S
        have hw7 : True := hw7
        show W p l e _ s m _ below meth c H locs _ _ _ (F0 m 37 ls [.int (nI (dgN nn9 T8 i9)), .long (lN (dgN no9 go i9)), .long (lZ c8)])
        rw [dg_eq2 (n := nn9) (g2 := gg) (fun q9 => hT i9 (Nat.le_refl _) (by omega))]
        refine lv_i2l (v := lN (dgN nn9 gg i9)) hx hb d_Wh_differ_37 (show (nI (dgN nn9 gg i9) : Int32).toInt64 = _ from nI_l (n := (dgN nn9 gg i9)) (by omega)) ?_
        refine z_lsub (v := lZ (((dgN no9 go i9 : Nat) : Int) - ((dgN nn9 gg i9 : Nat) : Int))) hx hb d_Wh_differ_38 (by rw [lN_lZ, lN_lZ, lZ_sub]) ?_
        refine z_ladd (v := lZ (c8 + (((dgN no9 go i9 : Nat) : Int) - ((dgN nn9 gg i9 : Nat) : Int)))) hx hb d_Wh_differ_39 (lZ_add _ _) ?_
        refine lv_lstore (lv' := [(4, .long (lZ (c8 + (((dgN no9 go i9 : Nat) : Int) - ((dgN nn9 gg i9 : Nat) : Int))))), (6, .int (nI i9)), (3, .int (nI no9)), (0, .ref h0), (1, .ref ho), (2, .ref h0)]) hx hb d_Wh_differ_40 hl (by decide) rfl (fun ls hl => ?_)
        refine lv_aload_n hx hb d_Wh_differ_42 rfl (lv_at hl 3 rfl) ?_
        refine r_get C K S 2 rfl rfl clOk_Wh 0 (by decide) wf_Wh_9 (v := .ref w8.1) rfl d_Wh_differ_43 ?_
        refine lv_iload hx hb d_Wh_differ_46 (lv_at hl 1 rfl) ?_
        refine lv_lload hx hb d_Wh_differ_48 (lv_at hl 0 rfl) ?_
        refine lv_ldc2 (v := 2147483647) hx hb C.2.2.2.1 (C.2.2.2.2.1 _ wk_Wh_23) d_Wh_differ_50 ?_
        refine z_land (v := lZ ((c8 + (((dgN no9 go i9 : Nat) : Int) - ((dgN nn9 gg i9 : Nat) : Int))) % 2147483648)) hx hb d_Wh_differ_53 (lZ_and _) ?_
        refine lv_l2i (v := nI (((c8 + (((dgN no9 go i9 : Nat) : Int) - ((dgN nn9 gg i9 : Nat) : Int))) % 2147483648).toNat)) hx hb d_Wh_differ_54 (lZ_i (by omega) (by omega)) ?_
        refine r_iast C K S 3 rfl (i := nI i9) (x := nI (((c8 + (((dgN no9 go i9 : Nat) : Int) - ((dgN nn9 gg i9 : Nat) : Int))) % 2147483648).toNat)) (show vp_in (nI i9) _ from vp_in_nI (n := i9) (by omega) (by omega)) (f' := fun i => nI (va_up T8 i9 (((c8 + (((dgN no9 go i9 : Nat) : Int) - ((dgN nn9 gg i9 : Nat) : Int))) % 2147483648).toNat) i)) (ws' := [(ho, .inr (2, [.ref do9, .int (nI no9), .int (sgI zo)])), (do9, .inl (k 0, Lo, .inl (fun i => nI (go i)))), (h0, .inr (2, [.ref w8.1, .int (nI nn9), .int (sgI zz)])), (w8.1, .inl (k 0, w8.2.1, .inl (fun i => nI (va_up T8 i9 (((c8 + (((dgN no9 go i9 : Nat) : Int) - ((dgN nn9 gg i9 : Nat) : Int))) % 2147483648).toNat) i))))]) (show upd _ (nI i9 : Int32).toNatClampNeg (nI (((c8 + (((dgN no9 go i9 : Nat) : Int) - ((dgN nn9 gg i9 : Nat) : Int))) % 2147483648).toNat)) = _ from upd_nI T8 (j := i9) (by omega) (((c8 + (((dgN no9 go i9 : Nat) : Int) - ((dgN nn9 gg i9 : Nat) : Int))) % 2147483648).toNat)) rfl d_Wh_differ_55 (fun H locs S => ?_)
        refine lv_lload hx hb d_Wh_differ_56 (lv_at hl 0 rfl) ?_
        refine lv_bipush (v := 31) hx hb d_Wh_differ_58 (by decide) ?_
        refine lv_lshr (v := lZ ((c8 + (((dgN no9 go i9 : Nat) : Int) - ((dgN nn9 gg i9 : Nat) : Int))) / 2147483648)) hx hb d_Wh_differ_60 (lZ_shr (by omega) (by omega) d31) ?_
        refine lv_lstore (lv' := [(4, .long (lZ ((c8 + (((dgN no9 go i9 : Nat) : Int) - ((dgN nn9 gg i9 : Nat) : Int))) / 2147483648))), (6, .int (nI i9)), (3, .int (nI no9)), (0, .ref h0), (1, .ref ho), (2, .ref h0)]) hx hb d_Wh_differ_61 hl (by decide) rfl (fun ls hl => ?_)
        refine lv_iinc (v := nI (i9 + 1)) (lv' := [(6, .int (nI (i9 + 1))), (4, .long (lZ ((c8 + (((dgN no9 go i9 : Nat) : Int) - ((dgN nn9 gg i9 : Nat) : Int))) / 2147483648))), (3, .int (nI no9)), (0, .ref h0), (1, .ref ho), (2, .ref h0)]) hx hb d_Wh_differ_63 hl (k := 1) rfl (show nI i9 + Int32.ofInt 1 = nI (i9 + 1) from (nI_add i9 1).trans (congrArg nI (by omega))) (by decide) rfl (fun ls hl => ?_)
        refine lv_goto (tgt := 16) hx hb d_Wh_differ_66 (by decide) ?_
        exact ih_lp (i9 + 1) ((c8 + (((dgN no9 go i9 : Nat) : Int) - ((dgN nn9 gg i9 : Nat) : Int))) / 2147483648) (va_up T8 i9 (((c8 + (((dgN no9 go i9 : Nat) : Int) - ((dgN nn9 gg i9 : Nat) : Int))) % 2147483648).toNat)) (by omega) (by omega) (sub_step hI) (by omega) (by omega) (up31 hD (by omega)) (fun i q1 q2 => by rw [va_up_ne _ _ (by omega)]; exact hT i (by omega) q2) _ _ (S.sub [2, 3, 0, 1] (by decide) rfl) ls (lv_sub hl [1, 0, 2, 3, 4, 5] rfl)
  exact lp _ 0 0 w8.2.2 (Nat.lt_succ_self _) (by omega) rfl (by omega) (by omega) s3 (fun i _ q => s7 i q) _ _ (S.sub [2, 3, 0, 1] (by decide) rfl) ls (lv_sub hl [1, 0, 2, 3, 4, 5] rfl)
theorem wh_abs {L n : Nat} {g : Nat → Nat} {z z2 : Int} (h : whO L n g z) (e : z2.natAbs = z.natAbs) : whO L n g z2 := ⟨h.1, h.2.1, h.2.2.1, h.2.2.2.1, h.2.2.2.2.1, by rw [e]; exact h.2.2.2.2.2⟩
theorem d_Wh_subtract_0 : decode c_Wh_subtract 0 = .ok (.aload_n 1, 1) := by decide +kernel
theorem d_Wh_subtract_1 : decode c_Wh_subtract 1 = .ok (.getfield 19, 3) := by decide +kernel
theorem d_Wh_subtract_4 : decode c_Wh_subtract 4 = .ok (.ifCond .ne 4, 3) := by decide +kernel
theorem d_Wh_subtract_7 : decode c_Wh_subtract 7 = .ok (.return_, 1) := by decide +kernel
theorem d_Wh_subtract_8 : decode c_Wh_subtract 8 = .ok (.aload_n 0, 1) := by decide +kernel
theorem d_Wh_subtract_9 : decode c_Wh_subtract 9 = .ok (.getfield 19, 3) := by decide +kernel
theorem d_Wh_subtract_12 : decode c_Wh_subtract 12 = .ok (.ifCond .ne 15, 3) := by decide +kernel
theorem d_Wh_subtract_15 : decode c_Wh_subtract 15 = .ok (.aload_n 0, 1) := by decide +kernel
theorem d_Wh_subtract_16 : decode c_Wh_subtract 16 = .ok (.aload_n 1, 1) := by decide +kernel
theorem d_Wh_subtract_17 : decode c_Wh_subtract 17 = .ok (.invokevirtual 50, 3) := by decide +kernel
theorem d_Wh_subtract_20 : decode c_Wh_subtract 20 = .ok (.aload_n 0, 1) := by decide +kernel
theorem d_Wh_subtract_21 : decode c_Wh_subtract 21 = .ok (.invokevirtual 54, 3) := by decide +kernel
theorem d_Wh_subtract_24 : decode c_Wh_subtract 24 = .ok (.goto 54, 3) := by decide +kernel
theorem d_Wh_subtract_27 : decode c_Wh_subtract 27 = .ok (.aload_n 0, 1) := by decide +kernel
theorem d_Wh_subtract_28 : decode c_Wh_subtract 28 = .ok (.getfield 19, 3) := by decide +kernel
theorem d_Wh_subtract_31 : decode c_Wh_subtract 31 = .ok (.aload_n 1, 1) := by decide +kernel
theorem d_Wh_subtract_32 : decode c_Wh_subtract 32 = .ok (.getfield 19, 3) := by decide +kernel
theorem d_Wh_subtract_35 : decode c_Wh_subtract 35 = .ok (.if_icmp .eq 11, 3) := by decide +kernel
theorem d_Wh_subtract_38 : decode c_Wh_subtract 38 = .ok (.aload_n 0, 1) := by decide +kernel
theorem d_Wh_subtract_39 : decode c_Wh_subtract 39 = .ok (.aload_n 1, 1) := by decide +kernel
theorem d_Wh_subtract_40 : decode c_Wh_subtract 40 = .ok (.invokevirtual 57, 3) := by decide +kernel
theorem d_Wh_subtract_43 : decode c_Wh_subtract 43 = .ok (.goto 35, 3) := by decide +kernel
theorem d_Wh_subtract_46 : decode c_Wh_subtract 46 = .ok (.aload_n 0, 1) := by decide +kernel
theorem d_Wh_subtract_47 : decode c_Wh_subtract 47 = .ok (.aload_n 1, 1) := by decide +kernel
theorem d_Wh_subtract_48 : decode c_Wh_subtract 48 = .ok (.invokevirtual 46, 3) := by decide +kernel
theorem d_Wh_subtract_51 : decode c_Wh_subtract 51 = .ok (.ifCond .lt 12, 3) := by decide +kernel
theorem d_Wh_subtract_54 : decode c_Wh_subtract 54 = .ok (.aload_n 0, 1) := by decide +kernel
theorem d_Wh_subtract_55 : decode c_Wh_subtract 55 = .ok (.aload_n 0, 1) := by decide +kernel
theorem d_Wh_subtract_56 : decode c_Wh_subtract 56 = .ok (.aload_n 1, 1) := by decide +kernel
theorem d_Wh_subtract_57 : decode c_Wh_subtract 57 = .ok (.invokevirtual 60, 3) := by decide +kernel
theorem d_Wh_subtract_60 : decode c_Wh_subtract 60 = .ok (.goto 18, 3) := by decide +kernel
theorem d_Wh_subtract_63 : decode c_Wh_subtract 63 = .ok (.aload_n 0, 1) := by decide +kernel
theorem d_Wh_subtract_64 : decode c_Wh_subtract 64 = .ok (.aload_n 1, 1) := by decide +kernel
theorem d_Wh_subtract_65 : decode c_Wh_subtract 65 = .ok (.aload_n 0, 1) := by decide +kernel
theorem d_Wh_subtract_66 : decode c_Wh_subtract 66 = .ok (.invokevirtual 60, 3) := by decide +kernel
theorem d_Wh_subtract_69 : decode c_Wh_subtract 69 = .ok (.aload_n 0, 1) := by decide +kernel
theorem d_Wh_subtract_70 : decode c_Wh_subtract 70 = .ok (.aload_n 1, 1) := by decide +kernel
theorem d_Wh_subtract_71 : decode c_Wh_subtract 71 = .ok (.getfield 19, 3) := by decide +kernel
theorem d_Wh_subtract_74 : decode c_Wh_subtract 74 = .ok (.ineg, 1) := by decide +kernel
theorem d_Wh_subtract_75 : decode c_Wh_subtract 75 = .ok (.putfield 19, 3) := by decide +kernel
theorem d_Wh_subtract_78 : decode c_Wh_subtract 78 = .ok (.return_, 1) := by decide +kernel
set_option maxRecDepth 100000 in
set_option maxHeartbeats 16000000 in
/-- subtract -/
theorem g_Wh_subtract (l : Launch) (G : va_G) (k : Nat → ClassId) (h0 : Nat) (s0 sl : Nat) (Mx : Nat) (dd : Nat) (LL : Nat) (nn9 : Nat) (gg : Nat → Nat) (zz : Int) (ho : Nat) (do9 : Nat) (Lo : Nat) (no9 : Nat) (go : Nat → Nat) (zo : Int) (hw : whO LL nn9 gg zz) (hv : whO Lo no9 go zo) (hm1 : 2 * (nn9 + 1) ≤ Mx) (hm0 : 2 * (no9 + 1) ≤ Mx) (hm2 : LL ≤ Mx) (hm3 : Mx ≤ 400) : CG l y_Wh_subtract c_Wh_subtract 2 none { frames := 4, cells := Mx, slots := 2 * Mx, locals := 130 } [.ref h0, .ref ho] G k s0 sl [(h0, .inr (2, [.ref dd, .int (nI nn9), .int (sgI zz)])), (dd, .inl (k 0, LL, .inl (fun i => nI (gg i)))), (ho, .inr (2, [.ref do9, .int (nI no9), .int (sgI zo)])), (do9, .inl (k 0, Lo, .inl (fun i => nI (go i))))] (fun (u : Nat × Nat × Nat × (Nat → Nat)) => none) (fun (u : Nat × Nat × Nat × (Nat → Nat)) => whO u.2.1 u.2.2.1 u.2.2.2 (zz - zo) ∧ LL ≤ u.2.1 ∧ u.2.1 ≤ Mx) (fun (u : Nat × Nat × Nat × (Nat → Nat)) => [(h0, .inr (2, [.ref u.1, .int (nI u.2.2.1), .int (sgI (zz - zo))])), (u.1, .inl (k 0, u.2.1, .inl (fun i => nI (u.2.2.2 i)))), (ho, .inr (2, [.ref do9, .int (nI no9), .int (sgI zo)])), (do9, .inl (k 0, Lo, .inl (fun i => nI (go i))))]) (fun (u : Nat × Nat × Nat × (Nat → Nat)) => u.2.1 - LL) (fun (u : Nat × Nat × Nat × (Nat → Nat)) => 2 * (u.2.1 - LL)) Mx (2 * Mx) := by
  refine met_startG (by decide) (Nat.le_of_ble_eq_true rfl) ?_
  intro p e s m below meth c C K hA hsz S ls hl
  generalize va_A [(h0, .inr (2, [.ref dd, .int (nI nn9), .int (sgI zz)])), (dd, .inl (k 0, LL, .inl (fun i => nI (gg i)))), (ho, .inr (2, [.ref do9, .int (nI no9), .int (sgI zo)])), (do9, .inl (k 0, Lo, .inl (fun i => nI (go i))))] s0 = A at hA S ⊢
  have hx := C.1
  have hb := C.2.1
  have hl : lv_has ls 2 [(0, .ref h0), (1, .ref ho)] := hl
  have hw0 := hw
  obtain ⟨w1, w2, w3, w4, w5, w6⟩ := hw0
  have hv0 := hv
  obtain ⟨v1, v2, v3, v4, v5, v6⟩ := hv0
  refine lv_aload_n hx hb d_Wh_subtract_0 rfl (lv_at hl 1 rfl) ?_
  refine r_get C K S 2 rfl rfl clOk_Wh 2 (by decide) wf_Wh_19 (v := .int (sgI zo)) rfl d_Wh_subtract_1 ?_
  refine lv_if_ne (tgt := 8) hx hb d_Wh_subtract_4 (by decide) (fun hc1 => ?_) (fun hc1 => ?_)
  · refine lv_aload_n hx hb d_Wh_subtract_8 rfl (lv_at hl 0 rfl) ?_
    refine r_get C K S 0 rfl rfl clOk_Wh 2 (by decide) wf_Wh_19 (v := .int (sgI zz)) rfl d_Wh_subtract_9 ?_
    refine lv_if_ne (tgt := 27) hx hb d_Wh_subtract_12 (by decide) (fun hc2 => ?_) (fun hc2 => ?_)
    · refine lv_aload_n hx hb d_Wh_subtract_27 rfl (lv_at hl 0 rfl) ?_
      refine r_get C K S 0 rfl rfl clOk_Wh 2 (by decide) wf_Wh_19 (v := .int (sgI zz)) rfl d_Wh_subtract_28 ?_
      refine lv_aload_n hx hb d_Wh_subtract_31 rfl (lv_at hl 1 rfl) ?_
      refine r_get C K S 2 rfl rfl clOk_Wh 2 (by decide) wf_Wh_19 (v := .int (sgI zo)) rfl d_Wh_subtract_32 ?_
      refine lv_icmp_eq (tgt := 46) hx hb d_Wh_subtract_35 (by decide) (fun hc3 => ?_) (fun hc3 => ?_)
      · refine lv_aload_n hx hb d_Wh_subtract_46 rfl (lv_at hl 0 rfl) ?_
        refine lv_aload_n hx hb d_Wh_subtract_47 rfl (lv_at hl 1 rfl) ?_
        refine q_back0 (wi := [(h0, .inr (2, [.ref dd, .int (nI nn9), .int (sgI zz)])), (dd, .inl (k 0, LL, .inl (fun i => nI (gg i)))), (ho, .inr (2, [.ref do9, .int (nI no9), .int (sgI zo)])), (do9, .inl (k 0, Lo, .inl (fun i => nI (go i))))]) (wr := []) S hA [0, 1, 2, 3] [] rfl rfl (by decide) (by decide) (va_runV (As := [.ref ho]) (rest := []) ⟨hx, hb, C.2.2.1, C.2.2.2.1, C.2.2.2.2.1⟩ (g_Wh_compareAmount l G k h0 _ _ dd LL nn9 gg zz ho do9 Lo no9 go zo (by first | assumption | omega) (by first | assumption | omega)) (k_virt (n := 1) C wc_Wh_compareAmount rfl rfl wz_Wh wm_Wh_46 wn_Wh_compareAmount ws_Wh_compareAmount (by decide +kernel) ⟨(Nat.le_of_ble_eq_true rfl), (Nat.le_of_ble_eq_true rfl)⟩) (pr_nowVG K S [0, 1, 2, 3] (by decide) rfl 0 rfl rfl) rfl rfl hl.1 rfl (lv_room (Nat.le_of_ble_eq_true rfl)) d_Wh_subtract_48 ⟨(Nat.zero_le _), (Nat.zero_le _)⟩) (fun u4 H locs hw5 S => ?_)
        have S : Sw G A s.heap _ _ [(h0, .inr (2, [.ref dd, .int (nI nn9), .int (sgI zz)])), (dd, .inl (k 0, LL, .inl (fun i => nI (gg i)))), (ho, .inr (2, [.ref do9, .int (nI no9), .int (sgI zo)])), (do9, .inl (k 0, Lo, .inl (fun i => nI (go i))))] := S
        have hw5 : True := hw5
        show W p l e _ s m _ below meth c H locs _ _ _ (F0 m 51 ls [.int (cpN zz.natAbs zo.natAbs)])
        refine lv_if_lt (tgt := 63) hx hb d_Wh_subtract_51 (by decide) (fun hc6 => ?_) (fun hc6 => ?_)
        · refine lv_aload_n hx hb d_Wh_subtract_63 rfl (lv_at hl 0 rfl) ?_
          refine lv_aload_n hx hb d_Wh_subtract_64 rfl (lv_at hl 1 rfl) ?_
          refine lv_aload_n hx hb d_Wh_subtract_65 rfl (lv_at hl 0 rfl) ?_
          have hq9 : zz.natAbs < zo.natAbs := by exact cp_nz.mp hc6
          refine q_back0 (wi := [(h0, .inr (2, [.ref dd, .int (nI nn9), .int (sgI zz)])), (dd, .inl (k 0, LL, .inl (fun i => nI (gg i)))), (ho, .inr (2, [.ref do9, .int (nI no9), .int (sgI zo)])), (do9, .inl (k 0, Lo, .inl (fun i => nI (go i))))]) (wr := []) S hA [0, 1, 2, 3] [] rfl rfl (by decide) (by decide) (va_runV (As := [.ref ho, .ref h0]) (rest := []) ⟨hx, hb, C.2.2.1, C.2.2.2.1, C.2.2.2.2.1⟩ (g_Wh_differ_b l G k h0 _ _ Mx dd LL nn9 gg zz ho do9 Lo no9 go zo (by first | assumption | omega) (by first | assumption | omega) (by omega) (by first | assumption | omega) (by first | assumption | omega) (by first | assumption | omega)) (k_virt (n := 2) C wc_Wh_differ rfl rfl wz_Wh wm_Wh_60 wn_Wh_differ ws_Wh_differ (by decide +kernel) ⟨(Nat.le_of_ble_eq_true rfl), (Nat.le_of_ble_eq_true rfl)⟩) (pr_nowVG K S [0, 1, 2, 3] (by decide) rfl 0 rfl rfl) rfl rfl hl.1 rfl (lv_room (Nat.le_of_ble_eq_true rfl)) d_Wh_subtract_66 ⟨(show 0 + Mx ≤ Mx from by omega), (show 0 + (2 * Mx) ≤ 2 * Mx from by omega)⟩) (fun c8 H locs hw7 S => ?_)
          have S : Sw G A s.heap _ _ [(h0, .inr (2, [.ref c8.1, .int (nI c8.2.2.1), .int (if c8.2.2.1 = 0 then 0 else sgI zz)])), (c8.1, .inl (k 0, c8.2.1, .inl (fun i => nI (c8.2.2.2 i)))), (ho, .inr (2, [.ref do9, .int (nI no9), .int (sgI zo)])), (do9, .inl (k 0, Lo, .inl (fun i => nI (go i))))] := S
          have hw7 : whO c8.2.1 c8.2.2.1 c8.2.2.2 ((zo.natAbs - zz.natAbs : Nat) : Int) ∧ LL ≤ c8.2.1 ∧ c8.2.1 ≤ Mx := hw7
          show W p l e _ s m _ below meth c H locs _ _ _ (F0 m 69 ls [])
          obtain ⟨k1, k2, k3⟩ := hw7
          refine lv_aload_n hx hb d_Wh_subtract_69 rfl (lv_at hl 0 rfl) ?_
          refine lv_aload_n hx hb d_Wh_subtract_70 rfl (lv_at hl 1 rfl) ?_
          refine r_get C K S 2 rfl rfl clOk_Wh 2 (by decide) wf_Wh_19 (v := .int (sgI zo)) rfl d_Wh_subtract_71 ?_
          refine z_ineg (v := sgI (-zo)) hx hb d_Wh_subtract_74 (sg_neg zo) ?_
          refine r_put C K S 0 rfl rfl clOk_Wh 2 (by decide) wf_Wh_19 rfl (ty := .int) (v := .int (sgI (-zo))) (by decide +kernel) rfl rfl (Nat.le_of_ble_eq_true rfl) (fs' := [.ref c8.1, .int (nI c8.2.2.1), .int (sgI (-zo))]) (ws' := [(h0, .inr (2, [.ref c8.1, .int (nI c8.2.2.1), .int (sgI (-zo))])), (c8.1, .inl (k 0, c8.2.1, .inl (fun i => nI (c8.2.2.2 i)))), (ho, .inr (2, [.ref do9, .int (nI no9), .int (sgI zo)])), (do9, .inl (k 0, Lo, .inl (fun i => nI (go i))))]) rfl rfl d_Wh_subtract_75 (fun H locs S => ?_)
          have n1 : ¬ zo = 0 := fun q => hc1 (sgn_0.mpr q)
          have n2 : ¬ zz = 0 := fun q => hc2 (sgn_0.mpr q)
          obtain ⟨g1, g2⟩ := sgn_same hc3
          have S : Sw G A s.heap H locs [(h0, .inr (2, [.ref c8.1, .int (nI c8.2.2.1), .int (sgI (zz - zo))])), (c8.1, .inl (k 0, c8.2.1, .inl (fun i => nI (c8.2.2.2 i)))), (ho, .inr (2, [.ref do9, .int (nI no9), .int (sgI zo)])), (do9, .inl (k 0, Lo, .inl (fun i => nI (go i))))] := by rw [show sgI (zz - zo) = sgI (-zo) from sgn_eq (by omega) (by omega)]; exact S
          exact q_vret C K hsz (c8.1, c8.2.1, c8.2.2.1, c8.2.2.2) (show whO c8.2.1 c8.2.2.1 c8.2.2.2 (zz - zo) ∧ LL ≤ c8.2.1 ∧ c8.2.1 ≤ Mx from ⟨wh_abs k1 (by omega), k2, k3⟩) (S.sub [0, 1, 2, 3] (by decide) rfl) d_Wh_subtract_78 (show 0 + (c8.2.1 - LL) ≤ c8.2.1 - LL from by omega) (show 0 + (2 * (c8.2.1 - LL)) ≤ 2 * (c8.2.1 - LL) from by omega) (show 0 + (c8.2.1 - LL) ≤ Mx from by omega) (show 0 + (2 * (c8.2.1 - LL)) ≤ 2 * Mx from by omega)
        · refine lv_aload_n hx hb d_Wh_subtract_54 rfl (lv_at hl 0 rfl) ?_
          refine lv_aload_n hx hb d_Wh_subtract_55 rfl (lv_at hl 0 rfl) ?_
          refine lv_aload_n hx hb d_Wh_subtract_56 rfl (lv_at hl 1 rfl) ?_
          have hq9 : zo.natAbs ≤ zz.natAbs := by have := mt cp_nz.mpr hc6; omega
          refine q_back0 (wi := [(h0, .inr (2, [.ref dd, .int (nI nn9), .int (sgI zz)])), (dd, .inl (k 0, LL, .inl (fun i => nI (gg i)))), (ho, .inr (2, [.ref do9, .int (nI no9), .int (sgI zo)])), (do9, .inl (k 0, Lo, .inl (fun i => nI (go i))))]) (wr := []) S hA [0, 1, 2, 3] [] rfl rfl (by decide) (by decide) (va_runV (As := [.ref h0, .ref ho]) (rest := []) ⟨hx, hb, C.2.2.1, C.2.2.2.1, C.2.2.2.2.1⟩ (g_Wh_differ_a l G k h0 _ _ Mx dd LL nn9 gg zz ho do9 Lo no9 go zo (by first | assumption | omega) (by first | assumption | omega) (by omega) (by first | assumption | omega) (by first | assumption | omega) (by first | assumption | omega)) (k_virt (n := 2) C wc_Wh_differ rfl rfl wz_Wh wm_Wh_60 wn_Wh_differ ws_Wh_differ (by decide +kernel) ⟨(Nat.le_of_ble_eq_true rfl), (Nat.le_of_ble_eq_true rfl)⟩) (pr_nowVG K S [0, 1, 2, 3] (by decide) rfl 0 rfl rfl) rfl rfl hl.1 rfl (lv_room (Nat.le_of_ble_eq_true rfl)) d_Wh_subtract_57 ⟨(show 0 + Mx ≤ Mx from by omega), (show 0 + (2 * Mx) ≤ 2 * Mx from by omega)⟩) (fun c8 H locs hw8 S => ?_)
          have S : Sw G A s.heap _ _ [(h0, .inr (2, [.ref c8.1, .int (nI c8.2.2.1), .int (if c8.2.2.1 = 0 then 0 else sgI zz)])), (c8.1, .inl (k 0, c8.2.1, .inl (fun i => nI (c8.2.2.2 i)))), (ho, .inr (2, [.ref do9, .int (nI no9), .int (sgI zo)])), (do9, .inl (k 0, Lo, .inl (fun i => nI (go i))))] := S
          have hw8 : whO c8.2.1 c8.2.2.1 c8.2.2.2 ((zz.natAbs - zo.natAbs : Nat) : Int) ∧ LL ≤ c8.2.1 ∧ c8.2.1 ≤ Mx := hw8
          show W p l e _ s m _ below meth c H locs _ _ _ (F0 m 60 ls [])
          obtain ⟨k1, k2, k3⟩ := hw8
          refine lv_goto (tgt := 78) hx hb d_Wh_subtract_60 (by decide) ?_
          have n1 : ¬ zo = 0 := fun q => hc1 (sgn_0.mpr q)
          have n2 : ¬ zz = 0 := fun q => hc2 (sgn_0.mpr q)
          obtain ⟨g1, g2⟩ := sgn_same hc3
          have S : Sw G A s.heap H locs [(h0, .inr (2, [.ref c8.1, .int (nI c8.2.2.1), .int (sgI (zz - zo))])), (c8.1, .inl (k 0, c8.2.1, .inl (fun i => nI (c8.2.2.2 i)))), (ho, .inr (2, [.ref do9, .int (nI no9), .int (sgI zo)])), (do9, .inl (k 0, Lo, .inl (fun i => nI (go i))))] := by rw [← sg_pick (z := zz - zo) (z2 := zz) (whn_0 k1) (by omega) (fun _ => sgn_eq (by omega) (by omega))]; exact S
          exact q_vret C K hsz (c8.1, c8.2.1, c8.2.2.1, c8.2.2.2) (show whO c8.2.1 c8.2.2.1 c8.2.2.2 (zz - zo) ∧ LL ≤ c8.2.1 ∧ c8.2.1 ≤ Mx from ⟨wh_abs k1 (by omega), k2, k3⟩) (S.sub [0, 1, 2, 3] (by decide) rfl) d_Wh_subtract_78 (show 0 + (c8.2.1 - LL) ≤ c8.2.1 - LL from by omega) (show 0 + (2 * (c8.2.1 - LL)) ≤ 2 * (c8.2.1 - LL) from by omega) (show 0 + (c8.2.1 - LL) ≤ Mx from by omega) (show 0 + (2 * (c8.2.1 - LL)) ≤ 2 * Mx from by omega)
      · refine lv_aload_n hx hb d_Wh_subtract_38 rfl (lv_at hl 0 rfl) ?_
        refine lv_aload_n hx hb d_Wh_subtract_39 rfl (lv_at hl 1 rfl) ?_
        refine q_back0 (wi := [(h0, .inr (2, [.ref dd, .int (nI nn9), .int (sgI zz)])), (dd, .inl (k 0, LL, .inl (fun i => nI (gg i)))), (ho, .inr (2, [.ref do9, .int (nI no9), .int (sgI zo)])), (do9, .inl (k 0, Lo, .inl (fun i => nI (go i))))]) (wr := []) S hA [0, 1, 2, 3] [] rfl rfl (by decide) (by decide) (va_runV (As := [.ref ho]) (rest := []) ⟨hx, hb, C.2.2.1, C.2.2.2.1, C.2.2.2.2.1⟩ (g_Wh_addAmount l G k h0 _ _ Mx dd LL nn9 gg zz ho do9 Lo no9 go zo (by first | assumption | omega) (by first | assumption | omega) (by first | assumption | omega) (by first | assumption | omega) (by first | assumption | omega) (by first | assumption | omega)) (k_virt (n := 1) C wc_Wh_addAmount rfl rfl wz_Wh wm_Wh_57 wn_Wh_addAmount ws_Wh_addAmount (by decide +kernel) ⟨(Nat.le_of_ble_eq_true rfl), (Nat.le_of_ble_eq_true rfl)⟩) (pr_nowVG K S [0, 1, 2, 3] (by decide) rfl 0 rfl rfl) rfl rfl hl.1 rfl (lv_room (Nat.le_of_ble_eq_true rfl)) d_Wh_subtract_40 ⟨(show 0 + Mx ≤ Mx from by omega), (show 0 + (2 * Mx) ≤ 2 * Mx from by omega)⟩) (fun c8 H locs hw9 S => ?_)
        have S : Sw G A s.heap _ _ [(h0, .inr (2, [.ref c8.1, .int (nI c8.2.2.1), .int (if c8.2.2.1 = 0 then 0 else sgI zz)])), (c8.1, .inl (k 0, c8.2.1, .inl (fun i => nI (c8.2.2.2 i)))), (ho, .inr (2, [.ref do9, .int (nI no9), .int (sgI zo)])), (do9, .inl (k 0, Lo, .inl (fun i => nI (go i))))] := S
        have hw9 : whO c8.2.1 c8.2.2.1 c8.2.2.2 ((zz.natAbs + zo.natAbs : Nat) : Int) ∧ LL ≤ c8.2.1 ∧ c8.2.1 ≤ Mx := hw9
        show W p l e _ s m _ below meth c H locs _ _ _ (F0 m 43 ls [])
        obtain ⟨k1, k2, k3⟩ := hw9
        refine lv_goto (tgt := 78) hx hb d_Wh_subtract_43 (by decide) ?_
        have n1 : ¬ zo = 0 := fun q => hc1 (sgn_0.mpr q)
        have n2 : ¬ zz = 0 := fun q => hc2 (sgn_0.mpr q)
        have hs9 : ¬ ((zz < 0 ↔ zo < 0)) := fun q => hc3 (sgn_eq q (by omega))
        have S : Sw G A s.heap H locs [(h0, .inr (2, [.ref c8.1, .int (nI c8.2.2.1), .int (sgI (zz - zo))])), (c8.1, .inl (k 0, c8.2.1, .inl (fun i => nI (c8.2.2.2 i)))), (ho, .inr (2, [.ref do9, .int (nI no9), .int (sgI zo)])), (do9, .inl (k 0, Lo, .inl (fun i => nI (go i))))] := by rw [← sg_pick (z := zz - zo) (z2 := zz) (whn_0 k1) (by omega) (fun _ => sgn_eq (by omega) (by omega))]; exact S
        exact q_vret C K hsz (c8.1, c8.2.1, c8.2.2.1, c8.2.2.2) (show whO c8.2.1 c8.2.2.1 c8.2.2.2 (zz - zo) ∧ LL ≤ c8.2.1 ∧ c8.2.1 ≤ Mx from ⟨wh_abs k1 (by omega), k2, k3⟩) (S.sub [0, 1, 2, 3] (by decide) rfl) d_Wh_subtract_78 (show 0 + (c8.2.1 - LL) ≤ c8.2.1 - LL from by omega) (show 0 + (2 * (c8.2.1 - LL)) ≤ 2 * (c8.2.1 - LL) from by omega) (show 0 + (c8.2.1 - LL) ≤ Mx from by omega) (show 0 + (2 * (c8.2.1 - LL)) ≤ 2 * Mx from by omega)
    · refine lv_aload_n hx hb d_Wh_subtract_15 rfl (lv_at hl 0 rfl) ?_
      refine lv_aload_n hx hb d_Wh_subtract_16 rfl (lv_at hl 1 rfl) ?_
      refine q_back0 (wi := [(h0, .inr (2, [.ref dd, .int (nI nn9), .int (sgI zz)])), (dd, .inl (k 0, LL, .inl (fun i => nI (gg i)))), (ho, .inr (2, [.ref do9, .int (nI no9), .int (sgI zo)])), (do9, .inl (k 0, Lo, .inl (fun i => nI (go i))))]) (wr := []) S hA [0, 1, 2, 3] [] rfl rfl (by decide) (by decide) (va_runV (As := [.ref ho]) (rest := []) ⟨hx, hb, C.2.2.1, C.2.2.2.1, C.2.2.2.2.1⟩ (g_Wh_copy l G k h0 _ _ Mx dd LL (nI nn9) (sgI zz) gg ho do9 Lo no9 go zo (wh_ra hw) (by first | assumption | omega) (by first | assumption | omega) (by first | assumption | omega) (by first | assumption | omega)) (k_virt (n := 1) C wc_Wh_copy rfl rfl wz_Wh wm_Wh_50 wn_Wh_copy ws_Wh_copy (by decide +kernel) ⟨(Nat.le_of_ble_eq_true rfl), (Nat.le_of_ble_eq_true rfl)⟩) (pr_nowVG K S [0, 1, 2, 3] (by decide) rfl 0 rfl rfl) rfl rfl hl.1 rfl (lv_room (Nat.le_of_ble_eq_true rfl)) d_Wh_subtract_17 ⟨(show 0 + Mx ≤ Mx from by omega), (show 0 + (2 * Mx) ≤ 2 * Mx from by omega)⟩) (fun c8 H locs hw10 S => ?_)
      have S : Sw G A s.heap _ _ [(h0, .inr (2, [.ref c8.1, .int (nI no9), .int (sgI zo)])), (c8.1, .inl (k 0, c8.2.1, .inl (fun i => nI (c8.2.2 i)))), (ho, .inr (2, [.ref do9, .int (nI no9), .int (sgI zo)])), (do9, .inl (k 0, Lo, .inl (fun i => nI (go i))))] := S
      have hw10 : whO c8.2.1 no9 c8.2.2 zo ∧ LL ≤ c8.2.1 ∧ c8.2.1 ≤ Mx := hw10
      show W p l e _ s m _ below meth c H locs _ _ _ (F0 m 20 ls [])
      obtain ⟨k1, k2, k3⟩ := hw10
      refine lv_aload_n hx hb d_Wh_subtract_20 rfl (lv_at hl 0 rfl) ?_
      refine q_back0 (wi := [(h0, .inr (2, [.ref c8.1, .int (nI no9), .int (sgI zo)])), (c8.1, .inl (k 0, c8.2.1, .inl (fun i => nI (c8.2.2 i))))]) (wr := [(ho, .inr (2, [.ref do9, .int (nI no9), .int (sgI zo)])), (do9, .inl (k 0, Lo, .inl (fun i => nI (go i))))]) S hA [0, 1] [2, 3] rfl rfl (by decide) (by decide) (va_runV (As := []) (rest := []) ⟨hx, hb, C.2.2.1, C.2.2.2.1, C.2.2.2.2.1⟩ (g_Wh_negate l G k h0 _ _ c8.1 c8.2.1 no9 c8.2.2 zo) (k_virt (n := 0) C wc_Wh_negate rfl rfl wz_Wh wm_Wh_54 wn_Wh_negate ws_Wh_negate (by decide +kernel) ⟨(Nat.le_of_ble_eq_true rfl), (Nat.le_of_ble_eq_true rfl)⟩) (pr_nowVG K S [0, 1] (by decide) rfl 0 rfl rfl) rfl rfl hl.1 rfl (lv_room (Nat.le_of_ble_eq_true rfl)) d_Wh_subtract_21 ⟨(show 0 + (c8.2.1 - LL) ≤ Mx from by omega), (show 0 + (2 * (c8.2.1 - LL)) ≤ 2 * Mx from by omega)⟩) (fun u11 H locs hw12 S => ?_)
      have S : Sw G A s.heap _ _ [(ho, .inr (2, [.ref do9, .int (nI no9), .int (sgI zo)])), (do9, .inl (k 0, Lo, .inl (fun i => nI (go i)))), (h0, .inr (2, [.ref c8.1, .int (nI no9), .int (sgI (-zo))])), (c8.1, .inl (k 0, c8.2.1, .inl (fun i => nI (c8.2.2 i))))] := S
      have hw12 : True := hw12
      show W p l e _ s m _ below meth c H locs _ _ _ (F0 m 24 ls [])
      refine lv_goto (tgt := 78) hx hb d_Wh_subtract_24 (by decide) ?_
      have e0 : zz = 0 := sgn_0.mp hc2
      have e1 : zz - zo = -zo := by omega
      have S : Sw G A s.heap H locs [(ho, .inr (2, [.ref do9, .int (nI no9), .int (sgI zo)])), (do9, .inl (k 0, Lo, .inl (fun i => nI (go i)))), (h0, .inr (2, [.ref c8.1, .int (nI no9), .int (sgI (zz - zo))])), (c8.1, .inl (k 0, c8.2.1, .inl (fun i => nI (c8.2.2 i))))] := by rw [e1]; exact S
      exact q_vret C K hsz (c8.1, c8.2.1, no9, c8.2.2) (show whO c8.2.1 no9 c8.2.2 (zz - zo) ∧ LL ≤ c8.2.1 ∧ c8.2.1 ≤ Mx from ⟨wh_abs k1 (by rw [e1, Int.natAbs_neg]), k2, k3⟩) (S.sub [2, 3, 0, 1] (by decide) rfl) d_Wh_subtract_78 (show 0 + (c8.2.1 - LL) ≤ c8.2.1 - LL from by omega) (show 0 + (2 * (c8.2.1 - LL)) ≤ 2 * (c8.2.1 - LL) from by omega) (show 0 + (c8.2.1 - LL) ≤ Mx from by omega) (show 0 + (2 * (c8.2.1 - LL)) ≤ 2 * Mx from by omega)
  · have e0 : zo = 0 := sgn_0.mp hc1
    have e1 : zz - zo = zz := by omega
    have S : Sw G A s.heap s.heap [] [(h0, .inr (2, [.ref dd, .int (nI nn9), .int (sgI (zz - zo))])), (dd, .inl (k 0, LL, .inl (fun i => nI (gg i)))), (ho, .inr (2, [.ref do9, .int (nI no9), .int (sgI zo)])), (do9, .inl (k 0, Lo, .inl (fun i => nI (go i))))] := by rw [e1]; exact S
    exact q_vret C K hsz (dd, LL, nn9, gg) (show whO LL nn9 gg (zz - zo) ∧ LL ≤ LL ∧ LL ≤ Mx from ⟨by rw [e1]; exact hw, Nat.le_refl _, hm2⟩) (S.sub [0, 1, 2, 3] (by decide) rfl) d_Wh_subtract_7 (Nat.zero_le _) (Nat.zero_le _) (Nat.zero_le _) (Nat.zero_le _)
theorem d_Wh_multiply_0 : decode c_Wh_multiply 0 = .ok (.aload_n 1, 1) := by decide +kernel
theorem d_Wh_multiply_1 : decode c_Wh_multiply 1 = .ok (.getfield 29, 3) := by decide +kernel
theorem d_Wh_multiply_4 : decode c_Wh_multiply 4 = .ok (.aload_n 2, 1) := by decide +kernel
theorem d_Wh_multiply_5 : decode c_Wh_multiply 5 = .ok (.getfield 29, 3) := by decide +kernel
theorem d_Wh_multiply_8 : decode c_Wh_multiply 8 = .ok (.iadd, 1) := by decide +kernel
theorem d_Wh_multiply_9 : decode c_Wh_multiply 9 = .ok (.istore_n 3, 1) := by decide +kernel
theorem d_Wh_multiply_10 : decode c_Wh_multiply 10 = .ok (.aload_n 0, 1) := by decide +kernel
theorem d_Wh_multiply_11 : decode c_Wh_multiply 11 = .ok (.iload_n 3, 1) := by decide +kernel
theorem d_Wh_multiply_12 : decode c_Wh_multiply 12 = .ok (.invokevirtual 32, 3) := by decide +kernel
theorem d_Wh_multiply_15 : decode c_Wh_multiply 15 = .ok (.iconst 0, 1) := by decide +kernel
theorem d_Wh_multiply_16 : decode c_Wh_multiply 16 = .ok (.istore 4, 2) := by decide +kernel
theorem d_Wh_multiply_18 : decode c_Wh_multiply 18 = .ok (.iload 4, 2) := by decide +kernel
theorem d_Wh_multiply_20 : decode c_Wh_multiply 20 = .ok (.iload_n 3, 1) := by decide +kernel
theorem d_Wh_multiply_21 : decode c_Wh_multiply 21 = .ok (.if_icmp .ge 17, 3) := by decide +kernel
theorem d_Wh_multiply_24 : decode c_Wh_multiply 24 = .ok (.aload_n 0, 1) := by decide +kernel
theorem d_Wh_multiply_25 : decode c_Wh_multiply 25 = .ok (.getfield 9, 3) := by decide +kernel
theorem d_Wh_multiply_28 : decode c_Wh_multiply 28 = .ok (.iload 4, 2) := by decide +kernel
theorem d_Wh_multiply_30 : decode c_Wh_multiply 30 = .ok (.iconst 0, 1) := by decide +kernel
theorem d_Wh_multiply_31 : decode c_Wh_multiply 31 = .ok (.iastore, 1) := by decide +kernel
theorem d_Wh_multiply_32 : decode c_Wh_multiply 32 = .ok (.iinc 4 1, 3) := by decide +kernel
theorem d_Wh_multiply_35 : decode c_Wh_multiply 35 = .ok (.goto (-17), 3) := by decide +kernel
theorem d_Wh_multiply_38 : decode c_Wh_multiply 38 = .ok (.iconst 0, 1) := by decide +kernel
theorem d_Wh_multiply_39 : decode c_Wh_multiply 39 = .ok (.istore 4, 2) := by decide +kernel
theorem d_Wh_multiply_41 : decode c_Wh_multiply 41 = .ok (.iload 4, 2) := by decide +kernel
theorem d_Wh_multiply_43 : decode c_Wh_multiply 43 = .ok (.aload_n 1, 1) := by decide +kernel
theorem d_Wh_multiply_44 : decode c_Wh_multiply 44 = .ok (.getfield 29, 3) := by decide +kernel
theorem d_Wh_multiply_47 : decode c_Wh_multiply 47 = .ok (.if_icmp .ge 103, 3) := by decide +kernel
theorem d_Wh_multiply_50 : decode c_Wh_multiply 50 = .ok (.lconst 0, 1) := by decide +kernel
theorem d_Wh_multiply_51 : decode c_Wh_multiply 51 = .ok (.lstore 5, 2) := by decide +kernel
theorem d_Wh_multiply_53 : decode c_Wh_multiply 53 = .ok (.iconst 0, 1) := by decide +kernel
theorem d_Wh_multiply_54 : decode c_Wh_multiply 54 = .ok (.istore 7, 2) := by decide +kernel
theorem d_Wh_multiply_56 : decode c_Wh_multiply 56 = .ok (.iload 7, 2) := by decide +kernel
theorem d_Wh_multiply_58 : decode c_Wh_multiply 58 = .ok (.aload_n 2, 1) := by decide +kernel
theorem d_Wh_multiply_59 : decode c_Wh_multiply 59 = .ok (.getfield 29, 3) := by decide +kernel
theorem d_Wh_multiply_62 : decode c_Wh_multiply 62 = .ok (.if_icmp .ge 67, 3) := by decide +kernel
theorem d_Wh_multiply_65 : decode c_Wh_multiply 65 = .ok (.lload 5, 2) := by decide +kernel
theorem d_Wh_multiply_67 : decode c_Wh_multiply 67 = .ok (.aload_n 0, 1) := by decide +kernel
theorem d_Wh_multiply_68 : decode c_Wh_multiply 68 = .ok (.getfield 9, 3) := by decide +kernel
theorem d_Wh_multiply_71 : decode c_Wh_multiply 71 = .ok (.iload 4, 2) := by decide +kernel
theorem d_Wh_multiply_73 : decode c_Wh_multiply 73 = .ok (.iload 7, 2) := by decide +kernel
theorem d_Wh_multiply_75 : decode c_Wh_multiply 75 = .ok (.iadd, 1) := by decide +kernel
theorem d_Wh_multiply_76 : decode c_Wh_multiply 76 = .ok (.iaload, 1) := by decide +kernel
theorem d_Wh_multiply_77 : decode c_Wh_multiply 77 = .ok (.i2l, 1) := by decide +kernel
theorem d_Wh_multiply_78 : decode c_Wh_multiply 78 = .ok (.aload_n 1, 1) := by decide +kernel
theorem d_Wh_multiply_79 : decode c_Wh_multiply 79 = .ok (.getfield 9, 3) := by decide +kernel
theorem d_Wh_multiply_82 : decode c_Wh_multiply 82 = .ok (.iload 4, 2) := by decide +kernel
theorem d_Wh_multiply_84 : decode c_Wh_multiply 84 = .ok (.iaload, 1) := by decide +kernel
theorem d_Wh_multiply_85 : decode c_Wh_multiply 85 = .ok (.i2l, 1) := by decide +kernel
theorem d_Wh_multiply_86 : decode c_Wh_multiply 86 = .ok (.aload_n 2, 1) := by decide +kernel
theorem d_Wh_multiply_87 : decode c_Wh_multiply 87 = .ok (.getfield 9, 3) := by decide +kernel
theorem d_Wh_multiply_90 : decode c_Wh_multiply 90 = .ok (.iload 7, 2) := by decide +kernel
theorem d_Wh_multiply_92 : decode c_Wh_multiply 92 = .ok (.iaload, 1) := by decide +kernel
theorem d_Wh_multiply_93 : decode c_Wh_multiply 93 = .ok (.i2l, 1) := by decide +kernel
theorem d_Wh_multiply_94 : decode c_Wh_multiply 94 = .ok (.lmul, 1) := by decide +kernel
theorem d_Wh_multiply_95 : decode c_Wh_multiply 95 = .ok (.ladd, 1) := by decide +kernel
theorem d_Wh_multiply_96 : decode c_Wh_multiply 96 = .ok (.ladd, 1) := by decide +kernel
theorem d_Wh_multiply_97 : decode c_Wh_multiply 97 = .ok (.lstore 5, 2) := by decide +kernel
theorem d_Wh_multiply_99 : decode c_Wh_multiply 99 = .ok (.aload_n 0, 1) := by decide +kernel
theorem d_Wh_multiply_100 : decode c_Wh_multiply 100 = .ok (.getfield 9, 3) := by decide +kernel
theorem d_Wh_multiply_103 : decode c_Wh_multiply 103 = .ok (.iload 4, 2) := by decide +kernel
theorem d_Wh_multiply_105 : decode c_Wh_multiply 105 = .ok (.iload 7, 2) := by decide +kernel
theorem d_Wh_multiply_107 : decode c_Wh_multiply 107 = .ok (.iadd, 1) := by decide +kernel
theorem d_Wh_multiply_108 : decode c_Wh_multiply 108 = .ok (.lload 5, 2) := by decide +kernel
theorem d_Wh_multiply_110 : decode c_Wh_multiply 110 = .ok (.ldc2_w 23, 3) := by decide +kernel
theorem d_Wh_multiply_113 : decode c_Wh_multiply 113 = .ok (.land, 1) := by decide +kernel
theorem d_Wh_multiply_114 : decode c_Wh_multiply 114 = .ok (.l2i, 1) := by decide +kernel
theorem d_Wh_multiply_115 : decode c_Wh_multiply 115 = .ok (.iastore, 1) := by decide +kernel
theorem d_Wh_multiply_116 : decode c_Wh_multiply 116 = .ok (.lload 5, 2) := by decide +kernel
theorem d_Wh_multiply_118 : decode c_Wh_multiply 118 = .ok (.bipush 31, 2) := by decide +kernel
theorem d_Wh_multiply_120 : decode c_Wh_multiply 120 = .ok (.lshr, 1) := by decide +kernel
theorem d_Wh_multiply_121 : decode c_Wh_multiply 121 = .ok (.lstore 5, 2) := by decide +kernel
theorem d_Wh_multiply_123 : decode c_Wh_multiply 123 = .ok (.iinc 7 1, 3) := by decide +kernel
theorem d_Wh_multiply_126 : decode c_Wh_multiply 126 = .ok (.goto (-70), 3) := by decide +kernel
theorem d_Wh_multiply_129 : decode c_Wh_multiply 129 = .ok (.aload_n 0, 1) := by decide +kernel
theorem d_Wh_multiply_130 : decode c_Wh_multiply 130 = .ok (.getfield 9, 3) := by decide +kernel
theorem d_Wh_multiply_133 : decode c_Wh_multiply 133 = .ok (.iload 4, 2) := by decide +kernel
theorem d_Wh_multiply_135 : decode c_Wh_multiply 135 = .ok (.aload_n 2, 1) := by decide +kernel
theorem d_Wh_multiply_136 : decode c_Wh_multiply 136 = .ok (.getfield 29, 3) := by decide +kernel
theorem d_Wh_multiply_139 : decode c_Wh_multiply 139 = .ok (.iadd, 1) := by decide +kernel
theorem d_Wh_multiply_140 : decode c_Wh_multiply 140 = .ok (.lload 5, 2) := by decide +kernel
theorem d_Wh_multiply_142 : decode c_Wh_multiply 142 = .ok (.l2i, 1) := by decide +kernel
theorem d_Wh_multiply_143 : decode c_Wh_multiply 143 = .ok (.iastore, 1) := by decide +kernel
theorem d_Wh_multiply_144 : decode c_Wh_multiply 144 = .ok (.iinc 4 1, 3) := by decide +kernel
theorem d_Wh_multiply_147 : decode c_Wh_multiply 147 = .ok (.goto (-106), 3) := by decide +kernel
theorem d_Wh_multiply_150 : decode c_Wh_multiply 150 = .ok (.aload_n 0, 1) := by decide +kernel
theorem d_Wh_multiply_151 : decode c_Wh_multiply 151 = .ok (.aload_n 1, 1) := by decide +kernel
theorem d_Wh_multiply_152 : decode c_Wh_multiply 152 = .ok (.getfield 19, 3) := by decide +kernel
theorem d_Wh_multiply_155 : decode c_Wh_multiply 155 = .ok (.aload_n 2, 1) := by decide +kernel
theorem d_Wh_multiply_156 : decode c_Wh_multiply 156 = .ok (.getfield 19, 3) := by decide +kernel
theorem d_Wh_multiply_159 : decode c_Wh_multiply 159 = .ok (.imul, 1) := by decide +kernel
theorem d_Wh_multiply_160 : decode c_Wh_multiply 160 = .ok (.putfield 19, 3) := by decide +kernel
theorem d_Wh_multiply_163 : decode c_Wh_multiply 163 = .ok (.aload_n 0, 1) := by decide +kernel
theorem d_Wh_multiply_164 : decode c_Wh_multiply 164 = .ok (.iload_n 3, 1) := by decide +kernel
theorem d_Wh_multiply_165 : decode c_Wh_multiply 165 = .ok (.invokevirtual 25, 3) := by decide +kernel
theorem d_Wh_multiply_168 : decode c_Wh_multiply 168 = .ok (.return_, 1) := by decide +kernel
set_option maxRecDepth 100000 in
set_option maxHeartbeats 16000000 in
/-- multiply -/
theorem g_Wh_multiply (l : Launch) (G : va_G) (k : Nat → ClassId) (h0 : Nat) (s0 sl : Nat) (Mx : Nat) (dd : Nat) (LL : Nat) (xs9 : Int32) (ys9 : Int32) (gg : Nat → Nat) (hX : Nat) (dx : Nat) (LX : Nat) (nx : Nat) (gx : Nat → Nat) (zx : Int) (hY : Nat) (dy : Nat) (LY : Nat) (ny : Nat) (gy : Nat → Nat) (zy : Int) (hr : raO LL gg) (hw : whO LX nx gx zx) (hv : whO LY ny gy zy) (hm1 : 2 * (nx + ny) ≤ Mx) (hm2 : LL ≤ Mx) (hm3 : Mx ≤ 400) : CG l y_Wh_multiply c_Wh_multiply 8 none { frames := 3, cells := Mx, slots := 2 * Mx, locals := 104 } [.ref h0, .ref hX, .ref hY] G k s0 sl [(h0, .inr (2, [.ref dd, .int xs9, .int ys9])), (dd, .inl (k 0, LL, .inl (fun i => nI (gg i)))), (hX, .inr (2, [.ref dx, .int (nI nx), .int (sgI zx)])), (dx, .inl (k 0, LX, .inl (fun i => nI (gx i)))), (hY, .inr (2, [.ref dy, .int (nI ny), .int (sgI zy)])), (dy, .inl (k 0, LY, .inl (fun i => nI (gy i))))] (fun (u : Nat × Nat × Nat × (Nat → Nat)) => none) (fun (u : Nat × Nat × Nat × (Nat → Nat)) => whO u.2.1 u.2.2.1 u.2.2.2 (zx * zy) ∧ LL ≤ u.2.1 ∧ u.2.1 ≤ Mx) (fun (u : Nat × Nat × Nat × (Nat → Nat)) => [(h0, .inr (2, [.ref u.1, .int (nI u.2.2.1), .int (sgI (zx * zy))])), (u.1, .inl (k 0, u.2.1, .inl (fun i => nI (u.2.2.2 i)))), (hX, .inr (2, [.ref dx, .int (nI nx), .int (sgI zx)])), (dx, .inl (k 0, LX, .inl (fun i => nI (gx i)))), (hY, .inr (2, [.ref dy, .int (nI ny), .int (sgI zy)])), (dy, .inl (k 0, LY, .inl (fun i => nI (gy i))))]) (fun (u : Nat × Nat × Nat × (Nat → Nat)) => u.2.1 - LL) (fun (u : Nat × Nat × Nat × (Nat → Nat)) => 2 * (u.2.1 - LL)) Mx (2 * Mx) := by
  refine met_startG (by decide) (Nat.le_of_ble_eq_true rfl) ?_
  intro p e s m below meth c C K hA hsz S ls hl
  generalize va_A [(h0, .inr (2, [.ref dd, .int xs9, .int ys9])), (dd, .inl (k 0, LL, .inl (fun i => nI (gg i)))), (hX, .inr (2, [.ref dx, .int (nI nx), .int (sgI zx)])), (dx, .inl (k 0, LX, .inl (fun i => nI (gx i)))), (hY, .inr (2, [.ref dy, .int (nI ny), .int (sgI zy)])), (dy, .inl (k 0, LY, .inl (fun i => nI (gy i))))] s0 = A at hA S ⊢
  have hx := C.1
  have hb := C.2.1
  have hl : lv_has ls 8 [(0, .ref h0), (1, .ref hX), (2, .ref hY)] := hl
  have hr0 := hr
  obtain ⟨r1, r2, r3⟩ := hr0
  have hw0 := hw
  obtain ⟨w1, w2, w3, w4, w5, w6⟩ := hw0
  have hv0 := hv
  obtain ⟨v1, v2, v3, v4, v5, v6⟩ := hv0
  refine lv_aload_n hx hb d_Wh_multiply_0 rfl (lv_at hl 1 rfl) ?_
  refine r_get C K S 2 rfl rfl clOk_Wh 1 (by decide) wf_Wh_29 (v := .int (nI nx)) rfl d_Wh_multiply_1 ?_
  refine lv_aload_n hx hb d_Wh_multiply_4 rfl (lv_at hl 2 rfl) ?_
  refine r_get C K S 4 rfl rfl clOk_Wh 1 (by decide) wf_Wh_29 (v := .int (nI ny)) rfl d_Wh_multiply_5 ?_
  refine z_iadd (x := nI nx) (y := nI ny) (v := nI (nx + ny)) hx hb d_Wh_multiply_8 (nI_add nx ny) ?_
  refine lv_istore_n (lv' := [(3, .int (nI (nx + ny))), (0, .ref h0), (1, .ref hX), (2, .ref hY)]) hx hb d_Wh_multiply_9 rfl hl (by decide) rfl (fun ls hl => ?_)
  refine lv_aload_n hx hb d_Wh_multiply_10 rfl (lv_at hl 1 rfl) ?_
  refine lv_iload_n hx hb d_Wh_multiply_11 rfl (lv_at hl 0 rfl) ?_
  refine q_back0 (wi := [(h0, .inr (2, [.ref dd, .int xs9, .int ys9])), (dd, .inl (k 0, LL, .inl (fun i => nI (gg i))))]) (wr := [(hX, .inr (2, [.ref dx, .int (nI nx), .int (sgI zx)])), (dx, .inl (k 0, LX, .inl (fun i => nI (gx i)))), (hY, .inr (2, [.ref dy, .int (nI ny), .int (sgI zy)])), (dy, .inl (k 0, LY, .inl (fun i => nI (gy i))))]) S hA [0, 1] [2, 3, 4, 5] rfl rfl (by decide) (by decide) (va_runV (As := [.int (nI (nx + ny))]) (rest := []) ⟨hx, hb, C.2.2.1, C.2.2.2.1, C.2.2.2.2.1⟩ (g_Wh_room l G k h0 _ _ (nx + ny) Mx dd LL xs9 ys9 gg (by first | exact hr | exact wh_ra hw) (by first | assumption | omega) (by first | assumption | omega) (by first | assumption | omega)) (k_virt (n := 1) C wc_Wh_room rfl rfl wz_Wh wm_Wh_32 wn_Wh_room ws_Wh_room (by decide +kernel) ⟨(Nat.le_of_ble_eq_true rfl), (Nat.le_of_ble_eq_true rfl)⟩) (pr_nowVG K S [0, 1] (by decide) rfl 0 rfl rfl) rfl rfl hl.1 rfl (lv_room (Nat.le_of_ble_eq_true rfl)) d_Wh_multiply_12 ⟨(show 0 + Mx ≤ Mx from by omega), (show 0 + (2 * Mx) ≤ 2 * Mx from by omega)⟩) (fun w8 H locs hw1 S => ?_)
  have S : Sw G A s.heap _ _ [(hX, .inr (2, [.ref dx, .int (nI nx), .int (sgI zx)])), (dx, .inl (k 0, LX, .inl (fun i => nI (gx i)))), (hY, .inr (2, [.ref dy, .int (nI ny), .int (sgI zy)])), (dy, .inl (k 0, LY, .inl (fun i => nI (gy i)))), (h0, .inr (2, [.ref w8.1, .int xs9, .int ys9])), (w8.1, .inl (k 0, w8.2.1, .inl (fun i => nI (w8.2.2 i))))] := S
  have hw1 : raO w8.2.1 w8.2.2 ∧ LL ≤ w8.2.1 ∧ (nx + ny) ≤ w8.2.1 ∧ w8.2.1 ≤ Mx ∧ ∀ i, i < LL → w8.2.2 i = gg i := hw1
  show W p l e _ s m _ below meth c H locs _ _ _ (F0 m 15 ls [])
  obtain ⟨⟨s1, s2, s3⟩, s4, s5, s6, s7⟩ := hw1
  refine lv_iconst (v := 0) hx hb d_Wh_multiply_15 (by decide) ?_
  refine lv_istore (lv' := [(4, .int 0), (3, .int (nI (nx + ny))), (0, .ref h0), (1, .ref hX), (2, .ref hY)]) hx hb d_Wh_multiply_16 hl (by decide) rfl (fun ls hl => ?_)
  have lz : ∀ d9, ∀ (i9 : Nat), ∀ (T6 : Nat → Nat), (nx + ny - i9) < d9 → (i9 ≤ nx + ny) → (∀ i, T6 i < 2147483648) → (∀ i, i < i9 → T6 i = 0) → ∀ (H : Heap) (locs : List Loc), Sw G A s.heap H locs [(h0, .inr (2, [.ref w8.1, .int xs9, .int ys9])), (w8.1, .inl (k 0, w8.2.1, .inl (fun i => nI (T6 i)))), (hX, .inr (2, [.ref dx, .int (nI nx), .int (sgI zx)])), (dx, .inl (k 0, LX, .inl (fun i => nI (gx i)))), (hY, .inr (2, [.ref dy, .int (nI ny), .int (sgI zy)])), (dy, .inl (k 0, LY, .inl (fun i => nI (gy i))))] → ∀ ls : Array Slot, lv_has ls 8 [(4, .int (nI i9)), (3, .int (nI (nx + ny))), (0, .ref h0), (1, .ref hX), (2, .ref hY)] → W p l e { frames := 3, cells := Mx, slots := 2 * Mx, locals := 104 } s m [Value.ref h0, Value.ref hX, Value.ref hY].toArray below meth c H locs (0 + (w8.2.1 - LL)) (0 + (2 * (w8.2.1 - LL))) (MQ below (va_Qg (fun (u : Nat × Nat × Nat × (Nat → Nat)) => none) (fun (u : Nat × Nat × Nat × (Nat → Nat)) => whO u.2.1 u.2.2.1 u.2.2.2 (zx * zy) ∧ LL ≤ u.2.1 ∧ u.2.1 ≤ Mx) (Pog G k A (fun (u : Nat × Nat × Nat × (Nat → Nat)) => [(h0, .inr (2, [.ref u.1, .int (nI u.2.2.1), .int (sgI (zx * zy))])), (u.1, .inl (k 0, u.2.1, .inl (fun i => nI (u.2.2.2 i)))), (hX, .inr (2, [.ref dx, .int (nI nx), .int (sgI zx)])), (dx, .inl (k 0, LX, .inl (fun i => nI (gx i)))), (hY, .inr (2, [.ref dy, .int (nI ny), .int (sgI zy)])), (dy, .inl (k 0, LY, .inl (fun i => nI (gy i))))]) s0 sl (fun (u : Nat × Nat × Nat × (Nat → Nat)) => u.2.1 - LL) (fun (u : Nat × Nat × Nat × (Nat → Nat)) => 2 * (u.2.1 - LL))) A) [Value.ref h0, Value.ref hX, Value.ref hY].toArray s Mx (2 * Mx) A) (F0 m 18 ls []) := by
    intro d9
    induction d9 with
    | zero => intro i9 T6 hm; exact absurd hm (Nat.not_lt_zero _)
    | succ d9 ih_lz =>
      intro i9 T6 hm hi hD6 hZ6 H locs S ls hl
      refine lv_iload hx hb d_Wh_multiply_18 (lv_at hl 0 rfl) ?_
      refine lv_iload_n hx hb d_Wh_multiply_20 rfl (lv_at hl 1 rfl) ?_
      refine z_icmp_ge (a := i9) (b := (nx + ny)) (tgt := 38) hx hb d_Wh_multiply_21 (by decide) (by omega) (by omega) (fun hc2 => ?_) (fun hc2 => ?_)
      · refine lv_iconst (v := 0) hx hb d_Wh_multiply_38 (by decide) ?_
        refine lv_istore (lv' := [(4, .int 0), (3, .int (nI (nx + ny))), (0, .ref h0), (1, .ref hX), (2, .ref hY)]) hx hb d_Wh_multiply_39 hl (by decide) rfl (fun ls hl => ?_)
        have lp : ∀ d9, ∀ (i9 : Nat), ∀ (T8 : Nat → Nat), (nx - i9) < d9 → (i9 ≤ nx) → (vl 2147483648 T8 (nx + ny) = vl 2147483648 gx i9 * vl 2147483648 gy ny) → (∀ i, T8 i < 2147483648) → (∀ i, i9 + ny ≤ i → i < nx + ny → T8 i = 0) → ∀ (H : Heap) (locs : List Loc), Sw G A s.heap H locs [(h0, .inr (2, [.ref w8.1, .int xs9, .int ys9])), (w8.1, .inl (k 0, w8.2.1, .inl (fun i => nI (T8 i)))), (hX, .inr (2, [.ref dx, .int (nI nx), .int (sgI zx)])), (dx, .inl (k 0, LX, .inl (fun i => nI (gx i)))), (hY, .inr (2, [.ref dy, .int (nI ny), .int (sgI zy)])), (dy, .inl (k 0, LY, .inl (fun i => nI (gy i))))] → ∀ ls : Array Slot, lv_has ls 8 [(4, .int (nI i9)), (3, .int (nI (nx + ny))), (0, .ref h0), (1, .ref hX), (2, .ref hY)] → W p l e { frames := 3, cells := Mx, slots := 2 * Mx, locals := 104 } s m [Value.ref h0, Value.ref hX, Value.ref hY].toArray below meth c H locs (0 + (w8.2.1 - LL)) (0 + (2 * (w8.2.1 - LL))) (MQ below (va_Qg (fun (u : Nat × Nat × Nat × (Nat → Nat)) => none) (fun (u : Nat × Nat × Nat × (Nat → Nat)) => whO u.2.1 u.2.2.1 u.2.2.2 (zx * zy) ∧ LL ≤ u.2.1 ∧ u.2.1 ≤ Mx) (Pog G k A (fun (u : Nat × Nat × Nat × (Nat → Nat)) => [(h0, .inr (2, [.ref u.1, .int (nI u.2.2.1), .int (sgI (zx * zy))])), (u.1, .inl (k 0, u.2.1, .inl (fun i => nI (u.2.2.2 i)))), (hX, .inr (2, [.ref dx, .int (nI nx), .int (sgI zx)])), (dx, .inl (k 0, LX, .inl (fun i => nI (gx i)))), (hY, .inr (2, [.ref dy, .int (nI ny), .int (sgI zy)])), (dy, .inl (k 0, LY, .inl (fun i => nI (gy i))))]) s0 sl (fun (u : Nat × Nat × Nat × (Nat → Nat)) => u.2.1 - LL) (fun (u : Nat × Nat × Nat × (Nat → Nat)) => 2 * (u.2.1 - LL))) A) [Value.ref h0, Value.ref hX, Value.ref hY].toArray s Mx (2 * Mx) A) (F0 m 41 ls []) := by
          intro d9
          induction d9 with
          | zero => intro i9 T8 hm; exact absurd hm (Nat.not_lt_zero _)
          | succ d9 ih_lp =>
            intro i9 T8 hm hi hI hD hZ H locs S ls hl
            refine lv_iload hx hb d_Wh_multiply_41 (lv_at hl 0 rfl) ?_
            refine lv_aload_n hx hb d_Wh_multiply_43 rfl (lv_at hl 3 rfl) ?_
            refine r_get C K S 2 rfl rfl clOk_Wh 1 (by decide) wf_Wh_29 (v := .int (nI nx)) rfl d_Wh_multiply_44 ?_
            refine z_icmp_ge (a := i9) (b := nx) (tgt := 150) hx hb d_Wh_multiply_47 (by decide) (by omega) (by omega) (fun hc3 => ?_) (fun hc3 => ?_)
            · refine lv_aload_n hx hb d_Wh_multiply_150 rfl (lv_at hl 2 rfl) ?_
              refine lv_aload_n hx hb d_Wh_multiply_151 rfl (lv_at hl 3 rfl) ?_
              refine r_get C K S 2 rfl rfl clOk_Wh 2 (by decide) wf_Wh_19 (v := .int (sgI zx)) rfl d_Wh_multiply_152 ?_
              refine lv_aload_n hx hb d_Wh_multiply_155 rfl (lv_at hl 4 rfl) ?_
              refine r_get C K S 4 rfl rfl clOk_Wh 2 (by decide) wf_Wh_19 (v := .int (sgI zy)) rfl d_Wh_multiply_156 ?_
              refine z_imul (v := sgI (zx * zy)) hx hb d_Wh_multiply_159 (sg_mul zx zy) ?_
              refine r_put C K S 0 rfl rfl clOk_Wh 2 (by decide) wf_Wh_19 rfl (ty := .int) (v := .int (sgI (zx * zy))) (by decide +kernel) rfl rfl (Nat.le_of_ble_eq_true rfl) (fs' := [.ref w8.1, .int xs9, .int (sgI (zx * zy))]) (ws' := [(h0, .inr (2, [.ref w8.1, .int xs9, .int (sgI (zx * zy))])), (w8.1, .inl (k 0, w8.2.1, .inl (fun i => nI (T8 i)))), (hX, .inr (2, [.ref dx, .int (nI nx), .int (sgI zx)])), (dx, .inl (k 0, LX, .inl (fun i => nI (gx i)))), (hY, .inr (2, [.ref dy, .int (nI ny), .int (sgI zy)])), (dy, .inl (k 0, LY, .inl (fun i => nI (gy i))))]) rfl rfl d_Wh_multiply_160 (fun H locs S => ?_)
              refine lv_aload_n hx hb d_Wh_multiply_163 rfl (lv_at hl 2 rfl) ?_
              refine lv_iload_n hx hb d_Wh_multiply_164 rfl (lv_at hl 1 rfl) ?_
              have e9 : i9 = nx := by omega
              rw [e9] at hI
              refine q_back0 (wi := [(h0, .inr (2, [.ref w8.1, .int xs9, .int (sgI (zx * zy))])), (w8.1, .inl (k 0, w8.2.1, .inl (fun i => nI (T8 i))))]) (wr := [(hX, .inr (2, [.ref dx, .int (nI nx), .int (sgI zx)])), (dx, .inl (k 0, LX, .inl (fun i => nI (gx i)))), (hY, .inr (2, [.ref dy, .int (nI ny), .int (sgI zy)])), (dy, .inl (k 0, LY, .inl (fun i => nI (gy i))))]) S hA [0, 1] [2, 3, 4, 5] rfl rfl (by decide) (by decide) (va_runV (As := [.int (nI (nx + ny))]) (rest := []) ⟨hx, hb, C.2.2.1, C.2.2.2.1, C.2.2.2.2.1⟩ (g_Wh_trim l G k h0 _ _ (nx + ny) w8.1 w8.2.1 xs9 (sgI (zx * zy)) T8 ⟨s1, s2, hD⟩ (by omega)) (k_virt (n := 1) C wc_Wh_trim rfl rfl wz_Wh wm_Wh_25 wn_Wh_trim ws_Wh_trim (by decide +kernel) ⟨(Nat.le_of_ble_eq_true rfl), (Nat.le_of_ble_eq_true rfl)⟩) (pr_nowVG K S [0, 1] (by decide) rfl 0 rfl rfl) rfl rfl hl.1 rfl (lv_room (Nat.le_of_ble_eq_true rfl)) d_Wh_multiply_165 ⟨(show 0 + (w8.2.1 - LL) ≤ Mx from by omega), (show 0 + (2 * (w8.2.1 - LL)) ≤ 2 * Mx from by omega)⟩) (fun n7 H locs hw4 S => ?_)
              have S : Sw G A s.heap _ _ [(hX, .inr (2, [.ref dx, .int (nI nx), .int (sgI zx)])), (dx, .inl (k 0, LX, .inl (fun i => nI (gx i)))), (hY, .inr (2, [.ref dy, .int (nI ny), .int (sgI zy)])), (dy, .inl (k 0, LY, .inl (fun i => nI (gy i)))), (h0, .inr (2, [.ref w8.1, .int (nI n7), .int (if n7 = 0 then 0 else (sgI (zx * zy)))])), (w8.1, .inl (k 0, w8.2.1, .inl (fun i => nI (T8 i))))] := S
              have hw4 : n7 ≤ (nx + ny) ∧ (n7 = 0 ∨ T8 (n7 - 1) ≠ 0) ∧ vl 2147483648 T8 n7 = vl 2147483648 T8 (nx + ny) := hw4
              show W p l e _ s m _ below meth c H locs _ _ _ (F0 m 168 ls [])
              obtain ⟨t1, t2, t3⟩ := hw4
              have kw : whO w8.2.1 n7 T8 (zx * zy) := wh_of (by omega) ⟨s1, s2, hD⟩ t2 (by rw [t3, hI, w6, v6]) (Int.natAbs_mul zx zy)
              have S : Sw G A s.heap H locs [(hX, .inr (2, [.ref dx, .int (nI nx), .int (sgI zx)])), (dx, .inl (k 0, LX, .inl (fun i => nI (gx i)))), (hY, .inr (2, [.ref dy, .int (nI ny), .int (sgI zy)])), (dy, .inl (k 0, LY, .inl (fun i => nI (gy i)))), (h0, .inr (2, [.ref w8.1, .int (nI n7), .int (sgI (zx * zy))])), (w8.1, .inl (k 0, w8.2.1, .inl (fun i => nI (T8 i))))] := by rw [← sg_pick (n := n7) (z := zx * zy) (z2 := zx * zy) (whn_0 kw) (fun q => q) (fun _ => rfl)]; exact S
              exact q_vret C K hsz (w8.1, w8.2.1, n7, T8) (show whO w8.2.1 n7 T8 (zx * zy) ∧ LL ≤ w8.2.1 ∧ w8.2.1 ≤ Mx from ⟨kw, s4, s6⟩) (S.sub [4, 5, 0, 1, 2, 3] (by decide) rfl) d_Wh_multiply_168 (show 0 + (w8.2.1 - LL) ≤ w8.2.1 - LL from by omega) (show 0 + (2 * (w8.2.1 - LL)) ≤ 2 * (w8.2.1 - LL) from by omega) (show 0 + (w8.2.1 - LL) ≤ Mx from by omega) (show 0 + (2 * (w8.2.1 - LL)) ≤ 2 * Mx from by omega)
            · refine lv_lconst (v := 0) hx hb d_Wh_multiply_50 (by decide) ?_
              refine lv_lstore (lv' := [(5, .long 0), (4, .int (nI i9)), (3, .int (nI (nx + ny))), (0, .ref h0), (1, .ref hX), (2, .ref hY)]) hx hb d_Wh_multiply_51 hl (by decide) rfl (fun ls hl => ?_)
              refine lv_iconst (v := 0) hx hb d_Wh_multiply_53 (by decide) ?_
              refine lv_istore (lv' := [(7, .int 0), (5, .long 0), (4, .int (nI i9)), (3, .int (nI (nx + ny))), (0, .ref h0), (1, .ref hX), (2, .ref hY)]) hx hb d_Wh_multiply_54 hl (by decide) rfl (fun ls hl => ?_)
              have lq : ∀ d9, ∀ (j9 : Nat), ∀ (c8 : Nat), ∀ (T7 : Nat → Nat), (ny - j9) < d9 → (j9 ≤ ny) → (vl 2147483648 T7 (nx + ny) + c8 * 2147483648 ^ (i9 + j9) = vl 2147483648 gx i9 * vl 2147483648 gy ny + gx i9 * vl 2147483648 gy j9 * 2147483648 ^ i9) → (c8 < 2147483648) → (∀ i, T7 i < 2147483648) → (∀ i, i9 + ny ≤ i → i < nx + ny → T7 i = 0) → ∀ (H : Heap) (locs : List Loc), Sw G A s.heap H locs [(h0, .inr (2, [.ref w8.1, .int xs9, .int ys9])), (w8.1, .inl (k 0, w8.2.1, .inl (fun i => nI (T7 i)))), (hX, .inr (2, [.ref dx, .int (nI nx), .int (sgI zx)])), (dx, .inl (k 0, LX, .inl (fun i => nI (gx i)))), (hY, .inr (2, [.ref dy, .int (nI ny), .int (sgI zy)])), (dy, .inl (k 0, LY, .inl (fun i => nI (gy i))))] → ∀ ls : Array Slot, lv_has ls 8 [(5, .long (lN c8)), (7, .int (nI j9)), (4, .int (nI i9)), (3, .int (nI (nx + ny))), (0, .ref h0), (1, .ref hX), (2, .ref hY)] → W p l e { frames := 3, cells := Mx, slots := 2 * Mx, locals := 104 } s m [Value.ref h0, Value.ref hX, Value.ref hY].toArray below meth c H locs (0 + (w8.2.1 - LL)) (0 + (2 * (w8.2.1 - LL))) (MQ below (va_Qg (fun (u : Nat × Nat × Nat × (Nat → Nat)) => none) (fun (u : Nat × Nat × Nat × (Nat → Nat)) => whO u.2.1 u.2.2.1 u.2.2.2 (zx * zy) ∧ LL ≤ u.2.1 ∧ u.2.1 ≤ Mx) (Pog G k A (fun (u : Nat × Nat × Nat × (Nat → Nat)) => [(h0, .inr (2, [.ref u.1, .int (nI u.2.2.1), .int (sgI (zx * zy))])), (u.1, .inl (k 0, u.2.1, .inl (fun i => nI (u.2.2.2 i)))), (hX, .inr (2, [.ref dx, .int (nI nx), .int (sgI zx)])), (dx, .inl (k 0, LX, .inl (fun i => nI (gx i)))), (hY, .inr (2, [.ref dy, .int (nI ny), .int (sgI zy)])), (dy, .inl (k 0, LY, .inl (fun i => nI (gy i))))]) s0 sl (fun (u : Nat × Nat × Nat × (Nat → Nat)) => u.2.1 - LL) (fun (u : Nat × Nat × Nat × (Nat → Nat)) => 2 * (u.2.1 - LL))) A) [Value.ref h0, Value.ref hX, Value.ref hY].toArray s Mx (2 * Mx) A) (F0 m 56 ls []) := by
                intro d9
                induction d9 with
                | zero => intro j9 c8 T7 hm; exact absurd hm (Nat.not_lt_zero _)
                | succ d9 ih_lq =>
                  intro j9 c8 T7 hm hj hJ hc8 hD7 hZ7 H locs S ls hl
                  have d1 := w4 i9
                  have d2 := v4 j9
                  have d3 := hD7 (i9 + j9)
                  have q7 := mul_cb d1 d2 d3 hc8
                  refine lv_iload hx hb d_Wh_multiply_56 (lv_at hl 1 rfl) ?_
                  refine lv_aload_n hx hb d_Wh_multiply_58 rfl (lv_at hl 6 rfl) ?_
                  refine r_get C K S 4 rfl rfl clOk_Wh 1 (by decide) wf_Wh_29 (v := .int (nI ny)) rfl d_Wh_multiply_59 ?_
                  refine z_icmp_ge (a := j9) (b := ny) (tgt := 129) hx hb d_Wh_multiply_62 (by decide) (by omega) (by omega) (fun hc5 => ?_) (fun hc5 => ?_)
                  · refine lv_aload_n hx hb d_Wh_multiply_129 rfl (lv_at hl 4 rfl) ?_
                    refine r_get C K S 0 rfl rfl clOk_Wh 0 (by decide) wf_Wh_9 (v := .ref w8.1) rfl d_Wh_multiply_130 ?_
                    refine lv_iload hx hb d_Wh_multiply_133 (lv_at hl 2 rfl) ?_
                    refine lv_aload_n hx hb d_Wh_multiply_135 rfl (lv_at hl 6 rfl) ?_
                    refine r_get C K S 4 rfl rfl clOk_Wh 1 (by decide) wf_Wh_29 (v := .int (nI ny)) rfl d_Wh_multiply_136 ?_
                    refine z_iadd (x := nI i9) (y := nI ny) (v := nI (i9 + ny)) hx hb d_Wh_multiply_139 (nI_add i9 ny) ?_
                    refine lv_lload hx hb d_Wh_multiply_140 (lv_at hl 0 rfl) ?_
                    refine lv_l2i (v := nI c8) hx hb d_Wh_multiply_142 (lN_i c8) ?_
                    refine r_iast C K S 1 rfl (i := nI (i9 + ny)) (x := nI c8) (show vp_in (nI (i9 + ny)) _ from vp_in_nI (n := (i9 + ny)) (by omega) (by omega)) (f' := fun i => nI (va_up T7 (i9 + ny) c8 i)) (ws' := [(h0, .inr (2, [.ref w8.1, .int xs9, .int ys9])), (w8.1, .inl (k 0, w8.2.1, .inl (fun i => nI (va_up T7 (i9 + ny) c8 i)))), (hX, .inr (2, [.ref dx, .int (nI nx), .int (sgI zx)])), (dx, .inl (k 0, LX, .inl (fun i => nI (gx i)))), (hY, .inr (2, [.ref dy, .int (nI ny), .int (sgI zy)])), (dy, .inl (k 0, LY, .inl (fun i => nI (gy i))))]) (show upd _ (nI (i9 + ny) : Int32).toNatClampNeg (nI c8) = _ from upd_nI T7 (j := (i9 + ny)) (by omega) c8) rfl d_Wh_multiply_143 (fun H locs S => ?_)
                    refine lv_iinc (v := nI (i9 + 1)) (lv' := [(4, .int (nI (i9 + 1))), (5, .long (lN c8)), (7, .int (nI j9)), (3, .int (nI (nx + ny))), (0, .ref h0), (1, .ref hX), (2, .ref hY)]) hx hb d_Wh_multiply_144 hl (k := 2) rfl (show nI i9 + Int32.ofInt 1 = nI (i9 + 1) from (nI_add i9 1).trans (congrArg nI (by omega))) (by decide) rfl (fun ls hl => ?_)
                    refine lv_goto (tgt := 41) hx hb d_Wh_multiply_147 (by decide) ?_
                    exact ih_lp (i9 + 1) (va_up T7 (i9 + ny) c8) (by omega) (by omega) (mul_out (by omega) (hZ7 _ (by omega) (by omega)) (by have e : j9 = ny := (by omega); rw [e] at hJ; exact hJ)) (up31 hD7 hc8) (fun i q1 q2 => by rw [va_up_ne _ _ (by omega)]; exact hZ7 i (by omega) q2) _ _ (S.sub [0, 1, 2, 3, 4, 5] (by decide) rfl) ls (lv_sub hl [0, 3, 4, 5, 6] rfl)
                  · refine lv_lload hx hb d_Wh_multiply_65 (lv_at hl 0 rfl) ?_
                    refine lv_aload_n hx hb d_Wh_multiply_67 rfl (lv_at hl 4 rfl) ?_
                    refine r_get C K S 0 rfl rfl clOk_Wh 0 (by decide) wf_Wh_9 (v := .ref w8.1) rfl d_Wh_multiply_68 ?_
                    refine lv_iload hx hb d_Wh_multiply_71 (lv_at hl 2 rfl) ?_
                    refine lv_iload hx hb d_Wh_multiply_73 (lv_at hl 1 rfl) ?_
                    refine z_iadd (x := nI i9) (y := nI j9) (v := nI (i9 + j9)) hx hb d_Wh_multiply_75 (nI_add i9 j9) ?_
                    refine r_iald C K S 1 rfl (i := nI (i9 + j9)) (show vp_in (nI (i9 + j9)) _ from vp_in_nI (n := (i9 + j9)) (by omega) (by omega)) (v := nI (T7 (i9 + j9))) (by rw [nI_clamp (by omega)]) d_Wh_multiply_76 ?_
                    refine lv_i2l (v := lN (T7 (i9 + j9))) hx hb d_Wh_multiply_77 (show (nI (T7 (i9 + j9)) : Int32).toInt64 = _ from nI_l (n := (T7 (i9 + j9))) (by omega)) ?_
                    refine lv_aload_n hx hb d_Wh_multiply_78 rfl (lv_at hl 5 rfl) ?_
                    refine r_get C K S 2 rfl rfl clOk_Wh 0 (by decide) wf_Wh_9 (v := .ref dx) rfl d_Wh_multiply_79 ?_
                    refine lv_iload hx hb d_Wh_multiply_82 (lv_at hl 2 rfl) ?_
                    refine r_iald C K S 3 rfl (i := nI i9) (show vp_in (nI i9) _ from vp_in_nI (n := i9) (by omega) (by omega)) (v := nI (gx i9)) (by rw [nI_clamp (by omega)]) d_Wh_multiply_84 ?_
                    refine lv_i2l (v := lN (gx i9)) hx hb d_Wh_multiply_85 (show (nI (gx i9) : Int32).toInt64 = _ from nI_l (n := (gx i9)) (by omega)) ?_
                    refine lv_aload_n hx hb d_Wh_multiply_86 rfl (lv_at hl 6 rfl) ?_
                    refine r_get C K S 4 rfl rfl clOk_Wh 0 (by decide) wf_Wh_9 (v := .ref dy) rfl d_Wh_multiply_87 ?_
                    refine lv_iload hx hb d_Wh_multiply_90 (lv_at hl 1 rfl) ?_
                    refine r_iald C K S 5 rfl (i := nI j9) (show vp_in (nI j9) _ from vp_in_nI (n := j9) (by omega) (by omega)) (v := nI (gy j9)) (by rw [nI_clamp (by omega)]) d_Wh_multiply_92 ?_
                    refine lv_i2l (v := lN (gy j9)) hx hb d_Wh_multiply_93 (show (nI (gy j9) : Int32).toInt64 = _ from nI_l (n := (gy j9)) (by omega)) ?_
                    refine z_lmul (x := lN (gx i9)) (y := lN (gy j9)) (v := lN ((gx i9) * (gy j9))) hx hb d_Wh_multiply_94 (lN_mul (gx i9) (gy j9)) ?_
                    refine z_ladd (x := lN (T7 (i9 + j9))) (y := lN ((gx i9) * (gy j9))) (v := lN (T7 (i9 + j9) + (gx i9) * (gy j9))) hx hb d_Wh_multiply_95 (lN_add (T7 (i9 + j9)) ((gx i9) * (gy j9))) ?_
                    refine z_ladd (x := lN c8) (y := lN (T7 (i9 + j9) + (gx i9) * (gy j9))) (v := lN (c8 + (T7 (i9 + j9) + (gx i9) * (gy j9)))) hx hb d_Wh_multiply_96 (lN_add c8 (T7 (i9 + j9) + (gx i9) * (gy j9))) ?_
                    refine lv_lstore (lv' := [(5, .long (lN (c8 + (T7 (i9 + j9) + (gx i9) * (gy j9))))), (7, .int (nI j9)), (4, .int (nI i9)), (3, .int (nI (nx + ny))), (0, .ref h0), (1, .ref hX), (2, .ref hY)]) hx hb d_Wh_multiply_97 hl (by decide) rfl (fun ls hl => ?_)
                    refine lv_aload_n hx hb d_Wh_multiply_99 rfl (lv_at hl 4 rfl) ?_
                    refine r_get C K S 0 rfl rfl clOk_Wh 0 (by decide) wf_Wh_9 (v := .ref w8.1) rfl d_Wh_multiply_100 ?_
                    refine lv_iload hx hb d_Wh_multiply_103 (lv_at hl 2 rfl) ?_
                    refine lv_iload hx hb d_Wh_multiply_105 (lv_at hl 1 rfl) ?_
                    refine z_iadd (x := nI i9) (y := nI j9) (v := nI (i9 + j9)) hx hb d_Wh_multiply_107 (nI_add i9 j9) ?_
                    refine lv_lload hx hb d_Wh_multiply_108 (lv_at hl 0 rfl) ?_
                    refine lv_ldc2 (v := 2147483647) hx hb C.2.2.2.1 (C.2.2.2.2.1 _ wk_Wh_23) d_Wh_multiply_110 ?_
                    refine z_land (v := lN ((c8 + (T7 (i9 + j9) + gx i9 * gy j9)) % 2147483648)) hx hb d_Wh_multiply_113 (lN_and31 (by omega)) ?_
                    refine lv_l2i (v := nI ((c8 + (T7 (i9 + j9) + gx i9 * gy j9)) % 2147483648)) hx hb d_Wh_multiply_114 (lN_i ((c8 + (T7 (i9 + j9) + gx i9 * gy j9)) % 2147483648)) ?_
                    refine r_iast C K S 1 rfl (i := nI (i9 + j9)) (x := nI ((c8 + (T7 (i9 + j9) + gx i9 * gy j9)) % 2147483648)) (show vp_in (nI (i9 + j9)) _ from vp_in_nI (n := (i9 + j9)) (by omega) (by omega)) (f' := fun i => nI (va_up T7 (i9 + j9) ((c8 + (T7 (i9 + j9) + gx i9 * gy j9)) % 2147483648) i)) (ws' := [(h0, .inr (2, [.ref w8.1, .int xs9, .int ys9])), (w8.1, .inl (k 0, w8.2.1, .inl (fun i => nI (va_up T7 (i9 + j9) ((c8 + (T7 (i9 + j9) + gx i9 * gy j9)) % 2147483648) i)))), (hX, .inr (2, [.ref dx, .int (nI nx), .int (sgI zx)])), (dx, .inl (k 0, LX, .inl (fun i => nI (gx i)))), (hY, .inr (2, [.ref dy, .int (nI ny), .int (sgI zy)])), (dy, .inl (k 0, LY, .inl (fun i => nI (gy i))))]) (show upd _ (nI (i9 + j9) : Int32).toNatClampNeg (nI ((c8 + (T7 (i9 + j9) + gx i9 * gy j9)) % 2147483648)) = _ from upd_nI T7 (j := (i9 + j9)) (by omega) ((c8 + (T7 (i9 + j9) + gx i9 * gy j9)) % 2147483648)) rfl d_Wh_multiply_115 (fun H locs S => ?_)
                    refine lv_lload hx hb d_Wh_multiply_116 (lv_at hl 0 rfl) ?_
                    refine lv_bipush (v := 31) hx hb d_Wh_multiply_118 (by decide) ?_
                    refine lv_lshr (v := lN ((c8 + (T7 (i9 + j9) + gx i9 * gy j9)) / 2147483648)) hx hb d_Wh_multiply_120 (lN_shr31 (by omega)) ?_
                    refine lv_lstore (lv' := [(5, .long (lN ((c8 + (T7 (i9 + j9) + gx i9 * gy j9)) / 2147483648))), (7, .int (nI j9)), (4, .int (nI i9)), (3, .int (nI (nx + ny))), (0, .ref h0), (1, .ref hX), (2, .ref hY)]) hx hb d_Wh_multiply_121 hl (by decide) rfl (fun ls hl => ?_)
                    refine lv_iinc (v := nI (j9 + 1)) (lv' := [(7, .int (nI (j9 + 1))), (5, .long (lN ((c8 + (T7 (i9 + j9) + gx i9 * gy j9)) / 2147483648))), (4, .int (nI i9)), (3, .int (nI (nx + ny))), (0, .ref h0), (1, .ref hX), (2, .ref hY)]) hx hb d_Wh_multiply_123 hl (k := 1) rfl (show nI j9 + Int32.ofInt 1 = nI (j9 + 1) from (nI_add j9 1).trans (congrArg nI (by omega))) (by decide) rfl (fun ls hl => ?_)
                    refine lv_goto (tgt := 56) hx hb d_Wh_multiply_126 (by decide) ?_
                    exact ih_lq (j9 + 1) ((c8 + (T7 (i9 + j9) + gx i9 * gy j9)) / 2147483648) (va_up T7 (i9 + j9) ((c8 + (T7 (i9 + j9) + gx i9 * gy j9)) % 2147483648)) (by omega) (by omega) (mul_in (by omega) hJ) q7.2 (up31 hD7 (by omega)) (fun i q1 q2 => by rw [va_up_ne _ _ (by omega)]; exact hZ7 i q1 q2) _ _ (S.sub [0, 1, 2, 3, 4, 5] (by decide) rfl) ls (lv_sub hl [1, 0, 2, 3, 4, 5, 6] rfl)
              exact lq _ 0 0 T8 (Nat.lt_succ_self _) (by omega) (by rw [hI]; simp [vl]) (by omega) hD hZ _ _ (S.sub [0, 1, 2, 3, 4, 5] (by decide) rfl) ls (lv_sub hl [1, 0, 2, 3, 4, 5, 6] rfl)
        exact lp _ 0 T6 (Nat.lt_succ_self _) (by omega) (by rw [vl_zeros (n := 0) (nx + ny) (Nat.zero_le _) (fun i _ q => hZ6 i (by omega))]; simp [vl]) hD6 (fun i _ q => hZ6 i (by omega)) _ _ (S.sub [0, 1, 2, 3, 4, 5] (by decide) rfl) ls (lv_sub hl [0, 1, 2, 3, 4] rfl)
      · refine lv_aload_n hx hb d_Wh_multiply_24 rfl (lv_at hl 2 rfl) ?_
        refine r_get C K S 0 rfl rfl clOk_Wh 0 (by decide) wf_Wh_9 (v := .ref w8.1) rfl d_Wh_multiply_25 ?_
        refine lv_iload hx hb d_Wh_multiply_28 (lv_at hl 0 rfl) ?_
        refine lv_iconst (v := 0) hx hb d_Wh_multiply_30 (by decide) ?_
        refine r_iast C K S 1 rfl (i := nI i9) (x := 0) (show vp_in (nI i9) _ from vp_in_nI (n := i9) (by omega) (by omega)) (f' := fun i => nI (va_up T6 i9 0 i)) (ws' := [(h0, .inr (2, [.ref w8.1, .int xs9, .int ys9])), (w8.1, .inl (k 0, w8.2.1, .inl (fun i => nI (va_up T6 i9 0 i)))), (hX, .inr (2, [.ref dx, .int (nI nx), .int (sgI zx)])), (dx, .inl (k 0, LX, .inl (fun i => nI (gx i)))), (hY, .inr (2, [.ref dy, .int (nI ny), .int (sgI zy)])), (dy, .inl (k 0, LY, .inl (fun i => nI (gy i))))]) (show upd _ (nI i9 : Int32).toNatClampNeg 0 = _ from upd_nI T6 (j := i9) (by omega) 0) rfl d_Wh_multiply_31 (fun H locs S => ?_)
        refine lv_iinc (v := nI (i9 + 1)) (lv' := [(4, .int (nI (i9 + 1))), (3, .int (nI (nx + ny))), (0, .ref h0), (1, .ref hX), (2, .ref hY)]) hx hb d_Wh_multiply_32 hl (k := 0) rfl (show nI i9 + Int32.ofInt 1 = nI (i9 + 1) from (nI_add i9 1).trans (congrArg nI (by omega))) (by decide) rfl (fun ls hl => ?_)
        refine lv_goto (tgt := 18) hx hb d_Wh_multiply_35 (by decide) ?_
        exact ih_lz (i9 + 1) (va_up T6 i9 0) (by omega) (by omega) (up31 hD6 (by decide)) (fun i q => (Decidable.em (i = i9)).elim (fun t => by rw [t, va_up_self]) (fun t => by rw [va_up_ne _ _ t]; exact hZ6 i (by omega))) _ _ (S.sub [0, 1, 2, 3, 4, 5] (by decide) rfl) ls (lv_sub hl [0, 1, 2, 3, 4] rfl)
  exact lz _ 0 w8.2.2 (Nat.lt_succ_self _) (by omega) s3 (fun _ q => absurd q (Nat.not_lt_zero _)) _ _ (S.sub [4, 5, 0, 1, 2, 3] (by decide) rfl) ls (lv_sub hl [0, 1, 2, 3, 4] rfl)
