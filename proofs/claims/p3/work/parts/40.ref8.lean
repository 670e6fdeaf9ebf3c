theorem d_Mo_addRows_0 : decode c_Mo_addRows 0 = .ok (.aload_n 0, 1) := by decide +kernel
theorem d_Mo_addRows_1 : decode c_Mo_addRows 1 = .ok (.getfield 286, 3) := by decide +kernel
theorem d_Mo_addRows_4 : decode c_Mo_addRows 4 = .ok (.aload_n 0, 1) := by decide +kernel
theorem d_Mo_addRows_5 : decode c_Mo_addRows 5 = .ok (.getfield 292, 3) := by decide +kernel
theorem d_Mo_addRows_8 : decode c_Mo_addRows 8 = .ok (.if_icmp .le 10, 3) := by decide +kernel
theorem d_Mo_addRows_11 : decode c_Mo_addRows 11 = .ok (.aload_n 0, 1) := by decide +kernel
theorem d_Mo_addRows_12 : decode c_Mo_addRows 12 = .ok (.getfield 286, 3) := by decide +kernel
theorem d_Mo_addRows_15 : decode c_Mo_addRows 15 = .ok (.goto 7, 3) := by decide +kernel
theorem d_Mo_addRows_18 : decode c_Mo_addRows 18 = .ok (.aload_n 0, 1) := by decide +kernel
theorem d_Mo_addRows_19 : decode c_Mo_addRows 19 = .ok (.getfield 292, 3) := by decide +kernel
theorem d_Mo_addRows_22 : decode c_Mo_addRows 22 = .ok (.istore_n 1, 1) := by decide +kernel
theorem d_Mo_addRows_23 : decode c_Mo_addRows 23 = .ok (.iconst 0, 1) := by decide +kernel
theorem d_Mo_addRows_24 : decode c_Mo_addRows 24 = .ok (.istore_n 2, 1) := by decide +kernel
theorem d_Mo_addRows_25 : decode c_Mo_addRows 25 = .ok (.iconst 0, 1) := by decide +kernel
theorem d_Mo_addRows_26 : decode c_Mo_addRows 26 = .ok (.istore_n 3, 1) := by decide +kernel
theorem d_Mo_addRows_27 : decode c_Mo_addRows 27 = .ok (.iload_n 3, 1) := by decide +kernel
theorem d_Mo_addRows_28 : decode c_Mo_addRows 28 = .ok (.iload_n 1, 1) := by decide +kernel
theorem d_Mo_addRows_29 : decode c_Mo_addRows 29 = .ok (.if_icmp .ge 68, 3) := by decide +kernel
theorem d_Mo_addRows_32 : decode c_Mo_addRows 32 = .ok (.iload_n 3, 1) := by decide +kernel
theorem d_Mo_addRows_33 : decode c_Mo_addRows 33 = .ok (.aload_n 0, 1) := by decide +kernel
theorem d_Mo_addRows_34 : decode c_Mo_addRows 34 = .ok (.getfield 286, 3) := by decide +kernel
theorem d_Mo_addRows_37 : decode c_Mo_addRows 37 = .ok (.if_icmp .ge 12, 3) := by decide +kernel
theorem d_Mo_addRows_40 : decode c_Mo_addRows 40 = .ok (.aload_n 0, 1) := by decide +kernel
theorem d_Mo_addRows_41 : decode c_Mo_addRows 41 = .ok (.getfield 93, 3) := by decide +kernel
theorem d_Mo_addRows_44 : decode c_Mo_addRows 44 = .ok (.iload_n 3, 1) := by decide +kernel
theorem d_Mo_addRows_45 : decode c_Mo_addRows 45 = .ok (.iaload, 1) := by decide +kernel
theorem d_Mo_addRows_46 : decode c_Mo_addRows 46 = .ok (.goto 4, 3) := by decide +kernel
theorem d_Mo_addRows_49 : decode c_Mo_addRows 49 = .ok (.iconst 0, 1) := by decide +kernel
theorem d_Mo_addRows_50 : decode c_Mo_addRows 50 = .ok (.iload_n 3, 1) := by decide +kernel
theorem d_Mo_addRows_51 : decode c_Mo_addRows 51 = .ok (.aload_n 0, 1) := by decide +kernel
theorem d_Mo_addRows_52 : decode c_Mo_addRows 52 = .ok (.getfield 292, 3) := by decide +kernel
theorem d_Mo_addRows_55 : decode c_Mo_addRows 55 = .ok (.if_icmp .ge 12, 3) := by decide +kernel
theorem d_Mo_addRows_58 : decode c_Mo_addRows 58 = .ok (.aload_n 0, 1) := by decide +kernel
theorem d_Mo_addRows_59 : decode c_Mo_addRows 59 = .ok (.getfield 96, 3) := by decide +kernel
theorem d_Mo_addRows_62 : decode c_Mo_addRows 62 = .ok (.iload_n 3, 1) := by decide +kernel
theorem d_Mo_addRows_63 : decode c_Mo_addRows 63 = .ok (.iaload, 1) := by decide +kernel
theorem d_Mo_addRows_64 : decode c_Mo_addRows 64 = .ok (.goto 4, 3) := by decide +kernel
theorem d_Mo_addRows_67 : decode c_Mo_addRows 67 = .ok (.iconst 0, 1) := by decide +kernel
theorem d_Mo_addRows_68 : decode c_Mo_addRows 68 = .ok (.iadd, 1) := by decide +kernel
theorem d_Mo_addRows_69 : decode c_Mo_addRows 69 = .ok (.iload_n 2, 1) := by decide +kernel
theorem d_Mo_addRows_70 : decode c_Mo_addRows 70 = .ok (.iadd, 1) := by decide +kernel
theorem d_Mo_addRows_71 : decode c_Mo_addRows 71 = .ok (.istore 4, 2) := by decide +kernel
theorem d_Mo_addRows_73 : decode c_Mo_addRows 73 = .ok (.aload_n 0, 1) := by decide +kernel
theorem d_Mo_addRows_74 : decode c_Mo_addRows 74 = .ok (.getfield 93, 3) := by decide +kernel
theorem d_Mo_addRows_77 : decode c_Mo_addRows 77 = .ok (.iload_n 3, 1) := by decide +kernel
theorem d_Mo_addRows_78 : decode c_Mo_addRows 78 = .ok (.iload 4, 2) := by decide +kernel
theorem d_Mo_addRows_80 : decode c_Mo_addRows 80 = .ok (.ldc_w 312, 3) := by decide +kernel
theorem d_Mo_addRows_83 : decode c_Mo_addRows 83 = .ok (.iand, 1) := by decide +kernel
theorem d_Mo_addRows_84 : decode c_Mo_addRows 84 = .ok (.iastore, 1) := by decide +kernel
theorem d_Mo_addRows_85 : decode c_Mo_addRows 85 = .ok (.iload 4, 2) := by decide +kernel
theorem d_Mo_addRows_87 : decode c_Mo_addRows 87 = .ok (.bipush 16, 2) := by decide +kernel
theorem d_Mo_addRows_89 : decode c_Mo_addRows 89 = .ok (.ishr, 1) := by decide +kernel
theorem d_Mo_addRows_90 : decode c_Mo_addRows 90 = .ok (.istore_n 2, 1) := by decide +kernel
theorem d_Mo_addRows_91 : decode c_Mo_addRows 91 = .ok (.iinc 3 1, 3) := by decide +kernel
theorem d_Mo_addRows_94 : decode c_Mo_addRows 94 = .ok (.goto (-67), 3) := by decide +kernel
theorem d_Mo_addRows_97 : decode c_Mo_addRows 97 = .ok (.aload_n 0, 1) := by decide +kernel
theorem d_Mo_addRows_98 : decode c_Mo_addRows 98 = .ok (.getfield 93, 3) := by decide +kernel
theorem d_Mo_addRows_101 : decode c_Mo_addRows 101 = .ok (.iload_n 1, 1) := by decide +kernel
theorem d_Mo_addRows_102 : decode c_Mo_addRows 102 = .ok (.iload_n 2, 1) := by decide +kernel
theorem d_Mo_addRows_103 : decode c_Mo_addRows 103 = .ok (.iastore, 1) := by decide +kernel
theorem d_Mo_addRows_104 : decode c_Mo_addRows 104 = .ok (.aload_n 0, 1) := by decide +kernel
theorem d_Mo_addRows_105 : decode c_Mo_addRows 105 = .ok (.aload_n 0, 1) := by decide +kernel
theorem d_Mo_addRows_106 : decode c_Mo_addRows 106 = .ok (.getfield 93, 3) := by decide +kernel
theorem d_Mo_addRows_109 : decode c_Mo_addRows 109 = .ok (.iload_n 1, 1) := by decide +kernel
theorem d_Mo_addRows_110 : decode c_Mo_addRows 110 = .ok (.iconst 1, 1) := by decide +kernel
theorem d_Mo_addRows_111 : decode c_Mo_addRows 111 = .ok (.iadd, 1) := by decide +kernel
theorem d_Mo_addRows_112 : decode c_Mo_addRows 112 = .ok (.invokestatic 278, 3) := by decide +kernel
theorem d_Mo_addRows_115 : decode c_Mo_addRows 115 = .ok (.putfield 286, 3) := by decide +kernel
theorem d_Mo_addRows_118 : decode c_Mo_addRows 118 = .ok (.return_, 1) := by decide +kernel
set_option maxRecDepth 100000 in
set_option maxHeartbeats 8000000 in
/-- addRows() -/
theorem g_Mo_addRows (l : Launch) (G : va_G) (k : Nat → ClassId) (h0 s0 n1 n2 : Nat) (ma : Nat → Nat) (iv : Nat → Int32) (co : Int64) (g1 g2 : Nat → Nat) (h1 : n1 ≤ 160) (h2 : n2 ≤ 160) (da : ∀ i, i < 170 → g1 i < 65536) (db : ∀ i, i < 170 → g2 i < 65536) : CV l y_Mo_addRows c_Mo_addRows 5 { frames := 1, cells := 0, slots := 0, locals := 40 } [.ref h0] G k s0 [(h0, .inr (8, moL ma (va_up (va_up iv 20 (nI n2)) 19 (nI n1)) co)), ((ma 24), .inl (k 0, 170, .inl (fun i => nI (g1 i)))), ((ma 25), .inl (k 0, 170, .inl (fun i => nI (g2 i))))] (fun (u : (Nat → Nat) × Nat) => vl 65536 u.1 u.2 = vl 65536 g1 n1 + vl 65536 g2 n2 ∧ u.2 ≤ n1 + n2 + 1 ∧ u.2 ≤ 161 ∧ (u.2 = 0 ∨ u.1 (u.2 - 1) ≠ 0) ∧ ∀ i, i < 170 → u.1 i < 65536) (fun u => [(h0, .inr (8, moL ma (va_up (va_up iv 20 (nI n2)) 19 (nI u.2)) co)), ((ma 24), .inl (k 0, 170, .inl (fun i => nI (u.1 i)))), ((ma 25), .inl (k 0, 170, .inl (fun i => nI (g2 i))))]) 0 0 := by
  refine met_start (by decide) (Nat.le_of_ble_eq_true rfl) ?_
  intro p e s m below meth c C K hA hsz S ls hl
  generalize va_A [(h0, .inr (8, moL ma (va_up (va_up iv 20 (nI n2)) 19 (nI n1)) co)), ((ma 24), .inl (k 0, 170, .inl (fun i => nI (g1 i)))), ((ma 25), .inl (k 0, 170, .inl (fun i => nI (g2 i))))] s0 = A at hA S ⊢
  have hx := C.1
  have hb := C.2.1
  have hl : lv_has ls 5 [(0, .ref h0)] := hl
  have main : ∀ n, n1 ≤ n → n2 ≤ n → n ≤ 160 → n ≤ n1 + n2 → ∀ (H : Heap) (locs : List Loc), Sw G A s.heap H locs [(h0, .inr (8, moL ma (va_up (va_up iv 20 (nI n2)) 19 (nI n1)) co)), ((ma 24), .inl (k 0, 170, .inl (fun i => nI (g1 i)))), ((ma 25), .inl (k 0, 170, .inl (fun i => nI (g2 i))))] → ∀ ls : Array Slot, lv_has ls 5 [(0, .ref h0)] → W p l e { frames := 1, cells := 0, slots := 0, locals := 40 } s m [Value.ref h0].toArray below meth c H locs 0 0 (MQ below (va_Qv (fun (u : (Nat → Nat) × Nat) => vl 65536 u.1 u.2 = vl 65536 g1 n1 + vl 65536 g2 n2 ∧ u.2 ≤ n1 + n2 + 1 ∧ u.2 ≤ 161 ∧ (u.2 = 0 ∨ u.1 (u.2 - 1) ≠ 0) ∧ ∀ i, i < 170 → u.1 i < 65536) (Po G k A (fun u => [(h0, .inr (8, moL ma (va_up (va_up iv 20 (nI n2)) 19 (nI u.2)) co)), ((ma 24), .inl (k 0, 170, .inl (fun i => nI (u.1 i)))), ((ma 25), .inl (k 0, 170, .inl (fun i => nI (g2 i))))])) A) [Value.ref h0].toArray s 0 0 A) (F0 m 22 ls [.int (nI n)]) := by
    intro n q1 q2 q3 q4 H locs S ls hl
    have loop : ∀ d t, t + d = n → ∀ (U : Nat → Nat) (c9 : Nat), (vl 65536 U t + c9 * 65536 ^ t = vl 65536 (fun i => if i < n1 then g1 i else 0) t + vl 65536 (fun i => if i < n2 then g2 i else 0) t ∧ c9 ≤ 1 ∧ (∀ i, i < 170 → U i < 65536) ∧ ∀ i, t ≤ i → U i = g1 i) → ∀ (H : Heap) (locs : List Loc), Sw G A s.heap H locs [(h0, .inr (8, moL ma (va_up (va_up iv 20 (nI n2)) 19 (nI n1)) co)), ((ma 24), .inl (k 0, 170, .inl (fun i => nI (U i)))), ((ma 25), .inl (k 0, 170, .inl (fun i => nI (g2 i))))] → ∀ ls : Array Slot, lv_has ls 5 [(3, .int (nI t)), (2, .int (nI c9)), (1, .int (nI n)), (0, .ref h0)] → W p l e { frames := 1, cells := 0, slots := 0, locals := 40 } s m [Value.ref h0].toArray below meth c H locs 0 0 (MQ below (va_Qv (fun (u : (Nat → Nat) × Nat) => vl 65536 u.1 u.2 = vl 65536 g1 n1 + vl 65536 g2 n2 ∧ u.2 ≤ n1 + n2 + 1 ∧ u.2 ≤ 161 ∧ (u.2 = 0 ∨ u.1 (u.2 - 1) ≠ 0) ∧ ∀ i, i < 170 → u.1 i < 65536) (Po G k A (fun u => [(h0, .inr (8, moL ma (va_up (va_up iv 20 (nI n2)) 19 (nI u.2)) co)), ((ma 24), .inl (k 0, 170, .inl (fun i => nI (u.1 i)))), ((ma 25), .inl (k 0, 170, .inl (fun i => nI (g2 i))))])) A) [Value.ref h0].toArray s 0 0 A) (F0 m 27 ls []) := by
      intro d
      induction d with
      | zero =>
        intro t ht U c9 hI H locs S ls hl
        obtain rfl : n = t := by omega
        have hc := hI.2.1
        have e0 := hI.1
        rw [vl_bb q1, vl_bb q2] at e0
        have dU : ∀ i, i < 170 → va_up U n c9 i < 65536 := fun i hi => by
          by_cases w : i = n
          · rw [w, va_up_self]; omega
          · rw [va_up_ne U c9 w]; exact hI.2.2.1 i hi
        have e1 : vl 65536 (va_up U n c9) (n + 1) = vl 65536 g1 n1 + vl 65536 g2 n2 := by
          rw [vl_s, va_up_self, vl_congr (h := U) n (fun i hi => va_up_ne U c9 (by omega))]
          exact e0
        have e2 := vl_cut (B := 65536) (va_up U n c9) (fun i => nI (va_up U n c9 i)) (fun _ => rfl) (n + 1) (fun i hi => by have := dU i (by omega); omega)
        refine lv_iload_n hx hb d_Mo_addRows_27 rfl (lv_at hl 0 rfl) ?_
        refine lv_iload_n hx hb d_Mo_addRows_28 rfl (lv_at hl 2 rfl) ?_
        refine lv_icmp_ge (tgt := 97) hx hb d_Mo_addRows_29 (by decide) (fun _ => ?_) (fun hq => absurd (nI_le (Nat.le_refl _) (by omega)) hq)
        refine lv_aload_n hx hb d_Mo_addRows_97 rfl (lv_at hl 3 rfl) ?_
        refine r_get C K S 0 rfl rfl clOk_Mo 44 (by decide) wf_Mo_93 (v := .ref (ma 24)) rfl d_Mo_addRows_98 ?_
        refine lv_iload_n hx hb d_Mo_addRows_101 rfl (lv_at hl 2 rfl) ?_
        refine lv_iload_n hx hb d_Mo_addRows_102 rfl (lv_at hl 1 rfl) ?_
        refine r_iast C K S 1 rfl (i := (nI n)) (x := (nI c9)) (vp_in_nI (by omega) (by decide)) (f' := fun i => nI (va_up U n c9 i)) (ws' := [(h0, .inr (8, moL ma (va_up (va_up iv 20 (nI n2)) 19 (nI n1)) co)), ((ma 24), .inl (k 0, 170, .inl (fun i => nI (va_up U n c9 i)))), ((ma 25), .inl (k 0, 170, .inl (fun i => nI (g2 i))))]) (upd_nI U (by omega) c9) rfl d_Mo_addRows_103 (fun H locs S => ?_)
        refine lv_aload_n hx hb d_Mo_addRows_104 rfl (lv_at hl 3 rfl) ?_
        refine lv_aload_n hx hb d_Mo_addRows_105 rfl (lv_at hl 3 rfl) ?_
        refine r_get C K S 0 rfl rfl clOk_Mo 44 (by decide) wf_Mo_93 (v := .ref (ma 24)) rfl d_Mo_addRows_106 ?_
        refine lv_iload_n hx hb d_Mo_addRows_109 rfl (lv_at hl 2 rfl) ?_
        refine lv_iconst (v := 1) hx hb d_Mo_addRows_110 (by decide) ?_
        refine lv_iadd hx hb d_Mo_addRows_111 ?_
        rw [nI_1]
        refine r_backi (wi := [((ma 24), .inl (k 0, 170, .inl (fun i => nI (va_up U n c9 i))))]) (wr := [(h0, .inr (8, moL ma (va_up (va_up iv 20 (nI n2)) 19 (nI n1)) co)), ((ma 25), .inl (k 0, 170, .inl (fun i => nI (g2 i))))]) S hA [1] [0, 2] rfl rfl (by decide) (by decide) (va_runS (As := [.ref (ma 24), .int (nI (n + 1))]) (rest := [.ref h0]) ⟨hx, hb, C.2.2.1, C.2.2.2.1, C.2.2.2.2.1⟩ (k_Mo_cut2 l G k (ma 24) _ 170 (n + 1) (fun i => nI (va_up U n c9 i)) (by omega) (by decide)) (k_stat (n := 2) C wc_Mo_cut2 rfl rfl wz_Mo wm_Mo_278 wt_Mo_cut2 (by decide +kernel) ⟨(Nat.le_of_ble_eq_true rfl), (Nat.le_of_ble_eq_true rfl)⟩) (pr_now K S [1] (by decide) rfl) rfl rfl hl.1 rfl (lv_room (Nat.le_of_ble_eq_true rfl)) d_Mo_addRows_112 ⟨(Nat.le_of_ble_eq_true rfl), (Nat.le_of_ble_eq_true rfl)⟩) (fun r3 u1 H locs hw2 S => ?_)
        have S : Sw G A s.heap _ _ [(h0, .inr (8, moL ma (va_up (va_up iv 20 (nI n2)) 19 (nI n1)) co)), ((ma 25), .inl (k 0, 170, .inl (fun i => nI (g2 i)))), ((ma 24), .inl (k 0, 170, .inl (fun i => nI (va_up U n c9 i))))] := S
        have hw2 : r3 = nI (cutN (fun i => nI (va_up U n c9 i)) (n + 1)) := hw2
        subst hw2
        refine r_put C K S 0 rfl rfl clOk_Mo 48 (by decide) wf_Mo_286 rfl (ty := .int) (v := .int (nI (cutN (fun i => nI (va_up U n c9 i)) (n + 1)))) (by decide +kernel) rfl rfl (Nat.le_of_ble_eq_true rfl) (fs' := moL ma (va_up (va_up iv 20 (nI n2)) 19 (nI (cutN (fun i => nI (va_up U n c9 i)) (n + 1)))) co) (ws' := [(h0, .inr (8, moL ma (va_up (va_up iv 20 (nI n2)) 19 (nI (cutN (fun i => nI (va_up U n c9 i)) (n + 1)))) co)), ((ma 25), .inl (k 0, 170, .inl (fun i => nI (g2 i)))), ((ma 24), .inl (k 0, 170, .inl (fun i => nI (va_up U n c9 i))))]) rfl rfl d_Mo_addRows_115 (fun H locs S => ?_)
        exact r_vret C K (va_up U n c9, cutN (fun i => nI (va_up U n c9 i)) (n + 1)) ⟨e2.1.symm.trans e1, by have := e2.2.1; show cutN _ _ ≤ _; omega, by have := e2.2.1; show cutN _ _ ≤ _; omega, e2.2.2, dU⟩ (S.sub [0, 2, 1] (by decide) rfl) d_Mo_addRows_118 (Nat.le_of_ble_eq_true rfl) (Nat.le_of_ble_eq_true rfl)
      | succ d ih =>
        intro t ht U c9 hI H locs S ls hl
        have d1 := da t (by omega)
        have d2 := db t (by omega)
        have hc := hI.2.1
        have ut : U t = g1 t := hI.2.2.2 t (Nat.le_refl t)
        have cont : ∀ av bv : Nat, av = (if t < n1 then g1 t else 0) → bv = (if t < n2 then g2 t else 0) → W p l e { frames := 1, cells := 0, slots := 0, locals := 40 } s m [Value.ref h0].toArray below meth c H locs 0 0 (MQ below (va_Qv (fun (u : (Nat → Nat) × Nat) => vl 65536 u.1 u.2 = vl 65536 g1 n1 + vl 65536 g2 n2 ∧ u.2 ≤ n1 + n2 + 1 ∧ u.2 ≤ 161 ∧ (u.2 = 0 ∨ u.1 (u.2 - 1) ≠ 0) ∧ ∀ i, i < 170 → u.1 i < 65536) (Po G k A (fun u => [(h0, .inr (8, moL ma (va_up (va_up iv 20 (nI n2)) 19 (nI u.2)) co)), ((ma 24), .inl (k 0, 170, .inl (fun i => nI (u.1 i)))), ((ma 25), .inl (k 0, 170, .inl (fun i => nI (g2 i))))])) A) [Value.ref h0].toArray s 0 0 A) (F0 m 68 ls [.int (nI bv), .int (nI av)]) := by
          intro av bv hav hbv
          have d3 : av < 65536 := by rw [hav]; split <;> omega
          have d4 : bv < 65536 := by rw [hbv]; split <;> omega
          refine lv_iadd hx hb d_Mo_addRows_68 ?_
          rw [nI_add]
          refine lv_iload_n hx hb d_Mo_addRows_69 rfl (lv_at hl 1 rfl) ?_
          refine lv_iadd hx hb d_Mo_addRows_70 ?_
          rw [nI_add]
          refine lv_istore (lv' := [(4, .int (nI (av + bv + c9))), (3, .int (nI t)), (2, .int (nI c9)), (1, .int (nI n)), (0, .ref h0)]) hx hb d_Mo_addRows_71 hl (by decide) rfl (fun ls hl => ?_)
          refine lv_aload_n hx hb d_Mo_addRows_73 rfl (lv_at hl 4 rfl) ?_
          refine r_get C K S 0 rfl rfl clOk_Mo 44 (by decide) wf_Mo_93 (v := .ref (ma 24)) rfl d_Mo_addRows_74 ?_
          refine lv_iload_n hx hb d_Mo_addRows_77 rfl (lv_at hl 1 rfl) ?_
          refine lv_iload hx hb d_Mo_addRows_78 (lv_at hl 0 rfl) ?_
          refine lv_ldcw (v := 65535) hx hb C.2.2.2.1 (C.2.2.2.2.1 _ wk_Mo_312) d_Mo_addRows_80 ?_
          refine lv_iand hx hb d_Mo_addRows_83 ?_
          rw [nx_mod]
          refine r_iast C K S 1 rfl (i := (nI t)) (x := nI ((av + bv + c9) % 65536)) (vp_in_nI (by omega) (by decide)) (f' := fun i => nI (va_up U t ((av + bv + c9) % 65536) i)) (ws' := [(h0, .inr (8, moL ma (va_up (va_up iv 20 (nI n2)) 19 (nI n1)) co)), ((ma 24), .inl (k 0, 170, .inl (fun i => nI (va_up U t ((av + bv + c9) % 65536) i)))), ((ma 25), .inl (k 0, 170, .inl (fun i => nI (g2 i))))]) (upd_nI U (by omega) _) rfl d_Mo_addRows_84 (fun H locs S => ?_)
          refine lv_iload hx hb d_Mo_addRows_85 (lv_at hl 0 rfl) ?_
          refine lv_bipush (v := 16) hx hb d_Mo_addRows_87 (by decide) ?_
          refine lv_ishr hx hb d_Mo_addRows_89 ?_
          rw [show nI (av + bv + c9) >>> ((16 : Int32) &&& 31) = nI ((av + bv + c9) / 65536) from pk_shrN (by omega) _ 16 (by decide)]
          refine lv_istore_n (lv' := [(2, .int (nI ((av + bv + c9) / 65536))), (4, .int (nI (av + bv + c9))), (3, .int (nI t)), (1, .int (nI n)), (0, .ref h0)]) hx hb d_Mo_addRows_90 rfl hl (by decide) rfl (fun ls hl => ?_)
          refine lv_iinc (v := nI (t + 1)) (lv' := [(3, .int (nI (t + 1))), (2, .int (nI ((av + bv + c9) / 65536))), (4, .int (nI (av + bv + c9))), (1, .int (nI n)), (0, .ref h0)]) hx hb d_Mo_addRows_91 hl (k := 2) rfl (nI_1 t) (by decide) rfl (fun ls hl => ?_)
          refine lv_goto (tgt := 27) hx hb d_Mo_addRows_94 (by decide) ?_
          refine ih (t + 1) (by omega) (va_up U t ((av + bv + c9) % 65536)) ((av + bv + c9) / 65536) ⟨?_, by omega, ?_, ?_⟩ _ _ S ls (lv_sub hl [0, 1, 3, 4] rfl)
          · rw [vl_s, vl_s, vl_s, va_up_self, vl_congr (h := U) t (fun i hi => va_up_ne U _ (by omega)), Nat.pow_succ]
            have e1 := hI.1
            have e2 := Nat.mod_add_div (av + bv + c9) 65536
            have e3 : ((av + bv + c9) % 65536 + 65536 * ((av + bv + c9) / 65536)) * 65536 ^ t = (av + bv + c9) * 65536 ^ t := by rw [e2]
            rw [Nat.add_mul, Nat.add_mul, Nat.add_mul] at e3
            have e4 : (av + bv + c9) / 65536 * (65536 ^ t * 65536) = 65536 * ((av + bv + c9) / 65536) * 65536 ^ t := by rw [Nat.mul_comm (65536 ^ t), ← Nat.mul_assoc, Nat.mul_comm ((av + bv + c9) / 65536)]
            rw [e4]
            have e5 : (if t < n1 then g1 t else 0) * 65536 ^ t = av * 65536 ^ t := by rw [hav]
            have e6 : (if t < n2 then g2 t else 0) * 65536 ^ t = bv * 65536 ^ t := by rw [hbv]
            rw [e5, e6]
            omega
          · intro i hi
            by_cases w : i = t
            · rw [w, va_up_self]; exact Nat.mod_lt _ (by decide)
            · rw [va_up_ne U _ w]; exact hI.2.2.1 i hi
          · intro i hi
            rw [va_up_ne U _ (by omega)]
            exact hI.2.2.2 i (by omega)
        have cont2 : ∀ av : Nat, av = (if t < n1 then g1 t else 0) → W p l e { frames := 1, cells := 0, slots := 0, locals := 40 } s m [Value.ref h0].toArray below meth c H locs 0 0 (MQ below (va_Qv (fun (u : (Nat → Nat) × Nat) => vl 65536 u.1 u.2 = vl 65536 g1 n1 + vl 65536 g2 n2 ∧ u.2 ≤ n1 + n2 + 1 ∧ u.2 ≤ 161 ∧ (u.2 = 0 ∨ u.1 (u.2 - 1) ≠ 0) ∧ ∀ i, i < 170 → u.1 i < 65536) (Po G k A (fun u => [(h0, .inr (8, moL ma (va_up (va_up iv 20 (nI n2)) 19 (nI u.2)) co)), ((ma 24), .inl (k 0, 170, .inl (fun i => nI (u.1 i)))), ((ma 25), .inl (k 0, 170, .inl (fun i => nI (g2 i))))])) A) [Value.ref h0].toArray s 0 0 A) (F0 m 50 ls [.int (nI av)]) := by
          intro av hav
          refine lv_iload_n hx hb d_Mo_addRows_50 rfl (lv_at hl 0 rfl) ?_
          refine lv_aload_n hx hb d_Mo_addRows_51 rfl (lv_at hl 3 rfl) ?_
          refine r_get C K S 0 rfl rfl clOk_Mo 49 (by decide) wf_Mo_292 (v := .int (nI n2)) rfl d_Mo_addRows_52 ?_
          refine lv_icmp_ge (tgt := 67) hx hb d_Mo_addRows_55 (by decide) (fun hg => ?_) (fun hg => ?_)
          · refine lv_iconst (v := 0) hx hb d_Mo_addRows_67 (by decide) ?_
            exact cont av 0 hav (if_neg (by have := (nI_leI (a := n2) (b := t) (by omega) (by omega)).mp hg; omega)).symm
          · refine lv_aload_n hx hb d_Mo_addRows_58 rfl (lv_at hl 3 rfl) ?_
            refine r_get C K S 0 rfl rfl clOk_Mo 45 (by decide) wf_Mo_96 (v := .ref (ma 25)) rfl d_Mo_addRows_59 ?_
            refine lv_iload_n hx hb d_Mo_addRows_62 rfl (lv_at hl 0 rfl) ?_
            refine r_iald C K S 2 rfl (i := (nI t)) (vp_in_nI (by omega) (by decide)) (v := (nI (g2 t))) (by rw [nI_clamp (by omega)]) d_Mo_addRows_63 ?_
            refine lv_goto (tgt := 68) hx hb d_Mo_addRows_64 (by decide) ?_
            exact cont av (g2 t) hav (if_pos (Nat.lt_of_not_le (fun z => hg ((nI_leI (a := n2) (b := t) (by omega) (by omega)).mpr z)))).symm
        refine lv_iload_n hx hb d_Mo_addRows_27 rfl (lv_at hl 0 rfl) ?_
        refine lv_iload_n hx hb d_Mo_addRows_28 rfl (lv_at hl 2 rfl) ?_
        refine lv_icmp_ge (tgt := 97) hx hb d_Mo_addRows_29 (by decide) (fun hq => absurd hq (nI_ge (by omega) (by omega))) (fun _ => ?_)
        refine lv_iload_n hx hb d_Mo_addRows_32 rfl (lv_at hl 0 rfl) ?_
        refine lv_aload_n hx hb d_Mo_addRows_33 rfl (lv_at hl 3 rfl) ?_
        refine r_get C K S 0 rfl rfl clOk_Mo 48 (by decide) wf_Mo_286 (v := .int (nI n1)) rfl d_Mo_addRows_34 ?_
        refine lv_icmp_ge (tgt := 49) hx hb d_Mo_addRows_37 (by decide) (fun hg => ?_) (fun hg => ?_)
        · refine lv_iconst (v := 0) hx hb d_Mo_addRows_49 (by decide) ?_
          exact cont2 0 (if_neg (by have := (nI_leI (a := n1) (b := t) (by omega) (by omega)).mp hg; omega)).symm
        · refine lv_aload_n hx hb d_Mo_addRows_40 rfl (lv_at hl 3 rfl) ?_
          refine r_get C K S 0 rfl rfl clOk_Mo 44 (by decide) wf_Mo_93 (v := .ref (ma 24)) rfl d_Mo_addRows_41 ?_
          refine lv_iload_n hx hb d_Mo_addRows_44 rfl (lv_at hl 0 rfl) ?_
          refine r_iald C K S 1 rfl (i := (nI t)) (vp_in_nI (by omega) (by decide)) (v := (nI (g1 t))) (by rw [nI_clamp (by omega), ut]) d_Mo_addRows_45 ?_
          refine lv_goto (tgt := 50) hx hb d_Mo_addRows_46 (by decide) ?_
          exact cont2 (g1 t) (if_pos (Nat.lt_of_not_le (fun z => hg ((nI_leI (a := n1) (b := t) (by omega) (by omega)).mpr z)))).symm
    refine lv_istore_n (lv' := [(1, .int (nI n)), (0, .ref h0)]) hx hb d_Mo_addRows_22 rfl hl (by decide) rfl (fun ls hl => ?_)
    refine lv_iconst (v := 0) hx hb d_Mo_addRows_23 (by decide) ?_
    refine lv_istore_n (lv' := [(2, .int 0), (1, .int (nI n)), (0, .ref h0)]) hx hb d_Mo_addRows_24 rfl hl (by decide) rfl (fun ls hl => ?_)
    refine lv_iconst (v := 0) hx hb d_Mo_addRows_25 (by decide) ?_
    refine lv_istore_n (lv' := [(3, .int 0), (2, .int 0), (1, .int (nI n)), (0, .ref h0)]) hx hb d_Mo_addRows_26 rfl hl (by decide) rfl (fun ls hl => ?_)
    exact loop n 0 (by omega) g1 0 ⟨by simp [vl], by omega, da, fun _ _ => rfl⟩ _ _ S ls hl
  refine lv_aload_n hx hb d_Mo_addRows_0 rfl (lv_at hl 0 rfl) ?_
  refine r_get C K S 0 rfl rfl clOk_Mo 48 (by decide) wf_Mo_286 (v := .int (nI n1)) rfl d_Mo_addRows_1 ?_
  refine lv_aload_n hx hb d_Mo_addRows_4 rfl (lv_at hl 0 rfl) ?_
  refine r_get C K S 0 rfl rfl clOk_Mo 49 (by decide) wf_Mo_292 (v := .int (nI n2)) rfl d_Mo_addRows_5 ?_
  refine lv_icmp_le (tgt := 18) hx hb d_Mo_addRows_8 (by decide) (fun hg => ?_) (fun hg => ?_)
  · refine lv_aload_n hx hb d_Mo_addRows_18 rfl (lv_at hl 0 rfl) ?_
    refine r_get C K S 0 rfl rfl clOk_Mo 49 (by decide) wf_Mo_292 (v := .int (nI n2)) rfl d_Mo_addRows_19 ?_
    have := (nI_leI (a := n1) (b := n2) (by omega) (by omega)).mp hg
    exact main n2 (by omega) (by omega) (by omega) (by omega) _ _ S ls hl
  · refine lv_aload_n hx hb d_Mo_addRows_11 rfl (lv_at hl 0 rfl) ?_
    refine r_get C K S 0 rfl rfl clOk_Mo 48 (by decide) wf_Mo_286 (v := .int (nI n1)) rfl d_Mo_addRows_12 ?_
    refine lv_goto (tgt := 22) hx hb d_Mo_addRows_15 (by decide) ?_
    have : n2 < n1 := Nat.lt_of_not_le (fun z => hg ((nI_leI (a := n1) (b := n2) (by omega) (by omega)).mpr z))
    exact main n1 (by omega) (by omega) (by omega) (by omega) _ _ S ls hl
