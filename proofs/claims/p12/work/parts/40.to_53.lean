section
theorem d_Mo_addRows_0 : decode c_Mo_addRows 0 = .ok (.aload_n 0, 1) := by decide +kernel
theorem d_Mo_addRows_1 : decode c_Mo_addRows 1 = .ok (.getfield 286, 3) := by decide +kernel
theorem d_Mo_addRows_4 : decode c_Mo_addRows 4 = .ok (.aload_n 0, 1) := by decide +kernel
theorem d_Mo_addRows_5 : decode c_Mo_addRows 5 = .ok (.getfield 292, 3) := by decide +kernel
theorem d_Mo_addRows_8 : decode c_Mo_addRows 8 = .ok (.if_icmp .le 10, 3) := by decide +kernel
theorem d_Mo_addRows_11 : decode c_Mo_addRows 11 = .ok (.aload_n 0, 1) := by decide +kernel
theorem d_Mo_addRows_12 : decode c_Mo_addRows 12 = .ok (.getfield 286, 3) := by decide +kernel
theorem d_Mo_addRows_15 : decode c_Mo_addRows 15 = .ok (.goto 7, 3) := by decide +kernel
theorem d_Mo_addRows_18 : decode c_Mo_addRows 18 = .ok (.aload_n 0, 1) := by decide +kernel
theorem d_Mo_addRows_19 : decode c_Mo_addRows 19 = .ok (.getfield 292, 3) := by decide +kernel
theorem d_Mo_addRows_22 : decode c_Mo_addRows 22 = .ok (.istore_n 1, 1) := by decide +kernel
theorem d_Mo_addRows_23 : decode c_Mo_addRows 23 = .ok (.iconst 0, 1) := by decide +kernel
theorem d_Mo_addRows_24 : decode c_Mo_addRows 24 = .ok (.istore_n 2, 1) := by decide +kernel
theorem d_Mo_addRows_25 : decode c_Mo_addRows 25 = .ok (.iconst 0, 1) := by decide +kernel
theorem d_Mo_addRows_26 : decode c_Mo_addRows 26 = .ok (.istore_n 3, 1) := by decide +kernel
theorem d_Mo_addRows_27 : decode c_Mo_addRows 27 = .ok (.iload_n 3, 1) := by decide +kernel
theorem d_Mo_addRows_28 : decode c_Mo_addRows 28 = .ok (.iload_n 1, 1) := by decide +kernel
theorem d_Mo_addRows_29 : decode c_Mo_addRows 29 = .ok (.if_icmp .ge 68, 3) := by decide +kernel
theorem d_Mo_addRows_32 : decode c_Mo_addRows 32 = .ok (.iload_n 3, 1) := by decide +kernel
theorem d_Mo_addRows_33 : decode c_Mo_addRows 33 = .ok (.aload_n 0, 1) := by decide +kernel
theorem d_Mo_addRows_34 : decode c_Mo_addRows 34 = .ok (.getfield 286, 3) := by decide +kernel
theorem d_Mo_addRows_37 : decode c_Mo_addRows 37 = .ok (.if_icmp .ge 12, 3) := by decide +kernel
theorem d_Mo_addRows_40 : decode c_Mo_addRows 40 = .ok (.aload_n 0, 1) := by decide +kernel
theorem d_Mo_addRows_41 : decode c_Mo_addRows 41 = .ok (.getfield 93, 3) := by decide +kernel
theorem d_Mo_addRows_44 : decode c_Mo_addRows 44 = .ok (.iload_n 3, 1) := by decide +kernel
theorem d_Mo_addRows_45 : decode c_Mo_addRows 45 = .ok (.iaload, 1) := by decide +kernel
theorem d_Mo_addRows_46 : decode c_Mo_addRows 46 = .ok (.goto 4, 3) := by decide +kernel
theorem d_Mo_addRows_49 : decode c_Mo_addRows 49 = .ok (.iconst 0, 1) := by decide +kernel
theorem d_Mo_addRows_50 : decode c_Mo_addRows 50 = .ok (.iload_n 3, 1) := by decide +kernel
theorem d_Mo_addRows_51 : decode c_Mo_addRows 51 = .ok (.aload_n 0, 1) := by decide +kernel
theorem d_Mo_addRows_52 : decode c_Mo_addRows 52 = .ok (.getfield 292, 3) := by decide +kernel
theorem d_Mo_addRows_55 : decode c_Mo_addRows 55 = .ok (.if_icmp .ge 12, 3) := by decide +kernel
theorem d_Mo_addRows_58 : decode c_Mo_addRows 58 = .ok (.aload_n 0, 1) := by decide +kernel
theorem d_Mo_addRows_59 : decode c_Mo_addRows 59 = .ok (.getfield 96, 3) := by decide +kernel
theorem d_Mo_addRows_62 : decode c_Mo_addRows 62 = .ok (.iload_n 3, 1) := by decide +kernel
theorem d_Mo_addRows_63 : decode c_Mo_addRows 63 = .ok (.iaload, 1) := by decide +kernel
theorem d_Mo_addRows_64 : decode c_Mo_addRows 64 = .ok (.goto 4, 3) := by decide +kernel
theorem d_Mo_addRows_67 : decode c_Mo_addRows 67 = .ok (.iconst 0, 1) := by decide +kernel
theorem d_Mo_addRows_68 : decode c_Mo_addRows 68 = .ok (.iadd, 1) := by decide +kernel
theorem d_Mo_addRows_69 : decode c_Mo_addRows 69 = .ok (.iload_n 2, 1) := by decide +kernel
theorem d_Mo_addRows_70 : decode c_Mo_addRows 70 = .ok (.iadd, 1) := by decide +kernel
theorem d_Mo_addRows_71 : decode c_Mo_addRows 71 = .ok (.istore 4, 2) := by decide +kernel
theorem d_Mo_addRows_73 : decode c_Mo_addRows 73 = .ok (.aload_n 0, 1) := by decide +kernel
theorem d_Mo_addRows_74 : decode c_Mo_addRows 74 = .ok (.getfield 93, 3) := by decide +kernel
theorem d_Mo_addRows_77 : decode c_Mo_addRows 77 = .ok (.iload_n 3, 1) := by decide +kernel
theorem d_Mo_addRows_78 : decode c_Mo_addRows 78 = .ok (.iload 4, 2) := by decide +kernel
theorem d_Mo_addRows_80 : decode c_Mo_addRows 80 = .ok (.ldc_w 312, 3) := by decide +kernel
theorem d_Mo_addRows_83 : decode c_Mo_addRows 83 = .ok (.iand, 1) := by decide +kernel
theorem d_Mo_addRows_84 : decode c_Mo_addRows 84 = .ok (.iastore, 1) := by decide +kernel
theorem d_Mo_addRows_85 : decode c_Mo_addRows 85 = .ok (.iload 4, 2) := by decide +kernel
theorem d_Mo_addRows_87 : decode c_Mo_addRows 87 = .ok (.bipush 16, 2) := by decide +kernel
theorem d_Mo_addRows_89 : decode c_Mo_addRows 89 = .ok (.ishr, 1) := by decide +kernel
theorem d_Mo_addRows_90 : decode c_Mo_addRows 90 = .ok (.istore_n 2, 1) := by decide +kernel
theorem d_Mo_addRows_91 : decode c_Mo_addRows 91 = .ok (.iinc 3 1, 3) := by decide +kernel
theorem d_Mo_addRows_94 : decode c_Mo_addRows 94 = .ok (.goto (-67), 3) := by decide +kernel
theorem d_Mo_addRows_97 : decode c_Mo_addRows 97 = .ok (.aload_n 0, 1) := by decide +kernel
theorem d_Mo_addRows_98 : decode c_Mo_addRows 98 = .ok (.getfield 93, 3) := by decide +kernel
theorem d_Mo_addRows_101 : decode c_Mo_addRows 101 = .ok (.iload_n 1, 1) := by decide +kernel
theorem d_Mo_addRows_102 : decode c_Mo_addRows 102 = .ok (.iload_n 2, 1) := by decide +kernel
theorem d_Mo_addRows_103 : decode c_Mo_addRows 103 = .ok (.iastore, 1) := by decide +kernel
theorem d_Mo_addRows_104 : decode c_Mo_addRows 104 = .ok (.aload_n 0, 1) := by decide +kernel
theorem d_Mo_addRows_105 : decode c_Mo_addRows 105 = .ok (.aload_n 0, 1) := by decide +kernel
theorem d_Mo_addRows_106 : decode c_Mo_addRows 106 = .ok (.getfield 93, 3) := by decide +kernel
theorem d_Mo_addRows_109 : decode c_Mo_addRows 109 = .ok (.iload_n 1, 1) := by decide +kernel
theorem d_Mo_addRows_110 : decode c_Mo_addRows 110 = .ok (.iconst 1, 1) := by decide +kernel
theorem d_Mo_addRows_111 : decode c_Mo_addRows 111 = .ok (.iadd, 1) := by decide +kernel
theorem d_Mo_addRows_112 : decode c_Mo_addRows 112 = .ok (.invokestatic 278, 3) := by decide +kernel
theorem d_Mo_addRows_115 : decode c_Mo_addRows 115 = .ok (.putfield 286, 3) := by decide +kernel
theorem d_Mo_addRows_118 : decode c_Mo_addRows 118 = .ok (.return_, 1) := by decide +kernel
set_option maxRecDepth 100000 in
set_option maxHeartbeats 8000000 in
/-- addRows() -/
theorem g_Mo_addRows (l : Launch) (G : va_G) (k : Nat → ClassId) (h0 s0 n1 n2 : Nat) (ma : Nat → Nat) (iv : Nat → Int32) (co : Int64) (g1 g2 : Nat → Nat) (h1 : n1 ≤ 160) (h2 : n2 ≤ 160) (da : ∀ i, i < 170 → g1 i < 65536) (db : ∀ i, i < 170 → g2 i < 65536) : CV l y_Mo_addRows c_Mo_addRows 5 { frames := 1, cells := 0, slots := 0, locals := 40 } [.ref h0] G k s0 [(h0, .inr (8, moL ma (va_up (va_up iv 20 (nI n2)) 19 (nI n1)) co)), ((ma 24), .inl (k 0, 170, .inl (fun i => nI (g1 i)))), ((ma 25), .inl (k 0, 170, .inl (fun i => nI (g2 i))))] (fun (u : (Nat → Nat) × Nat) => vl 65536 u.1 u.2 = vl 65536 g1 n1 + vl 65536 g2 n2 ∧ u.2 ≤ n1 + n2 + 1 ∧ u.2 ≤ 161 ∧ (u.2 = 0 ∨ u.1 (u.2 - 1) ≠ 0) ∧ ∀ i, i < 170 → u.1 i < 65536) (fun u => [(h0, .inr (8, moL ma (va_up (va_up iv 20 (nI n2)) 19 (nI u.2)) co)), ((ma 24), .inl (k 0, 170, .inl (fun i => nI (u.1 i)))), ((ma 25), .inl (k 0, 170, .inl (fun i => nI (g2 i))))]) 0 0 := by
  refine met_start (by decide) (Nat.le_of_ble_eq_true rfl) ?_
  intro p e s m below meth c C K hA hsz S ls hl
  generalize va_A [(h0, .inr (8, moL ma (va_up (va_up iv 20 (nI n2)) 19 (nI n1)) co)), ((ma 24), .inl (k 0, 170, .inl (fun i => nI (g1 i)))), ((ma 25), .inl (k 0, 170, .inl (fun i => nI (g2 i))))] s0 = A at hA S ⊢
  have hx := C.1
  have hb := C.2.1
  have hl : lv_has ls 5 [(0, .ref h0)] := hl
  have main : ∀ n, n1 ≤ n → n2 ≤ n → n ≤ 160 → n ≤ n1 + n2 → ∀ (H : Heap) (locs : List Loc), Sw G A s.heap H locs [(h0, .inr (8, moL ma (va_up (va_up iv 20 (nI n2)) 19 (nI n1)) co)), ((ma 24), .inl (k 0, 170, .inl (fun i => nI (g1 i)))), ((ma 25), .inl (k 0, 170, .inl (fun i => nI (g2 i))))] → ∀ ls : Array Slot, lv_has ls 5 [(0, .ref h0)] → W p l e { frames := 1, cells := 0, slots := 0, locals := 40 } s m [Value.ref h0].toArray below meth c H locs 0 0 (MQ below (va_Qv (fun (u : (Nat → Nat) × Nat) => vl 65536 u.1 u.2 = vl 65536 g1 n1 + vl 65536 g2 n2 ∧ u.2 ≤ n1 + n2 + 1 ∧ u.2 ≤ 161 ∧ (u.2 = 0 ∨ u.1 (u.2 - 1) ≠ 0) ∧ ∀ i, i < 170 → u.1 i < 65536) (Po G k A (fun u => [(h0, .inr (8, moL ma (va_up (va_up iv 20 (nI n2)) 19 (nI u.2)) co)), ((ma 24), .inl (k 0, 170, .inl (fun i => nI (u.1 i)))), ((ma 25), .inl (k 0, 170, .inl (fun i => nI (g2 i))))])) A) [Value.ref h0].toArray s 0 0 A) (F0 m 22 ls [.int (nI n)]) := by
    intro n q1 q2 q3 q4 H locs S ls hl
    have loop : ∀ d t, t + d = n → ∀ (U : Nat → Nat) (c9 : Nat), (vl 65536 U t + c9 * 65536 ^ t = vl 65536 (fun i => if i < n1 then g1 i else 0) t + vl 65536 (fun i => if i < n2 then g2 i else 0) t ∧ c9 ≤ 1 ∧ (∀ i, i < 170 → U i < 65536) ∧ ∀ i, t ≤ i → U i = g1 i) → ∀ (H : Heap) (locs : List Loc), Sw G A s.heap H locs [(h0, .inr (8, moL ma (va_up (va_up iv 20 (nI n2)) 19 (nI n1)) co)), ((ma 24), .inl (k 0, 170, .inl (fun i => nI (U i)))), ((ma 25), .inl (k 0, 170, .inl (fun i => nI (g2 i))))] → ∀ ls : Array Slot, lv_has ls 5 [(3, .int (nI t)), (2, .int (nI c9)), (1, .int (nI n)), (0, .ref h0)] → W p l e { frames := 1, cells := 0, slots := 0, locals := 40 } s m [Value.ref h0].toArray below meth c H locs 0 0 (MQ below (va_Qv (fun (u : (Nat → Nat) × Nat) => vl 65536 u.1 u.2 = vl 65536 g1 n1 + vl 65536 g2 n2 ∧ u.2 ≤ n1 + n2 + 1 ∧ u.2 ≤ 161 ∧ (u.2 = 0 ∨ u.1 (u.2 - 1) ≠ 0) ∧ ∀ i, i < 170 → u.1 i < 65536) (Po G k A (fun u => [(h0, .inr (8, moL ma (va_up (va_up iv 20 (nI n2)) 19 (nI u.2)) co)), ((ma 24), .inl (k 0, 170, .inl (fun i => nI (u.1 i)))), ((ma 25), .inl (k 0, 170, .inl (fun i => nI (g2 i))))])) A) [Value.ref h0].toArray s 0 0 A) (F0 m 27 ls []) := by
      intro d
      induction d with
      | zero =>
        intro t ht U c9 hI H locs S ls hl
        obtain rfl : n = t := by omega
        have hc := hI.2.1
        have e0 := hI.1
        rw [vl_bb q1, vl_bb q2] at e0
        have dU : ∀ i, i < 170 → va_up U n c9 i < 65536 := fun i hi => by
          by_cases w : i = n
          · rw [w, va_up_self]; omega
          · rw [va_up_ne U c9 w]; exact hI.2.2.1 i hi
        have e1 : vl 65536 (va_up U n c9) (n + 1) = vl 65536 g1 n1 + vl 65536 g2 n2 := by
          rw [vl_s, va_up_self, vl_congr (h := U) n (fun i hi => va_up_ne U c9 (by omega))]
          exact e0
        have e2 := vl_cut (B := 65536) (va_up U n c9) (fun i => nI (va_up U n c9 i)) (fun _ => rfl) (n + 1) (fun i hi => by have := dU i (by omega); omega)
        refine lv_iload_n hx hb d_Mo_addRows_27 rfl (lv_at hl 0 rfl) ?_
        refine lv_iload_n hx hb d_Mo_addRows_28 rfl (lv_at hl 2 rfl) ?_
        refine lv_icmp_ge (tgt := 97) hx hb d_Mo_addRows_29 (by decide) (fun _ => ?_) (fun hq => absurd (nI_le (Nat.le_refl _) (by omega)) hq)
        refine lv_aload_n hx hb d_Mo_addRows_97 rfl (lv_at hl 3 rfl) ?_
        refine r_get C K S 0 rfl rfl clOk_Mo 44 (by decide) wf_Mo_93 (v := .ref (ma 24)) rfl d_Mo_addRows_98 ?_
        refine lv_iload_n hx hb d_Mo_addRows_101 rfl (lv_at hl 2 rfl) ?_
        refine lv_iload_n hx hb d_Mo_addRows_102 rfl (lv_at hl 1 rfl) ?_
        refine r_iast C K S 1 rfl (i := (nI n)) (x := (nI c9)) (vp_in_nI (by omega) (by decide)) (f' := fun i => nI (va_up U n c9 i)) (ws' := [(h0, .inr (8, moL ma (va_up (va_up iv 20 (nI n2)) 19 (nI n1)) co)), ((ma 24), .inl (k 0, 170, .inl (fun i => nI (va_up U n c9 i)))), ((ma 25), .inl (k 0, 170, .inl (fun i => nI (g2 i))))]) (upd_nI U (by omega) c9) rfl d_Mo_addRows_103 (fun H locs S => ?_)
        refine lv_aload_n hx hb d_Mo_addRows_104 rfl (lv_at hl 3 rfl) ?_
        refine lv_aload_n hx hb d_Mo_addRows_105 rfl (lv_at hl 3 rfl) ?_
        refine r_get C K S 0 rfl rfl clOk_Mo 44 (by decide) wf_Mo_93 (v := .ref (ma 24)) rfl d_Mo_addRows_106 ?_
        refine lv_iload_n hx hb d_Mo_addRows_109 rfl (lv_at hl 2 rfl) ?_
        refine lv_iconst (v := 1) hx hb d_Mo_addRows_110 (by decide) ?_
        refine lv_iadd hx hb d_Mo_addRows_111 ?_
        rw [nI_1]
        refine r_backi (wi := [((ma 24), .inl (k 0, 170, .inl (fun i => nI (va_up U n c9 i))))]) (wr := [(h0, .inr (8, moL ma (va_up (va_up iv 20 (nI n2)) 19 (nI n1)) co)), ((ma 25), .inl (k 0, 170, .inl (fun i => nI (g2 i))))]) S hA [1] [0, 2] rfl rfl (by decide) (by decide) (va_runS (As := [.ref (ma 24), .int (nI (n + 1))]) (rest := [.ref h0]) ⟨hx, hb, C.2.2.1, C.2.2.2.1, C.2.2.2.2.1⟩ (k_Mo_cut2 l G k (ma 24) _ 170 (n + 1) (fun i => nI (va_up U n c9 i)) (by omega) (by decide)) (k_stat (n := 2) C wc_Mo_cut2 rfl rfl wz_Mo wm_Mo_278 wt_Mo_cut2 (by decide +kernel) ⟨(Nat.le_of_ble_eq_true rfl), (Nat.le_of_ble_eq_true rfl)⟩) (pr_now K S [1] (by decide) rfl) rfl rfl hl.1 rfl (lv_room (Nat.le_of_ble_eq_true rfl)) d_Mo_addRows_112 ⟨(Nat.le_of_ble_eq_true rfl), (Nat.le_of_ble_eq_true rfl)⟩) (fun r3 u1 H locs hw2 S => ?_)
        have S : Sw G A s.heap _ _ [(h0, .inr (8, moL ma (va_up (va_up iv 20 (nI n2)) 19 (nI n1)) co)), ((ma 25), .inl (k 0, 170, .inl (fun i => nI (g2 i)))), ((ma 24), .inl (k 0, 170, .inl (fun i => nI (va_up U n c9 i))))] := S
        have hw2 : r3 = nI (cutN (fun i => nI (va_up U n c9 i)) (n + 1)) := hw2
        subst hw2
        refine r_put C K S 0 rfl rfl clOk_Mo 48 (by decide) wf_Mo_286 rfl (ty := .int) (v := .int (nI (cutN (fun i => nI (va_up U n c9 i)) (n + 1)))) (by decide +kernel) rfl rfl (Nat.le_of_ble_eq_true rfl) (fs' := moL ma (va_up (va_up iv 20 (nI n2)) 19 (nI (cutN (fun i => nI (va_up U n c9 i)) (n + 1)))) co) (ws' := [(h0, .inr (8, moL ma (va_up (va_up iv 20 (nI n2)) 19 (nI (cutN (fun i => nI (va_up U n c9 i)) (n + 1)))) co)), ((ma 25), .inl (k 0, 170, .inl (fun i => nI (g2 i)))), ((ma 24), .inl (k 0, 170, .inl (fun i => nI (va_up U n c9 i))))]) rfl rfl d_Mo_addRows_115 (fun H locs S => ?_)
        exact r_vret C K (va_up U n c9, cutN (fun i => nI (va_up U n c9 i)) (n + 1)) ⟨e2.1.symm.trans e1, by have := e2.2.1; show cutN _ _ ≤ _; omega, by have := e2.2.1; show cutN _ _ ≤ _; omega, e2.2.2, dU⟩ (S.sub [0, 2, 1] (by decide) rfl) d_Mo_addRows_118 (Nat.le_of_ble_eq_true rfl) (Nat.le_of_ble_eq_true rfl)
      | succ d ih =>
        intro t ht U c9 hI H locs S ls hl
        have d1 := da t (by omega)
        have d2 := db t (by omega)
        have hc := hI.2.1
        have ut : U t = g1 t := hI.2.2.2 t (Nat.le_refl t)
        have cont : ∀ av bv : Nat, av = (if t < n1 then g1 t else 0) → bv = (if t < n2 then g2 t else 0) → W p l e { frames := 1, cells := 0, slots := 0, locals := 40 } s m [Value.ref h0].toArray below meth c H locs 0 0 (MQ below (va_Qv (fun (u : (Nat → Nat) × Nat) => vl 65536 u.1 u.2 = vl 65536 g1 n1 + vl 65536 g2 n2 ∧ u.2 ≤ n1 + n2 + 1 ∧ u.2 ≤ 161 ∧ (u.2 = 0 ∨ u.1 (u.2 - 1) ≠ 0) ∧ ∀ i, i < 170 → u.1 i < 65536) (Po G k A (fun u => [(h0, .inr (8, moL ma (va_up (va_up iv 20 (nI n2)) 19 (nI u.2)) co)), ((ma 24), .inl (k 0, 170, .inl (fun i => nI (u.1 i)))), ((ma 25), .inl (k 0, 170, .inl (fun i => nI (g2 i))))])) A) [Value.ref h0].toArray s 0 0 A) (F0 m 68 ls [.int (nI bv), .int (nI av)]) := by
          intro av bv hav hbv
          have d3 : av < 65536 := by rw [hav]; split <;> omega
          have d4 : bv < 65536 := by rw [hbv]; split <;> omega
          refine lv_iadd hx hb d_Mo_addRows_68 ?_
          rw [nI_add]
          refine lv_iload_n hx hb d_Mo_addRows_69 rfl (lv_at hl 1 rfl) ?_
          refine lv_iadd hx hb d_Mo_addRows_70 ?_
          rw [nI_add]
          refine lv_istore (lv' := [(4, .int (nI (av + bv + c9))), (3, .int (nI t)), (2, .int (nI c9)), (1, .int (nI n)), (0, .ref h0)]) hx hb d_Mo_addRows_71 hl (by decide) rfl (fun ls hl => ?_)
          refine lv_aload_n hx hb d_Mo_addRows_73 rfl (lv_at hl 4 rfl) ?_
          refine r_get C K S 0 rfl rfl clOk_Mo 44 (by decide) wf_Mo_93 (v := .ref (ma 24)) rfl d_Mo_addRows_74 ?_
          refine lv_iload_n hx hb d_Mo_addRows_77 rfl (lv_at hl 1 rfl) ?_
          refine lv_iload hx hb d_Mo_addRows_78 (lv_at hl 0 rfl) ?_
          refine lv_ldcw (v := 65535) hx hb C.2.2.2.1 (C.2.2.2.2.1 _ wk_Mo_312) d_Mo_addRows_80 ?_
          refine lv_iand hx hb d_Mo_addRows_83 ?_
          rw [nx_mod]
          refine r_iast C K S 1 rfl (i := (nI t)) (x := nI ((av + bv + c9) % 65536)) (vp_in_nI (by omega) (by decide)) (f' := fun i => nI (va_up U t ((av + bv + c9) % 65536) i)) (ws' := [(h0, .inr (8, moL ma (va_up (va_up iv 20 (nI n2)) 19 (nI n1)) co)), ((ma 24), .inl (k 0, 170, .inl (fun i => nI (va_up U t ((av + bv + c9) % 65536) i)))), ((ma 25), .inl (k 0, 170, .inl (fun i => nI (g2 i))))]) (upd_nI U (by omega) _) rfl d_Mo_addRows_84 (fun H locs S => ?_)
          refine lv_iload hx hb d_Mo_addRows_85 (lv_at hl 0 rfl) ?_
          refine lv_bipush (v := 16) hx hb d_Mo_addRows_87 (by decide) ?_
          refine lv_ishr hx hb d_Mo_addRows_89 ?_
          rw [show nI (av + bv + c9) >>> ((16 : Int32) &&& 31) = nI ((av + bv + c9) / 65536) from pk_shrN (by omega) _ 16 (by decide)]
          refine lv_istore_n (lv' := [(2, .int (nI ((av + bv + c9) / 65536))), (4, .int (nI (av + bv + c9))), (3, .int (nI t)), (1, .int (nI n)), (0, .ref h0)]) hx hb d_Mo_addRows_90 rfl hl (by decide) rfl (fun ls hl => ?_)
          refine lv_iinc (v := nI (t + 1)) (lv' := [(3, .int (nI (t + 1))), (2, .int (nI ((av + bv + c9) / 65536))), (4, .int (nI (av + bv + c9))), (1, .int (nI n)), (0, .ref h0)]) hx hb d_Mo_addRows_91 hl (k := 2) rfl (nI_1 t) (by decide) rfl (fun ls hl => ?_)
          refine lv_goto (tgt := 27) hx hb d_Mo_addRows_94 (by decide) ?_
          refine ih (t + 1) (by omega) (va_up U t ((av + bv + c9) % 65536)) ((av + bv + c9) / 65536) ⟨?_, by omega, ?_, ?_⟩ _ _ S ls (lv_sub hl [0, 1, 3, 4] rfl)
          · rw [vl_s, vl_s, vl_s, va_up_self, vl_congr (h := U) t (fun i hi => va_up_ne U _ (by omega)), Nat.pow_succ]
            have e1 := hI.1
            have e2 := Nat.mod_add_div (av + bv + c9) 65536
            have e3 : ((av + bv + c9) % 65536 + 65536 * ((av + bv + c9) / 65536)) * 65536 ^ t = (av + bv + c9) * 65536 ^ t := by rw [e2]
            rw [Nat.add_mul, Nat.add_mul, Nat.add_mul] at e3
            have e4 : (av + bv + c9) / 65536 * (65536 ^ t * 65536) = 65536 * ((av + bv + c9) / 65536) * 65536 ^ t := by rw [Nat.mul_comm (65536 ^ t), ← Nat.mul_assoc, Nat.mul_comm ((av + bv + c9) / 65536)]
            rw [e4]
            have e5 : (if t < n1 then g1 t else 0) * 65536 ^ t = av * 65536 ^ t := by rw [hav]
            have e6 : (if t < n2 then g2 t else 0) * 65536 ^ t = bv * 65536 ^ t := by rw [hbv]
            rw [e5, e6]
            omega
          · intro i hi
            by_cases w : i = t
            · rw [w, va_up_self]; exact Nat.mod_lt _ (by decide)
            · rw [va_up_ne U _ w]; exact hI.2.2.1 i hi
          · intro i hi
            rw [va_up_ne U _ (by omega)]
            exact hI.2.2.2 i (by omega)
        have cont2 : ∀ av : Nat, av = (if t < n1 then g1 t else 0) → W p l e { frames := 1, cells := 0, slots := 0, locals := 40 } s m [Value.ref h0].toArray below meth c H locs 0 0 (MQ below (va_Qv (fun (u : (Nat → Nat) × Nat) => vl 65536 u.1 u.2 = vl 65536 g1 n1 + vl 65536 g2 n2 ∧ u.2 ≤ n1 + n2 + 1 ∧ u.2 ≤ 161 ∧ (u.2 = 0 ∨ u.1 (u.2 - 1) ≠ 0) ∧ ∀ i, i < 170 → u.1 i < 65536) (Po G k A (fun u => [(h0, .inr (8, moL ma (va_up (va_up iv 20 (nI n2)) 19 (nI u.2)) co)), ((ma 24), .inl (k 0, 170, .inl (fun i => nI (u.1 i)))), ((ma 25), .inl (k 0, 170, .inl (fun i => nI (g2 i))))])) A) [Value.ref h0].toArray s 0 0 A) (F0 m 50 ls [.int (nI av)]) := by
          intro av hav
          refine lv_iload_n hx hb d_Mo_addRows_50 rfl (lv_at hl 0 rfl) ?_
          refine lv_aload_n hx hb d_Mo_addRows_51 rfl (lv_at hl 3 rfl) ?_
          refine r_get C K S 0 rfl rfl clOk_Mo 49 (by decide) wf_Mo_292 (v := .int (nI n2)) rfl d_Mo_addRows_52 ?_
          refine lv_icmp_ge (tgt := 67) hx hb d_Mo_addRows_55 (by decide) (fun hg => ?_) (fun hg => ?_)
          · refine lv_iconst (v := 0) hx hb d_Mo_addRows_67 (by decide) ?_
            exact cont av 0 hav (if_neg (by have := (nI_leI (a := n2) (b := t) (by omega) (by omega)).mp hg; omega)).symm
          · refine lv_aload_n hx hb d_Mo_addRows_58 rfl (lv_at hl 3 rfl) ?_
            refine r_get C K S 0 rfl rfl clOk_Mo 45 (by decide) wf_Mo_96 (v := .ref (ma 25)) rfl d_Mo_addRows_59 ?_
            refine lv_iload_n hx hb d_Mo_addRows_62 rfl (lv_at hl 0 rfl) ?_
            refine r_iald C K S 2 rfl (i := (nI t)) (vp_in_nI (by omega) (by decide)) (v := (nI (g2 t))) (by rw [nI_clamp (by omega)]) d_Mo_addRows_63 ?_
            refine lv_goto (tgt := 68) hx hb d_Mo_addRows_64 (by decide) ?_
            exact cont av (g2 t) hav (if_pos (Nat.lt_of_not_le (fun z => hg ((nI_leI (a := n2) (b := t) (by omega) (by omega)).mpr z)))).symm
        refine lv_iload_n hx hb d_Mo_addRows_27 rfl (lv_at hl 0 rfl) ?_
        refine lv_iload_n hx hb d_Mo_addRows_28 rfl (lv_at hl 2 rfl) ?_
        refine lv_icmp_ge (tgt := 97) hx hb d_Mo_addRows_29 (by decide) (fun hq => absurd hq (nI_ge (by omega) (by omega))) (fun _ => ?_)
        refine lv_iload_n hx hb d_Mo_addRows_32 rfl (lv_at hl 0 rfl) ?_
        refine lv_aload_n hx hb d_Mo_addRows_33 rfl (lv_at hl 3 rfl) ?_
        refine r_get C K S 0 rfl rfl clOk_Mo 48 (by decide) wf_Mo_286 (v := .int (nI n1)) rfl d_Mo_addRows_34 ?_
        refine lv_icmp_ge (tgt := 49) hx hb d_Mo_addRows_37 (by decide) (fun hg => ?_) (fun hg => ?_)
        · refine lv_iconst (v := 0) hx hb d_Mo_addRows_49 (by decide) ?_
          exact cont2 0 (if_neg (by have := (nI_leI (a := n1) (b := t) (by omega) (by omega)).mp hg; omega)).symm
        · refine lv_aload_n hx hb d_Mo_addRows_40 rfl (lv_at hl 3 rfl) ?_
          refine r_get C K S 0 rfl rfl clOk_Mo 44 (by decide) wf_Mo_93 (v := .ref (ma 24)) rfl d_Mo_addRows_41 ?_
          refine lv_iload_n hx hb d_Mo_addRows_44 rfl (lv_at hl 0 rfl) ?_
          refine r_iald C K S 1 rfl (i := (nI t)) (vp_in_nI (by omega) (by decide)) (v := (nI (g1 t))) (by rw [nI_clamp (by omega), ut]) d_Mo_addRows_45 ?_
          refine lv_goto (tgt := 50) hx hb d_Mo_addRows_46 (by decide) ?_
          exact cont2 (g1 t) (if_pos (Nat.lt_of_not_le (fun z => hg ((nI_leI (a := n1) (b := t) (by omega) (by omega)).mpr z)))).symm
    refine lv_istore_n (lv' := [(1, .int (nI n)), (0, .ref h0)]) hx hb d_Mo_addRows_22 rfl hl (by decide) rfl (fun ls hl => ?_)
    refine lv_iconst (v := 0) hx hb d_Mo_addRows_23 (by decide) ?_
    refine lv_istore_n (lv' := [(2, .int 0), (1, .int (nI n)), (0, .ref h0)]) hx hb d_Mo_addRows_24 rfl hl (by decide) rfl (fun ls hl => ?_)
    refine lv_iconst (v := 0) hx hb d_Mo_addRows_25 (by decide) ?_
    refine lv_istore_n (lv' := [(3, .int 0), (2, .int 0), (1, .int (nI n)), (0, .ref h0)]) hx hb d_Mo_addRows_26 rfl hl (by decide) rfl (fun ls hl => ?_)
    exact loop n 0 (by omega) g1 0 ⟨by simp [vl], by omega, da, fun _ _ => rfl⟩ _ _ S ls hl
  refine lv_aload_n hx hb d_Mo_addRows_0 rfl (lv_at hl 0 rfl) ?_
  refine r_get C K S 0 rfl rfl clOk_Mo 48 (by decide) wf_Mo_286 (v := .int (nI n1)) rfl d_Mo_addRows_1 ?_
  refine lv_aload_n hx hb d_Mo_addRows_4 rfl (lv_at hl 0 rfl) ?_
  refine r_get C K S 0 rfl rfl clOk_Mo 49 (by decide) wf_Mo_292 (v := .int (nI n2)) rfl d_Mo_addRows_5 ?_
  refine lv_icmp_le (tgt := 18) hx hb d_Mo_addRows_8 (by decide) (fun hg => ?_) (fun hg => ?_)
  · refine lv_aload_n hx hb d_Mo_addRows_18 rfl (lv_at hl 0 rfl) ?_
    refine r_get C K S 0 rfl rfl clOk_Mo 49 (by decide) wf_Mo_292 (v := .int (nI n2)) rfl d_Mo_addRows_19 ?_
    have := (nI_leI (a := n1) (b := n2) (by omega) (by omega)).mp hg
    exact main n2 (by omega) (by omega) (by omega) (by omega) _ _ S ls hl
  · refine lv_aload_n hx hb d_Mo_addRows_11 rfl (lv_at hl 0 rfl) ?_
    refine r_get C K S 0 rfl rfl clOk_Mo 48 (by decide) wf_Mo_286 (v := .int (nI n1)) rfl d_Mo_addRows_12 ?_
    refine lv_goto (tgt := 22) hx hb d_Mo_addRows_15 (by decide) ?_
    have : n2 < n1 := Nat.lt_of_not_le (fun z => hg ((nI_leI (a := n1) (b := n2) (by omega) (by omega)).mpr z))
    exact main n1 (by omega) (by omega) (by omega) (by omega) _ _ S ls hl
end
section
theorem cmp_nn {a b : Nat} (h : b ≤ a) : ¬ (if a = b then (0 : Int32) else if a < b then -1 else 1) < 0 := by
  by_cases q : a = b
  · rw [if_pos q]; decide
  · rw [if_neg q, if_neg (by omega)]; decide
theorem bo_n {b : Nat} (h : b ≤ 1) : narrow .boolean (.int (nI b)) = .int (nI b) := by
  rcases (show b = 0 ∨ b = 1 by omega) with rfl | rfl <;> rfl
theorem bo_f {b : Nat} (h : b ≤ 1) : fits .boolean (.int (nI b)) = true := by
  rcases (show b = 0 ∨ b = 1 by omega) with rfl | rfl <;> rfl
theorem sz_le {B : Nat} {ga gb : Nat → Nat} {na nb : Nat} (hB : 0 < B) (ha : ∀ i, i < na → ga i < B) (tb : nb = 0 ∨ gb (nb - 1) ≠ 0) (h : vl B gb nb ≤ vl B ga na) : nb ≤ na := by
  rcases Nat.lt_or_ge na nb with w | w
  · have la := vl_lt na ha
    have h1 := vl_ge (B := B) (g := gb) (n := nb) (by omega) (tb.resolve_left (by omega))
    have h2 : B ^ na ≤ B ^ (nb - 1) := Nat.pow_le_pow_right hB (by omega)
    omega
  · exact w
theorem d_Mo_join_0 : decode c_Mo_join 0 = .ok (.aload_n 0, 1) := by decide +kernel
theorem d_Mo_join_1 : decode c_Mo_join 1 = .ok (.getfield 289, 3) := by decide +kernel
theorem d_Mo_join_4 : decode c_Mo_join 4 = .ok (.aload_n 0, 1) := by decide +kernel
theorem d_Mo_join_5 : decode c_Mo_join 5 = .ok (.getfield 295, 3) := by decide +kernel
theorem d_Mo_join_8 : decode c_Mo_join 8 = .ok (.if_icmp .ne 8, 3) := by decide +kernel
theorem d_Mo_join_11 : decode c_Mo_join 11 = .ok (.aload_n 0, 1) := by decide +kernel
theorem d_Mo_join_12 : decode c_Mo_join 12 = .ok (.invokevirtual 305, 3) := by decide +kernel
theorem d_Mo_join_15 : decode c_Mo_join 15 = .ok (.return_, 1) := by decide +kernel
theorem d_Mo_join_16 : decode c_Mo_join 16 = .ok (.aload_n 0, 1) := by decide +kernel
theorem d_Mo_join_17 : decode c_Mo_join 17 = .ok (.getfield 93, 3) := by decide +kernel
theorem d_Mo_join_20 : decode c_Mo_join 20 = .ok (.aload_n 0, 1) := by decide +kernel
theorem d_Mo_join_21 : decode c_Mo_join 21 = .ok (.getfield 286, 3) := by decide +kernel
theorem d_Mo_join_24 : decode c_Mo_join 24 = .ok (.aload_n 0, 1) := by decide +kernel
theorem d_Mo_join_25 : decode c_Mo_join 25 = .ok (.getfield 96, 3) := by decide +kernel
theorem d_Mo_join_28 : decode c_Mo_join 28 = .ok (.aload_n 0, 1) := by decide +kernel
theorem d_Mo_join_29 : decode c_Mo_join 29 = .ok (.getfield 292, 3) := by decide +kernel
theorem d_Mo_join_32 : decode c_Mo_join 32 = .ok (.invokestatic 301, 3) := by decide +kernel
theorem d_Mo_join_35 : decode c_Mo_join 35 = .ok (.ifCond .lt 44, 3) := by decide +kernel
theorem d_Mo_join_38 : decode c_Mo_join 38 = .ok (.aload_n 0, 1) := by decide +kernel
theorem d_Mo_join_39 : decode c_Mo_join 39 = .ok (.getfield 93, 3) := by decide +kernel
theorem d_Mo_join_42 : decode c_Mo_join 42 = .ok (.aload_n 0, 1) := by decide +kernel
theorem d_Mo_join_43 : decode c_Mo_join 43 = .ok (.getfield 286, 3) := by decide +kernel
theorem d_Mo_join_46 : decode c_Mo_join 46 = .ok (.aload_n 0, 1) := by decide +kernel
theorem d_Mo_join_47 : decode c_Mo_join 47 = .ok (.getfield 96, 3) := by decide +kernel
theorem d_Mo_join_50 : decode c_Mo_join 50 = .ok (.aload_n 0, 1) := by decide +kernel
theorem d_Mo_join_51 : decode c_Mo_join 51 = .ok (.getfield 292, 3) := by decide +kernel
theorem d_Mo_join_54 : decode c_Mo_join 54 = .ok (.aload_n 0, 1) := by decide +kernel
theorem d_Mo_join_55 : decode c_Mo_join 55 = .ok (.getfield 93, 3) := by decide +kernel
theorem d_Mo_join_58 : decode c_Mo_join 58 = .ok (.invokestatic 308, 3) := by decide +kernel
theorem d_Mo_join_61 : decode c_Mo_join 61 = .ok (.aload_n 0, 1) := by decide +kernel
theorem d_Mo_join_62 : decode c_Mo_join 62 = .ok (.aload_n 0, 1) := by decide +kernel
theorem d_Mo_join_63 : decode c_Mo_join 63 = .ok (.getfield 93, 3) := by decide +kernel
theorem d_Mo_join_66 : decode c_Mo_join 66 = .ok (.aload_n 0, 1) := by decide +kernel
theorem d_Mo_join_67 : decode c_Mo_join 67 = .ok (.getfield 286, 3) := by decide +kernel
theorem d_Mo_join_70 : decode c_Mo_join 70 = .ok (.invokestatic 278, 3) := by decide +kernel
theorem d_Mo_join_73 : decode c_Mo_join 73 = .ok (.putfield 286, 3) := by decide +kernel
theorem d_Mo_join_76 : decode c_Mo_join 76 = .ok (.goto 49, 3) := by decide +kernel
theorem d_Mo_join_79 : decode c_Mo_join 79 = .ok (.aload_n 0, 1) := by decide +kernel
theorem d_Mo_join_80 : decode c_Mo_join 80 = .ok (.getfield 96, 3) := by decide +kernel
theorem d_Mo_join_83 : decode c_Mo_join 83 = .ok (.aload_n 0, 1) := by decide +kernel
theorem d_Mo_join_84 : decode c_Mo_join 84 = .ok (.getfield 292, 3) := by decide +kernel
theorem d_Mo_join_87 : decode c_Mo_join 87 = .ok (.aload_n 0, 1) := by decide +kernel
theorem d_Mo_join_88 : decode c_Mo_join 88 = .ok (.getfield 93, 3) := by decide +kernel
theorem d_Mo_join_91 : decode c_Mo_join 91 = .ok (.aload_n 0, 1) := by decide +kernel
theorem d_Mo_join_92 : decode c_Mo_join 92 = .ok (.getfield 286, 3) := by decide +kernel
theorem d_Mo_join_95 : decode c_Mo_join 95 = .ok (.aload_n 0, 1) := by decide +kernel
theorem d_Mo_join_96 : decode c_Mo_join 96 = .ok (.getfield 93, 3) := by decide +kernel
theorem d_Mo_join_99 : decode c_Mo_join 99 = .ok (.invokestatic 308, 3) := by decide +kernel
theorem d_Mo_join_102 : decode c_Mo_join 102 = .ok (.aload_n 0, 1) := by decide +kernel
theorem d_Mo_join_103 : decode c_Mo_join 103 = .ok (.aload_n 0, 1) := by decide +kernel
theorem d_Mo_join_104 : decode c_Mo_join 104 = .ok (.getfield 93, 3) := by decide +kernel
theorem d_Mo_join_107 : decode c_Mo_join 107 = .ok (.aload_n 0, 1) := by decide +kernel
theorem d_Mo_join_108 : decode c_Mo_join 108 = .ok (.getfield 292, 3) := by decide +kernel
theorem d_Mo_join_111 : decode c_Mo_join 111 = .ok (.invokestatic 278, 3) := by decide +kernel
theorem d_Mo_join_114 : decode c_Mo_join 114 = .ok (.putfield 286, 3) := by decide +kernel
theorem d_Mo_join_117 : decode c_Mo_join 117 = .ok (.aload_n 0, 1) := by decide +kernel
theorem d_Mo_join_118 : decode c_Mo_join 118 = .ok (.aload_n 0, 1) := by decide +kernel
theorem d_Mo_join_119 : decode c_Mo_join 119 = .ok (.getfield 295, 3) := by decide +kernel
theorem d_Mo_join_122 : decode c_Mo_join 122 = .ok (.putfield 289, 3) := by decide +kernel
theorem d_Mo_join_125 : decode c_Mo_join 125 = .ok (.return_, 1) := by decide +kernel
set_option maxRecDepth 100000 in
set_option maxHeartbeats 8000000 in
/-- join(): equal signs -/
theorem g_Mo_join_same (l : Launch) (G : va_G) (k : Nat → ClassId) (h0 s0 n1 n2 b1 b2 : Nat) (ma : Nat → Nat) (iv : Nat → Int32) (co : Int64) (g1 g2 : Nat → Nat) (h1 : n1 ≤ 160) (h2 : n2 ≤ 160) (hb1 : b1 ≤ 1) (hb2 : b2 ≤ 1) (da : ∀ i, i < 170 → g1 i < 65536) (db : ∀ i, i < 170 → g2 i < 65536) (ta : n1 = 0 ∨ g1 (n1 - 1) ≠ 0) (tb : n2 = 0 ∨ g2 (n2 - 1) ≠ 0) (hs : b1 = b2) : CV l y_Mo_join c_Mo_join 1 { frames := 2, cells := 0, slots := 0, locals := 80 } [.ref h0] G k s0 [(h0, .inr (8, moL ma (va_up (va_up (va_up (va_up iv 21 (nI b1)) 22 (nI b2)) 20 (nI n2)) 19 (nI n1)) co)), ((ma 24), .inl (k 0, 170, .inl (fun i => nI (g1 i)))), ((ma 25), .inl (k 0, 170, .inl (fun i => nI (g2 i))))] (fun (u : (Nat → Nat) × Nat) => vl 65536 u.1 u.2 = vl 65536 g1 n1 + vl 65536 g2 n2 ∧ u.2 ≤ 161 ∧ (u.2 = 0 ∨ u.1 (u.2 - 1) ≠ 0) ∧ ∀ i, i < 170 → u.1 i < 65536) (fun u => [(h0, .inr (8, moL ma (va_up (va_up (va_up (va_up iv 21 (nI b1)) 22 (nI b2)) 20 (nI n2)) 19 (nI u.2)) co)), ((ma 24), .inl (k 0, 170, .inl (fun i => nI (u.1 i)))), ((ma 25), .inl (k 0, 170, .inl (fun i => nI (g2 i))))]) 0 0 := by
  refine met_start (by decide) (Nat.le_of_ble_eq_true rfl) ?_
  intro p e s m below meth c C K hA hsz S ls hl
  generalize va_A [(h0, .inr (8, moL ma (va_up (va_up (va_up (va_up iv 21 (nI b1)) 22 (nI b2)) 20 (nI n2)) 19 (nI n1)) co)), ((ma 24), .inl (k 0, 170, .inl (fun i => nI (g1 i)))), ((ma 25), .inl (k 0, 170, .inl (fun i => nI (g2 i))))] s0 = A at hA S ⊢
  have hx := C.1
  have hb := C.2.1
  have hl : lv_has ls 1 [(0, .ref h0)] := hl
  refine lv_aload_n hx hb d_Mo_join_0 rfl (lv_at hl 0 rfl) ?_
  refine r_get C K S 0 rfl rfl clOk_Mo 50 (by decide) wf_Mo_289 (v := .int (nI b1)) rfl d_Mo_join_1 ?_
  refine lv_aload_n hx hb d_Mo_join_4 rfl (lv_at hl 0 rfl) ?_
  refine r_get C K S 0 rfl rfl clOk_Mo 51 (by decide) wf_Mo_295 (v := .int (nI b2)) rfl d_Mo_join_5 ?_
  refine lv_icmp_ne (tgt := 16) hx hb d_Mo_join_8 (by decide) (fun hq => absurd (by rw [hs]) hq) (fun _ => ?_)
  refine lv_aload_n hx hb d_Mo_join_11 rfl (lv_at hl 0 rfl) ?_
  refine r_backv (wi := [(h0, .inr (8, moL ma (va_up (va_up (va_up (va_up iv 21 (nI b1)) 22 (nI b2)) 20 (nI n2)) 19 (nI n1)) co)), ((ma 24), .inl (k 0, 170, .inl (fun i => nI (g1 i)))), ((ma 25), .inl (k 0, 170, .inl (fun i => nI (g2 i))))]) (wr := []) S hA [0, 1, 2] [] rfl rfl (by decide) (by decide) (va_runV (As := []) (rest := []) ⟨hx, hb, C.2.2.1, C.2.2.2.1, C.2.2.2.2.1⟩ (g_Mo_addRows l G k h0 _ n1 n2 ma (va_up (va_up iv 21 (nI b1)) 22 (nI b2)) co g1 g2 h1 h2 da db) (k_virt (n := 0) C wc_Mo_addRows rfl rfl wz_Mo wm_Mo_305 wn_Mo_addRows ws_Mo_addRows (by decide +kernel) ⟨(Nat.le_of_ble_eq_true rfl), (Nat.le_of_ble_eq_true rfl)⟩) (pr_nowV K S [0, 1, 2] (by decide) rfl 0 rfl rfl) rfl rfl hl.1 rfl (lv_room (Nat.le_of_ble_eq_true rfl)) d_Mo_join_12 ⟨(Nat.le_of_ble_eq_true rfl), (Nat.le_of_ble_eq_true rfl)⟩) (fun u1 H locs hw2 S => ?_)
  have S : Sw G A s.heap _ _ [(h0, .inr (8, moL ma (va_up (va_up (va_up (va_up iv 21 (nI b1)) 22 (nI b2)) 20 (nI n2)) 19 (nI u1.2)) co)), ((ma 24), .inl (k 0, 170, .inl (fun i => nI (u1.1 i)))), ((ma 25), .inl (k 0, 170, .inl (fun i => nI (g2 i))))] := S
  exact r_vret C K u1 ⟨hw2.1, hw2.2.2⟩ (S.sub [0, 1, 2] (by decide) rfl) d_Mo_join_15 (Nat.le_of_ble_eq_true rfl) (Nat.le_of_ble_eq_true rfl)
set_option maxRecDepth 100000 in
set_option maxHeartbeats 8000000 in
/-- join(): the first is more -/
theorem g_Mo_join_ge (l : Launch) (G : va_G) (k : Nat → ClassId) (h0 s0 n1 n2 b1 b2 : Nat) (ma : Nat → Nat) (iv : Nat → Int32) (co : Int64) (g1 g2 : Nat → Nat) (h1 : n1 ≤ 160) (h2 : n2 ≤ 160) (hb1 : b1 ≤ 1) (hb2 : b2 ≤ 1) (da : ∀ i, i < 170 → g1 i < 65536) (db : ∀ i, i < 170 → g2 i < 65536) (ta : n1 = 0 ∨ g1 (n1 - 1) ≠ 0) (tb : n2 = 0 ∨ g2 (n2 - 1) ≠ 0) (hs : b1 ≠ b2) (hle : vl 65536 g2 n2 ≤ vl 65536 g1 n1) : CV l y_Mo_join c_Mo_join 1 { frames := 2, cells := 0, slots := 0, locals := 80 } [.ref h0] G k s0 [(h0, .inr (8, moL ma (va_up (va_up (va_up (va_up iv 21 (nI b1)) 22 (nI b2)) 20 (nI n2)) 19 (nI n1)) co)), ((ma 24), .inl (k 0, 170, .inl (fun i => nI (g1 i)))), ((ma 25), .inl (k 0, 170, .inl (fun i => nI (g2 i))))] (fun (u : (Nat → Nat) × Nat) => vl 65536 u.1 u.2 + vl 65536 g2 n2 = vl 65536 g1 n1 ∧ u.2 ≤ 161 ∧ (u.2 = 0 ∨ u.1 (u.2 - 1) ≠ 0) ∧ ∀ i, i < 170 → u.1 i < 65536) (fun u => [(h0, .inr (8, moL ma (va_up (va_up (va_up (va_up iv 21 (nI b1)) 22 (nI b2)) 20 (nI n2)) 19 (nI u.2)) co)), ((ma 24), .inl (k 0, 170, .inl (fun i => nI (u.1 i)))), ((ma 25), .inl (k 0, 170, .inl (fun i => nI (g2 i))))]) 0 0 := by
  refine met_start (by decide) (Nat.le_of_ble_eq_true rfl) ?_
  intro p e s m below meth c C K hA hsz S ls hl
  generalize va_A [(h0, .inr (8, moL ma (va_up (va_up (va_up (va_up iv 21 (nI b1)) 22 (nI b2)) 20 (nI n2)) 19 (nI n1)) co)), ((ma 24), .inl (k 0, 170, .inl (fun i => nI (g1 i)))), ((ma 25), .inl (k 0, 170, .inl (fun i => nI (g2 i))))] s0 = A at hA S ⊢
  have hx := C.1
  have hb := C.2.1
  have hl : lv_has ls 1 [(0, .ref h0)] := hl
  have hsz2 : n2 ≤ n1 := sz_le (by decide) (fun i hi => da i (by omega)) tb hle
  have cv := cmpN_val (B := 65536) (ga := g1) (gb := g2) (na := n1) (nb := n2) (by decide) (fun i hi => da i (by omega)) (fun i hi => db i (by omega)) ta tb
  refine lv_aload_n hx hb d_Mo_join_0 rfl (lv_at hl 0 rfl) ?_
  refine r_get C K S 0 rfl rfl clOk_Mo 50 (by decide) wf_Mo_289 (v := .int (nI b1)) rfl d_Mo_join_1 ?_
  refine lv_aload_n hx hb d_Mo_join_4 rfl (lv_at hl 0 rfl) ?_
  refine r_get C K S 0 rfl rfl clOk_Mo 51 (by decide) wf_Mo_295 (v := .int (nI b2)) rfl d_Mo_join_5 ?_
  refine lv_icmp_ne (tgt := 16) hx hb d_Mo_join_8 (by decide) (fun _ => ?_) (fun hq => absurd hq (fun e9 => hs ((nI_eq (by omega) (by omega)).mp e9)))
  refine lv_aload_n hx hb d_Mo_join_16 rfl (lv_at hl 0 rfl) ?_
  refine r_get C K S 0 rfl rfl clOk_Mo 44 (by decide) wf_Mo_93 (v := .ref (ma 24)) rfl d_Mo_join_17 ?_
  refine lv_aload_n hx hb d_Mo_join_20 rfl (lv_at hl 0 rfl) ?_
  refine r_get C K S 0 rfl rfl clOk_Mo 48 (by decide) wf_Mo_286 (v := .int (nI n1)) rfl d_Mo_join_21 ?_
  refine lv_aload_n hx hb d_Mo_join_24 rfl (lv_at hl 0 rfl) ?_
  refine r_get C K S 0 rfl rfl clOk_Mo 45 (by decide) wf_Mo_96 (v := .ref (ma 25)) rfl d_Mo_join_25 ?_
  refine lv_aload_n hx hb d_Mo_join_28 rfl (lv_at hl 0 rfl) ?_
  refine r_get C K S 0 rfl rfl clOk_Mo 49 (by decide) wf_Mo_292 (v := .int (nI n2)) rfl d_Mo_join_29 ?_
  refine r_backi (wi := [((ma 24), .inl (k 0, 170, .inl (fun i => nI (g1 i)))), ((ma 25), .inl (k 0, 170, .inl (fun i => nI (g2 i))))]) (wr := [(h0, .inr (8, moL ma (va_up (va_up (va_up (va_up iv 21 (nI b1)) 22 (nI b2)) 20 (nI n2)) 19 (nI n1)) co))]) S hA [1, 2] [0] rfl rfl (by decide) (by decide) (va_runS (As := [.ref (ma 24), .int (nI n1), .ref (ma 25), .int (nI n2)]) (rest := []) ⟨hx, hb, C.2.2.1, C.2.2.2.1, C.2.2.2.2.1⟩ (g_Mo_compare l G k _ (ma 24) (ma 25) 170 170 n1 n2 g1 g2 (by omega) (by omega) (by decide) (by decide) da db) (k_stat (n := 4) C wc_Mo_compare rfl rfl wz_Mo wm_Mo_301 wt_Mo_compare (by decide +kernel) ⟨(Nat.le_of_ble_eq_true rfl), (Nat.le_of_ble_eq_true rfl)⟩) (pr_now K S [1, 2] (by decide) rfl) rfl rfl hl.1 rfl (lv_room (Nat.le_of_ble_eq_true rfl)) d_Mo_join_32 ⟨(Nat.le_of_ble_eq_true rfl), (Nat.le_of_ble_eq_true rfl)⟩) (fun r3 u1 H locs hw2 S => ?_)
  have S : Sw G A s.heap _ _ [(h0, .inr (8, moL ma (va_up (va_up (va_up (va_up iv 21 (nI b1)) 22 (nI b2)) 20 (nI n2)) 19 (nI n1)) co)), ((ma 24), .inl (k 0, 170, .inl (fun i => nI (g1 i)))), ((ma 25), .inl (k 0, 170, .inl (fun i => nI (g2 i))))] := S
  have hw2 : r3 = cmpN g1 g2 n1 n2 := hw2
  refine lv_if_lt (tgt := 79) hx hb d_Mo_join_35 (by decide) (fun hq => absurd hq (by rw [hw2, cv]; exact cmp_nn hle)) (fun _ => ?_)
  refine lv_aload_n hx hb d_Mo_join_38 rfl (lv_at hl 0 rfl) ?_
  refine r_get C K S 0 rfl rfl clOk_Mo 44 (by decide) wf_Mo_93 (v := .ref (ma 24)) rfl d_Mo_join_39 ?_
  refine lv_aload_n hx hb d_Mo_join_42 rfl (lv_at hl 0 rfl) ?_
  refine r_get C K S 0 rfl rfl clOk_Mo 48 (by decide) wf_Mo_286 (v := .int (nI n1)) rfl d_Mo_join_43 ?_
  refine lv_aload_n hx hb d_Mo_join_46 rfl (lv_at hl 0 rfl) ?_
  refine r_get C K S 0 rfl rfl clOk_Mo 45 (by decide) wf_Mo_96 (v := .ref (ma 25)) rfl d_Mo_join_47 ?_
  refine lv_aload_n hx hb d_Mo_join_50 rfl (lv_at hl 0 rfl) ?_
  refine r_get C K S 0 rfl rfl clOk_Mo 49 (by decide) wf_Mo_292 (v := .int (nI n2)) rfl d_Mo_join_51 ?_
  refine lv_aload_n hx hb d_Mo_join_54 rfl (lv_at hl 0 rfl) ?_
  refine r_get C K S 0 rfl rfl clOk_Mo 44 (by decide) wf_Mo_93 (v := .ref (ma 24)) rfl d_Mo_join_55 ?_
  refine r_backv (wi := [((ma 24), .inl (k 0, 170, .inl (fun i => nI (g1 i)))), ((ma 25), .inl (k 0, 170, .inl (fun i => nI (g2 i))))]) (wr := [(h0, .inr (8, moL ma (va_up (va_up (va_up (va_up iv 21 (nI b1)) 22 (nI b2)) 20 (nI n2)) 19 (nI n1)) co))]) S hA [1, 2] [0] rfl rfl (by decide) (by decide) (va_runS (As := [.ref (ma 24), .int (nI n1), .ref (ma 25), .int (nI n2), .ref (ma 24)]) (rest := []) ⟨hx, hb, C.2.2.1, C.2.2.2.1, C.2.2.2.2.1⟩ (g_Mo_subtract_a l G k _ (ma 24) (ma 25) n1 n2 g1 g2 (by omega) (by omega) hle da db) (k_stat (n := 5) C wc_Mo_subtract rfl rfl wz_Mo wm_Mo_308 wt_Mo_subtract (by decide +kernel) ⟨(Nat.le_of_ble_eq_true rfl), (Nat.le_of_ble_eq_true rfl)⟩) (pr_now K S [1, 2] (by decide) rfl) rfl rfl hl.1 rfl (lv_room (Nat.le_of_ble_eq_true rfl)) d_Mo_join_58 ⟨(Nat.le_of_ble_eq_true rfl), (Nat.le_of_ble_eq_true rfl)⟩) (fun u4 H locs hw5 S => ?_)
  have S : Sw G A s.heap _ _ [(h0, .inr (8, moL ma (va_up (va_up (va_up (va_up iv 21 (nI b1)) 22 (nI b2)) 20 (nI n2)) 19 (nI n1)) co)), ((ma 24), .inl (k 0, 170, .inl (fun i => nI (u4 i)))), ((ma 25), .inl (k 0, 170, .inl (fun i => nI (g2 i))))] := S
  refine lv_aload_n hx hb d_Mo_join_61 rfl (lv_at hl 0 rfl) ?_
  refine lv_aload_n hx hb d_Mo_join_62 rfl (lv_at hl 0 rfl) ?_
  refine r_get C K S 0 rfl rfl clOk_Mo 44 (by decide) wf_Mo_93 (v := .ref (ma 24)) rfl d_Mo_join_63 ?_
  refine lv_aload_n hx hb d_Mo_join_66 rfl (lv_at hl 0 rfl) ?_
  refine r_get C K S 0 rfl rfl clOk_Mo 48 (by decide) wf_Mo_286 (v := .int (nI n1)) rfl d_Mo_join_67 ?_
  refine r_backi (wi := [((ma 24), .inl (k 0, 170, .inl (fun i => nI (u4 i))))]) (wr := [(h0, .inr (8, moL ma (va_up (va_up (va_up (va_up iv 21 (nI b1)) 22 (nI b2)) 20 (nI n2)) 19 (nI n1)) co)), ((ma 25), .inl (k 0, 170, .inl (fun i => nI (g2 i))))]) S hA [1] [0, 2] rfl rfl (by decide) (by decide) (va_runS (As := [.ref (ma 24), .int (nI n1)]) (rest := [.ref h0]) ⟨hx, hb, C.2.2.1, C.2.2.2.1, C.2.2.2.2.1⟩ (k_Mo_cut2 l G k (ma 24) _ 170 n1 (fun i => nI (u4 i)) (by omega) (by decide)) (k_stat (n := 2) C wc_Mo_cut2 rfl rfl wz_Mo wm_Mo_278 wt_Mo_cut2 (by decide +kernel) ⟨(Nat.le_of_ble_eq_true rfl), (Nat.le_of_ble_eq_true rfl)⟩) (pr_now K S [1] (by decide) rfl) rfl rfl hl.1 rfl (lv_room (Nat.le_of_ble_eq_true rfl)) d_Mo_join_70 ⟨(Nat.le_of_ble_eq_true rfl), (Nat.le_of_ble_eq_true rfl)⟩) (fun r8 u6 H locs hw7 S => ?_)
  have S : Sw G A s.heap _ _ [(h0, .inr (8, moL ma (va_up (va_up (va_up (va_up iv 21 (nI b1)) 22 (nI b2)) 20 (nI n2)) 19 (nI n1)) co)), ((ma 25), .inl (k 0, 170, .inl (fun i => nI (g2 i)))), ((ma 24), .inl (k 0, 170, .inl (fun i => nI (u4 i))))] := S
  have hw7 : r8 = nI (cutN (fun i => nI (u4 i)) n1) := hw7
  subst hw7
  refine r_put C K S 0 rfl rfl clOk_Mo 48 (by decide) wf_Mo_286 rfl (ty := .int) (v := .int (nI (cutN (fun i => nI (u4 i)) n1))) (by decide +kernel) rfl rfl (Nat.le_of_ble_eq_true rfl) (fs' := moL ma (va_up (va_up (va_up (va_up iv 21 (nI b1)) 22 (nI b2)) 20 (nI n2)) 19 (nI (cutN (fun i => nI (u4 i)) n1))) co) (ws' := [(h0, .inr (8, moL ma (va_up (va_up (va_up (va_up iv 21 (nI b1)) 22 (nI b2)) 20 (nI n2)) 19 (nI (cutN (fun i => nI (u4 i)) n1))) co)), ((ma 25), .inl (k 0, 170, .inl (fun i => nI (g2 i)))), ((ma 24), .inl (k 0, 170, .inl (fun i => nI (u4 i))))]) rfl rfl d_Mo_join_73 (fun H locs S => ?_)
  refine lv_goto (tgt := 125) hx hb d_Mo_join_76 (by decide) ?_
  have e2 := vl_cut (B := 65536) u4 (fun i => nI (u4 i)) (fun _ => rfl) n1 (fun i hi => by have := hw5.2.1 i (by omega); omega)
  exact r_vret C K (u4, cutN (fun i => nI (u4 i)) n1) ⟨by have := hw5.1; have := e2.1; show vl 65536 u4 (cutN (fun i => nI (u4 i)) n1) + _ = _; omega, by have := e2.2.1; show cutN (fun i => nI (u4 i)) n1 ≤ 161; omega, e2.2.2, hw5.2.1⟩ (S.sub [0, 2, 1] (by decide) rfl) d_Mo_join_125 (Nat.le_of_ble_eq_true rfl) (Nat.le_of_ble_eq_true rfl)
set_option maxRecDepth 100000 in
set_option maxHeartbeats 8000000 in
/-- join(): the second is more -/
theorem g_Mo_join_lt (l : Launch) (G : va_G) (k : Nat → ClassId) (h0 s0 n1 n2 b1 b2 : Nat) (ma : Nat → Nat) (iv : Nat → Int32) (co : Int64) (g1 g2 : Nat → Nat) (h1 : n1 ≤ 160) (h2 : n2 ≤ 160) (hb1 : b1 ≤ 1) (hb2 : b2 ≤ 1) (da : ∀ i, i < 170 → g1 i < 65536) (db : ∀ i, i < 170 → g2 i < 65536) (ta : n1 = 0 ∨ g1 (n1 - 1) ≠ 0) (tb : n2 = 0 ∨ g2 (n2 - 1) ≠ 0) (hs : b1 ≠ b2) (hlt : vl 65536 g1 n1 < vl 65536 g2 n2) : CV l y_Mo_join c_Mo_join 1 { frames := 2, cells := 0, slots := 0, locals := 80 } [.ref h0] G k s0 [(h0, .inr (8, moL ma (va_up (va_up (va_up (va_up iv 21 (nI b1)) 22 (nI b2)) 20 (nI n2)) 19 (nI n1)) co)), ((ma 24), .inl (k 0, 170, .inl (fun i => nI (g1 i)))), ((ma 25), .inl (k 0, 170, .inl (fun i => nI (g2 i))))] (fun (u : (Nat → Nat) × Nat) => vl 65536 u.1 u.2 + vl 65536 g1 n1 = vl 65536 g2 n2 ∧ u.2 ≤ 161 ∧ (u.2 = 0 ∨ u.1 (u.2 - 1) ≠ 0) ∧ ∀ i, i < 170 → u.1 i < 65536) (fun u => [(h0, .inr (8, moL ma (va_up (va_up (va_up (va_up iv 21 (nI b2)) 22 (nI b2)) 20 (nI n2)) 19 (nI u.2)) co)), ((ma 24), .inl (k 0, 170, .inl (fun i => nI (u.1 i)))), ((ma 25), .inl (k 0, 170, .inl (fun i => nI (g2 i))))]) 0 0 := by
  refine met_start (by decide) (Nat.le_of_ble_eq_true rfl) ?_
  intro p e s m below meth c C K hA hsz S ls hl
  generalize va_A [(h0, .inr (8, moL ma (va_up (va_up (va_up (va_up iv 21 (nI b1)) 22 (nI b2)) 20 (nI n2)) 19 (nI n1)) co)), ((ma 24), .inl (k 0, 170, .inl (fun i => nI (g1 i)))), ((ma 25), .inl (k 0, 170, .inl (fun i => nI (g2 i))))] s0 = A at hA S ⊢
  have hx := C.1
  have hb := C.2.1
  have hl : lv_has ls 1 [(0, .ref h0)] := hl
  have hsz2 : n1 ≤ n2 := sz_le (by decide) (fun i hi => db i (by omega)) ta (by omega)
  have cv := cmpN_val (B := 65536) (ga := g1) (gb := g2) (na := n1) (nb := n2) (by decide) (fun i hi => da i (by omega)) (fun i hi => db i (by omega)) ta tb
  refine lv_aload_n hx hb d_Mo_join_0 rfl (lv_at hl 0 rfl) ?_
  refine r_get C K S 0 rfl rfl clOk_Mo 50 (by decide) wf_Mo_289 (v := .int (nI b1)) rfl d_Mo_join_1 ?_
  refine lv_aload_n hx hb d_Mo_join_4 rfl (lv_at hl 0 rfl) ?_
  refine r_get C K S 0 rfl rfl clOk_Mo 51 (by decide) wf_Mo_295 (v := .int (nI b2)) rfl d_Mo_join_5 ?_
  refine lv_icmp_ne (tgt := 16) hx hb d_Mo_join_8 (by decide) (fun _ => ?_) (fun hq => absurd hq (fun e9 => hs ((nI_eq (by omega) (by omega)).mp e9)))
  refine lv_aload_n hx hb d_Mo_join_16 rfl (lv_at hl 0 rfl) ?_
  refine r_get C K S 0 rfl rfl clOk_Mo 44 (by decide) wf_Mo_93 (v := .ref (ma 24)) rfl d_Mo_join_17 ?_
  refine lv_aload_n hx hb d_Mo_join_20 rfl (lv_at hl 0 rfl) ?_
  refine r_get C K S 0 rfl rfl clOk_Mo 48 (by decide) wf_Mo_286 (v := .int (nI n1)) rfl d_Mo_join_21 ?_
  refine lv_aload_n hx hb d_Mo_join_24 rfl (lv_at hl 0 rfl) ?_
  refine r_get C K S 0 rfl rfl clOk_Mo 45 (by decide) wf_Mo_96 (v := .ref (ma 25)) rfl d_Mo_join_25 ?_
  refine lv_aload_n hx hb d_Mo_join_28 rfl (lv_at hl 0 rfl) ?_
  refine r_get C K S 0 rfl rfl clOk_Mo 49 (by decide) wf_Mo_292 (v := .int (nI n2)) rfl d_Mo_join_29 ?_
  refine r_backi (wi := [((ma 24), .inl (k 0, 170, .inl (fun i => nI (g1 i)))), ((ma 25), .inl (k 0, 170, .inl (fun i => nI (g2 i))))]) (wr := [(h0, .inr (8, moL ma (va_up (va_up (va_up (va_up iv 21 (nI b1)) 22 (nI b2)) 20 (nI n2)) 19 (nI n1)) co))]) S hA [1, 2] [0] rfl rfl (by decide) (by decide) (va_runS (As := [.ref (ma 24), .int (nI n1), .ref (ma 25), .int (nI n2)]) (rest := []) ⟨hx, hb, C.2.2.1, C.2.2.2.1, C.2.2.2.2.1⟩ (g_Mo_compare l G k _ (ma 24) (ma 25) 170 170 n1 n2 g1 g2 (by omega) (by omega) (by decide) (by decide) da db) (k_stat (n := 4) C wc_Mo_compare rfl rfl wz_Mo wm_Mo_301 wt_Mo_compare (by decide +kernel) ⟨(Nat.le_of_ble_eq_true rfl), (Nat.le_of_ble_eq_true rfl)⟩) (pr_now K S [1, 2] (by decide) rfl) rfl rfl hl.1 rfl (lv_room (Nat.le_of_ble_eq_true rfl)) d_Mo_join_32 ⟨(Nat.le_of_ble_eq_true rfl), (Nat.le_of_ble_eq_true rfl)⟩) (fun r3 u1 H locs hw2 S => ?_)
  have S : Sw G A s.heap _ _ [(h0, .inr (8, moL ma (va_up (va_up (va_up (va_up iv 21 (nI b1)) 22 (nI b2)) 20 (nI n2)) 19 (nI n1)) co)), ((ma 24), .inl (k 0, 170, .inl (fun i => nI (g1 i)))), ((ma 25), .inl (k 0, 170, .inl (fun i => nI (g2 i))))] := S
  have hw2 : r3 = cmpN g1 g2 n1 n2 := hw2
  refine lv_if_lt (tgt := 79) hx hb d_Mo_join_35 (by decide) (fun _ => ?_) (fun hq => absurd (by rw [hw2, cv, if_neg (by omega), if_pos hlt]; decide) hq)
  refine lv_aload_n hx hb d_Mo_join_79 rfl (lv_at hl 0 rfl) ?_
  refine r_get C K S 0 rfl rfl clOk_Mo 45 (by decide) wf_Mo_96 (v := .ref (ma 25)) rfl d_Mo_join_80 ?_
  refine lv_aload_n hx hb d_Mo_join_83 rfl (lv_at hl 0 rfl) ?_
  refine r_get C K S 0 rfl rfl clOk_Mo 49 (by decide) wf_Mo_292 (v := .int (nI n2)) rfl d_Mo_join_84 ?_
  refine lv_aload_n hx hb d_Mo_join_87 rfl (lv_at hl 0 rfl) ?_
  refine r_get C K S 0 rfl rfl clOk_Mo 44 (by decide) wf_Mo_93 (v := .ref (ma 24)) rfl d_Mo_join_88 ?_
  refine lv_aload_n hx hb d_Mo_join_91 rfl (lv_at hl 0 rfl) ?_
  refine r_get C K S 0 rfl rfl clOk_Mo 48 (by decide) wf_Mo_286 (v := .int (nI n1)) rfl d_Mo_join_92 ?_
  refine lv_aload_n hx hb d_Mo_join_95 rfl (lv_at hl 0 rfl) ?_
  refine r_get C K S 0 rfl rfl clOk_Mo 44 (by decide) wf_Mo_93 (v := .ref (ma 24)) rfl d_Mo_join_96 ?_
  refine r_backv (wi := [((ma 25), .inl (k 0, 170, .inl (fun i => nI (g2 i)))), ((ma 24), .inl (k 0, 170, .inl (fun i => nI (g1 i))))]) (wr := [(h0, .inr (8, moL ma (va_up (va_up (va_up (va_up iv 21 (nI b1)) 22 (nI b2)) 20 (nI n2)) 19 (nI n1)) co))]) S hA [2, 1] [0] rfl rfl (by decide) (by decide) (va_runS (As := [.ref (ma 25), .int (nI n2), .ref (ma 24), .int (nI n1), .ref (ma 24)]) (rest := []) ⟨hx, hb, C.2.2.1, C.2.2.2.1, C.2.2.2.2.1⟩ (g_Mo_subtract_b l G k _ (ma 25) (ma 24) n2 n1 g2 g1 (by omega) (by omega) (by omega) db da) (k_stat (n := 5) C wc_Mo_subtract rfl rfl wz_Mo wm_Mo_308 wt_Mo_subtract (by decide +kernel) ⟨(Nat.le_of_ble_eq_true rfl), (Nat.le_of_ble_eq_true rfl)⟩) (pr_now K S [2, 1] (by decide) rfl) rfl rfl hl.1 rfl (lv_room (Nat.le_of_ble_eq_true rfl)) d_Mo_join_99 ⟨(Nat.le_of_ble_eq_true rfl), (Nat.le_of_ble_eq_true rfl)⟩) (fun u4 H locs hw5 S => ?_)
  have S : Sw G A s.heap _ _ [(h0, .inr (8, moL ma (va_up (va_up (va_up (va_up iv 21 (nI b1)) 22 (nI b2)) 20 (nI n2)) 19 (nI n1)) co)), ((ma 25), .inl (k 0, 170, .inl (fun i => nI (g2 i)))), ((ma 24), .inl (k 0, 170, .inl (fun i => nI (u4 i))))] := S
  refine lv_aload_n hx hb d_Mo_join_102 rfl (lv_at hl 0 rfl) ?_
  refine lv_aload_n hx hb d_Mo_join_103 rfl (lv_at hl 0 rfl) ?_
  refine r_get C K S 0 rfl rfl clOk_Mo 44 (by decide) wf_Mo_93 (v := .ref (ma 24)) rfl d_Mo_join_104 ?_
  refine lv_aload_n hx hb d_Mo_join_107 rfl (lv_at hl 0 rfl) ?_
  refine r_get C K S 0 rfl rfl clOk_Mo 49 (by decide) wf_Mo_292 (v := .int (nI n2)) rfl d_Mo_join_108 ?_
  refine r_backi (wi := [((ma 24), .inl (k 0, 170, .inl (fun i => nI (u4 i))))]) (wr := [(h0, .inr (8, moL ma (va_up (va_up (va_up (va_up iv 21 (nI b1)) 22 (nI b2)) 20 (nI n2)) 19 (nI n1)) co)), ((ma 25), .inl (k 0, 170, .inl (fun i => nI (g2 i))))]) S hA [2] [0, 1] rfl rfl (by decide) (by decide) (va_runS (As := [.ref (ma 24), .int (nI n2)]) (rest := [.ref h0]) ⟨hx, hb, C.2.2.1, C.2.2.2.1, C.2.2.2.2.1⟩ (k_Mo_cut2 l G k (ma 24) _ 170 n2 (fun i => nI (u4 i)) (by omega) (by decide)) (k_stat (n := 2) C wc_Mo_cut2 rfl rfl wz_Mo wm_Mo_278 wt_Mo_cut2 (by decide +kernel) ⟨(Nat.le_of_ble_eq_true rfl), (Nat.le_of_ble_eq_true rfl)⟩) (pr_now K S [2] (by decide) rfl) rfl rfl hl.1 rfl (lv_room (Nat.le_of_ble_eq_true rfl)) d_Mo_join_111 ⟨(Nat.le_of_ble_eq_true rfl), (Nat.le_of_ble_eq_true rfl)⟩) (fun r8 u6 H locs hw7 S => ?_)
  have S : Sw G A s.heap _ _ [(h0, .inr (8, moL ma (va_up (va_up (va_up (va_up iv 21 (nI b1)) 22 (nI b2)) 20 (nI n2)) 19 (nI n1)) co)), ((ma 25), .inl (k 0, 170, .inl (fun i => nI (g2 i)))), ((ma 24), .inl (k 0, 170, .inl (fun i => nI (u4 i))))] := S
  have hw7 : r8 = nI (cutN (fun i => nI (u4 i)) n2) := hw7
  subst hw7
  refine r_put C K S 0 rfl rfl clOk_Mo 48 (by decide) wf_Mo_286 rfl (ty := .int) (v := .int (nI (cutN (fun i => nI (u4 i)) n2))) (by decide +kernel) rfl rfl (Nat.le_of_ble_eq_true rfl) (fs' := moL ma (va_up (va_up (va_up (va_up iv 21 (nI b1)) 22 (nI b2)) 20 (nI n2)) 19 (nI (cutN (fun i => nI (u4 i)) n2))) co) (ws' := [(h0, .inr (8, moL ma (va_up (va_up (va_up (va_up iv 21 (nI b1)) 22 (nI b2)) 20 (nI n2)) 19 (nI (cutN (fun i => nI (u4 i)) n2))) co)), ((ma 25), .inl (k 0, 170, .inl (fun i => nI (g2 i)))), ((ma 24), .inl (k 0, 170, .inl (fun i => nI (u4 i))))]) rfl rfl d_Mo_join_114 (fun H locs S => ?_)
  refine lv_aload_n hx hb d_Mo_join_117 rfl (lv_at hl 0 rfl) ?_
  refine lv_aload_n hx hb d_Mo_join_118 rfl (lv_at hl 0 rfl) ?_
  refine r_get C K S 0 rfl rfl clOk_Mo 51 (by decide) wf_Mo_295 (v := .int (nI b2)) rfl d_Mo_join_119 ?_
  refine r_put C K S 0 rfl rfl clOk_Mo 50 (by decide) wf_Mo_289 rfl (ty := .boolean) (v := .int (nI b2)) (by decide +kernel) (bo_n hb2) (bo_f hb2) (Nat.le_of_ble_eq_true rfl) (fs' := moL ma (va_up (va_up (va_up (va_up iv 22 (nI b2)) 20 (nI n2)) 19 (nI (cutN (fun i => nI (u4 i)) n2))) 21 (nI b2)) co) (ws' := [(h0, .inr (8, moL ma (va_up (va_up (va_up (va_up iv 22 (nI b2)) 20 (nI n2)) 19 (nI (cutN (fun i => nI (u4 i)) n2))) 21 (nI b2)) co)), ((ma 25), .inl (k 0, 170, .inl (fun i => nI (g2 i)))), ((ma 24), .inl (k 0, 170, .inl (fun i => nI (u4 i))))]) rfl rfl d_Mo_join_122 (fun H locs S => ?_)
  have e2 := vl_cut (B := 65536) u4 (fun i => nI (u4 i)) (fun _ => rfl) n2 (fun i hi => by have := hw5.2.1 i (by omega); omega)
  exact r_vret C K (u4, cutN (fun i => nI (u4 i)) n2) ⟨by have := hw5.1; have := e2.1; show vl 65536 u4 (cutN (fun i => nI (u4 i)) n2) + _ = _; omega, by have := e2.2.1; show cutN (fun i => nI (u4 i)) n2 ≤ 161; omega, e2.2.2, hw5.2.1⟩ (S.sub [0, 2, 1] (by decide) rfl) d_Mo_join_125 (Nat.le_of_ble_eq_true rfl) (Nat.le_of_ble_eq_true rfl)
end
section
theorem d_Mo_compareProducts_0 : decode c_Mo_compareProducts 0 = .ok (.aload_n 0, 1) := by decide +kernel
theorem d_Mo_compareProducts_1 : decode c_Mo_compareProducts 1 = .ok (.aload_n 0, 1) := by decide +kernel
theorem d_Mo_compareProducts_2 : decode c_Mo_compareProducts 2 = .ok (.iload_n 1, 1) := by decide +kernel
theorem d_Mo_compareProducts_3 : decode c_Mo_compareProducts 3 = .ok (.iload_n 2, 1) := by decide +kernel
theorem d_Mo_compareProducts_4 : decode c_Mo_compareProducts 4 = .ok (.aload_n 0, 1) := by decide +kernel
theorem d_Mo_compareProducts_5 : decode c_Mo_compareProducts 5 = .ok (.getfield 93, 3) := by decide +kernel
theorem d_Mo_compareProducts_8 : decode c_Mo_compareProducts 8 = .ok (.invokevirtual 282, 3) := by decide +kernel
theorem d_Mo_compareProducts_11 : decode c_Mo_compareProducts 11 = .ok (.putfield 286, 3) := by decide +kernel
theorem d_Mo_compareProducts_14 : decode c_Mo_compareProducts 14 = .ok (.aload_n 0, 1) := by decide +kernel
theorem d_Mo_compareProducts_15 : decode c_Mo_compareProducts 15 = .ok (.aload_n 0, 1) := by decide +kernel
theorem d_Mo_compareProducts_16 : decode c_Mo_compareProducts 16 = .ok (.iload_n 3, 1) := by decide +kernel
theorem d_Mo_compareProducts_17 : decode c_Mo_compareProducts 17 = .ok (.iload 4, 2) := by decide +kernel
theorem d_Mo_compareProducts_19 : decode c_Mo_compareProducts 19 = .ok (.aload_n 0, 1) := by decide +kernel
theorem d_Mo_compareProducts_20 : decode c_Mo_compareProducts 20 = .ok (.getfield 96, 3) := by decide +kernel
theorem d_Mo_compareProducts_23 : decode c_Mo_compareProducts 23 = .ok (.invokevirtual 282, 3) := by decide +kernel
theorem d_Mo_compareProducts_26 : decode c_Mo_compareProducts 26 = .ok (.putfield 292, 3) := by decide +kernel
theorem d_Mo_compareProducts_29 : decode c_Mo_compareProducts 29 = .ok (.aload_n 0, 1) := by decide +kernel
theorem d_Mo_compareProducts_30 : decode c_Mo_compareProducts 30 = .ok (.getfield 93, 3) := by decide +kernel
theorem d_Mo_compareProducts_33 : decode c_Mo_compareProducts 33 = .ok (.aload_n 0, 1) := by decide +kernel
theorem d_Mo_compareProducts_34 : decode c_Mo_compareProducts 34 = .ok (.getfield 286, 3) := by decide +kernel
theorem d_Mo_compareProducts_37 : decode c_Mo_compareProducts 37 = .ok (.aload_n 0, 1) := by decide +kernel
theorem d_Mo_compareProducts_38 : decode c_Mo_compareProducts 38 = .ok (.getfield 96, 3) := by decide +kernel
theorem d_Mo_compareProducts_41 : decode c_Mo_compareProducts 41 = .ok (.aload_n 0, 1) := by decide +kernel
theorem d_Mo_compareProducts_42 : decode c_Mo_compareProducts 42 = .ok (.getfield 292, 3) := by decide +kernel
theorem d_Mo_compareProducts_45 : decode c_Mo_compareProducts 45 = .ok (.invokestatic 301, 3) := by decide +kernel
theorem d_Mo_compareProducts_48 : decode c_Mo_compareProducts 48 = .ok (.ireturn, 1) := by decide +kernel
set_option maxRecDepth 100000 in
set_option maxHeartbeats 8000000 in
/-- compareProducts(x, y, a, b): by amounts -/
theorem g_Mo_compareProducts (l : Launch) (G : va_G) (k : Nat → ClassId) (h0 s0 x y a b : Nat) (ma : Nat → Nat) (iv : Nat → Int32) (co : Int64) (dg sz T1 T2 : Nat → Nat) (hx : x < 3998) (hy : y < 3998) (ha : a < 3998) (hb : b < 3998) (sx : sz x ≤ 80) (sy : sz y ≤ 80) (sa : sz a ≤ 80) (sb : sz b ≤ 80) (hdg : ∀ i, i < 319840 → dg i < 65536) (dT1 : ∀ i, i < 170 → T1 i < 65536) (dT2 : ∀ i, i < 170 → T2 i < 65536) : CI l y_Mo_compareProducts c_Mo_compareProducts 5 .int { frames := 2, cells := 0, slots := 0, locals := 100 } [.ref h0, .int (nI x), .int (nI y), .int (nI a), .int (nI b)] G k s0 [(h0, .inr (8, moL ma iv co)), ((ma 21), .inl (k 0, 319840, .inl (fun i => nI (dg i)))), ((ma 22), .inl (k 0, 3998, .inl (fun i => nI (sz i)))), ((ma 24), .inl (k 0, 170, .inl (fun i => nI (T1 i)))), ((ma 25), .inl (k 0, 170, .inl (fun i => nI (T2 i))))] (fun (r : Int32) (u : (Nat → Nat) × (Nat → Nat) × Int32 × Int32) => r = (if vl 65536 (fun i => dg (x * 80 + i)) (sz x) * vl 65536 (fun i => dg (y * 80 + i)) (sz y) = vl 65536 (fun i => dg (a * 80 + i)) (sz a) * vl 65536 (fun i => dg (b * 80 + i)) (sz b) then 0 else if vl 65536 (fun i => dg (x * 80 + i)) (sz x) * vl 65536 (fun i => dg (y * 80 + i)) (sz y) < vl 65536 (fun i => dg (a * 80 + i)) (sz a) * vl 65536 (fun i => dg (b * 80 + i)) (sz b) then -1 else 1) ∧ (∀ i, i < 170 → u.1 i < 65536) ∧ ∀ i, i < 170 → u.2.1 i < 65536) (fun u => [(h0, .inr (8, moL ma (va_up (va_up iv 19 u.2.2.1) 20 u.2.2.2) co)), ((ma 21), .inl (k 0, 319840, .inl (fun i => nI (dg i)))), ((ma 22), .inl (k 0, 3998, .inl (fun i => nI (sz i)))), ((ma 24), .inl (k 0, 170, .inl (fun i => nI (u.1 i)))), ((ma 25), .inl (k 0, 170, .inl (fun i => nI (u.2.1 i))))]) 0 0 := by
  have kx := hx
  have ky := hy
  have ka := ha
  have kb := hb
  refine met_start (by decide) (Nat.le_of_ble_eq_true rfl) ?_
  intro p e s m below meth c C K hA hsz S ls hl
  generalize va_A [(h0, .inr (8, moL ma iv co)), ((ma 21), .inl (k 0, 319840, .inl (fun i => nI (dg i)))), ((ma 22), .inl (k 0, 3998, .inl (fun i => nI (sz i)))), ((ma 24), .inl (k 0, 170, .inl (fun i => nI (T1 i)))), ((ma 25), .inl (k 0, 170, .inl (fun i => nI (T2 i))))] s0 = A at hA S ⊢
  have hx := C.1
  have hb := C.2.1
  have hl : lv_has ls 5 [(0, .ref h0), (1, .int (nI x)), (2, .int (nI y)), (3, .int (nI a)), (4, .int (nI b))] := hl
  refine lv_aload_n hx hb d_Mo_compareProducts_0 rfl (lv_at hl 0 rfl) ?_
  refine lv_aload_n hx hb d_Mo_compareProducts_1 rfl (lv_at hl 0 rfl) ?_
  refine lv_iload_n hx hb d_Mo_compareProducts_2 rfl (lv_at hl 1 rfl) ?_
  refine lv_iload_n hx hb d_Mo_compareProducts_3 rfl (lv_at hl 2 rfl) ?_
  refine lv_aload_n hx hb d_Mo_compareProducts_4 rfl (lv_at hl 0 rfl) ?_
  refine r_get C K S 0 rfl rfl clOk_Mo 44 (by decide) wf_Mo_93 (v := .ref (ma 24)) rfl d_Mo_compareProducts_5 ?_
  refine r_backi (wi := [(h0, .inr (8, moL ma iv co)), ((ma 21), .inl (k 0, 319840, .inl (fun i => nI (dg i)))), ((ma 22), .inl (k 0, 3998, .inl (fun i => nI (sz i)))), ((ma 24), .inl (k 0, 170, .inl (fun i => nI (T1 i))))]) (wr := [((ma 25), .inl (k 0, 170, .inl (fun i => nI (T2 i))))]) S hA [0, 1, 2, 3] [4] rfl rfl (by decide) (by decide) (va_runV (As := [.int (nI x), .int (nI y), .ref (ma 24)]) (rest := [.ref h0]) ⟨hx, hb, C.2.2.1, C.2.2.2.1, C.2.2.2.2.1⟩ (g_Mo_times l G k h0 _ (ma 24) x y ma iv co dg sz T1 kx ky sx sy hdg dT1) (k_virt (n := 3) C wc_Mo_times rfl rfl wz_Mo wm_Mo_282 wn_Mo_times ws_Mo_times (by decide +kernel) ⟨(Nat.le_of_ble_eq_true rfl), (Nat.le_of_ble_eq_true rfl)⟩) (pr_nowV K S [0, 1, 2, 3] (by decide) rfl 0 rfl rfl) rfl rfl hl.1 rfl (lv_room (Nat.le_of_ble_eq_true rfl)) d_Mo_compareProducts_8 ⟨(Nat.le_of_ble_eq_true rfl), (Nat.le_of_ble_eq_true rfl)⟩) (fun r3 u1 H locs hw2 S => ?_)
  have S : Sw G A s.heap _ _ [((ma 25), .inl (k 0, 170, .inl (fun i => nI (T2 i)))), (h0, .inr (8, moL ma iv co)), ((ma 21), .inl (k 0, 319840, .inl (fun i => nI (dg i)))), ((ma 22), .inl (k 0, 3998, .inl (fun i => nI (sz i)))), ((ma 24), .inl (k 0, 170, .inl (fun i => nI (u1 i))))] := S
  obtain ⟨ha0, hv0, hd0, _⟩ := hw2
  subst ha0
  have hk0 := vl_cut (B := 65536) u1 (fun i => nI (u1 i)) (fun _ => rfl) (sz x + sz y) (fun i hi => by have := hd0 i (by omega); omega)
  have hn0 : cutN (fun i => nI (u1 i)) (sz x + sz y) ≤ sz x + sz y := hk0.2.1
  refine r_put C K S 1 rfl rfl clOk_Mo 48 (by decide) wf_Mo_286 rfl (ty := .int) (v := .int (nI (cutN (fun i => nI (u1 i)) (sz x + sz y)))) (by decide +kernel) rfl rfl (Nat.le_of_ble_eq_true rfl) (fs' := moL ma (va_up iv 19 (nI (cutN (fun i => nI (u1 i)) (sz x + sz y)))) co) (ws' := [((ma 25), .inl (k 0, 170, .inl (fun i => nI (T2 i)))), (h0, .inr (8, moL ma (va_up iv 19 (nI (cutN (fun i => nI (u1 i)) (sz x + sz y)))) co)), ((ma 21), .inl (k 0, 319840, .inl (fun i => nI (dg i)))), ((ma 22), .inl (k 0, 3998, .inl (fun i => nI (sz i)))), ((ma 24), .inl (k 0, 170, .inl (fun i => nI (u1 i))))]) rfl rfl d_Mo_compareProducts_11 (fun H locs S => ?_)
  refine lv_aload_n hx hb d_Mo_compareProducts_14 rfl (lv_at hl 0 rfl) ?_
  refine lv_aload_n hx hb d_Mo_compareProducts_15 rfl (lv_at hl 0 rfl) ?_
  refine lv_iload_n hx hb d_Mo_compareProducts_16 rfl (lv_at hl 3 rfl) ?_
  refine lv_iload hx hb d_Mo_compareProducts_17 (lv_at hl 4 rfl) ?_
  refine lv_aload_n hx hb d_Mo_compareProducts_19 rfl (lv_at hl 0 rfl) ?_
  refine r_get C K S 1 rfl rfl clOk_Mo 45 (by decide) wf_Mo_96 (v := .ref (ma 25)) rfl d_Mo_compareProducts_20 ?_
  refine r_backi (wi := [(h0, .inr (8, moL ma (va_up iv 19 (nI (cutN (fun i => nI (u1 i)) (sz x + sz y)))) co)), ((ma 21), .inl (k 0, 319840, .inl (fun i => nI (dg i)))), ((ma 22), .inl (k 0, 3998, .inl (fun i => nI (sz i)))), ((ma 25), .inl (k 0, 170, .inl (fun i => nI (T2 i))))]) (wr := [((ma 24), .inl (k 0, 170, .inl (fun i => nI (u1 i))))]) S hA [1, 2, 3, 0] [4] rfl rfl (by decide) (by decide) (va_runV (As := [.int (nI a), .int (nI b), .ref (ma 25)]) (rest := [.ref h0]) ⟨hx, hb, C.2.2.1, C.2.2.2.1, C.2.2.2.2.1⟩ (g_Mo_times l G k h0 _ (ma 25) a b ma (va_up iv 19 (nI (cutN (fun i => nI (u1 i)) (sz x + sz y)))) co dg sz T2 ka kb sa sb hdg dT2) (k_virt (n := 3) C wc_Mo_times rfl rfl wz_Mo wm_Mo_282 wn_Mo_times ws_Mo_times (by decide +kernel) ⟨(Nat.le_of_ble_eq_true rfl), (Nat.le_of_ble_eq_true rfl)⟩) (pr_nowV K S [1, 2, 3, 0] (by decide) rfl 1 rfl rfl) rfl rfl hl.1 rfl (lv_room (Nat.le_of_ble_eq_true rfl)) d_Mo_compareProducts_23 ⟨(Nat.le_of_ble_eq_true rfl), (Nat.le_of_ble_eq_true rfl)⟩) (fun r6 u4 H locs hw5 S => ?_)
  have S : Sw G A s.heap _ _ [((ma 24), .inl (k 0, 170, .inl (fun i => nI (u1 i)))), (h0, .inr (8, moL ma (va_up iv 19 (nI (cutN (fun i => nI (u1 i)) (sz x + sz y)))) co)), ((ma 21), .inl (k 0, 319840, .inl (fun i => nI (dg i)))), ((ma 22), .inl (k 0, 3998, .inl (fun i => nI (sz i)))), ((ma 25), .inl (k 0, 170, .inl (fun i => nI (u4 i))))] := S
  obtain ⟨ha1, hv1, hd1, _⟩ := hw5
  subst ha1
  have hk1 := vl_cut (B := 65536) u4 (fun i => nI (u4 i)) (fun _ => rfl) (sz a + sz b) (fun i hi => by have := hd1 i (by omega); omega)
  have hn1 : cutN (fun i => nI (u4 i)) (sz a + sz b) ≤ sz a + sz b := hk1.2.1
  refine r_put C K S 1 rfl rfl clOk_Mo 49 (by decide) wf_Mo_292 rfl (ty := .int) (v := .int (nI (cutN (fun i => nI (u4 i)) (sz a + sz b)))) (by decide +kernel) rfl rfl (Nat.le_of_ble_eq_true rfl) (fs' := moL ma (va_up (va_up iv 19 (nI (cutN (fun i => nI (u1 i)) (sz x + sz y)))) 20 (nI (cutN (fun i => nI (u4 i)) (sz a + sz b)))) co) (ws' := [((ma 24), .inl (k 0, 170, .inl (fun i => nI (u1 i)))), (h0, .inr (8, moL ma (va_up (va_up iv 19 (nI (cutN (fun i => nI (u1 i)) (sz x + sz y)))) 20 (nI (cutN (fun i => nI (u4 i)) (sz a + sz b)))) co)), ((ma 21), .inl (k 0, 319840, .inl (fun i => nI (dg i)))), ((ma 22), .inl (k 0, 3998, .inl (fun i => nI (sz i)))), ((ma 25), .inl (k 0, 170, .inl (fun i => nI (u4 i))))]) rfl rfl d_Mo_compareProducts_26 (fun H locs S => ?_)
  refine lv_aload_n hx hb d_Mo_compareProducts_29 rfl (lv_at hl 0 rfl) ?_
  refine r_get C K S 1 rfl rfl clOk_Mo 44 (by decide) wf_Mo_93 (v := .ref (ma 24)) rfl d_Mo_compareProducts_30 ?_
  refine lv_aload_n hx hb d_Mo_compareProducts_33 rfl (lv_at hl 0 rfl) ?_
  refine r_get C K S 1 rfl rfl clOk_Mo 48 (by decide) wf_Mo_286 (v := .int (nI (cutN (fun i => nI (u1 i)) (sz x + sz y)))) rfl d_Mo_compareProducts_34 ?_
  refine lv_aload_n hx hb d_Mo_compareProducts_37 rfl (lv_at hl 0 rfl) ?_
  refine r_get C K S 1 rfl rfl clOk_Mo 45 (by decide) wf_Mo_96 (v := .ref (ma 25)) rfl d_Mo_compareProducts_38 ?_
  refine lv_aload_n hx hb d_Mo_compareProducts_41 rfl (lv_at hl 0 rfl) ?_
  refine r_get C K S 1 rfl rfl clOk_Mo 49 (by decide) wf_Mo_292 (v := .int (nI (cutN (fun i => nI (u4 i)) (sz a + sz b)))) rfl d_Mo_compareProducts_42 ?_
  refine r_backi (wi := [((ma 24), .inl (k 0, 170, .inl (fun i => nI (u1 i)))), ((ma 25), .inl (k 0, 170, .inl (fun i => nI (u4 i))))]) (wr := [(h0, .inr (8, moL ma (va_up (va_up iv 19 (nI (cutN (fun i => nI (u1 i)) (sz x + sz y)))) 20 (nI (cutN (fun i => nI (u4 i)) (sz a + sz b)))) co)), ((ma 21), .inl (k 0, 319840, .inl (fun i => nI (dg i)))), ((ma 22), .inl (k 0, 3998, .inl (fun i => nI (sz i))))]) S hA [0, 4] [1, 2, 3] rfl rfl (by decide) (by decide) (va_runS (As := [.ref (ma 24), .int (nI (cutN (fun i => nI (u1 i)) (sz x + sz y))), .ref (ma 25), .int (nI (cutN (fun i => nI (u4 i)) (sz a + sz b)))]) (rest := []) ⟨hx, hb, C.2.2.1, C.2.2.2.1, C.2.2.2.2.1⟩ (g_Mo_compare l G k _ (ma 24) (ma 25) 170 170 (cutN (fun i => nI (u1 i)) (sz x + sz y)) (cutN (fun i => nI (u4 i)) (sz a + sz b)) u1 u4 (by omega) (by omega) (by decide) (by decide) hd0 hd1) (k_stat (n := 4) C wc_Mo_compare rfl rfl wz_Mo wm_Mo_301 wt_Mo_compare (by decide +kernel) ⟨(Nat.le_of_ble_eq_true rfl), (Nat.le_of_ble_eq_true rfl)⟩) (pr_now K S [0, 4] (by decide) rfl) rfl rfl hl.1 rfl (lv_room (Nat.le_of_ble_eq_true rfl)) d_Mo_compareProducts_45 ⟨(Nat.le_of_ble_eq_true rfl), (Nat.le_of_ble_eq_true rfl)⟩) (fun r9 u7 H locs hw8 S => ?_)
  have S : Sw G A s.heap _ _ [(h0, .inr (8, moL ma (va_up (va_up iv 19 (nI (cutN (fun i => nI (u1 i)) (sz x + sz y)))) 20 (nI (cutN (fun i => nI (u4 i)) (sz a + sz b)))) co)), ((ma 21), .inl (k 0, 319840, .inl (fun i => nI (dg i)))), ((ma 22), .inl (k 0, 3998, .inl (fun i => nI (sz i)))), ((ma 24), .inl (k 0, 170, .inl (fun i => nI (u1 i)))), ((ma 25), .inl (k 0, 170, .inl (fun i => nI (u4 i))))] := S
  have cv := cmpN_val (B := 65536) (ga := u1) (gb := u4) (na := cutN (fun i => nI (u1 i)) (sz x + sz y)) (nb := cutN (fun i => nI (u4 i)) (sz a + sz b)) (by decide) (fun i hi => hd0 i (by omega)) (fun i hi => hd1 i (by omega)) hk0.2.2 hk1.2.2
  rw [← hk0.1, ← hk1.1, hv0, hv1] at cv
  exact r_iret C K rfl (u1, u4, nI (cutN (fun i => nI (u1 i)) (sz x + sz y)), nI (cutN (fun i => nI (u4 i)) (sz a + sz b))) ⟨hw8.trans cv, hd0, hd1⟩ (S.sub [0, 1, 2, 3, 4] (by decide) rfl) d_Mo_compareProducts_48 (Nat.le_of_ble_eq_true rfl) (Nat.le_of_ble_eq_true rfl)
end
section
/-- a number with its sign -/
def sv (b n : Nat) : Int := if b = 1 then - (n : Int) else (n : Int)
theorem sv_mul {a b m n : Nat} (ha : a ≤ 1) (hb : b ≤ 1) : sv (if a = b then 0 else 1) (m * n) = sv a m * sv b n := by
  unfold sv
  rcases (show a = 0 ∨ a = 1 by omega) with rfl | rfl <;> rcases (show b = 0 ∨ b = 1 by omega) with rfl | rfl <;> simp <;> (try rw [Int.neg_mul]) <;> (try rw [Int.mul_neg]) <;> (try rw [Int.neg_neg])
theorem sv_same {b p q u : Nat} (h : u = p + q) : sv b u = sv b p + sv b q := by
  unfold sv
  split <;> omega
theorem sv_ge {a b p q u : Nat} (ha : a ≤ 1) (hb : b ≤ 1) (hne : a ≠ b) (h : u + q = p) : sv a u = sv a p + sv b q := by
  unfold sv
  rcases (show a = 0 ∧ b = 1 ∨ a = 1 ∧ b = 0 by omega) with ⟨rfl, rfl⟩ | ⟨rfl, rfl⟩ <;> simp <;> omega
theorem sv_lt {a b p q u : Nat} (ha : a ≤ 1) (hb : b ≤ 1) (hne : a ≠ b) (h : u + p = q) : sv b u = sv a p + sv b q := by
  unfold sv
  rcases (show a = 0 ∧ b = 1 ∨ a = 1 ∧ b = 0 by omega) with ⟨rfl, rfl⟩ | ⟨rfl, rfl⟩ <;> simp <;> omega
theorem d_Mo_products_0 : decode c_Mo_products 0 = .ok (.aload_n 0, 1) := by decide +kernel
theorem d_Mo_products_1 : decode c_Mo_products 1 = .ok (.aload_n 0, 1) := by decide +kernel
theorem d_Mo_products_2 : decode c_Mo_products 2 = .ok (.iload_n 1, 1) := by decide +kernel
theorem d_Mo_products_3 : decode c_Mo_products 3 = .ok (.iload_n 2, 1) := by decide +kernel
theorem d_Mo_products_4 : decode c_Mo_products 4 = .ok (.aload_n 0, 1) := by decide +kernel
theorem d_Mo_products_5 : decode c_Mo_products 5 = .ok (.getfield 93, 3) := by decide +kernel
theorem d_Mo_products_8 : decode c_Mo_products 8 = .ok (.invokevirtual 282, 3) := by decide +kernel
theorem d_Mo_products_11 : decode c_Mo_products 11 = .ok (.putfield 286, 3) := by decide +kernel
theorem d_Mo_products_14 : decode c_Mo_products 14 = .ok (.aload_n 0, 1) := by decide +kernel
theorem d_Mo_products_15 : decode c_Mo_products 15 = .ok (.aload_n 0, 1) := by decide +kernel
theorem d_Mo_products_16 : decode c_Mo_products 16 = .ok (.getfield 89, 3) := by decide +kernel
theorem d_Mo_products_19 : decode c_Mo_products 19 = .ok (.iload_n 1, 1) := by decide +kernel
theorem d_Mo_products_20 : decode c_Mo_products 20 = .ok (.baload, 1) := by decide +kernel
theorem d_Mo_products_21 : decode c_Mo_products 21 = .ok (.aload_n 0, 1) := by decide +kernel
theorem d_Mo_products_22 : decode c_Mo_products 22 = .ok (.getfield 89, 3) := by decide +kernel
theorem d_Mo_products_25 : decode c_Mo_products 25 = .ok (.iload_n 2, 1) := by decide +kernel
theorem d_Mo_products_26 : decode c_Mo_products 26 = .ok (.baload, 1) := by decide +kernel
theorem d_Mo_products_27 : decode c_Mo_products 27 = .ok (.if_icmp .eq 7, 3) := by decide +kernel
theorem d_Mo_products_30 : decode c_Mo_products 30 = .ok (.iconst 1, 1) := by decide +kernel
theorem d_Mo_products_31 : decode c_Mo_products 31 = .ok (.goto 4, 3) := by decide +kernel
theorem d_Mo_products_34 : decode c_Mo_products 34 = .ok (.iconst 0, 1) := by decide +kernel
theorem d_Mo_products_35 : decode c_Mo_products 35 = .ok (.putfield 289, 3) := by decide +kernel
theorem d_Mo_products_38 : decode c_Mo_products 38 = .ok (.aload_n 0, 1) := by decide +kernel
theorem d_Mo_products_39 : decode c_Mo_products 39 = .ok (.aload_n 0, 1) := by decide +kernel
theorem d_Mo_products_40 : decode c_Mo_products 40 = .ok (.iload_n 3, 1) := by decide +kernel
theorem d_Mo_products_41 : decode c_Mo_products 41 = .ok (.iload 4, 2) := by decide +kernel
theorem d_Mo_products_43 : decode c_Mo_products 43 = .ok (.aload_n 0, 1) := by decide +kernel
theorem d_Mo_products_44 : decode c_Mo_products 44 = .ok (.getfield 96, 3) := by decide +kernel
theorem d_Mo_products_47 : decode c_Mo_products 47 = .ok (.invokevirtual 282, 3) := by decide +kernel
theorem d_Mo_products_50 : decode c_Mo_products 50 = .ok (.putfield 292, 3) := by decide +kernel
theorem d_Mo_products_53 : decode c_Mo_products 53 = .ok (.aload_n 0, 1) := by decide +kernel
theorem d_Mo_products_54 : decode c_Mo_products 54 = .ok (.aload_n 0, 1) := by decide +kernel
theorem d_Mo_products_55 : decode c_Mo_products 55 = .ok (.getfield 89, 3) := by decide +kernel
theorem d_Mo_products_58 : decode c_Mo_products 58 = .ok (.iload_n 3, 1) := by decide +kernel
theorem d_Mo_products_59 : decode c_Mo_products 59 = .ok (.baload, 1) := by decide +kernel
theorem d_Mo_products_60 : decode c_Mo_products 60 = .ok (.aload_n 0, 1) := by decide +kernel
theorem d_Mo_products_61 : decode c_Mo_products 61 = .ok (.getfield 89, 3) := by decide +kernel
theorem d_Mo_products_64 : decode c_Mo_products 64 = .ok (.iload 4, 2) := by decide +kernel
theorem d_Mo_products_66 : decode c_Mo_products 66 = .ok (.baload, 1) := by decide +kernel
theorem d_Mo_products_67 : decode c_Mo_products 67 = .ok (.if_icmp .eq 7, 3) := by decide +kernel
theorem d_Mo_products_70 : decode c_Mo_products 70 = .ok (.iconst 1, 1) := by decide +kernel
theorem d_Mo_products_71 : decode c_Mo_products 71 = .ok (.goto 4, 3) := by decide +kernel
theorem d_Mo_products_74 : decode c_Mo_products 74 = .ok (.iconst 0, 1) := by decide +kernel
theorem d_Mo_products_75 : decode c_Mo_products 75 = .ok (.putfield 295, 3) := by decide +kernel
theorem d_Mo_products_78 : decode c_Mo_products 78 = .ok (.aload_n 0, 1) := by decide +kernel
theorem d_Mo_products_79 : decode c_Mo_products 79 = .ok (.invokevirtual 298, 3) := by decide +kernel
theorem d_Mo_products_82 : decode c_Mo_products 82 = .ok (.return_, 1) := by decide +kernel
set_option maxRecDepth 100000 in
set_option maxHeartbeats 16000000 in
/-- products(x, y, a, b) -/
theorem g_Mo_products (l : Launch) (G : va_G) (k : Nat → ClassId) (h0 s0 x y a b : Nat) (ma : Nat → Nat) (iv : Nat → Int32) (co : Int64) (dg sz bl T1 T2 : Nat → Nat) (kx : x < 3998) (ky : y < 3998) (ka : a < 3998) (kb : b < 3998) (sx : sz x ≤ 80) (sy : sz y ≤ 80) (sa : sz a ≤ 80) (sb : sz b ≤ 80) (bx : bl x ≤ 1) (by9 : bl y ≤ 1) (ba : bl a ≤ 1) (bb : bl b ≤ 1) (hdg : ∀ i, i < 319840 → dg i < 65536) (dT1 : ∀ i, i < 170 → T1 i < 65536) (dT2 : ∀ i, i < 170 → T2 i < 65536) : CV l y_Mo_products c_Mo_products 5 { frames := 3, cells := 0, slots := 0, locals := 140 } [.ref h0, .int (nI x), .int (nI y), .int (nI a), .int (nI b)] G k s0 [(h0, .inr (8, moL ma iv co)), ((ma 21), .inl (k 0, 319840, .inl (fun i => nI (dg i)))), ((ma 22), .inl (k 0, 3998, .inl (fun i => nI (sz i)))), ((ma 23), .inl (k 2, 3998, .inl (fun i => nI (bl i)))), ((ma 24), .inl (k 0, 170, .inl (fun i => nI (T1 i)))), ((ma 25), .inl (k 0, 170, .inl (fun i => nI (T2 i))))] (fun (u : (Nat → Nat) × (Nat → Nat) × Nat × Nat × Nat × Nat) => sv u.2.2.2.1 (vl 65536 u.1 u.2.2.1) = sv (bl x) (vl 65536 (fun i => dg (x * 80 + i)) (sz x)) * sv (bl y) (vl 65536 (fun i => dg (y * 80 + i)) (sz y)) + sv (bl a) (vl 65536 (fun i => dg (a * 80 + i)) (sz a)) * sv (bl b) (vl 65536 (fun i => dg (b * 80 + i)) (sz b)) ∧ u.2.2.1 ≤ 161 ∧ (u.2.2.1 = 0 ∨ u.1 (u.2.2.1 - 1) ≠ 0) ∧ (∀ i, i < 170 → u.1 i < 65536) ∧ (∀ i, i < 170 → u.2.1 i < 65536) ∧ u.2.2.2.1 ≤ 1) (fun u => [(h0, .inr (8, moL ma (va_up (va_up (va_up (va_up iv 21 (nI u.2.2.2.1)) 22 (nI u.2.2.2.2.2)) 20 (nI u.2.2.2.2.1)) 19 (nI u.2.2.1)) co)), ((ma 21), .inl (k 0, 319840, .inl (fun i => nI (dg i)))), ((ma 22), .inl (k 0, 3998, .inl (fun i => nI (sz i)))), ((ma 23), .inl (k 2, 3998, .inl (fun i => nI (bl i)))), ((ma 24), .inl (k 0, 170, .inl (fun i => nI (u.1 i)))), ((ma 25), .inl (k 0, 170, .inl (fun i => nI (u.2.1 i))))]) 0 0 := by
  refine met_start (by decide) (Nat.le_of_ble_eq_true rfl) ?_
  intro p e s m below meth c C K hA hsz S ls hl
  generalize va_A [(h0, .inr (8, moL ma iv co)), ((ma 21), .inl (k 0, 319840, .inl (fun i => nI (dg i)))), ((ma 22), .inl (k 0, 3998, .inl (fun i => nI (sz i)))), ((ma 23), .inl (k 2, 3998, .inl (fun i => nI (bl i)))), ((ma 24), .inl (k 0, 170, .inl (fun i => nI (T1 i)))), ((ma 25), .inl (k 0, 170, .inl (fun i => nI (T2 i))))] s0 = A at hA S ⊢
  have hx := C.1
  have hb := C.2.1
  have hl : lv_has ls 5 [(0, .ref h0), (1, .int (nI x)), (2, .int (nI y)), (3, .int (nI a)), (4, .int (nI b))] := hl
  refine lv_aload_n hx hb d_Mo_products_0 rfl (lv_at hl 0 rfl) ?_
  refine lv_aload_n hx hb d_Mo_products_1 rfl (lv_at hl 0 rfl) ?_
  refine lv_iload_n hx hb d_Mo_products_2 rfl (lv_at hl 1 rfl) ?_
  refine lv_iload_n hx hb d_Mo_products_3 rfl (lv_at hl 2 rfl) ?_
  refine lv_aload_n hx hb d_Mo_products_4 rfl (lv_at hl 0 rfl) ?_
  refine r_get C K S 0 rfl rfl clOk_Mo 44 (by decide) wf_Mo_93 (v := .ref (ma 24)) rfl d_Mo_products_5 ?_
  refine r_backi (wi := [(h0, .inr (8, moL ma iv co)), ((ma 21), .inl (k 0, 319840, .inl (fun i => nI (dg i)))), ((ma 22), .inl (k 0, 3998, .inl (fun i => nI (sz i)))), ((ma 24), .inl (k 0, 170, .inl (fun i => nI (T1 i))))]) (wr := [((ma 23), .inl (k 2, 3998, .inl (fun i => nI (bl i)))), ((ma 25), .inl (k 0, 170, .inl (fun i => nI (T2 i))))]) S hA [0, 1, 2, 4] [3, 5] rfl rfl (by decide) (by decide) (va_runV (As := [.int (nI x), .int (nI y), .ref (ma 24)]) (rest := [.ref h0]) ⟨hx, hb, C.2.2.1, C.2.2.2.1, C.2.2.2.2.1⟩ (g_Mo_times l G k h0 _ (ma 24) x y ma iv co dg sz T1 kx ky sx sy hdg dT1) (k_virt (n := 3) C wc_Mo_times rfl rfl wz_Mo wm_Mo_282 wn_Mo_times ws_Mo_times (by decide +kernel) ⟨(Nat.le_of_ble_eq_true rfl), (Nat.le_of_ble_eq_true rfl)⟩) (pr_nowV K S [0, 1, 2, 4] (by decide) rfl 0 rfl rfl) rfl rfl hl.1 rfl (lv_room (Nat.le_of_ble_eq_true rfl)) d_Mo_products_8 ⟨(Nat.le_of_ble_eq_true rfl), (Nat.le_of_ble_eq_true rfl)⟩) (fun r3 u1 H locs hw2 S => ?_)
  have S : Sw G A s.heap _ _ [((ma 23), .inl (k 2, 3998, .inl (fun i => nI (bl i)))), ((ma 25), .inl (k 0, 170, .inl (fun i => nI (T2 i)))), (h0, .inr (8, moL ma iv co)), ((ma 21), .inl (k 0, 319840, .inl (fun i => nI (dg i)))), ((ma 22), .inl (k 0, 3998, .inl (fun i => nI (sz i)))), ((ma 24), .inl (k 0, 170, .inl (fun i => nI (u1 i))))] := S
  obtain ⟨ha0, hv0, hd0, _⟩ := hw2
  subst ha0
  have hk0 := vl_cut (B := 65536) u1 (fun i => nI (u1 i)) (fun _ => rfl) (sz x + sz y) (fun i hi => by have := hd0 i (by omega); omega)
  have hn0 : cutN (fun i => nI (u1 i)) (sz x + sz y) ≤ sz x + sz y := hk0.2.1
  refine r_put C K S 2 rfl rfl clOk_Mo 48 (by decide) wf_Mo_286 rfl (ty := .int) (v := .int (nI (cutN (fun i => nI (u1 i)) (sz x + sz y)))) (by decide +kernel) rfl rfl (Nat.le_of_ble_eq_true rfl) (fs' := moL ma (va_up iv 19 (nI (cutN (fun i => nI (u1 i)) (sz x + sz y)))) co) (ws' := [((ma 23), .inl (k 2, 3998, .inl (fun i => nI (bl i)))), ((ma 25), .inl (k 0, 170, .inl (fun i => nI (T2 i)))), (h0, .inr (8, moL ma (va_up iv 19 (nI (cutN (fun i => nI (u1 i)) (sz x + sz y)))) co)), ((ma 21), .inl (k 0, 319840, .inl (fun i => nI (dg i)))), ((ma 22), .inl (k 0, 3998, .inl (fun i => nI (sz i)))), ((ma 24), .inl (k 0, 170, .inl (fun i => nI (u1 i))))]) rfl rfl d_Mo_products_11 (fun H locs S => ?_)
  refine lv_aload_n hx hb d_Mo_products_14 rfl (lv_at hl 0 rfl) ?_
  refine lv_aload_n hx hb d_Mo_products_15 rfl (lv_at hl 0 rfl) ?_
  refine r_get C K S 2 rfl rfl clOk_Mo 43 (by decide) wf_Mo_89 (v := .ref (ma 23)) rfl d_Mo_products_16 ?_
  refine lv_iload_n hx hb d_Mo_products_19 rfl (lv_at hl 1 rfl) ?_
  refine r_zald C K S 0 rfl (i := (nI x)) (vp_in_nI (by omega) (by decide)) (v := (nI (bl x))) (by rw [nI_clamp (by omega)]) d_Mo_products_20 ?_
  refine lv_aload_n hx hb d_Mo_products_21 rfl (lv_at hl 0 rfl) ?_
  refine r_get C K S 2 rfl rfl clOk_Mo 43 (by decide) wf_Mo_89 (v := .ref (ma 23)) rfl d_Mo_products_22 ?_
  refine lv_iload_n hx hb d_Mo_products_25 rfl (lv_at hl 2 rfl) ?_
  refine r_zald C K S 0 rfl (i := (nI y)) (vp_in_nI (by omega) (by decide)) (v := (nI (bl y))) (by rw [nI_clamp (by omega)]) d_Mo_products_26 ?_
  have cont1 : ∀ b1 : Nat, b1 ≤ 1 → b1 = (if bl x = bl y then 0 else 1) → W p l e { frames := 3, cells := 0, slots := 0, locals := 140 } s m [Value.ref h0, Value.int (nI x), Value.int (nI y), Value.int (nI a), Value.int (nI b)].toArray below meth c H locs 0 0 (MQ below (va_Qv (fun (u : (Nat → Nat) × (Nat → Nat) × Nat × Nat × Nat × Nat) => sv u.2.2.2.1 (vl 65536 u.1 u.2.2.1) = sv (bl x) (vl 65536 (fun i => dg (x * 80 + i)) (sz x)) * sv (bl y) (vl 65536 (fun i => dg (y * 80 + i)) (sz y)) + sv (bl a) (vl 65536 (fun i => dg (a * 80 + i)) (sz a)) * sv (bl b) (vl 65536 (fun i => dg (b * 80 + i)) (sz b)) ∧ u.2.2.1 ≤ 161 ∧ (u.2.2.1 = 0 ∨ u.1 (u.2.2.1 - 1) ≠ 0) ∧ (∀ i, i < 170 → u.1 i < 65536) ∧ (∀ i, i < 170 → u.2.1 i < 65536) ∧ u.2.2.2.1 ≤ 1) (Po G k A (fun u => [(h0, .inr (8, moL ma (va_up (va_up (va_up (va_up iv 21 (nI u.2.2.2.1)) 22 (nI u.2.2.2.2.2)) 20 (nI u.2.2.2.2.1)) 19 (nI u.2.2.1)) co)), ((ma 21), .inl (k 0, 319840, .inl (fun i => nI (dg i)))), ((ma 22), .inl (k 0, 3998, .inl (fun i => nI (sz i)))), ((ma 23), .inl (k 2, 3998, .inl (fun i => nI (bl i)))), ((ma 24), .inl (k 0, 170, .inl (fun i => nI (u.1 i)))), ((ma 25), .inl (k 0, 170, .inl (fun i => nI (u.2.1 i))))])) A) [Value.ref h0, Value.int (nI x), Value.int (nI y), Value.int (nI a), Value.int (nI b)].toArray s 0 0 A) (F0 m 35 ls [.int (nI b1), .ref h0]) := by
    intro b1 hb1 eb1
    refine r_put C K S 2 rfl rfl clOk_Mo 50 (by decide) wf_Mo_289 rfl (ty := .boolean) (v := .int (nI b1)) (by decide +kernel) (bo_n hb1) (bo_f hb1) (Nat.le_of_ble_eq_true rfl) (fs' := moL ma (va_up (va_up iv 19 (nI (cutN (fun i => nI (u1 i)) (sz x + sz y)))) 21 (nI b1)) co) (ws' := [((ma 23), .inl (k 2, 3998, .inl (fun i => nI (bl i)))), ((ma 25), .inl (k 0, 170, .inl (fun i => nI (T2 i)))), (h0, .inr (8, moL ma (va_up (va_up iv 19 (nI (cutN (fun i => nI (u1 i)) (sz x + sz y)))) 21 (nI b1)) co)), ((ma 21), .inl (k 0, 319840, .inl (fun i => nI (dg i)))), ((ma 22), .inl (k 0, 3998, .inl (fun i => nI (sz i)))), ((ma 24), .inl (k 0, 170, .inl (fun i => nI (u1 i))))]) rfl rfl d_Mo_products_35 (fun H locs S => ?_)
    refine lv_aload_n hx hb d_Mo_products_38 rfl (lv_at hl 0 rfl) ?_
    refine lv_aload_n hx hb d_Mo_products_39 rfl (lv_at hl 0 rfl) ?_
    refine lv_iload_n hx hb d_Mo_products_40 rfl (lv_at hl 3 rfl) ?_
    refine lv_iload hx hb d_Mo_products_41 (lv_at hl 4 rfl) ?_
    refine lv_aload_n hx hb d_Mo_products_43 rfl (lv_at hl 0 rfl) ?_
    refine r_get C K S 2 rfl rfl clOk_Mo 45 (by decide) wf_Mo_96 (v := .ref (ma 25)) rfl d_Mo_products_44 ?_
    refine r_backi (wi := [(h0, .inr (8, moL ma (va_up (va_up iv 19 (nI (cutN (fun i => nI (u1 i)) (sz x + sz y)))) 21 (nI b1)) co)), ((ma 21), .inl (k 0, 319840, .inl (fun i => nI (dg i)))), ((ma 22), .inl (k 0, 3998, .inl (fun i => nI (sz i)))), ((ma 25), .inl (k 0, 170, .inl (fun i => nI (T2 i))))]) (wr := [((ma 23), .inl (k 2, 3998, .inl (fun i => nI (bl i)))), ((ma 24), .inl (k 0, 170, .inl (fun i => nI (u1 i))))]) S hA [2, 3, 4, 1] [0, 5] rfl rfl (by decide) (by decide) (va_runV (As := [.int (nI a), .int (nI b), .ref (ma 25)]) (rest := [.ref h0]) ⟨hx, hb, C.2.2.1, C.2.2.2.1, C.2.2.2.2.1⟩ (g_Mo_times l G k h0 _ (ma 25) a b ma (va_up (va_up iv 19 (nI (cutN (fun i => nI (u1 i)) (sz x + sz y)))) 21 (nI b1)) co dg sz T2 ka kb sa sb hdg dT2) (k_virt (n := 3) C wc_Mo_times rfl rfl wz_Mo wm_Mo_282 wn_Mo_times ws_Mo_times (by decide +kernel) ⟨(Nat.le_of_ble_eq_true rfl), (Nat.le_of_ble_eq_true rfl)⟩) (pr_nowV K S [2, 3, 4, 1] (by decide) rfl 2 rfl rfl) rfl rfl hl.1 rfl (lv_room (Nat.le_of_ble_eq_true rfl)) d_Mo_products_47 ⟨(Nat.le_of_ble_eq_true rfl), (Nat.le_of_ble_eq_true rfl)⟩) (fun r6 u4 H locs hw5 S => ?_)
    have S : Sw G A s.heap _ _ [((ma 23), .inl (k 2, 3998, .inl (fun i => nI (bl i)))), ((ma 24), .inl (k 0, 170, .inl (fun i => nI (u1 i)))), (h0, .inr (8, moL ma (va_up (va_up iv 19 (nI (cutN (fun i => nI (u1 i)) (sz x + sz y)))) 21 (nI b1)) co)), ((ma 21), .inl (k 0, 319840, .inl (fun i => nI (dg i)))), ((ma 22), .inl (k 0, 3998, .inl (fun i => nI (sz i)))), ((ma 25), .inl (k 0, 170, .inl (fun i => nI (u4 i))))] := S
    obtain ⟨ha1, hv1, hd1, _⟩ := hw5
    subst ha1
    have hk1 := vl_cut (B := 65536) u4 (fun i => nI (u4 i)) (fun _ => rfl) (sz a + sz b) (fun i hi => by have := hd1 i (by omega); omega)
    have hn1 : cutN (fun i => nI (u4 i)) (sz a + sz b) ≤ sz a + sz b := hk1.2.1
    refine r_put C K S 2 rfl rfl clOk_Mo 49 (by decide) wf_Mo_292 rfl (ty := .int) (v := .int (nI (cutN (fun i => nI (u4 i)) (sz a + sz b)))) (by decide +kernel) rfl rfl (Nat.le_of_ble_eq_true rfl) (fs' := moL ma (va_up (va_up (va_up iv 19 (nI (cutN (fun i => nI (u1 i)) (sz x + sz y)))) 21 (nI b1)) 20 (nI (cutN (fun i => nI (u4 i)) (sz a + sz b)))) co) (ws' := [((ma 23), .inl (k 2, 3998, .inl (fun i => nI (bl i)))), ((ma 24), .inl (k 0, 170, .inl (fun i => nI (u1 i)))), (h0, .inr (8, moL ma (va_up (va_up (va_up iv 19 (nI (cutN (fun i => nI (u1 i)) (sz x + sz y)))) 21 (nI b1)) 20 (nI (cutN (fun i => nI (u4 i)) (sz a + sz b)))) co)), ((ma 21), .inl (k 0, 319840, .inl (fun i => nI (dg i)))), ((ma 22), .inl (k 0, 3998, .inl (fun i => nI (sz i)))), ((ma 25), .inl (k 0, 170, .inl (fun i => nI (u4 i))))]) rfl rfl d_Mo_products_50 (fun H locs S => ?_)
    refine lv_aload_n hx hb d_Mo_products_53 rfl (lv_at hl 0 rfl) ?_
    refine lv_aload_n hx hb d_Mo_products_54 rfl (lv_at hl 0 rfl) ?_
    refine r_get C K S 2 rfl rfl clOk_Mo 43 (by decide) wf_Mo_89 (v := .ref (ma 23)) rfl d_Mo_products_55 ?_
    refine lv_iload_n hx hb d_Mo_products_58 rfl (lv_at hl 3 rfl) ?_
    refine r_zald C K S 0 rfl (i := (nI a)) (vp_in_nI (by omega) (by decide)) (v := (nI (bl a))) (by rw [nI_clamp (by omega)]) d_Mo_products_59 ?_
    refine lv_aload_n hx hb d_Mo_products_60 rfl (lv_at hl 0 rfl) ?_
    refine r_get C K S 2 rfl rfl clOk_Mo 43 (by decide) wf_Mo_89 (v := .ref (ma 23)) rfl d_Mo_products_61 ?_
    refine lv_iload hx hb d_Mo_products_64 (lv_at hl 4 rfl) ?_
    refine r_zald C K S 0 rfl (i := (nI b)) (vp_in_nI (by omega) (by decide)) (v := (nI (bl b))) (by rw [nI_clamp (by omega)]) d_Mo_products_66 ?_
    have cont2 : ∀ b2 : Nat, b2 ≤ 1 → b2 = (if bl a = bl b then 0 else 1) → W p l e { frames := 3, cells := 0, slots := 0, locals := 140 } s m [Value.ref h0, Value.int (nI x), Value.int (nI y), Value.int (nI a), Value.int (nI b)].toArray below meth c H locs 0 0 (MQ below (va_Qv (fun (u : (Nat → Nat) × (Nat → Nat) × Nat × Nat × Nat × Nat) => sv u.2.2.2.1 (vl 65536 u.1 u.2.2.1) = sv (bl x) (vl 65536 (fun i => dg (x * 80 + i)) (sz x)) * sv (bl y) (vl 65536 (fun i => dg (y * 80 + i)) (sz y)) + sv (bl a) (vl 65536 (fun i => dg (a * 80 + i)) (sz a)) * sv (bl b) (vl 65536 (fun i => dg (b * 80 + i)) (sz b)) ∧ u.2.2.1 ≤ 161 ∧ (u.2.2.1 = 0 ∨ u.1 (u.2.2.1 - 1) ≠ 0) ∧ (∀ i, i < 170 → u.1 i < 65536) ∧ (∀ i, i < 170 → u.2.1 i < 65536) ∧ u.2.2.2.1 ≤ 1) (Po G k A (fun u => [(h0, .inr (8, moL ma (va_up (va_up (va_up (va_up iv 21 (nI u.2.2.2.1)) 22 (nI u.2.2.2.2.2)) 20 (nI u.2.2.2.2.1)) 19 (nI u.2.2.1)) co)), ((ma 21), .inl (k 0, 319840, .inl (fun i => nI (dg i)))), ((ma 22), .inl (k 0, 3998, .inl (fun i => nI (sz i)))), ((ma 23), .inl (k 2, 3998, .inl (fun i => nI (bl i)))), ((ma 24), .inl (k 0, 170, .inl (fun i => nI (u.1 i)))), ((ma 25), .inl (k 0, 170, .inl (fun i => nI (u.2.1 i))))])) A) [Value.ref h0, Value.int (nI x), Value.int (nI y), Value.int (nI a), Value.int (nI b)].toArray s 0 0 A) (F0 m 75 ls [.int (nI b2), .ref h0]) := by
      intro b2 hb2 eb2
      refine r_put C K S 2 rfl rfl clOk_Mo 51 (by decide) wf_Mo_295 rfl (ty := .boolean) (v := .int (nI b2)) (by decide +kernel) (bo_n hb2) (bo_f hb2) (Nat.le_of_ble_eq_true rfl) (fs' := moL ma (va_up (va_up (va_up (va_up iv 19 (nI (cutN (fun i => nI (u1 i)) (sz x + sz y)))) 21 (nI b1)) 20 (nI (cutN (fun i => nI (u4 i)) (sz a + sz b)))) 22 (nI b2)) co) (ws' := [((ma 23), .inl (k 2, 3998, .inl (fun i => nI (bl i)))), ((ma 24), .inl (k 0, 170, .inl (fun i => nI (u1 i)))), (h0, .inr (8, moL ma (va_up (va_up (va_up (va_up iv 19 (nI (cutN (fun i => nI (u1 i)) (sz x + sz y)))) 21 (nI b1)) 20 (nI (cutN (fun i => nI (u4 i)) (sz a + sz b)))) 22 (nI b2)) co)), ((ma 21), .inl (k 0, 319840, .inl (fun i => nI (dg i)))), ((ma 22), .inl (k 0, 3998, .inl (fun i => nI (sz i)))), ((ma 25), .inl (k 0, 170, .inl (fun i => nI (u4 i))))]) rfl rfl d_Mo_products_75 (fun H locs S => ?_)
      refine lv_aload_n hx hb d_Mo_products_78 rfl (lv_at hl 0 rfl) ?_
      have S : Sw G A s.heap _ _ [((ma 23), .inl (k 2, 3998, .inl (fun i => nI (bl i)))), ((ma 24), .inl (k 0, 170, .inl (fun i => nI (u1 i)))), (h0, .inr (8, moL ma (va_up (va_up (va_up (va_up iv 21 (nI b1)) 22 (nI b2)) 20 (nI (cutN (fun i => nI (u4 i)) (sz a + sz b)))) 19 (nI (cutN (fun i => nI (u1 i)) (sz x + sz y)))) co)), ((ma 21), .inl (k 0, 319840, .inl (fun i => nI (dg i)))), ((ma 22), .inl (k 0, 3998, .inl (fun i => nI (sz i)))), ((ma 25), .inl (k 0, 170, .inl (fun i => nI (u4 i))))] := S.sub [0, 1, 2, 3, 4, 5] (by decide) rfl
      have e1 : vl 65536 u1 (cutN (fun i => nI (u1 i)) (sz x + sz y)) = vl 65536 (fun i => dg (x * 80 + i)) (sz x) * vl 65536 (fun i => dg (y * 80 + i)) (sz y) := hk0.1.symm.trans hv0
      have e2 : vl 65536 u4 (cutN (fun i => nI (u4 i)) (sz a + sz b)) = vl 65536 (fun i => dg (a * 80 + i)) (sz a) * vl 65536 (fun i => dg (b * 80 + i)) (sz b) := hk1.1.symm.trans hv1
      have m1 : sv b1 (vl 65536 u1 (cutN (fun i => nI (u1 i)) (sz x + sz y))) = sv (bl x) (vl 65536 (fun i => dg (x * 80 + i)) (sz x)) * sv (bl y) (vl 65536 (fun i => dg (y * 80 + i)) (sz y)) := by rw [e1, eb1]; exact sv_mul bx by9
      have m2 : sv b2 (vl 65536 u4 (cutN (fun i => nI (u4 i)) (sz a + sz b))) = sv (bl a) (vl 65536 (fun i => dg (a * 80 + i)) (sz a)) * sv (bl b) (vl 65536 (fun i => dg (b * 80 + i)) (sz b)) := by rw [e2, eb2]; exact sv_mul ba bb
      rcases (show b1 = b2 ∨ (b1 ≠ b2 ∧ vl 65536 u4 (cutN (fun i => nI (u4 i)) (sz a + sz b)) ≤ vl 65536 u1 (cutN (fun i => nI (u1 i)) (sz x + sz y))) ∨ (b1 ≠ b2 ∧ vl 65536 u1 (cutN (fun i => nI (u1 i)) (sz x + sz y)) < vl 65536 u4 (cutN (fun i => nI (u4 i)) (sz a + sz b))) by omega) with j1 | ⟨j1, j2⟩ | ⟨j1, j2⟩
      · refine r_backv (wi := [(h0, .inr (8, moL ma (va_up (va_up (va_up (va_up iv 21 (nI b1)) 22 (nI b2)) 20 (nI (cutN (fun i => nI (u4 i)) (sz a + sz b)))) 19 (nI (cutN (fun i => nI (u1 i)) (sz x + sz y)))) co)), ((ma 24), .inl (k 0, 170, .inl (fun i => nI (u1 i)))), ((ma 25), .inl (k 0, 170, .inl (fun i => nI (u4 i))))]) (wr := [((ma 23), .inl (k 2, 3998, .inl (fun i => nI (bl i)))), ((ma 21), .inl (k 0, 319840, .inl (fun i => nI (dg i)))), ((ma 22), .inl (k 0, 3998, .inl (fun i => nI (sz i))))]) S hA [2, 1, 5] [0, 3, 4] rfl rfl (by decide) (by decide) (va_runV (As := []) (rest := []) ⟨hx, hb, C.2.2.1, C.2.2.2.1, C.2.2.2.2.1⟩ (g_Mo_join_same l G k h0 _ (cutN (fun i => nI (u1 i)) (sz x + sz y)) (cutN (fun i => nI (u4 i)) (sz a + sz b)) b1 b2 ma iv co u1 u4 (by omega) (by omega) hb1 hb2 hd0 hd1 hk0.2.2 hk1.2.2 j1) (k_virt (n := 0) C wc_Mo_join rfl rfl wz_Mo wm_Mo_298 wn_Mo_join ws_Mo_join (by decide +kernel) ⟨(Nat.le_of_ble_eq_true rfl), (Nat.le_of_ble_eq_true rfl)⟩) (pr_nowV K S [2, 1, 5] (by decide) rfl 2 rfl rfl) rfl rfl hl.1 rfl (lv_room (Nat.le_of_ble_eq_true rfl)) d_Mo_products_79 ⟨(Nat.le_of_ble_eq_true rfl), (Nat.le_of_ble_eq_true rfl)⟩) (fun u7 H locs hw8 S => ?_)
        have S : Sw G A s.heap _ _ [((ma 23), .inl (k 2, 3998, .inl (fun i => nI (bl i)))), ((ma 21), .inl (k 0, 319840, .inl (fun i => nI (dg i)))), ((ma 22), .inl (k 0, 3998, .inl (fun i => nI (sz i)))), (h0, .inr (8, moL ma (va_up (va_up (va_up (va_up iv 21 (nI b1)) 22 (nI b2)) 20 (nI (cutN (fun i => nI (u4 i)) (sz a + sz b)))) 19 (nI u7.2)) co)), ((ma 24), .inl (k 0, 170, .inl (fun i => nI (u7.1 i)))), ((ma 25), .inl (k 0, 170, .inl (fun i => nI (u4 i))))] := S
        exact r_vret C K (u7.1, u4, u7.2, b1, (cutN (fun i => nI (u4 i)) (sz a + sz b)), b2) ⟨by show sv b1 (vl 65536 u7.1 u7.2) = _; rw [← m1, ← m2]; exact (by rw [← j1]; exact sv_same hw8.1), hw8.2.1, hw8.2.2.1, hw8.2.2.2, hd1, by show b1 ≤ 1; omega⟩ (S.sub [3, 1, 2, 0, 4, 5] (by decide) rfl) d_Mo_products_82 (Nat.le_of_ble_eq_true rfl) (Nat.le_of_ble_eq_true rfl)
      · refine r_backv (wi := [(h0, .inr (8, moL ma (va_up (va_up (va_up (va_up iv 21 (nI b1)) 22 (nI b2)) 20 (nI (cutN (fun i => nI (u4 i)) (sz a + sz b)))) 19 (nI (cutN (fun i => nI (u1 i)) (sz x + sz y)))) co)), ((ma 24), .inl (k 0, 170, .inl (fun i => nI (u1 i)))), ((ma 25), .inl (k 0, 170, .inl (fun i => nI (u4 i))))]) (wr := [((ma 23), .inl (k 2, 3998, .inl (fun i => nI (bl i)))), ((ma 21), .inl (k 0, 319840, .inl (fun i => nI (dg i)))), ((ma 22), .inl (k 0, 3998, .inl (fun i => nI (sz i))))]) S hA [2, 1, 5] [0, 3, 4] rfl rfl (by decide) (by decide) (va_runV (As := []) (rest := []) ⟨hx, hb, C.2.2.1, C.2.2.2.1, C.2.2.2.2.1⟩ (g_Mo_join_ge l G k h0 _ (cutN (fun i => nI (u1 i)) (sz x + sz y)) (cutN (fun i => nI (u4 i)) (sz a + sz b)) b1 b2 ma iv co u1 u4 (by omega) (by omega) hb1 hb2 hd0 hd1 hk0.2.2 hk1.2.2 j1 j2) (k_virt (n := 0) C wc_Mo_join rfl rfl wz_Mo wm_Mo_298 wn_Mo_join ws_Mo_join (by decide +kernel) ⟨(Nat.le_of_ble_eq_true rfl), (Nat.le_of_ble_eq_true rfl)⟩) (pr_nowV K S [2, 1, 5] (by decide) rfl 2 rfl rfl) rfl rfl hl.1 rfl (lv_room (Nat.le_of_ble_eq_true rfl)) d_Mo_products_79 ⟨(Nat.le_of_ble_eq_true rfl), (Nat.le_of_ble_eq_true rfl)⟩) (fun u7 H locs hw8 S => ?_)
        have S : Sw G A s.heap _ _ [((ma 23), .inl (k 2, 3998, .inl (fun i => nI (bl i)))), ((ma 21), .inl (k 0, 319840, .inl (fun i => nI (dg i)))), ((ma 22), .inl (k 0, 3998, .inl (fun i => nI (sz i)))), (h0, .inr (8, moL ma (va_up (va_up (va_up (va_up iv 21 (nI b1)) 22 (nI b2)) 20 (nI (cutN (fun i => nI (u4 i)) (sz a + sz b)))) 19 (nI u7.2)) co)), ((ma 24), .inl (k 0, 170, .inl (fun i => nI (u7.1 i)))), ((ma 25), .inl (k 0, 170, .inl (fun i => nI (u4 i))))] := S
        exact r_vret C K (u7.1, u4, u7.2, b1, (cutN (fun i => nI (u4 i)) (sz a + sz b)), b2) ⟨by show sv b1 (vl 65536 u7.1 u7.2) = _; rw [← m1, ← m2]; exact sv_ge hb1 hb2 j1 hw8.1, hw8.2.1, hw8.2.2.1, hw8.2.2.2, hd1, by show b1 ≤ 1; omega⟩ (S.sub [3, 1, 2, 0, 4, 5] (by decide) rfl) d_Mo_products_82 (Nat.le_of_ble_eq_true rfl) (Nat.le_of_ble_eq_true rfl)
      · refine r_backv (wi := [(h0, .inr (8, moL ma (va_up (va_up (va_up (va_up iv 21 (nI b1)) 22 (nI b2)) 20 (nI (cutN (fun i => nI (u4 i)) (sz a + sz b)))) 19 (nI (cutN (fun i => nI (u1 i)) (sz x + sz y)))) co)), ((ma 24), .inl (k 0, 170, .inl (fun i => nI (u1 i)))), ((ma 25), .inl (k 0, 170, .inl (fun i => nI (u4 i))))]) (wr := [((ma 23), .inl (k 2, 3998, .inl (fun i => nI (bl i)))), ((ma 21), .inl (k 0, 319840, .inl (fun i => nI (dg i)))), ((ma 22), .inl (k 0, 3998, .inl (fun i => nI (sz i))))]) S hA [2, 1, 5] [0, 3, 4] rfl rfl (by decide) (by decide) (va_runV (As := []) (rest := []) ⟨hx, hb, C.2.2.1, C.2.2.2.1, C.2.2.2.2.1⟩ (g_Mo_join_lt l G k h0 _ (cutN (fun i => nI (u1 i)) (sz x + sz y)) (cutN (fun i => nI (u4 i)) (sz a + sz b)) b1 b2 ma iv co u1 u4 (by omega) (by omega) hb1 hb2 hd0 hd1 hk0.2.2 hk1.2.2 j1 j2) (k_virt (n := 0) C wc_Mo_join rfl rfl wz_Mo wm_Mo_298 wn_Mo_join ws_Mo_join (by decide +kernel) ⟨(Nat.le_of_ble_eq_true rfl), (Nat.le_of_ble_eq_true rfl)⟩) (pr_nowV K S [2, 1, 5] (by decide) rfl 2 rfl rfl) rfl rfl hl.1 rfl (lv_room (Nat.le_of_ble_eq_true rfl)) d_Mo_products_79 ⟨(Nat.le_of_ble_eq_true rfl), (Nat.le_of_ble_eq_true rfl)⟩) (fun u7 H locs hw8 S => ?_)
        have S : Sw G A s.heap _ _ [((ma 23), .inl (k 2, 3998, .inl (fun i => nI (bl i)))), ((ma 21), .inl (k 0, 319840, .inl (fun i => nI (dg i)))), ((ma 22), .inl (k 0, 3998, .inl (fun i => nI (sz i)))), (h0, .inr (8, moL ma (va_up (va_up (va_up (va_up iv 21 (nI b2)) 22 (nI b2)) 20 (nI (cutN (fun i => nI (u4 i)) (sz a + sz b)))) 19 (nI u7.2)) co)), ((ma 24), .inl (k 0, 170, .inl (fun i => nI (u7.1 i)))), ((ma 25), .inl (k 0, 170, .inl (fun i => nI (u4 i))))] := S
        exact r_vret C K (u7.1, u4, u7.2, b2, (cutN (fun i => nI (u4 i)) (sz a + sz b)), b2) ⟨by show sv b2 (vl 65536 u7.1 u7.2) = _; rw [← m1, ← m2]; exact sv_lt hb1 hb2 j1 hw8.1, hw8.2.1, hw8.2.2.1, hw8.2.2.2, hd1, by show b2 ≤ 1; omega⟩ (S.sub [3, 1, 2, 0, 4, 5] (by decide) rfl) d_Mo_products_82 (Nat.le_of_ble_eq_true rfl) (Nat.le_of_ble_eq_true rfl)
    refine lv_icmp_eq (tgt := 74) hx hb d_Mo_products_67 (by decide) (fun hg => ?_) (fun hg => ?_)
    · refine lv_iconst (v := 0) hx hb d_Mo_products_74 (by decide) ?_
      exact cont2 0 (by omega) (if_pos ((nI_eq (by omega) (by omega)).mp hg)).symm
    · refine lv_iconst (v := 1) hx hb d_Mo_products_70 (by decide) ?_
      refine lv_goto (tgt := 75) hx hb d_Mo_products_71 (by decide) ?_
      exact cont2 1 (by omega) (if_neg (fun e9 => hg (by rw [e9]))).symm
  refine lv_icmp_eq (tgt := 34) hx hb d_Mo_products_27 (by decide) (fun hg => ?_) (fun hg => ?_)
  · refine lv_iconst (v := 0) hx hb d_Mo_products_34 (by decide) ?_
    exact cont1 0 (by omega) (if_pos ((nI_eq (by omega) (by omega)).mp hg)).symm
  · refine lv_iconst (v := 1) hx hb d_Mo_products_30 (by decide) ?_
    refine lv_goto (tgt := 35) hx hb d_Mo_products_31 (by decide) ?_
    exact cont1 1 (by omega) (if_neg (fun e9 => hg (by rw [e9]))).symm
end
section
section ROWS4
variable {p : Program} {l : Launch} {e : Env} {R : Room} {s : State} {m : MethodId} {args : Array Value} {below : List Frame} {meth : Method} {c : Code} {H : Heap} {locs : List Loc} {cells slots : Nat} {Q : State → Prop}
variable {cc : ByteArray} {own nm : String} {nL : Nat} {ret : Option FieldType} {G : va_G} {k : Nat → ClassId} {A : Nat → Prop} {ws : va_W} {pc : Nat} {ls : Array Slot} {rest : List Value} {a : Nat}
theorem r_zast (C : Cx p s m args meth c cc own nL ret nm) (K : Kn G k s) (S : Sw G A s.heap H locs ws) (q0 : Nat) {n : Nat} {f : Nat → Int32} (ha : ws[q0]? = some (a, .inl (k 2, n, .inl f))) {i x : Int32} (hin : vp_in i n) {f' : Nat → Int32} {ws' : va_W} (h1 : upd f i.toNatClampNeg (vp_nar .boolean x) = f') (h2 : ws.set q0 (a, .inl (k 2, n, .inl f')) = ws') (hdg : decode cc pc = .ok (.bastore, 1))
    (kk : ∀ (H1 : Heap) (locs1 : List Loc), Sw G A s.heap H1 locs1 ws' → W p l e R s m args below meth c H1 locs1 cells slots Q (F0 m (pc + 1) ls rest)) : W p l e R s m args below meth c H locs cells slots Q (F0 m pc ls (.int x :: .int i :: .ref a :: rest)) := by
  subst h1; subst h2
  exact va_zast C.1 C.2.1 K.1 S.1 S.2.1 S.2.2 q0 2 ha rfl hin hdg (fun H1 l1 a1 a2 a3 => kk H1 l1 ⟨a1, a2, a3⟩)
end ROWS4
theorem upd_Z (g : Nat → Nat) {j v : Nat} (hj : j < 2 ^ 31) (hv : v ≤ 1) : upd (fun i => nI (g i)) (nI j).toNatClampNeg (vp_nar .boolean (nI v)) = fun i => nI (va_up g j v i) := by
  have e : vp_nar .boolean (nI v) = nI v := by
    rcases (show v = 0 ∨ v = 1 by omega) with rfl | rfl <;> rfl
  rw [e]
  exact upd_nI g hj v
/-- the sign of a number; the number turned -/
def sgN (n b : Nat) : Int32 := if n = 0 then 0 else if b = 0 then 1 else -1
def tnB (n b : Nat) : Nat := if n = 0 then 0 else if b = 0 then 1 else 0
theorem d_Mo_signOf_0 : decode c_Mo_signOf 0 = .ok (.aload_n 0, 1) := by decide +kernel
theorem d_Mo_signOf_1 : decode c_Mo_signOf 1 = .ok (.getfield 86, 3) := by decide +kernel
theorem d_Mo_signOf_4 : decode c_Mo_signOf 4 = .ok (.iload_n 1, 1) := by decide +kernel
theorem d_Mo_signOf_5 : decode c_Mo_signOf 5 = .ok (.iaload, 1) := by decide +kernel
theorem d_Mo_signOf_6 : decode c_Mo_signOf 6 = .ok (.ifCond .ne 7, 3) := by decide +kernel
theorem d_Mo_signOf_9 : decode c_Mo_signOf 9 = .ok (.iconst 0, 1) := by decide +kernel
theorem d_Mo_signOf_10 : decode c_Mo_signOf 10 = .ok (.goto 17, 3) := by decide +kernel
theorem d_Mo_signOf_13 : decode c_Mo_signOf 13 = .ok (.aload_n 0, 1) := by decide +kernel
theorem d_Mo_signOf_14 : decode c_Mo_signOf 14 = .ok (.getfield 89, 3) := by decide +kernel
theorem d_Mo_signOf_17 : decode c_Mo_signOf 17 = .ok (.iload_n 1, 1) := by decide +kernel
theorem d_Mo_signOf_18 : decode c_Mo_signOf 18 = .ok (.baload, 1) := by decide +kernel
theorem d_Mo_signOf_19 : decode c_Mo_signOf 19 = .ok (.ifCond .eq 7, 3) := by decide +kernel
theorem d_Mo_signOf_22 : decode c_Mo_signOf 22 = .ok (.iconst (-1), 1) := by decide +kernel
theorem d_Mo_signOf_23 : decode c_Mo_signOf 23 = .ok (.goto 4, 3) := by decide +kernel
theorem d_Mo_signOf_26 : decode c_Mo_signOf 26 = .ok (.iconst 1, 1) := by decide +kernel
theorem d_Mo_signOf_27 : decode c_Mo_signOf 27 = .ok (.ireturn, 1) := by decide +kernel
set_option maxRecDepth 100000 in
set_option maxHeartbeats 4000000 in
/-- signOf(c) -/
theorem g_Mo_signOf (l : Launch) (G : va_G) (k : Nat → ClassId) (h0 s0 : Nat) (ma : Nat → Nat) (iv : Nat → Int32) (co : Int64) (sz bl : Nat → Nat) (c9 : Nat) (kc : c9 < 3998) (sc : sz c9 ≤ 80) (bc : bl c9 ≤ 1) : CI l y_Mo_signOf c_Mo_signOf 2 .int { frames := 1, cells := 0, slots := 0, locals := 20 } [.ref h0, .int (nI c9)] G k s0 [(h0, .inr (8, moL ma iv co)), ((ma 22), .inl (k 0, 3998, .inl (fun i => nI (sz i)))), ((ma 23), .inl (k 2, 3998, .inl (fun i => nI (bl i))))] (fun (r : Int32) (u : Unit) => r = sgN (sz c9) (bl c9)) (fun u => [(h0, .inr (8, moL ma iv co)), ((ma 22), .inl (k 0, 3998, .inl (fun i => nI (sz i)))), ((ma 23), .inl (k 2, 3998, .inl (fun i => nI (bl i))))]) 0 0 := by
  refine met_start (by decide) (Nat.le_of_ble_eq_true rfl) ?_
  intro p e s m below meth c C K hA hsz S ls hl
  generalize va_A [(h0, .inr (8, moL ma iv co)), ((ma 22), .inl (k 0, 3998, .inl (fun i => nI (sz i)))), ((ma 23), .inl (k 2, 3998, .inl (fun i => nI (bl i))))] s0 = A at hA S ⊢
  have hx := C.1
  have hb := C.2.1
  have hl : lv_has ls 2 [(0, .ref h0), (1, .int (nI c9))] := hl
  refine lv_aload_n hx hb d_Mo_signOf_0 rfl (lv_at hl 0 rfl) ?_
  refine r_get C K S 0 rfl rfl clOk_Mo 42 (by decide) wf_Mo_86 (v := .ref (ma 22)) rfl d_Mo_signOf_1 ?_
  refine lv_iload_n hx hb d_Mo_signOf_4 rfl (lv_at hl 1 rfl) ?_
  refine r_iald C K S 1 rfl (i := (nI c9)) (vp_in_nI (by omega) (by decide)) (v := (nI (sz c9))) (by rw [nI_clamp (by omega)]) d_Mo_signOf_5 ?_
  refine lv_if_ne (tgt := 13) hx hb d_Mo_signOf_6 (by decide) (fun hc1 => ?_) (fun hc1 => ?_)
  · refine lv_aload_n hx hb d_Mo_signOf_13 rfl (lv_at hl 0 rfl) ?_
    refine r_get C K S 0 rfl rfl clOk_Mo 43 (by decide) wf_Mo_89 (v := .ref (ma 23)) rfl d_Mo_signOf_14 ?_
    refine lv_iload_n hx hb d_Mo_signOf_17 rfl (lv_at hl 1 rfl) ?_
    refine r_zald C K S 2 rfl (i := (nI c9)) (vp_in_nI (by omega) (by decide)) (v := (nI (bl c9))) (by rw [nI_clamp (by omega)]) d_Mo_signOf_18 ?_
    refine lv_if_eq (tgt := 26) hx hb d_Mo_signOf_19 (by decide) (fun hc2 => ?_) (fun hc2 => ?_)
    · refine lv_iconst (v := 1) hx hb d_Mo_signOf_26 (by decide) ?_
      exact r_iret C K rfl () (by have f0 : ¬ sz c9 = 0 := (fun e9 => hc1 (by rw [e9]; rfl)); have f1 : bl c9 = 0 := ((nI_eq (a := bl c9) (b := 0) (by omega) (by omega)).mp hc2); simp [sgN, f0, f1]) (S.sub [0, 1, 2] (by decide) rfl) d_Mo_signOf_27 (Nat.le_of_ble_eq_true rfl) (Nat.le_of_ble_eq_true rfl)
    · refine lv_iconst (v := (-1)) hx hb d_Mo_signOf_22 (by decide) ?_
      refine lv_goto (tgt := 27) hx hb d_Mo_signOf_23 (by decide) ?_
      exact r_iret C K rfl () (by have f0 : ¬ sz c9 = 0 := (fun e9 => hc1 (by rw [e9]; rfl)); have f1 : ¬ bl c9 = 0 := (fun e9 => hc2 (by rw [e9]; rfl)); simp [sgN, f0, f1]) (S.sub [0, 1, 2] (by decide) rfl) d_Mo_signOf_27 (Nat.le_of_ble_eq_true rfl) (Nat.le_of_ble_eq_true rfl)
  · refine lv_iconst (v := 0) hx hb d_Mo_signOf_9 (by decide) ?_
    refine lv_goto (tgt := 27) hx hb d_Mo_signOf_10 (by decide) ?_
    exact r_iret C K rfl () (by have f0 : sz c9 = 0 := ((nI_eq (a := sz c9) (b := 0) (by omega) (by omega)).mp hc1); simp [sgN, f0]) (S.sub [0, 1, 2] (by decide) rfl) d_Mo_signOf_27 (Nat.le_of_ble_eq_true rfl) (Nat.le_of_ble_eq_true rfl)
theorem d_Mo_turn_0 : decode c_Mo_turn 0 = .ok (.aload_n 0, 1) := by decide +kernel
theorem d_Mo_turn_1 : decode c_Mo_turn 1 = .ok (.getfield 89, 3) := by decide +kernel
theorem d_Mo_turn_4 : decode c_Mo_turn 4 = .ok (.iload_n 1, 1) := by decide +kernel
theorem d_Mo_turn_5 : decode c_Mo_turn 5 = .ok (.aload_n 0, 1) := by decide +kernel
theorem d_Mo_turn_6 : decode c_Mo_turn 6 = .ok (.getfield 86, 3) := by decide +kernel
theorem d_Mo_turn_9 : decode c_Mo_turn 9 = .ok (.iload_n 1, 1) := by decide +kernel
theorem d_Mo_turn_10 : decode c_Mo_turn 10 = .ok (.iaload, 1) := by decide +kernel
theorem d_Mo_turn_11 : decode c_Mo_turn 11 = .ok (.ifCond .le 16, 3) := by decide +kernel
theorem d_Mo_turn_14 : decode c_Mo_turn 14 = .ok (.aload_n 0, 1) := by decide +kernel
theorem d_Mo_turn_15 : decode c_Mo_turn 15 = .ok (.getfield 89, 3) := by decide +kernel
theorem d_Mo_turn_18 : decode c_Mo_turn 18 = .ok (.iload_n 1, 1) := by decide +kernel
theorem d_Mo_turn_19 : decode c_Mo_turn 19 = .ok (.baload, 1) := by decide +kernel
theorem d_Mo_turn_20 : decode c_Mo_turn 20 = .ok (.ifCond .ne 7, 3) := by decide +kernel
theorem d_Mo_turn_23 : decode c_Mo_turn 23 = .ok (.iconst 1, 1) := by decide +kernel
theorem d_Mo_turn_24 : decode c_Mo_turn 24 = .ok (.goto 4, 3) := by decide +kernel
theorem d_Mo_turn_27 : decode c_Mo_turn 27 = .ok (.iconst 0, 1) := by decide +kernel
theorem d_Mo_turn_28 : decode c_Mo_turn 28 = .ok (.bastore, 1) := by decide +kernel
theorem d_Mo_turn_29 : decode c_Mo_turn 29 = .ok (.return_, 1) := by decide +kernel
set_option maxRecDepth 100000 in
set_option maxHeartbeats 4000000 in
/-- turn(c) -/
theorem g_Mo_turn (l : Launch) (G : va_G) (k : Nat → ClassId) (h0 s0 : Nat) (ma : Nat → Nat) (iv : Nat → Int32) (co : Int64) (sz bl : Nat → Nat) (c9 : Nat) (kc : c9 < 3998) (sc : sz c9 ≤ 80) (bc : bl c9 ≤ 1) : CV l y_Mo_turn c_Mo_turn 2 { frames := 1, cells := 0, slots := 0, locals := 20 } [.ref h0, .int (nI c9)] G k s0 [(h0, .inr (8, moL ma iv co)), ((ma 22), .inl (k 0, 3998, .inl (fun i => nI (sz i)))), ((ma 23), .inl (k 2, 3998, .inl (fun i => nI (bl i))))] (fun (u : Nat → Nat) => u = va_up bl c9 (tnB (sz c9) (bl c9))) (fun u => [(h0, .inr (8, moL ma iv co)), ((ma 22), .inl (k 0, 3998, .inl (fun i => nI (sz i)))), ((ma 23), .inl (k 2, 3998, .inl (fun i => nI (u i))))]) 0 0 := by
  refine met_start (by decide) (Nat.le_of_ble_eq_true rfl) ?_
  intro p e s m below meth c C K hA hsz S ls hl
  generalize va_A [(h0, .inr (8, moL ma iv co)), ((ma 22), .inl (k 0, 3998, .inl (fun i => nI (sz i)))), ((ma 23), .inl (k 2, 3998, .inl (fun i => nI (bl i))))] s0 = A at hA S ⊢
  have hx := C.1
  have hb := C.2.1
  have hl : lv_has ls 2 [(0, .ref h0), (1, .int (nI c9))] := hl
  refine lv_aload_n hx hb d_Mo_turn_0 rfl (lv_at hl 0 rfl) ?_
  refine r_get C K S 0 rfl rfl clOk_Mo 43 (by decide) wf_Mo_89 (v := .ref (ma 23)) rfl d_Mo_turn_1 ?_
  refine lv_iload_n hx hb d_Mo_turn_4 rfl (lv_at hl 1 rfl) ?_
  refine lv_aload_n hx hb d_Mo_turn_5 rfl (lv_at hl 0 rfl) ?_
  refine r_get C K S 0 rfl rfl clOk_Mo 42 (by decide) wf_Mo_86 (v := .ref (ma 22)) rfl d_Mo_turn_6 ?_
  refine lv_iload_n hx hb d_Mo_turn_9 rfl (lv_at hl 1 rfl) ?_
  refine r_iald C K S 1 rfl (i := (nI c9)) (vp_in_nI (by omega) (by decide)) (v := (nI (sz c9))) (by rw [nI_clamp (by omega)]) d_Mo_turn_10 ?_
  refine lv_if_le (tgt := 27) hx hb d_Mo_turn_11 (by decide) (fun hc1 => ?_) (fun hc1 => ?_)
  · refine lv_iconst (v := 0) hx hb d_Mo_turn_27 (by decide) ?_
    refine r_zast C K S 2 rfl (i := (nI c9)) (x := 0) (vp_in_nI (by omega) (by decide)) (f' := fun i => nI (va_up bl c9 0 i)) (ws' := [(h0, .inr (8, moL ma iv co)), ((ma 22), .inl (k 0, 3998, .inl (fun i => nI (sz i)))), ((ma 23), .inl (k 2, 3998, .inl (fun i => nI (va_up bl c9 0 i))))]) (upd_Z bl (v := 0) (by omega) (by omega)) rfl d_Mo_turn_28 (fun H locs S => ?_)
    exact r_vret C K (va_up bl c9 0) (by have f0 : sz c9 = 0 := (Nat.le_zero.mp ((nI_leI (a := sz c9) (b := 0) (by omega) (by omega)).mp hc1)); simp [tnB, f0]) (S.sub [0, 1, 2] (by decide) rfl) d_Mo_turn_29 (Nat.le_of_ble_eq_true rfl) (Nat.le_of_ble_eq_true rfl)
  · refine lv_aload_n hx hb d_Mo_turn_14 rfl (lv_at hl 0 rfl) ?_
    refine r_get C K S 0 rfl rfl clOk_Mo 43 (by decide) wf_Mo_89 (v := .ref (ma 23)) rfl d_Mo_turn_15 ?_
    refine lv_iload_n hx hb d_Mo_turn_18 rfl (lv_at hl 1 rfl) ?_
    refine r_zald C K S 2 rfl (i := (nI c9)) (vp_in_nI (by omega) (by decide)) (v := (nI (bl c9))) (by rw [nI_clamp (by omega)]) d_Mo_turn_19 ?_
    refine lv_if_ne (tgt := 27) hx hb d_Mo_turn_20 (by decide) (fun hc2 => ?_) (fun hc2 => ?_)
    · refine lv_iconst (v := 0) hx hb d_Mo_turn_27 (by decide) ?_
      refine r_zast C K S 2 rfl (i := (nI c9)) (x := 0) (vp_in_nI (by omega) (by decide)) (f' := fun i => nI (va_up bl c9 0 i)) (ws' := [(h0, .inr (8, moL ma iv co)), ((ma 22), .inl (k 0, 3998, .inl (fun i => nI (sz i)))), ((ma 23), .inl (k 2, 3998, .inl (fun i => nI (va_up bl c9 0 i))))]) (upd_Z bl (v := 0) (by omega) (by omega)) rfl d_Mo_turn_28 (fun H locs S => ?_)
      exact r_vret C K (va_up bl c9 0) (by have f0 : ¬ sz c9 = 0 := (fun e9 => hc1 (by rw [e9]; decide)); have f1 : ¬ bl c9 = 0 := (fun e9 => hc2 (by rw [e9]; rfl)); simp [tnB, f0, f1]) (S.sub [0, 1, 2] (by decide) rfl) d_Mo_turn_29 (Nat.le_of_ble_eq_true rfl) (Nat.le_of_ble_eq_true rfl)
    · refine lv_iconst (v := 1) hx hb d_Mo_turn_23 (by decide) ?_
      refine lv_goto (tgt := 28) hx hb d_Mo_turn_24 (by decide) ?_
      refine r_zast C K S 2 rfl (i := (nI c9)) (x := 1) (vp_in_nI (by omega) (by decide)) (f' := fun i => nI (va_up bl c9 1 i)) (ws' := [(h0, .inr (8, moL ma iv co)), ((ma 22), .inl (k 0, 3998, .inl (fun i => nI (sz i)))), ((ma 23), .inl (k 2, 3998, .inl (fun i => nI (va_up bl c9 1 i))))]) (upd_Z bl (v := 1) (by omega) (by omega)) rfl d_Mo_turn_28 (fun H locs S => ?_)
      exact r_vret C K (va_up bl c9 1) (by have f0 : ¬ sz c9 = 0 := (fun e9 => hc1 (by rw [e9]; decide)); have f1 : bl c9 = 0 := ((nI_eq (a := bl c9) (b := 0) (by omega) (by omega)).mp hc2); simp [tnB, f0, f1]) (S.sub [0, 1, 2] (by decide) rfl) d_Mo_turn_29 (Nat.le_of_ble_eq_true rfl) (Nat.le_of_ble_eq_true rfl)
end
section
/-! a digit of a quotient, guessed from the highest digits (both solvers divide so): V = (v1 * B + v2) * P + w over R = (h * B + u) * P + z -/
theorem kn_lower0 {B v1 v2 P w h u z : Nat} (hv : 0 < v1) (hP : 0 < P) (hB : 0 < B) (hu : u < B) (hz : z < P) : ((h * B + u) * P + z) / ((v1 * B + v2) * P + w) ≤ h / v1 := by
  generalize hQ : ((h * B + u) * P + z) / ((v1 * B + v2) * P + w) = Q
  have h1 : Q * ((v1 * B + v2) * P + w) ≤ (h * B + u) * P + z := by rw [← hQ]; exact Nat.div_mul_le_self _ _
  have h2 : Q * (v1 * (B * P)) ≤ Q * ((v1 * B + v2) * P + w) := by
    refine Nat.mul_le_mul_left _ ?_
    rw [← Nat.mul_assoc, Nat.add_mul]
    omega
  have h3 : (h * B + u) * P + z < (h + 1) * (B * P) := by
    have a1 : (u + 1) * P ≤ B * P := Nat.mul_le_mul_right _ hu
    rw [Nat.add_mul, Nat.one_mul] at a1
    rw [Nat.add_mul, Nat.add_mul, Nat.one_mul, Nat.mul_assoc]
    omega
  have h4 : Q * v1 * (B * P) < (h + 1) * (B * P) := by rw [Nat.mul_assoc]; omega
  have h5 : Q * v1 < h + 1 := Nat.lt_of_mul_lt_mul_right h4
  exact (Nat.le_div_iff_mul_le hv).mpr (by omega)
/-- too much at the highest three against two digits: one too many at least -/
theorem kn_down {B v1 v2 P w h u z q : Nat} (hP : 0 < P) (hz : z < P) (hq : h * B + u < q * (v1 * B + v2)) : ((h * B + u) * P + z) / ((v1 * B + v2) * P + w) < q := by
  by_cases c : ((h * B + u) * P + z) / ((v1 * B + v2) * P + w) < q
  · exact c
  · have h1 : q * ((v1 * B + v2) * P + w) ≤ (h * B + u) * P + z := Nat.le_trans (Nat.mul_le_mul_right _ (Nat.le_of_not_lt c)) (Nat.div_mul_le_self _ _)
    have h2 : q * ((v1 * B + v2) * P) ≤ q * ((v1 * B + v2) * P + w) := Nat.mul_le_mul_left _ (by omega)
    have h3 : (h * B + u + 1) * P ≤ q * (v1 * B + v2) * P := Nat.mul_le_mul_right _ hq
    rw [Nat.add_mul, Nat.one_mul] at h3
    rw [← Nat.mul_assoc] at h2
    omega
/-- not too much there: one too many at most -/
theorem kn_upper {B v1 v2 P w h u z q : Nat} (hv : 0 < v1) (hw : w < P) (hqB : q ≤ B) (hq : q * (v1 * B + v2) ≤ h * B + u) : q * ((v1 * B + v2) * P + w) ≤ (h * B + u) * P + z + ((v1 * B + v2) * P + w) := by
  have h1 : q * (v1 * B + v2) * P ≤ (h * B + u) * P := Nat.mul_le_mul_right _ hq
  have h2 : q * w ≤ B * P := Nat.mul_le_mul hqB (by omega)
  have h3 : B * P ≤ (v1 * B + v2) * P := by
    refine Nat.mul_le_mul_right _ ?_
    have : 1 * B ≤ v1 * B := Nat.mul_le_mul_right _ hv
    omega
  rw [Nat.mul_add, ← Nat.mul_assoc]
  omega
theorem kn_one {R V q : Nat} (hV : 0 < V) (h1 : R / V ≤ q) (h2 : q * V ≤ R + V) : q = R / V ∨ q = R / V + 1 := by
  have h3 : R < (R / V + 1) * V := by
    have := Nat.lt_div_mul_add (a := R) hV
    rw [Nat.add_mul, Nat.one_mul]
    omega
  by_cases c : q ≤ R / V + 1
  · omega
  · have h4 : (R / V + 2) * V ≤ q * V := Nat.mul_le_mul_right _ (by omega)
    rw [show R / V + 2 = R / V + 1 + 1 from rfl, Nat.add_mul (R / V + 1), Nat.one_mul] at h4
    omega
end
section
theorem s_l9 : ∀ n, n < 32 → ((nI n &&& 31).toBitVec.smod 32).toNat = n := by decide +kernel
theorem nx_or (a b : Nat) : nI a ||| nI b = nI (a ||| b) := by
  apply Int32.toBitVec_inj.mp
  rw [Int32.toBitVec_or]
  show BitVec.ofNat 32 a ||| BitVec.ofNat 32 b = BitVec.ofNat 32 (a ||| b)
  exact (BitVec.ofNat_or ..).symm
/-- a digit shifted, and what was carried -/
theorem sh_or {d c j : Nat} (hd : d < 65536) (hj : j < 16) (hc : c < 2 ^ j) : (nI d <<< (nI j &&& 31)) ||| nI c = nI (d * 2 ^ j + c) := by
  have h1 : 2 ^ j ≤ 2 ^ 15 := Nat.pow_le_pow_right (by decide) (by omega)
  have h2 : d * 2 ^ j ≤ 65535 * 2 ^ 15 := Nat.mul_le_mul (by omega) h1
  rw [pk_shlN _ j (s_l9 j (by omega)) (by omega), nx_or, ← Nat.shiftLeft_eq, ← Nat.shiftLeft_add_eq_or_of_lt hc]
theorem sh_lt {d c j : Nat} (hd : d < 65536) (hj : j < 16) (hc : c < 2 ^ j) : (d * 2 ^ j + c) / 65536 < 2 ^ j ∧ d * 2 ^ j + c < 2147483648 := by
  have h1 : 2 ^ j ≤ 2 ^ 15 := Nat.pow_le_pow_right (by decide) (by omega)
  have h2 : (d + 1) * 2 ^ j ≤ 65536 * 2 ^ j := Nat.mul_le_mul_right _ (by omega)
  rw [Nat.add_mul, Nat.one_mul] at h2
  exact ⟨(Nat.div_lt_iff_lt_mul (by decide)).mpr (by rw [Nat.mul_comm (2 ^ j) 65536]; omega), by omega⟩
theorem d_Mo_shiftInto_0 : decode c_Mo_shiftInto 0 = .ok (.iconst 0, 1) := by decide +kernel
theorem d_Mo_shiftInto_1 : decode c_Mo_shiftInto 1 = .ok (.istore 4, 2) := by decide +kernel
theorem d_Mo_shiftInto_3 : decode c_Mo_shiftInto 3 = .ok (.iconst 0, 1) := by decide +kernel
theorem d_Mo_shiftInto_4 : decode c_Mo_shiftInto 4 = .ok (.istore 5, 2) := by decide +kernel
theorem d_Mo_shiftInto_6 : decode c_Mo_shiftInto 6 = .ok (.iload 5, 2) := by decide +kernel
theorem d_Mo_shiftInto_8 : decode c_Mo_shiftInto 8 = .ok (.iload_n 2, 1) := by decide +kernel
theorem d_Mo_shiftInto_9 : decode c_Mo_shiftInto 9 = .ok (.if_icmp .ge 48, 3) := by decide +kernel
theorem d_Mo_shiftInto_12 : decode c_Mo_shiftInto 12 = .ok (.aload_n 0, 1) := by decide +kernel
theorem d_Mo_shiftInto_13 : decode c_Mo_shiftInto 13 = .ok (.getfield 83, 3) := by decide +kernel
theorem d_Mo_shiftInto_16 : decode c_Mo_shiftInto 16 = .ok (.iload_n 1, 1) := by decide +kernel
theorem d_Mo_shiftInto_17 : decode c_Mo_shiftInto 17 = .ok (.bipush 80, 2) := by decide +kernel
theorem d_Mo_shiftInto_19 : decode c_Mo_shiftInto 19 = .ok (.imul, 1) := by decide +kernel
theorem d_Mo_shiftInto_20 : decode c_Mo_shiftInto 20 = .ok (.iload 5, 2) := by decide +kernel
theorem d_Mo_shiftInto_22 : decode c_Mo_shiftInto 22 = .ok (.iadd, 1) := by decide +kernel
theorem d_Mo_shiftInto_23 : decode c_Mo_shiftInto 23 = .ok (.iaload, 1) := by decide +kernel
theorem d_Mo_shiftInto_24 : decode c_Mo_shiftInto 24 = .ok (.iload_n 3, 1) := by decide +kernel
theorem d_Mo_shiftInto_25 : decode c_Mo_shiftInto 25 = .ok (.ishl, 1) := by decide +kernel
theorem d_Mo_shiftInto_26 : decode c_Mo_shiftInto 26 = .ok (.iload 4, 2) := by decide +kernel
theorem d_Mo_shiftInto_28 : decode c_Mo_shiftInto 28 = .ok (.ior, 1) := by decide +kernel
theorem d_Mo_shiftInto_29 : decode c_Mo_shiftInto 29 = .ok (.istore 6, 2) := by decide +kernel
theorem d_Mo_shiftInto_31 : decode c_Mo_shiftInto 31 = .ok (.aload_n 0, 1) := by decide +kernel
theorem d_Mo_shiftInto_32 : decode c_Mo_shiftInto 32 = .ok (.getfield 102, 3) := by decide +kernel
theorem d_Mo_shiftInto_35 : decode c_Mo_shiftInto 35 = .ok (.iload 5, 2) := by decide +kernel
theorem d_Mo_shiftInto_37 : decode c_Mo_shiftInto 37 = .ok (.iload 6, 2) := by decide +kernel
theorem d_Mo_shiftInto_39 : decode c_Mo_shiftInto 39 = .ok (.ldc_w 312, 3) := by decide +kernel
theorem d_Mo_shiftInto_42 : decode c_Mo_shiftInto 42 = .ok (.iand, 1) := by decide +kernel
theorem d_Mo_shiftInto_43 : decode c_Mo_shiftInto 43 = .ok (.iastore, 1) := by decide +kernel
theorem d_Mo_shiftInto_44 : decode c_Mo_shiftInto 44 = .ok (.iload 6, 2) := by decide +kernel
theorem d_Mo_shiftInto_46 : decode c_Mo_shiftInto 46 = .ok (.bipush 16, 2) := by decide +kernel
theorem d_Mo_shiftInto_48 : decode c_Mo_shiftInto 48 = .ok (.iushr, 1) := by decide +kernel
theorem d_Mo_shiftInto_49 : decode c_Mo_shiftInto 49 = .ok (.istore 4, 2) := by decide +kernel
theorem d_Mo_shiftInto_51 : decode c_Mo_shiftInto 51 = .ok (.iinc 5 1, 3) := by decide +kernel
theorem d_Mo_shiftInto_54 : decode c_Mo_shiftInto 54 = .ok (.goto (-48), 3) := by decide +kernel
theorem d_Mo_shiftInto_57 : decode c_Mo_shiftInto 57 = .ok (.return_, 1) := by decide +kernel
set_option maxRecDepth 100000 in
set_option maxHeartbeats 8000000 in
/-- shiftInto(c0, n, j) -/
theorem g_Mo_shiftInto (l : Launch) (G : va_G) (k : Nat → ClassId) (h0 s0 c0 n j : Nat) (ma : Nat → Nat) (iv : Nat → Int32) (co : Int64) (dg T : Nat → Nat) (kc : c0 < 3998) (hn : n ≤ 80) (hj : j < 16) (hdg : ∀ i, i < 319840 → dg i < 65536) (dT : ∀ i, i < 170 → T i < 65536) : CV l y_Mo_shiftInto c_Mo_shiftInto 7 { frames := 0, cells := 0, slots := 0, locals := 0 } [.ref h0, .int (nI c0), .int (nI n), .int (nI j)] G k s0 [(h0, .inr (8, moL ma iv co)), ((ma 21), .inl (k 0, 319840, .inl (fun i => nI (dg i)))), ((ma 27), .inl (k 0, 170, .inl (fun i => nI (T i))))] (fun (U : Nat → Nat) => (∃ c9, vl 65536 U n + c9 * 65536 ^ n = vl 65536 (fun i => dg (c0 * 80 + i)) n * 2 ^ j ∧ c9 < 2 ^ j) ∧ (∀ i, i < 170 → U i < 65536) ∧ ∀ i, n ≤ i → U i = T i) (fun U => [(h0, .inr (8, moL ma iv co)), ((ma 21), .inl (k 0, 319840, .inl (fun i => nI (dg i)))), ((ma 27), .inl (k 0, 170, .inl (fun i => nI (U i))))]) 0 0 := by
  refine met_start (by decide) (Nat.le_of_ble_eq_true rfl) ?_
  intro p e s m below meth c C K hA hsz S ls hl
  generalize va_A [(h0, .inr (8, moL ma iv co)), ((ma 21), .inl (k 0, 319840, .inl (fun i => nI (dg i)))), ((ma 27), .inl (k 0, 170, .inl (fun i => nI (T i))))] s0 = A at hA S ⊢
  have hx := C.1
  have hb := C.2.1
  have hl : lv_has ls 7 [(0, .ref h0), (1, .int (nI c0)), (2, .int (nI n)), (3, .int (nI j))] := hl
  have loop : ∀ d t, t + d = n → ∀ (U : Nat → Nat) (c9 : Nat), (vl 65536 U t + c9 * 65536 ^ t = vl 65536 (fun i => dg (c0 * 80 + i)) t * 2 ^ j ∧ c9 < 2 ^ j ∧ (∀ i, i < 170 → U i < 65536) ∧ ∀ i, t ≤ i → U i = T i) → ∀ (H : Heap) (locs : List Loc), Sw G A s.heap H locs [(h0, .inr (8, moL ma iv co)), ((ma 21), .inl (k 0, 319840, .inl (fun i => nI (dg i)))), ((ma 27), .inl (k 0, 170, .inl (fun i => nI (U i))))] → ∀ ls : Array Slot, lv_has ls 7 [(5, .int (nI t)), (4, .int (nI c9)), (0, .ref h0), (1, .int (nI c0)), (2, .int (nI n)), (3, .int (nI j))] → W p l e { frames := 0, cells := 0, slots := 0, locals := 0 } s m [Value.ref h0, Value.int (nI c0), Value.int (nI n), Value.int (nI j)].toArray below meth c H locs 0 0 (MQ below (va_Qv (fun (U : Nat → Nat) => (∃ c9, vl 65536 U n + c9 * 65536 ^ n = vl 65536 (fun i => dg (c0 * 80 + i)) n * 2 ^ j ∧ c9 < 2 ^ j) ∧ (∀ i, i < 170 → U i < 65536) ∧ ∀ i, n ≤ i → U i = T i) (Po G k A (fun U => [(h0, .inr (8, moL ma iv co)), ((ma 21), .inl (k 0, 319840, .inl (fun i => nI (dg i)))), ((ma 27), .inl (k 0, 170, .inl (fun i => nI (U i))))])) A) [Value.ref h0, Value.int (nI c0), Value.int (nI n), Value.int (nI j)].toArray s 0 0 A) (F0 m 6 ls []) := by
    intro d
    induction d with
    | zero =>
      intro t ht U c9 hI H locs S ls hl
      obtain rfl : t = n := by omega
      refine lv_iload hx hb d_Mo_shiftInto_6 (lv_at hl 0 rfl) ?_
      refine lv_iload_n hx hb d_Mo_shiftInto_8 rfl (lv_at hl 4 rfl) ?_
      refine lv_icmp_ge (tgt := 57) hx hb d_Mo_shiftInto_9 (by decide) (fun _ => ?_) (fun hq => absurd (nI_le (Nat.le_refl _) (by omega)) hq)
      exact r_vret C K U ⟨⟨c9, hI.1, hI.2.1⟩, hI.2.2.1, hI.2.2.2⟩ (S.sub [0, 1, 2] (by decide) rfl) d_Mo_shiftInto_57 (Nat.le_of_ble_eq_true rfl) (Nat.le_of_ble_eq_true rfl)
    | succ d ih =>
      intro t ht U c9 hI H locs S ls hl
      have d1 := hdg (c0 * 80 + t) (by omega)
      have hs := sh_lt d1 hj hI.2.1
      refine lv_iload hx hb d_Mo_shiftInto_6 (lv_at hl 0 rfl) ?_
      refine lv_iload_n hx hb d_Mo_shiftInto_8 rfl (lv_at hl 4 rfl) ?_
      refine lv_icmp_ge (tgt := 57) hx hb d_Mo_shiftInto_9 (by decide) (fun hq => absurd hq (nI_ge (by omega) (by omega))) (fun _ => ?_)
      refine lv_aload_n hx hb d_Mo_shiftInto_12 rfl (lv_at hl 2 rfl) ?_
      refine r_get C K S 0 rfl rfl clOk_Mo 41 (by decide) wf_Mo_83 (v := .ref (ma 21)) rfl d_Mo_shiftInto_13 ?_
      refine lv_iload_n hx hb d_Mo_shiftInto_16 rfl (lv_at hl 3 rfl) ?_
      refine lv_bipush (v := 80) hx hb d_Mo_shiftInto_17 (by decide) ?_
      refine lv_imul hx hb d_Mo_shiftInto_19 ?_
      rw [show nI c0 * (80 : Int32) = nI (c0 * 80) from pk_mul c0 80]
      refine lv_iload hx hb d_Mo_shiftInto_20 (lv_at hl 0 rfl) ?_
      refine lv_iadd hx hb d_Mo_shiftInto_22 ?_
      rw [nI_add]
      refine r_iald C K S 1 rfl (i := nI (c0 * 80 + t)) (vp_in_nI (by omega) (by decide)) (v := (nI (dg (c0 * 80 + t)))) (by rw [nI_clamp (by omega)]) d_Mo_shiftInto_23 ?_
      refine lv_iload_n hx hb d_Mo_shiftInto_24 rfl (lv_at hl 5 rfl) ?_
      refine lv_ishl hx hb d_Mo_shiftInto_25 ?_
      refine lv_iload hx hb d_Mo_shiftInto_26 (lv_at hl 1 rfl) ?_
      refine lv_ior hx hb d_Mo_shiftInto_28 ?_
      rw [sh_or d1 hj hI.2.1]
      refine lv_istore (lv' := [(6, .int (nI (dg (c0 * 80 + t) * 2 ^ j + c9))), (5, .int (nI t)), (4, .int (nI c9)), (0, .ref h0), (1, .int (nI c0)), (2, .int (nI n)), (3, .int (nI j))]) hx hb d_Mo_shiftInto_29 hl (by decide) rfl (fun ls hl => ?_)
      refine lv_aload_n hx hb d_Mo_shiftInto_31 rfl (lv_at hl 3 rfl) ?_
      refine r_get C K S 0 rfl rfl clOk_Mo 47 (by decide) wf_Mo_102 (v := .ref (ma 27)) rfl d_Mo_shiftInto_32 ?_
      refine lv_iload hx hb d_Mo_shiftInto_35 (lv_at hl 1 rfl) ?_
      refine lv_iload hx hb d_Mo_shiftInto_37 (lv_at hl 0 rfl) ?_
      refine lv_ldcw (v := 65535) hx hb C.2.2.2.1 (C.2.2.2.2.1 _ wk_Mo_312) d_Mo_shiftInto_39 ?_
      refine lv_iand hx hb d_Mo_shiftInto_42 ?_
      rw [nx_mod]
      refine r_iast C K S 2 rfl (i := (nI t)) (x := nI ((dg (c0 * 80 + t) * 2 ^ j + c9) % 65536)) (vp_in_nI (by omega) (by decide)) (f' := fun i => nI (va_up U t ((dg (c0 * 80 + t) * 2 ^ j + c9) % 65536) i)) (ws' := [(h0, .inr (8, moL ma iv co)), ((ma 21), .inl (k 0, 319840, .inl (fun i => nI (dg i)))), ((ma 27), .inl (k 0, 170, .inl (fun i => nI (va_up U t ((dg (c0 * 80 + t) * 2 ^ j + c9) % 65536) i))))]) (upd_nI U (by omega) _) rfl d_Mo_shiftInto_43 (fun H locs S => ?_)
      refine lv_iload hx hb d_Mo_shiftInto_44 (lv_at hl 0 rfl) ?_
      refine lv_bipush (v := 16) hx hb d_Mo_shiftInto_46 (by decide) ?_
      refine lv_iushr (v := (nI ((dg (c0 * 80 + t) * 2 ^ j + c9) / 65536))) hx hb d_Mo_shiftInto_48 (pk_ushrN (by omega) _ 16 (by decide)) ?_
      refine lv_istore (lv' := [(4, .int (nI ((dg (c0 * 80 + t) * 2 ^ j + c9) / 65536))), (6, .int (nI (dg (c0 * 80 + t) * 2 ^ j + c9))), (5, .int (nI t)), (0, .ref h0), (1, .int (nI c0)), (2, .int (nI n)), (3, .int (nI j))]) hx hb d_Mo_shiftInto_49 hl (by decide) rfl (fun ls hl => ?_)
      refine lv_iinc (v := nI (t + 1)) (lv' := [(5, .int (nI (t + 1))), (4, .int (nI ((dg (c0 * 80 + t) * 2 ^ j + c9) / 65536))), (6, .int (nI (dg (c0 * 80 + t) * 2 ^ j + c9))), (0, .ref h0), (1, .int (nI c0)), (2, .int (nI n)), (3, .int (nI j))]) hx hb d_Mo_shiftInto_51 hl (k := 2) rfl (nI_1 t) (by decide) rfl (fun ls hl => ?_)
      refine lv_goto (tgt := 6) hx hb d_Mo_shiftInto_54 (by decide) ?_
      refine ih (t + 1) (by omega) (va_up U t ((dg (c0 * 80 + t) * 2 ^ j + c9) % 65536)) ((dg (c0 * 80 + t) * 2 ^ j + c9) / 65536) ⟨?_, hs.1, ?_, ?_⟩ _ _ S ls (lv_sub hl [0, 1, 3, 4, 5, 6] rfl)
      · rw [vl_s, vl_s, va_up_self, vl_congr (h := U) t (fun i hi => va_up_ne U _ (by omega)), Nat.pow_succ, Nat.add_mul, ← hI.1]
        have e2 := Nat.mod_add_div (dg (c0 * 80 + t) * 2 ^ j + c9) 65536
        have e3 : ((dg (c0 * 80 + t) * 2 ^ j + c9) % 65536 + 65536 * ((dg (c0 * 80 + t) * 2 ^ j + c9) / 65536)) * 65536 ^ t = (dg (c0 * 80 + t) * 2 ^ j + c9) * 65536 ^ t := by rw [e2]
        rw [Nat.add_mul, Nat.add_mul] at e3
        have e4 : (dg (c0 * 80 + t) * 2 ^ j + c9) / 65536 * (65536 ^ t * 65536) = 65536 * ((dg (c0 * 80 + t) * 2 ^ j + c9) / 65536) * 65536 ^ t := by rw [Nat.mul_comm (65536 ^ t), ← Nat.mul_assoc, Nat.mul_comm ((dg (c0 * 80 + t) * 2 ^ j + c9) / 65536)]
        have e5 : dg (c0 * 80 + t) * 65536 ^ t * 2 ^ j = dg (c0 * 80 + t) * 2 ^ j * 65536 ^ t := Nat.mul_right_comm _ _ _
        rw [e4, e5]
        omega
      · intro i hi
        by_cases w : i = t
        · rw [w, va_up_self]; exact Nat.mod_lt _ (by decide)
        · rw [va_up_ne U _ w]; exact hI.2.2.1 i hi
      · intro i hi
        rw [va_up_ne U _ (by omega)]
        exact hI.2.2.2 i (by omega)
  refine lv_iconst (v := 0) hx hb d_Mo_shiftInto_0 (by decide) ?_
  refine lv_istore (lv' := [(4, .int 0), (0, .ref h0), (1, .int (nI c0)), (2, .int (nI n)), (3, .int (nI j))]) hx hb d_Mo_shiftInto_1 hl (by decide) rfl (fun ls hl => ?_)
  refine lv_iconst (v := 0) hx hb d_Mo_shiftInto_3 (by decide) ?_
  refine lv_istore (lv' := [(5, .int 0), (4, .int 0), (0, .ref h0), (1, .int (nI c0)), (2, .int (nI n)), (3, .int (nI j))]) hx hb d_Mo_shiftInto_4 hl (by decide) rfl (fun ls hl => ?_)
  exact loop n 0 (by omega) T 0 ⟨by simp [vl], Nat.two_pow_pos j, dT, fun _ _ => rfl⟩ _ _ S ls hl
end
section
theorem d_Mo_raise_0 : decode c_Mo_raise 0 = .ok (.iconst 0, 1) := by decide +kernel
theorem d_Mo_raise_1 : decode c_Mo_raise 1 = .ok (.istore_n 2, 1) := by decide +kernel
theorem d_Mo_raise_2 : decode c_Mo_raise 2 = .ok (.iconst 0, 1) := by decide +kernel
theorem d_Mo_raise_3 : decode c_Mo_raise 3 = .ok (.istore_n 3, 1) := by decide +kernel
theorem d_Mo_raise_4 : decode c_Mo_raise 4 = .ok (.iload_n 3, 1) := by decide +kernel
theorem d_Mo_raise_5 : decode c_Mo_raise 5 = .ok (.aload_n 0, 1) := by decide +kernel
theorem d_Mo_raise_6 : decode c_Mo_raise 6 = .ok (.getfield 286, 3) := by decide +kernel
theorem d_Mo_raise_9 : decode c_Mo_raise 9 = .ok (.if_icmp .gt 39, 3) := by decide +kernel
theorem d_Mo_raise_12 : decode c_Mo_raise 12 = .ok (.aload_n 0, 1) := by decide +kernel
theorem d_Mo_raise_13 : decode c_Mo_raise 13 = .ok (.getfield 93, 3) := by decide +kernel
theorem d_Mo_raise_16 : decode c_Mo_raise 16 = .ok (.iload_n 3, 1) := by decide +kernel
theorem d_Mo_raise_17 : decode c_Mo_raise 17 = .ok (.iaload, 1) := by decide +kernel
theorem d_Mo_raise_18 : decode c_Mo_raise 18 = .ok (.iload_n 1, 1) := by decide +kernel
theorem d_Mo_raise_19 : decode c_Mo_raise 19 = .ok (.ishl, 1) := by decide +kernel
theorem d_Mo_raise_20 : decode c_Mo_raise 20 = .ok (.iload_n 2, 1) := by decide +kernel
theorem d_Mo_raise_21 : decode c_Mo_raise 21 = .ok (.ior, 1) := by decide +kernel
theorem d_Mo_raise_22 : decode c_Mo_raise 22 = .ok (.istore 4, 2) := by decide +kernel
theorem d_Mo_raise_24 : decode c_Mo_raise 24 = .ok (.aload_n 0, 1) := by decide +kernel
theorem d_Mo_raise_25 : decode c_Mo_raise 25 = .ok (.getfield 93, 3) := by decide +kernel
theorem d_Mo_raise_28 : decode c_Mo_raise 28 = .ok (.iload_n 3, 1) := by decide +kernel
theorem d_Mo_raise_29 : decode c_Mo_raise 29 = .ok (.iload 4, 2) := by decide +kernel
theorem d_Mo_raise_31 : decode c_Mo_raise 31 = .ok (.ldc_w 312, 3) := by decide +kernel
theorem d_Mo_raise_34 : decode c_Mo_raise 34 = .ok (.iand, 1) := by decide +kernel
theorem d_Mo_raise_35 : decode c_Mo_raise 35 = .ok (.iastore, 1) := by decide +kernel
theorem d_Mo_raise_36 : decode c_Mo_raise 36 = .ok (.iload 4, 2) := by decide +kernel
theorem d_Mo_raise_38 : decode c_Mo_raise 38 = .ok (.bipush 16, 2) := by decide +kernel
theorem d_Mo_raise_40 : decode c_Mo_raise 40 = .ok (.iushr, 1) := by decide +kernel
theorem d_Mo_raise_41 : decode c_Mo_raise 41 = .ok (.istore_n 2, 1) := by decide +kernel
theorem d_Mo_raise_42 : decode c_Mo_raise 42 = .ok (.iinc 3 1, 3) := by decide +kernel
theorem d_Mo_raise_45 : decode c_Mo_raise 45 = .ok (.goto (-41), 3) := by decide +kernel
theorem d_Mo_raise_48 : decode c_Mo_raise 48 = .ok (.return_, 1) := by decide +kernel
set_option maxRecDepth 100000 in
set_option maxHeartbeats 8000000 in
/-- raise(j) -/
theorem g_Mo_raise (l : Launch) (G : va_G) (k : Nat → ClassId) (h0 s0 n j : Nat) (ma : Nat → Nat) (iv : Nat → Int32) (co : Int64) (T : Nat → Nat) (hn : n ≤ 165) (hj : j < 16) (dT : ∀ i, i < 170 → T i < 65536) : CV l y_Mo_raise c_Mo_raise 5 { frames := 0, cells := 0, slots := 0, locals := 0 } [.ref h0, .int (nI j)] G k s0 [(h0, .inr (8, moL ma (va_up iv 19 (nI n)) co)), ((ma 24), .inl (k 0, 170, .inl (fun i => nI (T i))))] (fun (U : Nat → Nat) => (∃ c9, vl 65536 U (n + 1) + c9 * 65536 ^ (n + 1) = vl 65536 T (n + 1) * 2 ^ j ∧ c9 < 2 ^ j) ∧ (∀ i, i < 170 → U i < 65536) ∧ ∀ i, n + 1 ≤ i → U i = T i) (fun U => [(h0, .inr (8, moL ma (va_up iv 19 (nI n)) co)), ((ma 24), .inl (k 0, 170, .inl (fun i => nI (U i))))]) 0 0 := by
  refine met_start (by decide) (Nat.le_of_ble_eq_true rfl) ?_
  intro p e s m below meth c C K hA hsz S ls hl
  generalize va_A [(h0, .inr (8, moL ma (va_up iv 19 (nI n)) co)), ((ma 24), .inl (k 0, 170, .inl (fun i => nI (T i))))] s0 = A at hA S ⊢
  have hx := C.1
  have hb := C.2.1
  have hl : lv_has ls 5 [(0, .ref h0), (1, .int (nI j))] := hl
  have loop : ∀ d t, t + d = n + 1 → ∀ (U : Nat → Nat) (c9 : Nat), (vl 65536 U t + c9 * 65536 ^ t = vl 65536 T t * 2 ^ j ∧ c9 < 2 ^ j ∧ (∀ i, i < 170 → U i < 65536) ∧ ∀ i, t ≤ i → U i = T i) → ∀ (H : Heap) (locs : List Loc), Sw G A s.heap H locs [(h0, .inr (8, moL ma (va_up iv 19 (nI n)) co)), ((ma 24), .inl (k 0, 170, .inl (fun i => nI (U i))))] → ∀ ls : Array Slot, lv_has ls 5 [(3, .int (nI t)), (2, .int (nI c9)), (0, .ref h0), (1, .int (nI j))] → W p l e { frames := 0, cells := 0, slots := 0, locals := 0 } s m [Value.ref h0, Value.int (nI j)].toArray below meth c H locs 0 0 (MQ below (va_Qv (fun (U : Nat → Nat) => (∃ c9, vl 65536 U (n + 1) + c9 * 65536 ^ (n + 1) = vl 65536 T (n + 1) * 2 ^ j ∧ c9 < 2 ^ j) ∧ (∀ i, i < 170 → U i < 65536) ∧ ∀ i, n + 1 ≤ i → U i = T i) (Po G k A (fun U => [(h0, .inr (8, moL ma (va_up iv 19 (nI n)) co)), ((ma 24), .inl (k 0, 170, .inl (fun i => nI (U i))))])) A) [Value.ref h0, Value.int (nI j)].toArray s 0 0 A) (F0 m 4 ls []) := by
    intro d
    induction d with
    | zero =>
      intro t ht U c9 hI H locs S ls hl
      obtain rfl : t = n + 1 := by omega
      refine lv_iload_n hx hb d_Mo_raise_4 rfl (lv_at hl 0 rfl) ?_
      refine lv_aload_n hx hb d_Mo_raise_5 rfl (lv_at hl 2 rfl) ?_
      refine r_get C K S 0 rfl rfl clOk_Mo 48 (by decide) wf_Mo_286 (v := .int (nI n)) rfl d_Mo_raise_6 ?_
      refine lv_icmp_gt (tgt := 48) hx hb d_Mo_raise_9 (by decide) (fun _ => ?_) (fun hq => absurd (nI_lt (by omega) (by omega)) hq)
      exact r_vret C K U ⟨⟨c9, hI.1, hI.2.1⟩, hI.2.2.1, hI.2.2.2⟩ (S.sub [0, 1] (by decide) rfl) d_Mo_raise_48 (Nat.le_of_ble_eq_true rfl) (Nat.le_of_ble_eq_true rfl)
    | succ d ih =>
      intro t ht U c9 hI H locs S ls hl
      have d1 := dT t (by omega)
      have hs := sh_lt d1 hj hI.2.1
      have ut : U t = T t := hI.2.2.2 t (Nat.le_refl t)
      refine lv_iload_n hx hb d_Mo_raise_4 rfl (lv_at hl 0 rfl) ?_
      refine lv_aload_n hx hb d_Mo_raise_5 rfl (lv_at hl 2 rfl) ?_
      refine r_get C K S 0 rfl rfl clOk_Mo 48 (by decide) wf_Mo_286 (v := .int (nI n)) rfl d_Mo_raise_6 ?_
      refine lv_icmp_gt (tgt := 48) hx hb d_Mo_raise_9 (by decide) (fun hq => absurd hq (nI_nlt (by omega) (by omega))) (fun _ => ?_)
      refine lv_aload_n hx hb d_Mo_raise_12 rfl (lv_at hl 2 rfl) ?_
      refine r_get C K S 0 rfl rfl clOk_Mo 44 (by decide) wf_Mo_93 (v := .ref (ma 24)) rfl d_Mo_raise_13 ?_
      refine lv_iload_n hx hb d_Mo_raise_16 rfl (lv_at hl 0 rfl) ?_
      refine r_iald C K S 1 rfl (i := (nI t)) (vp_in_nI (by omega) (by decide)) (v := (nI (T t))) (by rw [nI_clamp (by omega), ut]) d_Mo_raise_17 ?_
      refine lv_iload_n hx hb d_Mo_raise_18 rfl (lv_at hl 3 rfl) ?_
      refine lv_ishl hx hb d_Mo_raise_19 ?_
      refine lv_iload_n hx hb d_Mo_raise_20 rfl (lv_at hl 1 rfl) ?_
      refine lv_ior hx hb d_Mo_raise_21 ?_
      rw [sh_or d1 hj hI.2.1]
      refine lv_istore (lv' := [(4, .int (nI (T t * 2 ^ j + c9))), (3, .int (nI t)), (2, .int (nI c9)), (0, .ref h0), (1, .int (nI j))]) hx hb d_Mo_raise_22 hl (by decide) rfl (fun ls hl => ?_)
      refine lv_aload_n hx hb d_Mo_raise_24 rfl (lv_at hl 3 rfl) ?_
      refine r_get C K S 0 rfl rfl clOk_Mo 44 (by decide) wf_Mo_93 (v := .ref (ma 24)) rfl d_Mo_raise_25 ?_
      refine lv_iload_n hx hb d_Mo_raise_28 rfl (lv_at hl 1 rfl) ?_
      refine lv_iload hx hb d_Mo_raise_29 (lv_at hl 0 rfl) ?_
      refine lv_ldcw (v := 65535) hx hb C.2.2.2.1 (C.2.2.2.2.1 _ wk_Mo_312) d_Mo_raise_31 ?_
      refine lv_iand hx hb d_Mo_raise_34 ?_
      rw [nx_mod]
      refine r_iast C K S 1 rfl (i := (nI t)) (x := nI ((T t * 2 ^ j + c9) % 65536)) (vp_in_nI (by omega) (by decide)) (f' := fun i => nI (va_up U t ((T t * 2 ^ j + c9) % 65536) i)) (ws' := [(h0, .inr (8, moL ma (va_up iv 19 (nI n)) co)), ((ma 24), .inl (k 0, 170, .inl (fun i => nI (va_up U t ((T t * 2 ^ j + c9) % 65536) i))))]) (upd_nI U (by omega) _) rfl d_Mo_raise_35 (fun H locs S => ?_)
      refine lv_iload hx hb d_Mo_raise_36 (lv_at hl 0 rfl) ?_
      refine lv_bipush (v := 16) hx hb d_Mo_raise_38 (by decide) ?_
      refine lv_iushr (v := (nI ((T t * 2 ^ j + c9) / 65536))) hx hb d_Mo_raise_40 (pk_ushrN (by omega) _ 16 (by decide)) ?_
      refine lv_istore_n (lv' := [(2, .int (nI ((T t * 2 ^ j + c9) / 65536))), (4, .int (nI (T t * 2 ^ j + c9))), (3, .int (nI t)), (0, .ref h0), (1, .int (nI j))]) hx hb d_Mo_raise_41 rfl hl (by decide) rfl (fun ls hl => ?_)
      refine lv_iinc (v := nI (t + 1)) (lv' := [(3, .int (nI (t + 1))), (2, .int (nI ((T t * 2 ^ j + c9) / 65536))), (4, .int (nI (T t * 2 ^ j + c9))), (0, .ref h0), (1, .int (nI j))]) hx hb d_Mo_raise_42 hl (k := 2) rfl (nI_1 t) (by decide) rfl (fun ls hl => ?_)
      refine lv_goto (tgt := 4) hx hb d_Mo_raise_45 (by decide) ?_
      refine ih (t + 1) (by omega) (va_up U t ((T t * 2 ^ j + c9) % 65536)) ((T t * 2 ^ j + c9) / 65536) ⟨?_, hs.1, ?_, ?_⟩ _ _ S ls (lv_sub hl [0, 1, 3, 4] rfl)
      · rw [vl_s, vl_s, va_up_self, vl_congr (h := U) t (fun i hi => va_up_ne U _ (by omega)), Nat.pow_succ, Nat.add_mul, ← hI.1]
        have e2 := Nat.mod_add_div (T t * 2 ^ j + c9) 65536
        have e3 : ((T t * 2 ^ j + c9) % 65536 + 65536 * ((T t * 2 ^ j + c9) / 65536)) * 65536 ^ t = (T t * 2 ^ j + c9) * 65536 ^ t := by rw [e2]
        rw [Nat.add_mul, Nat.add_mul] at e3
        have e4 : (T t * 2 ^ j + c9) / 65536 * (65536 ^ t * 65536) = 65536 * ((T t * 2 ^ j + c9) / 65536) * 65536 ^ t := by rw [Nat.mul_comm (65536 ^ t), ← Nat.mul_assoc, Nat.mul_comm ((T t * 2 ^ j + c9) / 65536)]
        have e5 : T t * 65536 ^ t * 2 ^ j = T t * 2 ^ j * 65536 ^ t := Nat.mul_right_comm _ _ _
        rw [e4, e5]
        omega
      · intro i hi
        by_cases w : i = t
        · rw [w, va_up_self]; exact Nat.mod_lt _ (by decide)
        · rw [va_up_ne U _ w]; exact hI.2.2.1 i hi
      · intro i hi
        rw [va_up_ne U _ (by omega)]
        exact hI.2.2.2 i (by omega)
  refine lv_iconst (v := 0) hx hb d_Mo_raise_0 (by decide) ?_
  refine lv_istore_n (lv' := [(2, .int 0), (0, .ref h0), (1, .int (nI j))]) hx hb d_Mo_raise_1 rfl hl (by decide) rfl (fun ls hl => ?_)
  refine lv_iconst (v := 0) hx hb d_Mo_raise_2 (by decide) ?_
  refine lv_istore_n (lv' := [(3, .int 0), (2, .int 0), (0, .ref h0), (1, .int (nI j))]) hx hb d_Mo_raise_3 rfl hl (by decide) rfl (fun ls hl => ?_)
  exact loop (n + 1) 0 (by omega) T 0 ⟨by simp [vl], Nat.two_pow_pos j, dT, fun _ _ => rfl⟩ _ _ S ls hl
end
section
/-- digits of a quotient kept in a cell, up to t -/
def dgQ (dg qt : Nat → Nat) (b t : Nat) : Nat → Nat := fun i => if b ≤ i ∧ i < b + t then qt (i - b) else dg i
theorem dgQ_0 (dg qt : Nat → Nat) (b : Nat) : dgQ dg qt b 0 = dg := by
  funext i
  unfold dgQ
  rw [if_neg (by omega)]
theorem dgQ_s (dg qt : Nat → Nat) (b t : Nat) : va_up (dgQ dg qt b t) (b + t) (qt t) = dgQ dg qt b (t + 1) := by
  funext i
  unfold va_up dgQ
  by_cases q : i = b + t
  · rw [if_pos q, if_pos (by omega), q, Nat.add_sub_cancel_left]
  · rw [if_neg q]
    by_cases q2 : b ≤ i ∧ i < b + t
    · rw [if_pos q2, if_pos (by omega)]
    · rw [if_neg q2, if_neg (by omega)]
def kqB (n o t : Nat) : Nat := if n = 0 then 0 else if o = t then 0 else 1
theorem d_Mo_keepQuotient_0 : decode c_Mo_keepQuotient 0 = .ok (.iconst 0, 1) := by decide +kernel
theorem d_Mo_keepQuotient_1 : decode c_Mo_keepQuotient 1 = .ok (.istore_n 3, 1) := by decide +kernel
theorem d_Mo_keepQuotient_2 : decode c_Mo_keepQuotient 2 = .ok (.iload_n 3, 1) := by decide +kernel
theorem d_Mo_keepQuotient_3 : decode c_Mo_keepQuotient 3 = .ok (.aload_n 0, 1) := by decide +kernel
theorem d_Mo_keepQuotient_4 : decode c_Mo_keepQuotient 4 = .ok (.getfield 313, 3) := by decide +kernel
theorem d_Mo_keepQuotient_7 : decode c_Mo_keepQuotient 7 = .ok (.if_icmp .ge 26, 3) := by decide +kernel
theorem d_Mo_keepQuotient_10 : decode c_Mo_keepQuotient 10 = .ok (.aload_n 0, 1) := by decide +kernel
theorem d_Mo_keepQuotient_11 : decode c_Mo_keepQuotient 11 = .ok (.getfield 83, 3) := by decide +kernel
theorem d_Mo_keepQuotient_14 : decode c_Mo_keepQuotient 14 = .ok (.iload_n 1, 1) := by decide +kernel
theorem d_Mo_keepQuotient_15 : decode c_Mo_keepQuotient 15 = .ok (.bipush 80, 2) := by decide +kernel
theorem d_Mo_keepQuotient_17 : decode c_Mo_keepQuotient 17 = .ok (.imul, 1) := by decide +kernel
theorem d_Mo_keepQuotient_18 : decode c_Mo_keepQuotient 18 = .ok (.iload_n 3, 1) := by decide +kernel
theorem d_Mo_keepQuotient_19 : decode c_Mo_keepQuotient 19 = .ok (.iadd, 1) := by decide +kernel
theorem d_Mo_keepQuotient_20 : decode c_Mo_keepQuotient 20 = .ok (.aload_n 0, 1) := by decide +kernel
theorem d_Mo_keepQuotient_21 : decode c_Mo_keepQuotient 21 = .ok (.getfield 99, 3) := by decide +kernel
theorem d_Mo_keepQuotient_24 : decode c_Mo_keepQuotient 24 = .ok (.iload_n 3, 1) := by decide +kernel
theorem d_Mo_keepQuotient_25 : decode c_Mo_keepQuotient 25 = .ok (.iaload, 1) := by decide +kernel
theorem d_Mo_keepQuotient_26 : decode c_Mo_keepQuotient 26 = .ok (.iastore, 1) := by decide +kernel
theorem d_Mo_keepQuotient_27 : decode c_Mo_keepQuotient 27 = .ok (.iinc 3 1, 3) := by decide +kernel
theorem d_Mo_keepQuotient_30 : decode c_Mo_keepQuotient 30 = .ok (.goto (-28), 3) := by decide +kernel
theorem d_Mo_keepQuotient_33 : decode c_Mo_keepQuotient 33 = .ok (.aload_n 0, 1) := by decide +kernel
theorem d_Mo_keepQuotient_34 : decode c_Mo_keepQuotient 34 = .ok (.getfield 86, 3) := by decide +kernel
theorem d_Mo_keepQuotient_37 : decode c_Mo_keepQuotient 37 = .ok (.iload_n 1, 1) := by decide +kernel
theorem d_Mo_keepQuotient_38 : decode c_Mo_keepQuotient 38 = .ok (.aload_n 0, 1) := by decide +kernel
theorem d_Mo_keepQuotient_39 : decode c_Mo_keepQuotient 39 = .ok (.getfield 313, 3) := by decide +kernel
theorem d_Mo_keepQuotient_42 : decode c_Mo_keepQuotient 42 = .ok (.iastore, 1) := by decide +kernel
theorem d_Mo_keepQuotient_43 : decode c_Mo_keepQuotient 43 = .ok (.aload_n 0, 1) := by decide +kernel
theorem d_Mo_keepQuotient_44 : decode c_Mo_keepQuotient 44 = .ok (.getfield 89, 3) := by decide +kernel
theorem d_Mo_keepQuotient_47 : decode c_Mo_keepQuotient 47 = .ok (.iload_n 1, 1) := by decide +kernel
theorem d_Mo_keepQuotient_48 : decode c_Mo_keepQuotient 48 = .ok (.aload_n 0, 1) := by decide +kernel
theorem d_Mo_keepQuotient_49 : decode c_Mo_keepQuotient 49 = .ok (.getfield 313, 3) := by decide +kernel
theorem d_Mo_keepQuotient_52 : decode c_Mo_keepQuotient 52 = .ok (.ifCond .le 15, 3) := by decide +kernel
theorem d_Mo_keepQuotient_55 : decode c_Mo_keepQuotient 55 = .ok (.aload_n 0, 1) := by decide +kernel
theorem d_Mo_keepQuotient_56 : decode c_Mo_keepQuotient 56 = .ok (.getfield 289, 3) := by decide +kernel
theorem d_Mo_keepQuotient_59 : decode c_Mo_keepQuotient 59 = .ok (.iload_n 2, 1) := by decide +kernel
theorem d_Mo_keepQuotient_60 : decode c_Mo_keepQuotient 60 = .ok (.if_icmp .eq 7, 3) := by decide +kernel
theorem d_Mo_keepQuotient_63 : decode c_Mo_keepQuotient 63 = .ok (.iconst 1, 1) := by decide +kernel
theorem d_Mo_keepQuotient_64 : decode c_Mo_keepQuotient 64 = .ok (.goto 4, 3) := by decide +kernel
theorem d_Mo_keepQuotient_67 : decode c_Mo_keepQuotient 67 = .ok (.iconst 0, 1) := by decide +kernel
theorem d_Mo_keepQuotient_68 : decode c_Mo_keepQuotient 68 = .ok (.bastore, 1) := by decide +kernel
theorem d_Mo_keepQuotient_69 : decode c_Mo_keepQuotient 69 = .ok (.return_, 1) := by decide +kernel
set_option maxRecDepth 100000 in
set_option maxHeartbeats 8000000 in
/-- keepQuotient(c0, tu) -/
theorem g_Mo_keepQuotient (l : Launch) (G : va_G) (k : Nat → ClassId) (h0 s0 c0 tu qn ob : Nat) (ma : Nat → Nat) (iv : Nat → Int32) (co : Int64) (dg sz bl qt : Nat → Nat) (kc : c0 < 3998) (hq : qn ≤ 80) (ho : ob ≤ 1) (ht9 : tu ≤ 1) : CV l y_Mo_keepQuotient c_Mo_keepQuotient 4 { frames := 0, cells := 0, slots := 0, locals := 0 } [.ref h0, .int (nI c0), .int (nI tu)] G k s0 [(h0, .inr (8, moL ma (va_up (va_up iv 23 (nI qn)) 21 (nI ob)) co)), ((ma 21), .inl (k 0, 319840, .inl (fun i => nI (dg i)))), ((ma 22), .inl (k 0, 3998, .inl (fun i => nI (sz i)))), ((ma 23), .inl (k 2, 3998, .inl (fun i => nI (bl i)))), ((ma 26), .inl (k 0, 170, .inl (fun i => nI (qt i))))] (fun (u : Nat → Nat) => u = va_up bl c0 (kqB qn ob tu)) (fun u => [(h0, .inr (8, moL ma (va_up (va_up iv 23 (nI qn)) 21 (nI ob)) co)), ((ma 21), .inl (k 0, 319840, .inl (fun i => nI (dgQ dg qt (c0 * 80) qn i)))), ((ma 22), .inl (k 0, 3998, .inl (fun i => nI ((va_up sz c0 qn) i)))), ((ma 23), .inl (k 2, 3998, .inl (fun i => nI (u i)))), ((ma 26), .inl (k 0, 170, .inl (fun i => nI (qt i))))]) 0 0 := by
  refine met_start (by decide) (Nat.le_of_ble_eq_true rfl) ?_
  intro p e s m below meth c C K hA hsz S ls hl
  generalize va_A [(h0, .inr (8, moL ma (va_up (va_up iv 23 (nI qn)) 21 (nI ob)) co)), ((ma 21), .inl (k 0, 319840, .inl (fun i => nI (dg i)))), ((ma 22), .inl (k 0, 3998, .inl (fun i => nI (sz i)))), ((ma 23), .inl (k 2, 3998, .inl (fun i => nI (bl i)))), ((ma 26), .inl (k 0, 170, .inl (fun i => nI (qt i))))] s0 = A at hA S ⊢
  have hx := C.1
  have hb := C.2.1
  have hl : lv_has ls 4 [(0, .ref h0), (1, .int (nI c0)), (2, .int (nI tu))] := hl
  have loop : ∀ d t, t + d = qn → ∀ (H : Heap) (locs : List Loc), Sw G A s.heap H locs [(h0, .inr (8, moL ma (va_up (va_up iv 23 (nI qn)) 21 (nI ob)) co)), ((ma 21), .inl (k 0, 319840, .inl (fun i => nI (dgQ dg qt (c0 * 80) t i)))), ((ma 22), .inl (k 0, 3998, .inl (fun i => nI (sz i)))), ((ma 23), .inl (k 2, 3998, .inl (fun i => nI (bl i)))), ((ma 26), .inl (k 0, 170, .inl (fun i => nI (qt i))))] → ∀ ls : Array Slot, lv_has ls 4 [(3, .int (nI t)), (0, .ref h0), (1, .int (nI c0)), (2, .int (nI tu))] → W p l e { frames := 0, cells := 0, slots := 0, locals := 0 } s m [Value.ref h0, Value.int (nI c0), Value.int (nI tu)].toArray below meth c H locs 0 0 (MQ below (va_Qv (fun (u : Nat → Nat) => u = va_up bl c0 (kqB qn ob tu)) (Po G k A (fun u => [(h0, .inr (8, moL ma (va_up (va_up iv 23 (nI qn)) 21 (nI ob)) co)), ((ma 21), .inl (k 0, 319840, .inl (fun i => nI (dgQ dg qt (c0 * 80) qn i)))), ((ma 22), .inl (k 0, 3998, .inl (fun i => nI ((va_up sz c0 qn) i)))), ((ma 23), .inl (k 2, 3998, .inl (fun i => nI (u i)))), ((ma 26), .inl (k 0, 170, .inl (fun i => nI (qt i))))])) A) [Value.ref h0, Value.int (nI c0), Value.int (nI tu)].toArray s 0 0 A) (F0 m 2 ls []) := by
    intro d
    induction d with
    | zero =>
      intro t ht H locs S ls hl
      obtain rfl : t = qn := by omega
      refine lv_iload_n hx hb d_Mo_keepQuotient_2 rfl (lv_at hl 0 rfl) ?_
      refine lv_aload_n hx hb d_Mo_keepQuotient_3 rfl (lv_at hl 1 rfl) ?_
      refine r_get C K S 0 rfl rfl clOk_Mo 52 (by decide) wf_Mo_313 (v := .int (nI t)) rfl d_Mo_keepQuotient_4 ?_
      refine lv_icmp_ge (tgt := 33) hx hb d_Mo_keepQuotient_7 (by decide) (fun _ => ?_) (fun hq => absurd (nI_le (Nat.le_refl _) (by omega)) hq)
      refine lv_aload_n hx hb d_Mo_keepQuotient_33 rfl (lv_at hl 1 rfl) ?_
      refine r_get C K S 0 rfl rfl clOk_Mo 42 (by decide) wf_Mo_86 (v := .ref (ma 22)) rfl d_Mo_keepQuotient_34 ?_
      refine lv_iload_n hx hb d_Mo_keepQuotient_37 rfl (lv_at hl 2 rfl) ?_
      refine lv_aload_n hx hb d_Mo_keepQuotient_38 rfl (lv_at hl 1 rfl) ?_
      refine r_get C K S 0 rfl rfl clOk_Mo 52 (by decide) wf_Mo_313 (v := .int (nI t)) rfl d_Mo_keepQuotient_39 ?_
      refine r_iast C K S 2 rfl (i := (nI c0)) (x := nI t) (vp_in_nI (by omega) (by decide)) (f' := fun i => nI (va_up sz c0 t i)) (ws' := [(h0, .inr (8, moL ma (va_up (va_up iv 23 (nI t)) 21 (nI ob)) co)), ((ma 21), .inl (k 0, 319840, .inl (fun i => nI (dgQ dg qt (c0 * 80) t i)))), ((ma 22), .inl (k 0, 3998, .inl (fun i => nI (va_up sz c0 t i)))), ((ma 23), .inl (k 2, 3998, .inl (fun i => nI (bl i)))), ((ma 26), .inl (k 0, 170, .inl (fun i => nI (qt i))))]) (upd_nI sz (by omega) _) rfl d_Mo_keepQuotient_42 (fun H locs S => ?_)
      refine lv_aload_n hx hb d_Mo_keepQuotient_43 rfl (lv_at hl 1 rfl) ?_
      refine r_get C K S 0 rfl rfl clOk_Mo 43 (by decide) wf_Mo_89 (v := .ref (ma 23)) rfl d_Mo_keepQuotient_44 ?_
      refine lv_iload_n hx hb d_Mo_keepQuotient_47 rfl (lv_at hl 2 rfl) ?_
      refine lv_aload_n hx hb d_Mo_keepQuotient_48 rfl (lv_at hl 1 rfl) ?_
      refine r_get C K S 0 rfl rfl clOk_Mo 52 (by decide) wf_Mo_313 (v := .int (nI t)) rfl d_Mo_keepQuotient_49 ?_
      refine lv_if_le (tgt := 67) hx hb d_Mo_keepQuotient_52 (by decide) (fun hc1 => ?_) (fun hc1 => ?_)
      · refine lv_iconst (v := 0) hx hb d_Mo_keepQuotient_67 (by decide) ?_
        refine r_zast C K S 3 rfl (i := (nI c0)) (x := 0) (vp_in_nI (by omega) (by decide)) (f' := fun i => nI (va_up bl c0 0 i)) (ws' := [(h0, .inr (8, moL ma (va_up (va_up iv 23 (nI t)) 21 (nI ob)) co)), ((ma 21), .inl (k 0, 319840, .inl (fun i => nI (dgQ dg qt (c0 * 80) t i)))), ((ma 22), .inl (k 0, 3998, .inl (fun i => nI (va_up sz c0 t i)))), ((ma 23), .inl (k 2, 3998, .inl (fun i => nI (va_up bl c0 0 i)))), ((ma 26), .inl (k 0, 170, .inl (fun i => nI (qt i))))]) (upd_Z bl (v := 0) (by omega) (by omega)) rfl d_Mo_keepQuotient_68 (fun H locs S => ?_)
        exact r_vret C K (va_up bl c0 0) (by have f0 : t = 0 := Nat.le_zero.mp ((nI_leI (a := t) (b := 0) (by omega) (by omega)).mp hc1); simp [kqB, f0]) (S.sub [0, 1, 2, 3, 4] (by decide) rfl) d_Mo_keepQuotient_69 (Nat.le_of_ble_eq_true rfl) (Nat.le_of_ble_eq_true rfl)
      · refine lv_aload_n hx hb d_Mo_keepQuotient_55 rfl (lv_at hl 1 rfl) ?_
        refine r_get C K S 0 rfl rfl clOk_Mo 50 (by decide) wf_Mo_289 (v := .int (nI ob)) rfl d_Mo_keepQuotient_56 ?_
        refine lv_iload_n hx hb d_Mo_keepQuotient_59 rfl (lv_at hl 3 rfl) ?_
        refine lv_icmp_eq (tgt := 67) hx hb d_Mo_keepQuotient_60 (by decide) (fun hc2 => ?_) (fun hc2 => ?_)
        · refine lv_iconst (v := 0) hx hb d_Mo_keepQuotient_67 (by decide) ?_
          refine r_zast C K S 3 rfl (i := (nI c0)) (x := 0) (vp_in_nI (by omega) (by decide)) (f' := fun i => nI (va_up bl c0 0 i)) (ws' := [(h0, .inr (8, moL ma (va_up (va_up iv 23 (nI t)) 21 (nI ob)) co)), ((ma 21), .inl (k 0, 319840, .inl (fun i => nI (dgQ dg qt (c0 * 80) t i)))), ((ma 22), .inl (k 0, 3998, .inl (fun i => nI (va_up sz c0 t i)))), ((ma 23), .inl (k 2, 3998, .inl (fun i => nI (va_up bl c0 0 i)))), ((ma 26), .inl (k 0, 170, .inl (fun i => nI (qt i))))]) (upd_Z bl (v := 0) (by omega) (by omega)) rfl d_Mo_keepQuotient_68 (fun H locs S => ?_)
          exact r_vret C K (va_up bl c0 0) (by have f0 : ¬ t = 0 := (fun e9 => hc1 (by rw [e9]; decide)); have f1 : ob = tu := (nI_eq (by omega) (by omega)).mp hc2; simp [kqB, f0, f1]) (S.sub [0, 1, 2, 3, 4] (by decide) rfl) d_Mo_keepQuotient_69 (Nat.le_of_ble_eq_true rfl) (Nat.le_of_ble_eq_true rfl)
        · refine lv_iconst (v := 1) hx hb d_Mo_keepQuotient_63 (by decide) ?_
          refine lv_goto (tgt := 68) hx hb d_Mo_keepQuotient_64 (by decide) ?_
          refine r_zast C K S 3 rfl (i := (nI c0)) (x := 1) (vp_in_nI (by omega) (by decide)) (f' := fun i => nI (va_up bl c0 1 i)) (ws' := [(h0, .inr (8, moL ma (va_up (va_up iv 23 (nI t)) 21 (nI ob)) co)), ((ma 21), .inl (k 0, 319840, .inl (fun i => nI (dgQ dg qt (c0 * 80) t i)))), ((ma 22), .inl (k 0, 3998, .inl (fun i => nI (va_up sz c0 t i)))), ((ma 23), .inl (k 2, 3998, .inl (fun i => nI (va_up bl c0 1 i)))), ((ma 26), .inl (k 0, 170, .inl (fun i => nI (qt i))))]) (upd_Z bl (v := 1) (by omega) (by omega)) rfl d_Mo_keepQuotient_68 (fun H locs S => ?_)
          exact r_vret C K (va_up bl c0 1) (by have f0 : ¬ t = 0 := (fun e9 => hc1 (by rw [e9]; decide)); have f1 : ¬ ob = tu := (fun e9 => hc2 (by rw [e9])); simp [kqB, f0, f1]) (S.sub [0, 1, 2, 3, 4] (by decide) rfl) d_Mo_keepQuotient_69 (Nat.le_of_ble_eq_true rfl) (Nat.le_of_ble_eq_true rfl)
    | succ d ih =>
      intro t ht H locs S ls hl
      refine lv_iload_n hx hb d_Mo_keepQuotient_2 rfl (lv_at hl 0 rfl) ?_
      refine lv_aload_n hx hb d_Mo_keepQuotient_3 rfl (lv_at hl 1 rfl) ?_
      refine r_get C K S 0 rfl rfl clOk_Mo 52 (by decide) wf_Mo_313 (v := .int (nI qn)) rfl d_Mo_keepQuotient_4 ?_
      refine lv_icmp_ge (tgt := 33) hx hb d_Mo_keepQuotient_7 (by decide) (fun hq => absurd hq (nI_ge (by omega) (by omega))) (fun _ => ?_)
      refine lv_aload_n hx hb d_Mo_keepQuotient_10 rfl (lv_at hl 1 rfl) ?_
      refine r_get C K S 0 rfl rfl clOk_Mo 41 (by decide) wf_Mo_83 (v := .ref (ma 21)) rfl d_Mo_keepQuotient_11 ?_
      refine lv_iload_n hx hb d_Mo_keepQuotient_14 rfl (lv_at hl 2 rfl) ?_
      refine lv_bipush (v := 80) hx hb d_Mo_keepQuotient_15 (by decide) ?_
      refine lv_imul hx hb d_Mo_keepQuotient_17 ?_
      rw [show nI c0 * (80 : Int32) = nI (c0 * 80) from pk_mul c0 80]
      refine lv_iload_n hx hb d_Mo_keepQuotient_18 rfl (lv_at hl 0 rfl) ?_
      refine lv_iadd hx hb d_Mo_keepQuotient_19 ?_
      rw [nI_add]
      refine lv_aload_n hx hb d_Mo_keepQuotient_20 rfl (lv_at hl 1 rfl) ?_
      refine r_get C K S 0 rfl rfl clOk_Mo 46 (by decide) wf_Mo_99 (v := .ref (ma 26)) rfl d_Mo_keepQuotient_21 ?_
      refine lv_iload_n hx hb d_Mo_keepQuotient_24 rfl (lv_at hl 0 rfl) ?_
      refine r_iald C K S 4 rfl (i := (nI t)) (vp_in_nI (by omega) (by decide)) (v := (nI (qt t))) (by rw [nI_clamp (by omega)]) d_Mo_keepQuotient_25 ?_
      refine r_iast C K S 1 rfl (i := nI (c0 * 80 + t)) (x := (nI (qt t))) (vp_in_nI (by omega) (by decide)) (f' := fun i => nI (dgQ dg qt (c0 * 80) (t + 1) i)) (ws' := [(h0, .inr (8, moL ma (va_up (va_up iv 23 (nI qn)) 21 (nI ob)) co)), ((ma 21), .inl (k 0, 319840, .inl (fun i => nI (dgQ dg qt (c0 * 80) (t + 1) i)))), ((ma 22), .inl (k 0, 3998, .inl (fun i => nI (sz i)))), ((ma 23), .inl (k 2, 3998, .inl (fun i => nI (bl i)))), ((ma 26), .inl (k 0, 170, .inl (fun i => nI (qt i))))]) (by rw [← dgQ_s]; exact upd_nI _ (by omega) _) rfl d_Mo_keepQuotient_26 (fun H locs S => ?_)
      refine lv_iinc (v := nI (t + 1)) (lv' := [(3, .int (nI (t + 1))), (0, .ref h0), (1, .int (nI c0)), (2, .int (nI tu))]) hx hb d_Mo_keepQuotient_27 hl (k := 0) rfl (nI_1 t) (by decide) rfl (fun ls hl => ?_)
      refine lv_goto (tgt := 2) hx hb d_Mo_keepQuotient_30 (by decide) ?_
      exact ih (t + 1) (by omega) _ _ S ls hl
  refine lv_iconst (v := 0) hx hb d_Mo_keepQuotient_0 (by decide) ?_
  refine lv_istore_n (lv' := [(3, .int 0), (0, .ref h0), (1, .int (nI c0)), (2, .int (nI tu))]) hx hb d_Mo_keepQuotient_1 rfl hl (by decide) rfl (fun ls hl => ?_)
  have S : Sw G A s.heap s.heap [] [(h0, .inr (8, moL ma (va_up (va_up iv 23 (nI qn)) 21 (nI ob)) co)), ((ma 21), .inl (k 0, 319840, .inl (fun i => nI (dgQ dg qt (c0 * 80) 0 i)))), ((ma 22), .inl (k 0, 3998, .inl (fun i => nI (sz i)))), ((ma 23), .inl (k 2, 3998, .inl (fun i => nI (bl i)))), ((ma 26), .inl (k 0, 170, .inl (fun i => nI (qt i))))] := by rw [dgQ_0]; exact S
  exact loop qn 0 (by omega) _ _ S ls hl
end
section
/-! a digit less a product and what is borrowed, as longs: the new digit by a mask, the borrow by a shift -/
theorem lN_wrap (a : Nat) : lN (a + 18446744073709551616) = lN a := by
  apply Int64.toBitVec_inj.mp
  show BitVec.ofNat 64 (a + 18446744073709551616) = BitVec.ofNat 64 a
  apply BitVec.eq_of_toNat_eq
  rw [BitVec.toNat_ofNat, BitVec.toNat_ofNat]
  omega
/-- how much is borrowed -/
def bw (o t : Nat) : Nat := (t + 65535 - o) / 65536
theorem bw_spec {o t : Nat} (ho : o < 65536) : t ≤ o + bw o t * 65536 ∧ o + bw o t * 65536 - t < 65536 := by
  unfold bw
  omega
theorem bw_le {o t q : Nat} (h : t ≤ q * 65535 + q) : bw o t ≤ q := by
  unfold bw
  have : (t + 65535 - o) / 65536 < q + 1 := (Nat.div_lt_iff_lt_mul (by decide)).mpr (by omega)
  omega
theorem bw_and {o t : Nat} (ho : o < 65536) (ht : t < 4611686018427387904) : (lN o - lN t) &&& 65535 = lN (o + bw o t * 65536 - t) := by
  have hs := bw_spec (o := o) (t := t) ho
  by_cases c : t ≤ o
  · have e : bw o t = 0 := by unfold bw; omega
    rw [lN_sub c, show (65535 : Int64) = lN (65536 - 1) from rfl, g_mask (s := 16) (p := 65536) (by decide) (by decide) (by omega), e]
    congr 1
    omega
  · rw [← lN_wrap o, lN_sub (by omega), show (65535 : Int64) = lN (65536 - 1) from rfl, g_mask (s := 16) (p := 65536) (by decide) (by decide) (by omega)]
    congr 1
    have h2 := hs.1
    have h3 := hs.2
    generalize bw o t = b at h2 h3 ⊢
    omega
theorem bw_toInt {o t : Nat} (ho : o < 65536) (ht : t < 4611686018427387904) : (lN o - lN t).toInt = (o : Int) - t := by
  rw [Int64.toInt_sub, pf_lI (by omega), pf_lI (by omega), Int.bmod_eq_of_le (by omega) (by omega)]
theorem bw_shr {o t : Nat} (ho : o < 65536) (ht : t < 4611686018427387904) {D : Int64} (hD : (D.toBitVec.smod 64).toNat = 16) : - ((lN o - lN t) >>> D) = lN (bw o t) := by
  have hb : bw o t < 4611686018427387904 := by unfold bw; omega
  have e : ((lN o - lN t) >>> D).toInt = (lN o - lN t).toInt >>> 16 := by
    rw [← hD]
    exact BitVec.toInt_sshiftRight ..
  have e2 : ((lN o - lN t) >>> D).toInt = - (bw o t : Int) := by
    rw [e, bw_toInt ho ht, Int.shiftRight_eq_div_pow]
    show ((o : Int) - t) / 65536 = _
    have hs := bw_spec (o := o) (t := t) ho
    generalize bw o t = b at hs ⊢
    omega
  apply Int64.toInt_inj.mp
  rw [Int64.toInt_neg, e2, Int.neg_neg, pf_lI (by omega), Int.bmod_eq_of_le (by omega) (by omega)]
/-- one step of taking q times a row off another -/
theorem bw_step {O U : Nat → Nat} {n q d b : Nat} (ho : O n < 65536) (hI : vl 65536 U n + q * d = vl 65536 O n + b * 65536 ^ n) (y : Nat) : vl 65536 U n + (O n + bw (O n) (q * y + b) * 65536 - (q * y + b)) * 65536 ^ n + q * (d + y * 65536 ^ n) = vl 65536 O n + O n * 65536 ^ n + bw (O n) (q * y + b) * 65536 ^ (n + 1) := by
  have hs := bw_spec (o := O n) (t := q * y + b) ho
  generalize bw (O n) (q * y + b) = c at hs ⊢
  have e1 : (O n + c * 65536 - (q * y + b)) + (q * y + b) = O n + c * 65536 := by omega
  have e2 : ((O n + c * 65536 - (q * y + b)) + (q * y + b)) * 65536 ^ n = (O n + c * 65536) * 65536 ^ n := by rw [e1]
  rw [Nat.add_mul, Nat.add_mul (q * y), Nat.add_mul (O n)] at e2
  rw [Nat.pow_succ, Nat.mul_add, ← Nat.mul_assoc q y, Nat.mul_comm (65536 ^ n) 65536, ← Nat.mul_assoc c]
  omega
end
section
theorem shr16 {a : Nat} (h : a < 9223372036854775808) {D : Int64} (hD : (D.toBitVec.smod 64).toNat = 16) : lN a >>> D = lN (a / 65536) := by
  apply Int64.toInt_inj.mp
  have e : (lN a >>> D).toInt = (lN a).toInt >>> 16 := by
    rw [← hD]
    exact BitVec.toInt_sshiftRight ..
  rw [e, Int.shiftRight_eq_div_pow, pf_lI (by omega), pf_lI (by omega)]
  rfl
theorem lN_nonneg {a : Nat} (h : a < 9223372036854775808) : (0 : Int64) ≤ lN a := by
  rw [Int64.le_iff_toInt_le, pf_lI (by omega)]
  show (0 : Int) ≤ _
  omega
theorem lN_pos {a : Nat} (h : a < 9223372036854775808) (h0 : 0 < a) : ¬ lN a ≤ (0 : Int64) := by
  rw [Int64.le_iff_toInt_le, pf_lI (by omega)]
  show ¬ _ ≤ (0 : Int)
  omega
theorem lN_negt {a : Nat} (h : a < 9223372036854775808) : (- lN a).toInt = - (a : Int) := by
  rw [Int64.toInt_neg, pf_lI (by omega), Int.bmod_eq_of_le (by omega) (by omega)]
theorem lN_neg0 {a : Nat} (h : a < 9223372036854775808) (h0 : 0 < a) : ¬ (0 : Int64) ≤ - lN a := by
  rw [Int64.le_iff_toInt_le, lN_negt h]
  show ¬ (0 : Int) ≤ _
  omega
theorem d_Mo_put_0 : decode c_Mo_put 0 = .ok (.lload_n 2, 1) := by decide +kernel
theorem d_Mo_put_1 : decode c_Mo_put 1 = .ok (.lconst 0, 1) := by decide +kernel
theorem d_Mo_put_2 : decode c_Mo_put 2 = .ok (.lcmp, 1) := by decide +kernel
theorem d_Mo_put_3 : decode c_Mo_put 3 = .ok (.ifCond .ge 8, 3) := by decide +kernel
theorem d_Mo_put_6 : decode c_Mo_put 6 = .ok (.lload_n 2, 1) := by decide +kernel
theorem d_Mo_put_7 : decode c_Mo_put 7 = .ok (.lneg, 1) := by decide +kernel
theorem d_Mo_put_8 : decode c_Mo_put 8 = .ok (.goto 4, 3) := by decide +kernel
theorem d_Mo_put_11 : decode c_Mo_put 11 = .ok (.lload_n 2, 1) := by decide +kernel
theorem d_Mo_put_12 : decode c_Mo_put 12 = .ok (.lstore 4, 2) := by decide +kernel
theorem d_Mo_put_14 : decode c_Mo_put 14 = .ok (.iconst 0, 1) := by decide +kernel
theorem d_Mo_put_15 : decode c_Mo_put 15 = .ok (.istore 6, 2) := by decide +kernel
theorem d_Mo_put_17 : decode c_Mo_put 17 = .ok (.lload 4, 2) := by decide +kernel
theorem d_Mo_put_19 : decode c_Mo_put 19 = .ok (.lconst 0, 1) := by decide +kernel
theorem d_Mo_put_20 : decode c_Mo_put 20 = .ok (.lcmp, 1) := by decide +kernel
theorem d_Mo_put_21 : decode c_Mo_put 21 = .ok (.ifCond .le 35, 3) := by decide +kernel
theorem d_Mo_put_24 : decode c_Mo_put 24 = .ok (.aload_n 0, 1) := by decide +kernel
theorem d_Mo_put_25 : decode c_Mo_put 25 = .ok (.getfield 83, 3) := by decide +kernel
theorem d_Mo_put_28 : decode c_Mo_put 28 = .ok (.iload_n 1, 1) := by decide +kernel
theorem d_Mo_put_29 : decode c_Mo_put 29 = .ok (.bipush 80, 2) := by decide +kernel
theorem d_Mo_put_31 : decode c_Mo_put 31 = .ok (.imul, 1) := by decide +kernel
theorem d_Mo_put_32 : decode c_Mo_put 32 = .ok (.iload 6, 2) := by decide +kernel
theorem d_Mo_put_34 : decode c_Mo_put 34 = .ok (.iadd, 1) := by decide +kernel
theorem d_Mo_put_35 : decode c_Mo_put 35 = .ok (.lload 4, 2) := by decide +kernel
theorem d_Mo_put_37 : decode c_Mo_put 37 = .ok (.ldc2_w 276, 3) := by decide +kernel
theorem d_Mo_put_40 : decode c_Mo_put 40 = .ok (.land, 1) := by decide +kernel
theorem d_Mo_put_41 : decode c_Mo_put 41 = .ok (.l2i, 1) := by decide +kernel
theorem d_Mo_put_42 : decode c_Mo_put 42 = .ok (.iastore, 1) := by decide +kernel
theorem d_Mo_put_43 : decode c_Mo_put 43 = .ok (.lload 4, 2) := by decide +kernel
theorem d_Mo_put_45 : decode c_Mo_put 45 = .ok (.bipush 16, 2) := by decide +kernel
theorem d_Mo_put_47 : decode c_Mo_put 47 = .ok (.lshr, 1) := by decide +kernel
theorem d_Mo_put_48 : decode c_Mo_put 48 = .ok (.lstore 4, 2) := by decide +kernel
theorem d_Mo_put_50 : decode c_Mo_put 50 = .ok (.iinc 6 1, 3) := by decide +kernel
theorem d_Mo_put_53 : decode c_Mo_put 53 = .ok (.goto (-36), 3) := by decide +kernel
theorem d_Mo_put_56 : decode c_Mo_put 56 = .ok (.aload_n 0, 1) := by decide +kernel
theorem d_Mo_put_57 : decode c_Mo_put 57 = .ok (.getfield 86, 3) := by decide +kernel
theorem d_Mo_put_60 : decode c_Mo_put 60 = .ok (.iload_n 1, 1) := by decide +kernel
theorem d_Mo_put_61 : decode c_Mo_put 61 = .ok (.iload 6, 2) := by decide +kernel
theorem d_Mo_put_63 : decode c_Mo_put 63 = .ok (.iastore, 1) := by decide +kernel
theorem d_Mo_put_64 : decode c_Mo_put 64 = .ok (.aload_n 0, 1) := by decide +kernel
theorem d_Mo_put_65 : decode c_Mo_put 65 = .ok (.getfield 89, 3) := by decide +kernel
theorem d_Mo_put_68 : decode c_Mo_put 68 = .ok (.iload_n 1, 1) := by decide +kernel
theorem d_Mo_put_69 : decode c_Mo_put 69 = .ok (.lload_n 2, 1) := by decide +kernel
theorem d_Mo_put_70 : decode c_Mo_put 70 = .ok (.lconst 0, 1) := by decide +kernel
theorem d_Mo_put_71 : decode c_Mo_put 71 = .ok (.lcmp, 1) := by decide +kernel
theorem d_Mo_put_72 : decode c_Mo_put 72 = .ok (.ifCond .ge 7, 3) := by decide +kernel
theorem d_Mo_put_75 : decode c_Mo_put 75 = .ok (.iconst 1, 1) := by decide +kernel
theorem d_Mo_put_76 : decode c_Mo_put 76 = .ok (.goto 4, 3) := by decide +kernel
theorem d_Mo_put_79 : decode c_Mo_put 79 = .ok (.iconst 0, 1) := by decide +kernel
theorem d_Mo_put_80 : decode c_Mo_put 80 = .ok (.bastore, 1) := by decide +kernel
theorem d_Mo_put_81 : decode c_Mo_put 81 = .ok (.return_, 1) := by decide +kernel
set_option maxRecDepth 100000 in
set_option maxHeartbeats 8000000 in
/-- put(c0, a) -/
theorem g_Mo_put_p (l : Launch) (G : va_G) (k : Nat → ClassId) (h0 s0 c0 a : Nat) (ma : Nat → Nat) (iv : Nat → Int32) (co : Int64) (dg sz bl : Nat → Nat) (kc : c0 < 3998) (ha : a < 9223372036854775808) (hdg : ∀ i, i < 319840 → dg i < 65536) : CV l y_Mo_put c_Mo_put 7 { frames := 0, cells := 0, slots := 0, locals := 0 } [.ref h0, .int (nI c0), .long (lN a)] G k s0 [(h0, .inr (8, moL ma iv co)), ((ma 21), .inl (k 0, 319840, .inl (fun i => nI (dg i)))), ((ma 22), .inl (k 0, 3998, .inl (fun i => nI (sz i)))), ((ma 23), .inl (k 2, 3998, .inl (fun i => nI (bl i))))] (fun (u : (Nat → Nat) × Nat) => vl 65536 (fun i => u.1 (c0 * 80 + i)) u.2 = a ∧ u.2 ≤ 4 ∧ (u.2 = 0 ∨ u.1 (c0 * 80 + (u.2 - 1)) ≠ 0) ∧ (∀ i, i < 319840 → u.1 i < 65536) ∧ ∀ i, i < c0 * 80 ∨ c0 * 80 + 80 ≤ i → u.1 i = dg i) (fun u => [(h0, .inr (8, moL ma iv co)), ((ma 21), .inl (k 0, 319840, .inl (fun i => nI (u.1 i)))), ((ma 22), .inl (k 0, 3998, .inl (fun i => nI ((va_up sz c0 u.2) i)))), ((ma 23), .inl (k 2, 3998, .inl (fun i => nI ((va_up bl c0 0) i))))]) 0 0 := by
  refine met_start (by decide) (Nat.le_of_ble_eq_true rfl) ?_
  intro p e s m below meth c C K hA hsz S ls hl
  generalize va_A [(h0, .inr (8, moL ma iv co)), ((ma 21), .inl (k 0, 319840, .inl (fun i => nI (dg i)))), ((ma 22), .inl (k 0, 3998, .inl (fun i => nI (sz i)))), ((ma 23), .inl (k 2, 3998, .inl (fun i => nI (bl i))))] s0 = A at hA S ⊢
  have hx := C.1
  have hb := C.2.1
  have hl : lv_has ls 7 [(0, .ref h0), (1, .int (nI c0)), (2, .long (lN a))] := hl
  have loop : ∀ f t r9, t + f = 4 → r9 < 65536 ^ f → r9 < 9223372036854775808 → ∀ U : Nat → Nat, (vl 65536 (fun i => U (c0 * 80 + i)) t + r9 * 65536 ^ t = a ∧ (0 < r9 ∨ t = 0 ∨ U (c0 * 80 + (t - 1)) ≠ 0) ∧ (∀ i, i < 319840 → U i < 65536) ∧ ∀ i, i < c0 * 80 ∨ c0 * 80 + 80 ≤ i → U i = dg i) → ∀ (H : Heap) (locs : List Loc), Sw G A s.heap H locs [(h0, .inr (8, moL ma iv co)), ((ma 21), .inl (k 0, 319840, .inl (fun i => nI (U i)))), ((ma 22), .inl (k 0, 3998, .inl (fun i => nI (sz i)))), ((ma 23), .inl (k 2, 3998, .inl (fun i => nI (bl i))))] → ∀ ls : Array Slot, lv_has ls 7 [(6, .int (nI t)), (4, .long (lN r9)), (0, .ref h0), (1, .int (nI c0)), (2, .long (lN a))] → W p l e { frames := 0, cells := 0, slots := 0, locals := 0 } s m [Value.ref h0, Value.int (nI c0), Value.long (lN a)].toArray below meth c H locs 0 0 (MQ below (va_Qv (fun (u : (Nat → Nat) × Nat) => vl 65536 (fun i => u.1 (c0 * 80 + i)) u.2 = a ∧ u.2 ≤ 4 ∧ (u.2 = 0 ∨ u.1 (c0 * 80 + (u.2 - 1)) ≠ 0) ∧ (∀ i, i < 319840 → u.1 i < 65536) ∧ ∀ i, i < c0 * 80 ∨ c0 * 80 + 80 ≤ i → u.1 i = dg i) (Po G k A (fun u => [(h0, .inr (8, moL ma iv co)), ((ma 21), .inl (k 0, 319840, .inl (fun i => nI (u.1 i)))), ((ma 22), .inl (k 0, 3998, .inl (fun i => nI ((va_up sz c0 u.2) i)))), ((ma 23), .inl (k 2, 3998, .inl (fun i => nI ((va_up bl c0 0) i))))])) A) [Value.ref h0, Value.int (nI c0), Value.long (lN a)].toArray s 0 0 A) (F0 m 17 ls []) := by
    have stop : ∀ t, t ≤ 4 → ∀ U : Nat → Nat, (vl 65536 (fun i => U (c0 * 80 + i)) t + 0 * 65536 ^ t = a ∧ (0 < 0 ∨ t = 0 ∨ U (c0 * 80 + (t - 1)) ≠ 0) ∧ (∀ i, i < 319840 → U i < 65536) ∧ ∀ i, i < c0 * 80 ∨ c0 * 80 + 80 ≤ i → U i = dg i) → ∀ (H : Heap) (locs : List Loc), Sw G A s.heap H locs [(h0, .inr (8, moL ma iv co)), ((ma 21), .inl (k 0, 319840, .inl (fun i => nI (U i)))), ((ma 22), .inl (k 0, 3998, .inl (fun i => nI (sz i)))), ((ma 23), .inl (k 2, 3998, .inl (fun i => nI (bl i))))] → ∀ ls : Array Slot, lv_has ls 7 [(6, .int (nI t)), (4, .long (lN 0)), (0, .ref h0), (1, .int (nI c0)), (2, .long (lN a))] → W p l e { frames := 0, cells := 0, slots := 0, locals := 0 } s m [Value.ref h0, Value.int (nI c0), Value.long (lN a)].toArray below meth c H locs 0 0 (MQ below (va_Qv (fun (u : (Nat → Nat) × Nat) => vl 65536 (fun i => u.1 (c0 * 80 + i)) u.2 = a ∧ u.2 ≤ 4 ∧ (u.2 = 0 ∨ u.1 (c0 * 80 + (u.2 - 1)) ≠ 0) ∧ (∀ i, i < 319840 → u.1 i < 65536) ∧ ∀ i, i < c0 * 80 ∨ c0 * 80 + 80 ≤ i → u.1 i = dg i) (Po G k A (fun u => [(h0, .inr (8, moL ma iv co)), ((ma 21), .inl (k 0, 319840, .inl (fun i => nI (u.1 i)))), ((ma 22), .inl (k 0, 3998, .inl (fun i => nI ((va_up sz c0 u.2) i)))), ((ma 23), .inl (k 2, 3998, .inl (fun i => nI ((va_up bl c0 0) i))))])) A) [Value.ref h0, Value.int (nI c0), Value.long (lN a)].toArray s 0 0 A) (F0 m 17 ls []) := by
      intro t ht U hI H locs S ls hl
      have e0 := hI.1
      rw [Nat.zero_mul, Nat.add_zero] at e0
      refine lv_lload hx hb d_Mo_put_17 (lv_at hl 1 rfl) ?_
      refine lv_lconst (v := 0) hx hb d_Mo_put_19 (by decide) ?_
      refine W.lcmp hx hb d_Mo_put_20 ?_
      refine lv_if_le (tgt := 56) hx hb d_Mo_put_21 (by decide) (fun _ => ?_) (fun hq => absurd ((lg_cmp_le (lN 0) 0).mpr (by decide)) hq)
      refine lv_aload_n hx hb d_Mo_put_56 rfl (lv_at hl 2 rfl) ?_
      refine r_get C K S 0 rfl rfl clOk_Mo 42 (by decide) wf_Mo_86 (v := .ref (ma 22)) rfl d_Mo_put_57 ?_
      refine lv_iload_n hx hb d_Mo_put_60 rfl (lv_at hl 3 rfl) ?_
      refine lv_iload hx hb d_Mo_put_61 (lv_at hl 0 rfl) ?_
      refine r_iast C K S 2 rfl (i := (nI c0)) (x := (nI t)) (vp_in_nI (by omega) (by decide)) (f' := fun i => nI (va_up sz c0 t i)) (ws' := [(h0, .inr (8, moL ma iv co)), ((ma 21), .inl (k 0, 319840, .inl (fun i => nI (U i)))), ((ma 22), .inl (k 0, 3998, .inl (fun i => nI (va_up sz c0 t i)))), ((ma 23), .inl (k 2, 3998, .inl (fun i => nI (bl i))))]) (upd_nI sz (by omega) _) rfl d_Mo_put_63 (fun H locs S => ?_)
      refine lv_aload_n hx hb d_Mo_put_64 rfl (lv_at hl 2 rfl) ?_
      refine r_get C K S 0 rfl rfl clOk_Mo 43 (by decide) wf_Mo_89 (v := .ref (ma 23)) rfl d_Mo_put_65 ?_
      refine lv_iload_n hx hb d_Mo_put_68 rfl (lv_at hl 3 rfl) ?_
      refine lv_lload_n hx hb d_Mo_put_69 rfl (lv_at hl 4 rfl) ?_
      refine lv_lconst (v := 0) hx hb d_Mo_put_70 (by decide) ?_
      refine W.lcmp hx hb d_Mo_put_71 ?_
      refine lv_if_ge (tgt := 79) hx hb d_Mo_put_72 (by decide) (fun _ => ?_) (fun hq => absurd ((lg_cmp_ge _ _).mpr (lN_nonneg ha)) hq)
      refine lv_iconst (v := 0) hx hb d_Mo_put_79 (by decide) ?_
      refine r_zast C K S 3 rfl (i := (nI c0)) (x := 0) (vp_in_nI (by omega) (by decide)) (f' := fun i => nI (va_up bl c0 0 i)) (ws' := [(h0, .inr (8, moL ma iv co)), ((ma 21), .inl (k 0, 319840, .inl (fun i => nI (U i)))), ((ma 22), .inl (k 0, 3998, .inl (fun i => nI (va_up sz c0 t i)))), ((ma 23), .inl (k 2, 3998, .inl (fun i => nI (va_up bl c0 0 i))))]) (upd_Z bl (v := 0) (by omega) (by omega)) rfl d_Mo_put_80 (fun H locs S => ?_)
      exact r_vret C K (U, t) ⟨e0, ht, hI.2.1.resolve_left (by omega), hI.2.2.1, hI.2.2.2⟩ (S.sub [0, 1, 2, 3] (by decide) rfl) d_Mo_put_81 (Nat.le_of_ble_eq_true rfl) (Nat.le_of_ble_eq_true rfl)
    intro f
    induction f with
    | zero =>
      intro t r9 ht hr _ U hI H locs S ls hl
      have : r9 = 0 := by rw [Nat.pow_zero] at hr; omega
      subst this
      exact stop t (by omega) U hI H locs S ls hl
    | succ f ih =>
      intro t r9 ht hr hr2 U hI H locs S ls hl
      by_cases z : r9 = 0
      · subst z
        exact stop t (by omega) U hI H locs S ls hl
      have rp : 0 < r9 := by omega
      refine lv_lload hx hb d_Mo_put_17 (lv_at hl 1 rfl) ?_
      refine lv_lconst (v := 0) hx hb d_Mo_put_19 (by decide) ?_
      refine W.lcmp hx hb d_Mo_put_20 ?_
      refine lv_if_le (tgt := 56) hx hb d_Mo_put_21 (by decide) (fun hq => absurd hq (fun e9 => lN_pos hr2 rp ((lg_cmp_le _ _).mp e9))) (fun _ => ?_)
      refine lv_aload_n hx hb d_Mo_put_24 rfl (lv_at hl 2 rfl) ?_
      refine r_get C K S 0 rfl rfl clOk_Mo 41 (by decide) wf_Mo_83 (v := .ref (ma 21)) rfl d_Mo_put_25 ?_
      refine lv_iload_n hx hb d_Mo_put_28 rfl (lv_at hl 3 rfl) ?_
      refine lv_bipush (v := 80) hx hb d_Mo_put_29 (by decide) ?_
      refine lv_imul hx hb d_Mo_put_31 ?_
      rw [show nI c0 * (80 : Int32) = nI (c0 * 80) from pk_mul c0 80]
      refine lv_iload hx hb d_Mo_put_32 (lv_at hl 0 rfl) ?_
      refine lv_iadd hx hb d_Mo_put_34 ?_
      rw [nI_add]
      refine lv_lload hx hb d_Mo_put_35 (lv_at hl 1 rfl) ?_
      refine lv_ldc2 (v := 65535) hx hb C.2.2.2.1 (C.2.2.2.2.1 _ wk_Mo_276) d_Mo_put_37 ?_
      refine lv_land hx hb d_Mo_put_40 ?_
      rw [show lN r9 &&& (65535 : Int64) = lN (r9 % 65536) from g_mask (s := 16) (p := 65536) (by decide) (by decide) (by omega)]
      refine lv_l2i (v := (nI (r9 % 65536))) hx hb d_Mo_put_41 (lN_i _) ?_
      refine r_iast C K S 1 rfl (i := nI (c0 * 80 + t)) (x := (nI (r9 % 65536))) (vp_in_nI (by omega) (by decide)) (f' := fun i => nI (va_up U (c0 * 80 + t) (r9 % 65536) i)) (ws' := [(h0, .inr (8, moL ma iv co)), ((ma 21), .inl (k 0, 319840, .inl (fun i => nI (va_up U (c0 * 80 + t) (r9 % 65536) i)))), ((ma 22), .inl (k 0, 3998, .inl (fun i => nI (sz i)))), ((ma 23), .inl (k 2, 3998, .inl (fun i => nI (bl i))))]) (upd_nI U (by omega) _) rfl d_Mo_put_42 (fun H locs S => ?_)
      refine lv_lload hx hb d_Mo_put_43 (lv_at hl 1 rfl) ?_
      refine lv_bipush (v := 16) hx hb d_Mo_put_45 (by decide) ?_
      refine lv_lshr (v := (lN (r9 / 65536))) hx hb d_Mo_put_47 (shr16 hr2 (by decide)) ?_
      refine lv_lstore (lv' := [(4, .long (lN (r9 / 65536))), (6, .int (nI t)), (0, .ref h0), (1, .int (nI c0)), (2, .long (lN a))]) hx hb d_Mo_put_48 hl (by decide) rfl (fun ls hl => ?_)
      refine lv_iinc (v := nI (t + 1)) (lv' := [(6, .int (nI (t + 1))), (4, .long (lN (r9 / 65536))), (0, .ref h0), (1, .int (nI c0)), (2, .long (lN a))]) hx hb d_Mo_put_50 hl (k := 1) rfl (nI_1 t) (by decide) rfl (fun ls hl => ?_)
      refine lv_goto (tgt := 17) hx hb d_Mo_put_53 (by decide) ?_
      refine ih (t + 1) (r9 / 65536) (by omega) ((Nat.div_lt_iff_lt_mul (by decide)).mpr (by rw [← Nat.pow_succ]; exact hr)) (by omega) (va_up U (c0 * 80 + t) (r9 % 65536)) ⟨?_, ?_, ?_, ?_⟩ _ _ S ls (lv_sub hl [0, 1, 2, 3, 4] rfl)
      · rw [vl_s, va_up_self, vl_congr (h := fun i => U (c0 * 80 + i)) t (fun i hi => va_up_ne U _ (by omega)), Nat.pow_succ, ← hI.1]
        have e2 := Nat.mod_add_div r9 65536
        have e3 : (r9 % 65536 + 65536 * (r9 / 65536)) * 65536 ^ t = r9 * 65536 ^ t := by rw [e2]
        rw [Nat.add_mul] at e3
        have e4 : r9 / 65536 * (65536 ^ t * 65536) = 65536 * (r9 / 65536) * 65536 ^ t := by rw [Nat.mul_comm (65536 ^ t), ← Nat.mul_assoc, Nat.mul_comm (r9 / 65536)]
        rw [e4]
        omega
      · by_cases y : 0 < r9 / 65536
        · exact Or.inl y
        · refine Or.inr (Or.inr ?_)
          rw [Nat.add_sub_cancel, va_up_self]
          omega
      · intro i hi
        by_cases w : i = c0 * 80 + t
        · rw [w, va_up_self]; exact Nat.mod_lt _ (by decide)
        · rw [va_up_ne U _ w]; exact hI.2.2.1 i hi
      · intro i hi
        rw [va_up_ne U _ (by omega)]
        exact hI.2.2.2 i hi
  refine lv_lload_n hx hb d_Mo_put_0 rfl (lv_at hl 2 rfl) ?_
  refine lv_lconst (v := 0) hx hb d_Mo_put_1 (by decide) ?_
  refine W.lcmp hx hb d_Mo_put_2 ?_
  refine lv_if_ge (tgt := 11) hx hb d_Mo_put_3 (by decide) (fun _ => ?_) (fun hq => absurd ((lg_cmp_ge _ _).mpr (lN_nonneg ha)) hq)
  refine lv_lload_n hx hb d_Mo_put_11 rfl (lv_at hl 2 rfl) ?_
  refine lv_lstore (lv' := [(4, .long (lN a)), (0, .ref h0), (1, .int (nI c0)), (2, .long (lN a))]) hx hb d_Mo_put_12 hl (by decide) rfl (fun ls hl => ?_)
  refine lv_iconst (v := 0) hx hb d_Mo_put_14 (by decide) ?_
  refine lv_istore (lv' := [(6, .int 0), (4, .long (lN a)), (0, .ref h0), (1, .int (nI c0)), (2, .long (lN a))]) hx hb d_Mo_put_15 hl (by decide) rfl (fun ls hl => ?_)
  exact loop 4 0 a (by omega) (by omega) ha dg ⟨by simp [vl], by omega, hdg, fun _ _ => rfl⟩ _ _ S ls (lv_sub hl [0, 1, 2, 3, 4] rfl)
set_option maxRecDepth 100000 in
set_option maxHeartbeats 8000000 in
/-- put(c0, -a) -/
theorem g_Mo_put_n (l : Launch) (G : va_G) (k : Nat → ClassId) (h0 s0 c0 a : Nat) (ma : Nat → Nat) (iv : Nat → Int32) (co : Int64) (dg sz bl : Nat → Nat) (kc : c0 < 3998) (ha : a < 9223372036854775808) (hp : 0 < a) (hdg : ∀ i, i < 319840 → dg i < 65536) : CV l y_Mo_put c_Mo_put 7 { frames := 0, cells := 0, slots := 0, locals := 0 } [.ref h0, .int (nI c0), .long (-lN a)] G k s0 [(h0, .inr (8, moL ma iv co)), ((ma 21), .inl (k 0, 319840, .inl (fun i => nI (dg i)))), ((ma 22), .inl (k 0, 3998, .inl (fun i => nI (sz i)))), ((ma 23), .inl (k 2, 3998, .inl (fun i => nI (bl i))))] (fun (u : (Nat → Nat) × Nat) => vl 65536 (fun i => u.1 (c0 * 80 + i)) u.2 = a ∧ u.2 ≤ 4 ∧ (u.2 = 0 ∨ u.1 (c0 * 80 + (u.2 - 1)) ≠ 0) ∧ (∀ i, i < 319840 → u.1 i < 65536) ∧ ∀ i, i < c0 * 80 ∨ c0 * 80 + 80 ≤ i → u.1 i = dg i) (fun u => [(h0, .inr (8, moL ma iv co)), ((ma 21), .inl (k 0, 319840, .inl (fun i => nI (u.1 i)))), ((ma 22), .inl (k 0, 3998, .inl (fun i => nI ((va_up sz c0 u.2) i)))), ((ma 23), .inl (k 2, 3998, .inl (fun i => nI ((va_up bl c0 1) i))))]) 0 0 := by
  refine met_start (by decide) (Nat.le_of_ble_eq_true rfl) ?_
  intro p e s m below meth c C K hA hsz S ls hl
  generalize va_A [(h0, .inr (8, moL ma iv co)), ((ma 21), .inl (k 0, 319840, .inl (fun i => nI (dg i)))), ((ma 22), .inl (k 0, 3998, .inl (fun i => nI (sz i)))), ((ma 23), .inl (k 2, 3998, .inl (fun i => nI (bl i))))] s0 = A at hA S ⊢
  have hx := C.1
  have hb := C.2.1
  have hl : lv_has ls 7 [(0, .ref h0), (1, .int (nI c0)), (2, .long (-lN a))] := hl
  have loop : ∀ f t r9, t + f = 4 → r9 < 65536 ^ f → r9 < 9223372036854775808 → ∀ U : Nat → Nat, (vl 65536 (fun i => U (c0 * 80 + i)) t + r9 * 65536 ^ t = a ∧ (0 < r9 ∨ t = 0 ∨ U (c0 * 80 + (t - 1)) ≠ 0) ∧ (∀ i, i < 319840 → U i < 65536) ∧ ∀ i, i < c0 * 80 ∨ c0 * 80 + 80 ≤ i → U i = dg i) → ∀ (H : Heap) (locs : List Loc), Sw G A s.heap H locs [(h0, .inr (8, moL ma iv co)), ((ma 21), .inl (k 0, 319840, .inl (fun i => nI (U i)))), ((ma 22), .inl (k 0, 3998, .inl (fun i => nI (sz i)))), ((ma 23), .inl (k 2, 3998, .inl (fun i => nI (bl i))))] → ∀ ls : Array Slot, lv_has ls 7 [(6, .int (nI t)), (4, .long (lN r9)), (0, .ref h0), (1, .int (nI c0)), (2, .long (-lN a))] → W p l e { frames := 0, cells := 0, slots := 0, locals := 0 } s m [Value.ref h0, Value.int (nI c0), Value.long (-lN a)].toArray below meth c H locs 0 0 (MQ below (va_Qv (fun (u : (Nat → Nat) × Nat) => vl 65536 (fun i => u.1 (c0 * 80 + i)) u.2 = a ∧ u.2 ≤ 4 ∧ (u.2 = 0 ∨ u.1 (c0 * 80 + (u.2 - 1)) ≠ 0) ∧ (∀ i, i < 319840 → u.1 i < 65536) ∧ ∀ i, i < c0 * 80 ∨ c0 * 80 + 80 ≤ i → u.1 i = dg i) (Po G k A (fun u => [(h0, .inr (8, moL ma iv co)), ((ma 21), .inl (k 0, 319840, .inl (fun i => nI (u.1 i)))), ((ma 22), .inl (k 0, 3998, .inl (fun i => nI ((va_up sz c0 u.2) i)))), ((ma 23), .inl (k 2, 3998, .inl (fun i => nI ((va_up bl c0 1) i))))])) A) [Value.ref h0, Value.int (nI c0), Value.long (-lN a)].toArray s 0 0 A) (F0 m 17 ls []) := by
    have stop : ∀ t, t ≤ 4 → ∀ U : Nat → Nat, (vl 65536 (fun i => U (c0 * 80 + i)) t + 0 * 65536 ^ t = a ∧ (0 < 0 ∨ t = 0 ∨ U (c0 * 80 + (t - 1)) ≠ 0) ∧ (∀ i, i < 319840 → U i < 65536) ∧ ∀ i, i < c0 * 80 ∨ c0 * 80 + 80 ≤ i → U i = dg i) → ∀ (H : Heap) (locs : List Loc), Sw G A s.heap H locs [(h0, .inr (8, moL ma iv co)), ((ma 21), .inl (k 0, 319840, .inl (fun i => nI (U i)))), ((ma 22), .inl (k 0, 3998, .inl (fun i => nI (sz i)))), ((ma 23), .inl (k 2, 3998, .inl (fun i => nI (bl i))))] → ∀ ls : Array Slot, lv_has ls 7 [(6, .int (nI t)), (4, .long (lN 0)), (0, .ref h0), (1, .int (nI c0)), (2, .long (-lN a))] → W p l e { frames := 0, cells := 0, slots := 0, locals := 0 } s m [Value.ref h0, Value.int (nI c0), Value.long (-lN a)].toArray below meth c H locs 0 0 (MQ below (va_Qv (fun (u : (Nat → Nat) × Nat) => vl 65536 (fun i => u.1 (c0 * 80 + i)) u.2 = a ∧ u.2 ≤ 4 ∧ (u.2 = 0 ∨ u.1 (c0 * 80 + (u.2 - 1)) ≠ 0) ∧ (∀ i, i < 319840 → u.1 i < 65536) ∧ ∀ i, i < c0 * 80 ∨ c0 * 80 + 80 ≤ i → u.1 i = dg i) (Po G k A (fun u => [(h0, .inr (8, moL ma iv co)), ((ma 21), .inl (k 0, 319840, .inl (fun i => nI (u.1 i)))), ((ma 22), .inl (k 0, 3998, .inl (fun i => nI ((va_up sz c0 u.2) i)))), ((ma 23), .inl (k 2, 3998, .inl (fun i => nI ((va_up bl c0 1) i))))])) A) [Value.ref h0, Value.int (nI c0), Value.long (-lN a)].toArray s 0 0 A) (F0 m 17 ls []) := by
      intro t ht U hI H locs S ls hl
      have e0 := hI.1
      rw [Nat.zero_mul, Nat.add_zero] at e0
      refine lv_lload hx hb d_Mo_put_17 (lv_at hl 1 rfl) ?_
      refine lv_lconst (v := 0) hx hb d_Mo_put_19 (by decide) ?_
      refine W.lcmp hx hb d_Mo_put_20 ?_
      refine lv_if_le (tgt := 56) hx hb d_Mo_put_21 (by decide) (fun _ => ?_) (fun hq => absurd ((lg_cmp_le (lN 0) 0).mpr (by decide)) hq)
      refine lv_aload_n hx hb d_Mo_put_56 rfl (lv_at hl 2 rfl) ?_
      refine r_get C K S 0 rfl rfl clOk_Mo 42 (by decide) wf_Mo_86 (v := .ref (ma 22)) rfl d_Mo_put_57 ?_
      refine lv_iload_n hx hb d_Mo_put_60 rfl (lv_at hl 3 rfl) ?_
      refine lv_iload hx hb d_Mo_put_61 (lv_at hl 0 rfl) ?_
      refine r_iast C K S 2 rfl (i := (nI c0)) (x := (nI t)) (vp_in_nI (by omega) (by decide)) (f' := fun i => nI (va_up sz c0 t i)) (ws' := [(h0, .inr (8, moL ma iv co)), ((ma 21), .inl (k 0, 319840, .inl (fun i => nI (U i)))), ((ma 22), .inl (k 0, 3998, .inl (fun i => nI (va_up sz c0 t i)))), ((ma 23), .inl (k 2, 3998, .inl (fun i => nI (bl i))))]) (upd_nI sz (by omega) _) rfl d_Mo_put_63 (fun H locs S => ?_)
      refine lv_aload_n hx hb d_Mo_put_64 rfl (lv_at hl 2 rfl) ?_
      refine r_get C K S 0 rfl rfl clOk_Mo 43 (by decide) wf_Mo_89 (v := .ref (ma 23)) rfl d_Mo_put_65 ?_
      refine lv_iload_n hx hb d_Mo_put_68 rfl (lv_at hl 3 rfl) ?_
      refine lv_lload_n hx hb d_Mo_put_69 rfl (lv_at hl 4 rfl) ?_
      refine lv_lconst (v := 0) hx hb d_Mo_put_70 (by decide) ?_
      refine W.lcmp hx hb d_Mo_put_71 ?_
      refine lv_if_ge (tgt := 79) hx hb d_Mo_put_72 (by decide) (fun hq => absurd hq (fun e9 => lN_neg0 ha hp ((lg_cmp_ge _ _).mp e9))) (fun _ => ?_)
      refine lv_iconst (v := 1) hx hb d_Mo_put_75 (by decide) ?_
      refine lv_goto (tgt := 80) hx hb d_Mo_put_76 (by decide) ?_
      refine r_zast C K S 3 rfl (i := (nI c0)) (x := 1) (vp_in_nI (by omega) (by decide)) (f' := fun i => nI (va_up bl c0 1 i)) (ws' := [(h0, .inr (8, moL ma iv co)), ((ma 21), .inl (k 0, 319840, .inl (fun i => nI (U i)))), ((ma 22), .inl (k 0, 3998, .inl (fun i => nI (va_up sz c0 t i)))), ((ma 23), .inl (k 2, 3998, .inl (fun i => nI (va_up bl c0 1 i))))]) (upd_Z bl (v := 1) (by omega) (by omega)) rfl d_Mo_put_80 (fun H locs S => ?_)
      exact r_vret C K (U, t) ⟨e0, ht, hI.2.1.resolve_left (by omega), hI.2.2.1, hI.2.2.2⟩ (S.sub [0, 1, 2, 3] (by decide) rfl) d_Mo_put_81 (Nat.le_of_ble_eq_true rfl) (Nat.le_of_ble_eq_true rfl)
    intro f
    induction f with
    | zero =>
      intro t r9 ht hr _ U hI H locs S ls hl
      have : r9 = 0 := by rw [Nat.pow_zero] at hr; omega
      subst this
      exact stop t (by omega) U hI H locs S ls hl
    | succ f ih =>
      intro t r9 ht hr hr2 U hI H locs S ls hl
      by_cases z : r9 = 0
      · subst z
        exact stop t (by omega) U hI H locs S ls hl
      have rp : 0 < r9 := by omega
      refine lv_lload hx hb d_Mo_put_17 (lv_at hl 1 rfl) ?_
      refine lv_lconst (v := 0) hx hb d_Mo_put_19 (by decide) ?_
      refine W.lcmp hx hb d_Mo_put_20 ?_
      refine lv_if_le (tgt := 56) hx hb d_Mo_put_21 (by decide) (fun hq => absurd hq (fun e9 => lN_pos hr2 rp ((lg_cmp_le _ _).mp e9))) (fun _ => ?_)
      refine lv_aload_n hx hb d_Mo_put_24 rfl (lv_at hl 2 rfl) ?_
      refine r_get C K S 0 rfl rfl clOk_Mo 41 (by decide) wf_Mo_83 (v := .ref (ma 21)) rfl d_Mo_put_25 ?_
      refine lv_iload_n hx hb d_Mo_put_28 rfl (lv_at hl 3 rfl) ?_
      refine lv_bipush (v := 80) hx hb d_Mo_put_29 (by decide) ?_
      refine lv_imul hx hb d_Mo_put_31 ?_
      rw [show nI c0 * (80 : Int32) = nI (c0 * 80) from pk_mul c0 80]
      refine lv_iload hx hb d_Mo_put_32 (lv_at hl 0 rfl) ?_
      refine lv_iadd hx hb d_Mo_put_34 ?_
      rw [nI_add]
      refine lv_lload hx hb d_Mo_put_35 (lv_at hl 1 rfl) ?_
      refine lv_ldc2 (v := 65535) hx hb C.2.2.2.1 (C.2.2.2.2.1 _ wk_Mo_276) d_Mo_put_37 ?_
      refine lv_land hx hb d_Mo_put_40 ?_
      rw [show lN r9 &&& (65535 : Int64) = lN (r9 % 65536) from g_mask (s := 16) (p := 65536) (by decide) (by decide) (by omega)]
      refine lv_l2i (v := (nI (r9 % 65536))) hx hb d_Mo_put_41 (lN_i _) ?_
      refine r_iast C K S 1 rfl (i := nI (c0 * 80 + t)) (x := (nI (r9 % 65536))) (vp_in_nI (by omega) (by decide)) (f' := fun i => nI (va_up U (c0 * 80 + t) (r9 % 65536) i)) (ws' := [(h0, .inr (8, moL ma iv co)), ((ma 21), .inl (k 0, 319840, .inl (fun i => nI (va_up U (c0 * 80 + t) (r9 % 65536) i)))), ((ma 22), .inl (k 0, 3998, .inl (fun i => nI (sz i)))), ((ma 23), .inl (k 2, 3998, .inl (fun i => nI (bl i))))]) (upd_nI U (by omega) _) rfl d_Mo_put_42 (fun H locs S => ?_)
      refine lv_lload hx hb d_Mo_put_43 (lv_at hl 1 rfl) ?_
      refine lv_bipush (v := 16) hx hb d_Mo_put_45 (by decide) ?_
      refine lv_lshr (v := (lN (r9 / 65536))) hx hb d_Mo_put_47 (shr16 hr2 (by decide)) ?_
      refine lv_lstore (lv' := [(4, .long (lN (r9 / 65536))), (6, .int (nI t)), (0, .ref h0), (1, .int (nI c0)), (2, .long (-lN a))]) hx hb d_Mo_put_48 hl (by decide) rfl (fun ls hl => ?_)
      refine lv_iinc (v := nI (t + 1)) (lv' := [(6, .int (nI (t + 1))), (4, .long (lN (r9 / 65536))), (0, .ref h0), (1, .int (nI c0)), (2, .long (-lN a))]) hx hb d_Mo_put_50 hl (k := 1) rfl (nI_1 t) (by decide) rfl (fun ls hl => ?_)
      refine lv_goto (tgt := 17) hx hb d_Mo_put_53 (by decide) ?_
      refine ih (t + 1) (r9 / 65536) (by omega) ((Nat.div_lt_iff_lt_mul (by decide)).mpr (by rw [← Nat.pow_succ]; exact hr)) (by omega) (va_up U (c0 * 80 + t) (r9 % 65536)) ⟨?_, ?_, ?_, ?_⟩ _ _ S ls (lv_sub hl [0, 1, 2, 3, 4] rfl)
      · rw [vl_s, va_up_self, vl_congr (h := fun i => U (c0 * 80 + i)) t (fun i hi => va_up_ne U _ (by omega)), Nat.pow_succ, ← hI.1]
        have e2 := Nat.mod_add_div r9 65536
        have e3 : (r9 % 65536 + 65536 * (r9 / 65536)) * 65536 ^ t = r9 * 65536 ^ t := by rw [e2]
        rw [Nat.add_mul] at e3
        have e4 : r9 / 65536 * (65536 ^ t * 65536) = 65536 * (r9 / 65536) * 65536 ^ t := by rw [Nat.mul_comm (65536 ^ t), ← Nat.mul_assoc, Nat.mul_comm (r9 / 65536)]
        rw [e4]
        omega
      · by_cases y : 0 < r9 / 65536
        · exact Or.inl y
        · refine Or.inr (Or.inr ?_)
          rw [Nat.add_sub_cancel, va_up_self]
          omega
      · intro i hi
        by_cases w : i = c0 * 80 + t
        · rw [w, va_up_self]; exact Nat.mod_lt _ (by decide)
        · rw [va_up_ne U _ w]; exact hI.2.2.1 i hi
      · intro i hi
        rw [va_up_ne U _ (by omega)]
        exact hI.2.2.2 i hi
  refine lv_lload_n hx hb d_Mo_put_0 rfl (lv_at hl 2 rfl) ?_
  refine lv_lconst (v := 0) hx hb d_Mo_put_1 (by decide) ?_
  refine W.lcmp hx hb d_Mo_put_2 ?_
  refine lv_if_ge (tgt := 11) hx hb d_Mo_put_3 (by decide) (fun hq => absurd hq (fun e9 => lN_neg0 ha hp ((lg_cmp_ge _ _).mp e9))) (fun _ => ?_)
  refine lv_lload_n hx hb d_Mo_put_6 rfl (lv_at hl 2 rfl) ?_
  refine lv_lneg hx hb d_Mo_put_7 ?_
  rw [Int64.neg_neg]
  refine lv_goto (tgt := 12) hx hb d_Mo_put_8 (by decide) ?_
  refine lv_lstore (lv' := [(4, .long (lN a)), (0, .ref h0), (1, .int (nI c0)), (2, .long (-lN a))]) hx hb d_Mo_put_12 hl (by decide) rfl (fun ls hl => ?_)
  refine lv_iconst (v := 0) hx hb d_Mo_put_14 (by decide) ?_
  refine lv_istore (lv' := [(6, .int 0), (4, .long (lN a)), (0, .ref h0), (1, .int (nI c0)), (2, .long (-lN a))]) hx hb d_Mo_put_15 hl (by decide) rfl (fun ls hl => ?_)
  exact loop 4 0 a (by omega) (by omega) ha dg ⟨by simp [vl], by omega, hdg, fun _ _ => rfl⟩ _ _ S ls (lv_sub hl [0, 1, 2, 3, 4] rfl)
end
section
/-! bits: rows of kit/laws/BITS.to-paste -/
theorem g_or {k p a b : Nat} (hp : 2 ^ k = p) (ha : a < p) (h : b * p + a < 2 ^ 64) : lN (b * p) ||| lN a = lN (b * p + a) := by
  subst hp
  have h1 : b * 2 ^ k ||| a = b * 2 ^ k + a := by rw [← Nat.shiftLeft_eq, Nat.shiftLeft_add_eq_or_of_lt ha]
  have h3 : UInt64.ofNat (b * 2 ^ k) ||| UInt64.ofNat a = UInt64.ofNat (b * 2 ^ k + a) := UInt64.toNat_inj.mp (by rw [UInt64.toNat_or, u_tn (by omega), u_tn (by omega), u_tn h, h1])
  have h2 := congrArg UInt64.toInt64 h3
  exact h2
theorem g_shl {a k p : Nat} {y : Int64} (hy : y.toBitVec.smod 64 = BitVec.ofNat 64 k) (hk : k < 64) (hp : 2 ^ k = p) (ha : a < 2 ^ 64) : lN a <<< y = lN (a * p) := by
  subst hp
  apply Int64.toBitVec_inj.mp
  rw [Int64.toBitVec_shiftLeft, hy]
  apply BitVec.eq_of_toNat_eq
  have hb : (lN a).toBitVec.toNat = a := Nat.mod_eq_of_lt ha
  have hk' : (BitVec.ofNat 64 k).toNat = k := Nat.mod_eq_of_lt (by omega)
  have h : ((lN a).toBitVec <<< BitVec.ofNat 64 k).toNat = (a * 2 ^ k) % 2 ^ 64 := by simp only [BitVec.shiftLeft_eq', BitVec.toNat_shiftLeft, hb, hk', Nat.shiftLeft_eq]
  exact h
end
section
theorem d_Mo_at_0 : decode c_Mo_at 0 = .ok (.bipush 42, 2) := by decide +kernel
theorem d_Mo_at_2 : decode c_Mo_at 2 = .ok (.iload_n 0, 1) := by decide +kernel
theorem d_Mo_at_3 : decode c_Mo_at 3 = .ok (.imul, 1) := by decide +kernel
theorem d_Mo_at_4 : decode c_Mo_at 4 = .ok (.iload_n 1, 1) := by decide +kernel
theorem d_Mo_at_5 : decode c_Mo_at 5 = .ok (.iadd, 1) := by decide +kernel
theorem d_Mo_at_6 : decode c_Mo_at 6 = .ok (.ireturn, 1) := by decide +kernel
set_option maxRecDepth 100000 in
set_option maxHeartbeats 4000000 in
/-- at(r, c) -/
theorem g_Mo_at (l : Launch) (G : va_G) (k : Nat → ClassId) (s0 : Nat) (r9 c9 : Nat) : CI l y_Mo_at c_Mo_at 2 .int { frames := 0, cells := 0, slots := 0, locals := 0 } [.int (nI r9), .int (nI c9)] G k s0 [] (fun (r : Int32) (_ : Unit) => r = nI (42 * r9 + c9)) (fun _ => []) 0 0 := by
  refine met_start (by decide) (Nat.le_of_ble_eq_true rfl) ?_
  intro p e s m below meth c C K hA hsz S ls hl
  generalize va_A [] s0 = A at hA S ⊢
  have hx := C.1
  have hb := C.2.1
  have hl : lv_has ls 2 [(0, .int (nI r9)), (1, .int (nI c9))] := hl
  refine lv_bipush (v := 42) hx hb d_Mo_at_0 (by decide) ?_
  refine lv_iload_n hx hb d_Mo_at_2 rfl (lv_at hl 0 rfl) ?_
  refine lv_imul hx hb d_Mo_at_3 ?_
  rw [show (42 : Int32) * nI r9 = nI (42 * r9) from pk_mul 42 r9]
  refine lv_iload_n hx hb d_Mo_at_4 rfl (lv_at hl 1 rfl) ?_
  refine lv_iadd hx hb d_Mo_at_5 ?_
  rw [nI_add]
  exact r_iret C K rfl () rfl (S.sub [] rfl rfl) d_Mo_at_6 (Nat.le_of_ble_eq_true rfl) (Nat.le_of_ble_eq_true rfl)
theorem d_Mo_line_0 : decode c_Mo_line 0 = .ok (.bipush 22, 2) := by decide +kernel
theorem d_Mo_line_2 : decode c_Mo_line 2 = .ok (.iload_n 0, 1) := by decide +kernel
theorem d_Mo_line_3 : decode c_Mo_line 3 = .ok (.imul, 1) := by decide +kernel
theorem d_Mo_line_4 : decode c_Mo_line 4 = .ok (.iload_n 1, 1) := by decide +kernel
theorem d_Mo_line_5 : decode c_Mo_line 5 = .ok (.iadd, 1) := by decide +kernel
theorem d_Mo_line_6 : decode c_Mo_line 6 = .ok (.bipush 41, 2) := by decide +kernel
theorem d_Mo_line_8 : decode c_Mo_line 8 = .ok (.imul, 1) := by decide +kernel
theorem d_Mo_line_9 : decode c_Mo_line 9 = .ok (.ireturn, 1) := by decide +kernel
set_option maxRecDepth 100000 in
set_option maxHeartbeats 4000000 in
/-- line(b, w) -/
theorem g_Mo_line (l : Launch) (G : va_G) (k : Nat → ClassId) (s0 : Nat) (b9 w9 : Nat) : CI l y_Mo_line c_Mo_line 2 .int { frames := 0, cells := 0, slots := 0, locals := 0 } [.int (nI b9), .int (nI w9)] G k s0 [] (fun (r : Int32) (_ : Unit) => r = nI ((22 * b9 + w9) * 41)) (fun _ => []) 0 0 := by
  refine met_start (by decide) (Nat.le_of_ble_eq_true rfl) ?_
  intro p e s m below meth c C K hA hsz S ls hl
  generalize va_A [] s0 = A at hA S ⊢
  have hx := C.1
  have hb := C.2.1
  have hl : lv_has ls 2 [(0, .int (nI b9)), (1, .int (nI w9))] := hl
  refine lv_bipush (v := 22) hx hb d_Mo_line_0 (by decide) ?_
  refine lv_iload_n hx hb d_Mo_line_2 rfl (lv_at hl 0 rfl) ?_
  refine lv_imul hx hb d_Mo_line_3 ?_
  rw [show (22 : Int32) * nI b9 = nI (22 * b9) from pk_mul 22 b9]
  refine lv_iload_n hx hb d_Mo_line_4 rfl (lv_at hl 1 rfl) ?_
  refine lv_iadd hx hb d_Mo_line_5 ?_
  rw [nI_add]
  refine lv_bipush (v := 41) hx hb d_Mo_line_6 (by decide) ?_
  refine lv_imul hx hb d_Mo_line_8 ?_
  rw [show nI (22 * b9 + w9) * (41 : Int32) = nI ((22 * b9 + w9) * 41) from pk_mul _ 41]
  exact r_iret C K rfl () rfl (S.sub [] rfl rfl) d_Mo_line_9 (Nat.le_of_ble_eq_true rfl) (Nat.le_of_ble_eq_true rfl)
theorem d_Mo_unknown_0 : decode c_Mo_unknown 0 = .ok (.aload_n 0, 1) := by decide +kernel
theorem d_Mo_unknown_1 : decode c_Mo_unknown 1 = .ok (.getfield 61, 3) := by decide +kernel
theorem d_Mo_unknown_4 : decode c_Mo_unknown 4 = .ok (.iload_n 1, 1) := by decide +kernel
theorem d_Mo_unknown_5 : decode c_Mo_unknown 5 = .ok (.iaload, 1) := by decide +kernel
theorem d_Mo_unknown_6 : decode c_Mo_unknown 6 = .ok (.iload_n 2, 1) := by decide +kernel
theorem d_Mo_unknown_7 : decode c_Mo_unknown 7 = .ok (.iadd, 1) := by decide +kernel
theorem d_Mo_unknown_8 : decode c_Mo_unknown 8 = .ok (.ireturn, 1) := by decide +kernel
set_option maxRecDepth 100000 in
set_option maxHeartbeats 4000000 in
/-- unknown(f, i) -/
theorem g_Mo_unknown (l : Launch) (G : va_G) (k : Nat → ClassId) (h0 s0 : Nat) (ma : Nat → Nat) (iv : Nat → Int32) (co : Int64) (fs : Nat → Nat) (f9 i9 : Nat) (hf : f9 < 4) : CI l y_Mo_unknown c_Mo_unknown 3 .int { frames := 1, cells := 0, slots := 0, locals := 20 } [.ref h0, .int (nI f9), .int (nI i9)] G k s0 [(h0, .inr (8, moL ma iv co)), ((ma 14), .inl (k 0, 4, .inl (fun i => nI (fs i))))] (fun (r : Int32) (u : Unit) => r = nI (fs f9 + i9)) (fun u => [(h0, .inr (8, moL ma iv co)), ((ma 14), .inl (k 0, 4, .inl (fun i => nI (fs i))))]) 0 0 := by
  refine met_start (by decide) (Nat.le_of_ble_eq_true rfl) ?_
  intro p e s m below meth c C K hA hsz S ls hl
  generalize va_A [(h0, .inr (8, moL ma iv co)), ((ma 14), .inl (k 0, 4, .inl (fun i => nI (fs i))))] s0 = A at hA S ⊢
  have hx := C.1
  have hb := C.2.1
  have hl : lv_has ls 3 [(0, .ref h0), (1, .int (nI f9)), (2, .int (nI i9))] := hl
  refine lv_aload_n hx hb d_Mo_unknown_0 rfl (lv_at hl 0 rfl) ?_
  refine r_get C K S 0 rfl rfl clOk_Mo 32 (by decide) wf_Mo_61 (v := .ref (ma 14)) rfl d_Mo_unknown_1 ?_
  refine lv_iload_n hx hb d_Mo_unknown_4 rfl (lv_at hl 1 rfl) ?_
  refine r_iald C K S 1 rfl (i := (nI f9)) (vp_in_nI (by omega) (by decide)) (v := (nI (fs f9))) (by rw [nI_clamp (by omega)]) d_Mo_unknown_5 ?_
  refine lv_iload_n hx hb d_Mo_unknown_6 rfl (lv_at hl 2 rfl) ?_
  refine lv_iadd hx hb d_Mo_unknown_7 ?_
  rw [nI_add]
  exact r_iret C K rfl () rfl (S.sub [0, 1] (by decide) rfl) d_Mo_unknown_8 (Nat.le_of_ble_eq_true rfl) (Nat.le_of_ble_eq_true rfl)
end
section
theorem lsub2 (a b c : Nat) : lN a - lN b - lN c = lN a - lN (b + c) := by
  rw [← lN_add]
  simp only [Int64.sub_eq_add_neg, Int64.neg_add, Int64.add_assoc]
theorem dg_shape {O Dv : Nat → Nat} {k9 n : Nat} (hn : 2 ≤ n) (hn8 : n ≤ 80) (hk : k9 + n ≤ 168) (dO : ∀ i, i < 170 → O i < 65536) (dD : ∀ i, i < 170 → Dv i < 65536) : ∃ P w z, 0 < P ∧ w < P ∧ z < P ∧ vl 65536 Dv n = (Dv (n - 1) * 65536 + Dv (n - 2)) * P + w ∧ vl 65536 (fun i => O (k9 + i)) (n + 1) = ((O (k9 + n) * 65536 + O (k9 + n - 1)) * 65536 + O (k9 + n - 2)) * P + z := by
  obtain ⟨m, rfl⟩ : ∃ m, n = m + 2 := ⟨n - 2, by omega⟩
  refine ⟨65536 ^ m, vl 65536 Dv m, vl 65536 (fun i => O (k9 + i)) m, Nat.pow_pos (by decide), vl_lt m (fun i hi => dD i (by omega)), vl_lt m (fun i hi => dO _ (by omega)), ?_, ?_⟩
  · rw [vl_s, vl_s, show m + 2 - 1 = m + 1 from rfl, show m + 2 - 2 = m from rfl, Nat.pow_succ, Nat.add_mul, Nat.mul_comm (65536 ^ m) 65536, ← Nat.mul_assoc]
    omega
  · rw [vl_s, vl_s, vl_s, show k9 + (m + 2) - 1 = k9 + (m + 1) from rfl, show k9 + (m + 2) - 2 = k9 + m from rfl]
    have e1 : O (k9 + (m + 1)) * 65536 ^ (m + 1) = O (k9 + (m + 1)) * 65536 * 65536 ^ m := by rw [Nat.pow_succ, Nat.mul_comm (65536 ^ m), ← Nat.mul_assoc]
    have e2 : O (k9 + (m + 2)) * 65536 ^ (m + 2) = O (k9 + (m + 2)) * 65536 * 65536 * 65536 ^ m := by rw [Nat.pow_succ, Nat.pow_succ, Nat.mul_assoc (65536 ^ m), Nat.mul_comm (65536 ^ m), ← Nat.mul_assoc, ← Nat.mul_assoc]
    rw [e1, e2, Nat.add_mul, Nat.add_mul, Nat.add_mul]
    omega
theorem d_Mo_digit_0 : decode c_Mo_digit 0 = .ok (.aload_n 0, 1) := by decide +kernel
theorem d_Mo_digit_1 : decode c_Mo_digit 1 = .ok (.getfield 93, 3) := by decide +kernel
theorem d_Mo_digit_4 : decode c_Mo_digit 4 = .ok (.iload_n 1, 1) := by decide +kernel
theorem d_Mo_digit_5 : decode c_Mo_digit 5 = .ok (.iload_n 2, 1) := by decide +kernel
theorem d_Mo_digit_6 : decode c_Mo_digit 6 = .ok (.iadd, 1) := by decide +kernel
theorem d_Mo_digit_7 : decode c_Mo_digit 7 = .ok (.iaload, 1) := by decide +kernel
theorem d_Mo_digit_8 : decode c_Mo_digit 8 = .ok (.i2l, 1) := by decide +kernel
theorem d_Mo_digit_9 : decode c_Mo_digit 9 = .ok (.bipush 16, 2) := by decide +kernel
theorem d_Mo_digit_11 : decode c_Mo_digit 11 = .ok (.lshl, 1) := by decide +kernel
theorem d_Mo_digit_12 : decode c_Mo_digit 12 = .ok (.aload_n 0, 1) := by decide +kernel
theorem d_Mo_digit_13 : decode c_Mo_digit 13 = .ok (.getfield 93, 3) := by decide +kernel
theorem d_Mo_digit_16 : decode c_Mo_digit 16 = .ok (.iload_n 1, 1) := by decide +kernel
theorem d_Mo_digit_17 : decode c_Mo_digit 17 = .ok (.iload_n 2, 1) := by decide +kernel
theorem d_Mo_digit_18 : decode c_Mo_digit 18 = .ok (.iadd, 1) := by decide +kernel
theorem d_Mo_digit_19 : decode c_Mo_digit 19 = .ok (.iconst 1, 1) := by decide +kernel
theorem d_Mo_digit_20 : decode c_Mo_digit 20 = .ok (.isub, 1) := by decide +kernel
theorem d_Mo_digit_21 : decode c_Mo_digit 21 = .ok (.iaload, 1) := by decide +kernel
theorem d_Mo_digit_22 : decode c_Mo_digit 22 = .ok (.i2l, 1) := by decide +kernel
theorem d_Mo_digit_23 : decode c_Mo_digit 23 = .ok (.lor, 1) := by decide +kernel
theorem d_Mo_digit_24 : decode c_Mo_digit 24 = .ok (.lstore_n 3, 1) := by decide +kernel
theorem d_Mo_digit_25 : decode c_Mo_digit 25 = .ok (.lload_n 3, 1) := by decide +kernel
theorem d_Mo_digit_26 : decode c_Mo_digit 26 = .ok (.aload_n 0, 1) := by decide +kernel
theorem d_Mo_digit_27 : decode c_Mo_digit 27 = .ok (.getfield 102, 3) := by decide +kernel
theorem d_Mo_digit_30 : decode c_Mo_digit 30 = .ok (.iload_n 2, 1) := by decide +kernel
theorem d_Mo_digit_31 : decode c_Mo_digit 31 = .ok (.iconst 1, 1) := by decide +kernel
theorem d_Mo_digit_32 : decode c_Mo_digit 32 = .ok (.isub, 1) := by decide +kernel
theorem d_Mo_digit_33 : decode c_Mo_digit 33 = .ok (.iaload, 1) := by decide +kernel
theorem d_Mo_digit_34 : decode c_Mo_digit 34 = .ok (.i2l, 1) := by decide +kernel
theorem d_Mo_digit_35 : decode c_Mo_digit 35 = .ok (.ldiv, 1) := by decide +kernel
theorem d_Mo_digit_36 : decode c_Mo_digit 36 = .ok (.lstore 5, 2) := by decide +kernel
theorem d_Mo_digit_38 : decode c_Mo_digit 38 = .ok (.lload 5, 2) := by decide +kernel
theorem d_Mo_digit_40 : decode c_Mo_digit 40 = .ok (.ldc2_w 276, 3) := by decide +kernel
theorem d_Mo_digit_43 : decode c_Mo_digit 43 = .ok (.lcmp, 1) := by decide +kernel
theorem d_Mo_digit_44 : decode c_Mo_digit 44 = .ok (.ifCond .le 8, 3) := by decide +kernel
theorem d_Mo_digit_47 : decode c_Mo_digit 47 = .ok (.ldc2_w 276, 3) := by decide +kernel
theorem d_Mo_digit_50 : decode c_Mo_digit 50 = .ok (.lstore 5, 2) := by decide +kernel
theorem d_Mo_digit_52 : decode c_Mo_digit 52 = .ok (.iload_n 2, 1) := by decide +kernel
theorem d_Mo_digit_53 : decode c_Mo_digit 53 = .ok (.iconst 1, 1) := by decide +kernel
theorem d_Mo_digit_54 : decode c_Mo_digit 54 = .ok (.if_icmp .le 78, 3) := by decide +kernel
theorem d_Mo_digit_57 : decode c_Mo_digit 57 = .ok (.lload 5, 2) := by decide +kernel
theorem d_Mo_digit_59 : decode c_Mo_digit 59 = .ok (.aload_n 0, 1) := by decide +kernel
theorem d_Mo_digit_60 : decode c_Mo_digit 60 = .ok (.getfield 102, 3) := by decide +kernel
theorem d_Mo_digit_63 : decode c_Mo_digit 63 = .ok (.iload_n 2, 1) := by decide +kernel
theorem d_Mo_digit_64 : decode c_Mo_digit 64 = .ok (.iconst 2, 1) := by decide +kernel
theorem d_Mo_digit_65 : decode c_Mo_digit 65 = .ok (.isub, 1) := by decide +kernel
theorem d_Mo_digit_66 : decode c_Mo_digit 66 = .ok (.iaload, 1) := by decide +kernel
theorem d_Mo_digit_67 : decode c_Mo_digit 67 = .ok (.i2l, 1) := by decide +kernel
theorem d_Mo_digit_68 : decode c_Mo_digit 68 = .ok (.lmul, 1) := by decide +kernel
theorem d_Mo_digit_69 : decode c_Mo_digit 69 = .ok (.lload_n 3, 1) := by decide +kernel
theorem d_Mo_digit_70 : decode c_Mo_digit 70 = .ok (.lload 5, 2) := by decide +kernel
theorem d_Mo_digit_72 : decode c_Mo_digit 72 = .ok (.aload_n 0, 1) := by decide +kernel
theorem d_Mo_digit_73 : decode c_Mo_digit 73 = .ok (.getfield 102, 3) := by decide +kernel
theorem d_Mo_digit_76 : decode c_Mo_digit 76 = .ok (.iload_n 2, 1) := by decide +kernel
theorem d_Mo_digit_77 : decode c_Mo_digit 77 = .ok (.iconst 1, 1) := by decide +kernel
theorem d_Mo_digit_78 : decode c_Mo_digit 78 = .ok (.isub, 1) := by decide +kernel
theorem d_Mo_digit_79 : decode c_Mo_digit 79 = .ok (.iaload, 1) := by decide +kernel
theorem d_Mo_digit_80 : decode c_Mo_digit 80 = .ok (.i2l, 1) := by decide +kernel
theorem d_Mo_digit_81 : decode c_Mo_digit 81 = .ok (.lmul, 1) := by decide +kernel
theorem d_Mo_digit_82 : decode c_Mo_digit 82 = .ok (.lsub, 1) := by decide +kernel
theorem d_Mo_digit_83 : decode c_Mo_digit 83 = .ok (.bipush 16, 2) := by decide +kernel
theorem d_Mo_digit_85 : decode c_Mo_digit 85 = .ok (.lshl, 1) := by decide +kernel
theorem d_Mo_digit_86 : decode c_Mo_digit 86 = .ok (.aload_n 0, 1) := by decide +kernel
theorem d_Mo_digit_87 : decode c_Mo_digit 87 = .ok (.getfield 93, 3) := by decide +kernel
theorem d_Mo_digit_90 : decode c_Mo_digit 90 = .ok (.iload_n 1, 1) := by decide +kernel
theorem d_Mo_digit_91 : decode c_Mo_digit 91 = .ok (.iload_n 2, 1) := by decide +kernel
theorem d_Mo_digit_92 : decode c_Mo_digit 92 = .ok (.iadd, 1) := by decide +kernel
theorem d_Mo_digit_93 : decode c_Mo_digit 93 = .ok (.iconst 2, 1) := by decide +kernel
theorem d_Mo_digit_94 : decode c_Mo_digit 94 = .ok (.isub, 1) := by decide +kernel
theorem d_Mo_digit_95 : decode c_Mo_digit 95 = .ok (.iaload, 1) := by decide +kernel
theorem d_Mo_digit_96 : decode c_Mo_digit 96 = .ok (.i2l, 1) := by decide +kernel
theorem d_Mo_digit_97 : decode c_Mo_digit 97 = .ok (.lor, 1) := by decide +kernel
theorem d_Mo_digit_98 : decode c_Mo_digit 98 = .ok (.lcmp, 1) := by decide +kernel
theorem d_Mo_digit_99 : decode c_Mo_digit 99 = .ok (.ifCond .le 33, 3) := by decide +kernel
theorem d_Mo_digit_102 : decode c_Mo_digit 102 = .ok (.lload_n 3, 1) := by decide +kernel
theorem d_Mo_digit_103 : decode c_Mo_digit 103 = .ok (.lload 5, 2) := by decide +kernel
theorem d_Mo_digit_105 : decode c_Mo_digit 105 = .ok (.aload_n 0, 1) := by decide +kernel
theorem d_Mo_digit_106 : decode c_Mo_digit 106 = .ok (.getfield 102, 3) := by decide +kernel
theorem d_Mo_digit_109 : decode c_Mo_digit 109 = .ok (.iload_n 2, 1) := by decide +kernel
theorem d_Mo_digit_110 : decode c_Mo_digit 110 = .ok (.iconst 1, 1) := by decide +kernel
theorem d_Mo_digit_111 : decode c_Mo_digit 111 = .ok (.isub, 1) := by decide +kernel
theorem d_Mo_digit_112 : decode c_Mo_digit 112 = .ok (.iaload, 1) := by decide +kernel
theorem d_Mo_digit_113 : decode c_Mo_digit 113 = .ok (.i2l, 1) := by decide +kernel
theorem d_Mo_digit_114 : decode c_Mo_digit 114 = .ok (.lmul, 1) := by decide +kernel
theorem d_Mo_digit_115 : decode c_Mo_digit 115 = .ok (.lsub, 1) := by decide +kernel
theorem d_Mo_digit_116 : decode c_Mo_digit 116 = .ok (.ldc2_w 326, 3) := by decide +kernel
theorem d_Mo_digit_119 : decode c_Mo_digit 119 = .ok (.lcmp, 1) := by decide +kernel
theorem d_Mo_digit_120 : decode c_Mo_digit 120 = .ok (.ifCond .ge 12, 3) := by decide +kernel
theorem d_Mo_digit_123 : decode c_Mo_digit 123 = .ok (.lload 5, 2) := by decide +kernel
theorem d_Mo_digit_125 : decode c_Mo_digit 125 = .ok (.lconst 1, 1) := by decide +kernel
theorem d_Mo_digit_126 : decode c_Mo_digit 126 = .ok (.lsub, 1) := by decide +kernel
theorem d_Mo_digit_127 : decode c_Mo_digit 127 = .ok (.lstore 5, 2) := by decide +kernel
theorem d_Mo_digit_129 : decode c_Mo_digit 129 = .ok (.goto (-77), 3) := by decide +kernel
theorem d_Mo_digit_132 : decode c_Mo_digit 132 = .ok (.lconst 0, 1) := by decide +kernel
theorem d_Mo_digit_133 : decode c_Mo_digit 133 = .ok (.lstore 7, 2) := by decide +kernel
theorem d_Mo_digit_135 : decode c_Mo_digit 135 = .ok (.iconst 0, 1) := by decide +kernel
theorem d_Mo_digit_136 : decode c_Mo_digit 136 = .ok (.istore 9, 2) := by decide +kernel
theorem d_Mo_digit_138 : decode c_Mo_digit 138 = .ok (.iload 9, 2) := by decide +kernel
theorem d_Mo_digit_140 : decode c_Mo_digit 140 = .ok (.iload_n 2, 1) := by decide +kernel
theorem d_Mo_digit_141 : decode c_Mo_digit 141 = .ok (.if_icmp .ge 60, 3) := by decide +kernel
theorem d_Mo_digit_144 : decode c_Mo_digit 144 = .ok (.aload_n 0, 1) := by decide +kernel
theorem d_Mo_digit_145 : decode c_Mo_digit 145 = .ok (.getfield 93, 3) := by decide +kernel
theorem d_Mo_digit_148 : decode c_Mo_digit 148 = .ok (.iload_n 1, 1) := by decide +kernel
theorem d_Mo_digit_149 : decode c_Mo_digit 149 = .ok (.iload 9, 2) := by decide +kernel
theorem d_Mo_digit_151 : decode c_Mo_digit 151 = .ok (.iadd, 1) := by decide +kernel
theorem d_Mo_digit_152 : decode c_Mo_digit 152 = .ok (.iaload, 1) := by decide +kernel
theorem d_Mo_digit_153 : decode c_Mo_digit 153 = .ok (.i2l, 1) := by decide +kernel
theorem d_Mo_digit_154 : decode c_Mo_digit 154 = .ok (.lload 5, 2) := by decide +kernel
theorem d_Mo_digit_156 : decode c_Mo_digit 156 = .ok (.aload_n 0, 1) := by decide +kernel
theorem d_Mo_digit_157 : decode c_Mo_digit 157 = .ok (.getfield 102, 3) := by decide +kernel
theorem d_Mo_digit_160 : decode c_Mo_digit 160 = .ok (.iload 9, 2) := by decide +kernel
theorem d_Mo_digit_162 : decode c_Mo_digit 162 = .ok (.iaload, 1) := by decide +kernel
theorem d_Mo_digit_163 : decode c_Mo_digit 163 = .ok (.i2l, 1) := by decide +kernel
theorem d_Mo_digit_164 : decode c_Mo_digit 164 = .ok (.lmul, 1) := by decide +kernel
theorem d_Mo_digit_165 : decode c_Mo_digit 165 = .ok (.lsub, 1) := by decide +kernel
theorem d_Mo_digit_166 : decode c_Mo_digit 166 = .ok (.lload 7, 2) := by decide +kernel
theorem d_Mo_digit_168 : decode c_Mo_digit 168 = .ok (.lsub, 1) := by decide +kernel
theorem d_Mo_digit_169 : decode c_Mo_digit 169 = .ok (.lstore 10, 2) := by decide +kernel
theorem d_Mo_digit_171 : decode c_Mo_digit 171 = .ok (.aload_n 0, 1) := by decide +kernel
theorem d_Mo_digit_172 : decode c_Mo_digit 172 = .ok (.getfield 93, 3) := by decide +kernel
theorem d_Mo_digit_175 : decode c_Mo_digit 175 = .ok (.iload_n 1, 1) := by decide +kernel
theorem d_Mo_digit_176 : decode c_Mo_digit 176 = .ok (.iload 9, 2) := by decide +kernel
theorem d_Mo_digit_178 : decode c_Mo_digit 178 = .ok (.iadd, 1) := by decide +kernel
theorem d_Mo_digit_179 : decode c_Mo_digit 179 = .ok (.lload 10, 2) := by decide +kernel
theorem d_Mo_digit_181 : decode c_Mo_digit 181 = .ok (.ldc2_w 276, 3) := by decide +kernel
theorem d_Mo_digit_184 : decode c_Mo_digit 184 = .ok (.land, 1) := by decide +kernel
theorem d_Mo_digit_185 : decode c_Mo_digit 185 = .ok (.l2i, 1) := by decide +kernel
theorem d_Mo_digit_186 : decode c_Mo_digit 186 = .ok (.iastore, 1) := by decide +kernel
theorem d_Mo_digit_187 : decode c_Mo_digit 187 = .ok (.lload 10, 2) := by decide +kernel
theorem d_Mo_digit_189 : decode c_Mo_digit 189 = .ok (.bipush 16, 2) := by decide +kernel
theorem d_Mo_digit_191 : decode c_Mo_digit 191 = .ok (.lshr, 1) := by decide +kernel
theorem d_Mo_digit_192 : decode c_Mo_digit 192 = .ok (.lneg, 1) := by decide +kernel
theorem d_Mo_digit_193 : decode c_Mo_digit 193 = .ok (.lstore 7, 2) := by decide +kernel
theorem d_Mo_digit_195 : decode c_Mo_digit 195 = .ok (.iinc 9 1, 3) := by decide +kernel
theorem d_Mo_digit_198 : decode c_Mo_digit 198 = .ok (.goto (-60), 3) := by decide +kernel
theorem d_Mo_digit_201 : decode c_Mo_digit 201 = .ok (.aload_n 0, 1) := by decide +kernel
theorem d_Mo_digit_202 : decode c_Mo_digit 202 = .ok (.getfield 93, 3) := by decide +kernel
theorem d_Mo_digit_205 : decode c_Mo_digit 205 = .ok (.iload_n 1, 1) := by decide +kernel
theorem d_Mo_digit_206 : decode c_Mo_digit 206 = .ok (.iload_n 2, 1) := by decide +kernel
theorem d_Mo_digit_207 : decode c_Mo_digit 207 = .ok (.iadd, 1) := by decide +kernel
theorem d_Mo_digit_208 : decode c_Mo_digit 208 = .ok (.iaload, 1) := by decide +kernel
theorem d_Mo_digit_209 : decode c_Mo_digit 209 = .ok (.i2l, 1) := by decide +kernel
theorem d_Mo_digit_210 : decode c_Mo_digit 210 = .ok (.lload 7, 2) := by decide +kernel
theorem d_Mo_digit_212 : decode c_Mo_digit 212 = .ok (.lsub, 1) := by decide +kernel
theorem d_Mo_digit_213 : decode c_Mo_digit 213 = .ok (.lstore 9, 2) := by decide +kernel
theorem d_Mo_digit_215 : decode c_Mo_digit 215 = .ok (.aload_n 0, 1) := by decide +kernel
theorem d_Mo_digit_216 : decode c_Mo_digit 216 = .ok (.getfield 93, 3) := by decide +kernel
theorem d_Mo_digit_219 : decode c_Mo_digit 219 = .ok (.iload_n 1, 1) := by decide +kernel
theorem d_Mo_digit_220 : decode c_Mo_digit 220 = .ok (.iload_n 2, 1) := by decide +kernel
theorem d_Mo_digit_221 : decode c_Mo_digit 221 = .ok (.iadd, 1) := by decide +kernel
theorem d_Mo_digit_222 : decode c_Mo_digit 222 = .ok (.lload 9, 2) := by decide +kernel
theorem d_Mo_digit_224 : decode c_Mo_digit 224 = .ok (.ldc2_w 276, 3) := by decide +kernel
theorem d_Mo_digit_227 : decode c_Mo_digit 227 = .ok (.land, 1) := by decide +kernel
theorem d_Mo_digit_228 : decode c_Mo_digit 228 = .ok (.l2i, 1) := by decide +kernel
theorem d_Mo_digit_229 : decode c_Mo_digit 229 = .ok (.iastore, 1) := by decide +kernel
theorem d_Mo_digit_230 : decode c_Mo_digit 230 = .ok (.lload 9, 2) := by decide +kernel
theorem d_Mo_digit_232 : decode c_Mo_digit 232 = .ok (.lconst 0, 1) := by decide +kernel
theorem d_Mo_digit_233 : decode c_Mo_digit 233 = .ok (.lcmp, 1) := by decide +kernel
theorem d_Mo_digit_234 : decode c_Mo_digit 234 = .ok (.ifCond .lt 7, 3) := by decide +kernel
theorem d_Mo_digit_237 : decode c_Mo_digit 237 = .ok (.lload 5, 2) := by decide +kernel
theorem d_Mo_digit_239 : decode c_Mo_digit 239 = .ok (.l2i, 1) := by decide +kernel
theorem d_Mo_digit_240 : decode c_Mo_digit 240 = .ok (.ireturn, 1) := by decide +kernel
theorem d_Mo_digit_241 : decode c_Mo_digit 241 = .ok (.iconst 0, 1) := by decide +kernel
theorem d_Mo_digit_242 : decode c_Mo_digit 242 = .ok (.istore 11, 2) := by decide +kernel
theorem d_Mo_digit_244 : decode c_Mo_digit 244 = .ok (.iconst 0, 1) := by decide +kernel
theorem d_Mo_digit_245 : decode c_Mo_digit 245 = .ok (.istore 12, 2) := by decide +kernel
theorem d_Mo_digit_247 : decode c_Mo_digit 247 = .ok (.iload 12, 2) := by decide +kernel
theorem d_Mo_digit_249 : decode c_Mo_digit 249 = .ok (.iload_n 2, 1) := by decide +kernel
theorem d_Mo_digit_250 : decode c_Mo_digit 250 = .ok (.if_icmp .ge 53, 3) := by decide +kernel
theorem d_Mo_digit_253 : decode c_Mo_digit 253 = .ok (.aload_n 0, 1) := by decide +kernel
theorem d_Mo_digit_254 : decode c_Mo_digit 254 = .ok (.getfield 93, 3) := by decide +kernel
theorem d_Mo_digit_257 : decode c_Mo_digit 257 = .ok (.iload_n 1, 1) := by decide +kernel
theorem d_Mo_digit_258 : decode c_Mo_digit 258 = .ok (.iload 12, 2) := by decide +kernel
theorem d_Mo_digit_260 : decode c_Mo_digit 260 = .ok (.iadd, 1) := by decide +kernel
theorem d_Mo_digit_261 : decode c_Mo_digit 261 = .ok (.iaload, 1) := by decide +kernel
theorem d_Mo_digit_262 : decode c_Mo_digit 262 = .ok (.aload_n 0, 1) := by decide +kernel
theorem d_Mo_digit_263 : decode c_Mo_digit 263 = .ok (.getfield 102, 3) := by decide +kernel
theorem d_Mo_digit_266 : decode c_Mo_digit 266 = .ok (.iload 12, 2) := by decide +kernel
theorem d_Mo_digit_268 : decode c_Mo_digit 268 = .ok (.iaload, 1) := by decide +kernel
theorem d_Mo_digit_269 : decode c_Mo_digit 269 = .ok (.iadd, 1) := by decide +kernel
theorem d_Mo_digit_270 : decode c_Mo_digit 270 = .ok (.iload 11, 2) := by decide +kernel
theorem d_Mo_digit_272 : decode c_Mo_digit 272 = .ok (.iadd, 1) := by decide +kernel
theorem d_Mo_digit_273 : decode c_Mo_digit 273 = .ok (.istore 13, 2) := by decide +kernel
theorem d_Mo_digit_275 : decode c_Mo_digit 275 = .ok (.aload_n 0, 1) := by decide +kernel
theorem d_Mo_digit_276 : decode c_Mo_digit 276 = .ok (.getfield 93, 3) := by decide +kernel
theorem d_Mo_digit_279 : decode c_Mo_digit 279 = .ok (.iload_n 1, 1) := by decide +kernel
theorem d_Mo_digit_280 : decode c_Mo_digit 280 = .ok (.iload 12, 2) := by decide +kernel
theorem d_Mo_digit_282 : decode c_Mo_digit 282 = .ok (.iadd, 1) := by decide +kernel
theorem d_Mo_digit_283 : decode c_Mo_digit 283 = .ok (.iload 13, 2) := by decide +kernel
theorem d_Mo_digit_285 : decode c_Mo_digit 285 = .ok (.ldc_w 312, 3) := by decide +kernel
theorem d_Mo_digit_288 : decode c_Mo_digit 288 = .ok (.iand, 1) := by decide +kernel
theorem d_Mo_digit_289 : decode c_Mo_digit 289 = .ok (.iastore, 1) := by decide +kernel
theorem d_Mo_digit_290 : decode c_Mo_digit 290 = .ok (.iload 13, 2) := by decide +kernel
theorem d_Mo_digit_292 : decode c_Mo_digit 292 = .ok (.bipush 16, 2) := by decide +kernel
theorem d_Mo_digit_294 : decode c_Mo_digit 294 = .ok (.ishr, 1) := by decide +kernel
theorem d_Mo_digit_295 : decode c_Mo_digit 295 = .ok (.istore 11, 2) := by decide +kernel
theorem d_Mo_digit_297 : decode c_Mo_digit 297 = .ok (.iinc 12 1, 3) := by decide +kernel
theorem d_Mo_digit_300 : decode c_Mo_digit 300 = .ok (.goto (-53), 3) := by decide +kernel
theorem d_Mo_digit_303 : decode c_Mo_digit 303 = .ok (.aload_n 0, 1) := by decide +kernel
theorem d_Mo_digit_304 : decode c_Mo_digit 304 = .ok (.getfield 93, 3) := by decide +kernel
theorem d_Mo_digit_307 : decode c_Mo_digit 307 = .ok (.iload_n 1, 1) := by decide +kernel
theorem d_Mo_digit_308 : decode c_Mo_digit 308 = .ok (.iload_n 2, 1) := by decide +kernel
theorem d_Mo_digit_309 : decode c_Mo_digit 309 = .ok (.iadd, 1) := by decide +kernel
theorem d_Mo_digit_310 : decode c_Mo_digit 310 = .ok (.aload_n 0, 1) := by decide +kernel
theorem d_Mo_digit_311 : decode c_Mo_digit 311 = .ok (.getfield 93, 3) := by decide +kernel
theorem d_Mo_digit_314 : decode c_Mo_digit 314 = .ok (.iload_n 1, 1) := by decide +kernel
theorem d_Mo_digit_315 : decode c_Mo_digit 315 = .ok (.iload_n 2, 1) := by decide +kernel
theorem d_Mo_digit_316 : decode c_Mo_digit 316 = .ok (.iadd, 1) := by decide +kernel
theorem d_Mo_digit_317 : decode c_Mo_digit 317 = .ok (.iaload, 1) := by decide +kernel
theorem d_Mo_digit_318 : decode c_Mo_digit 318 = .ok (.iload 11, 2) := by decide +kernel
theorem d_Mo_digit_320 : decode c_Mo_digit 320 = .ok (.iadd, 1) := by decide +kernel
theorem d_Mo_digit_321 : decode c_Mo_digit 321 = .ok (.ldc_w 312, 3) := by decide +kernel
theorem d_Mo_digit_324 : decode c_Mo_digit 324 = .ok (.iand, 1) := by decide +kernel
theorem d_Mo_digit_325 : decode c_Mo_digit 325 = .ok (.iastore, 1) := by decide +kernel
theorem d_Mo_digit_326 : decode c_Mo_digit 326 = .ok (.lload 5, 2) := by decide +kernel
theorem d_Mo_digit_328 : decode c_Mo_digit 328 = .ok (.l2i, 1) := by decide +kernel
theorem d_Mo_digit_329 : decode c_Mo_digit 329 = .ok (.iconst 1, 1) := by decide +kernel
theorem d_Mo_digit_330 : decode c_Mo_digit 330 = .ok (.isub, 1) := by decide +kernel
theorem d_Mo_digit_331 : decode c_Mo_digit 331 = .ok (.ireturn, 1) := by decide +kernel
set_option maxRecDepth 100000 in
set_option maxHeartbeats 16000000 in
/-- digit(k9, n) -/
theorem g_Mo_digit (l : Launch) (G : va_G) (k : Nat → ClassId) (h0 s0 k9 n : Nat) (ma : Nat → Nat) (iv : Nat → Int32) (co : Int64) (O Dv : Nat → Nat) (hn1 : 1 ≤ n) (hn : n ≤ 80) (hk : k9 + n ≤ 168) (dO : ∀ i, i < 170 → O i < 65536) (dD : ∀ i, i < 170 → Dv i < 65536) (hv : 0 < Dv (n - 1)) (hR : vl 65536 (fun i => O (k9 + i)) (n + 1) < 65536 * vl 65536 Dv n) : CI l y_Mo_digit c_Mo_digit 14 .int { frames := 0, cells := 0, slots := 0, locals := 0 } [.ref h0, .int (nI k9), .int (nI n)] G k s0 [(h0, .inr (8, moL ma iv co)), ((ma 24), .inl (k 0, 170, .inl (fun i => nI (O i)))), ((ma 27), .inl (k 0, 170, .inl (fun i => nI (Dv i))))] (fun (r : Int32) (U : Nat → Nat) => r = nI (vl 65536 (fun i => O (k9 + i)) (n + 1) / vl 65536 Dv n) ∧ vl 65536 (fun i => U (k9 + i)) (n + 1) = vl 65536 (fun i => O (k9 + i)) (n + 1) % vl 65536 Dv n ∧ (∀ i, i < 170 → U i < 65536) ∧ ∀ i, i < k9 ∨ k9 + n < i → U i = O i) (fun U => [(h0, .inr (8, moL ma iv co)), ((ma 24), .inl (k 0, 170, .inl (fun i => nI (U i)))), ((ma 27), .inl (k 0, 170, .inl (fun i => nI (Dv i))))]) 0 0 := by
  refine met_start (by decide) (Nat.le_of_ble_eq_true rfl) ?_
  intro p e s m below meth c C K hA hsz S ls hl
  generalize va_A [(h0, .inr (8, moL ma iv co)), ((ma 24), .inl (k 0, 170, .inl (fun i => nI (O i)))), ((ma 27), .inl (k 0, 170, .inl (fun i => nI (Dv i))))] s0 = A at hA S ⊢
  have hx := C.1
  have hb := C.2.1
  have hl : lv_has ls 14 [(0, .ref h0), (1, .int (nI k9)), (2, .int (nI n))] := hl
  have b1 := dO (k9 + n) (by omega)
  have b2 := dO (k9 + n - 1) (by omega)
  have b3 := dD (n - 1) (by omega)
  have b4 := dD (n - 2) (by omega)
  have b5 := dO (k9 + n - 2) (by omega)
  have fin : ∀ q9, vl 65536 (fun i => O (k9 + i)) (n + 1) / vl 65536 Dv n ≤ q9 → q9 ≤ 65535 → q9 * vl 65536 Dv n ≤ vl 65536 (fun i => O (k9 + i)) (n + 1) + vl 65536 Dv n → ∀ ls : Array Slot, lv_has ls 14 [(5, .long (lN q9)), (3, .long (lN (O (k9 + n) * 65536 + O (k9 + n - 1)))), (0, .ref h0), (1, .int (nI k9)), (2, .int (nI n))] → ∀ (H : Heap) (locs : List Loc), Sw G A s.heap H locs [(h0, .inr (8, moL ma iv co)), ((ma 24), .inl (k 0, 170, .inl (fun i => nI (O i)))), ((ma 27), .inl (k 0, 170, .inl (fun i => nI (Dv i))))] → W p l e { frames := 0, cells := 0, slots := 0, locals := 0 } s m [Value.ref h0, Value.int (nI k9), Value.int (nI n)].toArray below meth c H locs 0 0 (MQ below (va_Qi (fun (r : Int32) (U : Nat → Nat) => r = nI (vl 65536 (fun i => O (k9 + i)) (n + 1) / vl 65536 Dv n) ∧ vl 65536 (fun i => U (k9 + i)) (n + 1) = vl 65536 (fun i => O (k9 + i)) (n + 1) % vl 65536 Dv n ∧ (∀ i, i < 170 → U i < 65536) ∧ ∀ i, i < k9 ∨ k9 + n < i → U i = O i) (Po G k A (fun U => [(h0, .inr (8, moL ma iv co)), ((ma 24), .inl (k 0, 170, .inl (fun i => nI (U i)))), ((ma 27), .inl (k 0, 170, .inl (fun i => nI (Dv i))))])) A) [Value.ref h0, Value.int (nI k9), Value.int (nI n)].toArray s 0 0 A) (F0 m 132 ls []) := by
    intro q9 f1 f2 f3 ls hl H locs S
    have hV : 0 < vl 65536 Dv n := Nat.pos_of_ne_zero (fun e9 => by rw [e9] at hR; omega)
    have kq := kn_one hV f1 f3
    have hVl := vl_lt (B := 65536) (g := Dv) n (fun i hi => dD i (by omega))
    have hRs : vl 65536 (fun i => O (k9 + i)) (n + 1) = vl 65536 (fun i => O (k9 + i)) n + O (k9 + n) * 65536 ^ n := rfl
    have hdm := Nat.div_add_mod (vl 65536 (fun i => O (k9 + i)) (n + 1)) (vl 65536 Dv n)
    have hml := Nat.mod_lt (vl 65536 (fun i => O (k9 + i)) (n + 1)) hV
    have back : ∀ (U : Nat → Nat) (b9 : Nat), vl 65536 (fun i => U (k9 + i)) n + q9 * vl 65536 Dv n = vl 65536 (fun i => O (k9 + i)) n + b9 * 65536 ^ n → b9 ≤ q9 → O (k9 + n) < b9 → U (k9 + n) = O (k9 + n) + 65536 - b9 → (∀ i, i < 170 → U i < 65536) → (∀ i, i < k9 ∨ k9 + n < i → U i = O i) → ∀ d t, t + d = n → ∀ (X : Nat → Nat) (c9 : Nat), (vl 65536 (fun i => X (k9 + i)) t + c9 * 65536 ^ t = vl 65536 (fun i => U (k9 + i)) t + vl 65536 Dv t ∧ c9 ≤ 1 ∧ (∀ i, i < 170 → X i < 65536) ∧ ∀ i, i < k9 ∨ k9 + t ≤ i → X i = U i) → ∀ (H : Heap) (locs : List Loc), Sw G A s.heap H locs [(h0, .inr (8, moL ma iv co)), ((ma 24), .inl (k 0, 170, .inl (fun i => nI (X i)))), ((ma 27), .inl (k 0, 170, .inl (fun i => nI (Dv i))))] → ∀ ls : Array Slot, lv_has ls 14 [(12, .int (nI t)), (11, .int (nI c9)), (5, .long (lN q9)), (0, .ref h0), (1, .int (nI k9)), (2, .int (nI n))] → W p l e { frames := 0, cells := 0, slots := 0, locals := 0 } s m [Value.ref h0, Value.int (nI k9), Value.int (nI n)].toArray below meth c H locs 0 0 (MQ below (va_Qi (fun (r : Int32) (U : Nat → Nat) => r = nI (vl 65536 (fun i => O (k9 + i)) (n + 1) / vl 65536 Dv n) ∧ vl 65536 (fun i => U (k9 + i)) (n + 1) = vl 65536 (fun i => O (k9 + i)) (n + 1) % vl 65536 Dv n ∧ (∀ i, i < 170 → U i < 65536) ∧ ∀ i, i < k9 ∨ k9 + n < i → U i = O i) (Po G k A (fun U => [(h0, .inr (8, moL ma iv co)), ((ma 24), .inl (k 0, 170, .inl (fun i => nI (U i)))), ((ma 27), .inl (k 0, 170, .inl (fun i => nI (Dv i))))])) A) [Value.ref h0, Value.int (nI k9), Value.int (nI n)].toArray s 0 0 A) (F0 m 247 ls []) := by
      intro U b9 u1 u2 u3 u4 u5 u6 d
      induction d with
      | zero =>
        intro t ht X c9 hI H locs S ls hl
        obtain rfl : n = t := by omega
        have xt : X (k9 + n) = O (k9 + n) + 65536 - b9 := (hI.2.2.2 (k9 + n) (Or.inr (Nat.le_refl _))).trans u4
        have hc := hI.2.1
        have hX := vl_lt (B := 65536) (g := (fun i => X (k9 + i))) n (fun i hi => hI.2.2.1 (k9 + i) (by omega))
        have hq : q9 = vl 65536 (fun i => O (k9 + i)) (n + 1) / vl 65536 Dv n + 1 := by
          rcases kq with y | y
          · exfalso
            have e1 : q9 * vl 65536 Dv n ≤ vl 65536 (fun i => O (k9 + i)) (n + 1) := by rw [y]; exact Nat.div_mul_le_self _ _
            have hU := vl_lt (B := 65536) (g := (fun i => U (k9 + i))) n (fun i hi => u5 (k9 + i) (by omega))
            have e2 : (O (k9 + n) + 1) * 65536 ^ n ≤ b9 * 65536 ^ n := Nat.mul_le_mul_right _ u3
            rw [Nat.add_mul, Nat.one_mul] at e2
            omega
          · exact y
        have e1 : q9 * vl 65536 Dv n = vl 65536 Dv n * (vl 65536 (fun i => O (k9 + i)) (n + 1) / vl 65536 Dv n) + vl 65536 Dv n := by rw [hq, Nat.add_mul, Nat.one_mul, Nat.mul_comm]
        have e0 : vl 65536 (fun i => X (k9 + i)) n + c9 * 65536 ^ n + O (k9 + n) * 65536 ^ n = vl 65536 (fun i => O (k9 + i)) (n + 1) % vl 65536 Dv n + b9 * 65536 ^ n := by have := hI.1; omega
        have e2 : b9 = O (k9 + n) + c9 := by
          rcases Nat.lt_or_ge b9 (O (k9 + n) + c9) with y | y
          · exfalso
            have e3 : (b9 + 1) * 65536 ^ n ≤ (O (k9 + n) + c9) * 65536 ^ n := Nat.mul_le_mul_right _ y
            rw [Nat.add_mul, Nat.one_mul, Nat.add_mul] at e3
            omega
          · rcases Nat.lt_or_ge (O (k9 + n) + c9) b9 with y2 | y2
            · exfalso
              have e3 : (O (k9 + n) + c9 + 1) * 65536 ^ n ≤ b9 * 65536 ^ n := Nat.mul_le_mul_right _ y2
              rw [Nat.add_mul, Nat.one_mul, Nat.add_mul] at e3
              omega
            · omega
        have e4 : vl 65536 (fun i => X (k9 + i)) n = vl 65536 (fun i => O (k9 + i)) (n + 1) % vl 65536 Dv n := by rw [e2, Nat.add_mul] at e0; omega
        refine lv_iload hx hb d_Mo_digit_247 (lv_at hl 0 rfl) ?_
        refine lv_iload_n hx hb d_Mo_digit_249 rfl (lv_at hl 5 rfl) ?_
        refine lv_icmp_ge (tgt := 303) hx hb d_Mo_digit_250 (by decide) (fun _ => ?_) (fun hq => absurd (nI_le (Nat.le_refl _) (by omega)) hq)
        refine lv_aload_n hx hb d_Mo_digit_303 rfl (lv_at hl 3 rfl) ?_
        refine r_get C K S 0 rfl rfl clOk_Mo 44 (by decide) wf_Mo_93 (v := .ref (ma 24)) rfl d_Mo_digit_304 ?_
        refine lv_iload_n hx hb d_Mo_digit_307 rfl (lv_at hl 4 rfl) ?_
        refine lv_iload_n hx hb d_Mo_digit_308 rfl (lv_at hl 5 rfl) ?_
        refine lv_iadd hx hb d_Mo_digit_309 ?_
        rw [nI_add]
        refine lv_aload_n hx hb d_Mo_digit_310 rfl (lv_at hl 3 rfl) ?_
        refine r_get C K S 0 rfl rfl clOk_Mo 44 (by decide) wf_Mo_93 (v := .ref (ma 24)) rfl d_Mo_digit_311 ?_
        refine lv_iload_n hx hb d_Mo_digit_314 rfl (lv_at hl 4 rfl) ?_
        refine lv_iload_n hx hb d_Mo_digit_315 rfl (lv_at hl 5 rfl) ?_
        refine lv_iadd hx hb d_Mo_digit_316 ?_
        rw [nI_add]
        refine r_iald C K S 1 rfl (i := nI (k9 + n)) (vp_in_nI (by omega) (by decide)) (v := (nI (O (k9 + n) + 65536 - b9))) (by rw [nI_clamp (by omega), xt]) d_Mo_digit_317 ?_
        refine lv_iload hx hb d_Mo_digit_318 (lv_at hl 1 rfl) ?_
        refine lv_iadd hx hb d_Mo_digit_320 ?_
        rw [nI_add]
        refine lv_ldcw (v := 65535) hx hb C.2.2.2.1 (C.2.2.2.2.1 _ wk_Mo_312) d_Mo_digit_321 ?_
        refine lv_iand hx hb d_Mo_digit_324 ?_
        rw [nx_mod]
        refine r_iast C K S 1 rfl (i := nI (k9 + n)) (x := nI ((O (k9 + n) + 65536 - b9 + c9) % 65536)) (vp_in_nI (by omega) (by decide)) (f' := fun i => nI (va_up X (k9 + n) ((O (k9 + n) + 65536 - b9 + c9) % 65536) i)) (ws' := [(h0, .inr (8, moL ma iv co)), ((ma 24), .inl (k 0, 170, .inl (fun i => nI (va_up X (k9 + n) ((O (k9 + n) + 65536 - b9 + c9) % 65536) i)))), ((ma 27), .inl (k 0, 170, .inl (fun i => nI (Dv i))))]) (upd_nI X (by omega) _) rfl d_Mo_digit_325 (fun H locs S => ?_)
        refine lv_lload hx hb d_Mo_digit_326 (lv_at hl 2 rfl) ?_
        refine lv_l2i (v := (nI q9)) hx hb d_Mo_digit_328 (lN_i q9) ?_
        refine lv_iconst (v := 1) hx hb d_Mo_digit_329 (by decide) ?_
        refine lv_isub hx hb d_Mo_digit_330 ?_
        rw [show nI q9 - 1 = nI (q9 - 1) from pk_sub (a := q9) (b := 1) (by omega)]
        have et : ((O (k9 + n) + 65536 - b9 + c9) % 65536) = 0 := by omega
        refine r_iret C K rfl (va_up X (k9 + n) ((O (k9 + n) + 65536 - b9 + c9) % 65536)) ⟨by rw [hq, Nat.add_sub_cancel], ?_, ?_, ?_⟩ (S.sub [0, 1, 2] (by decide) rfl) d_Mo_digit_331 (Nat.le_of_ble_eq_true rfl) (Nat.le_of_ble_eq_true rfl)
        · rw [et, vl_s, va_up_self, Nat.zero_mul, Nat.add_zero, vl_congr (h := (fun i => X (k9 + i))) n (fun i hi => va_up_ne X _ (by omega))]
          exact e4
        · intro i hi
          by_cases y : i = k9 + n
          · rw [y, va_up_self]; omega
          · rw [va_up_ne X _ y]; exact hI.2.2.1 i hi
        · intro i hi
          rw [va_up_ne X _ (by omega), hI.2.2.2 i (by omega)]
          exact u6 i hi
      | succ d ih =>
        intro t ht X c9 hI H locs S ls hl
        have hc := hI.2.1
        have d1 := u5 (k9 + t) (by omega)
        have d2 := dD t (by omega)
        have xt : X (k9 + t) = U (k9 + t) := hI.2.2.2 _ (Or.inr (Nat.le_refl _))
        refine lv_iload hx hb d_Mo_digit_247 (lv_at hl 0 rfl) ?_
        refine lv_iload_n hx hb d_Mo_digit_249 rfl (lv_at hl 5 rfl) ?_
        refine lv_icmp_ge (tgt := 303) hx hb d_Mo_digit_250 (by decide) (fun hq => absurd hq (nI_ge (by omega) (by omega))) (fun _ => ?_)
        refine lv_aload_n hx hb d_Mo_digit_253 rfl (lv_at hl 3 rfl) ?_
        refine r_get C K S 0 rfl rfl clOk_Mo 44 (by decide) wf_Mo_93 (v := .ref (ma 24)) rfl d_Mo_digit_254 ?_
        refine lv_iload_n hx hb d_Mo_digit_257 rfl (lv_at hl 4 rfl) ?_
        refine lv_iload hx hb d_Mo_digit_258 (lv_at hl 0 rfl) ?_
        refine lv_iadd hx hb d_Mo_digit_260 ?_
        rw [nI_add]
        refine r_iald C K S 1 rfl (i := nI (k9 + t)) (vp_in_nI (by omega) (by decide)) (v := (nI (U (k9 + t)))) (by rw [nI_clamp (by omega), xt]) d_Mo_digit_261 ?_
        refine lv_aload_n hx hb d_Mo_digit_262 rfl (lv_at hl 3 rfl) ?_
        refine r_get C K S 0 rfl rfl clOk_Mo 47 (by decide) wf_Mo_102 (v := .ref (ma 27)) rfl d_Mo_digit_263 ?_
        refine lv_iload hx hb d_Mo_digit_266 (lv_at hl 0 rfl) ?_
        refine r_iald C K S 2 rfl (i := (nI t)) (vp_in_nI (by omega) (by decide)) (v := (nI (Dv t))) (by rw [nI_clamp (by omega)]) d_Mo_digit_268 ?_
        refine lv_iadd hx hb d_Mo_digit_269 ?_
        rw [nI_add]
        refine lv_iload hx hb d_Mo_digit_270 (lv_at hl 1 rfl) ?_
        refine lv_iadd hx hb d_Mo_digit_272 ?_
        rw [nI_add]
        refine lv_istore (lv' := [(13, .int (nI (U (k9 + t) + Dv t + c9))), (12, .int (nI t)), (11, .int (nI c9)), (5, .long (lN q9)), (0, .ref h0), (1, .int (nI k9)), (2, .int (nI n))]) hx hb d_Mo_digit_273 hl (by decide) rfl (fun ls hl => ?_)
        refine lv_aload_n hx hb d_Mo_digit_275 rfl (lv_at hl 4 rfl) ?_
        refine r_get C K S 0 rfl rfl clOk_Mo 44 (by decide) wf_Mo_93 (v := .ref (ma 24)) rfl d_Mo_digit_276 ?_
        refine lv_iload_n hx hb d_Mo_digit_279 rfl (lv_at hl 5 rfl) ?_
        refine lv_iload hx hb d_Mo_digit_280 (lv_at hl 1 rfl) ?_
        refine lv_iadd hx hb d_Mo_digit_282 ?_
        rw [nI_add]
        refine lv_iload hx hb d_Mo_digit_283 (lv_at hl 0 rfl) ?_
        refine lv_ldcw (v := 65535) hx hb C.2.2.2.1 (C.2.2.2.2.1 _ wk_Mo_312) d_Mo_digit_285 ?_
        refine lv_iand hx hb d_Mo_digit_288 ?_
        rw [nx_mod]
        refine r_iast C K S 1 rfl (i := nI (k9 + t)) (x := nI ((U (k9 + t) + Dv t + c9) % 65536)) (vp_in_nI (by omega) (by decide)) (f' := fun i => nI (va_up X (k9 + t) ((U (k9 + t) + Dv t + c9) % 65536) i)) (ws' := [(h0, .inr (8, moL ma iv co)), ((ma 24), .inl (k 0, 170, .inl (fun i => nI (va_up X (k9 + t) ((U (k9 + t) + Dv t + c9) % 65536) i)))), ((ma 27), .inl (k 0, 170, .inl (fun i => nI (Dv i))))]) (upd_nI X (by omega) _) rfl d_Mo_digit_289 (fun H locs S => ?_)
        refine lv_iload hx hb d_Mo_digit_290 (lv_at hl 0 rfl) ?_
        refine lv_bipush (v := 16) hx hb d_Mo_digit_292 (by decide) ?_
        refine lv_ishr hx hb d_Mo_digit_294 ?_
        rw [show nI (U (k9 + t) + Dv t + c9) >>> ((16 : Int32) &&& 31) = nI ((U (k9 + t) + Dv t + c9) / 65536) from pk_shrN (by omega) _ 16 (by decide)]
        refine lv_istore (lv' := [(11, .int (nI ((U (k9 + t) + Dv t + c9) / 65536))), (13, .int (nI (U (k9 + t) + Dv t + c9))), (12, .int (nI t)), (5, .long (lN q9)), (0, .ref h0), (1, .int (nI k9)), (2, .int (nI n))]) hx hb d_Mo_digit_295 hl (by decide) rfl (fun ls hl => ?_)
        refine lv_iinc (v := nI (t + 1)) (lv' := [(12, .int (nI (t + 1))), (11, .int (nI ((U (k9 + t) + Dv t + c9) / 65536))), (13, .int (nI (U (k9 + t) + Dv t + c9))), (5, .long (lN q9)), (0, .ref h0), (1, .int (nI k9)), (2, .int (nI n))]) hx hb d_Mo_digit_297 hl (k := 2) rfl (nI_1 t) (by decide) rfl (fun ls hl => ?_)
        refine lv_goto (tgt := 247) hx hb d_Mo_digit_300 (by decide) ?_
        refine ih (t + 1) (by omega) (va_up X (k9 + t) ((U (k9 + t) + Dv t + c9) % 65536)) ((U (k9 + t) + Dv t + c9) / 65536) ⟨?_, by omega, ?_, ?_⟩ _ _ S ls (lv_sub hl [0, 1, 3, 4, 5, 6] rfl)
        · rw [vl_s, vl_s, vl_s, va_up_self, vl_congr (h := (fun i => X (k9 + i))) t (fun i hi => va_up_ne X _ (by omega)), Nat.pow_succ]
          have e1 := hI.1
          have e2 := Nat.mod_add_div (U (k9 + t) + Dv t + c9) 65536
          have e3 : ((U (k9 + t) + Dv t + c9) % 65536 + 65536 * ((U (k9 + t) + Dv t + c9) / 65536)) * 65536 ^ t = (U (k9 + t) + Dv t + c9) * 65536 ^ t := by rw [e2]
          rw [Nat.add_mul, Nat.add_mul, Nat.add_mul] at e3
          have e4 : (U (k9 + t) + Dv t + c9) / 65536 * (65536 ^ t * 65536) = 65536 * ((U (k9 + t) + Dv t + c9) / 65536) * 65536 ^ t := by rw [Nat.mul_comm (65536 ^ t), ← Nat.mul_assoc, Nat.mul_comm ((U (k9 + t) + Dv t + c9) / 65536)]
          rw [e4]
          omega
        · intro i hi
          by_cases y : i = k9 + t
          · rw [y, va_up_self]; exact Nat.mod_lt _ (by decide)
          · rw [va_up_ne X _ y]; exact hI.2.2.1 i hi
        · intro i hi
          rw [va_up_ne X _ (by omega)]
          exact hI.2.2.2 i (by omega)
    have off : ∀ d t, t + d = n → ∀ (U : Nat → Nat) (b9 : Nat), (vl 65536 (fun i => U (k9 + i)) t + q9 * vl 65536 Dv t = vl 65536 (fun i => O (k9 + i)) t + b9 * 65536 ^ t ∧ b9 ≤ q9 ∧ (∀ i, i < 170 → U i < 65536) ∧ ∀ i, i < k9 ∨ k9 + t ≤ i → U i = O i) → ∀ (H : Heap) (locs : List Loc), Sw G A s.heap H locs [(h0, .inr (8, moL ma iv co)), ((ma 24), .inl (k 0, 170, .inl (fun i => nI (U i)))), ((ma 27), .inl (k 0, 170, .inl (fun i => nI (Dv i))))] → ∀ ls : Array Slot, lv_has ls 14 [(9, .int (nI t)), (7, .long (lN b9)), (5, .long (lN q9)), (3, .long (lN (O (k9 + n) * 65536 + O (k9 + n - 1)))), (0, .ref h0), (1, .int (nI k9)), (2, .int (nI n))] → W p l e { frames := 0, cells := 0, slots := 0, locals := 0 } s m [Value.ref h0, Value.int (nI k9), Value.int (nI n)].toArray below meth c H locs 0 0 (MQ below (va_Qi (fun (r : Int32) (U : Nat → Nat) => r = nI (vl 65536 (fun i => O (k9 + i)) (n + 1) / vl 65536 Dv n) ∧ vl 65536 (fun i => U (k9 + i)) (n + 1) = vl 65536 (fun i => O (k9 + i)) (n + 1) % vl 65536 Dv n ∧ (∀ i, i < 170 → U i < 65536) ∧ ∀ i, i < k9 ∨ k9 + n < i → U i = O i) (Po G k A (fun U => [(h0, .inr (8, moL ma iv co)), ((ma 24), .inl (k 0, 170, .inl (fun i => nI (U i)))), ((ma 27), .inl (k 0, 170, .inl (fun i => nI (Dv i))))])) A) [Value.ref h0, Value.int (nI k9), Value.int (nI n)].toArray s 0 0 A) (F0 m 138 ls []) := by
      intro d
      induction d with
      | zero =>
        intro t ht U b9 hI H locs S ls hl
        obtain rfl : n = t := by omega
        have ut : U (k9 + n) = O (k9 + n) := hI.2.2.2 _ (Or.inr (Nat.le_refl _))
        have hb9 := hI.2.1
        have hs := bw_spec (o := O (k9 + n)) (t := b9) b1
        refine lv_iload hx hb d_Mo_digit_138 (lv_at hl 0 rfl) ?_
        refine lv_iload_n hx hb d_Mo_digit_140 rfl (lv_at hl 6 rfl) ?_
        refine lv_icmp_ge (tgt := 201) hx hb d_Mo_digit_141 (by decide) (fun _ => ?_) (fun hq => absurd (nI_le (Nat.le_refl _) (by omega)) hq)
        refine lv_aload_n hx hb d_Mo_digit_201 rfl (lv_at hl 4 rfl) ?_
        refine r_get C K S 0 rfl rfl clOk_Mo 44 (by decide) wf_Mo_93 (v := .ref (ma 24)) rfl d_Mo_digit_202 ?_
        refine lv_iload_n hx hb d_Mo_digit_205 rfl (lv_at hl 5 rfl) ?_
        refine lv_iload_n hx hb d_Mo_digit_206 rfl (lv_at hl 6 rfl) ?_
        refine lv_iadd hx hb d_Mo_digit_207 ?_
        rw [nI_add]
        refine r_iald C K S 1 rfl (i := nI (k9 + n)) (vp_in_nI (by omega) (by decide)) (v := (nI (O (k9 + n)))) (by rw [nI_clamp (by omega), ut]) d_Mo_digit_208 ?_
        refine lv_i2l (v := (lN (O (k9 + n)))) hx hb d_Mo_digit_209 (nI_l (by omega)) ?_
        refine lv_lload hx hb d_Mo_digit_210 (lv_at hl 1 rfl) ?_
        refine lv_lsub hx hb d_Mo_digit_212 ?_
        refine lv_lstore (lv' := [(9, .long ((lN (O (k9 + n))) - (lN b9))), (7, .long (lN b9)), (5, .long (lN q9)), (3, .long (lN (O (k9 + n) * 65536 + O (k9 + n - 1)))), (0, .ref h0), (1, .int (nI k9)), (2, .int (nI n))]) hx hb d_Mo_digit_213 hl (by decide) rfl (fun ls hl => ?_)
        refine lv_aload_n hx hb d_Mo_digit_215 rfl (lv_at hl 4 rfl) ?_
        refine r_get C K S 0 rfl rfl clOk_Mo 44 (by decide) wf_Mo_93 (v := .ref (ma 24)) rfl d_Mo_digit_216 ?_
        refine lv_iload_n hx hb d_Mo_digit_219 rfl (lv_at hl 5 rfl) ?_
        refine lv_iload_n hx hb d_Mo_digit_220 rfl (lv_at hl 6 rfl) ?_
        refine lv_iadd hx hb d_Mo_digit_221 ?_
        rw [nI_add]
        refine lv_lload hx hb d_Mo_digit_222 (lv_at hl 0 rfl) ?_
        refine lv_ldc2 (v := 65535) hx hb C.2.2.2.1 (C.2.2.2.2.1 _ wk_Mo_276) d_Mo_digit_224 ?_
        refine lv_land hx hb d_Mo_digit_227 ?_
        rw [bw_and b1 (by omega)]
        refine lv_l2i (v := (nI (O (k9 + n) + bw (O (k9 + n)) b9 * 65536 - b9))) hx hb d_Mo_digit_228 (lN_i _) ?_
        refine r_iast C K S 1 rfl (i := nI (k9 + n)) (x := (nI (O (k9 + n) + bw (O (k9 + n)) b9 * 65536 - b9))) (vp_in_nI (by omega) (by decide)) (f' := fun i => nI (va_up U (k9 + n) (O (k9 + n) + bw (O (k9 + n)) b9 * 65536 - b9) i)) (ws' := [(h0, .inr (8, moL ma iv co)), ((ma 24), .inl (k 0, 170, .inl (fun i => nI (va_up U (k9 + n) (O (k9 + n) + bw (O (k9 + n)) b9 * 65536 - b9) i)))), ((ma 27), .inl (k 0, 170, .inl (fun i => nI (Dv i))))]) (upd_nI U (by omega) _) rfl d_Mo_digit_229 (fun H locs S => ?_)
        refine lv_lload hx hb d_Mo_digit_230 (lv_at hl 0 rfl) ?_
        refine lv_lconst (v := 0) hx hb d_Mo_digit_232 (by decide) ?_
        refine W.lcmp hx hb d_Mo_digit_233 ?_
        have sg : (lN (O (k9 + n)) - lN b9 < 0) ↔ O (k9 + n) < b9 := by
          rw [Int64.lt_iff_toInt_lt, bw_toInt b1 (by omega)]
          show _ < (0 : Int) ↔ _
          omega
        have dU : ∀ i, i < 170 → va_up U (k9 + n) (O (k9 + n) + bw (O (k9 + n)) b9 * 65536 - b9) i < 65536 := fun i hi => by
          by_cases y : i = k9 + n
          · rw [y, va_up_self]; exact hs.2
          · rw [va_up_ne U _ y]; exact hI.2.2.1 i hi
        have cU : vl 65536 (fun i => va_up U (k9 + n) (O (k9 + n) + bw (O (k9 + n)) b9 * 65536 - b9) (k9 + i)) n = vl 65536 (fun i => U (k9 + i)) n := vl_congr n (fun i hi => va_up_ne U _ (by omega))
        refine lv_if_lt (tgt := 241) hx hb d_Mo_digit_234 (by decide) (fun hg => ?_) (fun hg => ?_)
        · refine lv_iconst (v := 0) hx hb d_Mo_digit_241 (by decide) ?_
          refine lv_istore (lv' := [(11, .int 0), (9, .long ((lN (O (k9 + n))) - (lN b9))), (7, .long (lN b9)), (5, .long (lN q9)), (3, .long (lN (O (k9 + n) * 65536 + O (k9 + n - 1)))), (0, .ref h0), (1, .int (nI k9)), (2, .int (nI n))]) hx hb d_Mo_digit_242 hl (by decide) rfl (fun ls hl => ?_)
          refine lv_iconst (v := 0) hx hb d_Mo_digit_244 (by decide) ?_
          refine lv_istore (lv' := [(12, .int 0), (11, .int 0), (9, .long ((lN (O (k9 + n))) - (lN b9))), (7, .long (lN b9)), (5, .long (lN q9)), (3, .long (lN (O (k9 + n) * 65536 + O (k9 + n - 1)))), (0, .ref h0), (1, .int (nI k9)), (2, .int (nI n))]) hx hb d_Mo_digit_245 hl (by decide) rfl (fun ls hl => ?_)
          have hlt := sg.mp ((lg_cmp_lt _ _).mp hg)
          have hbw : bw (O (k9 + n)) b9 = 1 := by unfold bw; omega
          exact back (va_up U (k9 + n) (O (k9 + n) + bw (O (k9 + n)) b9 * 65536 - b9)) b9 (by rw [cU]; exact hI.1) hb9 hlt (by rw [va_up_self, hbw]) dU (fun i hi => by rw [va_up_ne U _ (by omega)]; exact hI.2.2.2 i (by omega)) n 0 (by omega) _ 0 ⟨by simp [vl], by omega, dU, fun _ _ => rfl⟩ _ _ S ls (lv_sub hl [0, 1, 4, 6, 7, 8] rfl)
        · have hge : b9 ≤ O (k9 + n) := Nat.le_of_not_lt (fun y => hg ((lg_cmp_lt _ _).mpr (sg.mpr y)))
          have hbw : bw (O (k9 + n)) b9 = 0 := by unfold bw; omega
          have e1 : b9 * 65536 ^ n ≤ O (k9 + n) * 65536 ^ n := Nat.mul_le_mul_right _ hge
          have e0 := hI.1
          have e2 : (O (k9 + n) - b9) * 65536 ^ n + b9 * 65536 ^ n = O (k9 + n) * 65536 ^ n := by rw [← Nat.add_mul, Nat.sub_add_cancel hge]
          have hq : q9 = vl 65536 (fun i => O (k9 + i)) (n + 1) / vl 65536 Dv n := by
            have e3 : q9 ≤ vl 65536 (fun i => O (k9 + i)) (n + 1) / vl 65536 Dv n := (Nat.le_div_iff_mul_le hV).mpr (by omega)
            omega
          have e5 : q9 * vl 65536 Dv n = vl 65536 Dv n * (vl 65536 (fun i => O (k9 + i)) (n + 1) / vl 65536 Dv n) := by rw [hq, Nat.mul_comm]
          refine lv_lload hx hb d_Mo_digit_237 (lv_at hl 2 rfl) ?_
          refine lv_l2i (v := (nI q9)) hx hb d_Mo_digit_239 (lN_i q9) ?_
          refine r_iret C K rfl (va_up U (k9 + n) (O (k9 + n) + bw (O (k9 + n)) b9 * 65536 - b9)) ⟨by rw [hq], ?_, dU, fun i hi => by rw [va_up_ne U _ (by omega)]; exact hI.2.2.2 i (by omega)⟩ (S.sub [0, 1, 2] (by decide) rfl) d_Mo_digit_240 (Nat.le_of_ble_eq_true rfl) (Nat.le_of_ble_eq_true rfl)
          rw [vl_s, va_up_self, cU, hbw, Nat.zero_mul, Nat.add_zero]
          omega
      | succ d ih =>
        intro t ht U b9 hI H locs S ls hl
        have hb9 := hI.2.1
        have d1 := dO (k9 + t) (by omega)
        have d2 := dD t (by omega)
        have ut : U (k9 + t) = O (k9 + t) := hI.2.2.2 _ (Or.inr (Nat.le_refl _))
        have hm : q9 * Dv t ≤ q9 * 65535 := Nat.mul_le_mul_left _ (by omega)
        have hs := bw_spec (o := O (k9 + t)) (t := (q9 * Dv t + b9)) d1
        refine lv_iload hx hb d_Mo_digit_138 (lv_at hl 0 rfl) ?_
        refine lv_iload_n hx hb d_Mo_digit_140 rfl (lv_at hl 6 rfl) ?_
        refine lv_icmp_ge (tgt := 201) hx hb d_Mo_digit_141 (by decide) (fun hq => absurd hq (nI_ge (by omega) (by omega))) (fun _ => ?_)
        refine lv_aload_n hx hb d_Mo_digit_144 rfl (lv_at hl 4 rfl) ?_
        refine r_get C K S 0 rfl rfl clOk_Mo 44 (by decide) wf_Mo_93 (v := .ref (ma 24)) rfl d_Mo_digit_145 ?_
        refine lv_iload_n hx hb d_Mo_digit_148 rfl (lv_at hl 5 rfl) ?_
        refine lv_iload hx hb d_Mo_digit_149 (lv_at hl 0 rfl) ?_
        refine lv_iadd hx hb d_Mo_digit_151 ?_
        rw [nI_add]
        refine r_iald C K S 1 rfl (i := nI (k9 + t)) (vp_in_nI (by omega) (by decide)) (v := (nI (O (k9 + t)))) (by rw [nI_clamp (by omega), ut]) d_Mo_digit_152 ?_
        refine lv_i2l (v := (lN (O (k9 + t)))) hx hb d_Mo_digit_153 (nI_l (by omega)) ?_
        refine lv_lload hx hb d_Mo_digit_154 (lv_at hl 2 rfl) ?_
        refine lv_aload_n hx hb d_Mo_digit_156 rfl (lv_at hl 4 rfl) ?_
        refine r_get C K S 0 rfl rfl clOk_Mo 47 (by decide) wf_Mo_102 (v := .ref (ma 27)) rfl d_Mo_digit_157 ?_
        refine lv_iload hx hb d_Mo_digit_160 (lv_at hl 0 rfl) ?_
        refine r_iald C K S 2 rfl (i := (nI t)) (vp_in_nI (by omega) (by decide)) (v := (nI (Dv t))) (by rw [nI_clamp (by omega)]) d_Mo_digit_162 ?_
        refine lv_i2l (v := (lN (Dv t))) hx hb d_Mo_digit_163 (nI_l (by omega)) ?_
        refine lv_lmul hx hb d_Mo_digit_164 ?_
        rw [lN_mul]
        refine lv_lsub hx hb d_Mo_digit_165 ?_
        refine lv_lload hx hb d_Mo_digit_166 (lv_at hl 1 rfl) ?_
        refine lv_lsub hx hb d_Mo_digit_168 ?_
        rw [show lN (O (k9 + t)) - lN (q9 * Dv t) - lN b9 = lN (O (k9 + t)) - lN (q9 * Dv t + b9) from lsub2 _ _ _]
        refine lv_lstore (lv' := [(10, .long (lN (O (k9 + t)) - lN (q9 * Dv t + b9))), (9, .int (nI t)), (7, .long (lN b9)), (5, .long (lN q9)), (3, .long (lN (O (k9 + n) * 65536 + O (k9 + n - 1)))), (0, .ref h0), (1, .int (nI k9)), (2, .int (nI n))]) hx hb d_Mo_digit_169 hl (by decide) rfl (fun ls hl => ?_)
        refine lv_aload_n hx hb d_Mo_digit_171 rfl (lv_at hl 5 rfl) ?_
        refine r_get C K S 0 rfl rfl clOk_Mo 44 (by decide) wf_Mo_93 (v := .ref (ma 24)) rfl d_Mo_digit_172 ?_
        refine lv_iload_n hx hb d_Mo_digit_175 rfl (lv_at hl 6 rfl) ?_
        refine lv_iload hx hb d_Mo_digit_176 (lv_at hl 1 rfl) ?_
        refine lv_iadd hx hb d_Mo_digit_178 ?_
        rw [nI_add]
        refine lv_lload hx hb d_Mo_digit_179 (lv_at hl 0 rfl) ?_
        refine lv_ldc2 (v := 65535) hx hb C.2.2.2.1 (C.2.2.2.2.1 _ wk_Mo_276) d_Mo_digit_181 ?_
        refine lv_land hx hb d_Mo_digit_184 ?_
        rw [bw_and d1 (by omega)]
        refine lv_l2i (v := (nI (O (k9 + t) + bw (O (k9 + t)) (q9 * Dv t + b9) * 65536 - (q9 * Dv t + b9)))) hx hb d_Mo_digit_185 (lN_i _) ?_
        refine r_iast C K S 1 rfl (i := nI (k9 + t)) (x := (nI (O (k9 + t) + bw (O (k9 + t)) (q9 * Dv t + b9) * 65536 - (q9 * Dv t + b9)))) (vp_in_nI (by omega) (by decide)) (f' := fun i => nI (va_up U (k9 + t) (O (k9 + t) + bw (O (k9 + t)) (q9 * Dv t + b9) * 65536 - (q9 * Dv t + b9)) i)) (ws' := [(h0, .inr (8, moL ma iv co)), ((ma 24), .inl (k 0, 170, .inl (fun i => nI (va_up U (k9 + t) (O (k9 + t) + bw (O (k9 + t)) (q9 * Dv t + b9) * 65536 - (q9 * Dv t + b9)) i)))), ((ma 27), .inl (k 0, 170, .inl (fun i => nI (Dv i))))]) (upd_nI U (by omega) _) rfl d_Mo_digit_186 (fun H locs S => ?_)
        refine lv_lload hx hb d_Mo_digit_187 (lv_at hl 0 rfl) ?_
        refine lv_bipush (v := 16) hx hb d_Mo_digit_189 (by decide) ?_
        refine lv_lshr (v := ((lN (O (k9 + t)) - lN (q9 * Dv t + b9)) >>> ((16 : Int32).toInt64 &&& 63))) hx hb d_Mo_digit_191 rfl ?_
        refine lv_lneg hx hb d_Mo_digit_192 ?_
        rw [bw_shr d1 (by omega) (by decide)]
        refine lv_lstore (lv' := [(7, .long (lN (bw (O (k9 + t)) (q9 * Dv t + b9)))), (10, .long (lN (O (k9 + t)) - lN (q9 * Dv t + b9))), (9, .int (nI t)), (5, .long (lN q9)), (3, .long (lN (O (k9 + n) * 65536 + O (k9 + n - 1)))), (0, .ref h0), (1, .int (nI k9)), (2, .int (nI n))]) hx hb d_Mo_digit_193 hl (by decide) rfl (fun ls hl => ?_)
        refine lv_iinc (v := nI (t + 1)) (lv' := [(9, .int (nI (t + 1))), (7, .long (lN (bw (O (k9 + t)) (q9 * Dv t + b9)))), (10, .long (lN (O (k9 + t)) - lN (q9 * Dv t + b9))), (5, .long (lN q9)), (3, .long (lN (O (k9 + n) * 65536 + O (k9 + n - 1)))), (0, .ref h0), (1, .int (nI k9)), (2, .int (nI n))]) hx hb d_Mo_digit_195 hl (k := 2) rfl (nI_1 t) (by decide) rfl (fun ls hl => ?_)
        refine lv_goto (tgt := 138) hx hb d_Mo_digit_198 (by decide) ?_
        refine ih (t + 1) (by omega) (va_up U (k9 + t) (O (k9 + t) + bw (O (k9 + t)) (q9 * Dv t + b9) * 65536 - (q9 * Dv t + b9))) (bw (O (k9 + t)) (q9 * Dv t + b9)) ⟨?_, bw_le (by omega), ?_, ?_⟩ _ _ S ls (lv_sub hl [0, 1, 3, 4, 5, 6, 7] rfl)
        · rw [vl_s, vl_s, vl_s, va_up_self, vl_congr (h := (fun i => U (k9 + i))) t (fun i hi => va_up_ne U _ (by omega))]
          exact bw_step (O := (fun i => O (k9 + i))) d1 hI.1 (Dv t)
        · intro i hi
          by_cases y : i = k9 + t
          · rw [y, va_up_self]; exact hs.2
          · rw [va_up_ne U _ y]; exact hI.2.2.1 i hi
        · intro i hi
          rw [va_up_ne U _ (by omega)]
          exact hI.2.2.2 i (by omega)
    refine lv_lconst (v := 0) hx hb d_Mo_digit_132 (by decide) ?_
    refine lv_lstore (lv' := [(7, .long 0), (5, .long (lN q9)), (3, .long (lN (O (k9 + n) * 65536 + O (k9 + n - 1)))), (0, .ref h0), (1, .int (nI k9)), (2, .int (nI n))]) hx hb d_Mo_digit_133 hl (by decide) rfl (fun ls hl => ?_)
    refine lv_iconst (v := 0) hx hb d_Mo_digit_135 (by decide) ?_
    refine lv_istore (lv' := [(9, .int 0), (7, .long 0), (5, .long (lN q9)), (3, .long (lN (O (k9 + n) * 65536 + O (k9 + n - 1)))), (0, .ref h0), (1, .int (nI k9)), (2, .int (nI n))]) hx hb d_Mo_digit_136 hl (by decide) rfl (fun ls hl => ?_)
    exact off n 0 (by omega) O 0 ⟨by simp [vl], by omega, dO, fun _ _ => rfl⟩ _ _ S ls (lv_sub hl [0, 1, 2, 3, 4, 5, 6] rfl)
  have hN1 : n ≤ 1 → vl 65536 Dv n = Dv (n - 1) ∧ vl 65536 (fun i => O (k9 + i)) (n + 1) = (O (k9 + n) * 65536 + O (k9 + n - 1)) := fun h => by
    obtain rfl : n = 1 := by omega
    refine ⟨?_, ?_⟩
    · simp [vl]
    · simp [vl, Nat.add_comm]
  have guess : ∀ q9, vl 65536 (fun i => O (k9 + i)) (n + 1) / vl 65536 Dv n ≤ q9 → q9 ≤ 65535 → q9 * Dv (n - 1) ≤ (O (k9 + n) * 65536 + O (k9 + n - 1)) → ∀ ls : Array Slot, lv_has ls 14 [(5, .long (lN q9)), (3, .long (lN (O (k9 + n) * 65536 + O (k9 + n - 1)))), (0, .ref h0), (1, .int (nI k9)), (2, .int (nI n))] → ∀ (H : Heap) (locs : List Loc), Sw G A s.heap H locs [(h0, .inr (8, moL ma iv co)), ((ma 24), .inl (k 0, 170, .inl (fun i => nI (O i)))), ((ma 27), .inl (k 0, 170, .inl (fun i => nI (Dv i))))] → W p l e { frames := 0, cells := 0, slots := 0, locals := 0 } s m [Value.ref h0, Value.int (nI k9), Value.int (nI n)].toArray below meth c H locs 0 0 (MQ below (va_Qi (fun (r : Int32) (U : Nat → Nat) => r = nI (vl 65536 (fun i => O (k9 + i)) (n + 1) / vl 65536 Dv n) ∧ vl 65536 (fun i => U (k9 + i)) (n + 1) = vl 65536 (fun i => O (k9 + i)) (n + 1) % vl 65536 Dv n ∧ (∀ i, i < 170 → U i < 65536) ∧ ∀ i, i < k9 ∨ k9 + n < i → U i = O i) (Po G k A (fun U => [(h0, .inr (8, moL ma iv co)), ((ma 24), .inl (k 0, 170, .inl (fun i => nI (U i)))), ((ma 27), .inl (k 0, 170, .inl (fun i => nI (Dv i))))])) A) [Value.ref h0, Value.int (nI k9), Value.int (nI n)].toArray s 0 0 A) (F0 m 52 ls []) := by
    intro q9
    induction q9 with
    | zero =>
      intro g1 g2 g3 ls hl H locs S
      refine lv_iload_n hx hb d_Mo_digit_52 rfl (lv_at hl 4 rfl) ?_
      refine lv_iconst (v := 1) hx hb d_Mo_digit_53 (by decide) ?_
      refine lv_icmp_le (tgt := 132) hx hb d_Mo_digit_54 (by decide) (fun hg => ?_) (fun hg => ?_)
      · have h9 := hN1 ((nI_leI (a := n) (b := 1) (by omega) (by omega)).mp hg)
        have e3 := congrArg (fun y => 0 * y) h9.1
        have e3 : 0 * vl 65536 Dv n = 0 * Dv (n - 1) := e3
        have e4 := h9.2
        exact fin 0 g1 g2 (by omega) ls hl _ _ S
      have n2 : 2 ≤ n := Nat.lt_of_not_le (fun z => hg ((nI_leI (a := n) (b := 1) (by omega) (by omega)).mpr z))
      obtain ⟨P, w, z, s1, s2, s3, s4, s5⟩ := dg_shape n2 hn hk dO dD
      have m1 : 0 * Dv (n - 2) ≤ 65535 * 65535 := Nat.mul_le_mul g2 (by omega)
      have m2 : 0 * (Dv (n - 1) * 65536 + Dv (n - 2)) = 0 * Dv (n - 1) * 65536 + 0 * Dv (n - 2) := by rw [Nat.mul_add, ← Nat.mul_assoc]
      refine lv_lload hx hb d_Mo_digit_57 (lv_at hl 0 rfl) ?_
      refine lv_aload_n hx hb d_Mo_digit_59 rfl (lv_at hl 2 rfl) ?_
      refine r_get C K S 0 rfl rfl clOk_Mo 47 (by decide) wf_Mo_102 (v := .ref (ma 27)) rfl d_Mo_digit_60 ?_
      refine lv_iload_n hx hb d_Mo_digit_63 rfl (lv_at hl 4 rfl) ?_
      refine lv_iconst (v := 2) hx hb d_Mo_digit_64 (by decide) ?_
      refine lv_isub hx hb d_Mo_digit_65 ?_
      rw [show nI (n) - 2 = nI (n - 2) from pk_sub (a := n) (b := 2) (by omega)]
      refine r_iald C K S 2 rfl (i := nI (n - 2)) (vp_in_nI (by omega) (by decide)) (v := (nI (Dv (n - 2)))) (by rw [nI_clamp (by omega)]) d_Mo_digit_66 ?_
      refine lv_i2l (v := (lN (Dv (n - 2)))) hx hb d_Mo_digit_67 (nI_l (by omega)) ?_
      refine lv_lmul hx hb d_Mo_digit_68 ?_
      rw [lN_mul]
      refine lv_lload_n hx hb d_Mo_digit_69 rfl (lv_at hl 1 rfl) ?_
      refine lv_lload hx hb d_Mo_digit_70 (lv_at hl 0 rfl) ?_
      refine lv_aload_n hx hb d_Mo_digit_72 rfl (lv_at hl 2 rfl) ?_
      refine r_get C K S 0 rfl rfl clOk_Mo 47 (by decide) wf_Mo_102 (v := .ref (ma 27)) rfl d_Mo_digit_73 ?_
      refine lv_iload_n hx hb d_Mo_digit_76 rfl (lv_at hl 4 rfl) ?_
      refine lv_iconst (v := 1) hx hb d_Mo_digit_77 (by decide) ?_
      refine lv_isub hx hb d_Mo_digit_78 ?_
      rw [show nI (n) - 1 = nI (n - 1) from pk_sub (a := n) (b := 1) (by omega)]
      refine r_iald C K S 2 rfl (i := nI (n - 1)) (vp_in_nI (by omega) (by decide)) (v := (nI (Dv (n - 1)))) (by rw [nI_clamp (by omega)]) d_Mo_digit_79 ?_
      refine lv_i2l (v := (lN (Dv (n - 1)))) hx hb d_Mo_digit_80 (nI_l (by omega)) ?_
      refine lv_lmul hx hb d_Mo_digit_81 ?_
      rw [lN_mul]
      refine lv_lsub hx hb d_Mo_digit_82 ?_
      rw [lN_sub g3]
      refine lv_bipush (v := 16) hx hb d_Mo_digit_83 (by decide) ?_
      refine lv_lshl (v := (lN (((O (k9 + n) * 65536 + O (k9 + n - 1)) - 0 * Dv (n - 1)) * 65536))) hx hb d_Mo_digit_85 (g_shl (k := 16) (p := 65536) (by decide) (by decide) (by decide) (by omega)) ?_
      refine lv_aload_n hx hb d_Mo_digit_86 rfl (lv_at hl 2 rfl) ?_
      refine r_get C K S 0 rfl rfl clOk_Mo 44 (by decide) wf_Mo_93 (v := .ref (ma 24)) rfl d_Mo_digit_87 ?_
      refine lv_iload_n hx hb d_Mo_digit_90 rfl (lv_at hl 3 rfl) ?_
      refine lv_iload_n hx hb d_Mo_digit_91 rfl (lv_at hl 4 rfl) ?_
      refine lv_iadd hx hb d_Mo_digit_92 ?_
      rw [nI_add]
      refine lv_iconst (v := 2) hx hb d_Mo_digit_93 (by decide) ?_
      refine lv_isub hx hb d_Mo_digit_94 ?_
      rw [show nI (k9 + n) - 2 = nI (k9 + n - 2) from pk_sub (a := k9 + n) (b := 2) (by omega)]
      refine r_iald C K S 1 rfl (i := nI (k9 + n - 2)) (vp_in_nI (by omega) (by decide)) (v := (nI (O (k9 + n - 2)))) (by rw [nI_clamp (by omega)]) d_Mo_digit_95 ?_
      refine lv_i2l (v := (lN (O (k9 + n - 2)))) hx hb d_Mo_digit_96 (nI_l (by omega)) ?_
      refine lv_lor hx hb d_Mo_digit_97 ?_
      rw [show lN (((O (k9 + n) * 65536 + O (k9 + n - 1)) - 0 * Dv (n - 1)) * 65536) ||| lN (O (k9 + n - 2)) = lN (((O (k9 + n) * 65536 + O (k9 + n - 1)) - 0 * Dv (n - 1)) * 65536 + O (k9 + n - 2)) from g_or (k := 16) (p := 65536) (by decide) (by omega) (by omega)]
      refine W.lcmp hx hb d_Mo_digit_98 ?_
      refine lv_if_le (tgt := 132) hx hb d_Mo_digit_99 (by decide) (fun hc => ?_) (fun hc => ?_)
      · have h8 : 0 * Dv (n - 2) ≤ (((O (k9 + n) * 65536 + O (k9 + n - 1)) - 0 * Dv (n - 1)) * 65536 + O (k9 + n - 2)) := (pk_lLE (by omega) (by omega)).mp ((lg_cmp_le _ _).mp hc)
        exact fin 0 g1 g2 (by rw [s4, s5]; exact kn_upper hv s2 (by omega) (by omega)) ls hl _ _ S
      have h8 : ¬ 0 * Dv (n - 2) ≤ (((O (k9 + n) * 65536 + O (k9 + n - 1)) - 0 * Dv (n - 1)) * 65536 + O (k9 + n - 2)) := fun y => hc ((lg_cmp_le _ _).mpr ((pk_lLE (by omega) (by omega)).mpr y))
      exact absurd (by rw [Nat.zero_mul]; exact Nat.zero_le _) h8
    | succ q9 ih =>
      intro g1 g2 g3 ls hl H locs S
      refine lv_iload_n hx hb d_Mo_digit_52 rfl (lv_at hl 4 rfl) ?_
      refine lv_iconst (v := 1) hx hb d_Mo_digit_53 (by decide) ?_
      refine lv_icmp_le (tgt := 132) hx hb d_Mo_digit_54 (by decide) (fun hg => ?_) (fun hg => ?_)
      · have h9 := hN1 ((nI_leI (a := n) (b := 1) (by omega) (by omega)).mp hg)
        have e3 := congrArg (fun y => (q9 + 1) * y) h9.1
        have e3 : (q9 + 1) * vl 65536 Dv n = (q9 + 1) * Dv (n - 1) := e3
        have e4 := h9.2
        exact fin (q9 + 1) g1 g2 (by omega) ls hl _ _ S
      have n2 : 2 ≤ n := Nat.lt_of_not_le (fun z => hg ((nI_leI (a := n) (b := 1) (by omega) (by omega)).mpr z))
      obtain ⟨P, w, z, s1, s2, s3, s4, s5⟩ := dg_shape n2 hn hk dO dD
      have m1 : (q9 + 1) * Dv (n - 2) ≤ 65535 * 65535 := Nat.mul_le_mul g2 (by omega)
      have m2 : (q9 + 1) * (Dv (n - 1) * 65536 + Dv (n - 2)) = (q9 + 1) * Dv (n - 1) * 65536 + (q9 + 1) * Dv (n - 2) := by rw [Nat.mul_add, ← Nat.mul_assoc]
      refine lv_lload hx hb d_Mo_digit_57 (lv_at hl 0 rfl) ?_
      refine lv_aload_n hx hb d_Mo_digit_59 rfl (lv_at hl 2 rfl) ?_
      refine r_get C K S 0 rfl rfl clOk_Mo 47 (by decide) wf_Mo_102 (v := .ref (ma 27)) rfl d_Mo_digit_60 ?_
      refine lv_iload_n hx hb d_Mo_digit_63 rfl (lv_at hl 4 rfl) ?_
      refine lv_iconst (v := 2) hx hb d_Mo_digit_64 (by decide) ?_
      refine lv_isub hx hb d_Mo_digit_65 ?_
      rw [show nI (n) - 2 = nI (n - 2) from pk_sub (a := n) (b := 2) (by omega)]
      refine r_iald C K S 2 rfl (i := nI (n - 2)) (vp_in_nI (by omega) (by decide)) (v := (nI (Dv (n - 2)))) (by rw [nI_clamp (by omega)]) d_Mo_digit_66 ?_
      refine lv_i2l (v := (lN (Dv (n - 2)))) hx hb d_Mo_digit_67 (nI_l (by omega)) ?_
      refine lv_lmul hx hb d_Mo_digit_68 ?_
      rw [lN_mul]
      refine lv_lload_n hx hb d_Mo_digit_69 rfl (lv_at hl 1 rfl) ?_
      refine lv_lload hx hb d_Mo_digit_70 (lv_at hl 0 rfl) ?_
      refine lv_aload_n hx hb d_Mo_digit_72 rfl (lv_at hl 2 rfl) ?_
      refine r_get C K S 0 rfl rfl clOk_Mo 47 (by decide) wf_Mo_102 (v := .ref (ma 27)) rfl d_Mo_digit_73 ?_
      refine lv_iload_n hx hb d_Mo_digit_76 rfl (lv_at hl 4 rfl) ?_
      refine lv_iconst (v := 1) hx hb d_Mo_digit_77 (by decide) ?_
      refine lv_isub hx hb d_Mo_digit_78 ?_
      rw [show nI (n) - 1 = nI (n - 1) from pk_sub (a := n) (b := 1) (by omega)]
      refine r_iald C K S 2 rfl (i := nI (n - 1)) (vp_in_nI (by omega) (by decide)) (v := (nI (Dv (n - 1)))) (by rw [nI_clamp (by omega)]) d_Mo_digit_79 ?_
      refine lv_i2l (v := (lN (Dv (n - 1)))) hx hb d_Mo_digit_80 (nI_l (by omega)) ?_
      refine lv_lmul hx hb d_Mo_digit_81 ?_
      rw [lN_mul]
      refine lv_lsub hx hb d_Mo_digit_82 ?_
      rw [lN_sub g3]
      refine lv_bipush (v := 16) hx hb d_Mo_digit_83 (by decide) ?_
      refine lv_lshl (v := (lN (((O (k9 + n) * 65536 + O (k9 + n - 1)) - (q9 + 1) * Dv (n - 1)) * 65536))) hx hb d_Mo_digit_85 (g_shl (k := 16) (p := 65536) (by decide) (by decide) (by decide) (by omega)) ?_
      refine lv_aload_n hx hb d_Mo_digit_86 rfl (lv_at hl 2 rfl) ?_
      refine r_get C K S 0 rfl rfl clOk_Mo 44 (by decide) wf_Mo_93 (v := .ref (ma 24)) rfl d_Mo_digit_87 ?_
      refine lv_iload_n hx hb d_Mo_digit_90 rfl (lv_at hl 3 rfl) ?_
      refine lv_iload_n hx hb d_Mo_digit_91 rfl (lv_at hl 4 rfl) ?_
      refine lv_iadd hx hb d_Mo_digit_92 ?_
      rw [nI_add]
      refine lv_iconst (v := 2) hx hb d_Mo_digit_93 (by decide) ?_
      refine lv_isub hx hb d_Mo_digit_94 ?_
      rw [show nI (k9 + n) - 2 = nI (k9 + n - 2) from pk_sub (a := k9 + n) (b := 2) (by omega)]
      refine r_iald C K S 1 rfl (i := nI (k9 + n - 2)) (vp_in_nI (by omega) (by decide)) (v := (nI (O (k9 + n - 2)))) (by rw [nI_clamp (by omega)]) d_Mo_digit_95 ?_
      refine lv_i2l (v := (lN (O (k9 + n - 2)))) hx hb d_Mo_digit_96 (nI_l (by omega)) ?_
      refine lv_lor hx hb d_Mo_digit_97 ?_
      rw [show lN (((O (k9 + n) * 65536 + O (k9 + n - 1)) - (q9 + 1) * Dv (n - 1)) * 65536) ||| lN (O (k9 + n - 2)) = lN (((O (k9 + n) * 65536 + O (k9 + n - 1)) - (q9 + 1) * Dv (n - 1)) * 65536 + O (k9 + n - 2)) from g_or (k := 16) (p := 65536) (by decide) (by omega) (by omega)]
      refine W.lcmp hx hb d_Mo_digit_98 ?_
      refine lv_if_le (tgt := 132) hx hb d_Mo_digit_99 (by decide) (fun hc => ?_) (fun hc => ?_)
      · have h8 : (q9 + 1) * Dv (n - 2) ≤ (((O (k9 + n) * 65536 + O (k9 + n - 1)) - (q9 + 1) * Dv (n - 1)) * 65536 + O (k9 + n - 2)) := (pk_lLE (by omega) (by omega)).mp ((lg_cmp_le _ _).mp hc)
        exact fin (q9 + 1) g1 g2 (by rw [s4, s5]; exact kn_upper hv s2 (by omega) (by omega)) ls hl _ _ S
      have h8 : ¬ (q9 + 1) * Dv (n - 2) ≤ (((O (k9 + n) * 65536 + O (k9 + n - 1)) - (q9 + 1) * Dv (n - 1)) * 65536 + O (k9 + n - 2)) := fun y => hc ((lg_cmp_le _ _).mpr ((pk_lLE (by omega) (by omega)).mpr y))
      refine lv_lload_n hx hb d_Mo_digit_102 rfl (lv_at hl 1 rfl) ?_
      refine lv_lload hx hb d_Mo_digit_103 (lv_at hl 0 rfl) ?_
      refine lv_aload_n hx hb d_Mo_digit_105 rfl (lv_at hl 2 rfl) ?_
      refine r_get C K S 0 rfl rfl clOk_Mo 47 (by decide) wf_Mo_102 (v := .ref (ma 27)) rfl d_Mo_digit_106 ?_
      refine lv_iload_n hx hb d_Mo_digit_109 rfl (lv_at hl 4 rfl) ?_
      refine lv_iconst (v := 1) hx hb d_Mo_digit_110 (by decide) ?_
      refine lv_isub hx hb d_Mo_digit_111 ?_
      rw [show nI (n) - 1 = nI (n - 1) from pk_sub (a := n) (b := 1) (by omega)]
      refine r_iald C K S 2 rfl (i := nI (n - 1)) (vp_in_nI (by omega) (by decide)) (v := (nI (Dv (n - 1)))) (by rw [nI_clamp (by omega)]) d_Mo_digit_112 ?_
      refine lv_i2l (v := (lN (Dv (n - 1)))) hx hb d_Mo_digit_113 (nI_l (by omega)) ?_
      refine lv_lmul hx hb d_Mo_digit_114 ?_
      rw [lN_mul]
      refine lv_lsub hx hb d_Mo_digit_115 ?_
      rw [lN_sub g3]
      refine lv_ldc2 (v := 65536) hx hb C.2.2.2.1 (C.2.2.2.2.1 _ wk_Mo_326) d_Mo_digit_116 ?_
      refine W.lcmp hx hb d_Mo_digit_119 ?_
      refine lv_if_ge (tgt := 132) hx hb d_Mo_digit_120 (by decide) (fun hd => ?_) (fun hd => ?_)
      · have h7 : 65536 ≤ ((O (k9 + n) * 65536 + O (k9 + n - 1)) - (q9 + 1) * Dv (n - 1)) := (pk_lLE (a := 65536) (by omega) (by omega)).mp ((lg_cmp_ge _ _).mp hd)
        exact absurd (by omega) h8
      refine lv_lload hx hb d_Mo_digit_123 (lv_at hl 0 rfl) ?_
      refine lv_lconst (v := 1) hx hb d_Mo_digit_125 (by decide) ?_
      refine lv_lsub hx hb d_Mo_digit_126 ?_
      rw [show lN (q9 + 1) - 1 = lN q9 from lN_sub (a := q9 + 1) (b := 1) (by omega)]
      refine lv_lstore (lv' := [(5, .long (lN q9)), (3, .long (lN (O (k9 + n) * 65536 + O (k9 + n - 1)))), (0, .ref h0), (1, .int (nI k9)), (2, .int (nI n))]) hx hb d_Mo_digit_127 hl (by decide) rfl (fun ls hl => ?_)
      refine lv_goto (tgt := 52) hx hb d_Mo_digit_129 (by decide) ?_
      have h6 : vl 65536 (fun i => O (k9 + i)) (n + 1) / vl 65536 Dv n < q9 + 1 := by rw [s4, s5]; exact kn_down s1 s3 (by omega)
      have h5 : q9 * Dv (n - 1) ≤ (q9 + 1) * Dv (n - 1) := Nat.mul_le_mul_right _ (by omega)
      exact ih (by omega) (by omega) (by omega) ls (lv_sub hl [0, 1, 2, 3, 4] rfl) _ _ S
  refine lv_aload_n hx hb d_Mo_digit_0 rfl (lv_at hl 0 rfl) ?_
  refine r_get C K S 0 rfl rfl clOk_Mo 44 (by decide) wf_Mo_93 (v := .ref (ma 24)) rfl d_Mo_digit_1 ?_
  refine lv_iload_n hx hb d_Mo_digit_4 rfl (lv_at hl 1 rfl) ?_
  refine lv_iload_n hx hb d_Mo_digit_5 rfl (lv_at hl 2 rfl) ?_
  refine lv_iadd hx hb d_Mo_digit_6 ?_
  rw [nI_add]
  refine r_iald C K S 1 rfl (i := nI (k9 + n)) (vp_in_nI (by omega) (by decide)) (v := (nI (O (k9 + n)))) (by rw [nI_clamp (by omega)]) d_Mo_digit_7 ?_
  refine lv_i2l (v := (lN (O (k9 + n)))) hx hb d_Mo_digit_8 (nI_l (by omega)) ?_
  refine lv_bipush (v := 16) hx hb d_Mo_digit_9 (by decide) ?_
  refine lv_lshl (v := (lN (O (k9 + n) * 65536))) hx hb d_Mo_digit_11 (g_shl (k := 16) (p := 65536) (by decide) (by decide) (by decide) (by omega)) ?_
  refine lv_aload_n hx hb d_Mo_digit_12 rfl (lv_at hl 0 rfl) ?_
  refine r_get C K S 0 rfl rfl clOk_Mo 44 (by decide) wf_Mo_93 (v := .ref (ma 24)) rfl d_Mo_digit_13 ?_
  refine lv_iload_n hx hb d_Mo_digit_16 rfl (lv_at hl 1 rfl) ?_
  refine lv_iload_n hx hb d_Mo_digit_17 rfl (lv_at hl 2 rfl) ?_
  refine lv_iadd hx hb d_Mo_digit_18 ?_
  rw [nI_add]
  refine lv_iconst (v := 1) hx hb d_Mo_digit_19 (by decide) ?_
  refine lv_isub hx hb d_Mo_digit_20 ?_
  rw [show nI (k9 + n) - 1 = nI (k9 + n - 1) from pk_sub (a := k9 + n) (b := 1) (by omega)]
  refine r_iald C K S 1 rfl (i := nI (k9 + n - 1)) (vp_in_nI (by omega) (by decide)) (v := (nI (O (k9 + n - 1)))) (by rw [nI_clamp (by omega)]) d_Mo_digit_21 ?_
  refine lv_i2l (v := (lN (O (k9 + n - 1)))) hx hb d_Mo_digit_22 (nI_l (by omega)) ?_
  refine lv_lor hx hb d_Mo_digit_23 ?_
  rw [show lN (O (k9 + n) * 65536) ||| lN (O (k9 + n - 1)) = lN (O (k9 + n) * 65536 + O (k9 + n - 1)) from g_or (k := 16) (p := 65536) (by decide) (by omega) (by omega)]
  refine lv_lstore_n (lv' := [(3, .long (lN (O (k9 + n) * 65536 + O (k9 + n - 1)))), (0, .ref h0), (1, .int (nI k9)), (2, .int (nI n))]) hx hb d_Mo_digit_24 rfl hl (by decide) rfl (fun ls hl => ?_)
  refine lv_lload_n hx hb d_Mo_digit_25 rfl (lv_at hl 0 rfl) ?_
  refine lv_aload_n hx hb d_Mo_digit_26 rfl (lv_at hl 1 rfl) ?_
  refine r_get C K S 0 rfl rfl clOk_Mo 47 (by decide) wf_Mo_102 (v := .ref (ma 27)) rfl d_Mo_digit_27 ?_
  refine lv_iload_n hx hb d_Mo_digit_30 rfl (lv_at hl 3 rfl) ?_
  refine lv_iconst (v := 1) hx hb d_Mo_digit_31 (by decide) ?_
  refine lv_isub hx hb d_Mo_digit_32 ?_
  rw [show nI (n) - 1 = nI (n - 1) from pk_sub (a := n) (b := 1) (by omega)]
  refine r_iald C K S 2 rfl (i := nI (n - 1)) (vp_in_nI (by omega) (by decide)) (v := (nI (Dv (n - 1)))) (by rw [nI_clamp (by omega)]) d_Mo_digit_33 ?_
  refine lv_i2l (v := (lN (Dv (n - 1)))) hx hb d_Mo_digit_34 (nI_l (by omega)) ?_
  refine lv_ldiv hx hb d_Mo_digit_35 (fun e9 => by have := (pk_lEQ (a := Dv (n - 1)) (b := 0) (by omega) (by omega)).mp e9; omega) ?_
  rw [pk_lDiv (a := (O (k9 + n) * 65536 + O (k9 + n - 1))) (b := Dv (n - 1)) (by omega) hv (by omega)]
  refine lv_lstore (lv' := [(5, .long (lN ((O (k9 + n) * 65536 + O (k9 + n - 1)) / Dv (n - 1)))), (3, .long (lN (O (k9 + n) * 65536 + O (k9 + n - 1)))), (0, .ref h0), (1, .int (nI k9)), (2, .int (nI n))]) hx hb d_Mo_digit_36 hl (by decide) rfl (fun ls hl => ?_)
  refine lv_lload hx hb d_Mo_digit_38 (lv_at hl 0 rfl) ?_
  refine lv_ldc2 (v := 65535) hx hb C.2.2.2.1 (C.2.2.2.2.1 _ wk_Mo_276) d_Mo_digit_40 ?_
  refine W.lcmp hx hb d_Mo_digit_43 ?_
  have hQ : vl 65536 (fun i => O (k9 + i)) (n + 1) / vl 65536 Dv n ≤ (O (k9 + n) * 65536 + O (k9 + n - 1)) / Dv (n - 1) := by
    by_cases h : n ≤ 1
    · rw [(hN1 h).1, (hN1 h).2]; exact Nat.le_refl _
    · obtain ⟨P, w, z, s1, s2, s3, s4, s5⟩ := dg_shape (by omega) hn hk dO dD
      rw [s4, s5]
      exact kn_lower0 hv s1 (by decide) b5 s3
  have hdl := Nat.div_le_self (O (k9 + n) * 65536 + O (k9 + n - 1)) (Dv (n - 1))
  have hQ2 : vl 65536 (fun i => O (k9 + i)) (n + 1) / vl 65536 Dv n ≤ 65535 := by
    have : vl 65536 (fun i => O (k9 + i)) (n + 1) / vl 65536 Dv n < 65536 := (Nat.div_lt_iff_lt_mul (Nat.pos_of_ne_zero (fun e9 => by rw [e9] at hR; omega))).mpr hR
    omega
  have hm := Nat.div_mul_le_self (O (k9 + n) * 65536 + O (k9 + n - 1)) (Dv (n - 1))
  refine lv_if_le (tgt := 52) hx hb d_Mo_digit_44 (by decide) (fun hg => ?_) (fun hg => ?_)
  · have h5 : (O (k9 + n) * 65536 + O (k9 + n - 1)) / Dv (n - 1) ≤ 65535 := (pk_lLE (a := (O (k9 + n) * 65536 + O (k9 + n - 1)) / Dv (n - 1)) (b := 65535) (by omega) (by omega)).mp ((lg_cmp_le _ _).mp hg)
    exact guess _ hQ h5 hm ls (lv_sub hl [0, 1, 2, 3, 4] rfl) _ _ S
  · refine lv_ldc2 (v := 65535) hx hb C.2.2.2.1 (C.2.2.2.2.1 _ wk_Mo_276) d_Mo_digit_47 ?_
    refine lv_lstore (lv' := [(5, .long 65535), (3, .long (lN (O (k9 + n) * 65536 + O (k9 + n - 1)))), (0, .ref h0), (1, .int (nI k9)), (2, .int (nI n))]) hx hb d_Mo_digit_50 hl (by decide) rfl (fun ls hl => ?_)
    have h5 : ¬ (O (k9 + n) * 65536 + O (k9 + n - 1)) / Dv (n - 1) ≤ 65535 := fun z => hg ((lg_cmp_le _ _).mpr ((pk_lLE (a := (O (k9 + n) * 65536 + O (k9 + n - 1)) / Dv (n - 1)) (b := 65535) (by omega) (by omega)).mpr z))
    have h6 : 65535 * Dv (n - 1) ≤ (O (k9 + n) * 65536 + O (k9 + n - 1)) / Dv (n - 1) * Dv (n - 1) := Nat.mul_le_mul_right _ (by omega)
    exact guess 65535 hQ2 (by omega) (by omega) ls (lv_sub hl [0, 1, 2, 3, 4] rfl) _ _ S
end
