theorem d_So_solve_0 : decode c_So_solve 0 = .ok (.iconst 0, 1) := by decide +kernel
theorem d_So_solve_1 : decode c_So_solve 1 = .ok (.istore_n 1, 1) := by decide +kernel
theorem d_So_solve_2 : decode c_So_solve 2 = .ok (.iload_n 1, 1) := by decide +kernel
theorem d_So_solve_3 : decode c_So_solve 3 = .ok (.ldc 88, 2) := by decide +kernel
theorem d_So_solve_5 : decode c_So_solve 5 = .ok (.if_icmp .ge 42, 3) := by decide +kernel
theorem d_So_solve_8 : decode c_So_solve 8 = .ok (.aload_n 0, 1) := by decide +kernel
theorem d_So_solve_9 : decode c_So_solve 9 = .ok (.invokevirtual 89, 3) := by decide +kernel
theorem d_So_solve_12 : decode c_So_solve 12 = .ok (.istore_n 2, 1) := by decide +kernel
theorem d_So_solve_13 : decode c_So_solve 13 = .ok (.iload_n 2, 1) := by decide +kernel
theorem d_So_solve_14 : decode c_So_solve 14 = .ok (.bipush (-2), 2) := by decide +kernel
theorem d_So_solve_16 : decode c_So_solve 16 = .ok (.if_icmp .ne 5, 3) := by decide +kernel
theorem d_So_solve_19 : decode c_So_solve 19 = .ok (.iconst 1, 1) := by decide +kernel
theorem d_So_solve_20 : decode c_So_solve 20 = .ok (.ireturn, 1) := by decide +kernel
theorem d_So_solve_21 : decode c_So_solve 21 = .ok (.aload_n 0, 1) := by decide +kernel
theorem d_So_solve_22 : decode c_So_solve 22 = .ok (.iload_n 2, 1) := by decide +kernel
theorem d_So_solve_23 : decode c_So_solve 23 = .ok (.invokevirtual 93, 3) := by decide +kernel
theorem d_So_solve_26 : decode c_So_solve 26 = .ok (.istore_n 3, 1) := by decide +kernel
theorem d_So_solve_27 : decode c_So_solve 27 = .ok (.iload_n 3, 1) := by decide +kernel
theorem d_So_solve_28 : decode c_So_solve 28 = .ok (.bipush (-2), 2) := by decide +kernel
theorem d_So_solve_30 : decode c_So_solve 30 = .ok (.if_icmp .ne 5, 3) := by decide +kernel
theorem d_So_solve_33 : decode c_So_solve 33 = .ok (.iconst 0, 1) := by decide +kernel
theorem d_So_solve_34 : decode c_So_solve 34 = .ok (.ireturn, 1) := by decide +kernel
theorem d_So_solve_35 : decode c_So_solve 35 = .ok (.aload_n 0, 1) := by decide +kernel
theorem d_So_solve_36 : decode c_So_solve 36 = .ok (.iload_n 2, 1) := by decide +kernel
theorem d_So_solve_37 : decode c_So_solve 37 = .ok (.iload_n 3, 1) := by decide +kernel
theorem d_So_solve_38 : decode c_So_solve 38 = .ok (.invokevirtual 97, 3) := by decide +kernel
theorem d_So_solve_41 : decode c_So_solve 41 = .ok (.iinc 1 1, 3) := by decide +kernel
theorem d_So_solve_44 : decode c_So_solve 44 = .ok (.goto (-42), 3) := by decide +kernel
theorem d_So_solve_47 : decode c_So_solve 47 = .ok (.iconst 0, 1) := by decide +kernel
theorem d_So_solve_48 : decode c_So_solve 48 = .ok (.ireturn, 1) := by decide +kernel
set_option maxRecDepth 100000 in
set_option maxHeartbeats 16000000 in
/-- solve -/
theorem g_So_solve (l : Launch) (G : va_G) (k : Nat → ClassId) (h0 : Nat) (s0 sl : Nat) (cea : Nat) (roa : Nat) (coa : Nat) (ura : Nat) (uca : Nat) (au : Nat) (ap : Nat) (al : Nat) (ar : Nat) (ae : Nat) (rw9 : Nat) (C9 : Nat) (fs9 : Nat) (tk9 : Nat) (ro : Nat → Int32) (co : Nat → Int32) (ur : Nat → Int32) (uc : Nat → Int32) (N9 : Nat) (st : Nat → Option wQ) (Z : Nat → Int) (hN : N9 = 3745) (hh : hO st Z) (hU : atO st 3731 au) (hP : atO st 3732 ap) (hL : atO st 3733 al) (hR : atO st 3734 ar) (hE : atO st 3735 ae) (hC : C9 ≤ 40) (hRw : rw9 ≤ 91) (hso : soO C9 rw9 ro ur uc) (htab : tabO C9 rw9 Z) (hfs : fs9 + tk9 < C9) : CG l y_So_solve c_So_solve 4 (some .boolean) { frames := 7, cells := pt st N9 + 400, slots := 2 * pt st N9 + 800, locals := 208 } [.ref h0] G k s0 sl ([(h0, .inr (1, [.ref cea, .ref roa, .ref coa, .ref ura, .ref uca, .ref au, .ref ap, .ref al, .ref ar, .ref ae, .int (nI rw9), .int (nI C9), .int (nI fs9), .int (nI tk9)])), (cea, .inl (k 4, 3731, .inr (.inr (.inr (.inr (fun j => adO (st j))))))), (roa, .inl (k 0, 40, .inl ro)), (coa, .inl (k 0, 40, .inl co)), (ura, .inl (k 0, 91, .inl ur)), (uca, .inl (k 0, 40, .inl uc))] ++ (tpl k st N9)) (fun (u : (Nat → Option wQ) × (Nat → Int) × (Nat → Int32) × (Nat → Int32) × (Nat → Int32) × (Nat → Int32) × Nat) => some (.int (nI u.2.2.2.2.2.2))) (fun (u : (Nat → Option wQ) × (Nat → Int) × (Nat → Int32) × (Nat → Int32) × (Nat → Int32) × (Nat → Int32) × Nat) => hO u.1 u.2.1 ∧ keO st u.1 ∧ pt u.1 N9 ≤ pt st N9 ∧ soO C9 rw9 u.2.2.1 u.2.2.2.2.1 u.2.2.2.2.2.1 ∧ u.2.2.2.2.2.2 ≤ 1) (fun (u : (Nat → Option wQ) × (Nat → Int) × (Nat → Int32) × (Nat → Int32) × (Nat → Int32) × (Nat → Int32) × Nat) => ([(h0, .inr (1, [.ref cea, .ref roa, .ref coa, .ref ura, .ref uca, .ref au, .ref ap, .ref al, .ref ar, .ref ae, .int (nI rw9), .int (nI C9), .int (nI fs9), .int (nI tk9)])), (cea, .inl (k 4, 3731, .inr (.inr (.inr (.inr (fun j => adO (u.1 j))))))), (roa, .inl (k 0, 40, .inl u.2.2.1)), (coa, .inl (k 0, 40, .inl u.2.2.2.1)), (ura, .inl (k 0, 91, .inl u.2.2.2.2.1)), (uca, .inl (k 0, 40, .inl u.2.2.2.2.2.1))] ++ (tpl k u.1 N9))) (fun (u : (Nat → Option wQ) × (Nat → Int) × (Nat → Int32) × (Nat → Int32) × (Nat → Int32) × (Nat → Int32) × Nat) => pt st N9 - pt u.1 N9) (fun (u : (Nat → Option wQ) × (Nat → Int) × (Nat → Int32) × (Nat → Int32) × (Nat → Int32) × (Nat → Int32) × Nat) => 2 * (pt st N9 - pt u.1 N9)) (pt st N9 + 400) (2 * pt st N9 + 800) := by
  refine met_startG (by decide) (Nat.le_of_ble_eq_true rfl) ?_
  intro p e s m below meth c C K hA hsz S ls hl
  generalize va_A ([(h0, .inr (1, [.ref cea, .ref roa, .ref coa, .ref ura, .ref uca, .ref au, .ref ap, .ref al, .ref ar, .ref ae, .int (nI rw9), .int (nI C9), .int (nI fs9), .int (nI tk9)])), (cea, .inl (k 4, 3731, .inr (.inr (.inr (.inr (fun j => adO (st j))))))), (roa, .inl (k 0, 40, .inl ro)), (coa, .inl (k 0, 40, .inl co)), (ura, .inl (k 0, 91, .inl ur)), (uca, .inl (k 0, 40, .inl uc))] ++ (tpl k st N9)) s0 = A at hA S ⊢
  have hx := C.1
  have hb := C.2.1
  have hl : lv_has ls 4 [(0, .ref h0)] := hl
  refine lv_iconst (v := 0) hx hb d_So_solve_0 (by decide) ?_
  refine lv_istore_n (lv' := [(1, .int 0), (0, .ref h0)]) hx hb d_So_solve_1 rfl hl (by decide) rfl (fun ls hl => ?_)
  refine W.widen (show 0 ≤ pt st N9 - pt st N9 from by omega) (show 0 ≤ 2 * (pt st N9 - pt st N9) from by omega) ?_
  have lp : ∀ d9, ∀ (s8 : Nat → Option wQ), ∀ (Z8 : Nat → Int), ∀ (n9 : Nat), ∀ (ro8 : Nat → Int32), ∀ (co8 : Nat → Int32), ∀ (ur8 : Nat → Int32), ∀ (uc8 : Nat → Int32), (1000000 - n9) < d9 → (hO s8 Z8) → (keO st s8) → (pt s8 N9 ≤ pt st N9) → (n9 ≤ 1000000) → (tabO C9 rw9 Z8) → (soO C9 rw9 ro8 ur8 uc8) → ∀ (H : Heap) (locs : List Loc), Sw G A s.heap H locs ([(h0, .inr (1, [.ref cea, .ref roa, .ref coa, .ref ura, .ref uca, .ref au, .ref ap, .ref al, .ref ar, .ref ae, .int (nI rw9), .int (nI C9), .int (nI fs9), .int (nI tk9)])), (cea, .inl (k 4, 3731, .inr (.inr (.inr (.inr (fun j => adO (s8 j))))))), (roa, .inl (k 0, 40, .inl ro8)), (coa, .inl (k 0, 40, .inl co8)), (ura, .inl (k 0, 91, .inl ur8)), (uca, .inl (k 0, 40, .inl uc8))] ++ (tpl k s8 N9)) → ∀ ls : Array Slot, lv_has ls 4 [(1, .int (nI n9)), (0, .ref h0)] → W p l e { frames := 7, cells := pt st N9 + 400, slots := 2 * pt st N9 + 800, locals := 208 } s m [Value.ref h0].toArray below meth c H locs (pt st N9 - pt s8 N9) (2 * (pt st N9 - pt s8 N9)) (MQ below (va_Qg (fun (u : (Nat → Option wQ) × (Nat → Int) × (Nat → Int32) × (Nat → Int32) × (Nat → Int32) × (Nat → Int32) × Nat) => some (.int (nI u.2.2.2.2.2.2))) (fun (u : (Nat → Option wQ) × (Nat → Int) × (Nat → Int32) × (Nat → Int32) × (Nat → Int32) × (Nat → Int32) × Nat) => hO u.1 u.2.1 ∧ keO st u.1 ∧ pt u.1 N9 ≤ pt st N9 ∧ soO C9 rw9 u.2.2.1 u.2.2.2.2.1 u.2.2.2.2.2.1 ∧ u.2.2.2.2.2.2 ≤ 1) (Pog G k A (fun (u : (Nat → Option wQ) × (Nat → Int) × (Nat → Int32) × (Nat → Int32) × (Nat → Int32) × (Nat → Int32) × Nat) => ([(h0, .inr (1, [.ref cea, .ref roa, .ref coa, .ref ura, .ref uca, .ref au, .ref ap, .ref al, .ref ar, .ref ae, .int (nI rw9), .int (nI C9), .int (nI fs9), .int (nI tk9)])), (cea, .inl (k 4, 3731, .inr (.inr (.inr (.inr (fun j => adO (u.1 j))))))), (roa, .inl (k 0, 40, .inl u.2.2.1)), (coa, .inl (k 0, 40, .inl u.2.2.2.1)), (ura, .inl (k 0, 91, .inl u.2.2.2.2.1)), (uca, .inl (k 0, 40, .inl u.2.2.2.2.2.1))] ++ (tpl k u.1 N9))) s0 sl (fun (u : (Nat → Option wQ) × (Nat → Int) × (Nat → Int32) × (Nat → Int32) × (Nat → Int32) × (Nat → Int32) × Nat) => pt st N9 - pt u.1 N9) (fun (u : (Nat → Option wQ) × (Nat → Int) × (Nat → Int32) × (Nat → Int32) × (Nat → Int32) × (Nat → Int32) × Nat) => 2 * (pt st N9 - pt u.1 N9))) A) [Value.ref h0].toArray s (pt st N9 + 400) (2 * pt st N9 + 800) A) (F0 m 2 ls []) := by
    intro d9
    induction d9 with
    | zero => intro s8 Z8 n9 ro8 co8 ur8 uc8 hm; exact absurd hm (Nat.not_lt_zero _)
    | succ d9 ih_lp =>
      intro s8 Z8 n9 ro8 co8 ur8 uc8 hm hh8 hke8 hpt8 hn9 htab8 hso8 H locs S ls hl
      refine lv_iload_n hx hb d_So_solve_2 rfl (lv_at hl 0 rfl) ?_
      refine lv_ldc (v := 1000000) hx hb C.2.2.2.1 (C.2.2.2.2.1 _ wk_So_88) d_So_solve_3 ?_
      refine z_icmp_ge (a := n9) (b := 1000000) (tgt := 47) hx hb d_So_solve_5 (by decide) (by omega) (by omega) (fun hc1 => ?_) (fun hc1 => ?_)
      · refine lv_iconst (v := 0) hx hb d_So_solve_47 (by decide) ?_
        exact q_iret C K hsz rfl (s8, Z8, ro8, co8, ur8, uc8, 0) rfl (show hO s8 Z8 ∧ keO st s8 ∧ pt s8 N9 ≤ pt st N9 ∧ soO C9 rw9 ro8 ur8 uc8 ∧ 0 ≤ 1 from ⟨⟨hh8.1, hh8.2⟩, hke8, by omega, hso8, by decide⟩) (S.subP [0, 1, 2, 3, 4, 5] (by decide) rfl) d_So_solve_48 (show pt st N9 - pt s8 N9 ≤ pt st N9 - pt s8 N9 from by omega) (show 2 * (pt st N9 - pt s8 N9) ≤ 2 * (pt st N9 - pt s8 N9) from by omega) (show pt st N9 - pt s8 N9 ≤ pt st N9 + 400 from by omega) (show 2 * (pt st N9 - pt s8 N9) ≤ 2 * pt st N9 + 800 from by omega)
      · refine lv_aload_n hx hb d_So_solve_8 rfl (lv_at hl 1 rfl) ?_
        refine q_backP (wi := [(h0, .inr (1, [.ref cea, .ref roa, .ref coa, .ref ura, .ref uca, .ref au, .ref ap, .ref al, .ref ar, .ref ae, .int (nI rw9), .int (nI C9), .int (nI fs9), .int (nI tk9)])), (cea, .inl (k 4, 3731, .inr (.inr (.inr (.inr (fun j => adO (s8 j)))))))]) (wr := [(roa, .inl (k 0, 40, .inl ro8)), (coa, .inl (k 0, 40, .inl co8)), (ura, .inl (k 0, 91, .inl ur8)), (uca, .inl (k 0, 40, .inl uc8))]) S hA [0, 1] [2, 3, 4, 5] rfl rfl (by decide) (by decide) (va_runV (As := []) (rest := []) ⟨hx, hb, C.2.2.1, C.2.2.2.1, C.2.2.2.2.1⟩ (g_So_lowestRow l G k h0 _ _ cea roa coa ura uca au ap al ar ae rw9 C9 fs9 tk9 N9 s8 Z8 hN ⟨hh8.1, hh8.2⟩ (hke8.at hU) (hke8.at hP) (hke8.at hL) (hke8.at hR) (hke8.at hE) hC hRw) (k_virt (n := 0) C wc_So_lowestRow rfl rfl wz_So wm_So_89 wn_So_lowestRow ws_So_lowestRow (by decide +kernel) ⟨(Nat.le_of_ble_eq_true rfl), (Nat.le_of_ble_eq_true rfl)⟩) (pr_nowVGP K S [0, 1] (by decide) rfl (List.mem_append_left _ (List.mem_of_getElem? (i := 0) rfl)) rfl) rfl rfl hl.1 rfl (lv_room (Nat.le_of_ble_eq_true rfl)) d_So_solve_9 ⟨(show pt st N9 - pt s8 N9 + (pt s8 N9 + 400) ≤ pt st N9 + 400 from by omega), (show 2 * (pt st N9 - pt s8 N9) + (2 * pt s8 N9 + 800) ≤ 2 * pt st N9 + 800 from by omega)⟩) (fun c2 H locs hw3 S => ?_)
        have S : Sw G A s.heap _ _ ([(roa, .inl (k 0, 40, .inl ro8)), (coa, .inl (k 0, 40, .inl co8)), (ura, .inl (k 0, 91, .inl ur8)), (uca, .inl (k 0, 40, .inl uc8)), (h0, .inr (1, [.ref cea, .ref roa, .ref coa, .ref ura, .ref uca, .ref au, .ref ap, .ref al, .ref ar, .ref ae, .int (nI rw9), .int (nI C9), .int (nI fs9), .int (nI tk9)])), (cea, .inl (k 4, 3731, .inr (.inr (.inr (.inr (fun j => adO (c2.1 j)))))))] ++ (tpl k c2.1 N9)) := S
        have hw3 : hO c2.1 Z8 ∧ keO s8 c2.1 ∧ pt c2.1 N9 ≤ pt s8 N9 ∧ (c2.2 = -2 ∨ ∃ b7, b7 < rw9 ∧ c2.2 = nI b7) := hw3
        show W p l e _ s m _ below meth c H locs _ _ _ (F0 m 12 ls [.int c2.2])
        obtain ⟨hh4, ke5, pt6, hlow⟩ := hw3
        refine lv_istore_n (lv' := [(2, .int c2.2), (1, .int (nI n9)), (0, .ref h0)]) hx hb d_So_solve_12 rfl hl (by decide) rfl (fun ls hl => ?_)
        refine lv_iload_n hx hb d_So_solve_13 rfl (lv_at hl 0 rfl) ?_
        refine lv_bipush (v := (-2)) hx hb d_So_solve_14 (by decide) ?_
        refine lv_icmp_ne (tgt := 21) hx hb d_So_solve_16 (by decide) (fun hc7 => ?_) (fun hc7 => ?_)
        · obtain ⟨w7, l7, e7⟩ := hlow.resolve_left hc7
          refine lv_aload_n hx hb d_So_solve_21 rfl (lv_at hl 2 rfl) ?_
          refine lv_iload_n hx hb d_So_solve_22 rfl (lv_at hl 0 rfl) ?_
          refine z_topi (y := nI w7) e7 ?_
          refine q_backP (wi := [(h0, .inr (1, [.ref cea, .ref roa, .ref coa, .ref ura, .ref uca, .ref au, .ref ap, .ref al, .ref ar, .ref ae, .int (nI rw9), .int (nI C9), .int (nI fs9), .int (nI tk9)])), (cea, .inl (k 4, 3731, .inr (.inr (.inr (.inr (fun j => adO (c2.1 j))))))), (roa, .inl (k 0, 40, .inl ro8)), (coa, .inl (k 0, 40, .inl co8))]) (wr := [(ura, .inl (k 0, 91, .inl ur8)), (uca, .inl (k 0, 40, .inl uc8))]) S hA [4, 5, 0, 1] [2, 3] rfl rfl (by decide) (by decide) (va_runV (As := [.int (nI w7)]) (rest := []) ⟨hx, hb, C.2.2.1, C.2.2.2.1, C.2.2.2.2.1⟩ (g_So_entering l G k h0 _ _ w7 cea roa coa ura uca au ap al ar ae rw9 C9 fs9 tk9 ro8 co8 N9 c2.1 Z8 hN ⟨hh4.1, hh4.2⟩ (ke5.at (hke8.at hU)) (ke5.at (hke8.at hP)) (ke5.at (hke8.at hL)) (ke5.at (hke8.at hR)) (ke5.at (hke8.at hE)) hC hRw hso8.1 hfs l7) (k_virt (n := 1) C wc_So_entering rfl rfl wz_So wm_So_93 wn_So_entering ws_So_entering (by decide +kernel) ⟨(Nat.le_of_ble_eq_true rfl), (Nat.le_of_ble_eq_true rfl)⟩) (pr_nowVGP K S [4, 5, 0, 1] (by decide) rfl (List.mem_append_left _ (List.mem_of_getElem? (i := 4) rfl)) rfl) rfl rfl hl.1 rfl (lv_room (Nat.le_of_ble_eq_true rfl)) d_So_solve_23 ⟨(show pt st N9 - pt s8 N9 + (pt s8 N9 - pt c2.1 N9) + (pt c2.1 N9 + 400) ≤ pt st N9 + 400 from by omega), (show 2 * (pt st N9 - pt s8 N9) + (2 * (pt s8 N9 - pt c2.1 N9)) + (2 * pt c2.1 N9 + 800) ≤ 2 * pt st N9 + 800 from by omega)⟩) (fun c8 H locs hw9 S => ?_)
          have S : Sw G A s.heap _ _ ([(ura, .inl (k 0, 91, .inl ur8)), (uca, .inl (k 0, 40, .inl uc8)), (h0, .inr (1, [.ref cea, .ref roa, .ref coa, .ref ura, .ref uca, .ref au, .ref ap, .ref al, .ref ar, .ref ae, .int (nI rw9), .int (nI C9), .int (nI fs9), .int (nI tk9)])), (cea, .inl (k 4, 3731, .inr (.inr (.inr (.inr (fun j => adO (c8.1 j))))))), (roa, .inl (k 0, 40, .inl ro8)), (coa, .inl (k 0, 40, .inl co8))] ++ (tpl k c8.1 N9)) := S
          have hw9 : hO c8.1 Z8 ∧ keO c2.1 c8.1 ∧ pt c8.1 N9 ≤ pt c2.1 N9 ∧ (c8.2 = -2 ∨ ∃ b7, (b7 < C9 ∧ 0 < Z8 (w7 * (C9 + 1) + b7)) ∧ c8.2 = nI b7) := hw9
          show W p l e _ s m _ below meth c H locs _ _ _ (F0 m 26 ls [.int c8.2])
          obtain ⟨hh10, ke11, pt12, hent⟩ := hw9
          refine lv_istore_n (lv' := [(3, .int c8.2), (2, .int c2.2), (1, .int (nI n9)), (0, .ref h0)]) hx hb d_So_solve_26 rfl hl (by decide) rfl (fun ls hl => ?_)
          refine lv_iload_n hx hb d_So_solve_27 rfl (lv_at hl 0 rfl) ?_
          refine lv_bipush (v := (-2)) hx hb d_So_solve_28 (by decide) ?_
          refine lv_icmp_ne (tgt := 35) hx hb d_So_solve_30 (by decide) (fun hc13 => ?_) (fun hc13 => ?_)
          · obtain ⟨b6, l6, e6⟩ := hent.resolve_left hc13
            refine lv_aload_n hx hb d_So_solve_35 rfl (lv_at hl 3 rfl) ?_
            refine lv_iload_n hx hb d_So_solve_36 rfl (lv_at hl 1 rfl) ?_
            refine z_topi (y := nI w7) e7 ?_
            refine lv_iload_n hx hb d_So_solve_37 rfl (lv_at hl 0 rfl) ?_
            refine z_topi (y := nI b6) e6 ?_
            refine q_backP (wi := [(h0, .inr (1, [.ref cea, .ref roa, .ref coa, .ref ura, .ref uca, .ref au, .ref ap, .ref al, .ref ar, .ref ae, .int (nI rw9), .int (nI C9), .int (nI fs9), .int (nI tk9)])), (cea, .inl (k 4, 3731, .inr (.inr (.inr (.inr (fun j => adO (c8.1 j))))))), (roa, .inl (k 0, 40, .inl ro8)), (coa, .inl (k 0, 40, .inl co8)), (ura, .inl (k 0, 91, .inl ur8)), (uca, .inl (k 0, 40, .inl uc8))]) (wr := []) S hA [2, 3, 4, 5, 0, 1] [] rfl rfl (by decide) (by decide) (va_runV (As := [.int (nI w7), .int (nI b6)]) (rest := []) ⟨hx, hb, C.2.2.1, C.2.2.2.1, C.2.2.2.2.1⟩ (g_So_exchange l G k h0 _ _ w7 b6 cea roa coa ura uca au ap al ar ae rw9 C9 fs9 tk9 ro8 co8 ur8 uc8 N9 c8.1 Z8 hN ⟨hh10.1, hh10.2⟩ (ke11.at (ke5.at (hke8.at hU))) (ke11.at (ke5.at (hke8.at hP))) (ke11.at (ke5.at (hke8.at hL))) (ke11.at (ke5.at (hke8.at hR))) (ke11.at (ke5.at (hke8.at hE))) hC hRw hso8 htab8 l7 l6.1 l6.2) (k_virt (n := 2) C wc_So_exchange rfl rfl wz_So wm_So_97 wn_So_exchange ws_So_exchange (by decide +kernel) ⟨(Nat.le_of_ble_eq_true rfl), (Nat.le_of_ble_eq_true rfl)⟩) (pr_nowVGP K S [2, 3, 4, 5, 0, 1] (by decide) rfl (List.mem_append_left _ (List.mem_of_getElem? (i := 2) rfl)) rfl) rfl rfl hl.1 rfl (lv_room (Nat.le_of_ble_eq_true rfl)) d_So_solve_38 ⟨(show pt st N9 - pt s8 N9 + (pt s8 N9 - pt c2.1 N9) + (pt c2.1 N9 - pt c8.1 N9) + (pt c8.1 N9 + 400) ≤ pt st N9 + 400 from by omega), (show 2 * (pt st N9 - pt s8 N9) + (2 * (pt s8 N9 - pt c2.1 N9)) + (2 * (pt c2.1 N9 - pt c8.1 N9)) + (2 * pt c8.1 N9 + 800) ≤ 2 * pt st N9 + 800 from by omega)⟩) (fun x14 H locs hw15 S => ?_)
            have S : Sw G A s.heap _ _ ([(h0, .inr (1, [.ref cea, .ref roa, .ref coa, .ref ura, .ref uca, .ref au, .ref ap, .ref al, .ref ar, .ref ae, .int (nI rw9), .int (nI C9), .int (nI fs9), .int (nI tk9)])), (cea, .inl (k 4, 3731, .inr (.inr (.inr (.inr (fun j => adO (x14.1 j))))))), (roa, .inl (k 0, 40, .inl x14.2.2.1)), (coa, .inl (k 0, 40, .inl x14.2.2.2.1)), (ura, .inl (k 0, 91, .inl x14.2.2.2.2.1)), (uca, .inl (k 0, 40, .inl x14.2.2.2.2.2))] ++ (tpl k x14.1 N9)) := S
            have hw15 : hO x14.1 x14.2.1 ∧ keO c8.1 x14.1 ∧ pt x14.1 N9 ≤ pt c8.1 N9 ∧ tabO C9 rw9 x14.2.1 ∧ soO C9 rw9 x14.2.2.1 x14.2.2.2.2.1 x14.2.2.2.2.2 := hw15
            show W p l e _ s m _ below meth c H locs _ _ _ (F0 m 41 ls [])
            obtain ⟨hh16, ke17, pt18, htn, hsn⟩ := hw15
            refine lv_iinc (v := nI (n9 + 1)) (lv' := [(1, .int (nI (n9 + 1))), (3, .int c8.2), (2, .int c2.2), (0, .ref h0)]) hx hb d_So_solve_41 hl (k := 2) rfl (show nI n9 + Int32.ofInt 1 = nI (n9 + 1) from (nI_add n9 1).trans (congrArg nI (by omega))) (by decide) rfl (fun ls hl => ?_)
            refine lv_goto (tgt := 2) hx hb d_So_solve_44 (by decide) ?_
            refine W.widen (show pt st N9 - pt s8 N9 + (pt s8 N9 - pt c2.1 N9) + (pt c2.1 N9 - pt c8.1 N9) + (pt c8.1 N9 - pt x14.1 N9) ≤ pt st N9 - pt x14.1 N9 from by omega) (show 2 * (pt st N9 - pt s8 N9) + (2 * (pt s8 N9 - pt c2.1 N9)) + (2 * (pt c2.1 N9 - pt c8.1 N9)) + (2 * (pt c8.1 N9 - pt x14.1 N9)) ≤ 2 * (pt st N9 - pt x14.1 N9) from by omega) ?_
            exact ih_lp x14.1 x14.2.1 (n9 + 1) x14.2.2.1 x14.2.2.2.1 x14.2.2.2.2.1 x14.2.2.2.2.2 (by omega) ⟨hh16.1, hh16.2⟩ (((hke8.tr ke5).tr ke11).tr ke17) (by omega) (by omega) htn hsn _ _ (S.subP [0, 1, 2, 3, 4, 5] (by decide) rfl) ls (lv_sub hl [0, 3] rfl)
          · refine lv_iconst (v := 0) hx hb d_So_solve_33 (by decide) ?_
            exact q_iret C K hsz rfl (c8.1, Z8, ro8, co8, ur8, uc8, 0) rfl (show hO c8.1 Z8 ∧ keO st c8.1 ∧ pt c8.1 N9 ≤ pt st N9 ∧ soO C9 rw9 ro8 ur8 uc8 ∧ 0 ≤ 1 from ⟨⟨hh10.1, hh10.2⟩, ((hke8.tr ke5).tr ke11), by omega, hso8, by decide⟩) (S.subP [2, 3, 4, 5, 0, 1] (by decide) rfl) d_So_solve_34 (show pt st N9 - pt s8 N9 + (pt s8 N9 - pt c2.1 N9) + (pt c2.1 N9 - pt c8.1 N9) ≤ pt st N9 - pt c8.1 N9 from by omega) (show 2 * (pt st N9 - pt s8 N9) + (2 * (pt s8 N9 - pt c2.1 N9)) + (2 * (pt c2.1 N9 - pt c8.1 N9)) ≤ 2 * (pt st N9 - pt c8.1 N9) from by omega) (show pt st N9 - pt s8 N9 + (pt s8 N9 - pt c2.1 N9) + (pt c2.1 N9 - pt c8.1 N9) ≤ pt st N9 + 400 from by omega) (show 2 * (pt st N9 - pt s8 N9) + (2 * (pt s8 N9 - pt c2.1 N9)) + (2 * (pt c2.1 N9 - pt c8.1 N9)) ≤ 2 * pt st N9 + 800 from by omega)
        · refine lv_iconst (v := 1) hx hb d_So_solve_19 (by decide) ?_
          exact q_iret C K hsz rfl (c2.1, Z8, ro8, co8, ur8, uc8, 1) rfl (show hO c2.1 Z8 ∧ keO st c2.1 ∧ pt c2.1 N9 ≤ pt st N9 ∧ soO C9 rw9 ro8 ur8 uc8 ∧ 1 ≤ 1 from ⟨⟨hh4.1, hh4.2⟩, (hke8.tr ke5), by omega, hso8, by decide⟩) (S.subP [4, 5, 0, 1, 2, 3] (by decide) rfl) d_So_solve_20 (show pt st N9 - pt s8 N9 + (pt s8 N9 - pt c2.1 N9) ≤ pt st N9 - pt c2.1 N9 from by omega) (show 2 * (pt st N9 - pt s8 N9) + (2 * (pt s8 N9 - pt c2.1 N9)) ≤ 2 * (pt st N9 - pt c2.1 N9) from by omega) (show pt st N9 - pt s8 N9 + (pt s8 N9 - pt c2.1 N9) ≤ pt st N9 + 400 from by omega) (show 2 * (pt st N9 - pt s8 N9) + (2 * (pt s8 N9 - pt c2.1 N9)) ≤ 2 * pt st N9 + 800 from by omega)
  exact lp _ st Z 0 ro co ur uc (Nat.lt_succ_self _) ⟨hh.1, hh.2⟩ (keO.rf st) (by omega) (by omega) htab hso _ _ (S.subP [0, 1, 2, 3, 4, 5] (by decide) rfl) ls (lv_sub hl [0, 1] rfl)
theorem d_So_canFail_0 : decode c_So_canFail 0 = .ok (.iconst 0, 1) := by decide +kernel
theorem d_So_canFail_1 : decode c_So_canFail 1 = .ok (.istore_n 1, 1) := by decide +kernel
theorem d_So_canFail_2 : decode c_So_canFail 2 = .ok (.iload_n 1, 1) := by decide +kernel
theorem d_So_canFail_3 : decode c_So_canFail 3 = .ok (.bipush 40, 2) := by decide +kernel
theorem d_So_canFail_5 : decode c_So_canFail 5 = .ok (.if_icmp .gt 17, 3) := by decide +kernel
theorem d_So_canFail_8 : decode c_So_canFail 8 = .ok (.aload_n 0, 1) := by decide +kernel
theorem d_So_canFail_9 : decode c_So_canFail 9 = .ok (.iload_n 1, 1) := by decide +kernel
theorem d_So_canFail_10 : decode c_So_canFail 10 = .ok (.iaload, 1) := by decide +kernel
theorem d_So_canFail_11 : decode c_So_canFail 11 = .ok (.ifCond .ge 5, 3) := by decide +kernel
theorem d_So_canFail_14 : decode c_So_canFail 14 = .ok (.iconst 1, 1) := by decide +kernel
theorem d_So_canFail_15 : decode c_So_canFail 15 = .ok (.ireturn, 1) := by decide +kernel
theorem d_So_canFail_16 : decode c_So_canFail 16 = .ok (.iinc 1 1, 3) := by decide +kernel
theorem d_So_canFail_19 : decode c_So_canFail 19 = .ok (.goto (-17), 3) := by decide +kernel
theorem d_So_canFail_22 : decode c_So_canFail 22 = .ok (.iconst 0, 1) := by decide +kernel
theorem d_So_canFail_23 : decode c_So_canFail 23 = .ok (.ireturn, 1) := by decide +kernel
set_option maxRecDepth 100000 in
set_option maxHeartbeats 16000000 in
/-- canFail -/
theorem g_So_canFail (l : Launch) (G : va_G) (k : Nat → ClassId) (s0 sl : Nat) (ra9 : Nat) (f9 : Nat → Int32) : CG l y_So_canFail c_So_canFail 2 (some .boolean) { frames := 0, cells := 0, slots := 0, locals := 0 } [.ref ra9] G k s0 sl [(ra9, .inl (k 0, 41, .inl f9))] (fun (u : Nat) => some (.int (nI u))) (fun (u : Nat) => u ≤ 1) (fun (u : Nat) => [(ra9, .inl (k 0, 41, .inl f9))]) (fun (u : Nat) => 0) (fun (u : Nat) => 0) 0 0 := by
  refine met_startG (by decide) (Nat.le_of_ble_eq_true rfl) ?_
  intro p e s m below meth c C K hA hsz S ls hl
  generalize va_A [(ra9, .inl (k 0, 41, .inl f9))] s0 = A at hA S ⊢
  have hx := C.1
  have hb := C.2.1
  have hl : lv_has ls 2 [(0, .ref ra9)] := hl
  refine lv_iconst (v := 0) hx hb d_So_canFail_0 (by decide) ?_
  refine lv_istore_n (lv' := [(1, .int 0), (0, .ref ra9)]) hx hb d_So_canFail_1 rfl hl (by decide) rfl (fun ls hl => ?_)
  have lp : ∀ d9, ∀ (i9 : Nat), (41 - i9) < d9 → (i9 ≤ 41) → ∀ (H : Heap) (locs : List Loc), Sw G A s.heap H locs [(ra9, .inl (k 0, 41, .inl f9))] → ∀ ls : Array Slot, lv_has ls 2 [(1, .int (nI i9)), (0, .ref ra9)] → W p l e { frames := 0, cells := 0, slots := 0, locals := 0 } s m [Value.ref ra9].toArray below meth c H locs 0 0 (MQ below (va_Qg (fun (u : Nat) => some (.int (nI u))) (fun (u : Nat) => u ≤ 1) (Pog G k A (fun (u : Nat) => [(ra9, .inl (k 0, 41, .inl f9))]) s0 sl (fun (u : Nat) => 0) (fun (u : Nat) => 0)) A) [Value.ref ra9].toArray s 0 0 A) (F0 m 2 ls []) := by
    intro d9
    induction d9 with
    | zero => intro i9 hm; exact absurd hm (Nat.not_lt_zero _)
    | succ d9 ih_lp =>
      intro i9 hm hi H locs S ls hl
      refine lv_iload_n hx hb d_So_canFail_2 rfl (lv_at hl 0 rfl) ?_
      refine lv_bipush (v := 40) hx hb d_So_canFail_3 (by decide) ?_
      refine z_icmp_gt (a := i9) (b := 40) (tgt := 22) hx hb d_So_canFail_5 (by decide) (by omega) (by omega) (fun hc1 => ?_) (fun hc1 => ?_)
      · refine lv_iconst (v := 0) hx hb d_So_canFail_22 (by decide) ?_
        exact q_iret (rv := (fun (u : Nat) => some (.int (nI u)))) (post := (fun (u : Nat) => u ≤ 1)) (wo := (fun (u : Nat) => [(ra9, .inl (k 0, 41, .inl f9))])) (cu := (fun (u : Nat) => 0)) (nu := (fun (u : Nat) => 0)) C K hsz rfl (0 : Nat) rfl (show (0 : Nat) ≤ 1 from (by decide)) (S.sub [0] (by decide) rfl) d_So_canFail_23 (Nat.zero_le _) (Nat.zero_le _) (Nat.zero_le _) (Nat.zero_le _)
      · refine lv_aload_n hx hb d_So_canFail_8 rfl (lv_at hl 1 rfl) ?_
        refine lv_iload_n hx hb d_So_canFail_9 rfl (lv_at hl 0 rfl) ?_
        refine r_iald C K S 0 rfl (i := nI i9) (show vp_in (nI i9) _ from vp_in_nI (n := i9) (by omega) (by decide)) (v := f9 i9) (by rw [nI_clamp (by omega)]) d_So_canFail_10 ?_
        refine lv_if_ge (tgt := 16) hx hb d_So_canFail_11 (by decide) (fun hc2 => ?_) (fun hc2 => ?_)
        · refine lv_iinc (v := nI (i9 + 1)) (lv' := [(1, .int (nI (i9 + 1))), (0, .ref ra9)]) hx hb d_So_canFail_16 hl (k := 0) rfl (show nI i9 + Int32.ofInt 1 = nI (i9 + 1) from (nI_add i9 1).trans (congrArg nI (by omega))) (by decide) rfl (fun ls hl => ?_)
          refine lv_goto (tgt := 2) hx hb d_So_canFail_19 (by decide) ?_
          exact ih_lp (i9 + 1) (by omega) (by omega) _ _ (S.sub [0] (by decide) rfl) ls (lv_sub hl [0, 1] rfl)
        · refine lv_iconst (v := 1) hx hb d_So_canFail_14 (by decide) ?_
          exact q_iret (rv := (fun (u : Nat) => some (.int (nI u)))) (post := (fun (u : Nat) => u ≤ 1)) (wo := (fun (u : Nat) => [(ra9, .inl (k 0, 41, .inl f9))])) (cu := (fun (u : Nat) => 0)) (nu := (fun (u : Nat) => 0)) C K hsz rfl (1 : Nat) rfl (show (1 : Nat) ≤ 1 from (by decide)) (S.sub [0] (by decide) rfl) d_So_canFail_15 (Nat.zero_le _) (Nat.zero_le _) (Nat.zero_le _) (Nat.zero_le _)
  exact lp _ 0 (Nat.lt_succ_self _) (by omega) _ _ (S.sub [0] (by decide) rfl) ls (lv_sub hl [0, 1] rfl)
theorem d_So_loadRow_0 : decode c_So_loadRow 0 = .ok (.iconst 0, 1) := by decide +kernel
theorem d_So_loadRow_1 : decode c_So_loadRow 1 = .ok (.istore_n 2, 1) := by decide +kernel
theorem d_So_loadRow_2 : decode c_So_loadRow 2 = .ok (.iload_n 2, 1) := by decide +kernel
theorem d_So_loadRow_3 : decode c_So_loadRow 3 = .ok (.aload_n 0, 1) := by decide +kernel
theorem d_So_loadRow_4 : decode c_So_loadRow 4 = .ok (.getfield 59, 3) := by decide +kernel
theorem d_So_loadRow_7 : decode c_So_loadRow 7 = .ok (.if_icmp .ge 25, 3) := by decide +kernel
theorem d_So_loadRow_10 : decode c_So_loadRow 10 = .ok (.aload_n 0, 1) := by decide +kernel
theorem d_So_loadRow_11 : decode c_So_loadRow 11 = .ok (.aload_n 0, 1) := by decide +kernel
theorem d_So_loadRow_12 : decode c_So_loadRow 12 = .ok (.getfield 70, 3) := by decide +kernel
theorem d_So_loadRow_15 : decode c_So_loadRow 15 = .ok (.iload_n 2, 1) := by decide +kernel
theorem d_So_loadRow_16 : decode c_So_loadRow 16 = .ok (.invokevirtual 66, 3) := by decide +kernel
theorem d_So_loadRow_19 : decode c_So_loadRow 19 = .ok (.aload_n 1, 1) := by decide +kernel
theorem d_So_loadRow_20 : decode c_So_loadRow 20 = .ok (.iload_n 2, 1) := by decide +kernel
theorem d_So_loadRow_21 : decode c_So_loadRow 21 = .ok (.iaload, 1) := by decide +kernel
theorem d_So_loadRow_22 : decode c_So_loadRow 22 = .ok (.i2l, 1) := by decide +kernel
theorem d_So_loadRow_23 : decode c_So_loadRow 23 = .ok (.invokevirtual 62, 3) := by decide +kernel
theorem d_So_loadRow_26 : decode c_So_loadRow 26 = .ok (.iinc 2 1, 3) := by decide +kernel
theorem d_So_loadRow_29 : decode c_So_loadRow 29 = .ok (.goto (-27), 3) := by decide +kernel
theorem d_So_loadRow_32 : decode c_So_loadRow 32 = .ok (.aload_n 0, 1) := by decide +kernel
theorem d_So_loadRow_33 : decode c_So_loadRow 33 = .ok (.aload_n 0, 1) := by decide +kernel
theorem d_So_loadRow_34 : decode c_So_loadRow 34 = .ok (.getfield 70, 3) := by decide +kernel
theorem d_So_loadRow_37 : decode c_So_loadRow 37 = .ok (.aload_n 0, 1) := by decide +kernel
theorem d_So_loadRow_38 : decode c_So_loadRow 38 = .ok (.getfield 59, 3) := by decide +kernel
theorem d_So_loadRow_41 : decode c_So_loadRow 41 = .ok (.invokevirtual 66, 3) := by decide +kernel
theorem d_So_loadRow_44 : decode c_So_loadRow 44 = .ok (.aload_n 1, 1) := by decide +kernel
theorem d_So_loadRow_45 : decode c_So_loadRow 45 = .ok (.bipush 40, 2) := by decide +kernel
theorem d_So_loadRow_47 : decode c_So_loadRow 47 = .ok (.iaload, 1) := by decide +kernel
theorem d_So_loadRow_48 : decode c_So_loadRow 48 = .ok (.i2l, 1) := by decide +kernel
theorem d_So_loadRow_49 : decode c_So_loadRow 49 = .ok (.invokevirtual 62, 3) := by decide +kernel
theorem d_So_loadRow_52 : decode c_So_loadRow 52 = .ok (.aload_n 0, 1) := by decide +kernel
theorem d_So_loadRow_53 : decode c_So_loadRow 53 = .ok (.getfield 24, 3) := by decide +kernel
theorem d_So_loadRow_56 : decode c_So_loadRow 56 = .ok (.aload_n 0, 1) := by decide +kernel
theorem d_So_loadRow_57 : decode c_So_loadRow 57 = .ok (.getfield 70, 3) := by decide +kernel
theorem d_So_loadRow_60 : decode c_So_loadRow 60 = .ok (.bipush (-2), 2) := by decide +kernel
theorem d_So_loadRow_62 : decode c_So_loadRow 62 = .ok (.iastore, 1) := by decide +kernel
theorem d_So_loadRow_63 : decode c_So_loadRow 63 = .ok (.aload_n 0, 1) := by decide +kernel
theorem d_So_loadRow_64 : decode c_So_loadRow 64 = .ok (.dup, 1) := by decide +kernel
theorem d_So_loadRow_65 : decode c_So_loadRow 65 = .ok (.getfield 70, 3) := by decide +kernel
theorem d_So_loadRow_68 : decode c_So_loadRow 68 = .ok (.iconst 1, 1) := by decide +kernel
theorem d_So_loadRow_69 : decode c_So_loadRow 69 = .ok (.iadd, 1) := by decide +kernel
theorem d_So_loadRow_70 : decode c_So_loadRow 70 = .ok (.putfield 70, 3) := by decide +kernel
theorem d_So_loadRow_73 : decode c_So_loadRow 73 = .ok (.return_, 1) := by decide +kernel
set_option maxRecDepth 100000 in
set_option maxHeartbeats 16000000 in
/-- loadRow -/
theorem g_So_loadRow (l : Launch) (G : va_G) (k : Nat → ClassId) (h0 : Nat) (s0 sl : Nat) (ra9 : Nat) (f9 : Nat → Int32) (cea : Nat) (roa : Nat) (coa : Nat) (ura : Nat) (uca : Nat) (au : Nat) (ap : Nat) (al : Nat) (ar : Nat) (ae : Nat) (rw9 : Nat) (C9 : Nat) (fs9 : Nat) (tk9 : Nat) (ur : Nat → Int32) (N9 : Nat) (st : Nat → Option wQ) (Z : Nat → Int) (hN : N9 = 3745) (hh : hO st Z) (hU : atO st 3731 au) (hP : atO st 3732 ap) (hL : atO st 3733 al) (hR : atO st 3734 ar) (hE : atO st 3735 ae) (hC : C9 ≤ 40) (hRw : rw9 ≤ 90) (hld : ldP C9 rw9 0 Z) : CG l y_So_loadRow c_So_loadRow 3 none { frames := 3, cells := pt st N9 + 400, slots := 2 * pt st N9 + 800, locals := 55 } [.ref h0, .ref ra9] G k s0 sl ([(h0, .inr (1, [.ref cea, .ref roa, .ref coa, .ref ura, .ref uca, .ref au, .ref ap, .ref al, .ref ar, .ref ae, .int (nI rw9), .int (nI C9), .int (nI fs9), .int (nI tk9)])), (cea, .inl (k 4, 3731, .inr (.inr (.inr (.inr (fun j => adO (st j))))))), (ura, .inl (k 0, 91, .inl ur)), (ra9, .inl (k 0, 41, .inl f9))] ++ (tpl k st N9)) (fun (u : (Nat → Option wQ) × (Nat → Int)) => none) (fun (u : (Nat → Option wQ) × (Nat → Int)) => hO u.1 u.2 ∧ keO st u.1 ∧ pt u.1 N9 ≤ pt st N9 ∧ ldP C9 (rw9 + 1) 0 u.2) (fun (u : (Nat → Option wQ) × (Nat → Int)) => ([(h0, .inr (1, [.ref cea, .ref roa, .ref coa, .ref ura, .ref uca, .ref au, .ref ap, .ref al, .ref ar, .ref ae, .int (nI (rw9 + 1)), .int (nI C9), .int (nI fs9), .int (nI tk9)])), (cea, .inl (k 4, 3731, .inr (.inr (.inr (.inr (fun j => adO (u.1 j))))))), (ura, .inl (k 0, 91, .inl (va_up ur rw9 (-2)))), (ra9, .inl (k 0, 41, .inl f9))] ++ (tpl k u.1 N9))) (fun (u : (Nat → Option wQ) × (Nat → Int)) => pt st N9 - pt u.1 N9) (fun (u : (Nat → Option wQ) × (Nat → Int)) => 2 * (pt st N9 - pt u.1 N9)) (pt st N9 + 400) (2 * pt st N9 + 800) := by
  refine met_startG (by decide) (Nat.le_of_ble_eq_true rfl) ?_
  intro p e s m below meth c C K hA hsz S ls hl
  generalize va_A ([(h0, .inr (1, [.ref cea, .ref roa, .ref coa, .ref ura, .ref uca, .ref au, .ref ap, .ref al, .ref ar, .ref ae, .int (nI rw9), .int (nI C9), .int (nI fs9), .int (nI tk9)])), (cea, .inl (k 4, 3731, .inr (.inr (.inr (.inr (fun j => adO (st j))))))), (ura, .inl (k 0, 91, .inl ur)), (ra9, .inl (k 0, 41, .inl f9))] ++ (tpl k st N9)) s0 = A at hA S ⊢
  have hx := C.1
  have hb := C.2.1
  have hl : lv_has ls 3 [(0, .ref h0), (1, .ref ra9)] := hl
  refine lv_iconst (v := 0) hx hb d_So_loadRow_0 (by decide) ?_
  refine lv_istore_n (lv' := [(2, .int 0), (0, .ref h0), (1, .ref ra9)]) hx hb d_So_loadRow_1 rfl hl (by decide) rfl (fun ls hl => ?_)
  refine W.widen (show 0 ≤ pt st N9 - pt st N9 from by omega) (show 0 ≤ 2 * (pt st N9 - pt st N9) from by omega) ?_
  have lp : ∀ d9, ∀ (s8 : Nat → Option wQ), ∀ (Z8 : Nat → Int), ∀ (j9 : Nat), (C9 - j9) < d9 → (hO s8 Z8) → (keO st s8) → (pt s8 N9 ≤ pt st N9) → (j9 ≤ C9) → (ldP C9 rw9 j9 Z8) → ∀ (H : Heap) (locs : List Loc), Sw G A s.heap H locs ([(h0, .inr (1, [.ref cea, .ref roa, .ref coa, .ref ura, .ref uca, .ref au, .ref ap, .ref al, .ref ar, .ref ae, .int (nI rw9), .int (nI C9), .int (nI fs9), .int (nI tk9)])), (cea, .inl (k 4, 3731, .inr (.inr (.inr (.inr (fun j => adO (s8 j))))))), (ura, .inl (k 0, 91, .inl ur)), (ra9, .inl (k 0, 41, .inl f9))] ++ (tpl k s8 N9)) → ∀ ls : Array Slot, lv_has ls 3 [(2, .int (nI j9)), (0, .ref h0), (1, .ref ra9)] → W p l e { frames := 3, cells := pt st N9 + 400, slots := 2 * pt st N9 + 800, locals := 55 } s m [Value.ref h0, Value.ref ra9].toArray below meth c H locs (pt st N9 - pt s8 N9) (2 * (pt st N9 - pt s8 N9)) (MQ below (va_Qg (fun (u : (Nat → Option wQ) × (Nat → Int)) => none) (fun (u : (Nat → Option wQ) × (Nat → Int)) => hO u.1 u.2 ∧ keO st u.1 ∧ pt u.1 N9 ≤ pt st N9 ∧ ldP C9 (rw9 + 1) 0 u.2) (Pog G k A (fun (u : (Nat → Option wQ) × (Nat → Int)) => ([(h0, .inr (1, [.ref cea, .ref roa, .ref coa, .ref ura, .ref uca, .ref au, .ref ap, .ref al, .ref ar, .ref ae, .int (nI (rw9 + 1)), .int (nI C9), .int (nI fs9), .int (nI tk9)])), (cea, .inl (k 4, 3731, .inr (.inr (.inr (.inr (fun j => adO (u.1 j))))))), (ura, .inl (k 0, 91, .inl (va_up ur rw9 (-2)))), (ra9, .inl (k 0, 41, .inl f9))] ++ (tpl k u.1 N9))) s0 sl (fun (u : (Nat → Option wQ) × (Nat → Int)) => pt st N9 - pt u.1 N9) (fun (u : (Nat → Option wQ) × (Nat → Int)) => 2 * (pt st N9 - pt u.1 N9))) A) [Value.ref h0, Value.ref ra9].toArray s (pt st N9 + 400) (2 * pt st N9 + 800) A) (F0 m 2 ls []) := by
    intro d9
    induction d9 with
    | zero => intro s8 Z8 j9 hm; exact absurd hm (Nat.not_lt_zero _)
    | succ d9 ih_lp =>
      intro s8 Z8 j9 hm hh8 hke8 hpt8 hj hld8 H locs S ls hl
      have f1 := (f9 j9).le_toInt
      have f2 := (f9 j9).toInt_lt
      refine lv_iload_n hx hb d_So_loadRow_2 rfl (lv_at hl 0 rfl) ?_
      refine lv_aload_n hx hb d_So_loadRow_3 rfl (lv_at hl 1 rfl) ?_
      refine r_get C K S 0 rfl rfl clOk_So 11 (by decide) wf_So_59 (v := .int (nI C9)) rfl d_So_loadRow_4 ?_
      refine z_icmp_ge (a := j9) (b := C9) (tgt := 32) hx hb d_So_loadRow_7 (by decide) (by omega) (by omega) (fun hc1 => ?_) (fun hc1 => ?_)
      · have e9 : j9 = C9 := by omega
        rw [e9] at hld8
        have f1 := (f9 40).le_toInt
        have f2 := (f9 40).toInt_lt
        refine lv_aload_n hx hb d_So_loadRow_32 rfl (lv_at hl 1 rfl) ?_
        refine lv_aload_n hx hb d_So_loadRow_33 rfl (lv_at hl 1 rfl) ?_
        refine r_get C K S 0 rfl rfl clOk_So 10 (by decide) wf_So_70 (v := .int (nI rw9)) rfl d_So_loadRow_34 ?_
        refine lv_aload_n hx hb d_So_loadRow_37 rfl (lv_at hl 1 rfl) ?_
        refine r_get C K S 0 rfl rfl clOk_So 11 (by decide) wf_So_59 (v := .int (nI C9)) rfl d_So_loadRow_38 ?_
        refine q_backP (wi := [(h0, .inr (1, [.ref cea, .ref roa, .ref coa, .ref ura, .ref uca, .ref au, .ref ap, .ref al, .ref ar, .ref ae, .int (nI rw9), .int (nI C9), .int (nI fs9), .int (nI tk9)])), (cea, .inl (k 4, 3731, .inr (.inr (.inr (.inr (fun j => adO (s8 j)))))))]) (wr := [(ura, .inl (k 0, 91, .inl ur)), (ra9, .inl (k 0, 41, .inl f9))]) S hA [0, 1] [2, 3] rfl rfl (by decide) (by decide) (va_runV (As := [.int (nI rw9), .int (nI C9)]) (rest := []) ⟨hx, hb, C.2.2.1, C.2.2.2.1, C.2.2.2.2.1⟩ (g_So_cell l G k h0 _ _ rw9 C9 cea roa coa ura uca au ap al ar ae rw9 C9 fs9 tk9 N9 s8 Z8 hN ⟨hh8.1, hh8.2⟩ (by omega) (by omega) (by omega)) (k_virt (n := 2) C wc_So_cell rfl rfl wz_So wm_So_66 wn_So_cell ws_So_cell (by decide +kernel) ⟨(Nat.le_of_ble_eq_true rfl), (Nat.le_of_ble_eq_true rfl)⟩) (pr_nowVGP K S [0, 1] (by decide) rfl (List.mem_append_left _ (List.mem_of_getElem? (i := 0) rfl)) rfl) rfl rfl hl.1 rfl (lv_room (Nat.le_of_ble_eq_true rfl)) d_So_loadRow_41 ⟨(show pt st N9 - pt s8 N9 + (pt s8 N9 + 10) ≤ pt st N9 + 400 from by omega), (show 2 * (pt st N9 - pt s8 N9) + (2 * pt s8 N9 + 20) ≤ 2 * pt st N9 + 800 from by omega)⟩) (fun c2 H locs hw3 S => ?_)
        have S : Sw G A s.heap _ _ ([(ura, .inl (k 0, 91, .inl ur)), (ra9, .inl (k 0, 41, .inl f9)), (h0, .inr (1, [.ref cea, .ref roa, .ref coa, .ref ura, .ref uca, .ref au, .ref ap, .ref al, .ref ar, .ref ae, .int (nI rw9), .int (nI C9), .int (nI fs9), .int (nI tk9)])), (cea, .inl (k 4, 3731, .inr (.inr (.inr (.inr (fun j => adO (c2.1 j)))))))] ++ (tpl k c2.1 N9)) := S
        have hw3 : hO c2.1 Z8 ∧ atO c2.1 (rw9 * (C9 + 1) + C9) c2.2 ∧ keO s8 c2.1 ∧ pt c2.1 N9 ≤ pt s8 N9 := hw3
        show W p l e _ s m _ below meth c H locs _ _ _ (F0 m 44 ls [.ref c2.2])
        obtain ⟨hh4, at5, ke6, pt7⟩ := hw3
        have lt8 := ix_lt (C := C9) (R := 91) (i := rw9) (j := C9) (by omega) (by omega) (Nat.le_refl _) (by omega)
        refine lv_aload_n hx hb d_So_loadRow_44 rfl (lv_at hl 2 rfl) ?_
        refine lv_bipush (v := 40) hx hb d_So_loadRow_45 (by decide) ?_
        refine r_iald C K S 1 rfl (i := 40) (by unfold vp_in; decide) (v := f9 40) (by rw [show (40 : Int32).toNatClampNeg = 40 from by decide]) d_So_loadRow_47 ?_
        refine lv_i2l (v := lZ (f9 40).toInt) hx hb d_So_loadRow_48 (i32_lZ _) ?_
        refine q_backP (wi := []) (wr := [(ura, .inl (k 0, 91, .inl ur)), (ra9, .inl (k 0, 41, .inl f9)), (h0, .inr (1, [.ref cea, .ref roa, .ref coa, .ref ura, .ref uca, .ref au, .ref ap, .ref al, .ref ar, .ref ae, .int (nI rw9), .int (nI C9), .int (nI fs9), .int (nI tk9)])), (cea, .inl (k 4, 3731, .inr (.inr (.inr (.inr (fun j => adO (c2.1 j)))))))]) S hA [] [0, 1, 2, 3] rfl rfl (by decide) (by decide) (va_runV (As := [.long (lZ (f9 40).toInt)]) (rest := []) ⟨hx, hb, C.2.2.1, C.2.2.2.1, C.2.2.2.2.1⟩ (g_P_set l G k _ _ ((f9 40).toInt) (rw9 * (C9 + 1) + C9) c2.2 N9 c2.1 Z8 V0 hN hh4.1 (by omega) at5 (by omega) (by omega)) (k_virt (n := 1) C wc_Wh_set rfl rfl wz_Wh wm_So_62 wn_Wh_set ws_Wh_set (by decide +kernel) ⟨(Nat.le_of_ble_eq_true rfl), (Nat.le_of_ble_eq_true rfl)⟩) (pr_nowVGP K S [] (by decide) rfl (Classical.choose_spec (at_mem at5 (show rw9 * (C9 + 1) + C9 < N9 by omega))) rfl) rfl rfl hl.1 rfl (lv_room (Nat.le_of_ble_eq_true rfl)) d_So_loadRow_49 ⟨(show pt st N9 - pt s8 N9 + (pt s8 N9 - pt c2.1 N9) ≤ pt st N9 + 400 from by omega), (show 2 * (pt st N9 - pt s8 N9) + (2 * (pt s8 N9 - pt c2.1 N9)) ≤ 2 * pt st N9 + 800 from by omega)⟩) (fun st9 H locs hw10 S => ?_)
        have S : Sw G A s.heap _ _ ([(ura, .inl (k 0, 91, .inl ur)), (ra9, .inl (k 0, 41, .inl f9)), (h0, .inr (1, [.ref cea, .ref roa, .ref coa, .ref ura, .ref uca, .ref au, .ref ap, .ref al, .ref ar, .ref ae, .int (nI rw9), .int (nI C9), .int (nI fs9), .int (nI tk9)])), (cea, .inl (k 4, 3731, .inr (.inr (.inr (.inr (fun j => adO (c2.1 j)))))))] ++ (tpl k st9 N9)) := S
        have hw10 : gO st9 (va_up Z8 (rw9 * (C9 + 1) + C9) ((f9 40).toInt)) (va_up V0 (rw9 * (C9 + 1) + C9) True) ∧ keO c2.1 st9 ∧ pt st9 N9 ≤ pt c2.1 N9 ∧ saO c2.1 st9 := hw10
        show W p l e _ s m _ below meth c H locs _ _ _ (F0 m 52 ls [])
        obtain ⟨g11, ke12, pt13, sa14⟩ := hw10
        have S : Sw G A s.heap H locs ([(ura, .inl (k 0, 91, .inl ur)), (ra9, .inl (k 0, 41, .inl f9)), (h0, .inr (1, [.ref cea, .ref roa, .ref coa, .ref ura, .ref uca, .ref au, .ref ap, .ref al, .ref ar, .ref ae, .int (nI rw9), .int (nI C9), .int (nI fs9), .int (nI tk9)])), (cea, .inl (k 4, 3731, .inr (.inr (.inr (.inr (fun j => adO (st9 j)))))))] ++ (tpl k st9 N9)) := by rw [show (fun j => adO (st9 j)) = _ from sa14]; exact S
        have hh15 : hO st9 (va_up Z8 (rw9 * (C9 + 1) + C9) ((f9 40).toInt)) := hO_up1 g11 hh4.2 (b49i (i32_b _))
        refine lv_aload_n hx hb d_So_loadRow_52 rfl (lv_at hl 1 rfl) ?_
        refine r_get C K S 2 rfl rfl clOk_So 3 (by decide) wf_So_24 (v := .ref ura) rfl d_So_loadRow_53 ?_
        refine lv_aload_n hx hb d_So_loadRow_56 rfl (lv_at hl 1 rfl) ?_
        refine r_get C K S 2 rfl rfl clOk_So 10 (by decide) wf_So_70 (v := .int (nI rw9)) rfl d_So_loadRow_57 ?_
        refine lv_bipush (v := (-2)) hx hb d_So_loadRow_60 (by decide) ?_
        refine r_iast C K S 0 rfl (i := nI rw9) (x := (-2)) (show vp_in (nI rw9) _ from vp_in_nI (n := rw9) (by omega) (by decide)) (f' := va_up ur rw9 (-2)) (ws' := ([(ura, .inl (k 0, 91, .inl (va_up ur rw9 (-2)))), (ra9, .inl (k 0, 41, .inl f9)), (h0, .inr (1, [.ref cea, .ref roa, .ref coa, .ref ura, .ref uca, .ref au, .ref ap, .ref al, .ref ar, .ref ae, .int (nI rw9), .int (nI C9), .int (nI fs9), .int (nI tk9)])), (cea, .inl (k 4, 3731, .inr (.inr (.inr (.inr (fun j => adO (st9 j)))))))] ++ (tpl k st9 N9))) (show upd _ (nI rw9 : Int32).toNatClampNeg (-2) = _ from upd_W ur (j := rw9) (by omega) (-2)) rfl d_So_loadRow_62 (fun H locs S => ?_)
        refine lv_aload_n hx hb d_So_loadRow_63 rfl (lv_at hl 1 rfl) ?_
        refine lv_dup hx hb d_So_loadRow_64 rfl ?_
        refine r_get C K S 2 rfl rfl clOk_So 10 (by decide) wf_So_70 (v := .int (nI rw9)) rfl d_So_loadRow_65 ?_
        refine lv_iconst (v := 1) hx hb d_So_loadRow_68 (by decide) ?_
        refine z_iadd (x := nI rw9) (y := 1) (v := nI (rw9 + 1)) hx hb d_So_loadRow_69 (nI_add rw9 1) ?_
        refine r_put C K S 2 rfl rfl clOk_So 10 (by decide) wf_So_70 rfl (ty := .int) (v := .int (nI (rw9 + 1))) (by decide +kernel) rfl rfl (Nat.le_of_ble_eq_true rfl) (fs' := [.ref cea, .ref roa, .ref coa, .ref ura, .ref uca, .ref au, .ref ap, .ref al, .ref ar, .ref ae, .int (nI (rw9 + 1)), .int (nI C9), .int (nI fs9), .int (nI tk9)]) (ws' := ([(ura, .inl (k 0, 91, .inl (va_up ur rw9 (-2)))), (ra9, .inl (k 0, 41, .inl f9)), (h0, .inr (1, [.ref cea, .ref roa, .ref coa, .ref ura, .ref uca, .ref au, .ref ap, .ref al, .ref ar, .ref ae, .int (nI (rw9 + 1)), .int (nI C9), .int (nI fs9), .int (nI tk9)])), (cea, .inl (k 4, 3731, .inr (.inr (.inr (.inr (fun j => adO (st9 j)))))))] ++ (tpl k st9 N9))) rfl rfl d_So_loadRow_70 (fun H locs S => ?_)
        have hl2 := ld_row (ld_up hld8 (i32_b (f9 40)) (Nat.le_refl _) hC (by omega))
        exact q_vret C K hsz (st9, (va_up Z8 (rw9 * (C9 + 1) + C9) ((f9 40).toInt))) (show hO st9 (va_up Z8 (rw9 * (C9 + 1) + C9) ((f9 40).toInt)) ∧ keO st st9 ∧ pt st9 N9 ≤ pt st N9 ∧ ldP C9 (rw9 + 1) 0 (va_up Z8 (rw9 * (C9 + 1) + C9) ((f9 40).toInt)) from ⟨⟨hh15.1, hh15.2⟩, ((hke8.tr ke6).tr ke12), by omega, hl2⟩) (S.subP [2, 3, 0, 1] (by decide) rfl) d_So_loadRow_73 (show pt st N9 - pt s8 N9 + (pt s8 N9 - pt c2.1 N9) + (pt c2.1 N9 - pt st9 N9) ≤ pt st N9 - pt st9 N9 from by omega) (show 2 * (pt st N9 - pt s8 N9) + (2 * (pt s8 N9 - pt c2.1 N9)) + (2 * (pt c2.1 N9 - pt st9 N9)) ≤ 2 * (pt st N9 - pt st9 N9) from by omega) (show pt st N9 - pt s8 N9 + (pt s8 N9 - pt c2.1 N9) + (pt c2.1 N9 - pt st9 N9) ≤ pt st N9 + 400 from by omega) (show 2 * (pt st N9 - pt s8 N9) + (2 * (pt s8 N9 - pt c2.1 N9)) + (2 * (pt c2.1 N9 - pt st9 N9)) ≤ 2 * pt st N9 + 800 from by omega)
      · refine lv_aload_n hx hb d_So_loadRow_10 rfl (lv_at hl 1 rfl) ?_
        refine lv_aload_n hx hb d_So_loadRow_11 rfl (lv_at hl 1 rfl) ?_
        refine r_get C K S 0 rfl rfl clOk_So 10 (by decide) wf_So_70 (v := .int (nI rw9)) rfl d_So_loadRow_12 ?_
        refine lv_iload_n hx hb d_So_loadRow_15 rfl (lv_at hl 0 rfl) ?_
        refine q_backP (wi := [(h0, .inr (1, [.ref cea, .ref roa, .ref coa, .ref ura, .ref uca, .ref au, .ref ap, .ref al, .ref ar, .ref ae, .int (nI rw9), .int (nI C9), .int (nI fs9), .int (nI tk9)])), (cea, .inl (k 4, 3731, .inr (.inr (.inr (.inr (fun j => adO (s8 j)))))))]) (wr := [(ura, .inl (k 0, 91, .inl ur)), (ra9, .inl (k 0, 41, .inl f9))]) S hA [0, 1] [2, 3] rfl rfl (by decide) (by decide) (va_runV (As := [.int (nI rw9), .int (nI j9)]) (rest := []) ⟨hx, hb, C.2.2.1, C.2.2.2.1, C.2.2.2.2.1⟩ (g_So_cell l G k h0 _ _ rw9 j9 cea roa coa ura uca au ap al ar ae rw9 C9 fs9 tk9 N9 s8 Z8 hN ⟨hh8.1, hh8.2⟩ (by omega) (by omega) (by omega)) (k_virt (n := 2) C wc_So_cell rfl rfl wz_So wm_So_66 wn_So_cell ws_So_cell (by decide +kernel) ⟨(Nat.le_of_ble_eq_true rfl), (Nat.le_of_ble_eq_true rfl)⟩) (pr_nowVGP K S [0, 1] (by decide) rfl (List.mem_append_left _ (List.mem_of_getElem? (i := 0) rfl)) rfl) rfl rfl hl.1 rfl (lv_room (Nat.le_of_ble_eq_true rfl)) d_So_loadRow_16 ⟨(show pt st N9 - pt s8 N9 + (pt s8 N9 + 10) ≤ pt st N9 + 400 from by omega), (show 2 * (pt st N9 - pt s8 N9) + (2 * pt s8 N9 + 20) ≤ 2 * pt st N9 + 800 from by omega)⟩) (fun c16 H locs hw17 S => ?_)
        have S : Sw G A s.heap _ _ ([(ura, .inl (k 0, 91, .inl ur)), (ra9, .inl (k 0, 41, .inl f9)), (h0, .inr (1, [.ref cea, .ref roa, .ref coa, .ref ura, .ref uca, .ref au, .ref ap, .ref al, .ref ar, .ref ae, .int (nI rw9), .int (nI C9), .int (nI fs9), .int (nI tk9)])), (cea, .inl (k 4, 3731, .inr (.inr (.inr (.inr (fun j => adO (c16.1 j)))))))] ++ (tpl k c16.1 N9)) := S
        have hw17 : hO c16.1 Z8 ∧ atO c16.1 (rw9 * (C9 + 1) + j9) c16.2 ∧ keO s8 c16.1 ∧ pt c16.1 N9 ≤ pt s8 N9 := hw17
        show W p l e _ s m _ below meth c H locs _ _ _ (F0 m 19 ls [.ref c16.2])
        obtain ⟨hh18, at19, ke20, pt21⟩ := hw17
        have lt22 := ix_lt (C := C9) (R := 91) (i := rw9) (j := j9) (by omega) (by omega) (Nat.le_refl _) (by omega)
        refine lv_aload_n hx hb d_So_loadRow_19 rfl (lv_at hl 2 rfl) ?_
        refine lv_iload_n hx hb d_So_loadRow_20 rfl (lv_at hl 0 rfl) ?_
        refine r_iald C K S 1 rfl (i := nI j9) (show vp_in (nI j9) _ from vp_in_nI (n := j9) (by omega) (by decide)) (v := f9 j9) (by rw [nI_clamp (by omega)]) d_So_loadRow_21 ?_
        refine lv_i2l (v := lZ (f9 j9).toInt) hx hb d_So_loadRow_22 (i32_lZ _) ?_
        refine q_backP (wi := []) (wr := [(ura, .inl (k 0, 91, .inl ur)), (ra9, .inl (k 0, 41, .inl f9)), (h0, .inr (1, [.ref cea, .ref roa, .ref coa, .ref ura, .ref uca, .ref au, .ref ap, .ref al, .ref ar, .ref ae, .int (nI rw9), .int (nI C9), .int (nI fs9), .int (nI tk9)])), (cea, .inl (k 4, 3731, .inr (.inr (.inr (.inr (fun j => adO (c16.1 j)))))))]) S hA [] [0, 1, 2, 3] rfl rfl (by decide) (by decide) (va_runV (As := [.long (lZ (f9 j9).toInt)]) (rest := []) ⟨hx, hb, C.2.2.1, C.2.2.2.1, C.2.2.2.2.1⟩ (g_P_set l G k _ _ ((f9 j9).toInt) (rw9 * (C9 + 1) + j9) c16.2 N9 c16.1 Z8 V0 hN hh18.1 (by omega) at19 (by omega) (by omega)) (k_virt (n := 1) C wc_Wh_set rfl rfl wz_Wh wm_So_62 wn_Wh_set ws_Wh_set (by decide +kernel) ⟨(Nat.le_of_ble_eq_true rfl), (Nat.le_of_ble_eq_true rfl)⟩) (pr_nowVGP K S [] (by decide) rfl (Classical.choose_spec (at_mem at19 (show rw9 * (C9 + 1) + j9 < N9 by omega))) rfl) rfl rfl hl.1 rfl (lv_room (Nat.le_of_ble_eq_true rfl)) d_So_loadRow_23 ⟨(show pt st N9 - pt s8 N9 + (pt s8 N9 - pt c16.1 N9) ≤ pt st N9 + 400 from by omega), (show 2 * (pt st N9 - pt s8 N9) + (2 * (pt s8 N9 - pt c16.1 N9)) ≤ 2 * pt st N9 + 800 from by omega)⟩) (fun st23 H locs hw24 S => ?_)
        have S : Sw G A s.heap _ _ ([(ura, .inl (k 0, 91, .inl ur)), (ra9, .inl (k 0, 41, .inl f9)), (h0, .inr (1, [.ref cea, .ref roa, .ref coa, .ref ura, .ref uca, .ref au, .ref ap, .ref al, .ref ar, .ref ae, .int (nI rw9), .int (nI C9), .int (nI fs9), .int (nI tk9)])), (cea, .inl (k 4, 3731, .inr (.inr (.inr (.inr (fun j => adO (c16.1 j)))))))] ++ (tpl k st23 N9)) := S
        have hw24 : gO st23 (va_up Z8 (rw9 * (C9 + 1) + j9) ((f9 j9).toInt)) (va_up V0 (rw9 * (C9 + 1) + j9) True) ∧ keO c16.1 st23 ∧ pt st23 N9 ≤ pt c16.1 N9 ∧ saO c16.1 st23 := hw24
        show W p l e _ s m _ below meth c H locs _ _ _ (F0 m 26 ls [])
        obtain ⟨g25, ke26, pt27, sa28⟩ := hw24
        have S : Sw G A s.heap H locs ([(ura, .inl (k 0, 91, .inl ur)), (ra9, .inl (k 0, 41, .inl f9)), (h0, .inr (1, [.ref cea, .ref roa, .ref coa, .ref ura, .ref uca, .ref au, .ref ap, .ref al, .ref ar, .ref ae, .int (nI rw9), .int (nI C9), .int (nI fs9), .int (nI tk9)])), (cea, .inl (k 4, 3731, .inr (.inr (.inr (.inr (fun j => adO (st23 j)))))))] ++ (tpl k st23 N9)) := by rw [show (fun j => adO (st23 j)) = _ from sa28]; exact S
        have hh29 : hO st23 (va_up Z8 (rw9 * (C9 + 1) + j9) ((f9 j9).toInt)) := hO_up1 g25 hh18.2 (b49i (i32_b _))
        refine lv_iinc (v := nI (j9 + 1)) (lv' := [(2, .int (nI (j9 + 1))), (0, .ref h0), (1, .ref ra9)]) hx hb d_So_loadRow_26 hl (k := 0) rfl (show nI j9 + Int32.ofInt 1 = nI (j9 + 1) from (nI_add j9 1).trans (congrArg nI (by omega))) (by decide) rfl (fun ls hl => ?_)
        refine lv_goto (tgt := 2) hx hb d_So_loadRow_29 (by decide) ?_
        refine W.widen (show pt st N9 - pt s8 N9 + (pt s8 N9 - pt c16.1 N9) + (pt c16.1 N9 - pt st23 N9) ≤ pt st N9 - pt st23 N9 from by omega) (show 2 * (pt st N9 - pt s8 N9) + (2 * (pt s8 N9 - pt c16.1 N9)) + (2 * (pt c16.1 N9 - pt st23 N9)) ≤ 2 * (pt st N9 - pt st23 N9) from by omega) ?_
        exact ih_lp st23 (va_up Z8 (rw9 * (C9 + 1) + j9) ((f9 j9).toInt)) (j9 + 1) (by omega) ⟨hh29.1, hh29.2⟩ ((hke8.tr ke20).tr ke26) (by omega) (by omega) (ld_up hld8 (i32_b _) (by omega) hC (by omega)) _ _ (S.subP [2, 3, 0, 1] (by decide) rfl) ls (lv_sub hl [0, 1, 2] rfl)
  exact lp _ st Z 0 (Nat.lt_succ_self _) ⟨hh.1, hh.2⟩ (keO.rf st) (by omega) (by omega) hld _ _ (S.subP [0, 1, 2, 3] (by decide) rfl) ls (lv_sub hl [0, 1, 2] rfl)
theorem d_So_tell_0 : decode c_So_tell 0 = .ok (.aload_n 0, 1) := by decide +kernel
theorem d_So_tell_1 : decode c_So_tell 1 = .ok (.getfield 17, 3) := by decide +kernel
theorem d_So_tell_4 : decode c_So_tell 4 = .ok (.aload_n 0, 1) := by decide +kernel
theorem d_So_tell_5 : decode c_So_tell 5 = .ok (.getfield 47, 3) := by decide +kernel
theorem d_So_tell_8 : decode c_So_tell 8 = .ok (.iload_n 1, 1) := by decide +kernel
theorem d_So_tell_9 : decode c_So_tell 9 = .ok (.iadd, 1) := by decide +kernel
theorem d_So_tell_10 : decode c_So_tell 10 = .ok (.iaload, 1) := by decide +kernel
theorem d_So_tell_11 : decode c_So_tell 11 = .ok (.istore_n 3, 1) := by decide +kernel
theorem d_So_tell_12 : decode c_So_tell 12 = .ok (.iload_n 3, 1) := by decide +kernel
theorem d_So_tell_13 : decode c_So_tell 13 = .ok (.bipush (-2), 2) := by decide +kernel
theorem d_So_tell_15 : decode c_So_tell 15 = .ok (.if_icmp .ne 11, 3) := by decide +kernel
theorem d_So_tell_18 : decode c_So_tell 18 = .ok (.aload_n 2, 1) := by decide +kernel
theorem d_So_tell_19 : decode c_So_tell 19 = .ok (.lconst 0, 1) := by decide +kernel
theorem d_So_tell_20 : decode c_So_tell 20 = .ok (.invokevirtual 62, 3) := by decide +kernel
theorem d_So_tell_23 : decode c_So_tell 23 = .ok (.goto 16, 3) := by decide +kernel
theorem d_So_tell_26 : decode c_So_tell 26 = .ok (.aload_n 2, 1) := by decide +kernel
theorem d_So_tell_27 : decode c_So_tell 27 = .ok (.aload_n 0, 1) := by decide +kernel
theorem d_So_tell_28 : decode c_So_tell 28 = .ok (.iload_n 3, 1) := by decide +kernel
theorem d_So_tell_29 : decode c_So_tell 29 = .ok (.aload_n 0, 1) := by decide +kernel
theorem d_So_tell_30 : decode c_So_tell 30 = .ok (.getfield 59, 3) := by decide +kernel
theorem d_So_tell_33 : decode c_So_tell 33 = .ok (.invokevirtual 66, 3) := by decide +kernel
theorem d_So_tell_36 : decode c_So_tell 36 = .ok (.invokevirtual 133, 3) := by decide +kernel
theorem d_So_tell_39 : decode c_So_tell 39 = .ok (.return_, 1) := by decide +kernel
set_option maxRecDepth 100000 in
set_option maxHeartbeats 16000000 in
/-- tell -/
theorem g_So_tell (l : Launch) (G : va_G) (k : Nat → ClassId) (h0 : Nat) (s0 sl : Nat) (qi : Nat) (ip9 : Nat) (ai9 : Nat) (cea : Nat) (roa : Nat) (coa : Nat) (ura : Nat) (uca : Nat) (au : Nat) (ap : Nat) (al : Nat) (ar : Nat) (ae : Nat) (rw9 : Nat) (C9 : Nat) (fs9 : Nat) (tk9 : Nat) (ro : Nat → Int32) (N9 : Nat) (st : Nat → Option wQ) (Z : Nat → Int) (hN : N9 = 3745) (hh : hO st Z) (hU : atO st 3731 au) (hP : atO st 3732 ap) (hL : atO st 3733 al) (hR : atO st 3734 ar) (hE : atO st 3735 ae) (hC : C9 ≤ 40) (hRw : rw9 ≤ 91) (hro : ∀ v, v < C9 → ro v = -2 ∨ ∃ r, r < rw9 ∧ ro v = nI r) (hfi : fs9 + qi < C9) (hip : 3736 ≤ ip9) (hip2 : ip9 ≤ 3740) (hai : atO st ip9 ai9) : CG l y_So_tell c_So_tell 4 none { frames := 4, cells := pt st N9 + 400, slots := 2 * pt st N9 + 800, locals := 125 } [.ref h0, .int (nI qi), .ref ai9] G k s0 sl ([(h0, .inr (1, [.ref cea, .ref roa, .ref coa, .ref ura, .ref uca, .ref au, .ref ap, .ref al, .ref ar, .ref ae, .int (nI rw9), .int (nI C9), .int (nI fs9), .int (nI tk9)])), (cea, .inl (k 4, 3731, .inr (.inr (.inr (.inr (fun j => adO (st j))))))), (roa, .inl (k 0, 40, .inl ro))] ++ (tpl k st N9)) (fun (u : (Nat → Option wQ) × (Nat → Int)) => none) (fun (u : (Nat → Option wQ) × (Nat → Int)) => hO u.1 u.2 ∧ keO st u.1 ∧ pt u.1 N9 ≤ pt st N9) (fun (u : (Nat → Option wQ) × (Nat → Int)) => ([(h0, .inr (1, [.ref cea, .ref roa, .ref coa, .ref ura, .ref uca, .ref au, .ref ap, .ref al, .ref ar, .ref ae, .int (nI rw9), .int (nI C9), .int (nI fs9), .int (nI tk9)])), (cea, .inl (k 4, 3731, .inr (.inr (.inr (.inr (fun j => adO (u.1 j))))))), (roa, .inl (k 0, 40, .inl ro))] ++ (tpl k u.1 N9))) (fun (u : (Nat → Option wQ) × (Nat → Int)) => pt st N9 - pt u.1 N9) (fun (u : (Nat → Option wQ) × (Nat → Int)) => 2 * (pt st N9 - pt u.1 N9)) (pt st N9 + 400) (2 * pt st N9 + 800) := by
  refine met_startG (by decide) (Nat.le_of_ble_eq_true rfl) ?_
  intro p e s m below meth c C K hA hsz S ls hl
  generalize va_A ([(h0, .inr (1, [.ref cea, .ref roa, .ref coa, .ref ura, .ref uca, .ref au, .ref ap, .ref al, .ref ar, .ref ae, .int (nI rw9), .int (nI C9), .int (nI fs9), .int (nI tk9)])), (cea, .inl (k 4, 3731, .inr (.inr (.inr (.inr (fun j => adO (st j))))))), (roa, .inl (k 0, 40, .inl ro))] ++ (tpl k st N9)) s0 = A at hA S ⊢
  have hx := C.1
  have hb := C.2.1
  have hl : lv_has ls 4 [(0, .ref h0), (1, .int (nI qi)), (2, .ref ai9)] := hl
  refine lv_aload_n hx hb d_So_tell_0 rfl (lv_at hl 0 rfl) ?_
  refine r_get C K S 0 rfl rfl clOk_So 1 (by decide) wf_So_17 (v := .ref roa) rfl d_So_tell_1 ?_
  refine lv_aload_n hx hb d_So_tell_4 rfl (lv_at hl 0 rfl) ?_
  refine r_get C K S 0 rfl rfl clOk_So 12 (by decide) wf_So_47 (v := .int (nI fs9)) rfl d_So_tell_5 ?_
  refine lv_iload_n hx hb d_So_tell_8 rfl (lv_at hl 1 rfl) ?_
  refine z_iadd (x := nI fs9) (y := nI qi) (v := nI (fs9 + qi)) hx hb d_So_tell_9 (nI_add fs9 qi) ?_
  refine r_iald C K S 2 rfl (i := nI (fs9 + qi)) (show vp_in (nI (fs9 + qi)) _ from vp_in_nI (n := (fs9 + qi)) (by omega) (by decide)) (v := ro (fs9 + qi)) (by rw [nI_clamp (by omega)]) d_So_tell_10 ?_
  refine lv_istore_n (lv' := [(3, .int (ro (fs9 + qi))), (0, .ref h0), (1, .int (nI qi)), (2, .ref ai9)]) hx hb d_So_tell_11 rfl hl (by decide) rfl (fun ls hl => ?_)
  refine lv_iload_n hx hb d_So_tell_12 rfl (lv_at hl 0 rfl) ?_
  refine lv_bipush (v := (-2)) hx hb d_So_tell_13 (by decide) ?_
  refine lv_icmp_ne (tgt := 26) hx hb d_So_tell_15 (by decide) (fun hc1 => ?_) (fun hc1 => ?_)
  · obtain ⟨b7, l7, e7⟩ := (hro _ hfi).resolve_left hc1
    refine lv_aload_n hx hb d_So_tell_26 rfl (lv_at hl 3 rfl) ?_
    refine lv_aload_n hx hb d_So_tell_27 rfl (lv_at hl 1 rfl) ?_
    refine lv_iload_n hx hb d_So_tell_28 rfl (lv_at hl 0 rfl) ?_
    refine z_topi (y := nI b7) e7 ?_
    refine lv_aload_n hx hb d_So_tell_29 rfl (lv_at hl 1 rfl) ?_
    refine r_get C K S 0 rfl rfl clOk_So 11 (by decide) wf_So_59 (v := .int (nI C9)) rfl d_So_tell_30 ?_
    refine q_backP (wi := [(h0, .inr (1, [.ref cea, .ref roa, .ref coa, .ref ura, .ref uca, .ref au, .ref ap, .ref al, .ref ar, .ref ae, .int (nI rw9), .int (nI C9), .int (nI fs9), .int (nI tk9)])), (cea, .inl (k 4, 3731, .inr (.inr (.inr (.inr (fun j => adO (st j)))))))]) (wr := [(roa, .inl (k 0, 40, .inl ro))]) S hA [0, 1] [2] rfl rfl (by decide) (by decide) (va_runV (As := [.int (nI b7), .int (nI C9)]) (rest := [.ref ai9]) ⟨hx, hb, C.2.2.1, C.2.2.2.1, C.2.2.2.2.1⟩ (g_So_cell l G k h0 _ _ b7 C9 cea roa coa ura uca au ap al ar ae rw9 C9 fs9 tk9 N9 st Z hN ⟨hh.1, hh.2⟩ (by omega) (by omega) (by omega)) (k_virt (n := 2) C wc_So_cell rfl rfl wz_So wm_So_66 wn_So_cell ws_So_cell (by decide +kernel) ⟨(Nat.le_of_ble_eq_true rfl), (Nat.le_of_ble_eq_true rfl)⟩) (pr_nowVGP K S [0, 1] (by decide) rfl (List.mem_append_left _ (List.mem_of_getElem? (i := 0) rfl)) rfl) rfl rfl hl.1 rfl (lv_room (Nat.le_of_ble_eq_true rfl)) d_So_tell_33 ⟨(show 0 + (pt st N9 + 10) ≤ pt st N9 + 400 from by omega), (show 0 + (2 * pt st N9 + 20) ≤ 2 * pt st N9 + 800 from by omega)⟩) (fun c2 H locs hw3 S => ?_)
    have S : Sw G A s.heap _ _ ([(roa, .inl (k 0, 40, .inl ro)), (h0, .inr (1, [.ref cea, .ref roa, .ref coa, .ref ura, .ref uca, .ref au, .ref ap, .ref al, .ref ar, .ref ae, .int (nI rw9), .int (nI C9), .int (nI fs9), .int (nI tk9)])), (cea, .inl (k 4, 3731, .inr (.inr (.inr (.inr (fun j => adO (c2.1 j)))))))] ++ (tpl k c2.1 N9)) := S
    have hw3 : hO c2.1 Z ∧ atO c2.1 (b7 * (C9 + 1) + C9) c2.2 ∧ keO st c2.1 ∧ pt c2.1 N9 ≤ pt st N9 := hw3
    show W p l e _ s m _ below meth c H locs _ _ _ (F0 m 36 ls [.ref c2.2, .ref ai9])
    obtain ⟨hh4, at5, ke6, pt7⟩ := hw3
    have lt8 := ix_lt (C := C9) (R := 91) (i := b7) (j := C9) (by omega) (by omega) (Nat.le_refl _) (by omega)
    have mb9 := Mb_le ip9
    refine q_backP (wi := []) (wr := [(roa, .inl (k 0, 40, .inl ro)), (h0, .inr (1, [.ref cea, .ref roa, .ref coa, .ref ura, .ref uca, .ref au, .ref ap, .ref al, .ref ar, .ref ae, .int (nI rw9), .int (nI C9), .int (nI fs9), .int (nI tk9)])), (cea, .inl (k 4, 3731, .inr (.inr (.inr (.inr (fun j => adO (c2.1 j)))))))]) S hA [] [0, 1, 2] rfl rfl (by decide) (by decide) (va_runV (As := [.ref c2.2]) (rest := []) ⟨hx, hb, C.2.2.1, C.2.2.2.1, C.2.2.2.2.1⟩ (g_P_copy l G k _ _ ip9 (b7 * (C9 + 1) + C9) ai9 c2.2 (Z (b7 * (C9 + 1) + C9)) N9 c2.1 Z V0 hN hh4.1 (by omega) (by omega) (ke6.at hai) at5 rfl (show V0 (b7 * (C9 + 1) + C9) from by unfold V0; omega) (by omega) (hh4.2 (b7 * (C9 + 1) + C9) (by omega) (by unfold V0; omega))) (k_virt (n := 1) C wc_Wh_copy rfl rfl wz_Wh wm_So_133 wn_Wh_copy ws_Wh_copy (by decide +kernel) ⟨(Nat.le_of_ble_eq_true rfl), (Nat.le_of_ble_eq_true rfl)⟩) (pr_nowVGP K S [] (by decide) rfl (Classical.choose_spec (at_mem (ke6.at hai) (show ip9 < N9 by omega))) rfl) rfl rfl hl.1 rfl (lv_room (Nat.le_of_ble_eq_true rfl)) d_So_tell_36 ⟨(show 0 + (pt st N9 - pt c2.1 N9) + (Mb ip9) ≤ pt st N9 + 400 from by omega), (show 0 + (2 * (pt st N9 - pt c2.1 N9)) + (2 * Mb ip9) ≤ 2 * pt st N9 + 800 from by omega)⟩) (fun st10 H locs hw11 S => ?_)
    have S : Sw G A s.heap _ _ ([(roa, .inl (k 0, 40, .inl ro)), (h0, .inr (1, [.ref cea, .ref roa, .ref coa, .ref ura, .ref uca, .ref au, .ref ap, .ref al, .ref ar, .ref ae, .int (nI rw9), .int (nI C9), .int (nI fs9), .int (nI tk9)])), (cea, .inl (k 4, 3731, .inr (.inr (.inr (.inr (fun j => adO (c2.1 j)))))))] ++ (tpl k st10 N9)) := S
    have hw11 : gO st10 (va_up Z ip9 (Z (b7 * (C9 + 1) + C9))) (va_up V0 ip9 True) ∧ keO c2.1 st10 ∧ pt st10 N9 ≤ pt c2.1 N9 ∧ saO c2.1 st10 := hw11
    show W p l e _ s m _ below meth c H locs _ _ _ (F0 m 39 ls [])
    obtain ⟨g12, ke13, pt14, sa15⟩ := hw11
    have S : Sw G A s.heap H locs ([(roa, .inl (k 0, 40, .inl ro)), (h0, .inr (1, [.ref cea, .ref roa, .ref coa, .ref ura, .ref uca, .ref au, .ref ap, .ref al, .ref ar, .ref ae, .int (nI rw9), .int (nI C9), .int (nI fs9), .int (nI tk9)])), (cea, .inl (k 4, 3731, .inr (.inr (.inr (.inr (fun j => adO (st10 j)))))))] ++ (tpl k st10 N9)) := by rw [show (fun j => adO (st10 j)) = _ from sa15]; exact S
    have hh16 : hO st10 (va_up Z ip9 (Z (b7 * (C9 + 1) + C9))) := hO_up1 g12 hh4.2 (hh4.2 _ (by omega) (by unfold V0; omega))
    exact q_vret C K hsz (st10, (va_up Z ip9 (Z (b7 * (C9 + 1) + C9)))) (show hO st10 (va_up Z ip9 (Z (b7 * (C9 + 1) + C9))) ∧ keO st st10 ∧ pt st10 N9 ≤ pt st N9 from ⟨⟨hh16.1, hh16.2⟩, (ke6.tr ke13), by omega⟩) (S.subP [1, 2, 0] (by decide) rfl) d_So_tell_39 (show 0 + (pt st N9 - pt c2.1 N9) + (pt c2.1 N9 - pt st10 N9) ≤ pt st N9 - pt st10 N9 from by omega) (show 0 + (2 * (pt st N9 - pt c2.1 N9)) + (2 * (pt c2.1 N9 - pt st10 N9)) ≤ 2 * (pt st N9 - pt st10 N9) from by omega) (show 0 + (pt st N9 - pt c2.1 N9) + (pt c2.1 N9 - pt st10 N9) ≤ pt st N9 + 400 from by omega) (show 0 + (2 * (pt st N9 - pt c2.1 N9)) + (2 * (pt c2.1 N9 - pt st10 N9)) ≤ 2 * pt st N9 + 800 from by omega)
  · refine lv_aload_n hx hb d_So_tell_18 rfl (lv_at hl 3 rfl) ?_
    refine lv_lconst (v := 0) hx hb d_So_tell_19 (by decide) ?_
    refine z_topl (y := lZ 0) (by decide) ?_
    refine q_backP (wi := []) (wr := [(h0, .inr (1, [.ref cea, .ref roa, .ref coa, .ref ura, .ref uca, .ref au, .ref ap, .ref al, .ref ar, .ref ae, .int (nI rw9), .int (nI C9), .int (nI fs9), .int (nI tk9)])), (cea, .inl (k 4, 3731, .inr (.inr (.inr (.inr (fun j => adO (st j))))))), (roa, .inl (k 0, 40, .inl ro))]) S hA [] [0, 1, 2] rfl rfl (by decide) (by decide) (va_runV (As := [.long (lZ 0)]) (rest := []) ⟨hx, hb, C.2.2.1, C.2.2.2.1, C.2.2.2.2.1⟩ (g_P_set l G k _ _ 0 ip9 ai9 N9 st Z V0 hN hh.1 (by omega) hai (by decide) (by decide)) (k_virt (n := 1) C wc_Wh_set rfl rfl wz_Wh wm_So_62 wn_Wh_set ws_Wh_set (by decide +kernel) ⟨(Nat.le_of_ble_eq_true rfl), (Nat.le_of_ble_eq_true rfl)⟩) (pr_nowVGP K S [] (by decide) rfl (Classical.choose_spec (at_mem hai (show ip9 < N9 by omega))) rfl) rfl rfl hl.1 rfl (lv_room (Nat.le_of_ble_eq_true rfl)) d_So_tell_20 ⟨(Nat.zero_le _), (Nat.zero_le _)⟩) (fun st17 H locs hw18 S => ?_)
    have S : Sw G A s.heap _ _ ([(h0, .inr (1, [.ref cea, .ref roa, .ref coa, .ref ura, .ref uca, .ref au, .ref ap, .ref al, .ref ar, .ref ae, .int (nI rw9), .int (nI C9), .int (nI fs9), .int (nI tk9)])), (cea, .inl (k 4, 3731, .inr (.inr (.inr (.inr (fun j => adO (st j))))))), (roa, .inl (k 0, 40, .inl ro))] ++ (tpl k st17 N9)) := S
    have hw18 : gO st17 (va_up Z ip9 0) (va_up V0 ip9 True) ∧ keO st st17 ∧ pt st17 N9 ≤ pt st N9 ∧ saO st st17 := hw18
    show W p l e _ s m _ below meth c H locs _ _ _ (F0 m 23 ls [])
    obtain ⟨g19, ke20, pt21, sa22⟩ := hw18
    have S : Sw G A s.heap H locs ([(h0, .inr (1, [.ref cea, .ref roa, .ref coa, .ref ura, .ref uca, .ref au, .ref ap, .ref al, .ref ar, .ref ae, .int (nI rw9), .int (nI C9), .int (nI fs9), .int (nI tk9)])), (cea, .inl (k 4, 3731, .inr (.inr (.inr (.inr (fun j => adO (st17 j))))))), (roa, .inl (k 0, 40, .inl ro))] ++ (tpl k st17 N9)) := by rw [show (fun j => adO (st17 j)) = _ from sa22]; exact S
    have hh23 : hO st17 (va_up Z ip9 0) := hO_up1 g19 hh.2 (by decide +kernel)
    refine lv_goto (tgt := 39) hx hb d_So_tell_23 (by decide) ?_
    exact q_vret C K hsz (st17, (va_up Z ip9 0)) (show hO st17 (va_up Z ip9 0) ∧ keO st st17 ∧ pt st17 N9 ≤ pt st N9 from ⟨⟨hh23.1, hh23.2⟩, ke20, by omega⟩) (S.subP [0, 1, 2] (by decide) rfl) d_So_tell_39 (show 0 + (pt st N9 - pt st17 N9) ≤ pt st N9 - pt st17 N9 from by omega) (show 0 + (2 * (pt st N9 - pt st17 N9)) ≤ 2 * (pt st N9 - pt st17 N9) from by omega) (show 0 + (pt st N9 - pt st17 N9) ≤ pt st N9 + 400 from by omega) (show 0 + (2 * (pt st N9 - pt st17 N9)) ≤ 2 * pt st N9 + 800 from by omega)
