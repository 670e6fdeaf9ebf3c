theorem d_Mo_newBlock_0 : decode c_Mo_newBlock 0 = .ok (.aload_n 0, 1) := by decide +kernel
theorem d_Mo_newBlock_1 : decode c_Mo_newBlock 1 = .ok (.getfield 208, 3) := by decide +kernel
theorem d_Mo_newBlock_4 : decode c_Mo_newBlock 4 = .ok (.istore_n 3, 1) := by decide +kernel
theorem d_Mo_newBlock_5 : decode c_Mo_newBlock 5 = .ok (.aload_n 0, 1) := by decide +kernel
theorem d_Mo_newBlock_6 : decode c_Mo_newBlock 6 = .ok (.dup, 1) := by decide +kernel
theorem d_Mo_newBlock_7 : decode c_Mo_newBlock 7 = .ok (.getfield 208, 3) := by decide +kernel
theorem d_Mo_newBlock_10 : decode c_Mo_newBlock 10 = .ok (.iconst 1, 1) := by decide +kernel
theorem d_Mo_newBlock_11 : decode c_Mo_newBlock 11 = .ok (.iadd, 1) := by decide +kernel
theorem d_Mo_newBlock_12 : decode c_Mo_newBlock 12 = .ok (.putfield 208, 3) := by decide +kernel
theorem d_Mo_newBlock_15 : decode c_Mo_newBlock 15 = .ok (.iconst 0, 1) := by decide +kernel
theorem d_Mo_newBlock_16 : decode c_Mo_newBlock 16 = .ok (.istore 4, 2) := by decide +kernel
theorem d_Mo_newBlock_18 : decode c_Mo_newBlock 18 = .ok (.iload 4, 2) := by decide +kernel
theorem d_Mo_newBlock_20 : decode c_Mo_newBlock 20 = .ok (.bipush 20, 2) := by decide +kernel
theorem d_Mo_newBlock_22 : decode c_Mo_newBlock 22 = .ok (.if_icmp .ge 19, 3) := by decide +kernel
theorem d_Mo_newBlock_25 : decode c_Mo_newBlock 25 = .ok (.aload_n 0, 1) := by decide +kernel
theorem d_Mo_newBlock_26 : decode c_Mo_newBlock 26 = .ok (.iload_n 3, 1) := by decide +kernel
theorem d_Mo_newBlock_27 : decode c_Mo_newBlock 27 = .ok (.iload 4, 2) := by decide +kernel
theorem d_Mo_newBlock_29 : decode c_Mo_newBlock 29 = .ok (.invokestatic 211, 3) := by decide +kernel
theorem d_Mo_newBlock_32 : decode c_Mo_newBlock 32 = .ok (.invokevirtual 214, 3) := by decide +kernel
theorem d_Mo_newBlock_35 : decode c_Mo_newBlock 35 = .ok (.iinc 4 1, 3) := by decide +kernel
theorem d_Mo_newBlock_38 : decode c_Mo_newBlock 38 = .ok (.goto (-20), 3) := by decide +kernel
theorem d_Mo_newBlock_41 : decode c_Mo_newBlock 41 = .ok (.aload_n 0, 1) := by decide +kernel
theorem d_Mo_newBlock_42 : decode c_Mo_newBlock 42 = .ok (.iload_n 1, 1) := by decide +kernel
theorem d_Mo_newBlock_43 : decode c_Mo_newBlock 43 = .ok (.iload_n 3, 1) := by decide +kernel
theorem d_Mo_newBlock_44 : decode c_Mo_newBlock 44 = .ok (.bipush 20, 2) := by decide +kernel
theorem d_Mo_newBlock_46 : decode c_Mo_newBlock 46 = .ok (.invokestatic 211, 3) := by decide +kernel
theorem d_Mo_newBlock_49 : decode c_Mo_newBlock 49 = .ok (.invokevirtual 218, 3) := by decide +kernel
theorem d_Mo_newBlock_52 : decode c_Mo_newBlock 52 = .ok (.aload_n 0, 1) := by decide +kernel
theorem d_Mo_newBlock_53 : decode c_Mo_newBlock 53 = .ok (.iload_n 2, 1) := by decide +kernel
theorem d_Mo_newBlock_54 : decode c_Mo_newBlock 54 = .ok (.iload_n 3, 1) := by decide +kernel
theorem d_Mo_newBlock_55 : decode c_Mo_newBlock 55 = .ok (.bipush 21, 2) := by decide +kernel
theorem d_Mo_newBlock_57 : decode c_Mo_newBlock 57 = .ok (.invokestatic 211, 3) := by decide +kernel
theorem d_Mo_newBlock_60 : decode c_Mo_newBlock 60 = .ok (.invokevirtual 218, 3) := by decide +kernel
theorem d_Mo_newBlock_63 : decode c_Mo_newBlock 63 = .ok (.iload_n 3, 1) := by decide +kernel
theorem d_Mo_newBlock_64 : decode c_Mo_newBlock 64 = .ok (.ireturn, 1) := by decide +kernel
set_option maxRecDepth 100000 in
set_option maxHeartbeats 16000000 in
/-- newBlock(g9, e9) -/
theorem g_Mo_newBlock (l : Launch) (G : va_G) (k : Nat → ClassId) (h0 : Nat) (s0 : Nat) (g9 : Nat) (e9 : Nat) (b9 : Nat) (ma : Nat → Nat) (iv : Nat → Int32) (co : Int64) (L : Nat → Int64) (hbk : b9 < 40) (hg : g9 < 22 * b9 ∨ (880 ≤ g9 ∧ g9 < 902)) (hd : e9 < 22 * b9 ∨ (880 ≤ e9 ∧ e9 < 902)) : CI l y_Mo_newBlock c_Mo_newBlock 5 .int { frames := 1, cells := 0, slots := 0, locals := 23 } [.ref h0, .int (nI (g9 * 41)), .int (nI (e9 * 41))] G k s0 [(h0, .inr (8, moL ma (va_up iv 13 (nI b9)) co)), ((ma 13), .inl (k 1, 36982, .inr (.inl L)))] (fun (r : Int32) (u : Nat → Int64) => r = nI b9 ∧ (∀ k9, k9 < 20 → lz u (22 * b9 + k9) = 0) ∧ lz u (22 * b9 + 20) = lz L g9 ∧ lz u (22 * b9 + 21) = lz L e9 ∧ ∀ x, x < 22 * b9 ∨ 22 * b9 + 22 ≤ x → lz u x = lz L x) (fun u => [(h0, .inr (8, moL ma (va_up iv 13 (nI (b9 + 1))) co)), ((ma 13), .inl (k 1, 36982, .inr (.inl u)))]) 0 0 := by
  refine met_start (by decide) (Nat.le_of_ble_eq_true rfl) ?_
  intro p e s m below meth c C K hA hsz S ls hl
  generalize va_A [(h0, .inr (8, moL ma (va_up iv 13 (nI b9)) co)), ((ma 13), .inl (k 1, 36982, .inr (.inl L)))] s0 = A at hA S ⊢
  have hx := C.1
  have hb := C.2.1
  have hl : lv_has ls 5 [(0, .ref h0), (1, .int (nI (g9 * 41))), (2, .int (nI (e9 * 41)))] := hl
  refine lv_aload_n hx hb d_Mo_newBlock_0 rfl (lv_at hl 0 rfl) ?_
  refine r_get C K S 0 rfl rfl clOk_Mo 28 (by decide) wf_Mo_208 (v := .int (nI b9)) rfl d_Mo_newBlock_1 ?_
  refine lv_istore_n (lv' := [(3, .int (nI b9)), (0, .ref h0), (1, .int (nI (g9 * 41))), (2, .int (nI (e9 * 41)))]) hx hb d_Mo_newBlock_4 rfl hl (by decide) rfl (fun ls hl => ?_)
  refine lv_aload_n hx hb d_Mo_newBlock_5 rfl (lv_at hl 1 rfl) ?_
  refine lv_dup hx hb d_Mo_newBlock_6 rfl ?_
  refine r_get C K S 0 rfl rfl clOk_Mo 28 (by decide) wf_Mo_208 (v := .int (nI b9)) rfl d_Mo_newBlock_7 ?_
  refine lv_iconst (v := 1) hx hb d_Mo_newBlock_10 (by decide) ?_
  refine z_iadd (x := nI b9) (y := 1) (v := nI (b9 + 1)) hx hb d_Mo_newBlock_11 (nI_add b9 1) ?_
  refine r_put C K S 0 rfl rfl clOk_Mo 28 (by decide) wf_Mo_208 rfl (ty := .int) (v := .int (nI (b9 + 1))) (by decide +kernel) rfl rfl (Nat.le_of_ble_eq_true rfl) (fs' := moL ma (va_up iv 13 (nI (b9 + 1))) co) (ws' := [(h0, .inr (8, moL ma (va_up iv 13 (nI (b9 + 1))) co)), ((ma 13), .inl (k 1, 36982, .inr (.inl L)))]) rfl rfl d_Mo_newBlock_12 (fun H locs S => ?_)
  refine lv_iconst (v := 0) hx hb d_Mo_newBlock_15 (by decide) ?_
  refine lv_istore (lv' := [(4, .int 0), (3, .int (nI b9)), (0, .ref h0), (1, .int (nI (g9 * 41))), (2, .int (nI (e9 * 41)))]) hx hb d_Mo_newBlock_16 hl (by decide) rfl (fun ls hl => ?_)
  have lp : ∀ d9, ∀ (t : Nat), ∀ (L9 : Nat → Int64), (20 - t) < d9 → (t ≤ 20) → (∀ k9, k9 < t → lz L9 (22 * b9 + k9) = 0) → (∀ x, x < 22 * b9 ∨ 22 * b9 + 20 ≤ x → lz L9 x = lz L x) → ∀ (H : Heap) (locs : List Loc), Sw G A s.heap H locs [(h0, .inr (8, moL ma (va_up iv 13 (nI (b9 + 1))) co)), ((ma 13), .inl (k 1, 36982, .inr (.inl L9)))] → ∀ ls : Array Slot, lv_has ls 5 [(4, .int (nI t)), (3, .int (nI b9)), (0, .ref h0), (1, .int (nI (g9 * 41))), (2, .int (nI (e9 * 41)))] → W p l e { frames := 1, cells := 0, slots := 0, locals := 23 } s m [Value.ref h0, Value.int (nI (g9 * 41)), Value.int (nI (e9 * 41))].toArray below meth c H locs 0 0 (MQ below (va_Qi (fun (r : Int32) (u : Nat → Int64) => r = nI b9 ∧ (∀ k9, k9 < 20 → lz u (22 * b9 + k9) = 0) ∧ lz u (22 * b9 + 20) = lz L g9 ∧ lz u (22 * b9 + 21) = lz L e9 ∧ ∀ x, x < 22 * b9 ∨ 22 * b9 + 22 ≤ x → lz u x = lz L x) (Po G k A (fun u => [(h0, .inr (8, moL ma (va_up iv 13 (nI (b9 + 1))) co)), ((ma 13), .inl (k 1, 36982, .inr (.inl u)))])) A) [Value.ref h0, Value.int (nI (g9 * 41)), Value.int (nI (e9 * 41))].toArray s 0 0 A) (F0 m 18 ls []) := by
    intro d9
    induction d9 with
    | zero => intro t L9 hm; exact absurd hm (Nat.not_lt_zero _)
    | succ d9 ih_lp =>
      intro t L9 hm ht hz ho H locs S ls hl
      refine lv_iload hx hb d_Mo_newBlock_18 (lv_at hl 0 rfl) ?_
      refine lv_bipush (v := 20) hx hb d_Mo_newBlock_20 (by decide) ?_
      refine z_icmp_ge (a := t) (b := 20) (tgt := 41) hx hb d_Mo_newBlock_22 (by decide) (by omega) (by omega) (fun hc1 => ?_) (fun hc1 => ?_)
      · refine lv_aload_n hx hb d_Mo_newBlock_41 rfl (lv_at hl 2 rfl) ?_
        refine lv_iload_n hx hb d_Mo_newBlock_42 rfl (lv_at hl 3 rfl) ?_
        refine lv_iload_n hx hb d_Mo_newBlock_43 rfl (lv_at hl 1 rfl) ?_
        refine lv_bipush (v := 20) hx hb d_Mo_newBlock_44 (by decide) ?_
        refine r_backi (wi := []) (wr := [(h0, .inr (8, moL ma (va_up iv 13 (nI (b9 + 1))) co)), ((ma 13), .inl (k 1, 36982, .inr (.inl L9)))]) S hA [] [0, 1] rfl rfl (by decide) (by decide) (va_runS (As := [.int (nI b9), .int 20]) (rest := [.int (nI (g9 * 41)), .ref h0]) ⟨hx, hb, C.2.2.1, C.2.2.2.1, C.2.2.2.2.1⟩ (g_Mo_line l G k _ b9 20) (k_stat (n := 2) C wc_Mo_line rfl rfl wz_Mo wm_Mo_211 wt_Mo_line (by decide +kernel) ⟨(Nat.le_of_ble_eq_true rfl), (Nat.le_of_ble_eq_true rfl)⟩) (pr_now K S [] (by decide) rfl) rfl rfl hl.1 rfl (lv_room (Nat.le_of_ble_eq_true rfl)) d_Mo_newBlock_46 ⟨(Nat.le_of_ble_eq_true rfl), (Nat.le_of_ble_eq_true rfl)⟩) (fun r4 u2 H locs hw3 S => ?_)
        have S : Sw G A s.heap _ _ [(h0, .inr (8, moL ma (va_up iv 13 (nI (b9 + 1))) co)), ((ma 13), .inl (k 1, 36982, .inr (.inl L9)))] := S
        obtain rfl : r4 = nI ((22 * b9 + 20) * 41) := hw3
        refine r_backv (wi := [(h0, .inr (8, moL ma (va_up iv 13 (nI (b9 + 1))) co)), ((ma 13), .inl (k 1, 36982, .inr (.inl L9)))]) (wr := []) S hA [0, 1] [] rfl rfl (by decide) (by decide) (va_runV (As := [.int (nI (g9 * 41)), .int (nI ((22 * b9 + 20) * 41))]) (rest := []) ⟨hx, hb, C.2.2.1, C.2.2.2.1, C.2.2.2.2.1⟩ (g_Mo_copy l G k h0 _ ma (va_up iv 13 (nI (b9 + 1))) co L9 (g9 * 41) ((22 * b9 + 20) * 41) (by omega) (by omega) (by omega)) (k_virt (n := 2) C wc_Mo_copy rfl rfl wz_Mo wm_Mo_218 wn_Mo_copy ws_Mo_copy (by decide +kernel) ⟨(Nat.le_of_ble_eq_true rfl), (Nat.le_of_ble_eq_true rfl)⟩) (pr_nowV K S [0, 1] (by decide) rfl 0 rfl rfl) rfl rfl hl.1 rfl (lv_room (Nat.le_of_ble_eq_true rfl)) d_Mo_newBlock_49 ⟨(Nat.le_of_ble_eq_true rfl), (Nat.le_of_ble_eq_true rfl)⟩) (fun u6 H locs hw7 S => ?_)
        have S : Sw G A s.heap _ _ [(h0, .inr (8, moL ma (va_up iv 13 (nI (b9 + 1))) co)), ((ma 13), .inl (k 1, 36982, .inr (.inl (lnP L9 (g9 * 41) ((22 * b9 + 20) * 41) 41))))] := S
        refine lv_aload_n hx hb d_Mo_newBlock_52 rfl (lv_at hl 2 rfl) ?_
        refine lv_iload_n hx hb d_Mo_newBlock_53 rfl (lv_at hl 4 rfl) ?_
        refine lv_iload_n hx hb d_Mo_newBlock_54 rfl (lv_at hl 1 rfl) ?_
        refine lv_bipush (v := 21) hx hb d_Mo_newBlock_55 (by decide) ?_
        refine r_backi (wi := []) (wr := [(h0, .inr (8, moL ma (va_up iv 13 (nI (b9 + 1))) co)), ((ma 13), .inl (k 1, 36982, .inr (.inl (lnP L9 (g9 * 41) ((22 * b9 + 20) * 41) 41))))]) S hA [] [0, 1] rfl rfl (by decide) (by decide) (va_runS (As := [.int (nI b9), .int 21]) (rest := [.int (nI (e9 * 41)), .ref h0]) ⟨hx, hb, C.2.2.1, C.2.2.2.1, C.2.2.2.2.1⟩ (g_Mo_line l G k _ b9 21) (k_stat (n := 2) C wc_Mo_line rfl rfl wz_Mo wm_Mo_211 wt_Mo_line (by decide +kernel) ⟨(Nat.le_of_ble_eq_true rfl), (Nat.le_of_ble_eq_true rfl)⟩) (pr_now K S [] (by decide) rfl) rfl rfl hl.1 rfl (lv_room (Nat.le_of_ble_eq_true rfl)) d_Mo_newBlock_57 ⟨(Nat.le_of_ble_eq_true rfl), (Nat.le_of_ble_eq_true rfl)⟩) (fun r10 u8 H locs hw9 S => ?_)
        have S : Sw G A s.heap _ _ [(h0, .inr (8, moL ma (va_up iv 13 (nI (b9 + 1))) co)), ((ma 13), .inl (k 1, 36982, .inr (.inl (lnP L9 (g9 * 41) ((22 * b9 + 20) * 41) 41))))] := S
        obtain rfl : r10 = nI ((22 * b9 + 21) * 41) := hw9
        refine r_backv (wi := [(h0, .inr (8, moL ma (va_up iv 13 (nI (b9 + 1))) co)), ((ma 13), .inl (k 1, 36982, .inr (.inl (lnP L9 (g9 * 41) ((22 * b9 + 20) * 41) 41))))]) (wr := []) S hA [0, 1] [] rfl rfl (by decide) (by decide) (va_runV (As := [.int (nI (e9 * 41)), .int (nI ((22 * b9 + 21) * 41))]) (rest := []) ⟨hx, hb, C.2.2.1, C.2.2.2.1, C.2.2.2.2.1⟩ (g_Mo_copy l G k h0 _ ma (va_up iv 13 (nI (b9 + 1))) co (lnP L9 (g9 * 41) ((22 * b9 + 20) * 41) 41) (e9 * 41) ((22 * b9 + 21) * 41) (by omega) (by omega) (by omega)) (k_virt (n := 2) C wc_Mo_copy rfl rfl wz_Mo wm_Mo_218 wn_Mo_copy ws_Mo_copy (by decide +kernel) ⟨(Nat.le_of_ble_eq_true rfl), (Nat.le_of_ble_eq_true rfl)⟩) (pr_nowV K S [0, 1] (by decide) rfl 0 rfl rfl) rfl rfl hl.1 rfl (lv_room (Nat.le_of_ble_eq_true rfl)) d_Mo_newBlock_60 ⟨(Nat.le_of_ble_eq_true rfl), (Nat.le_of_ble_eq_true rfl)⟩) (fun u12 H locs hw13 S => ?_)
        have S : Sw G A s.heap _ _ [(h0, .inr (8, moL ma (va_up iv 13 (nI (b9 + 1))) co)), ((ma 13), .inl (k 1, 36982, .inr (.inl (lnP (lnP L9 (g9 * 41) ((22 * b9 + 20) * 41) 41) (e9 * 41) ((22 * b9 + 21) * 41) 41))))] := S
        refine lv_iload_n hx hb d_Mo_newBlock_63 rfl (lv_at hl 1 rfl) ?_
        exact r_iret C K rfl (lnP (lnP L9 (g9 * 41) ((22 * b9 + 20) * 41) 41) (e9 * 41) ((22 * b9 + 21) * 41) 41) ⟨rfl, fun k9 hk => by rw [lz_P_ne (by omega), lz_P_ne (by omega)]; exact hz k9 (by omega), by rw [lz_P_ne (by omega), lz_P]; exact ho g9 (by omega), by rw [lz_P, lz_P_ne (by omega)]; exact ho e9 (by omega), fun x hx => by rw [lz_P_ne (by omega), lz_P_ne (by omega)]; exact ho x (by omega)⟩ (S.sub [0, 1] (by decide) rfl) d_Mo_newBlock_64 (Nat.le_of_ble_eq_true rfl) (Nat.le_of_ble_eq_true rfl)
      · refine lv_aload_n hx hb d_Mo_newBlock_25 rfl (lv_at hl 2 rfl) ?_
        refine lv_iload_n hx hb d_Mo_newBlock_26 rfl (lv_at hl 1 rfl) ?_
        refine lv_iload hx hb d_Mo_newBlock_27 (lv_at hl 0 rfl) ?_
        refine r_backi (wi := []) (wr := [(h0, .inr (8, moL ma (va_up iv 13 (nI (b9 + 1))) co)), ((ma 13), .inl (k 1, 36982, .inr (.inl L9)))]) S hA [] [0, 1] rfl rfl (by decide) (by decide) (va_runS (As := [.int (nI b9), .int (nI t)]) (rest := [.ref h0]) ⟨hx, hb, C.2.2.1, C.2.2.2.1, C.2.2.2.2.1⟩ (g_Mo_line l G k _ b9 t) (k_stat (n := 2) C wc_Mo_line rfl rfl wz_Mo wm_Mo_211 wt_Mo_line (by decide +kernel) ⟨(Nat.le_of_ble_eq_true rfl), (Nat.le_of_ble_eq_true rfl)⟩) (pr_now K S [] (by decide) rfl) rfl rfl hl.1 rfl (lv_room (Nat.le_of_ble_eq_true rfl)) d_Mo_newBlock_29 ⟨(Nat.le_of_ble_eq_true rfl), (Nat.le_of_ble_eq_true rfl)⟩) (fun r16 u14 H locs hw15 S => ?_)
        have S : Sw G A s.heap _ _ [(h0, .inr (8, moL ma (va_up iv 13 (nI (b9 + 1))) co)), ((ma 13), .inl (k 1, 36982, .inr (.inl L9)))] := S
        obtain rfl : r16 = nI ((22 * b9 + t) * 41) := hw15
        refine r_backv (wi := [(h0, .inr (8, moL ma (va_up iv 13 (nI (b9 + 1))) co)), ((ma 13), .inl (k 1, 36982, .inr (.inl L9)))]) (wr := []) S hA [0, 1] [] rfl rfl (by decide) (by decide) (va_runV (As := [.int (nI ((22 * b9 + t) * 41))]) (rest := []) ⟨hx, hb, C.2.2.1, C.2.2.2.1, C.2.2.2.2.1⟩ (g_Mo_clear l G k h0 _ ma (va_up iv 13 (nI (b9 + 1))) co L9 ((22 * b9 + t) * 41) (by omega)) (k_virt (n := 1) C wc_Mo_clear rfl rfl wz_Mo wm_Mo_214 wn_Mo_clear ws_Mo_clear (by decide +kernel) ⟨(Nat.le_of_ble_eq_true rfl), (Nat.le_of_ble_eq_true rfl)⟩) (pr_nowV K S [0, 1] (by decide) rfl 0 rfl rfl) rfl rfl hl.1 rfl (lv_room (Nat.le_of_ble_eq_true rfl)) d_Mo_newBlock_32 ⟨(Nat.le_of_ble_eq_true rfl), (Nat.le_of_ble_eq_true rfl)⟩) (fun u18 H locs hw19 S => ?_)
        have S : Sw G A s.heap _ _ [(h0, .inr (8, moL ma (va_up iv 13 (nI (b9 + 1))) co)), ((ma 13), .inl (k 1, 36982, .inr (.inl (lnC L9 ((22 * b9 + t) * 41) 41))))] := S
        refine lv_iinc (v := nI (t + 1)) (lv' := [(4, .int (nI (t + 1))), (3, .int (nI b9)), (0, .ref h0), (1, .int (nI (g9 * 41))), (2, .int (nI (e9 * 41)))]) hx hb d_Mo_newBlock_35 hl (k := 0) rfl (show nI t + Int32.ofInt 1 = nI (t + 1) from (nI_add t 1).trans (congrArg nI (by omega))) (by decide) rfl (fun ls hl => ?_)
        refine lv_goto (tgt := 18) hx hb d_Mo_newBlock_38 (by decide) ?_
        exact ih_lp (t + 1) (lnC L9 ((22 * b9 + t) * 41) 41) (by omega) (by omega) (fun k9 hk => (Nat.lt_or_eq_of_le (Nat.le_of_lt_succ hk)).elim (fun q => by rw [lz_C_ne (by omega)]; exact hz k9 q) (fun q => by rw [q, lz_C])) (fun x hx => by rw [lz_C_ne (by omega)]; exact ho x hx) _ _ (S.sub [0, 1] (by decide) rfl) ls (lv_sub hl [0, 1, 2, 3, 4] rfl)
  exact lp _ 0 L (Nat.lt_succ_self _) (by omega) (fun _ h => absurd h (Nat.not_lt_zero _)) (fun _ _ => rfl) _ _ (S.sub [0, 1] (by decide) rfl) ls (lv_sub hl [0, 1, 2, 3, 4] rfl)
theorem d_Mo_keepAll_0 : decode c_Mo_keepAll 0 = .ok (.iconst 0, 1) := by decide +kernel
theorem d_Mo_keepAll_1 : decode c_Mo_keepAll 1 = .ok (.istore_n 3, 1) := by decide +kernel
theorem d_Mo_keepAll_2 : decode c_Mo_keepAll 2 = .ok (.iload_n 3, 1) := by decide +kernel
theorem d_Mo_keepAll_3 : decode c_Mo_keepAll 3 = .ok (.bipush 19, 2) := by decide +kernel
theorem d_Mo_keepAll_5 : decode c_Mo_keepAll 5 = .ok (.if_icmp .gt 23, 3) := by decide +kernel
theorem d_Mo_keepAll_8 : decode c_Mo_keepAll 8 = .ok (.aload_n 0, 1) := by decide +kernel
theorem d_Mo_keepAll_9 : decode c_Mo_keepAll 9 = .ok (.iload_n 2, 1) := by decide +kernel
theorem d_Mo_keepAll_10 : decode c_Mo_keepAll 10 = .ok (.iload_n 3, 1) := by decide +kernel
theorem d_Mo_keepAll_11 : decode c_Mo_keepAll 11 = .ok (.invokestatic 211, 3) := by decide +kernel
theorem d_Mo_keepAll_14 : decode c_Mo_keepAll 14 = .ok (.iload_n 1, 1) := by decide +kernel
theorem d_Mo_keepAll_15 : decode c_Mo_keepAll 15 = .ok (.iload_n 3, 1) := by decide +kernel
theorem d_Mo_keepAll_16 : decode c_Mo_keepAll 16 = .ok (.invokestatic 211, 3) := by decide +kernel
theorem d_Mo_keepAll_19 : decode c_Mo_keepAll 19 = .ok (.invokevirtual 218, 3) := by decide +kernel
theorem d_Mo_keepAll_22 : decode c_Mo_keepAll 22 = .ok (.iinc 3 1, 3) := by decide +kernel
theorem d_Mo_keepAll_25 : decode c_Mo_keepAll 25 = .ok (.goto (-23), 3) := by decide +kernel
theorem d_Mo_keepAll_28 : decode c_Mo_keepAll 28 = .ok (.return_, 1) := by decide +kernel
set_option maxRecDepth 100000 in
set_option maxHeartbeats 16000000 in
/-- keepAll(b9, c9) -/
theorem g_Mo_keepAll (l : Launch) (G : va_G) (k : Nat → ClassId) (h0 : Nat) (s0 : Nat) (b9 : Nat) (c9 : Nat) (ma : Nat → Nat) (iv : Nat → Int32) (co : Int64) (L : Nat → Int64) (hbk : b9 < 40) (hc : c9 ≤ 40) (hbc : b9 ≠ c9) : CV l y_Mo_keepAll c_Mo_keepAll 4 { frames := 1, cells := 0, slots := 0, locals := 23 } [.ref h0, .int (nI b9), .int (nI c9)] G k s0 [(h0, .inr (8, moL ma iv co)), ((ma 13), .inl (k 1, 36982, .inr (.inl L)))] (fun (u : Nat → Int64) => (∀ k9, k9 < 20 → lz u (22 * b9 + k9) = lz L (22 * c9 + k9)) ∧ ∀ x, x < 22 * b9 ∨ 22 * b9 + 20 ≤ x → lz u x = lz L x) (fun u => [(h0, .inr (8, moL ma iv co)), ((ma 13), .inl (k 1, 36982, .inr (.inl u)))]) 0 0 := by
  refine met_start (by decide) (Nat.le_of_ble_eq_true rfl) ?_
  intro p e s m below meth c C K hA hsz S ls hl
  generalize va_A [(h0, .inr (8, moL ma iv co)), ((ma 13), .inl (k 1, 36982, .inr (.inl L)))] s0 = A at hA S ⊢
  have hx := C.1
  have hb := C.2.1
  have hl : lv_has ls 4 [(0, .ref h0), (1, .int (nI b9)), (2, .int (nI c9))] := hl
  refine lv_iconst (v := 0) hx hb d_Mo_keepAll_0 (by decide) ?_
  refine lv_istore_n (lv' := [(3, .int 0), (0, .ref h0), (1, .int (nI b9)), (2, .int (nI c9))]) hx hb d_Mo_keepAll_1 rfl hl (by decide) rfl (fun ls hl => ?_)
  have lp : ∀ d9, ∀ (t : Nat), ∀ (L9 : Nat → Int64), (20 - t) < d9 → (t ≤ 20) → (∀ k9, k9 < t → lz L9 (22 * b9 + k9) = lz L (22 * c9 + k9)) → (∀ x, x < 22 * b9 ∨ 22 * b9 + 20 ≤ x → lz L9 x = lz L x) → ∀ (H : Heap) (locs : List Loc), Sw G A s.heap H locs [(h0, .inr (8, moL ma iv co)), ((ma 13), .inl (k 1, 36982, .inr (.inl L9)))] → ∀ ls : Array Slot, lv_has ls 4 [(3, .int (nI t)), (0, .ref h0), (1, .int (nI b9)), (2, .int (nI c9))] → W p l e { frames := 1, cells := 0, slots := 0, locals := 23 } s m [Value.ref h0, Value.int (nI b9), Value.int (nI c9)].toArray below meth c H locs 0 0 (MQ below (va_Qv (fun (u : Nat → Int64) => (∀ k9, k9 < 20 → lz u (22 * b9 + k9) = lz L (22 * c9 + k9)) ∧ ∀ x, x < 22 * b9 ∨ 22 * b9 + 20 ≤ x → lz u x = lz L x) (Po G k A (fun u => [(h0, .inr (8, moL ma iv co)), ((ma 13), .inl (k 1, 36982, .inr (.inl u)))])) A) [Value.ref h0, Value.int (nI b9), Value.int (nI c9)].toArray s 0 0 A) (F0 m 2 ls []) := by
    intro d9
    induction d9 with
    | zero => intro t L9 hm; exact absurd hm (Nat.not_lt_zero _)
    | succ d9 ih_lp =>
      intro t L9 hm ht hz ho H locs S ls hl
      refine lv_iload_n hx hb d_Mo_keepAll_2 rfl (lv_at hl 0 rfl) ?_
      refine lv_bipush (v := 19) hx hb d_Mo_keepAll_3 (by decide) ?_
      refine z_icmp_gt (a := t) (b := 19) (tgt := 28) hx hb d_Mo_keepAll_5 (by decide) (by omega) (by omega) (fun hc1 => ?_) (fun hc1 => ?_)
      · exact r_vret C K L9 ⟨fun k9 hk => hz k9 (by omega), ho⟩ (S.sub [0, 1] (by decide) rfl) d_Mo_keepAll_28 (Nat.le_of_ble_eq_true rfl) (Nat.le_of_ble_eq_true rfl)
      · refine lv_aload_n hx hb d_Mo_keepAll_8 rfl (lv_at hl 1 rfl) ?_
        refine lv_iload_n hx hb d_Mo_keepAll_9 rfl (lv_at hl 3 rfl) ?_
        refine lv_iload_n hx hb d_Mo_keepAll_10 rfl (lv_at hl 0 rfl) ?_
        refine r_backi (wi := []) (wr := [(h0, .inr (8, moL ma iv co)), ((ma 13), .inl (k 1, 36982, .inr (.inl L9)))]) S hA [] [0, 1] rfl rfl (by decide) (by decide) (va_runS (As := [.int (nI c9), .int (nI t)]) (rest := [.ref h0]) ⟨hx, hb, C.2.2.1, C.2.2.2.1, C.2.2.2.2.1⟩ (g_Mo_line l G k _ c9 t) (k_stat (n := 2) C wc_Mo_line rfl rfl wz_Mo wm_Mo_211 wt_Mo_line (by decide +kernel) ⟨(Nat.le_of_ble_eq_true rfl), (Nat.le_of_ble_eq_true rfl)⟩) (pr_now K S [] (by decide) rfl) rfl rfl hl.1 rfl (lv_room (Nat.le_of_ble_eq_true rfl)) d_Mo_keepAll_11 ⟨(Nat.le_of_ble_eq_true rfl), (Nat.le_of_ble_eq_true rfl)⟩) (fun r4 u2 H locs hw3 S => ?_)
        have S : Sw G A s.heap _ _ [(h0, .inr (8, moL ma iv co)), ((ma 13), .inl (k 1, 36982, .inr (.inl L9)))] := S
        obtain rfl : r4 = nI ((22 * c9 + t) * 41) := hw3
        refine lv_iload_n hx hb d_Mo_keepAll_14 rfl (lv_at hl 2 rfl) ?_
        refine lv_iload_n hx hb d_Mo_keepAll_15 rfl (lv_at hl 0 rfl) ?_
        refine r_backi (wi := []) (wr := [(h0, .inr (8, moL ma iv co)), ((ma 13), .inl (k 1, 36982, .inr (.inl L9)))]) S hA [] [0, 1] rfl rfl (by decide) (by decide) (va_runS (As := [.int (nI b9), .int (nI t)]) (rest := [.int (nI ((22 * c9 + t) * 41)), .ref h0]) ⟨hx, hb, C.2.2.1, C.2.2.2.1, C.2.2.2.2.1⟩ (g_Mo_line l G k _ b9 t) (k_stat (n := 2) C wc_Mo_line rfl rfl wz_Mo wm_Mo_211 wt_Mo_line (by decide +kernel) ⟨(Nat.le_of_ble_eq_true rfl), (Nat.le_of_ble_eq_true rfl)⟩) (pr_now K S [] (by decide) rfl) rfl rfl hl.1 rfl (lv_room (Nat.le_of_ble_eq_true rfl)) d_Mo_keepAll_16 ⟨(Nat.le_of_ble_eq_true rfl), (Nat.le_of_ble_eq_true rfl)⟩) (fun r8 u6 H locs hw7 S => ?_)
        have S : Sw G A s.heap _ _ [(h0, .inr (8, moL ma iv co)), ((ma 13), .inl (k 1, 36982, .inr (.inl L9)))] := S
        obtain rfl : r8 = nI ((22 * b9 + t) * 41) := hw7
        refine r_backv (wi := [(h0, .inr (8, moL ma iv co)), ((ma 13), .inl (k 1, 36982, .inr (.inl L9)))]) (wr := []) S hA [0, 1] [] rfl rfl (by decide) (by decide) (va_runV (As := [.int (nI ((22 * c9 + t) * 41)), .int (nI ((22 * b9 + t) * 41))]) (rest := []) ⟨hx, hb, C.2.2.1, C.2.2.2.1, C.2.2.2.2.1⟩ (g_Mo_copy l G k h0 _ ma iv co L9 ((22 * c9 + t) * 41) ((22 * b9 + t) * 41) (by omega) (by omega) (by omega)) (k_virt (n := 2) C wc_Mo_copy rfl rfl wz_Mo wm_Mo_218 wn_Mo_copy ws_Mo_copy (by decide +kernel) ⟨(Nat.le_of_ble_eq_true rfl), (Nat.le_of_ble_eq_true rfl)⟩) (pr_nowV K S [0, 1] (by decide) rfl 0 rfl rfl) rfl rfl hl.1 rfl (lv_room (Nat.le_of_ble_eq_true rfl)) d_Mo_keepAll_19 ⟨(Nat.le_of_ble_eq_true rfl), (Nat.le_of_ble_eq_true rfl)⟩) (fun u10 H locs hw11 S => ?_)
        have S : Sw G A s.heap _ _ [(h0, .inr (8, moL ma iv co)), ((ma 13), .inl (k 1, 36982, .inr (.inl (lnP L9 ((22 * c9 + t) * 41) ((22 * b9 + t) * 41) 41))))] := S
        refine lv_iinc (v := nI (t + 1)) (lv' := [(3, .int (nI (t + 1))), (0, .ref h0), (1, .int (nI b9)), (2, .int (nI c9))]) hx hb d_Mo_keepAll_22 hl (k := 0) rfl (show nI t + Int32.ofInt 1 = nI (t + 1) from (nI_add t 1).trans (congrArg nI (by omega))) (by decide) rfl (fun ls hl => ?_)
        refine lv_goto (tgt := 2) hx hb d_Mo_keepAll_25 (by decide) ?_
        exact ih_lp (t + 1) (lnP L9 ((22 * c9 + t) * 41) ((22 * b9 + t) * 41) 41) (by omega) (by omega) (fun k9 hk => (Nat.lt_or_eq_of_le (Nat.le_of_lt_succ hk)).elim (fun q => by rw [lz_P_ne (by omega)]; exact hz k9 q) (fun q => by rw [q, lz_P]; exact ho _ (by omega))) (fun x hx => by rw [lz_P_ne (by omega)]; exact ho x hx) _ _ (S.sub [0, 1] (by decide) rfl) ls (lv_sub hl [0, 1, 2, 3] rfl)
  exact lp _ 0 L (Nat.lt_succ_self _) (by omega) (fun _ h => absurd h (Nat.not_lt_zero _)) (fun _ _ => rfl) _ _ (S.sub [0, 1] (by decide) rfl) ls (lv_sub hl [0, 1, 2, 3] rfl)
theorem d_Mo_openNeed_0 : decode c_Mo_openNeed 0 = .ok (.aload_n 0, 1) := by decide +kernel
theorem d_Mo_openNeed_1 : decode c_Mo_openNeed 1 = .ok (.getfield 67, 3) := by decide +kernel
theorem d_Mo_openNeed_4 : decode c_Mo_openNeed 4 = .ok (.aload_n 0, 1) := by decide +kernel
theorem d_Mo_openNeed_5 : decode c_Mo_openNeed 5 = .ok (.getfield 221, 3) := by decide +kernel
theorem d_Mo_openNeed_8 : decode c_Mo_openNeed 8 = .ok (.aload_n 0, 1) := by decide +kernel
theorem d_Mo_openNeed_9 : decode c_Mo_openNeed 9 = .ok (.iload_n 3, 1) := by decide +kernel
theorem d_Mo_openNeed_10 : decode c_Mo_openNeed 10 = .ok (.iload 4, 2) := by decide +kernel
theorem d_Mo_openNeed_12 : decode c_Mo_openNeed 12 = .ok (.invokevirtual 224, 3) := by decide +kernel
theorem d_Mo_openNeed_15 : decode c_Mo_openNeed 15 = .ok (.iastore, 1) := by decide +kernel
theorem d_Mo_openNeed_16 : decode c_Mo_openNeed 16 = .ok (.aload_n 0, 1) := by decide +kernel
theorem d_Mo_openNeed_17 : decode c_Mo_openNeed 17 = .ok (.getfield 70, 3) := by decide +kernel
theorem d_Mo_openNeed_20 : decode c_Mo_openNeed 20 = .ok (.aload_n 0, 1) := by decide +kernel
theorem d_Mo_openNeed_21 : decode c_Mo_openNeed 21 = .ok (.getfield 221, 3) := by decide +kernel
theorem d_Mo_openNeed_24 : decode c_Mo_openNeed 24 = .ok (.iload_n 1, 1) := by decide +kernel
theorem d_Mo_openNeed_25 : decode c_Mo_openNeed 25 = .ok (.iastore, 1) := by decide +kernel
theorem d_Mo_openNeed_26 : decode c_Mo_openNeed 26 = .ok (.aload_n 0, 1) := by decide +kernel
theorem d_Mo_openNeed_27 : decode c_Mo_openNeed 27 = .ok (.getfield 73, 3) := by decide +kernel
theorem d_Mo_openNeed_30 : decode c_Mo_openNeed 30 = .ok (.aload_n 0, 1) := by decide +kernel
theorem d_Mo_openNeed_31 : decode c_Mo_openNeed 31 = .ok (.getfield 221, 3) := by decide +kernel
theorem d_Mo_openNeed_34 : decode c_Mo_openNeed 34 = .ok (.iload_n 2, 1) := by decide +kernel
theorem d_Mo_openNeed_35 : decode c_Mo_openNeed 35 = .ok (.iastore, 1) := by decide +kernel
theorem d_Mo_openNeed_36 : decode c_Mo_openNeed 36 = .ok (.aload_n 0, 1) := by decide +kernel
theorem d_Mo_openNeed_37 : decode c_Mo_openNeed 37 = .ok (.getfield 76, 3) := by decide +kernel
theorem d_Mo_openNeed_40 : decode c_Mo_openNeed 40 = .ok (.aload_n 0, 1) := by decide +kernel
theorem d_Mo_openNeed_41 : decode c_Mo_openNeed 41 = .ok (.getfield 221, 3) := by decide +kernel
theorem d_Mo_openNeed_44 : decode c_Mo_openNeed 44 = .ok (.iconst 0, 1) := by decide +kernel
theorem d_Mo_openNeed_45 : decode c_Mo_openNeed 45 = .ok (.iastore, 1) := by decide +kernel
theorem d_Mo_openNeed_46 : decode c_Mo_openNeed 46 = .ok (.aload_n 0, 1) := by decide +kernel
theorem d_Mo_openNeed_47 : decode c_Mo_openNeed 47 = .ok (.dup, 1) := by decide +kernel
theorem d_Mo_openNeed_48 : decode c_Mo_openNeed 48 = .ok (.getfield 221, 3) := by decide +kernel
theorem d_Mo_openNeed_51 : decode c_Mo_openNeed 51 = .ok (.iconst 1, 1) := by decide +kernel
theorem d_Mo_openNeed_52 : decode c_Mo_openNeed 52 = .ok (.iadd, 1) := by decide +kernel
theorem d_Mo_openNeed_53 : decode c_Mo_openNeed 53 = .ok (.putfield 221, 3) := by decide +kernel
theorem d_Mo_openNeed_56 : decode c_Mo_openNeed 56 = .ok (.return_, 1) := by decide +kernel
set_option maxRecDepth 100000 in
set_option maxHeartbeats 16000000 in
/-- openNeed(p9, kn, g9, e9) -/
theorem g_Mo_openNeed (l : Launch) (G : va_G) (k : Nat → ClassId) (h0 : Nat) (s0 : Nat) (p9 : Nat) (kn : Nat) (g9 : Nat) (e9 : Nat) (b9 : Nat) (n9 : Nat) (ma : Nat → Nat) (iv : Nat → Int32) (co : Int64) (L : Nat → Int64) (NB : Nat → Nat) (NA : Nat → Nat) (NK : Nat → Nat) (NP : Nat → Nat) (hbk : b9 < 40) (hg : g9 < 22 * b9 ∨ (880 ≤ g9 ∧ g9 < 902)) (hd : e9 < 22 * b9 ∨ (880 ≤ e9 ∧ e9 < 902)) (hn : n9 < 20) : CV l y_Mo_openNeed c_Mo_openNeed 5 { frames := 2, cells := 0, slots := 0, locals := 47 } [.ref h0, .int (nI p9), .int (nI kn), .int (nI (g9 * 41)), .int (nI (e9 * 41))] G k s0 [(h0, .inr (8, moL ma (va_up (va_up iv 13 (nI b9)) 17 (nI n9)) co)), ((ma 13), .inl (k 1, 36982, .inr (.inl L))), ((ma 16), .inl (k 0, 20, .inl (fun i => nI (NB i)))), ((ma 17), .inl (k 0, 20, .inl (fun i => nI (NA i)))), ((ma 18), .inl (k 0, 20, .inl (fun i => nI (NK i)))), ((ma 19), .inl (k 0, 20, .inl (fun i => nI (NP i))))] (fun (u : Nat → Int64) => (∀ k9, k9 < 20 → lz u (22 * b9 + k9) = 0) ∧ lz u (22 * b9 + 20) = lz L g9 ∧ lz u (22 * b9 + 21) = lz L e9 ∧ ∀ x, x < 22 * b9 ∨ 22 * b9 + 22 ≤ x → lz u x = lz L x) (fun u => [(h0, .inr (8, moL ma (va_up (va_up iv 13 (nI (b9 + 1))) 17 (nI (n9 + 1))) co)), ((ma 13), .inl (k 1, 36982, .inr (.inl u))), ((ma 16), .inl (k 0, 20, .inl (fun i => nI ((va_up NB n9 b9) i)))), ((ma 17), .inl (k 0, 20, .inl (fun i => nI ((va_up NA n9 p9) i)))), ((ma 18), .inl (k 0, 20, .inl (fun i => nI ((va_up NK n9 kn) i)))), ((ma 19), .inl (k 0, 20, .inl (fun i => nI ((va_up NP n9 0) i))))]) 0 0 := by
  refine met_start (by decide) (Nat.le_of_ble_eq_true rfl) ?_
  intro p e s m below meth c C K hA hsz S ls hl
  generalize va_A [(h0, .inr (8, moL ma (va_up (va_up iv 13 (nI b9)) 17 (nI n9)) co)), ((ma 13), .inl (k 1, 36982, .inr (.inl L))), ((ma 16), .inl (k 0, 20, .inl (fun i => nI (NB i)))), ((ma 17), .inl (k 0, 20, .inl (fun i => nI (NA i)))), ((ma 18), .inl (k 0, 20, .inl (fun i => nI (NK i)))), ((ma 19), .inl (k 0, 20, .inl (fun i => nI (NP i))))] s0 = A at hA S ⊢
  have hx := C.1
  have hb := C.2.1
  have hl : lv_has ls 5 [(0, .ref h0), (1, .int (nI p9)), (2, .int (nI kn)), (3, .int (nI (g9 * 41))), (4, .int (nI (e9 * 41)))] := hl
  refine lv_aload_n hx hb d_Mo_openNeed_0 rfl (lv_at hl 0 rfl) ?_
  refine r_get C K S 0 rfl rfl clOk_Mo 35 (by decide) wf_Mo_67 (v := .ref (ma 16)) rfl d_Mo_openNeed_1 ?_
  refine lv_aload_n hx hb d_Mo_openNeed_4 rfl (lv_at hl 0 rfl) ?_
  refine r_get C K S 0 rfl rfl clOk_Mo 34 (by decide) wf_Mo_221 (v := .int (nI n9)) rfl d_Mo_openNeed_5 ?_
  refine lv_aload_n hx hb d_Mo_openNeed_8 rfl (lv_at hl 0 rfl) ?_
  refine lv_iload_n hx hb d_Mo_openNeed_9 rfl (lv_at hl 3 rfl) ?_
  refine lv_iload hx hb d_Mo_openNeed_10 (lv_at hl 4 rfl) ?_
  refine r_backi (wi := [(h0, .inr (8, moL ma (va_up (va_up iv 17 (nI n9)) 13 (nI b9)) co)), ((ma 13), .inl (k 1, 36982, .inr (.inl L)))]) (wr := [((ma 16), .inl (k 0, 20, .inl (fun i => nI (NB i)))), ((ma 17), .inl (k 0, 20, .inl (fun i => nI (NA i)))), ((ma 18), .inl (k 0, 20, .inl (fun i => nI (NK i)))), ((ma 19), .inl (k 0, 20, .inl (fun i => nI (NP i))))]) S hA [0, 1] [2, 3, 4, 5] rfl rfl (by decide) (by decide) (va_runV (As := [.int (nI (g9 * 41)), .int (nI (e9 * 41))]) (rest := [.int (nI n9), .ref (ma 16)]) ⟨hx, hb, C.2.2.1, C.2.2.2.1, C.2.2.2.2.1⟩ (g_Mo_newBlock l G k h0 _ g9 e9 b9 ma (va_up iv 17 (nI n9)) co L hbk hg hd) (k_virt (n := 2) C wc_Mo_newBlock rfl rfl wz_Mo wm_Mo_224 wn_Mo_newBlock ws_Mo_newBlock (by decide +kernel) ⟨(Nat.le_of_ble_eq_true rfl), (Nat.le_of_ble_eq_true rfl)⟩) (pr_nowV K S [0, 1] (by decide) rfl 0 rfl rfl) rfl rfl hl.1 rfl (lv_room (Nat.le_of_ble_eq_true rfl)) d_Mo_openNeed_12 ⟨(Nat.le_of_ble_eq_true rfl), (Nat.le_of_ble_eq_true rfl)⟩) (fun r2 lu H locs hw1 S => ?_)
  have S : Sw G A s.heap _ _ [((ma 16), .inl (k 0, 20, .inl (fun i => nI (NB i)))), ((ma 17), .inl (k 0, 20, .inl (fun i => nI (NA i)))), ((ma 18), .inl (k 0, 20, .inl (fun i => nI (NK i)))), ((ma 19), .inl (k 0, 20, .inl (fun i => nI (NP i)))), (h0, .inr (8, moL ma (va_up (va_up iv 17 (nI n9)) 13 (nI (b9 + 1))) co)), ((ma 13), .inl (k 1, 36982, .inr (.inl lu)))] := S
  obtain ⟨hw10, hlu⟩ := hw1
  obtain rfl : r2 = nI b9 := hw10
  refine r_iast C K S 0 rfl (i := nI n9) (x := nI b9) (show vp_in (nI n9) _ from vp_in_nI (n := n9) (by omega) (by decide)) (f' := fun i => nI (va_up NB n9 b9 i)) (ws' := [((ma 16), .inl (k 0, 20, .inl (fun i => nI (va_up NB n9 b9 i)))), ((ma 17), .inl (k 0, 20, .inl (fun i => nI (NA i)))), ((ma 18), .inl (k 0, 20, .inl (fun i => nI (NK i)))), ((ma 19), .inl (k 0, 20, .inl (fun i => nI (NP i)))), (h0, .inr (8, moL ma (va_up (va_up iv 17 (nI n9)) 13 (nI (b9 + 1))) co)), ((ma 13), .inl (k 1, 36982, .inr (.inl lu)))]) (show upd _ (nI n9 : Int32).toNatClampNeg (nI b9) = _ from upd_nI NB (j := n9) (by omega) b9) rfl d_Mo_openNeed_15 (fun H locs S => ?_)
  refine lv_aload_n hx hb d_Mo_openNeed_16 rfl (lv_at hl 0 rfl) ?_
  refine r_get C K S 4 rfl rfl clOk_Mo 36 (by decide) wf_Mo_70 (v := .ref (ma 17)) rfl d_Mo_openNeed_17 ?_
  refine lv_aload_n hx hb d_Mo_openNeed_20 rfl (lv_at hl 0 rfl) ?_
  refine r_get C K S 4 rfl rfl clOk_Mo 34 (by decide) wf_Mo_221 (v := .int (nI n9)) rfl d_Mo_openNeed_21 ?_
  refine lv_iload_n hx hb d_Mo_openNeed_24 rfl (lv_at hl 1 rfl) ?_
  refine r_iast C K S 1 rfl (i := nI n9) (x := nI p9) (show vp_in (nI n9) _ from vp_in_nI (n := n9) (by omega) (by decide)) (f' := fun i => nI (va_up NA n9 p9 i)) (ws' := [((ma 16), .inl (k 0, 20, .inl (fun i => nI (va_up NB n9 b9 i)))), ((ma 17), .inl (k 0, 20, .inl (fun i => nI (va_up NA n9 p9 i)))), ((ma 18), .inl (k 0, 20, .inl (fun i => nI (NK i)))), ((ma 19), .inl (k 0, 20, .inl (fun i => nI (NP i)))), (h0, .inr (8, moL ma (va_up (va_up iv 17 (nI n9)) 13 (nI (b9 + 1))) co)), ((ma 13), .inl (k 1, 36982, .inr (.inl lu)))]) (show upd _ (nI n9 : Int32).toNatClampNeg (nI p9) = _ from upd_nI NA (j := n9) (by omega) p9) rfl d_Mo_openNeed_25 (fun H locs S => ?_)
  refine lv_aload_n hx hb d_Mo_openNeed_26 rfl (lv_at hl 0 rfl) ?_
  refine r_get C K S 4 rfl rfl clOk_Mo 37 (by decide) wf_Mo_73 (v := .ref (ma 18)) rfl d_Mo_openNeed_27 ?_
  refine lv_aload_n hx hb d_Mo_openNeed_30 rfl (lv_at hl 0 rfl) ?_
  refine r_get C K S 4 rfl rfl clOk_Mo 34 (by decide) wf_Mo_221 (v := .int (nI n9)) rfl d_Mo_openNeed_31 ?_
  refine lv_iload_n hx hb d_Mo_openNeed_34 rfl (lv_at hl 2 rfl) ?_
  refine r_iast C K S 2 rfl (i := nI n9) (x := nI kn) (show vp_in (nI n9) _ from vp_in_nI (n := n9) (by omega) (by decide)) (f' := fun i => nI (va_up NK n9 kn i)) (ws' := [((ma 16), .inl (k 0, 20, .inl (fun i => nI (va_up NB n9 b9 i)))), ((ma 17), .inl (k 0, 20, .inl (fun i => nI (va_up NA n9 p9 i)))), ((ma 18), .inl (k 0, 20, .inl (fun i => nI (va_up NK n9 kn i)))), ((ma 19), .inl (k 0, 20, .inl (fun i => nI (NP i)))), (h0, .inr (8, moL ma (va_up (va_up iv 17 (nI n9)) 13 (nI (b9 + 1))) co)), ((ma 13), .inl (k 1, 36982, .inr (.inl lu)))]) (show upd _ (nI n9 : Int32).toNatClampNeg (nI kn) = _ from upd_nI NK (j := n9) (by omega) kn) rfl d_Mo_openNeed_35 (fun H locs S => ?_)
  refine lv_aload_n hx hb d_Mo_openNeed_36 rfl (lv_at hl 0 rfl) ?_
  refine r_get C K S 4 rfl rfl clOk_Mo 38 (by decide) wf_Mo_76 (v := .ref (ma 19)) rfl d_Mo_openNeed_37 ?_
  refine lv_aload_n hx hb d_Mo_openNeed_40 rfl (lv_at hl 0 rfl) ?_
  refine r_get C K S 4 rfl rfl clOk_Mo 34 (by decide) wf_Mo_221 (v := .int (nI n9)) rfl d_Mo_openNeed_41 ?_
  refine lv_iconst (v := 0) hx hb d_Mo_openNeed_44 (by decide) ?_
  refine r_iast C K S 3 rfl (i := nI n9) (x := 0) (show vp_in (nI n9) _ from vp_in_nI (n := n9) (by omega) (by decide)) (f' := fun i => nI (va_up NP n9 0 i)) (ws' := [((ma 16), .inl (k 0, 20, .inl (fun i => nI (va_up NB n9 b9 i)))), ((ma 17), .inl (k 0, 20, .inl (fun i => nI (va_up NA n9 p9 i)))), ((ma 18), .inl (k 0, 20, .inl (fun i => nI (va_up NK n9 kn i)))), ((ma 19), .inl (k 0, 20, .inl (fun i => nI (va_up NP n9 0 i)))), (h0, .inr (8, moL ma (va_up (va_up iv 17 (nI n9)) 13 (nI (b9 + 1))) co)), ((ma 13), .inl (k 1, 36982, .inr (.inl lu)))]) (show upd _ (nI n9 : Int32).toNatClampNeg 0 = _ from upd_nI NP (j := n9) (by omega) 0) rfl d_Mo_openNeed_45 (fun H locs S => ?_)
  refine lv_aload_n hx hb d_Mo_openNeed_46 rfl (lv_at hl 0 rfl) ?_
  refine lv_dup hx hb d_Mo_openNeed_47 rfl ?_
  refine r_get C K S 4 rfl rfl clOk_Mo 34 (by decide) wf_Mo_221 (v := .int (nI n9)) rfl d_Mo_openNeed_48 ?_
  refine lv_iconst (v := 1) hx hb d_Mo_openNeed_51 (by decide) ?_
  refine z_iadd (x := nI n9) (y := 1) (v := nI (n9 + 1)) hx hb d_Mo_openNeed_52 (nI_add n9 1) ?_
  refine r_put C K S 4 rfl rfl clOk_Mo 34 (by decide) wf_Mo_221 rfl (ty := .int) (v := .int (nI (n9 + 1))) (by decide +kernel) rfl rfl (Nat.le_of_ble_eq_true rfl) (fs' := moL ma (va_up (va_up iv 13 (nI (b9 + 1))) 17 (nI (n9 + 1))) co) (ws' := [((ma 16), .inl (k 0, 20, .inl (fun i => nI (va_up NB n9 b9 i)))), ((ma 17), .inl (k 0, 20, .inl (fun i => nI (va_up NA n9 p9 i)))), ((ma 18), .inl (k 0, 20, .inl (fun i => nI (va_up NK n9 kn i)))), ((ma 19), .inl (k 0, 20, .inl (fun i => nI (va_up NP n9 0 i)))), (h0, .inr (8, moL ma (va_up (va_up iv 13 (nI (b9 + 1))) 17 (nI (n9 + 1))) co)), ((ma 13), .inl (k 1, 36982, .inr (.inl lu)))]) rfl rfl d_Mo_openNeed_53 (fun H locs S => ?_)
  exact r_vret C K lu hlu (S.sub [4, 5, 0, 1, 2, 3] (by decide) rfl) d_Mo_openNeed_56 (Nat.le_of_ble_eq_true rfl) (Nat.le_of_ble_eq_true rfl)
theorem d_Mo_endNeed_0 : decode c_Mo_endNeed 0 = .ok (.aload_n 0, 1) := by decide +kernel
theorem d_Mo_endNeed_1 : decode c_Mo_endNeed 1 = .ok (.dup, 1) := by decide +kernel
theorem d_Mo_endNeed_2 : decode c_Mo_endNeed 2 = .ok (.getfield 221, 3) := by decide +kernel
theorem d_Mo_endNeed_5 : decode c_Mo_endNeed 5 = .ok (.iconst 1, 1) := by decide +kernel
theorem d_Mo_endNeed_6 : decode c_Mo_endNeed 6 = .ok (.isub, 1) := by decide +kernel
theorem d_Mo_endNeed_7 : decode c_Mo_endNeed 7 = .ok (.putfield 221, 3) := by decide +kernel
theorem d_Mo_endNeed_10 : decode c_Mo_endNeed 10 = .ok (.aload_n 0, 1) := by decide +kernel
theorem d_Mo_endNeed_11 : decode c_Mo_endNeed 11 = .ok (.aload_n 0, 1) := by decide +kernel
theorem d_Mo_endNeed_12 : decode c_Mo_endNeed 12 = .ok (.getfield 67, 3) := by decide +kernel
theorem d_Mo_endNeed_15 : decode c_Mo_endNeed 15 = .ok (.aload_n 0, 1) := by decide +kernel
theorem d_Mo_endNeed_16 : decode c_Mo_endNeed 16 = .ok (.getfield 221, 3) := by decide +kernel
theorem d_Mo_endNeed_19 : decode c_Mo_endNeed 19 = .ok (.iaload, 1) := by decide +kernel
theorem d_Mo_endNeed_20 : decode c_Mo_endNeed 20 = .ok (.putfield 241, 3) := by decide +kernel
theorem d_Mo_endNeed_23 : decode c_Mo_endNeed 23 = .ok (.return_, 1) := by decide +kernel
set_option maxRecDepth 100000 in
set_option maxHeartbeats 16000000 in
/-- endNeed() -/
theorem g_Mo_endNeed (l : Launch) (G : va_G) (k : Nat → ClassId) (h0 : Nat) (s0 : Nat) (n9 : Nat) (ma : Nat → Nat) (iv : Nat → Int32) (co : Int64) (NB : Nat → Nat) (hn : n9 < 20) : CV l y_Mo_endNeed c_Mo_endNeed 1 { frames := 0, cells := 0, slots := 0, locals := 0 } [.ref h0] G k s0 [(h0, .inr (8, moL ma (va_up iv 17 (nI (n9 + 1))) co)), ((ma 16), .inl (k 0, 20, .inl (fun i => nI (NB i))))] (fun (u : Unit) => True) (fun u => [(h0, .inr (8, moL ma (va_up (va_up iv 17 (nI n9)) 18 (nI (NB n9))) co)), ((ma 16), .inl (k 0, 20, .inl (fun i => nI (NB i))))]) 0 0 := by
  refine met_start (by decide) (Nat.le_of_ble_eq_true rfl) ?_
  intro p e s m below meth c C K hA hsz S ls hl
  generalize va_A [(h0, .inr (8, moL ma (va_up iv 17 (nI (n9 + 1))) co)), ((ma 16), .inl (k 0, 20, .inl (fun i => nI (NB i))))] s0 = A at hA S ⊢
  have hx := C.1
  have hb := C.2.1
  have hl : lv_has ls 1 [(0, .ref h0)] := hl
  refine lv_aload_n hx hb d_Mo_endNeed_0 rfl (lv_at hl 0 rfl) ?_
  refine lv_dup hx hb d_Mo_endNeed_1 rfl ?_
  refine r_get C K S 0 rfl rfl clOk_Mo 34 (by decide) wf_Mo_221 (v := .int (nI (n9 + 1))) rfl d_Mo_endNeed_2 ?_
  refine lv_iconst (v := 1) hx hb d_Mo_endNeed_5 (by decide) ?_
  refine z_isub (x := nI (n9 + 1)) (y := 1) (v := nI (n9 + 1 - 1)) hx hb d_Mo_endNeed_6 (pk_sub (a := (n9 + 1)) (b := 1) (by omega)) ?_
  refine r_put C K S 0 rfl rfl clOk_Mo 34 (by decide) wf_Mo_221 rfl (ty := .int) (v := .int (nI (n9 + 1 - 1))) (by decide +kernel) rfl rfl (Nat.le_of_ble_eq_true rfl) (fs' := moL ma (va_up iv 17 (nI (n9 + 1 - 1))) co) (ws' := [(h0, .inr (8, moL ma (va_up iv 17 (nI (n9 + 1 - 1))) co)), ((ma 16), .inl (k 0, 20, .inl (fun i => nI (NB i))))]) rfl rfl d_Mo_endNeed_7 (fun H locs S => ?_)
  have S : Sw G A s.heap H locs [(h0, .inr (8, moL ma (va_up iv 17 (nI n9)) co)), ((ma 16), .inl (k 0, 20, .inl (fun i => nI (NB i))))] := S
  refine lv_aload_n hx hb d_Mo_endNeed_10 rfl (lv_at hl 0 rfl) ?_
  refine lv_aload_n hx hb d_Mo_endNeed_11 rfl (lv_at hl 0 rfl) ?_
  refine r_get C K S 0 rfl rfl clOk_Mo 35 (by decide) wf_Mo_67 (v := .ref (ma 16)) rfl d_Mo_endNeed_12 ?_
  refine lv_aload_n hx hb d_Mo_endNeed_15 rfl (lv_at hl 0 rfl) ?_
  refine r_get C K S 0 rfl rfl clOk_Mo 34 (by decide) wf_Mo_221 (v := .int (nI n9)) rfl d_Mo_endNeed_16 ?_
  refine r_iald C K S 1 rfl (i := nI n9) (show vp_in (nI n9) _ from vp_in_nI (n := n9) (by omega) (by decide)) (v := nI (NB n9)) (by rw [nI_clamp (by omega)]) d_Mo_endNeed_19 ?_
  refine r_put C K S 0 rfl rfl clOk_Mo 40 (by decide) wf_Mo_241 rfl (ty := .int) (v := .int (nI (NB n9))) (by decide +kernel) rfl rfl (Nat.le_of_ble_eq_true rfl) (fs' := moL ma (va_up (va_up iv 17 (nI n9)) 18 (nI (NB n9))) co) (ws' := [(h0, .inr (8, moL ma (va_up (va_up iv 17 (nI n9)) 18 (nI (NB n9))) co)), ((ma 16), .inl (k 0, 20, .inl (fun i => nI (NB i))))]) rfl rfl d_Mo_endNeed_20 (fun H locs S => ?_)
  exact r_vret C K () trivial (S.sub [0, 1] (by decide) rfl) d_Mo_endNeed_23 (Nat.le_of_ble_eq_true rfl) (Nat.le_of_ble_eq_true rfl)
theorem hdO_5 {W : Nat → Int32} {tk : Nat → Nat} {nf n p q : Nat} (hnf : nf ≤ 4) (h : HDn W tk nf (n + 1) p q) (hq : q ≤ 200) : W p = 5 → p + 1 < 200 ∧ ∃ g, W (p + 1) = nI g ∧ g < 4 := by
  intro h5
  obtain ⟨g, h1, h2⟩ := h.1.2 h5
  have h3 := HDn_le h.2
  have h4 : hdN W tk p = 2 + tk g := hdN_5 h5 h1 (by omega)
  exact ⟨by omega, g, h1, by omega⟩
theorem hdO_2 {W : Nat → Int32} {tk : Nat → Nat} {nf n p q : Nat} (h : HDn W tk nf (n + 1) p q) (h1 : W p = 1 ∨ W p = 3) : p + 2 ≤ q := by
  have h3 := HDn_le h.2
  have h4 : hdN W tk p = 2 := by rcases h1 with w | w <;> exact hdN_2 (by rw [w]; decide) (by rw [w]; decide) (by rw [w]; decide) (by rw [w]; decide)
  omega
theorem nm1_13 {W : Nat → Int32} {tk : Nat → Nat} {v : Int32} {p : Nat} (h : W p = 1 ∨ W p = 3) : nm1 W tk v p = decide (W (p + 1) = v) := if_pos h
theorem nm1_5 {W : Nat → Int32} {tk : Nat → Nat} {v : Int32} {p g : Nat} (h : W p = 5) (h2 : W (p + 1) = nI g) (hg : g < 4) : nm1 W tk v p = nmV W v p (tk g) := by
  unfold nm1
  rw [if_neg (by rw [h]; decide), if_pos h, h2, nI_clamp (by omega)]
theorem nm1_0 {W : Nat → Int32} {tk : Nat → Nat} {v : Int32} {p : Nat} (h1 : ¬ W p = 1) (h3 : ¬ W p = 3) (h5 : ¬ W p = 5) : nm1 W tk v p = false := by
  unfold nm1
  rw [if_neg (fun q => q.elim h1 h3), if_neg h5]
def b01 (b : Bool) : Nat := if b then 1 else 0
theorem b01_le (b : Bool) : b01 b ≤ 1 := by
  cases b <;> decide
theorem nmV_1 {W : Nat → Int32} {v : Int32} {p k : Nat} (h : b01 (nmV W v p k) ≠ 0) : b01 (nmV W v p (k + 1)) = 1 := by
  unfold nmV
  cases hb : nmV W v p k
  · rw [hb] at h; exact absurd rfl h
  · rfl
theorem nmV_2 {W : Nat → Int32} {v : Int32} {p k : Nat} (h : W (p + 2 + k) = v) : b01 (nmV W v p (k + 1)) = 1 := by
  unfold nmV
  rw [decide_eq_true h, Bool.or_true]
  rfl
theorem nmV_3 {W : Nat → Int32} {v : Int32} {p k : Nat} (h : b01 (nmV W v p k) = 0) (h2 : ¬ W (p + 2 + k) = v) : b01 (nmV W v p (k + 1)) = 0 := by
  unfold nmV
  cases hb : nmV W v p k
  · rw [decide_eq_false h2]; rfl
  · rw [hb] at h; exact absurd h (by decide)
theorem d_Mo_isNamed_0 : decode c_Mo_isNamed 0 = .ok (.iload_n 2, 1) := by decide +kernel
theorem d_Mo_isNamed_1 : decode c_Mo_isNamed 1 = .ok (.istore 5, 2) := by decide +kernel
theorem d_Mo_isNamed_3 : decode c_Mo_isNamed 3 = .ok (.iconst 0, 1) := by decide +kernel
theorem d_Mo_isNamed_4 : decode c_Mo_isNamed 4 = .ok (.istore 6, 2) := by decide +kernel
theorem d_Mo_isNamed_6 : decode c_Mo_isNamed 6 = .ok (.iload 5, 2) := by decide +kernel
theorem d_Mo_isNamed_8 : decode c_Mo_isNamed 8 = .ok (.iload_n 3, 1) := by decide +kernel
theorem d_Mo_isNamed_9 : decode c_Mo_isNamed 9 = .ok (.if_icmp .ge 152, 3) := by decide +kernel
theorem d_Mo_isNamed_12 : decode c_Mo_isNamed 12 = .ok (.iload 6, 2) := by decide +kernel
theorem d_Mo_isNamed_14 : decode c_Mo_isNamed 14 = .ok (.ifCond .ne 147, 3) := by decide +kernel
theorem d_Mo_isNamed_17 : decode c_Mo_isNamed 17 = .ok (.aload_n 0, 1) := by decide +kernel
theorem d_Mo_isNamed_18 : decode c_Mo_isNamed 18 = .ok (.getfield 13, 3) := by decide +kernel
theorem d_Mo_isNamed_21 : decode c_Mo_isNamed 21 = .ok (.sipush 200, 3) := by decide +kernel
theorem d_Mo_isNamed_24 : decode c_Mo_isNamed 24 = .ok (.iload_n 1, 1) := by decide +kernel
theorem d_Mo_isNamed_25 : decode c_Mo_isNamed 25 = .ok (.imul, 1) := by decide +kernel
theorem d_Mo_isNamed_26 : decode c_Mo_isNamed 26 = .ok (.iload 5, 2) := by decide +kernel
theorem d_Mo_isNamed_28 : decode c_Mo_isNamed 28 = .ok (.iadd, 1) := by decide +kernel
theorem d_Mo_isNamed_29 : decode c_Mo_isNamed 29 = .ok (.iaload, 1) := by decide +kernel
theorem d_Mo_isNamed_30 : decode c_Mo_isNamed 30 = .ok (.istore 7, 2) := by decide +kernel
theorem d_Mo_isNamed_32 : decode c_Mo_isNamed 32 = .ok (.iload 7, 2) := by decide +kernel
theorem d_Mo_isNamed_34 : decode c_Mo_isNamed 34 = .ok (.iconst 1, 1) := by decide +kernel
theorem d_Mo_isNamed_35 : decode c_Mo_isNamed 35 = .ok (.if_icmp .eq 9, 3) := by decide +kernel
theorem d_Mo_isNamed_38 : decode c_Mo_isNamed 38 = .ok (.iload 7, 2) := by decide +kernel
theorem d_Mo_isNamed_40 : decode c_Mo_isNamed 40 = .ok (.iconst 3, 1) := by decide +kernel
theorem d_Mo_isNamed_41 : decode c_Mo_isNamed 41 = .ok (.if_icmp .ne 30, 3) := by decide +kernel
theorem d_Mo_isNamed_44 : decode c_Mo_isNamed 44 = .ok (.aload_n 0, 1) := by decide +kernel
theorem d_Mo_isNamed_45 : decode c_Mo_isNamed 45 = .ok (.getfield 13, 3) := by decide +kernel
theorem d_Mo_isNamed_48 : decode c_Mo_isNamed 48 = .ok (.sipush 200, 3) := by decide +kernel
theorem d_Mo_isNamed_51 : decode c_Mo_isNamed 51 = .ok (.iload_n 1, 1) := by decide +kernel
theorem d_Mo_isNamed_52 : decode c_Mo_isNamed 52 = .ok (.imul, 1) := by decide +kernel
theorem d_Mo_isNamed_53 : decode c_Mo_isNamed 53 = .ok (.iload 5, 2) := by decide +kernel
theorem d_Mo_isNamed_55 : decode c_Mo_isNamed 55 = .ok (.iadd, 1) := by decide +kernel
theorem d_Mo_isNamed_56 : decode c_Mo_isNamed 56 = .ok (.iconst 1, 1) := by decide +kernel
theorem d_Mo_isNamed_57 : decode c_Mo_isNamed 57 = .ok (.iadd, 1) := by decide +kernel
theorem d_Mo_isNamed_58 : decode c_Mo_isNamed 58 = .ok (.iaload, 1) := by decide +kernel
theorem d_Mo_isNamed_59 : decode c_Mo_isNamed 59 = .ok (.iload 4, 2) := by decide +kernel
theorem d_Mo_isNamed_61 : decode c_Mo_isNamed 61 = .ok (.if_icmp .ne 7, 3) := by decide +kernel
theorem d_Mo_isNamed_64 : decode c_Mo_isNamed 64 = .ok (.iconst 1, 1) := by decide +kernel
theorem d_Mo_isNamed_65 : decode c_Mo_isNamed 65 = .ok (.goto 4, 3) := by decide +kernel
theorem d_Mo_isNamed_68 : decode c_Mo_isNamed 68 = .ok (.iconst 0, 1) := by decide +kernel
theorem d_Mo_isNamed_69 : decode c_Mo_isNamed 69 = .ok (.istore 6, 2) := by decide +kernel
theorem d_Mo_isNamed_71 : decode c_Mo_isNamed 71 = .ok (.iconst 0, 1) := by decide +kernel
theorem d_Mo_isNamed_72 : decode c_Mo_isNamed 72 = .ok (.istore 8, 2) := by decide +kernel
theorem d_Mo_isNamed_74 : decode c_Mo_isNamed 74 = .ok (.iload 7, 2) := by decide +kernel
theorem d_Mo_isNamed_76 : decode c_Mo_isNamed 76 = .ok (.iconst 5, 1) := by decide +kernel
theorem d_Mo_isNamed_77 : decode c_Mo_isNamed 77 = .ok (.if_icmp .ne 69, 3) := by decide +kernel
theorem d_Mo_isNamed_80 : decode c_Mo_isNamed 80 = .ok (.iload 8, 2) := by decide +kernel
theorem d_Mo_isNamed_82 : decode c_Mo_isNamed 82 = .ok (.aload_n 0, 1) := by decide +kernel
theorem d_Mo_isNamed_83 : decode c_Mo_isNamed 83 = .ok (.getfield 9, 3) := by decide +kernel
theorem d_Mo_isNamed_86 : decode c_Mo_isNamed 86 = .ok (.aload_n 0, 1) := by decide +kernel
theorem d_Mo_isNamed_87 : decode c_Mo_isNamed 87 = .ok (.getfield 13, 3) := by decide +kernel
theorem d_Mo_isNamed_90 : decode c_Mo_isNamed 90 = .ok (.sipush 200, 3) := by decide +kernel
theorem d_Mo_isNamed_93 : decode c_Mo_isNamed 93 = .ok (.iload_n 1, 1) := by decide +kernel
theorem d_Mo_isNamed_94 : decode c_Mo_isNamed 94 = .ok (.imul, 1) := by decide +kernel
theorem d_Mo_isNamed_95 : decode c_Mo_isNamed 95 = .ok (.iload 5, 2) := by decide +kernel
theorem d_Mo_isNamed_97 : decode c_Mo_isNamed 97 = .ok (.iadd, 1) := by decide +kernel
theorem d_Mo_isNamed_98 : decode c_Mo_isNamed 98 = .ok (.iconst 1, 1) := by decide +kernel
theorem d_Mo_isNamed_99 : decode c_Mo_isNamed 99 = .ok (.iadd, 1) := by decide +kernel
theorem d_Mo_isNamed_100 : decode c_Mo_isNamed 100 = .ok (.iaload, 1) := by decide +kernel
theorem d_Mo_isNamed_101 : decode c_Mo_isNamed 101 = .ok (.iaload, 1) := by decide +kernel
theorem d_Mo_isNamed_102 : decode c_Mo_isNamed 102 = .ok (.if_icmp .ge 44, 3) := by decide +kernel
theorem d_Mo_isNamed_105 : decode c_Mo_isNamed 105 = .ok (.iload 6, 2) := by decide +kernel
theorem d_Mo_isNamed_107 : decode c_Mo_isNamed 107 = .ok (.ifCond .ne 26, 3) := by decide +kernel
theorem d_Mo_isNamed_110 : decode c_Mo_isNamed 110 = .ok (.aload_n 0, 1) := by decide +kernel
theorem d_Mo_isNamed_111 : decode c_Mo_isNamed 111 = .ok (.getfield 13, 3) := by decide +kernel
theorem d_Mo_isNamed_114 : decode c_Mo_isNamed 114 = .ok (.sipush 200, 3) := by decide +kernel
theorem d_Mo_isNamed_117 : decode c_Mo_isNamed 117 = .ok (.iload_n 1, 1) := by decide +kernel
theorem d_Mo_isNamed_118 : decode c_Mo_isNamed 118 = .ok (.imul, 1) := by decide +kernel
theorem d_Mo_isNamed_119 : decode c_Mo_isNamed 119 = .ok (.iload 5, 2) := by decide +kernel
theorem d_Mo_isNamed_121 : decode c_Mo_isNamed 121 = .ok (.iadd, 1) := by decide +kernel
theorem d_Mo_isNamed_122 : decode c_Mo_isNamed 122 = .ok (.iconst 2, 1) := by decide +kernel
theorem d_Mo_isNamed_123 : decode c_Mo_isNamed 123 = .ok (.iadd, 1) := by decide +kernel
theorem d_Mo_isNamed_124 : decode c_Mo_isNamed 124 = .ok (.iload 8, 2) := by decide +kernel
theorem d_Mo_isNamed_126 : decode c_Mo_isNamed 126 = .ok (.iadd, 1) := by decide +kernel
theorem d_Mo_isNamed_127 : decode c_Mo_isNamed 127 = .ok (.iaload, 1) := by decide +kernel
theorem d_Mo_isNamed_128 : decode c_Mo_isNamed 128 = .ok (.iload 4, 2) := by decide +kernel
theorem d_Mo_isNamed_130 : decode c_Mo_isNamed 130 = .ok (.if_icmp .ne 7, 3) := by decide +kernel
theorem d_Mo_isNamed_133 : decode c_Mo_isNamed 133 = .ok (.iconst 1, 1) := by decide +kernel
theorem d_Mo_isNamed_134 : decode c_Mo_isNamed 134 = .ok (.goto 4, 3) := by decide +kernel
theorem d_Mo_isNamed_137 : decode c_Mo_isNamed 137 = .ok (.iconst 0, 1) := by decide +kernel
theorem d_Mo_isNamed_138 : decode c_Mo_isNamed 138 = .ok (.istore 6, 2) := by decide +kernel
theorem d_Mo_isNamed_140 : decode c_Mo_isNamed 140 = .ok (.iinc 8 1, 3) := by decide +kernel
theorem d_Mo_isNamed_143 : decode c_Mo_isNamed 143 = .ok (.goto (-69), 3) := by decide +kernel
theorem d_Mo_isNamed_146 : decode c_Mo_isNamed 146 = .ok (.iload 5, 2) := by decide +kernel
theorem d_Mo_isNamed_148 : decode c_Mo_isNamed 148 = .ok (.aload_n 0, 1) := by decide +kernel
theorem d_Mo_isNamed_149 : decode c_Mo_isNamed 149 = .ok (.iload_n 1, 1) := by decide +kernel
theorem d_Mo_isNamed_150 : decode c_Mo_isNamed 150 = .ok (.iload 5, 2) := by decide +kernel
theorem d_Mo_isNamed_152 : decode c_Mo_isNamed 152 = .ok (.invokevirtual 125, 3) := by decide +kernel
theorem d_Mo_isNamed_155 : decode c_Mo_isNamed 155 = .ok (.iadd, 1) := by decide +kernel
theorem d_Mo_isNamed_156 : decode c_Mo_isNamed 156 = .ok (.istore 5, 2) := by decide +kernel
theorem d_Mo_isNamed_158 : decode c_Mo_isNamed 158 = .ok (.goto (-152), 3) := by decide +kernel
theorem d_Mo_isNamed_161 : decode c_Mo_isNamed 161 = .ok (.iload 6, 2) := by decide +kernel
theorem d_Mo_isNamed_163 : decode c_Mo_isNamed 163 = .ok (.ireturn, 1) := by decide +kernel
set_option maxRecDepth 100000 in
set_option maxHeartbeats 16000000 in
/-- isNamed(f9, p0, q9, v9) -/
theorem g_Mo_isNamed (l : Launch) (G : va_G) (k : Nat → ClassId) (h0 : Nat) (s0 : Nat) (f9 : Nat) (p0 : Nat) (q9 : Nat) (v9 : Nat) (n0 : Nat) (nf : Nat) (ma : Nat → Nat) (iv : Nat → Int32) (co : Int64) (tk : Nat → Nat) (wd : Nat → Int32) (hf : f9 < 4) (hq : q9 ≤ 200) (hnf : nf ≤ 4) (hH : HDn (wdF wd f9) tk nf n0 p0 q9) (htk : ∀ g, g < 4 → tk g ≤ 3) : CI l y_Mo_isNamed c_Mo_isNamed 9 .boolean { frames := 1, cells := 0, slots := 0, locals := 23 } [.ref h0, .int (nI f9), .int (nI p0), .int (nI q9), .int (nI v9)] G k s0 [(h0, .inr (8, moL ma iv co)), ((ma 0), .inl (k 0, 4, .inl (fun i => nI (tk i)))), ((ma 1), .inl (k 0, 800, .inl wd))] (fun (r : Int32) (u : Unit) => r = nI (b01 (nmN (wdF wd f9) tk (nI v9) n0 p0)) ∧ True) (fun u => [(h0, .inr (8, moL ma iv co)), ((ma 0), .inl (k 0, 4, .inl (fun i => nI (tk i)))), ((ma 1), .inl (k 0, 800, .inl wd))]) 0 0 := by
  refine met_start (by decide) (Nat.le_of_ble_eq_true rfl) ?_
  intro p e s m below meth c C K hA hsz S ls hl
  generalize va_A [(h0, .inr (8, moL ma iv co)), ((ma 0), .inl (k 0, 4, .inl (fun i => nI (tk i)))), ((ma 1), .inl (k 0, 800, .inl wd))] s0 = A at hA S ⊢
  have hx := C.1
  have hb := C.2.1
  have hl : lv_has ls 9 [(0, .ref h0), (1, .int (nI f9)), (2, .int (nI p0)), (3, .int (nI q9)), (4, .int (nI v9))] := hl
  refine lv_iload_n hx hb d_Mo_isNamed_0 rfl (lv_at hl 2 rfl) ?_
  refine lv_istore (lv' := [(5, .int (nI p0)), (0, .ref h0), (1, .int (nI f9)), (2, .int (nI p0)), (3, .int (nI q9)), (4, .int (nI v9))]) hx hb d_Mo_isNamed_1 hl (by decide) rfl (fun ls hl => ?_)
  refine lv_iconst (v := 0) hx hb d_Mo_isNamed_3 (by decide) ?_
  refine lv_istore (lv' := [(6, .int 0), (5, .int (nI p0)), (0, .ref h0), (1, .int (nI f9)), (2, .int (nI p0)), (3, .int (nI q9)), (4, .int (nI v9))]) hx hb d_Mo_isNamed_4 hl (by decide) rfl (fun ls hl => ?_)
  have lp : ∀ d9, ∀ (n8 : Nat), ∀ (p8 : Nat), ∀ (rt : Nat), (q9 + 1 - p8) < d9 → (HDn (wdF wd f9) tk nf n8 p8 q9) → ((rt = 0 ∧ nmN (wdF wd f9) tk (nI v9) n8 p8 = nmN (wdF wd f9) tk (nI v9) n0 p0) ∨ (rt = 1 ∧ nmN (wdF wd f9) tk (nI v9) n0 p0 = true)) → ∀ (H : Heap) (locs : List Loc), Sw G A s.heap H locs [(h0, .inr (8, moL ma iv co)), ((ma 0), .inl (k 0, 4, .inl (fun i => nI (tk i)))), ((ma 1), .inl (k 0, 800, .inl wd))] → ∀ ls : Array Slot, lv_has ls 9 [(6, .int (nI rt)), (5, .int (nI p8)), (0, .ref h0), (1, .int (nI f9)), (2, .int (nI p0)), (3, .int (nI q9)), (4, .int (nI v9))] → W p l e { frames := 1, cells := 0, slots := 0, locals := 23 } s m [Value.ref h0, Value.int (nI f9), Value.int (nI p0), Value.int (nI q9), Value.int (nI v9)].toArray below meth c H locs 0 0 (MQ below (va_Qi (fun (r : Int32) (u : Unit) => r = nI (b01 (nmN (wdF wd f9) tk (nI v9) n0 p0)) ∧ True) (Po G k A (fun u => [(h0, .inr (8, moL ma iv co)), ((ma 0), .inl (k 0, 4, .inl (fun i => nI (tk i)))), ((ma 1), .inl (k 0, 800, .inl wd))])) A) [Value.ref h0, Value.int (nI f9), Value.int (nI p0), Value.int (nI q9), Value.int (nI v9)].toArray s 0 0 A) (F0 m 6 ls []) := by
    intro d9
    induction d9 with
    | zero => intro n8 p8 rt hm; exact absurd hm (Nat.not_lt_zero _)
    | succ d9 ih_lp =>
      intro n8 p8 rt hm hH8 hrt H locs S ls hl
      have hr1 : rt ≤ 1 := by rcases hrt with q | q; rw [q.1]; exact Nat.zero_le _; rw [q.1]; exact Nat.le_refl _
      have hpq := HDn_le hH8
      refine lv_iload hx hb d_Mo_isNamed_6 (lv_at hl 1 rfl) ?_
      refine lv_iload_n hx hb d_Mo_isNamed_8 rfl (lv_at hl 5 rfl) ?_
      refine z_icmp_ge (a := p8) (b := q9) (tgt := 161) hx hb d_Mo_isNamed_9 (by decide) (by omega) (by omega) (fun hc1 => ?_) (fun hc1 => ?_)
      · refine lv_iload hx hb d_Mo_isNamed_161 (lv_at hl 0 rfl) ?_
        obtain rfl : n8 = 0 := by omega
        exact r_iret C K (bo_nz (b := rt) (by omega)) () ⟨congrArg nI (by rcases hrt with q | q; rw [q.1, ← q.2]; rfl; rw [q.1, q.2]; rfl), trivial⟩ (S.sub [0, 1, 2] (by decide) rfl) d_Mo_isNamed_163 (Nat.le_of_ble_eq_true rfl) (Nat.le_of_ble_eq_true rfl)
      · refine lv_iload hx hb d_Mo_isNamed_12 (lv_at hl 0 rfl) ?_
        refine z_if_ne (a := rt) (tgt := 161) hx hb d_Mo_isNamed_14 (by decide) (by omega) (fun hc2 => ?_) (fun hc2 => ?_)
        · refine lv_iload hx hb d_Mo_isNamed_161 (lv_at hl 0 rfl) ?_
          exact r_iret C K (bo_nz (b := rt) (by omega)) () ⟨congrArg nI (by rcases hrt with q | q; exact absurd q.1 (by omega); rw [q.1, q.2]; rfl), trivial⟩ (S.sub [0, 1, 2] (by decide) rfl) d_Mo_isNamed_163 (Nat.le_of_ble_eq_true rfl) (Nat.le_of_ble_eq_true rfl)
        · obtain ⟨hr0, hrn⟩ := hrt.resolve_right (fun q => by have := q.1; omega)
          obtain ⟨n7, hn7⟩ : ∃ n7, n8 = n7 + 1 := by
            cases n8 with
            | zero => have : p8 = q9 := hH8; omega
            | succ n7 => exact ⟨n7, rfl⟩
          rw [hn7] at hH8 hrn
          have hrn : (nm1 (wdF wd f9) tk (nI v9) p8 || nmN (wdF wd f9) tk (nI v9) n7 (p8 + hdN (wdF wd f9) tk p8)) = nmN (wdF wd f9) tk (nI v9) n0 p0 := hrn
          have hpq2 := HDn_le hH8.2
          have hd1 := hdN_pos (W := (wdF wd f9)) (tk := tk) p8
          have fin9 : ∀ (bb : Bool), (nm1 (wdF wd f9) tk (nI v9) p8 = bb) → ∀ (H : Heap) (locs : List Loc), Sw G A s.heap H locs [(h0, .inr (8, moL ma iv co)), ((ma 0), .inl (k 0, 4, .inl (fun i => nI (tk i)))), ((ma 1), .inl (k 0, 800, .inl wd))] → ∀ ls : Array Slot, lv_has ls 9 [(6, .int (nI (b01 bb))), (5, .int (nI p8)), (0, .ref h0), (1, .int (nI f9)), (2, .int (nI p0)), (3, .int (nI q9)), (4, .int (nI v9))] → W p l e { frames := 1, cells := 0, slots := 0, locals := 23 } s m [Value.ref h0, Value.int (nI f9), Value.int (nI p0), Value.int (nI q9), Value.int (nI v9)].toArray below meth c H locs 0 0 (MQ below (va_Qi (fun (r : Int32) (u : Unit) => r = nI (b01 (nmN (wdF wd f9) tk (nI v9) n0 p0)) ∧ True) (Po G k A (fun u => [(h0, .inr (8, moL ma iv co)), ((ma 0), .inl (k 0, 4, .inl (fun i => nI (tk i)))), ((ma 1), .inl (k 0, 800, .inl wd))])) A) [Value.ref h0, Value.int (nI f9), Value.int (nI p0), Value.int (nI q9), Value.int (nI v9)].toArray s 0 0 A) (F0 m 146 ls []) := by
            intro bb hbb H locs S ls hl
            have hbl := b01_le bb
            rw [hbb] at hrn
            refine lv_iload hx hb d_Mo_isNamed_146 (lv_at hl 1 rfl) ?_
            refine lv_aload_n hx hb d_Mo_isNamed_148 rfl (lv_at hl 2 rfl) ?_
            refine lv_iload_n hx hb d_Mo_isNamed_149 rfl (lv_at hl 3 rfl) ?_
            refine lv_iload hx hb d_Mo_isNamed_150 (lv_at hl 1 rfl) ?_
            refine r_backi (wi := [(h0, .inr (8, moL ma iv co)), ((ma 0), .inl (k 0, 4, .inl (fun i => nI (tk i)))), ((ma 1), .inl (k 0, 800, .inl wd))]) (wr := []) S hA [0, 1, 2] [] rfl rfl (by decide) (by decide) (va_runV (As := [.int (nI f9), .int (nI p8)]) (rest := [.int (nI p8)]) ⟨hx, hb, C.2.2.1, C.2.2.2.1, C.2.2.2.2.1⟩ (g_Mo_headOf l G k h0 _ f9 p8 ma iv co tk wd hf (by omega) (hdO_5 hnf hH8 hq) htk) (k_virt (n := 2) C wc_Mo_headOf rfl rfl wz_Mo wm_Mo_125 wn_Mo_headOf ws_Mo_headOf (by decide +kernel) ⟨(Nat.le_of_ble_eq_true rfl), (Nat.le_of_ble_eq_true rfl)⟩) (pr_nowV K S [0, 1, 2] (by decide) rfl 0 rfl rfl) rfl rfl hl.1 rfl (lv_room (Nat.le_of_ble_eq_true rfl)) d_Mo_isNamed_152 ⟨(Nat.le_of_ble_eq_true rfl), (Nat.le_of_ble_eq_true rfl)⟩) (fun r5 u3 H locs hw4 S => ?_)
            have S : Sw G A s.heap _ _ [(h0, .inr (8, moL ma iv co)), ((ma 0), .inl (k 0, 4, .inl (fun i => nI (tk i)))), ((ma 1), .inl (k 0, 800, .inl wd))] := S
            obtain ⟨hw40, hp6⟩ := hw4
            obtain rfl : r5 = nI (hdN (wdF wd f9) tk p8) := hw40
            refine z_iadd (x := nI p8) (y := nI (hdN (wdF wd f9) tk p8)) (v := nI (p8 + hdN (wdF wd f9) tk p8)) hx hb d_Mo_isNamed_155 (nI_add p8 (hdN (wdF wd f9) tk p8)) ?_
            refine lv_istore (lv' := [(5, .int (nI (p8 + hdN (wdF wd f9) tk p8))), (6, .int (nI (b01 bb))), (0, .ref h0), (1, .int (nI f9)), (2, .int (nI p0)), (3, .int (nI q9)), (4, .int (nI v9))]) hx hb d_Mo_isNamed_156 hl (by decide) rfl (fun ls hl => ?_)
            refine lv_goto (tgt := 6) hx hb d_Mo_isNamed_158 (by decide) ?_
            exact ih_lp n7 (p8 + hdN (wdF wd f9) tk p8) (b01 bb) (by omega) hH8.2 (by cases bb; exact Or.inl ⟨rfl, hrn⟩; exact Or.inr ⟨rfl, hrn.symm⟩) _ _ (S.sub [0, 1, 2] (by decide) rfl) ls (lv_sub hl [1, 0, 2, 3, 4, 5, 6] rfl)
          refine lv_aload_n hx hb d_Mo_isNamed_17 rfl (lv_at hl 2 rfl) ?_
          refine r_get C K S 0 rfl rfl clOk_Mo 2 (by decide) wf_Mo_13 (v := .ref (ma 1)) rfl d_Mo_isNamed_18 ?_
          refine lv_sipush (v := 200) hx hb d_Mo_isNamed_21 (by decide) ?_
          refine lv_iload_n hx hb d_Mo_isNamed_24 rfl (lv_at hl 3 rfl) ?_
          refine z_imul (x := 200) (y := nI f9) (v := nI (200 * f9)) hx hb d_Mo_isNamed_25 (pk_mul 200 f9) ?_
          refine lv_iload hx hb d_Mo_isNamed_26 (lv_at hl 1 rfl) ?_
          refine z_iadd (x := nI (200 * f9)) (y := nI p8) (v := nI (200 * f9 + p8)) hx hb d_Mo_isNamed_28 (nI_add (200 * f9) p8) ?_
          refine r_iald C K S 2 rfl (i := nI (200 * f9 + p8)) (show vp_in (nI (200 * f9 + p8)) _ from vp_in_nI (n := (200 * f9 + p8)) (by omega) (by decide)) (v := wdF wd f9 p8) (by rw [nI_clamp (by omega)]; exact (show wd (200 * f9 + p8) = wd (200 * f9 + p8) from congrArg wd (by omega))) d_Mo_isNamed_29 ?_
          refine lv_istore (lv' := [(7, .int (wdF wd f9 p8)), (6, .int (nI rt)), (5, .int (nI p8)), (0, .ref h0), (1, .int (nI f9)), (2, .int (nI p0)), (3, .int (nI q9)), (4, .int (nI v9))]) hx hb d_Mo_isNamed_30 hl (by decide) rfl (fun ls hl => ?_)
          refine lv_iload hx hb d_Mo_isNamed_32 (lv_at hl 0 rfl) ?_
          refine lv_iconst (v := 1) hx hb d_Mo_isNamed_34 (by decide) ?_
          refine lv_icmp_eq (tgt := 44) hx hb d_Mo_isNamed_35 (by decide) (fun hc7 => ?_) (fun hc7 => ?_)
          · have hp2 := hdO_2 hH8 (Or.inl hc7)
            refine lv_aload_n hx hb d_Mo_isNamed_44 rfl (lv_at hl 3 rfl) ?_
            refine r_get C K S 0 rfl rfl clOk_Mo 2 (by decide) wf_Mo_13 (v := .ref (ma 1)) rfl d_Mo_isNamed_45 ?_
            refine lv_sipush (v := 200) hx hb d_Mo_isNamed_48 (by decide) ?_
            refine lv_iload_n hx hb d_Mo_isNamed_51 rfl (lv_at hl 4 rfl) ?_
            refine z_imul (x := 200) (y := nI f9) (v := nI (200 * f9)) hx hb d_Mo_isNamed_52 (pk_mul 200 f9) ?_
            refine lv_iload hx hb d_Mo_isNamed_53 (lv_at hl 2 rfl) ?_
            refine z_iadd (x := nI (200 * f9)) (y := nI p8) (v := nI (200 * f9 + p8)) hx hb d_Mo_isNamed_55 (nI_add (200 * f9) p8) ?_
            refine lv_iconst (v := 1) hx hb d_Mo_isNamed_56 (by decide) ?_
            refine z_iadd (x := nI (200 * f9 + p8)) (y := 1) (v := nI (200 * f9 + p8 + 1)) hx hb d_Mo_isNamed_57 (nI_add (200 * f9 + p8) 1) ?_
            refine r_iald C K S 2 rfl (i := nI (200 * f9 + p8 + 1)) (show vp_in (nI (200 * f9 + p8 + 1)) _ from vp_in_nI (n := (200 * f9 + p8 + 1)) (by omega) (by decide)) (v := wdF wd f9 (p8 + 1)) (by rw [nI_clamp (by omega)]; exact (show wd (200 * f9 + p8 + 1) = wd (200 * f9 + (p8 + 1)) from congrArg wd (by omega))) d_Mo_isNamed_58 ?_
            refine lv_iload hx hb d_Mo_isNamed_59 (lv_at hl 7 rfl) ?_
            refine lv_icmp_ne (tgt := 68) hx hb d_Mo_isNamed_61 (by decide) (fun hc8 => ?_) (fun hc8 => ?_)
            · refine lv_iconst (v := 0) hx hb d_Mo_isNamed_68 (by decide) ?_
              refine lv_istore (lv' := [(6, .int 0), (7, .int (wdF wd f9 p8)), (5, .int (nI p8)), (0, .ref h0), (1, .int (nI f9)), (2, .int (nI p0)), (3, .int (nI q9)), (4, .int (nI v9))]) hx hb d_Mo_isNamed_69 hl (by decide) rfl (fun ls hl => ?_)
              refine lv_iconst (v := 0) hx hb d_Mo_isNamed_71 (by decide) ?_
              refine lv_istore (lv' := [(8, .int 0), (6, .int 0), (7, .int (wdF wd f9 p8)), (5, .int (nI p8)), (0, .ref h0), (1, .int (nI f9)), (2, .int (nI p0)), (3, .int (nI q9)), (4, .int (nI v9))]) hx hb d_Mo_isNamed_72 hl (by decide) rfl (fun ls hl => ?_)
              refine lv_iload hx hb d_Mo_isNamed_74 (lv_at hl 2 rfl) ?_
              refine lv_iconst (v := 5) hx hb d_Mo_isNamed_76 (by decide) ?_
              refine lv_icmp_ne (tgt := 146) hx hb d_Mo_isNamed_77 (by decide) (fun hc9 => ?_) (fun hc9 => ?_)
              · have hl : lv_has ls 9 [(8, .int 0), (6, .int (nI (b01 false))), (7, .int (wdF wd f9 p8)), (5, .int (nI p8)), (0, .ref h0), (1, .int (nI f9)), (2, .int (nI p0)), (3, .int (nI q9)), (4, .int (nI v9))] := by exact hl
                exact fin9 false ((nm1_13 (Or.inl hc7)).trans (decide_eq_false hc8)) _ _ (S.sub [0, 1, 2] (by decide) rfl) ls (lv_sub hl [1, 3, 4, 5, 6, 7, 8] rfl)
              · exact absurd (hc7.symm.trans hc9) (by decide)
            · refine lv_iconst (v := 1) hx hb d_Mo_isNamed_64 (by decide) ?_
              refine lv_goto (tgt := 69) hx hb d_Mo_isNamed_65 (by decide) ?_
              refine lv_istore (lv' := [(6, .int 1), (7, .int (wdF wd f9 p8)), (5, .int (nI p8)), (0, .ref h0), (1, .int (nI f9)), (2, .int (nI p0)), (3, .int (nI q9)), (4, .int (nI v9))]) hx hb d_Mo_isNamed_69 hl (by decide) rfl (fun ls hl => ?_)
              refine lv_iconst (v := 0) hx hb d_Mo_isNamed_71 (by decide) ?_
              refine lv_istore (lv' := [(8, .int 0), (6, .int 1), (7, .int (wdF wd f9 p8)), (5, .int (nI p8)), (0, .ref h0), (1, .int (nI f9)), (2, .int (nI p0)), (3, .int (nI q9)), (4, .int (nI v9))]) hx hb d_Mo_isNamed_72 hl (by decide) rfl (fun ls hl => ?_)
              refine lv_iload hx hb d_Mo_isNamed_74 (lv_at hl 2 rfl) ?_
              refine lv_iconst (v := 5) hx hb d_Mo_isNamed_76 (by decide) ?_
              refine lv_icmp_ne (tgt := 146) hx hb d_Mo_isNamed_77 (by decide) (fun hc10 => ?_) (fun hc10 => ?_)
              · have hl : lv_has ls 9 [(8, .int 0), (6, .int (nI (b01 true))), (7, .int (wdF wd f9 p8)), (5, .int (nI p8)), (0, .ref h0), (1, .int (nI f9)), (2, .int (nI p0)), (3, .int (nI q9)), (4, .int (nI v9))] := by exact hl
                exact fin9 true ((nm1_13 (Or.inl hc7)).trans (decide_eq_true hc8)) _ _ (S.sub [0, 1, 2] (by decide) rfl) ls (lv_sub hl [1, 3, 4, 5, 6, 7, 8] rfl)
              · exact absurd (hc7.symm.trans hc10) (by decide)
          · refine lv_iload hx hb d_Mo_isNamed_38 (lv_at hl 0 rfl) ?_
            refine lv_iconst (v := 3) hx hb d_Mo_isNamed_40 (by decide) ?_
            refine lv_icmp_ne (tgt := 71) hx hb d_Mo_isNamed_41 (by decide) (fun hc11 => ?_) (fun hc11 => ?_)
            · refine lv_iconst (v := 0) hx hb d_Mo_isNamed_71 (by decide) ?_
              refine lv_istore (lv' := [(8, .int 0), (7, .int (wdF wd f9 p8)), (6, .int (nI rt)), (5, .int (nI p8)), (0, .ref h0), (1, .int (nI f9)), (2, .int (nI p0)), (3, .int (nI q9)), (4, .int (nI v9))]) hx hb d_Mo_isNamed_72 hl (by decide) rfl (fun ls hl => ?_)
              refine lv_iload hx hb d_Mo_isNamed_74 (lv_at hl 1 rfl) ?_
              refine lv_iconst (v := 5) hx hb d_Mo_isNamed_76 (by decide) ?_
              refine lv_icmp_ne (tgt := 146) hx hb d_Mo_isNamed_77 (by decide) (fun hc12 => ?_) (fun hc12 => ?_)
              · have hl : lv_has ls 9 [(8, .int 0), (7, .int (wdF wd f9 p8)), (6, .int (nI (b01 false))), (5, .int (nI p8)), (0, .ref h0), (1, .int (nI f9)), (2, .int (nI p0)), (3, .int (nI q9)), (4, .int (nI v9))] := by rw [hr0] at hl; exact hl
                exact fin9 false (nm1_0 hc7 hc11 hc12) _ _ (S.sub [0, 1, 2] (by decide) rfl) ls (lv_sub hl [2, 3, 4, 5, 6, 7, 8] rfl)
              · have h5 := hc12
                obtain ⟨g6, g9, g7, g8⟩ := hdO_5 hnf hH8 hq h5
                have g5 := htk g9 g8
                have g4 : hdN (wdF wd f9) tk p8 = 2 + tk g9 := hdN_5 h5 g7 g8
                have hl : lv_has ls 9 [(8, .int 0), (7, .int (wdF wd f9 p8)), (6, .int (nI (b01 (nmV (wdF wd f9) (nI v9) p8 0)))), (5, .int (nI p8)), (0, .ref h0), (1, .int (nI f9)), (2, .int (nI p0)), (3, .int (nI q9)), (4, .int (nI v9))] := by rw [hr0] at hl; exact hl
                have lk : ∀ d9, ∀ (k9 : Nat), (tk g9 - k9) < d9 → (k9 ≤ tk g9) → ∀ (H : Heap) (locs : List Loc), Sw G A s.heap H locs [(h0, .inr (8, moL ma iv co)), ((ma 0), .inl (k 0, 4, .inl (fun i => nI (tk i)))), ((ma 1), .inl (k 0, 800, .inl wd))] → ∀ ls : Array Slot, lv_has ls 9 [(8, .int (nI k9)), (7, .int (wdF wd f9 p8)), (6, .int (nI (b01 (nmV (wdF wd f9) (nI v9) p8 k9)))), (5, .int (nI p8)), (0, .ref h0), (1, .int (nI f9)), (2, .int (nI p0)), (3, .int (nI q9)), (4, .int (nI v9))] → W p l e { frames := 1, cells := 0, slots := 0, locals := 23 } s m [Value.ref h0, Value.int (nI f9), Value.int (nI p0), Value.int (nI q9), Value.int (nI v9)].toArray below meth c H locs 0 0 (MQ below (va_Qi (fun (r : Int32) (u : Unit) => r = nI (b01 (nmN (wdF wd f9) tk (nI v9) n0 p0)) ∧ True) (Po G k A (fun u => [(h0, .inr (8, moL ma iv co)), ((ma 0), .inl (k 0, 4, .inl (fun i => nI (tk i)))), ((ma 1), .inl (k 0, 800, .inl wd))])) A) [Value.ref h0, Value.int (nI f9), Value.int (nI p0), Value.int (nI q9), Value.int (nI v9)].toArray s 0 0 A) (F0 m 80 ls []) := by
                  intro d9
                  induction d9 with
                  | zero => intro k9 hm; exact absurd hm (Nat.not_lt_zero _)
                  | succ d9 ih_lk =>
                    intro k9 hm hk H locs S ls hl
                    have hv1 := b01_le (nmV (wdF wd f9) (nI v9) p8 k9)
                    refine lv_iload hx hb d_Mo_isNamed_80 (lv_at hl 0 rfl) ?_
                    refine lv_aload_n hx hb d_Mo_isNamed_82 rfl (lv_at hl 4 rfl) ?_
                    refine r_get C K S 0 rfl rfl clOk_Mo 1 (by decide) wf_Mo_9 (v := .ref (ma 0)) rfl d_Mo_isNamed_83 ?_
                    refine lv_aload_n hx hb d_Mo_isNamed_86 rfl (lv_at hl 4 rfl) ?_
                    refine r_get C K S 0 rfl rfl clOk_Mo 2 (by decide) wf_Mo_13 (v := .ref (ma 1)) rfl d_Mo_isNamed_87 ?_
                    refine lv_sipush (v := 200) hx hb d_Mo_isNamed_90 (by decide) ?_
                    refine lv_iload_n hx hb d_Mo_isNamed_93 rfl (lv_at hl 5 rfl) ?_
                    refine z_imul (x := 200) (y := nI f9) (v := nI (200 * f9)) hx hb d_Mo_isNamed_94 (pk_mul 200 f9) ?_
                    refine lv_iload hx hb d_Mo_isNamed_95 (lv_at hl 3 rfl) ?_
                    refine z_iadd (x := nI (200 * f9)) (y := nI p8) (v := nI (200 * f9 + p8)) hx hb d_Mo_isNamed_97 (nI_add (200 * f9) p8) ?_
                    refine lv_iconst (v := 1) hx hb d_Mo_isNamed_98 (by decide) ?_
                    refine z_iadd (x := nI (200 * f9 + p8)) (y := 1) (v := nI (200 * f9 + p8 + 1)) hx hb d_Mo_isNamed_99 (nI_add (200 * f9 + p8) 1) ?_
                    refine r_iald C K S 2 rfl (i := nI (200 * f9 + p8 + 1)) (show vp_in (nI (200 * f9 + p8 + 1)) _ from vp_in_nI (n := (200 * f9 + p8 + 1)) (by omega) (by decide)) (v := wdF wd f9 (p8 + 1)) (by rw [nI_clamp (by omega)]; exact (show wd (200 * f9 + p8 + 1) = wd (200 * f9 + (p8 + 1)) from congrArg wd (by omega))) d_Mo_isNamed_100 ?_
                    rw [g7]
                    refine r_iald C K S 1 rfl (i := nI g9) (show vp_in (nI g9) _ from vp_in_nI (n := g9) (by omega) (by decide)) (v := nI (tk g9)) (by rw [nI_clamp (by omega)]) d_Mo_isNamed_101 ?_
                    refine z_icmp_ge (a := k9) (b := (tk g9)) (tgt := 146) hx hb d_Mo_isNamed_102 (by decide) (by omega) (by omega) (fun hc13 => ?_) (fun hc13 => ?_)
                    · have hl : lv_has ls 9 [(8, .int (nI k9)), (7, .int (wdF wd f9 p8)), (6, .int (nI (b01 (nmV (wdF wd f9) (nI v9) p8 (tk g9))))), (5, .int (nI p8)), (0, .ref h0), (1, .int (nI f9)), (2, .int (nI p0)), (3, .int (nI q9)), (4, .int (nI v9))] := by rw [← (show k9 = tk g9 by omega)]; exact hl
                      exact fin9 (nmV (wdF wd f9) (nI v9) p8 (tk g9)) (nm1_5 h5 g7 g8) _ _ (S.sub [0, 1, 2] (by decide) rfl) ls (lv_sub hl [2, 3, 4, 5, 6, 7, 8] rfl)
                    · refine lv_iload hx hb d_Mo_isNamed_105 (lv_at hl 2 rfl) ?_
                      refine z_if_ne (a := (b01 (nmV (wdF wd f9) (nI v9) p8 k9))) (tgt := 133) hx hb d_Mo_isNamed_107 (by decide) (by omega) (fun hc14 => ?_) (fun hc14 => ?_)
                      · refine lv_iconst (v := 1) hx hb d_Mo_isNamed_133 (by decide) ?_
                        refine lv_goto (tgt := 138) hx hb d_Mo_isNamed_134 (by decide) ?_
                        refine lv_istore (lv' := [(6, .int 1), (8, .int (nI k9)), (7, .int (wdF wd f9 p8)), (5, .int (nI p8)), (0, .ref h0), (1, .int (nI f9)), (2, .int (nI p0)), (3, .int (nI q9)), (4, .int (nI v9))]) hx hb d_Mo_isNamed_138 hl (by decide) rfl (fun ls hl => ?_)
                        refine lv_iinc (v := nI (k9 + 1)) (lv' := [(8, .int (nI (k9 + 1))), (6, .int 1), (7, .int (wdF wd f9 p8)), (5, .int (nI p8)), (0, .ref h0), (1, .int (nI f9)), (2, .int (nI p0)), (3, .int (nI q9)), (4, .int (nI v9))]) hx hb d_Mo_isNamed_140 hl (k := 1) rfl (show nI k9 + Int32.ofInt 1 = nI (k9 + 1) from (nI_add k9 1).trans (congrArg nI (by omega))) (by decide) rfl (fun ls hl => ?_)
                        refine lv_goto (tgt := 74) hx hb d_Mo_isNamed_143 (by decide) ?_
                        refine lv_iload hx hb d_Mo_isNamed_74 (lv_at hl 2 rfl) ?_
                        refine lv_iconst (v := 5) hx hb d_Mo_isNamed_76 (by decide) ?_
                        refine lv_icmp_ne (tgt := 146) hx hb d_Mo_isNamed_77 (by decide) (fun hq => absurd h5 hq) (fun _ => ?_)
                        have hbq : b01 (nmV (wdF wd f9) (nI v9) p8 (k9 + 1)) = 1 := nmV_1 (by omega)
                        have hl : lv_has ls 9 [(8, .int (nI (k9 + 1))), (6, .int (nI (b01 (nmV (wdF wd f9) (nI v9) p8 (k9 + 1))))), (7, .int (wdF wd f9 p8)), (5, .int (nI p8)), (0, .ref h0), (1, .int (nI f9)), (2, .int (nI p0)), (3, .int (nI q9)), (4, .int (nI v9))] := by rw [hbq]; exact hl
                        exact ih_lk (k9 + 1) (by omega) (by omega) _ _ (S.sub [0, 1, 2] (by decide) rfl) ls (lv_sub hl [0, 2, 1, 3, 4, 5, 6, 7, 8] rfl)
                      · refine lv_aload_n hx hb d_Mo_isNamed_110 rfl (lv_at hl 4 rfl) ?_
                        refine r_get C K S 0 rfl rfl clOk_Mo 2 (by decide) wf_Mo_13 (v := .ref (ma 1)) rfl d_Mo_isNamed_111 ?_
                        refine lv_sipush (v := 200) hx hb d_Mo_isNamed_114 (by decide) ?_
                        refine lv_iload_n hx hb d_Mo_isNamed_117 rfl (lv_at hl 5 rfl) ?_
                        refine z_imul (x := 200) (y := nI f9) (v := nI (200 * f9)) hx hb d_Mo_isNamed_118 (pk_mul 200 f9) ?_
                        refine lv_iload hx hb d_Mo_isNamed_119 (lv_at hl 3 rfl) ?_
                        refine z_iadd (x := nI (200 * f9)) (y := nI p8) (v := nI (200 * f9 + p8)) hx hb d_Mo_isNamed_121 (nI_add (200 * f9) p8) ?_
                        refine lv_iconst (v := 2) hx hb d_Mo_isNamed_122 (by decide) ?_
                        refine z_iadd (x := nI (200 * f9 + p8)) (y := 2) (v := nI (200 * f9 + p8 + 2)) hx hb d_Mo_isNamed_123 (nI_add (200 * f9 + p8) 2) ?_
                        refine lv_iload hx hb d_Mo_isNamed_124 (lv_at hl 0 rfl) ?_
                        refine z_iadd (x := nI (200 * f9 + p8 + 2)) (y := nI k9) (v := nI (200 * f9 + p8 + 2 + k9)) hx hb d_Mo_isNamed_126 (nI_add (200 * f9 + p8 + 2) k9) ?_
                        refine r_iald C K S 2 rfl (i := nI (200 * f9 + p8 + 2 + k9)) (show vp_in (nI (200 * f9 + p8 + 2 + k9)) _ from vp_in_nI (n := (200 * f9 + p8 + 2 + k9)) (by omega) (by decide)) (v := wdF wd f9 (p8 + 2 + k9)) (by rw [nI_clamp (by omega)]; exact (show wd (200 * f9 + p8 + 2 + k9) = wd (200 * f9 + (p8 + 2 + k9)) from congrArg wd (by omega))) d_Mo_isNamed_127 ?_
                        refine lv_iload hx hb d_Mo_isNamed_128 (lv_at hl 8 rfl) ?_
                        refine lv_icmp_ne (tgt := 137) hx hb d_Mo_isNamed_130 (by decide) (fun hc15 => ?_) (fun hc15 => ?_)
                        · refine lv_iconst (v := 0) hx hb d_Mo_isNamed_137 (by decide) ?_
                          refine lv_istore (lv' := [(6, .int 0), (8, .int (nI k9)), (7, .int (wdF wd f9 p8)), (5, .int (nI p8)), (0, .ref h0), (1, .int (nI f9)), (2, .int (nI p0)), (3, .int (nI q9)), (4, .int (nI v9))]) hx hb d_Mo_isNamed_138 hl (by decide) rfl (fun ls hl => ?_)
                          refine lv_iinc (v := nI (k9 + 1)) (lv' := [(8, .int (nI (k9 + 1))), (6, .int 0), (7, .int (wdF wd f9 p8)), (5, .int (nI p8)), (0, .ref h0), (1, .int (nI f9)), (2, .int (nI p0)), (3, .int (nI q9)), (4, .int (nI v9))]) hx hb d_Mo_isNamed_140 hl (k := 1) rfl (show nI k9 + Int32.ofInt 1 = nI (k9 + 1) from (nI_add k9 1).trans (congrArg nI (by omega))) (by decide) rfl (fun ls hl => ?_)
                          refine lv_goto (tgt := 74) hx hb d_Mo_isNamed_143 (by decide) ?_
                          refine lv_iload hx hb d_Mo_isNamed_74 (lv_at hl 2 rfl) ?_
                          refine lv_iconst (v := 5) hx hb d_Mo_isNamed_76 (by decide) ?_
                          refine lv_icmp_ne (tgt := 146) hx hb d_Mo_isNamed_77 (by decide) (fun hq => absurd h5 hq) (fun _ => ?_)
                          have hbq : b01 (nmV (wdF wd f9) (nI v9) p8 (k9 + 1)) = 0 := nmV_3 hc14 hc15
                          have hl : lv_has ls 9 [(8, .int (nI (k9 + 1))), (6, .int (nI (b01 (nmV (wdF wd f9) (nI v9) p8 (k9 + 1))))), (7, .int (wdF wd f9 p8)), (5, .int (nI p8)), (0, .ref h0), (1, .int (nI f9)), (2, .int (nI p0)), (3, .int (nI q9)), (4, .int (nI v9))] := by rw [hbq]; exact hl
                          exact ih_lk (k9 + 1) (by omega) (by omega) _ _ (S.sub [0, 1, 2] (by decide) rfl) ls (lv_sub hl [0, 2, 1, 3, 4, 5, 6, 7, 8] rfl)
                        · refine lv_iconst (v := 1) hx hb d_Mo_isNamed_133 (by decide) ?_
                          refine lv_goto (tgt := 138) hx hb d_Mo_isNamed_134 (by decide) ?_
                          refine lv_istore (lv' := [(6, .int 1), (8, .int (nI k9)), (7, .int (wdF wd f9 p8)), (5, .int (nI p8)), (0, .ref h0), (1, .int (nI f9)), (2, .int (nI p0)), (3, .int (nI q9)), (4, .int (nI v9))]) hx hb d_Mo_isNamed_138 hl (by decide) rfl (fun ls hl => ?_)
                          refine lv_iinc (v := nI (k9 + 1)) (lv' := [(8, .int (nI (k9 + 1))), (6, .int 1), (7, .int (wdF wd f9 p8)), (5, .int (nI p8)), (0, .ref h0), (1, .int (nI f9)), (2, .int (nI p0)), (3, .int (nI q9)), (4, .int (nI v9))]) hx hb d_Mo_isNamed_140 hl (k := 1) rfl (show nI k9 + Int32.ofInt 1 = nI (k9 + 1) from (nI_add k9 1).trans (congrArg nI (by omega))) (by decide) rfl (fun ls hl => ?_)
                          refine lv_goto (tgt := 74) hx hb d_Mo_isNamed_143 (by decide) ?_
                          refine lv_iload hx hb d_Mo_isNamed_74 (lv_at hl 2 rfl) ?_
                          refine lv_iconst (v := 5) hx hb d_Mo_isNamed_76 (by decide) ?_
                          refine lv_icmp_ne (tgt := 146) hx hb d_Mo_isNamed_77 (by decide) (fun hq => absurd h5 hq) (fun _ => ?_)
                          have hbq : b01 (nmV (wdF wd f9) (nI v9) p8 (k9 + 1)) = 1 := nmV_2 hc15
                          have hl : lv_has ls 9 [(8, .int (nI (k9 + 1))), (6, .int (nI (b01 (nmV (wdF wd f9) (nI v9) p8 (k9 + 1))))), (7, .int (wdF wd f9 p8)), (5, .int (nI p8)), (0, .ref h0), (1, .int (nI f9)), (2, .int (nI p0)), (3, .int (nI q9)), (4, .int (nI v9))] := by rw [hbq]; exact hl
                          exact ih_lk (k9 + 1) (by omega) (by omega) _ _ (S.sub [0, 1, 2] (by decide) rfl) ls (lv_sub hl [0, 2, 1, 3, 4, 5, 6, 7, 8] rfl)
                exact lk _ 0 (Nat.lt_succ_self _) (by omega) _ _ (S.sub [0, 1, 2] (by decide) rfl) ls (lv_sub hl [0, 1, 2, 3, 4, 5, 6, 7, 8] rfl)
            · have hp2 := hdO_2 hH8 (Or.inr hc11)
              refine lv_aload_n hx hb d_Mo_isNamed_44 rfl (lv_at hl 3 rfl) ?_
              refine r_get C K S 0 rfl rfl clOk_Mo 2 (by decide) wf_Mo_13 (v := .ref (ma 1)) rfl d_Mo_isNamed_45 ?_
              refine lv_sipush (v := 200) hx hb d_Mo_isNamed_48 (by decide) ?_
              refine lv_iload_n hx hb d_Mo_isNamed_51 rfl (lv_at hl 4 rfl) ?_
              refine z_imul (x := 200) (y := nI f9) (v := nI (200 * f9)) hx hb d_Mo_isNamed_52 (pk_mul 200 f9) ?_
              refine lv_iload hx hb d_Mo_isNamed_53 (lv_at hl 2 rfl) ?_
              refine z_iadd (x := nI (200 * f9)) (y := nI p8) (v := nI (200 * f9 + p8)) hx hb d_Mo_isNamed_55 (nI_add (200 * f9) p8) ?_
              refine lv_iconst (v := 1) hx hb d_Mo_isNamed_56 (by decide) ?_
              refine z_iadd (x := nI (200 * f9 + p8)) (y := 1) (v := nI (200 * f9 + p8 + 1)) hx hb d_Mo_isNamed_57 (nI_add (200 * f9 + p8) 1) ?_
              refine r_iald C K S 2 rfl (i := nI (200 * f9 + p8 + 1)) (show vp_in (nI (200 * f9 + p8 + 1)) _ from vp_in_nI (n := (200 * f9 + p8 + 1)) (by omega) (by decide)) (v := wdF wd f9 (p8 + 1)) (by rw [nI_clamp (by omega)]; exact (show wd (200 * f9 + p8 + 1) = wd (200 * f9 + (p8 + 1)) from congrArg wd (by omega))) d_Mo_isNamed_58 ?_
              refine lv_iload hx hb d_Mo_isNamed_59 (lv_at hl 7 rfl) ?_
              refine lv_icmp_ne (tgt := 68) hx hb d_Mo_isNamed_61 (by decide) (fun hc16 => ?_) (fun hc16 => ?_)
              · refine lv_iconst (v := 0) hx hb d_Mo_isNamed_68 (by decide) ?_
                refine lv_istore (lv' := [(6, .int 0), (7, .int (wdF wd f9 p8)), (5, .int (nI p8)), (0, .ref h0), (1, .int (nI f9)), (2, .int (nI p0)), (3, .int (nI q9)), (4, .int (nI v9))]) hx hb d_Mo_isNamed_69 hl (by decide) rfl (fun ls hl => ?_)
                refine lv_iconst (v := 0) hx hb d_Mo_isNamed_71 (by decide) ?_
                refine lv_istore (lv' := [(8, .int 0), (6, .int 0), (7, .int (wdF wd f9 p8)), (5, .int (nI p8)), (0, .ref h0), (1, .int (nI f9)), (2, .int (nI p0)), (3, .int (nI q9)), (4, .int (nI v9))]) hx hb d_Mo_isNamed_72 hl (by decide) rfl (fun ls hl => ?_)
                refine lv_iload hx hb d_Mo_isNamed_74 (lv_at hl 2 rfl) ?_
                refine lv_iconst (v := 5) hx hb d_Mo_isNamed_76 (by decide) ?_
                refine lv_icmp_ne (tgt := 146) hx hb d_Mo_isNamed_77 (by decide) (fun hc17 => ?_) (fun hc17 => ?_)
                · have hl : lv_has ls 9 [(8, .int 0), (6, .int (nI (b01 false))), (7, .int (wdF wd f9 p8)), (5, .int (nI p8)), (0, .ref h0), (1, .int (nI f9)), (2, .int (nI p0)), (3, .int (nI q9)), (4, .int (nI v9))] := by exact hl
                  exact fin9 false ((nm1_13 (Or.inr hc11)).trans (decide_eq_false hc16)) _ _ (S.sub [0, 1, 2] (by decide) rfl) ls (lv_sub hl [1, 3, 4, 5, 6, 7, 8] rfl)
                · exact absurd (hc11.symm.trans hc17) (by decide)
              · refine lv_iconst (v := 1) hx hb d_Mo_isNamed_64 (by decide) ?_
                refine lv_goto (tgt := 69) hx hb d_Mo_isNamed_65 (by decide) ?_
                refine lv_istore (lv' := [(6, .int 1), (7, .int (wdF wd f9 p8)), (5, .int (nI p8)), (0, .ref h0), (1, .int (nI f9)), (2, .int (nI p0)), (3, .int (nI q9)), (4, .int (nI v9))]) hx hb d_Mo_isNamed_69 hl (by decide) rfl (fun ls hl => ?_)
                refine lv_iconst (v := 0) hx hb d_Mo_isNamed_71 (by decide) ?_
                refine lv_istore (lv' := [(8, .int 0), (6, .int 1), (7, .int (wdF wd f9 p8)), (5, .int (nI p8)), (0, .ref h0), (1, .int (nI f9)), (2, .int (nI p0)), (3, .int (nI q9)), (4, .int (nI v9))]) hx hb d_Mo_isNamed_72 hl (by decide) rfl (fun ls hl => ?_)
                refine lv_iload hx hb d_Mo_isNamed_74 (lv_at hl 2 rfl) ?_
                refine lv_iconst (v := 5) hx hb d_Mo_isNamed_76 (by decide) ?_
                refine lv_icmp_ne (tgt := 146) hx hb d_Mo_isNamed_77 (by decide) (fun hc18 => ?_) (fun hc18 => ?_)
                · have hl : lv_has ls 9 [(8, .int 0), (6, .int (nI (b01 true))), (7, .int (wdF wd f9 p8)), (5, .int (nI p8)), (0, .ref h0), (1, .int (nI f9)), (2, .int (nI p0)), (3, .int (nI q9)), (4, .int (nI v9))] := by exact hl
                  exact fin9 true ((nm1_13 (Or.inr hc11)).trans (decide_eq_true hc16)) _ _ (S.sub [0, 1, 2] (by decide) rfl) ls (lv_sub hl [1, 3, 4, 5, 6, 7, 8] rfl)
                · exact absurd (hc11.symm.trans hc18) (by decide)
  exact lp _ n0 p0 0 (Nat.lt_succ_self _) hH (Or.inl ⟨rfl, rfl⟩) _ _ (S.sub [0, 1, 2] (by decide) rfl) ls (lv_sub hl [0, 1, 2, 3, 4, 5, 6] rfl)
