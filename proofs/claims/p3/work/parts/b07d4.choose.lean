theorem d_So_compareIn_0 : decode c_So_compareIn 0 = .ok (.aload_n 0, 1) := by decide +kernel
theorem d_So_compareIn_1 : decode c_So_compareIn 1 = .ok (.iload_n 1, 1) := by decide +kernel
theorem d_So_compareIn_2 : decode c_So_compareIn 2 = .ok (.iload_n 2, 1) := by decide +kernel
theorem d_So_compareIn_3 : decode c_So_compareIn 3 = .ok (.invokevirtual 66, 3) := by decide +kernel
theorem d_So_compareIn_6 : decode c_So_compareIn 6 = .ok (.astore 5, 2) := by decide +kernel
theorem d_So_compareIn_8 : decode c_So_compareIn 8 = .ok (.aload_n 0, 1) := by decide +kernel
theorem d_So_compareIn_9 : decode c_So_compareIn 9 = .ok (.iload 4, 2) := by decide +kernel
theorem d_So_compareIn_11 : decode c_So_compareIn 11 = .ok (.iload_n 3, 1) := by decide +kernel
theorem d_So_compareIn_12 : decode c_So_compareIn 12 = .ok (.invokevirtual 66, 3) := by decide +kernel
theorem d_So_compareIn_15 : decode c_So_compareIn 15 = .ok (.astore 6, 2) := by decide +kernel
theorem d_So_compareIn_17 : decode c_So_compareIn 17 = .ok (.aload_n 0, 1) := by decide +kernel
theorem d_So_compareIn_18 : decode c_So_compareIn 18 = .ok (.iload_n 1, 1) := by decide +kernel
theorem d_So_compareIn_19 : decode c_So_compareIn 19 = .ok (.iload_n 3, 1) := by decide +kernel
theorem d_So_compareIn_20 : decode c_So_compareIn 20 = .ok (.invokevirtual 66, 3) := by decide +kernel
theorem d_So_compareIn_23 : decode c_So_compareIn 23 = .ok (.astore 7, 2) := by decide +kernel
theorem d_So_compareIn_25 : decode c_So_compareIn 25 = .ok (.aload_n 0, 1) := by decide +kernel
theorem d_So_compareIn_26 : decode c_So_compareIn 26 = .ok (.iload 4, 2) := by decide +kernel
theorem d_So_compareIn_28 : decode c_So_compareIn 28 = .ok (.iload_n 2, 1) := by decide +kernel
theorem d_So_compareIn_29 : decode c_So_compareIn 29 = .ok (.invokevirtual 66, 3) := by decide +kernel
theorem d_So_compareIn_32 : decode c_So_compareIn 32 = .ok (.astore 8, 2) := by decide +kernel
theorem d_So_compareIn_34 : decode c_So_compareIn 34 = .ok (.aload 5, 2) := by decide +kernel
theorem d_So_compareIn_36 : decode c_So_compareIn 36 = .ok (.invokevirtual 116, 3) := by decide +kernel
theorem d_So_compareIn_39 : decode c_So_compareIn 39 = .ok (.ifCond .eq 53, 3) := by decide +kernel
theorem d_So_compareIn_42 : decode c_So_compareIn 42 = .ok (.aload 6, 2) := by decide +kernel
theorem d_So_compareIn_44 : decode c_So_compareIn 44 = .ok (.invokevirtual 116, 3) := by decide +kernel
theorem d_So_compareIn_47 : decode c_So_compareIn 47 = .ok (.ifCond .eq 45, 3) := by decide +kernel
theorem d_So_compareIn_50 : decode c_So_compareIn 50 = .ok (.aload 7, 2) := by decide +kernel
theorem d_So_compareIn_52 : decode c_So_compareIn 52 = .ok (.invokevirtual 116, 3) := by decide +kernel
theorem d_So_compareIn_55 : decode c_So_compareIn 55 = .ok (.ifCond .eq 37, 3) := by decide +kernel
theorem d_So_compareIn_58 : decode c_So_compareIn 58 = .ok (.aload 8, 2) := by decide +kernel
theorem d_So_compareIn_60 : decode c_So_compareIn 60 = .ok (.invokevirtual 116, 3) := by decide +kernel
theorem d_So_compareIn_63 : decode c_So_compareIn 63 = .ok (.ifCond .eq 29, 3) := by decide +kernel
theorem d_So_compareIn_66 : decode c_So_compareIn 66 = .ok (.aload 5, 2) := by decide +kernel
theorem d_So_compareIn_68 : decode c_So_compareIn 68 = .ok (.invokevirtual 120, 3) := by decide +kernel
theorem d_So_compareIn_71 : decode c_So_compareIn 71 = .ok (.aload 6, 2) := by decide +kernel
theorem d_So_compareIn_73 : decode c_So_compareIn 73 = .ok (.invokevirtual 120, 3) := by decide +kernel
theorem d_So_compareIn_76 : decode c_So_compareIn 76 = .ok (.lmul, 1) := by decide +kernel
theorem d_So_compareIn_77 : decode c_So_compareIn 77 = .ok (.aload 7, 2) := by decide +kernel
theorem d_So_compareIn_79 : decode c_So_compareIn 79 = .ok (.invokevirtual 120, 3) := by decide +kernel
theorem d_So_compareIn_82 : decode c_So_compareIn 82 = .ok (.aload 8, 2) := by decide +kernel
theorem d_So_compareIn_84 : decode c_So_compareIn 84 = .ok (.invokevirtual 120, 3) := by decide +kernel
theorem d_So_compareIn_87 : decode c_So_compareIn 87 = .ok (.lmul, 1) := by decide +kernel
theorem d_So_compareIn_88 : decode c_So_compareIn 88 = .ok (.invokestatic 124, 3) := by decide +kernel
theorem d_So_compareIn_91 : decode c_So_compareIn 91 = .ok (.ireturn, 1) := by decide +kernel
theorem d_So_compareIn_92 : decode c_So_compareIn 92 = .ok (.aload_n 0, 1) := by decide +kernel
theorem d_So_compareIn_93 : decode c_So_compareIn 93 = .ok (.getfield 38, 3) := by decide +kernel
theorem d_So_compareIn_96 : decode c_So_compareIn 96 = .ok (.aload 5, 2) := by decide +kernel
theorem d_So_compareIn_98 : decode c_So_compareIn 98 = .ok (.aload 6, 2) := by decide +kernel
theorem d_So_compareIn_100 : decode c_So_compareIn 100 = .ok (.invokevirtual 129, 3) := by decide +kernel
theorem d_So_compareIn_103 : decode c_So_compareIn 103 = .ok (.aload_n 0, 1) := by decide +kernel
theorem d_So_compareIn_104 : decode c_So_compareIn 104 = .ok (.getfield 41, 3) := by decide +kernel
theorem d_So_compareIn_107 : decode c_So_compareIn 107 = .ok (.aload 7, 2) := by decide +kernel
theorem d_So_compareIn_109 : decode c_So_compareIn 109 = .ok (.aload 8, 2) := by decide +kernel
theorem d_So_compareIn_111 : decode c_So_compareIn 111 = .ok (.invokevirtual 129, 3) := by decide +kernel
theorem d_So_compareIn_114 : decode c_So_compareIn 114 = .ok (.aload_n 0, 1) := by decide +kernel
theorem d_So_compareIn_115 : decode c_So_compareIn 115 = .ok (.getfield 38, 3) := by decide +kernel
theorem d_So_compareIn_118 : decode c_So_compareIn 118 = .ok (.aload_n 0, 1) := by decide +kernel
theorem d_So_compareIn_119 : decode c_So_compareIn 119 = .ok (.getfield 41, 3) := by decide +kernel
theorem d_So_compareIn_122 : decode c_So_compareIn 122 = .ok (.invokevirtual 104, 3) := by decide +kernel
theorem d_So_compareIn_125 : decode c_So_compareIn 125 = .ok (.ireturn, 1) := by decide +kernel
set_option maxRecDepth 100000 in
set_option maxHeartbeats 16000000 in
/-- compareIn -/
theorem g_So_compareIn (l : Launch) (G : va_G) (k : Nat → ClassId) (h0 : Nat) (s0 sl : Nat) (qi : Nat) (qj : Nat) (qk : Nat) (qr : Nat) (cea : Nat) (roa : Nat) (coa : Nat) (ura : Nat) (uca : Nat) (au : Nat) (ap : Nat) (al : Nat) (ar : Nat) (ae : Nat) (rw9 : Nat) (C9 : Nat) (fs9 : Nat) (tk9 : Nat) (N9 : Nat) (st : Nat → Option wQ) (Z : Nat → Int) (hN : N9 = 3745) (hh : hO st Z) (hU : atO st 3731 au) (hP : atO st 3732 ap) (hL : atO st 3733 al) (hR : atO st 3734 ar) (hE : atO st 3735 ae) (hC : C9 ≤ 40) (hRw : rw9 ≤ 91) (hqi : qi < rw9) (hqr : qr < rw9) (hqj : qj < C9) (hqk : qk < C9) (hjk : qj ≠ qk) : CG l y_So_compareIn c_So_compareIn 9 (some .int) { frames := 4, cells := pt st N9 + 400, slots := 2 * pt st N9 + 800, locals := 131 } [.ref h0, .int (nI qi), .int (nI qj), .int (nI qk), .int (nI qr)] G k s0 sl ([(h0, .inr (1, [.ref cea, .ref roa, .ref coa, .ref ura, .ref uca, .ref au, .ref ap, .ref al, .ref ar, .ref ae, .int (nI rw9), .int (nI C9), .int (nI fs9), .int (nI tk9)])), (cea, .inl (k 4, 3731, .inr (.inr (.inr (.inr (fun j => adO (st j)))))))] ++ (tpl k st N9)) (fun (u : (Nat → Option wQ) × Int32) => some (.int u.2)) (fun (u : (Nat → Option wQ) × Int32) => hO u.1 Z ∧ keO st u.1 ∧ pt u.1 N9 ≤ pt st N9) (fun (u : (Nat → Option wQ) × Int32) => ([(h0, .inr (1, [.ref cea, .ref roa, .ref coa, .ref ura, .ref uca, .ref au, .ref ap, .ref al, .ref ar, .ref ae, .int (nI rw9), .int (nI C9), .int (nI fs9), .int (nI tk9)])), (cea, .inl (k 4, 3731, .inr (.inr (.inr (.inr (fun j => adO (u.1 j)))))))] ++ (tpl k u.1 N9))) (fun (u : (Nat → Option wQ) × Int32) => pt st N9 - pt u.1 N9) (fun (u : (Nat → Option wQ) × Int32) => 2 * (pt st N9 - pt u.1 N9)) (pt st N9 + 400) (2 * pt st N9 + 800) := by
  refine met_startG (by decide) (Nat.le_of_ble_eq_true rfl) ?_
  intro p e s m below meth c C K hA hsz S ls hl
  generalize va_A ([(h0, .inr (1, [.ref cea, .ref roa, .ref coa, .ref ura, .ref uca, .ref au, .ref ap, .ref al, .ref ar, .ref ae, .int (nI rw9), .int (nI C9), .int (nI fs9), .int (nI tk9)])), (cea, .inl (k 4, 3731, .inr (.inr (.inr (.inr (fun j => adO (st j)))))))] ++ (tpl k st N9)) s0 = A at hA S ⊢
  have hx := C.1
  have hb := C.2.1
  have hl : lv_has ls 9 [(0, .ref h0), (1, .int (nI qi)), (2, .int (nI qj)), (3, .int (nI qk)), (4, .int (nI qr))] := hl
  refine lv_aload_n hx hb d_So_compareIn_0 rfl (lv_at hl 0 rfl) ?_
  refine lv_iload_n hx hb d_So_compareIn_1 rfl (lv_at hl 1 rfl) ?_
  refine lv_iload_n hx hb d_So_compareIn_2 rfl (lv_at hl 2 rfl) ?_
  refine q_backP (wi := [(h0, .inr (1, [.ref cea, .ref roa, .ref coa, .ref ura, .ref uca, .ref au, .ref ap, .ref al, .ref ar, .ref ae, .int (nI rw9), .int (nI C9), .int (nI fs9), .int (nI tk9)])), (cea, .inl (k 4, 3731, .inr (.inr (.inr (.inr (fun j => adO (st j)))))))]) (wr := []) S hA [0, 1] [] rfl rfl (by decide) (by decide) (va_runV (As := [.int (nI qi), .int (nI qj)]) (rest := []) ⟨hx, hb, C.2.2.1, C.2.2.2.1, C.2.2.2.2.1⟩ (g_So_cell l G k h0 _ _ qi qj cea roa coa ura uca au ap al ar ae rw9 C9 fs9 tk9 N9 st Z hN ⟨hh.1, hh.2⟩ (by omega) (by omega) (by omega)) (k_virt (n := 2) C wc_So_cell rfl rfl wz_So wm_So_66 wn_So_cell ws_So_cell (by decide +kernel) ⟨(Nat.le_of_ble_eq_true rfl), (Nat.le_of_ble_eq_true rfl)⟩) (pr_nowVGP K S [0, 1] (by decide) rfl (List.mem_append_left _ (List.mem_of_getElem? (i := 0) rfl)) rfl) rfl rfl hl.1 rfl (lv_room (Nat.le_of_ble_eq_true rfl)) d_So_compareIn_3 ⟨(show 0 + (pt st N9 + 10) ≤ pt st N9 + 400 from by omega), (show 0 + (2 * pt st N9 + 20) ≤ 2 * pt st N9 + 800 from by omega)⟩) (fun c1 H locs hw2 S => ?_)
  have S : Sw G A s.heap _ _ ([(h0, .inr (1, [.ref cea, .ref roa, .ref coa, .ref ura, .ref uca, .ref au, .ref ap, .ref al, .ref ar, .ref ae, .int (nI rw9), .int (nI C9), .int (nI fs9), .int (nI tk9)])), (cea, .inl (k 4, 3731, .inr (.inr (.inr (.inr (fun j => adO (c1.1 j)))))))] ++ (tpl k c1.1 N9)) := S
  have hw2 : hO c1.1 Z ∧ atO c1.1 (qi * (C9 + 1) + qj) c1.2 ∧ keO st c1.1 ∧ pt c1.1 N9 ≤ pt st N9 := hw2
  show W p l e _ s m _ below meth c H locs _ _ _ (F0 m 6 ls [.ref c1.2])
  obtain ⟨hh3, at4, ke5, pt6⟩ := hw2
  have lt7 := ix_lt (C := C9) (R := 91) (i := qi) (j := qj) (by omega) (by omega) (Nat.le_refl _) (by omega)
  refine lv_astore (lv' := [(5, .ref c1.2), (0, .ref h0), (1, .int (nI qi)), (2, .int (nI qj)), (3, .int (nI qk)), (4, .int (nI qr))]) hx hb d_So_compareIn_6 hl (by decide) rfl (fun ls hl => ?_)
  refine lv_aload_n hx hb d_So_compareIn_8 rfl (lv_at hl 1 rfl) ?_
  refine lv_iload hx hb d_So_compareIn_9 (lv_at hl 5 rfl) ?_
  refine lv_iload_n hx hb d_So_compareIn_11 rfl (lv_at hl 4 rfl) ?_
  refine q_backP (wi := [(h0, .inr (1, [.ref cea, .ref roa, .ref coa, .ref ura, .ref uca, .ref au, .ref ap, .ref al, .ref ar, .ref ae, .int (nI rw9), .int (nI C9), .int (nI fs9), .int (nI tk9)])), (cea, .inl (k 4, 3731, .inr (.inr (.inr (.inr (fun j => adO (c1.1 j)))))))]) (wr := []) S hA [0, 1] [] rfl rfl (by decide) (by decide) (va_runV (As := [.int (nI qr), .int (nI qk)]) (rest := []) ⟨hx, hb, C.2.2.1, C.2.2.2.1, C.2.2.2.2.1⟩ (g_So_cell l G k h0 _ _ qr qk cea roa coa ura uca au ap al ar ae rw9 C9 fs9 tk9 N9 c1.1 Z hN ⟨hh3.1, hh3.2⟩ (by omega) (by omega) (by omega)) (k_virt (n := 2) C wc_So_cell rfl rfl wz_So wm_So_66 wn_So_cell ws_So_cell (by decide +kernel) ⟨(Nat.le_of_ble_eq_true rfl), (Nat.le_of_ble_eq_true rfl)⟩) (pr_nowVGP K S [0, 1] (by decide) rfl (List.mem_append_left _ (List.mem_of_getElem? (i := 0) rfl)) rfl) rfl rfl hl.1 rfl (lv_room (Nat.le_of_ble_eq_true rfl)) d_So_compareIn_12 ⟨(show 0 + (pt st N9 - pt c1.1 N9) + (pt c1.1 N9 + 10) ≤ pt st N9 + 400 from by omega), (show 0 + (2 * (pt st N9 - pt c1.1 N9)) + (2 * pt c1.1 N9 + 20) ≤ 2 * pt st N9 + 800 from by omega)⟩) (fun c8 H locs hw9 S => ?_)
  have S : Sw G A s.heap _ _ ([(h0, .inr (1, [.ref cea, .ref roa, .ref coa, .ref ura, .ref uca, .ref au, .ref ap, .ref al, .ref ar, .ref ae, .int (nI rw9), .int (nI C9), .int (nI fs9), .int (nI tk9)])), (cea, .inl (k 4, 3731, .inr (.inr (.inr (.inr (fun j => adO (c8.1 j)))))))] ++ (tpl k c8.1 N9)) := S
  have hw9 : hO c8.1 Z ∧ atO c8.1 (qr * (C9 + 1) + qk) c8.2 ∧ keO c1.1 c8.1 ∧ pt c8.1 N9 ≤ pt c1.1 N9 := hw9
  show W p l e _ s m _ below meth c H locs _ _ _ (F0 m 15 ls [.ref c8.2])
  obtain ⟨hh10, at11, ke12, pt13⟩ := hw9
  have lt14 := ix_lt (C := C9) (R := 91) (i := qr) (j := qk) (by omega) (by omega) (Nat.le_refl _) (by omega)
  refine lv_astore (lv' := [(6, .ref c8.2), (5, .ref c1.2), (0, .ref h0), (1, .int (nI qi)), (2, .int (nI qj)), (3, .int (nI qk)), (4, .int (nI qr))]) hx hb d_So_compareIn_15 hl (by decide) rfl (fun ls hl => ?_)
  refine lv_aload_n hx hb d_So_compareIn_17 rfl (lv_at hl 2 rfl) ?_
  refine lv_iload_n hx hb d_So_compareIn_18 rfl (lv_at hl 3 rfl) ?_
  refine lv_iload_n hx hb d_So_compareIn_19 rfl (lv_at hl 5 rfl) ?_
  refine q_backP (wi := [(h0, .inr (1, [.ref cea, .ref roa, .ref coa, .ref ura, .ref uca, .ref au, .ref ap, .ref al, .ref ar, .ref ae, .int (nI rw9), .int (nI C9), .int (nI fs9), .int (nI tk9)])), (cea, .inl (k 4, 3731, .inr (.inr (.inr (.inr (fun j => adO (c8.1 j)))))))]) (wr := []) S hA [0, 1] [] rfl rfl (by decide) (by decide) (va_runV (As := [.int (nI qi), .int (nI qk)]) (rest := []) ⟨hx, hb, C.2.2.1, C.2.2.2.1, C.2.2.2.2.1⟩ (g_So_cell l G k h0 _ _ qi qk cea roa coa ura uca au ap al ar ae rw9 C9 fs9 tk9 N9 c8.1 Z hN ⟨hh10.1, hh10.2⟩ (by omega) (by omega) (by omega)) (k_virt (n := 2) C wc_So_cell rfl rfl wz_So wm_So_66 wn_So_cell ws_So_cell (by decide +kernel) ⟨(Nat.le_of_ble_eq_true rfl), (Nat.le_of_ble_eq_true rfl)⟩) (pr_nowVGP K S [0, 1] (by decide) rfl (List.mem_append_left _ (List.mem_of_getElem? (i := 0) rfl)) rfl) rfl rfl hl.1 rfl (lv_room (Nat.le_of_ble_eq_true rfl)) d_So_compareIn_20 ⟨(show 0 + (pt st N9 - pt c1.1 N9) + (pt c1.1 N9 - pt c8.1 N9) + (pt c8.1 N9 + 10) ≤ pt st N9 + 400 from by omega), (show 0 + (2 * (pt st N9 - pt c1.1 N9)) + (2 * (pt c1.1 N9 - pt c8.1 N9)) + (2 * pt c8.1 N9 + 20) ≤ 2 * pt st N9 + 800 from by omega)⟩) (fun c15 H locs hw16 S => ?_)
  have S : Sw G A s.heap _ _ ([(h0, .inr (1, [.ref cea, .ref roa, .ref coa, .ref ura, .ref uca, .ref au, .ref ap, .ref al, .ref ar, .ref ae, .int (nI rw9), .int (nI C9), .int (nI fs9), .int (nI tk9)])), (cea, .inl (k 4, 3731, .inr (.inr (.inr (.inr (fun j => adO (c15.1 j)))))))] ++ (tpl k c15.1 N9)) := S
  have hw16 : hO c15.1 Z ∧ atO c15.1 (qi * (C9 + 1) + qk) c15.2 ∧ keO c8.1 c15.1 ∧ pt c15.1 N9 ≤ pt c8.1 N9 := hw16
  show W p l e _ s m _ below meth c H locs _ _ _ (F0 m 23 ls [.ref c15.2])
  obtain ⟨hh17, at18, ke19, pt20⟩ := hw16
  have lt21 := ix_lt (C := C9) (R := 91) (i := qi) (j := qk) (by omega) (by omega) (Nat.le_refl _) (by omega)
  refine lv_astore (lv' := [(7, .ref c15.2), (6, .ref c8.2), (5, .ref c1.2), (0, .ref h0), (1, .int (nI qi)), (2, .int (nI qj)), (3, .int (nI qk)), (4, .int (nI qr))]) hx hb d_So_compareIn_23 hl (by decide) rfl (fun ls hl => ?_)
  refine lv_aload_n hx hb d_So_compareIn_25 rfl (lv_at hl 3 rfl) ?_
  refine lv_iload hx hb d_So_compareIn_26 (lv_at hl 7 rfl) ?_
  refine lv_iload_n hx hb d_So_compareIn_28 rfl (lv_at hl 5 rfl) ?_
  refine q_backP (wi := [(h0, .inr (1, [.ref cea, .ref roa, .ref coa, .ref ura, .ref uca, .ref au, .ref ap, .ref al, .ref ar, .ref ae, .int (nI rw9), .int (nI C9), .int (nI fs9), .int (nI tk9)])), (cea, .inl (k 4, 3731, .inr (.inr (.inr (.inr (fun j => adO (c15.1 j)))))))]) (wr := []) S hA [0, 1] [] rfl rfl (by decide) (by decide) (va_runV (As := [.int (nI qr), .int (nI qj)]) (rest := []) ⟨hx, hb, C.2.2.1, C.2.2.2.1, C.2.2.2.2.1⟩ (g_So_cell l G k h0 _ _ qr qj cea roa coa ura uca au ap al ar ae rw9 C9 fs9 tk9 N9 c15.1 Z hN ⟨hh17.1, hh17.2⟩ (by omega) (by omega) (by omega)) (k_virt (n := 2) C wc_So_cell rfl rfl wz_So wm_So_66 wn_So_cell ws_So_cell (by decide +kernel) ⟨(Nat.le_of_ble_eq_true rfl), (Nat.le_of_ble_eq_true rfl)⟩) (pr_nowVGP K S [0, 1] (by decide) rfl (List.mem_append_left _ (List.mem_of_getElem? (i := 0) rfl)) rfl) rfl rfl hl.1 rfl (lv_room (Nat.le_of_ble_eq_true rfl)) d_So_compareIn_29 ⟨(show 0 + (pt st N9 - pt c1.1 N9) + (pt c1.1 N9 - pt c8.1 N9) + (pt c8.1 N9 - pt c15.1 N9) + (pt c15.1 N9 + 10) ≤ pt st N9 + 400 from by omega), (show 0 + (2 * (pt st N9 - pt c1.1 N9)) + (2 * (pt c1.1 N9 - pt c8.1 N9)) + (2 * (pt c8.1 N9 - pt c15.1 N9)) + (2 * pt c15.1 N9 + 20) ≤ 2 * pt st N9 + 800 from by omega)⟩) (fun c22 H locs hw23 S => ?_)
  have S : Sw G A s.heap _ _ ([(h0, .inr (1, [.ref cea, .ref roa, .ref coa, .ref ura, .ref uca, .ref au, .ref ap, .ref al, .ref ar, .ref ae, .int (nI rw9), .int (nI C9), .int (nI fs9), .int (nI tk9)])), (cea, .inl (k 4, 3731, .inr (.inr (.inr (.inr (fun j => adO (c22.1 j)))))))] ++ (tpl k c22.1 N9)) := S
  have hw23 : hO c22.1 Z ∧ atO c22.1 (qr * (C9 + 1) + qj) c22.2 ∧ keO c15.1 c22.1 ∧ pt c22.1 N9 ≤ pt c15.1 N9 := hw23
  show W p l e _ s m _ below meth c H locs _ _ _ (F0 m 32 ls [.ref c22.2])
  obtain ⟨hh24, at25, ke26, pt27⟩ := hw23
  have lt28 := ix_lt (C := C9) (R := 91) (i := qr) (j := qj) (by omega) (by omega) (Nat.le_refl _) (by omega)
  refine lv_astore (lv' := [(8, .ref c22.2), (7, .ref c15.2), (6, .ref c8.2), (5, .ref c1.2), (0, .ref h0), (1, .int (nI qi)), (2, .int (nI qj)), (3, .int (nI qk)), (4, .int (nI qr))]) hx hb d_So_compareIn_32 hl (by decide) rfl (fun ls hl => ?_)
  have k92 : ∀ (H : Heap) (locs : List Loc), Sw G A s.heap H locs ([(h0, .inr (1, [.ref cea, .ref roa, .ref coa, .ref ura, .ref uca, .ref au, .ref ap, .ref al, .ref ar, .ref ae, .int (nI rw9), .int (nI C9), .int (nI fs9), .int (nI tk9)])), (cea, .inl (k 4, 3731, .inr (.inr (.inr (.inr (fun j => adO (c22.1 j)))))))] ++ (tpl k c22.1 N9)) → ∀ ls : Array Slot, lv_has ls 9 [(8, .ref c22.2), (7, .ref c15.2), (6, .ref c8.2), (5, .ref c1.2), (0, .ref h0), (1, .int (nI qi)), (2, .int (nI qj)), (3, .int (nI qk)), (4, .int (nI qr))] → W p l e { frames := 4, cells := pt st N9 + 400, slots := 2 * pt st N9 + 800, locals := 131 } s m [Value.ref h0, Value.int (nI qi), Value.int (nI qj), Value.int (nI qk), Value.int (nI qr)].toArray below meth c H locs (0 + (pt st N9 - pt c1.1 N9) + (pt c1.1 N9 - pt c8.1 N9) + (pt c8.1 N9 - pt c15.1 N9) + (pt c15.1 N9 - pt c22.1 N9)) (0 + (2 * (pt st N9 - pt c1.1 N9)) + (2 * (pt c1.1 N9 - pt c8.1 N9)) + (2 * (pt c8.1 N9 - pt c15.1 N9)) + (2 * (pt c15.1 N9 - pt c22.1 N9))) (MQ below (va_Qg (fun (u : (Nat → Option wQ) × Int32) => some (.int u.2)) (fun (u : (Nat → Option wQ) × Int32) => hO u.1 Z ∧ keO st u.1 ∧ pt u.1 N9 ≤ pt st N9) (Pog G k A (fun (u : (Nat → Option wQ) × Int32) => ([(h0, .inr (1, [.ref cea, .ref roa, .ref coa, .ref ura, .ref uca, .ref au, .ref ap, .ref al, .ref ar, .ref ae, .int (nI rw9), .int (nI C9), .int (nI fs9), .int (nI tk9)])), (cea, .inl (k 4, 3731, .inr (.inr (.inr (.inr (fun j => adO (u.1 j)))))))] ++ (tpl k u.1 N9))) s0 sl (fun (u : (Nat → Option wQ) × Int32) => pt st N9 - pt u.1 N9) (fun (u : (Nat → Option wQ) × Int32) => 2 * (pt st N9 - pt u.1 N9))) A) [Value.ref h0, Value.int (nI qi), Value.int (nI qj), Value.int (nI qk), Value.int (nI qr)].toArray s (pt st N9 + 400) (2 * pt st N9 + 800) A) (F0 m 92 ls []) := by
    intro H locs S ls hl
    refine lv_aload_n hx hb d_So_compareIn_92 rfl (lv_at hl 4 rfl) ?_
    refine r_get C K S 0 rfl rfl clOk_So 7 (by decide) wf_So_38 (v := .ref al) rfl d_So_compareIn_93 ?_
    refine lv_aload hx hb d_So_compareIn_96 (lv_at hl 3 rfl) ?_
    refine lv_aload hx hb d_So_compareIn_98 (lv_at hl 2 rfl) ?_
    refine q_backP (wi := []) (wr := [(h0, .inr (1, [.ref cea, .ref roa, .ref coa, .ref ura, .ref uca, .ref au, .ref ap, .ref al, .ref ar, .ref ae, .int (nI rw9), .int (nI C9), .int (nI fs9), .int (nI tk9)])), (cea, .inl (k 4, 3731, .inr (.inr (.inr (.inr (fun j => adO (c22.1 j)))))))]) S hA [] [0, 1] rfl rfl (by decide) (by decide) (va_runV (As := [.ref c1.2, .ref c8.2]) (rest := []) ⟨hx, hb, C.2.2.1, C.2.2.2.1, C.2.2.2.2.1⟩ (g_P_multiply l G k _ _ 3733 (qi * (C9 + 1) + qj) (qr * (C9 + 1) + qk) al c1.2 c8.2 (Z (qi * (C9 + 1) + qj)) (Z (qr * (C9 + 1) + qk)) N9 c22.1 Z V0 hN hh24.1 (by omega) (by omega) (by omega) (ke26.at (ke19.at (ke12.at (ke5.at hL)))) (ke26.at (ke19.at (ke12.at at4))) (ke26.at (ke19.at at11)) rfl rfl (show V0 (qi * (C9 + 1) + qj) from by unfold V0; omega) (show V0 (qr * (C9 + 1) + qk) from by unfold V0; omega) (by omega) (by omega) (by exact ix_ne (by omega) (by omega) (by omega)) (by decide) (b50 (hh24.2 (qi * (C9 + 1) + qj) (by omega) (by unfold V0; omega))) (b50 (hh24.2 (qr * (C9 + 1) + qk) (by omega) (by unfold V0; omega)))) (k_virt (n := 2) C wc_Wh_multiply rfl rfl wz_Wh wm_So_129 wn_Wh_multiply ws_Wh_multiply (by decide +kernel) ⟨(Nat.le_of_ble_eq_true rfl), (Nat.le_of_ble_eq_true rfl)⟩) (pr_nowVGP K S [] (by decide) rfl (Classical.choose_spec (at_mem (ke26.at (ke19.at (ke12.at (ke5.at hL)))) (show 3733 < N9 by omega))) rfl) rfl rfl hl.1 rfl (lv_room (Nat.le_of_ble_eq_true rfl)) d_So_compareIn_100 ⟨(show 0 + (pt st N9 - pt c1.1 N9) + (pt c1.1 N9 - pt c8.1 N9) + (pt c8.1 N9 - pt c15.1 N9) + (pt c15.1 N9 - pt c22.1 N9) + 200 ≤ pt st N9 + 400 from by omega), (show 0 + (2 * (pt st N9 - pt c1.1 N9)) + (2 * (pt c1.1 N9 - pt c8.1 N9)) + (2 * (pt c8.1 N9 - pt c15.1 N9)) + (2 * (pt c15.1 N9 - pt c22.1 N9)) + 400 ≤ 2 * pt st N9 + 800 from by omega)⟩) (fun st29 H locs hw30 S => ?_)
    have S : Sw G A s.heap _ _ ([(h0, .inr (1, [.ref cea, .ref roa, .ref coa, .ref ura, .ref uca, .ref au, .ref ap, .ref al, .ref ar, .ref ae, .int (nI rw9), .int (nI C9), .int (nI fs9), .int (nI tk9)])), (cea, .inl (k 4, 3731, .inr (.inr (.inr (.inr (fun j => adO (c22.1 j)))))))] ++ (tpl k st29 N9)) := S
    have hw30 : gO st29 (va_up Z 3733 ((Z (qi * (C9 + 1) + qj)) * (Z (qr * (C9 + 1) + qk)))) (va_up V0 3733 True) ∧ keO c22.1 st29 ∧ pt st29 N9 ≤ pt c22.1 N9 ∧ saO c22.1 st29 := hw30
    show W p l e _ s m _ below meth c H locs _ _ _ (F0 m 103 ls [])
    obtain ⟨g31, ke32, pt33, sa34⟩ := hw30
    have S : Sw G A s.heap H locs ([(h0, .inr (1, [.ref cea, .ref roa, .ref coa, .ref ura, .ref uca, .ref au, .ref ap, .ref al, .ref ar, .ref ae, .int (nI rw9), .int (nI C9), .int (nI fs9), .int (nI tk9)])), (cea, .inl (k 4, 3731, .inr (.inr (.inr (.inr (fun j => adO (st29 j)))))))] ++ (tpl k st29 N9)) := by rw [show (fun j => adO (st29 j)) = _ from sa34]; exact S
    refine lv_aload_n hx hb d_So_compareIn_103 rfl (lv_at hl 4 rfl) ?_
    refine r_get C K S 0 rfl rfl clOk_So 8 (by decide) wf_So_41 (v := .ref ar) rfl d_So_compareIn_104 ?_
    refine lv_aload hx hb d_So_compareIn_107 (lv_at hl 1 rfl) ?_
    refine lv_aload hx hb d_So_compareIn_109 (lv_at hl 0 rfl) ?_
    refine q_backP (wi := []) (wr := [(h0, .inr (1, [.ref cea, .ref roa, .ref coa, .ref ura, .ref uca, .ref au, .ref ap, .ref al, .ref ar, .ref ae, .int (nI rw9), .int (nI C9), .int (nI fs9), .int (nI tk9)])), (cea, .inl (k 4, 3731, .inr (.inr (.inr (.inr (fun j => adO (st29 j)))))))]) S hA [] [0, 1] rfl rfl (by decide) (by decide) (va_runV (As := [.ref c15.2, .ref c22.2]) (rest := []) ⟨hx, hb, C.2.2.1, C.2.2.2.1, C.2.2.2.2.1⟩ (g_P_multiply l G k _ _ 3734 (qi * (C9 + 1) + qk) (qr * (C9 + 1) + qj) ar c15.2 c22.2 (Z (qi * (C9 + 1) + qk)) (Z (qr * (C9 + 1) + qj)) N9 st29 (va_up Z 3733 ((Z (qi * (C9 + 1) + qj)) * (Z (qr * (C9 + 1) + qk)))) (va_up V0 3733 True) hN g31 (by omega) (by omega) (by omega) (ke32.at (ke26.at (ke19.at (ke12.at (ke5.at hR))))) (ke32.at (ke26.at at18)) (ke32.at at25) (by rw [va_up_ne _ _ (show qi * (C9 + 1) + qk ≠ 3733 by omega)]) (by rw [va_up_ne _ _ (show qr * (C9 + 1) + qj ≠ 3733 by omega)]) (by rw [va_up_ne _ _ (show qi * (C9 + 1) + qk ≠ 3733 by omega)]; unfold V0; omega) (by rw [va_up_ne _ _ (show qr * (C9 + 1) + qj ≠ 3733 by omega)]; unfold V0; omega) (by omega) (by omega) (by exact ix_ne (by omega) (by omega) (by omega)) (by decide) (b50 (hh24.2 (qi * (C9 + 1) + qk) (by omega) (by unfold V0; omega))) (b50 (hh24.2 (qr * (C9 + 1) + qj) (by omega) (by unfold V0; omega)))) (k_virt (n := 2) C wc_Wh_multiply rfl rfl wz_Wh wm_So_129 wn_Wh_multiply ws_Wh_multiply (by decide +kernel) ⟨(Nat.le_of_ble_eq_true rfl), (Nat.le_of_ble_eq_true rfl)⟩) (pr_nowVGP K S [] (by decide) rfl (Classical.choose_spec (at_mem (ke32.at (ke26.at (ke19.at (ke12.at (ke5.at hR))))) (show 3734 < N9 by omega))) rfl) rfl rfl hl.1 rfl (lv_room (Nat.le_of_ble_eq_true rfl)) d_So_compareIn_111 ⟨(show 0 + (pt st N9 - pt c1.1 N9) + (pt c1.1 N9 - pt c8.1 N9) + (pt c8.1 N9 - pt c15.1 N9) + (pt c15.1 N9 - pt c22.1 N9) + (pt c22.1 N9 - pt st29 N9) + 200 ≤ pt st N9 + 400 from by omega), (show 0 + (2 * (pt st N9 - pt c1.1 N9)) + (2 * (pt c1.1 N9 - pt c8.1 N9)) + (2 * (pt c8.1 N9 - pt c15.1 N9)) + (2 * (pt c15.1 N9 - pt c22.1 N9)) + (2 * (pt c22.1 N9 - pt st29 N9)) + 400 ≤ 2 * pt st N9 + 800 from by omega)⟩) (fun st35 H locs hw36 S => ?_)
    have S : Sw G A s.heap _ _ ([(h0, .inr (1, [.ref cea, .ref roa, .ref coa, .ref ura, .ref uca, .ref au, .ref ap, .ref al, .ref ar, .ref ae, .int (nI rw9), .int (nI C9), .int (nI fs9), .int (nI tk9)])), (cea, .inl (k 4, 3731, .inr (.inr (.inr (.inr (fun j => adO (st29 j)))))))] ++ (tpl k st35 N9)) := S
    have hw36 : gO st35 (va_up (va_up Z 3733 ((Z (qi * (C9 + 1) + qj)) * (Z (qr * (C9 + 1) + qk)))) 3734 ((Z (qi * (C9 + 1) + qk)) * (Z (qr * (C9 + 1) + qj)))) (va_up (va_up V0 3733 True) 3734 True) ∧ keO st29 st35 ∧ pt st35 N9 ≤ pt st29 N9 ∧ saO st29 st35 := hw36
    show W p l e _ s m _ below meth c H locs _ _ _ (F0 m 114 ls [])
    obtain ⟨g37, ke38, pt39, sa40⟩ := hw36
    have S : Sw G A s.heap H locs ([(h0, .inr (1, [.ref cea, .ref roa, .ref coa, .ref ura, .ref uca, .ref au, .ref ap, .ref al, .ref ar, .ref ae, .int (nI rw9), .int (nI C9), .int (nI fs9), .int (nI tk9)])), (cea, .inl (k 4, 3731, .inr (.inr (.inr (.inr (fun j => adO (st35 j)))))))] ++ (tpl k st35 N9)) := by rw [show (fun j => adO (st35 j)) = _ from sa40]; exact S
    refine lv_aload_n hx hb d_So_compareIn_114 rfl (lv_at hl 4 rfl) ?_
    refine r_get C K S 0 rfl rfl clOk_So 7 (by decide) wf_So_38 (v := .ref al) rfl d_So_compareIn_115 ?_
    refine lv_aload_n hx hb d_So_compareIn_118 rfl (lv_at hl 4 rfl) ?_
    refine r_get C K S 0 rfl rfl clOk_So 8 (by decide) wf_So_41 (v := .ref ar) rfl d_So_compareIn_119 ?_
    refine q_backP (wi := []) (wr := [(h0, .inr (1, [.ref cea, .ref roa, .ref coa, .ref ura, .ref uca, .ref au, .ref ap, .ref al, .ref ar, .ref ae, .int (nI rw9), .int (nI C9), .int (nI fs9), .int (nI tk9)])), (cea, .inl (k 4, 3731, .inr (.inr (.inr (.inr (fun j => adO (st35 j)))))))]) S hA [] [0, 1] rfl rfl (by decide) (by decide) (va_runV (As := [.ref ar]) (rest := []) ⟨hx, hb, C.2.2.1, C.2.2.2.1, C.2.2.2.2.1⟩ (g_P_compare l G k _ _ 3733 3734 al ar ((Z (qi * (C9 + 1) + qj)) * (Z (qr * (C9 + 1) + qk))) ((Z (qi * (C9 + 1) + qk)) * (Z (qr * (C9 + 1) + qj))) N9 st35 (va_up (va_up Z 3733 ((Z (qi * (C9 + 1) + qj)) * (Z (qr * (C9 + 1) + qk)))) 3734 ((Z (qi * (C9 + 1) + qk)) * (Z (qr * (C9 + 1) + qj)))) (va_up (va_up V0 3733 True) 3734 True) hN g37 (by omega) (by omega) (ke38.at (ke32.at (ke26.at (ke19.at (ke12.at (ke5.at hL)))))) (ke38.at (ke32.at (ke26.at (ke19.at (ke12.at (ke5.at hR)))))) (by rw [va_up_ne _ _ (show 3733 ≠ 3734 by decide), va_up_self]) (by rw [va_up_self]) (by rw [va_up_ne _ _ (show 3733 ≠ 3734 by decide), va_up_self]; trivial) (by rw [va_up_self]; trivial) (by decide)) (k_virt (n := 1) C wc_Wh_compare rfl rfl wz_Wh wm_So_104 wn_Wh_compare ws_Wh_compare (by decide +kernel) ⟨(Nat.le_of_ble_eq_true rfl), (Nat.le_of_ble_eq_true rfl)⟩) (pr_nowVGP K S [] (by decide) rfl (Classical.choose_spec (at_mem (ke38.at (ke32.at (ke26.at (ke19.at (ke12.at (ke5.at hL)))))) (show 3733 < N9 by omega))) rfl) rfl rfl hl.1 rfl (lv_room (Nat.le_of_ble_eq_true rfl)) d_So_compareIn_122 ⟨(show 0 + (pt st N9 - pt c1.1 N9) + (pt c1.1 N9 - pt c8.1 N9) + (pt c8.1 N9 - pt c15.1 N9) + (pt c15.1 N9 - pt c22.1 N9) + (pt c22.1 N9 - pt st29 N9) + (pt st29 N9 - pt st35 N9) ≤ pt st N9 + 400 from by omega), (show 0 + (2 * (pt st N9 - pt c1.1 N9)) + (2 * (pt c1.1 N9 - pt c8.1 N9)) + (2 * (pt c8.1 N9 - pt c15.1 N9)) + (2 * (pt c15.1 N9 - pt c22.1 N9)) + (2 * (pt c22.1 N9 - pt st29 N9)) + (2 * (pt st29 N9 - pt st35 N9)) ≤ 2 * pt st N9 + 800 from by omega)⟩) (fun u41 H locs hw42 S => ?_)
    have S : Sw G A s.heap _ _ ([(h0, .inr (1, [.ref cea, .ref roa, .ref coa, .ref ura, .ref uca, .ref au, .ref ap, .ref al, .ref ar, .ref ae, .int (nI rw9), .int (nI C9), .int (nI fs9), .int (nI tk9)])), (cea, .inl (k 4, 3731, .inr (.inr (.inr (.inr (fun j => adO (st35 j)))))))] ++ (tpl k st35 N9)) := S
    have hw42 : True := hw42
    show W p l e _ s m _ below meth c H locs _ _ _ (F0 m 125 ls [.int (czI (((Z (qi * (C9 + 1) + qj)) * (Z (qr * (C9 + 1) + qk)))) (((Z (qi * (C9 + 1) + qk)) * (Z (qr * (C9 + 1) + qj)))))])
    have hfin : hO st35 Z := by
      refine hO_of g37 hh24.2 (fun i q1 q2 => ?_)
      unfold V0 at q2
      exact ⟨by rw [va_up_ne _ _ (show i ≠ 3734 by omega), va_up_ne _ _ (show i ≠ 3733 by omega)]; unfold V0; omega, by rw [va_up_ne _ _ (show i ≠ 3734 by omega), va_up_ne _ _ (show i ≠ 3733 by omega)]⟩
    exact q_iret C K hsz rfl (st35, czI (((Z (qi * (C9 + 1) + qj)) * (Z (qr * (C9 + 1) + qk)))) (((Z (qi * (C9 + 1) + qk)) * (Z (qr * (C9 + 1) + qj))))) rfl (show hO st35 Z ∧ keO st st35 ∧ pt st35 N9 ≤ pt st N9 from ⟨hfin, (((((ke5.tr ke12).tr ke19).tr ke26).tr ke32).tr ke38), by omega⟩) (S.subP [0, 1] (by decide) rfl) d_So_compareIn_125 (show 0 + (pt st N9 - pt c1.1 N9) + (pt c1.1 N9 - pt c8.1 N9) + (pt c8.1 N9 - pt c15.1 N9) + (pt c15.1 N9 - pt c22.1 N9) + (pt c22.1 N9 - pt st29 N9) + (pt st29 N9 - pt st35 N9) ≤ pt st N9 - pt st35 N9 from by omega) (show 0 + (2 * (pt st N9 - pt c1.1 N9)) + (2 * (pt c1.1 N9 - pt c8.1 N9)) + (2 * (pt c8.1 N9 - pt c15.1 N9)) + (2 * (pt c15.1 N9 - pt c22.1 N9)) + (2 * (pt c22.1 N9 - pt st29 N9)) + (2 * (pt st29 N9 - pt st35 N9)) ≤ 2 * (pt st N9 - pt st35 N9) from by omega) (show 0 + (pt st N9 - pt c1.1 N9) + (pt c1.1 N9 - pt c8.1 N9) + (pt c8.1 N9 - pt c15.1 N9) + (pt c15.1 N9 - pt c22.1 N9) + (pt c22.1 N9 - pt st29 N9) + (pt st29 N9 - pt st35 N9) ≤ pt st N9 + 400 from by omega) (show 0 + (2 * (pt st N9 - pt c1.1 N9)) + (2 * (pt c1.1 N9 - pt c8.1 N9)) + (2 * (pt c8.1 N9 - pt c15.1 N9)) + (2 * (pt c15.1 N9 - pt c22.1 N9)) + (2 * (pt c22.1 N9 - pt st29 N9)) + (2 * (pt st29 N9 - pt st35 N9)) ≤ 2 * pt st N9 + 800 from by omega)
  refine lv_aload hx hb d_So_compareIn_34 (lv_at hl 3 rfl) ?_
  refine q_backP (wi := []) (wr := [(h0, .inr (1, [.ref cea, .ref roa, .ref coa, .ref ura, .ref uca, .ref au, .ref ap, .ref al, .ref ar, .ref ae, .int (nI rw9), .int (nI C9), .int (nI fs9), .int (nI tk9)])), (cea, .inl (k 4, 3731, .inr (.inr (.inr (.inr (fun j => adO (c22.1 j)))))))]) S hA [] [0, 1] rfl rfl (by decide) (by decide) (va_runV (As := []) (rest := []) ⟨hx, hb, C.2.2.1, C.2.2.2.1, C.2.2.2.2.1⟩ (g_P_isSmall l G k _ _ (qi * (C9 + 1) + qj) c1.2 (Z (qi * (C9 + 1) + qj)) N9 c22.1 Z V0 hN hh24.1 (by omega) (ke26.at (ke19.at (ke12.at at4))) rfl (show V0 (qi * (C9 + 1) + qj) from by unfold V0; omega)) (k_virt (n := 0) C wc_Wh_isSmall rfl rfl wz_Wh wm_So_116 wn_Wh_isSmall ws_Wh_isSmall (by decide +kernel) ⟨(Nat.le_of_ble_eq_true rfl), (Nat.le_of_ble_eq_true rfl)⟩) (pr_nowVGP K S [] (by decide) rfl (Classical.choose_spec (at_mem (ke26.at (ke19.at (ke12.at at4))) (show qi * (C9 + 1) + qj < N9 by omega))) rfl) rfl rfl hl.1 rfl (lv_room (Nat.le_of_ble_eq_true rfl)) d_So_compareIn_36 ⟨(show 0 + (pt st N9 - pt c1.1 N9) + (pt c1.1 N9 - pt c8.1 N9) + (pt c8.1 N9 - pt c15.1 N9) + (pt c15.1 N9 - pt c22.1 N9) ≤ pt st N9 + 400 from by omega), (show 0 + (2 * (pt st N9 - pt c1.1 N9)) + (2 * (pt c1.1 N9 - pt c8.1 N9)) + (2 * (pt c8.1 N9 - pt c15.1 N9)) + (2 * (pt c15.1 N9 - pt c22.1 N9)) ≤ 2 * pt st N9 + 800 from by omega)⟩) (fun u43 H locs hw44 S => ?_)
  have S : Sw G A s.heap _ _ ([(h0, .inr (1, [.ref cea, .ref roa, .ref coa, .ref ura, .ref uca, .ref au, .ref ap, .ref al, .ref ar, .ref ae, .int (nI rw9), .int (nI C9), .int (nI fs9), .int (nI tk9)])), (cea, .inl (k 4, 3731, .inr (.inr (.inr (.inr (fun j => adO (c22.1 j)))))))] ++ (tpl k c22.1 N9)) := S
  have hw44 : True := hw44
  show W p l e _ s m _ below meth c H locs _ _ _ (F0 m 39 ls [.int (nI (smB ((Z (qi * (C9 + 1) + qj)))))])
  have sb45 := smB_le (Z (qi * (C9 + 1) + qj))
  refine z_if_eq (a := (smB ((Z (qi * (C9 + 1) + qj))))) (tgt := 92) hx hb d_So_compareIn_39 (by decide) (by omega) (fun hc46 => ?_) (fun hc46 => ?_)
  · exact k92 _ _ (S.subP [0, 1] (by decide) rfl) ls (lv_sub hl [0, 1, 2, 3, 4, 5, 6, 7, 8] rfl)
  · refine lv_aload hx hb d_So_compareIn_42 (lv_at hl 2 rfl) ?_
    refine q_backP (wi := []) (wr := [(h0, .inr (1, [.ref cea, .ref roa, .ref coa, .ref ura, .ref uca, .ref au, .ref ap, .ref al, .ref ar, .ref ae, .int (nI rw9), .int (nI C9), .int (nI fs9), .int (nI tk9)])), (cea, .inl (k 4, 3731, .inr (.inr (.inr (.inr (fun j => adO (c22.1 j)))))))]) S hA [] [0, 1] rfl rfl (by decide) (by decide) (va_runV (As := []) (rest := []) ⟨hx, hb, C.2.2.1, C.2.2.2.1, C.2.2.2.2.1⟩ (g_P_isSmall l G k _ _ (qr * (C9 + 1) + qk) c8.2 (Z (qr * (C9 + 1) + qk)) N9 c22.1 Z V0 hN hh24.1 (by omega) (ke26.at (ke19.at at11)) rfl (show V0 (qr * (C9 + 1) + qk) from by unfold V0; omega)) (k_virt (n := 0) C wc_Wh_isSmall rfl rfl wz_Wh wm_So_116 wn_Wh_isSmall ws_Wh_isSmall (by decide +kernel) ⟨(Nat.le_of_ble_eq_true rfl), (Nat.le_of_ble_eq_true rfl)⟩) (pr_nowVGP K S [] (by decide) rfl (Classical.choose_spec (at_mem (ke26.at (ke19.at at11)) (show qr * (C9 + 1) + qk < N9 by omega))) rfl) rfl rfl hl.1 rfl (lv_room (Nat.le_of_ble_eq_true rfl)) d_So_compareIn_44 ⟨(show 0 + (pt st N9 - pt c1.1 N9) + (pt c1.1 N9 - pt c8.1 N9) + (pt c8.1 N9 - pt c15.1 N9) + (pt c15.1 N9 - pt c22.1 N9) ≤ pt st N9 + 400 from by omega), (show 0 + (2 * (pt st N9 - pt c1.1 N9)) + (2 * (pt c1.1 N9 - pt c8.1 N9)) + (2 * (pt c8.1 N9 - pt c15.1 N9)) + (2 * (pt c15.1 N9 - pt c22.1 N9)) ≤ 2 * pt st N9 + 800 from by omega)⟩) (fun u47 H locs hw48 S => ?_)
    have S : Sw G A s.heap _ _ ([(h0, .inr (1, [.ref cea, .ref roa, .ref coa, .ref ura, .ref uca, .ref au, .ref ap, .ref al, .ref ar, .ref ae, .int (nI rw9), .int (nI C9), .int (nI fs9), .int (nI tk9)])), (cea, .inl (k 4, 3731, .inr (.inr (.inr (.inr (fun j => adO (c22.1 j)))))))] ++ (tpl k c22.1 N9)) := S
    have hw48 : True := hw48
    show W p l e _ s m _ below meth c H locs _ _ _ (F0 m 47 ls [.int (nI (smB ((Z (qr * (C9 + 1) + qk)))))])
    have sb49 := smB_le (Z (qr * (C9 + 1) + qk))
    refine z_if_eq (a := (smB ((Z (qr * (C9 + 1) + qk))))) (tgt := 92) hx hb d_So_compareIn_47 (by decide) (by omega) (fun hc50 => ?_) (fun hc50 => ?_)
    · exact k92 _ _ (S.subP [0, 1] (by decide) rfl) ls (lv_sub hl [0, 1, 2, 3, 4, 5, 6, 7, 8] rfl)
    · refine lv_aload hx hb d_So_compareIn_50 (lv_at hl 1 rfl) ?_
      refine q_backP (wi := []) (wr := [(h0, .inr (1, [.ref cea, .ref roa, .ref coa, .ref ura, .ref uca, .ref au, .ref ap, .ref al, .ref ar, .ref ae, .int (nI rw9), .int (nI C9), .int (nI fs9), .int (nI tk9)])), (cea, .inl (k 4, 3731, .inr (.inr (.inr (.inr (fun j => adO (c22.1 j)))))))]) S hA [] [0, 1] rfl rfl (by decide) (by decide) (va_runV (As := []) (rest := []) ⟨hx, hb, C.2.2.1, C.2.2.2.1, C.2.2.2.2.1⟩ (g_P_isSmall l G k _ _ (qi * (C9 + 1) + qk) c15.2 (Z (qi * (C9 + 1) + qk)) N9 c22.1 Z V0 hN hh24.1 (by omega) (ke26.at at18) rfl (show V0 (qi * (C9 + 1) + qk) from by unfold V0; omega)) (k_virt (n := 0) C wc_Wh_isSmall rfl rfl wz_Wh wm_So_116 wn_Wh_isSmall ws_Wh_isSmall (by decide +kernel) ⟨(Nat.le_of_ble_eq_true rfl), (Nat.le_of_ble_eq_true rfl)⟩) (pr_nowVGP K S [] (by decide) rfl (Classical.choose_spec (at_mem (ke26.at at18) (show qi * (C9 + 1) + qk < N9 by omega))) rfl) rfl rfl hl.1 rfl (lv_room (Nat.le_of_ble_eq_true rfl)) d_So_compareIn_52 ⟨(show 0 + (pt st N9 - pt c1.1 N9) + (pt c1.1 N9 - pt c8.1 N9) + (pt c8.1 N9 - pt c15.1 N9) + (pt c15.1 N9 - pt c22.1 N9) ≤ pt st N9 + 400 from by omega), (show 0 + (2 * (pt st N9 - pt c1.1 N9)) + (2 * (pt c1.1 N9 - pt c8.1 N9)) + (2 * (pt c8.1 N9 - pt c15.1 N9)) + (2 * (pt c15.1 N9 - pt c22.1 N9)) ≤ 2 * pt st N9 + 800 from by omega)⟩) (fun u51 H locs hw52 S => ?_)
      have S : Sw G A s.heap _ _ ([(h0, .inr (1, [.ref cea, .ref roa, .ref coa, .ref ura, .ref uca, .ref au, .ref ap, .ref al, .ref ar, .ref ae, .int (nI rw9), .int (nI C9), .int (nI fs9), .int (nI tk9)])), (cea, .inl (k 4, 3731, .inr (.inr (.inr (.inr (fun j => adO (c22.1 j)))))))] ++ (tpl k c22.1 N9)) := S
      have hw52 : True := hw52
      show W p l e _ s m _ below meth c H locs _ _ _ (F0 m 55 ls [.int (nI (smB ((Z (qi * (C9 + 1) + qk)))))])
      have sb53 := smB_le (Z (qi * (C9 + 1) + qk))
      refine z_if_eq (a := (smB ((Z (qi * (C9 + 1) + qk))))) (tgt := 92) hx hb d_So_compareIn_55 (by decide) (by omega) (fun hc54 => ?_) (fun hc54 => ?_)
      · exact k92 _ _ (S.subP [0, 1] (by decide) rfl) ls (lv_sub hl [0, 1, 2, 3, 4, 5, 6, 7, 8] rfl)
      · refine lv_aload hx hb d_So_compareIn_58 (lv_at hl 0 rfl) ?_
        refine q_backP (wi := []) (wr := [(h0, .inr (1, [.ref cea, .ref roa, .ref coa, .ref ura, .ref uca, .ref au, .ref ap, .ref al, .ref ar, .ref ae, .int (nI rw9), .int (nI C9), .int (nI fs9), .int (nI tk9)])), (cea, .inl (k 4, 3731, .inr (.inr (.inr (.inr (fun j => adO (c22.1 j)))))))]) S hA [] [0, 1] rfl rfl (by decide) (by decide) (va_runV (As := []) (rest := []) ⟨hx, hb, C.2.2.1, C.2.2.2.1, C.2.2.2.2.1⟩ (g_P_isSmall l G k _ _ (qr * (C9 + 1) + qj) c22.2 (Z (qr * (C9 + 1) + qj)) N9 c22.1 Z V0 hN hh24.1 (by omega) at25 rfl (show V0 (qr * (C9 + 1) + qj) from by unfold V0; omega)) (k_virt (n := 0) C wc_Wh_isSmall rfl rfl wz_Wh wm_So_116 wn_Wh_isSmall ws_Wh_isSmall (by decide +kernel) ⟨(Nat.le_of_ble_eq_true rfl), (Nat.le_of_ble_eq_true rfl)⟩) (pr_nowVGP K S [] (by decide) rfl (Classical.choose_spec (at_mem at25 (show qr * (C9 + 1) + qj < N9 by omega))) rfl) rfl rfl hl.1 rfl (lv_room (Nat.le_of_ble_eq_true rfl)) d_So_compareIn_60 ⟨(show 0 + (pt st N9 - pt c1.1 N9) + (pt c1.1 N9 - pt c8.1 N9) + (pt c8.1 N9 - pt c15.1 N9) + (pt c15.1 N9 - pt c22.1 N9) ≤ pt st N9 + 400 from by omega), (show 0 + (2 * (pt st N9 - pt c1.1 N9)) + (2 * (pt c1.1 N9 - pt c8.1 N9)) + (2 * (pt c8.1 N9 - pt c15.1 N9)) + (2 * (pt c15.1 N9 - pt c22.1 N9)) ≤ 2 * pt st N9 + 800 from by omega)⟩) (fun u55 H locs hw56 S => ?_)
        have S : Sw G A s.heap _ _ ([(h0, .inr (1, [.ref cea, .ref roa, .ref coa, .ref ura, .ref uca, .ref au, .ref ap, .ref al, .ref ar, .ref ae, .int (nI rw9), .int (nI C9), .int (nI fs9), .int (nI tk9)])), (cea, .inl (k 4, 3731, .inr (.inr (.inr (.inr (fun j => adO (c22.1 j)))))))] ++ (tpl k c22.1 N9)) := S
        have hw56 : True := hw56
        show W p l e _ s m _ below meth c H locs _ _ _ (F0 m 63 ls [.int (nI (smB ((Z (qr * (C9 + 1) + qj)))))])
        have sb57 := smB_le (Z (qr * (C9 + 1) + qj))
        refine z_if_eq (a := (smB ((Z (qr * (C9 + 1) + qj))))) (tgt := 92) hx hb d_So_compareIn_63 (by decide) (by omega) (fun hc58 => ?_) (fun hc58 => ?_)
        · exact k92 _ _ (S.subP [0, 1] (by decide) rfl) ls (lv_sub hl [0, 1, 2, 3, 4, 5, 6, 7, 8] rfl)
        · refine lv_aload hx hb d_So_compareIn_66 (lv_at hl 3 rfl) ?_
          refine q_backP (wi := []) (wr := [(h0, .inr (1, [.ref cea, .ref roa, .ref coa, .ref ura, .ref uca, .ref au, .ref ap, .ref al, .ref ar, .ref ae, .int (nI rw9), .int (nI C9), .int (nI fs9), .int (nI tk9)])), (cea, .inl (k 4, 3731, .inr (.inr (.inr (.inr (fun j => adO (c22.1 j)))))))]) S hA [] [0, 1] rfl rfl (by decide) (by decide) (va_runV (As := []) (rest := []) ⟨hx, hb, C.2.2.1, C.2.2.2.1, C.2.2.2.2.1⟩ (g_P_small l G k _ _ (qi * (C9 + 1) + qj) c1.2 (Z (qi * (C9 + 1) + qj)) N9 c22.1 Z V0 hN hh24.1 (by omega) (ke26.at (ke19.at (ke12.at at4))) rfl (show V0 (qi * (C9 + 1) + qj) from by unfold V0; omega) (smB_1 hc46)) (k_virt (n := 0) C wc_Wh_small rfl rfl wz_Wh wm_So_120 wn_Wh_small ws_Wh_small (by decide +kernel) ⟨(Nat.le_of_ble_eq_true rfl), (Nat.le_of_ble_eq_true rfl)⟩) (pr_nowVGP K S [] (by decide) rfl (Classical.choose_spec (at_mem (ke26.at (ke19.at (ke12.at at4))) (show qi * (C9 + 1) + qj < N9 by omega))) rfl) rfl rfl hl.1 rfl (lv_room (Nat.le_of_ble_eq_true rfl)) d_So_compareIn_68 ⟨(show 0 + (pt st N9 - pt c1.1 N9) + (pt c1.1 N9 - pt c8.1 N9) + (pt c8.1 N9 - pt c15.1 N9) + (pt c15.1 N9 - pt c22.1 N9) ≤ pt st N9 + 400 from by omega), (show 0 + (2 * (pt st N9 - pt c1.1 N9)) + (2 * (pt c1.1 N9 - pt c8.1 N9)) + (2 * (pt c8.1 N9 - pt c15.1 N9)) + (2 * (pt c15.1 N9 - pt c22.1 N9)) ≤ 2 * pt st N9 + 800 from by omega)⟩) (fun u59 H locs hw60 S => ?_)
          have S : Sw G A s.heap _ _ ([(h0, .inr (1, [.ref cea, .ref roa, .ref coa, .ref ura, .ref uca, .ref au, .ref ap, .ref al, .ref ar, .ref ae, .int (nI rw9), .int (nI C9), .int (nI fs9), .int (nI tk9)])), (cea, .inl (k 4, 3731, .inr (.inr (.inr (.inr (fun j => adO (c22.1 j)))))))] ++ (tpl k c22.1 N9)) := S
          have hw60 : True := hw60
          show W p l e _ s m _ below meth c H locs _ _ _ (F0 m 71 ls [.long (lZ ((Z (qi * (C9 + 1) + qj))))])
          refine lv_aload hx hb d_So_compareIn_71 (lv_at hl 2 rfl) ?_
          refine q_backP (wi := []) (wr := [(h0, .inr (1, [.ref cea, .ref roa, .ref coa, .ref ura, .ref uca, .ref au, .ref ap, .ref al, .ref ar, .ref ae, .int (nI rw9), .int (nI C9), .int (nI fs9), .int (nI tk9)])), (cea, .inl (k 4, 3731, .inr (.inr (.inr (.inr (fun j => adO (c22.1 j)))))))]) S hA [] [0, 1] rfl rfl (by decide) (by decide) (va_runV (As := []) (rest := [.long (lZ ((Z (qi * (C9 + 1) + qj))))]) ⟨hx, hb, C.2.2.1, C.2.2.2.1, C.2.2.2.2.1⟩ (g_P_small l G k _ _ (qr * (C9 + 1) + qk) c8.2 (Z (qr * (C9 + 1) + qk)) N9 c22.1 Z V0 hN hh24.1 (by omega) (ke26.at (ke19.at at11)) rfl (show V0 (qr * (C9 + 1) + qk) from by unfold V0; omega) (smB_1 hc50)) (k_virt (n := 0) C wc_Wh_small rfl rfl wz_Wh wm_So_120 wn_Wh_small ws_Wh_small (by decide +kernel) ⟨(Nat.le_of_ble_eq_true rfl), (Nat.le_of_ble_eq_true rfl)⟩) (pr_nowVGP K S [] (by decide) rfl (Classical.choose_spec (at_mem (ke26.at (ke19.at at11)) (show qr * (C9 + 1) + qk < N9 by omega))) rfl) rfl rfl hl.1 rfl (lv_room (Nat.le_of_ble_eq_true rfl)) d_So_compareIn_73 ⟨(show 0 + (pt st N9 - pt c1.1 N9) + (pt c1.1 N9 - pt c8.1 N9) + (pt c8.1 N9 - pt c15.1 N9) + (pt c15.1 N9 - pt c22.1 N9) ≤ pt st N9 + 400 from by omega), (show 0 + (2 * (pt st N9 - pt c1.1 N9)) + (2 * (pt c1.1 N9 - pt c8.1 N9)) + (2 * (pt c8.1 N9 - pt c15.1 N9)) + (2 * (pt c15.1 N9 - pt c22.1 N9)) ≤ 2 * pt st N9 + 800 from by omega)⟩) (fun u61 H locs hw62 S => ?_)
          have S : Sw G A s.heap _ _ ([(h0, .inr (1, [.ref cea, .ref roa, .ref coa, .ref ura, .ref uca, .ref au, .ref ap, .ref al, .ref ar, .ref ae, .int (nI rw9), .int (nI C9), .int (nI fs9), .int (nI tk9)])), (cea, .inl (k 4, 3731, .inr (.inr (.inr (.inr (fun j => adO (c22.1 j)))))))] ++ (tpl k c22.1 N9)) := S
          have hw62 : True := hw62
          show W p l e _ s m _ below meth c H locs _ _ _ (F0 m 76 ls [.long (lZ ((Z (qr * (C9 + 1) + qk)))), .long (lZ ((Z (qi * (C9 + 1) + qj))))])
          refine lv_lmul hx hb d_So_compareIn_76 ?_
          refine lv_aload hx hb d_So_compareIn_77 (lv_at hl 1 rfl) ?_
          refine q_backP (wi := []) (wr := [(h0, .inr (1, [.ref cea, .ref roa, .ref coa, .ref ura, .ref uca, .ref au, .ref ap, .ref al, .ref ar, .ref ae, .int (nI rw9), .int (nI C9), .int (nI fs9), .int (nI tk9)])), (cea, .inl (k 4, 3731, .inr (.inr (.inr (.inr (fun j => adO (c22.1 j)))))))]) S hA [] [0, 1] rfl rfl (by decide) (by decide) (va_runV (As := []) (rest := [.long ((lZ ((Z (qi * (C9 + 1) + qj)))) * (lZ ((Z (qr * (C9 + 1) + qk)))))]) ⟨hx, hb, C.2.2.1, C.2.2.2.1, C.2.2.2.2.1⟩ (g_P_small l G k _ _ (qi * (C9 + 1) + qk) c15.2 (Z (qi * (C9 + 1) + qk)) N9 c22.1 Z V0 hN hh24.1 (by omega) (ke26.at at18) rfl (show V0 (qi * (C9 + 1) + qk) from by unfold V0; omega) (smB_1 hc54)) (k_virt (n := 0) C wc_Wh_small rfl rfl wz_Wh wm_So_120 wn_Wh_small ws_Wh_small (by decide +kernel) ⟨(Nat.le_of_ble_eq_true rfl), (Nat.le_of_ble_eq_true rfl)⟩) (pr_nowVGP K S [] (by decide) rfl (Classical.choose_spec (at_mem (ke26.at at18) (show qi * (C9 + 1) + qk < N9 by omega))) rfl) rfl rfl hl.1 rfl (lv_room (Nat.le_of_ble_eq_true rfl)) d_So_compareIn_79 ⟨(show 0 + (pt st N9 - pt c1.1 N9) + (pt c1.1 N9 - pt c8.1 N9) + (pt c8.1 N9 - pt c15.1 N9) + (pt c15.1 N9 - pt c22.1 N9) ≤ pt st N9 + 400 from by omega), (show 0 + (2 * (pt st N9 - pt c1.1 N9)) + (2 * (pt c1.1 N9 - pt c8.1 N9)) + (2 * (pt c8.1 N9 - pt c15.1 N9)) + (2 * (pt c15.1 N9 - pt c22.1 N9)) ≤ 2 * pt st N9 + 800 from by omega)⟩) (fun u63 H locs hw64 S => ?_)
          have S : Sw G A s.heap _ _ ([(h0, .inr (1, [.ref cea, .ref roa, .ref coa, .ref ura, .ref uca, .ref au, .ref ap, .ref al, .ref ar, .ref ae, .int (nI rw9), .int (nI C9), .int (nI fs9), .int (nI tk9)])), (cea, .inl (k 4, 3731, .inr (.inr (.inr (.inr (fun j => adO (c22.1 j)))))))] ++ (tpl k c22.1 N9)) := S
          have hw64 : True := hw64
          show W p l e _ s m _ below meth c H locs _ _ _ (F0 m 82 ls [.long (lZ ((Z (qi * (C9 + 1) + qk)))), .long ((lZ ((Z (qi * (C9 + 1) + qj)))) * (lZ ((Z (qr * (C9 + 1) + qk)))))])
          refine lv_aload hx hb d_So_compareIn_82 (lv_at hl 0 rfl) ?_
          refine q_backP (wi := []) (wr := [(h0, .inr (1, [.ref cea, .ref roa, .ref coa, .ref ura, .ref uca, .ref au, .ref ap, .ref al, .ref ar, .ref ae, .int (nI rw9), .int (nI C9), .int (nI fs9), .int (nI tk9)])), (cea, .inl (k 4, 3731, .inr (.inr (.inr (.inr (fun j => adO (c22.1 j)))))))]) S hA [] [0, 1] rfl rfl (by decide) (by decide) (va_runV (As := []) (rest := [.long (lZ ((Z (qi * (C9 + 1) + qk)))), .long ((lZ ((Z (qi * (C9 + 1) + qj)))) * (lZ ((Z (qr * (C9 + 1) + qk)))))]) ⟨hx, hb, C.2.2.1, C.2.2.2.1, C.2.2.2.2.1⟩ (g_P_small l G k _ _ (qr * (C9 + 1) + qj) c22.2 (Z (qr * (C9 + 1) + qj)) N9 c22.1 Z V0 hN hh24.1 (by omega) at25 rfl (show V0 (qr * (C9 + 1) + qj) from by unfold V0; omega) (smB_1 hc58)) (k_virt (n := 0) C wc_Wh_small rfl rfl wz_Wh wm_So_120 wn_Wh_small ws_Wh_small (by decide +kernel) ⟨(Nat.le_of_ble_eq_true rfl), (Nat.le_of_ble_eq_true rfl)⟩) (pr_nowVGP K S [] (by decide) rfl (Classical.choose_spec (at_mem at25 (show qr * (C9 + 1) + qj < N9 by omega))) rfl) rfl rfl hl.1 rfl (lv_room (Nat.le_of_ble_eq_true rfl)) d_So_compareIn_84 ⟨(show 0 + (pt st N9 - pt c1.1 N9) + (pt c1.1 N9 - pt c8.1 N9) + (pt c8.1 N9 - pt c15.1 N9) + (pt c15.1 N9 - pt c22.1 N9) ≤ pt st N9 + 400 from by omega), (show 0 + (2 * (pt st N9 - pt c1.1 N9)) + (2 * (pt c1.1 N9 - pt c8.1 N9)) + (2 * (pt c8.1 N9 - pt c15.1 N9)) + (2 * (pt c15.1 N9 - pt c22.1 N9)) ≤ 2 * pt st N9 + 800 from by omega)⟩) (fun u65 H locs hw66 S => ?_)
          have S : Sw G A s.heap _ _ ([(h0, .inr (1, [.ref cea, .ref roa, .ref coa, .ref ura, .ref uca, .ref au, .ref ap, .ref al, .ref ar, .ref ae, .int (nI rw9), .int (nI C9), .int (nI fs9), .int (nI tk9)])), (cea, .inl (k 4, 3731, .inr (.inr (.inr (.inr (fun j => adO (c22.1 j)))))))] ++ (tpl k c22.1 N9)) := S
          have hw66 : True := hw66
          show W p l e _ s m _ below meth c H locs _ _ _ (F0 m 87 ls [.long (lZ ((Z (qr * (C9 + 1) + qj)))), .long (lZ ((Z (qi * (C9 + 1) + qk)))), .long ((lZ ((Z (qi * (C9 + 1) + qj)))) * (lZ ((Z (qr * (C9 + 1) + qk)))))])
          refine lv_lmul hx hb d_So_compareIn_87 ?_
          refine q_backP (wi := []) (wr := [(h0, .inr (1, [.ref cea, .ref roa, .ref coa, .ref ura, .ref uca, .ref au, .ref ap, .ref al, .ref ar, .ref ae, .int (nI rw9), .int (nI C9), .int (nI fs9), .int (nI tk9)])), (cea, .inl (k 4, 3731, .inr (.inr (.inr (.inr (fun j => adO (c22.1 j)))))))]) S hA [] [0, 1] rfl rfl (by decide) (by decide) (va_runS (As := [.long ((lZ ((Z (qi * (C9 + 1) + qj)))) * (lZ ((Z (qr * (C9 + 1) + qk))))), .long ((lZ ((Z (qi * (C9 + 1) + qk)))) * (lZ ((Z (qr * (C9 + 1) + qj)))))]) (rest := []) ⟨hx, hb, C.2.2.1, C.2.2.2.1, C.2.2.2.2.1⟩ (cg_frame (tpl k c22.1 N9) (g_JL_compare l G k _ _ ((lZ ((Z (qi * (C9 + 1) + qj)))) * (lZ ((Z (qr * (C9 + 1) + qk))))) ((lZ ((Z (qi * (C9 + 1) + qk)))) * (lZ ((Z (qr * (C9 + 1) + qj))))))) (k_stat (n := 2) C wc_JL_compare rfl rfl wz_JL wm_So_124 wt_JL_compare (by decide +kernel) ⟨(Nat.le_of_ble_eq_true rfl), (Nat.le_of_ble_eq_true rfl)⟩) (pr_nowGP K S [] (by decide) rfl) rfl rfl hl.1 rfl (lv_room (Nat.le_of_ble_eq_true rfl)) d_So_compareIn_88 ⟨(show 0 + (pt st N9 - pt c1.1 N9) + (pt c1.1 N9 - pt c8.1 N9) + (pt c8.1 N9 - pt c15.1 N9) + (pt c15.1 N9 - pt c22.1 N9) ≤ pt st N9 + 400 from by omega), (show 0 + (2 * (pt st N9 - pt c1.1 N9)) + (2 * (pt c1.1 N9 - pt c8.1 N9)) + (2 * (pt c8.1 N9 - pt c15.1 N9)) + (2 * (pt c15.1 N9 - pt c22.1 N9)) ≤ 2 * pt st N9 + 800 from by omega)⟩) (fun u67 H locs hw68 S => ?_)
          have S : Sw G A s.heap _ _ ([(h0, .inr (1, [.ref cea, .ref roa, .ref coa, .ref ura, .ref uca, .ref au, .ref ap, .ref al, .ref ar, .ref ae, .int (nI rw9), .int (nI C9), .int (nI fs9), .int (nI tk9)])), (cea, .inl (k 4, 3731, .inr (.inr (.inr (.inr (fun j => adO (c22.1 j)))))))] ++ (tpl k c22.1 N9)) := S
          have hw68 : True := hw68
          show W p l e _ s m _ below meth c H locs _ _ _ (F0 m 91 ls [.int (lcI ((lZ ((Z (qi * (C9 + 1) + qj)))) * (lZ ((Z (qr * (C9 + 1) + qk))))) ((lZ ((Z (qi * (C9 + 1) + qk)))) * (lZ ((Z (qr * (C9 + 1) + qj))))))])
          have hfin : hO c22.1 Z := ⟨hh24.1, hh24.2⟩
          exact q_iret C K hsz rfl (c22.1, lcI ((lZ ((Z (qi * (C9 + 1) + qj)))) * (lZ ((Z (qr * (C9 + 1) + qk))))) ((lZ ((Z (qi * (C9 + 1) + qk)))) * (lZ ((Z (qr * (C9 + 1) + qj)))))) rfl (show hO c22.1 Z ∧ keO st c22.1 ∧ pt c22.1 N9 ≤ pt st N9 from ⟨hfin, (((ke5.tr ke12).tr ke19).tr ke26), by omega⟩) (S.subP [0, 1] (by decide) rfl) d_So_compareIn_91 (show 0 + (pt st N9 - pt c1.1 N9) + (pt c1.1 N9 - pt c8.1 N9) + (pt c8.1 N9 - pt c15.1 N9) + (pt c15.1 N9 - pt c22.1 N9) ≤ pt st N9 - pt c22.1 N9 from by omega) (show 0 + (2 * (pt st N9 - pt c1.1 N9)) + (2 * (pt c1.1 N9 - pt c8.1 N9)) + (2 * (pt c8.1 N9 - pt c15.1 N9)) + (2 * (pt c15.1 N9 - pt c22.1 N9)) ≤ 2 * (pt st N9 - pt c22.1 N9) from by omega) (show 0 + (pt st N9 - pt c1.1 N9) + (pt c1.1 N9 - pt c8.1 N9) + (pt c8.1 N9 - pt c15.1 N9) + (pt c15.1 N9 - pt c22.1 N9) ≤ pt st N9 + 400 from by omega) (show 0 + (2 * (pt st N9 - pt c1.1 N9)) + (2 * (pt c1.1 N9 - pt c8.1 N9)) + (2 * (pt c8.1 N9 - pt c15.1 N9)) + (2 * (pt c15.1 N9 - pt c22.1 N9)) ≤ 2 * pt st N9 + 800 from by omega)
def soO (n R : Nat) (ro ur uc : Nat → Int32) : Prop := (∀ v, v < n → ro v = -2 ∨ ∃ r, r < R ∧ ro v = nI r) ∧ (∀ r, r < R → ur r = -2 ∨ ∃ v, v < n ∧ ur r = nI v) ∧ ∀ v, v < n → uc v = -2 ∨ ∃ w, w < n ∧ uc v = nI w
theorem d_So_isDearer_0 : decode c_So_isDearer 0 = .ok (.aload_n 0, 1) := by decide +kernel
theorem d_So_isDearer_1 : decode c_So_isDearer 1 = .ok (.iconst 0, 1) := by decide +kernel
theorem d_So_isDearer_2 : decode c_So_isDearer 2 = .ok (.iload_n 1, 1) := by decide +kernel
theorem d_So_isDearer_3 : decode c_So_isDearer 3 = .ok (.iload_n 2, 1) := by decide +kernel
theorem d_So_isDearer_4 : decode c_So_isDearer 4 = .ok (.iload_n 3, 1) := by decide +kernel
theorem d_So_isDearer_5 : decode c_So_isDearer 5 = .ok (.invokevirtual 112, 3) := by decide +kernel
theorem d_So_isDearer_8 : decode c_So_isDearer 8 = .ok (.istore 4, 2) := by decide +kernel
theorem d_So_isDearer_10 : decode c_So_isDearer 10 = .ok (.iconst 0, 1) := by decide +kernel
theorem d_So_isDearer_11 : decode c_So_isDearer 11 = .ok (.istore 5, 2) := by decide +kernel
theorem d_So_isDearer_13 : decode c_So_isDearer 13 = .ok (.iload 4, 2) := by decide +kernel
theorem d_So_isDearer_15 : decode c_So_isDearer 15 = .ok (.ifCond .ne 115, 3) := by decide +kernel
theorem d_So_isDearer_18 : decode c_So_isDearer 18 = .ok (.iload 5, 2) := by decide +kernel
theorem d_So_isDearer_20 : decode c_So_isDearer 20 = .ok (.aload_n 0, 1) := by decide +kernel
theorem d_So_isDearer_21 : decode c_So_isDearer 21 = .ok (.getfield 51, 3) := by decide +kernel
theorem d_So_isDearer_24 : decode c_So_isDearer 24 = .ok (.aload_n 0, 1) := by decide +kernel
theorem d_So_isDearer_25 : decode c_So_isDearer 25 = .ok (.getfield 59, 3) := by decide +kernel
theorem d_So_isDearer_28 : decode c_So_isDearer 28 = .ok (.iadd, 1) := by decide +kernel
theorem d_So_isDearer_29 : decode c_So_isDearer 29 = .ok (.if_icmp .gt 101, 3) := by decide +kernel
theorem d_So_isDearer_32 : decode c_So_isDearer 32 = .ok (.iload 5, 2) := by decide +kernel
theorem d_So_isDearer_34 : decode c_So_isDearer 34 = .ok (.aload_n 0, 1) := by decide +kernel
theorem d_So_isDearer_35 : decode c_So_isDearer 35 = .ok (.getfield 51, 3) := by decide +kernel
theorem d_So_isDearer_38 : decode c_So_isDearer 38 = .ok (.if_icmp .gt 13, 3) := by decide +kernel
theorem d_So_isDearer_41 : decode c_So_isDearer 41 = .ok (.aload_n 0, 1) := by decide +kernel
theorem d_So_isDearer_42 : decode c_So_isDearer 42 = .ok (.getfield 47, 3) := by decide +kernel
theorem d_So_isDearer_45 : decode c_So_isDearer 45 = .ok (.iload 5, 2) := by decide +kernel
theorem d_So_isDearer_47 : decode c_So_isDearer 47 = .ok (.iadd, 1) := by decide +kernel
theorem d_So_isDearer_48 : decode c_So_isDearer 48 = .ok (.goto 12, 3) := by decide +kernel
theorem d_So_isDearer_51 : decode c_So_isDearer 51 = .ok (.iload 5, 2) := by decide +kernel
theorem d_So_isDearer_53 : decode c_So_isDearer 53 = .ok (.aload_n 0, 1) := by decide +kernel
theorem d_So_isDearer_54 : decode c_So_isDearer 54 = .ok (.getfield 51, 3) := by decide +kernel
theorem d_So_isDearer_57 : decode c_So_isDearer 57 = .ok (.isub, 1) := by decide +kernel
theorem d_So_isDearer_58 : decode c_So_isDearer 58 = .ok (.iconst 1, 1) := by decide +kernel
theorem d_So_isDearer_59 : decode c_So_isDearer 59 = .ok (.isub, 1) := by decide +kernel
theorem d_So_isDearer_60 : decode c_So_isDearer 60 = .ok (.istore 6, 2) := by decide +kernel
theorem d_So_isDearer_62 : decode c_So_isDearer 62 = .ok (.aload_n 0, 1) := by decide +kernel
theorem d_So_isDearer_63 : decode c_So_isDearer 63 = .ok (.getfield 17, 3) := by decide +kernel
theorem d_So_isDearer_66 : decode c_So_isDearer 66 = .ok (.iload 6, 2) := by decide +kernel
theorem d_So_isDearer_68 : decode c_So_isDearer 68 = .ok (.iaload, 1) := by decide +kernel
theorem d_So_isDearer_69 : decode c_So_isDearer 69 = .ok (.bipush (-2), 2) := by decide +kernel
theorem d_So_isDearer_71 : decode c_So_isDearer 71 = .ok (.if_icmp .eq 22, 3) := by decide +kernel
theorem d_So_isDearer_74 : decode c_So_isDearer 74 = .ok (.aload_n 0, 1) := by decide +kernel
theorem d_So_isDearer_75 : decode c_So_isDearer 75 = .ok (.aload_n 0, 1) := by decide +kernel
theorem d_So_isDearer_76 : decode c_So_isDearer 76 = .ok (.getfield 17, 3) := by decide +kernel
theorem d_So_isDearer_79 : decode c_So_isDearer 79 = .ok (.iload 6, 2) := by decide +kernel
theorem d_So_isDearer_81 : decode c_So_isDearer 81 = .ok (.iaload, 1) := by decide +kernel
theorem d_So_isDearer_82 : decode c_So_isDearer 82 = .ok (.iload_n 1, 1) := by decide +kernel
theorem d_So_isDearer_83 : decode c_So_isDearer 83 = .ok (.iload_n 2, 1) := by decide +kernel
theorem d_So_isDearer_84 : decode c_So_isDearer 84 = .ok (.iload_n 3, 1) := by decide +kernel
theorem d_So_isDearer_85 : decode c_So_isDearer 85 = .ok (.invokevirtual 112, 3) := by decide +kernel
theorem d_So_isDearer_88 : decode c_So_isDearer 88 = .ok (.istore 4, 2) := by decide +kernel
theorem d_So_isDearer_90 : decode c_So_isDearer 90 = .ok (.goto 34, 3) := by decide +kernel
theorem d_So_isDearer_93 : decode c_So_isDearer 93 = .ok (.aload_n 0, 1) := by decide +kernel
theorem d_So_isDearer_94 : decode c_So_isDearer 94 = .ok (.getfield 21, 3) := by decide +kernel
theorem d_So_isDearer_97 : decode c_So_isDearer 97 = .ok (.iload 6, 2) := by decide +kernel
theorem d_So_isDearer_99 : decode c_So_isDearer 99 = .ok (.iaload, 1) := by decide +kernel
theorem d_So_isDearer_100 : decode c_So_isDearer 100 = .ok (.iload_n 1, 1) := by decide +kernel
theorem d_So_isDearer_101 : decode c_So_isDearer 101 = .ok (.if_icmp .ne 9, 3) := by decide +kernel
theorem d_So_isDearer_104 : decode c_So_isDearer 104 = .ok (.iconst 1, 1) := by decide +kernel
theorem d_So_isDearer_105 : decode c_So_isDearer 105 = .ok (.istore 4, 2) := by decide +kernel
theorem d_So_isDearer_107 : decode c_So_isDearer 107 = .ok (.goto 17, 3) := by decide +kernel
theorem d_So_isDearer_110 : decode c_So_isDearer 110 = .ok (.aload_n 0, 1) := by decide +kernel
theorem d_So_isDearer_111 : decode c_So_isDearer 111 = .ok (.getfield 21, 3) := by decide +kernel
theorem d_So_isDearer_114 : decode c_So_isDearer 114 = .ok (.iload 6, 2) := by decide +kernel
theorem d_So_isDearer_116 : decode c_So_isDearer 116 = .ok (.iaload, 1) := by decide +kernel
theorem d_So_isDearer_117 : decode c_So_isDearer 117 = .ok (.iload_n 2, 1) := by decide +kernel
theorem d_So_isDearer_118 : decode c_So_isDearer 118 = .ok (.if_icmp .ne 6, 3) := by decide +kernel
theorem d_So_isDearer_121 : decode c_So_isDearer 121 = .ok (.iconst (-1), 1) := by decide +kernel
theorem d_So_isDearer_122 : decode c_So_isDearer 122 = .ok (.istore 4, 2) := by decide +kernel
theorem d_So_isDearer_124 : decode c_So_isDearer 124 = .ok (.iinc 5 1, 3) := by decide +kernel
theorem d_So_isDearer_127 : decode c_So_isDearer 127 = .ok (.goto (-114), 3) := by decide +kernel
theorem d_So_isDearer_130 : decode c_So_isDearer 130 = .ok (.iload 4, 2) := by decide +kernel
theorem d_So_isDearer_132 : decode c_So_isDearer 132 = .ok (.ifCond .le 7, 3) := by decide +kernel
theorem d_So_isDearer_135 : decode c_So_isDearer 135 = .ok (.iconst 1, 1) := by decide +kernel
theorem d_So_isDearer_136 : decode c_So_isDearer 136 = .ok (.goto 4, 3) := by decide +kernel
theorem d_So_isDearer_139 : decode c_So_isDearer 139 = .ok (.iconst 0, 1) := by decide +kernel
theorem d_So_isDearer_140 : decode c_So_isDearer 140 = .ok (.ireturn, 1) := by decide +kernel
set_option maxRecDepth 100000 in
set_option maxHeartbeats 16000000 in
/-- isDearer -/
theorem g_So_isDearer (l : Launch) (G : va_G) (k : Nat → ClassId) (h0 : Nat) (s0 sl : Nat) (qj : Nat) (qk : Nat) (qr : Nat) (cea : Nat) (roa : Nat) (coa : Nat) (ura : Nat) (uca : Nat) (au : Nat) (ap : Nat) (al : Nat) (ar : Nat) (ae : Nat) (rw9 : Nat) (C9 : Nat) (fs9 : Nat) (tk9 : Nat) (ro : Nat → Int32) (co : Nat → Int32) (N9 : Nat) (st : Nat → Option wQ) (Z : Nat → Int) (hN : N9 = 3745) (hh : hO st Z) (hU : atO st 3731 au) (hP : atO st 3732 ap) (hL : atO st 3733 al) (hR : atO st 3734 ar) (hE : atO st 3735 ae) (hC : C9 ≤ 40) (hRw : rw9 ≤ 91) (hro : ∀ v, v < C9 → ro v = -2 ∨ ∃ r, r < rw9 ∧ ro v = nI r) (hfs : fs9 + tk9 < C9) (hqr : qr < rw9) (hqj : qj < C9) (hqk : qk < C9) (hjk : qj ≠ qk) : CG l y_So_isDearer c_So_isDearer 7 (some .boolean) { frames := 5, cells := pt st N9 + 400, slots := 2 * pt st N9 + 800, locals := 159 } [.ref h0, .int (nI qj), .int (nI qk), .int (nI qr)] G k s0 sl ([(h0, .inr (1, [.ref cea, .ref roa, .ref coa, .ref ura, .ref uca, .ref au, .ref ap, .ref al, .ref ar, .ref ae, .int (nI rw9), .int (nI C9), .int (nI fs9), .int (nI tk9)])), (cea, .inl (k 4, 3731, .inr (.inr (.inr (.inr (fun j => adO (st j))))))), (roa, .inl (k 0, 40, .inl ro)), (coa, .inl (k 0, 40, .inl co))] ++ (tpl k st N9)) (fun (u : (Nat → Option wQ) × Nat) => some (.int (nI u.2))) (fun (u : (Nat → Option wQ) × Nat) => hO u.1 Z ∧ keO st u.1 ∧ pt u.1 N9 ≤ pt st N9 ∧ u.2 ≤ 1) (fun (u : (Nat → Option wQ) × Nat) => ([(h0, .inr (1, [.ref cea, .ref roa, .ref coa, .ref ura, .ref uca, .ref au, .ref ap, .ref al, .ref ar, .ref ae, .int (nI rw9), .int (nI C9), .int (nI fs9), .int (nI tk9)])), (cea, .inl (k 4, 3731, .inr (.inr (.inr (.inr (fun j => adO (u.1 j))))))), (roa, .inl (k 0, 40, .inl ro)), (coa, .inl (k 0, 40, .inl co))] ++ (tpl k u.1 N9))) (fun (u : (Nat → Option wQ) × Nat) => pt st N9 - pt u.1 N9) (fun (u : (Nat → Option wQ) × Nat) => 2 * (pt st N9 - pt u.1 N9)) (pt st N9 + 400) (2 * pt st N9 + 800) := by
  refine met_startG (by decide) (Nat.le_of_ble_eq_true rfl) ?_
  intro p e s m below meth c C K hA hsz S ls hl
  generalize va_A ([(h0, .inr (1, [.ref cea, .ref roa, .ref coa, .ref ura, .ref uca, .ref au, .ref ap, .ref al, .ref ar, .ref ae, .int (nI rw9), .int (nI C9), .int (nI fs9), .int (nI tk9)])), (cea, .inl (k 4, 3731, .inr (.inr (.inr (.inr (fun j => adO (st j))))))), (roa, .inl (k 0, 40, .inl ro)), (coa, .inl (k 0, 40, .inl co))] ++ (tpl k st N9)) s0 = A at hA S ⊢
  have hx := C.1
  have hb := C.2.1
  have hl : lv_has ls 7 [(0, .ref h0), (1, .int (nI qj)), (2, .int (nI qk)), (3, .int (nI qr))] := hl
  refine lv_aload_n hx hb d_So_isDearer_0 rfl (lv_at hl 0 rfl) ?_
  refine lv_iconst (v := 0) hx hb d_So_isDearer_1 (by decide) ?_
  refine lv_iload_n hx hb d_So_isDearer_2 rfl (lv_at hl 1 rfl) ?_
  refine lv_iload_n hx hb d_So_isDearer_3 rfl (lv_at hl 2 rfl) ?_
  refine lv_iload_n hx hb d_So_isDearer_4 rfl (lv_at hl 3 rfl) ?_
  refine q_backP (wi := [(h0, .inr (1, [.ref cea, .ref roa, .ref coa, .ref ura, .ref uca, .ref au, .ref ap, .ref al, .ref ar, .ref ae, .int (nI rw9), .int (nI C9), .int (nI fs9), .int (nI tk9)])), (cea, .inl (k 4, 3731, .inr (.inr (.inr (.inr (fun j => adO (st j)))))))]) (wr := [(roa, .inl (k 0, 40, .inl ro)), (coa, .inl (k 0, 40, .inl co))]) S hA [0, 1] [2, 3] rfl rfl (by decide) (by decide) (va_runV (As := [.int 0, .int (nI qj), .int (nI qk), .int (nI qr)]) (rest := []) ⟨hx, hb, C.2.2.1, C.2.2.2.1, C.2.2.2.2.1⟩ (g_So_compareIn l G k h0 _ _ 0 qj qk qr cea roa coa ura uca au ap al ar ae rw9 C9 fs9 tk9 N9 st Z hN ⟨hh.1, hh.2⟩ hU hP hL hR hE (by omega) (by omega) (by omega) (by omega) (by omega) (by omega) (by omega)) (k_virt (n := 4) C wc_So_compareIn rfl rfl wz_So wm_So_112 wn_So_compareIn ws_So_compareIn (by decide +kernel) ⟨(Nat.le_of_ble_eq_true rfl), (Nat.le_of_ble_eq_true rfl)⟩) (pr_nowVGP K S [0, 1] (by decide) rfl (List.mem_append_left _ (List.mem_of_getElem? (i := 0) rfl)) rfl) rfl rfl hl.1 rfl (lv_room (Nat.le_of_ble_eq_true rfl)) d_So_isDearer_5 ⟨(show 0 + (pt st N9 + 400) ≤ pt st N9 + 400 from by omega), (show 0 + (2 * pt st N9 + 800) ≤ 2 * pt st N9 + 800 from by omega)⟩) (fun c1 H locs hw2 S => ?_)
  have S : Sw G A s.heap _ _ ([(roa, .inl (k 0, 40, .inl ro)), (coa, .inl (k 0, 40, .inl co)), (h0, .inr (1, [.ref cea, .ref roa, .ref coa, .ref ura, .ref uca, .ref au, .ref ap, .ref al, .ref ar, .ref ae, .int (nI rw9), .int (nI C9), .int (nI fs9), .int (nI tk9)])), (cea, .inl (k 4, 3731, .inr (.inr (.inr (.inr (fun j => adO (c1.1 j)))))))] ++ (tpl k c1.1 N9)) := S
  have hw2 : hO c1.1 Z ∧ keO st c1.1 ∧ pt c1.1 N9 ≤ pt st N9 := hw2
  show W p l e _ s m _ below meth c H locs _ _ _ (F0 m 8 ls [.int c1.2])
  obtain ⟨hh3, ke4, pt5⟩ := hw2
  refine lv_istore (lv' := [(4, .int c1.2), (0, .ref h0), (1, .int (nI qj)), (2, .int (nI qk)), (3, .int (nI qr))]) hx hb d_So_isDearer_8 hl (by decide) rfl (fun ls hl => ?_)
  refine lv_iconst (v := 0) hx hb d_So_isDearer_10 (by decide) ?_
  refine lv_istore (lv' := [(5, .int 0), (4, .int c1.2), (0, .ref h0), (1, .int (nI qj)), (2, .int (nI qk)), (3, .int (nI qr))]) hx hb d_So_isDearer_11 hl (by decide) rfl (fun ls hl => ?_)
  have hz9 : hO c1.1 Z := ⟨hh3.1, hh3.2⟩
  refine W.widen (show 0 + (pt st N9 - pt c1.1 N9) ≤ pt st N9 - pt c1.1 N9 from by omega) (show 0 + (2 * (pt st N9 - pt c1.1 N9)) ≤ 2 * (pt st N9 - pt c1.1 N9) from by omega) ?_
  have lp : ∀ d9, ∀ (s8 : Nat → Option wQ), ∀ (o8 : Int32), ∀ (i9 : Nat), (tk9 + C9 + 1 - i9) < d9 → (hO s8 Z) → (keO st s8) → (pt s8 N9 ≤ pt st N9) → (i9 ≤ tk9 + C9 + 1) → ∀ (H : Heap) (locs : List Loc), Sw G A s.heap H locs ([(h0, .inr (1, [.ref cea, .ref roa, .ref coa, .ref ura, .ref uca, .ref au, .ref ap, .ref al, .ref ar, .ref ae, .int (nI rw9), .int (nI C9), .int (nI fs9), .int (nI tk9)])), (cea, .inl (k 4, 3731, .inr (.inr (.inr (.inr (fun j => adO (s8 j))))))), (roa, .inl (k 0, 40, .inl ro)), (coa, .inl (k 0, 40, .inl co))] ++ (tpl k s8 N9)) → ∀ ls : Array Slot, lv_has ls 7 [(4, .int o8), (5, .int (nI i9)), (0, .ref h0), (1, .int (nI qj)), (2, .int (nI qk)), (3, .int (nI qr))] → W p l e { frames := 5, cells := pt st N9 + 400, slots := 2 * pt st N9 + 800, locals := 159 } s m [Value.ref h0, Value.int (nI qj), Value.int (nI qk), Value.int (nI qr)].toArray below meth c H locs (pt st N9 - pt s8 N9) (2 * (pt st N9 - pt s8 N9)) (MQ below (va_Qg (fun (u : (Nat → Option wQ) × Nat) => some (.int (nI u.2))) (fun (u : (Nat → Option wQ) × Nat) => hO u.1 Z ∧ keO st u.1 ∧ pt u.1 N9 ≤ pt st N9 ∧ u.2 ≤ 1) (Pog G k A (fun (u : (Nat → Option wQ) × Nat) => ([(h0, .inr (1, [.ref cea, .ref roa, .ref coa, .ref ura, .ref uca, .ref au, .ref ap, .ref al, .ref ar, .ref ae, .int (nI rw9), .int (nI C9), .int (nI fs9), .int (nI tk9)])), (cea, .inl (k 4, 3731, .inr (.inr (.inr (.inr (fun j => adO (u.1 j))))))), (roa, .inl (k 0, 40, .inl ro)), (coa, .inl (k 0, 40, .inl co))] ++ (tpl k u.1 N9))) s0 sl (fun (u : (Nat → Option wQ) × Nat) => pt st N9 - pt u.1 N9) (fun (u : (Nat → Option wQ) × Nat) => 2 * (pt st N9 - pt u.1 N9))) A) [Value.ref h0, Value.int (nI qj), Value.int (nI qk), Value.int (nI qr)].toArray s (pt st N9 + 400) (2 * pt st N9 + 800) A) (F0 m 13 ls []) := by
    intro d9
    induction d9 with
    | zero => intro s8 o8 i9 hm; exact absurd hm (Nat.not_lt_zero _)
    | succ d9 ih_lp =>
      intro s8 o8 i9 hm hh8 hke8 hpt8 hi H locs S ls hl
      refine lv_iload hx hb d_So_isDearer_13 (lv_at hl 0 rfl) ?_
      refine lv_if_ne (tgt := 130) hx hb d_So_isDearer_15 (by decide) (fun hc6 => ?_) (fun hc6 => ?_)
      · refine lv_iload hx hb d_So_isDearer_130 (lv_at hl 0 rfl) ?_
        refine lv_if_le (tgt := 139) hx hb d_So_isDearer_132 (by decide) (fun hc7 => ?_) (fun hc7 => ?_)
        · refine lv_iconst (v := 0) hx hb d_So_isDearer_139 (by decide) ?_
          exact q_iret C K hsz rfl (s8, 0) rfl (show hO s8 Z ∧ keO st s8 ∧ pt s8 N9 ≤ pt st N9 ∧ 0 ≤ 1 from ⟨hh8, hke8, hpt8, by decide⟩) (S.subP [0, 1, 2, 3] (by decide) rfl) d_So_isDearer_140 (show pt st N9 - pt s8 N9 ≤ pt st N9 - pt s8 N9 from by omega) (show 2 * (pt st N9 - pt s8 N9) ≤ 2 * (pt st N9 - pt s8 N9) from by omega) (show pt st N9 - pt s8 N9 ≤ pt st N9 + 400 from by omega) (show 2 * (pt st N9 - pt s8 N9) ≤ 2 * pt st N9 + 800 from by omega)
        · refine lv_iconst (v := 1) hx hb d_So_isDearer_135 (by decide) ?_
          refine lv_goto (tgt := 140) hx hb d_So_isDearer_136 (by decide) ?_
          exact q_iret C K hsz rfl (s8, 1) rfl (show hO s8 Z ∧ keO st s8 ∧ pt s8 N9 ≤ pt st N9 ∧ 1 ≤ 1 from ⟨hh8, hke8, hpt8, by decide⟩) (S.subP [0, 1, 2, 3] (by decide) rfl) d_So_isDearer_140 (show pt st N9 - pt s8 N9 ≤ pt st N9 - pt s8 N9 from by omega) (show 2 * (pt st N9 - pt s8 N9) ≤ 2 * (pt st N9 - pt s8 N9) from by omega) (show pt st N9 - pt s8 N9 ≤ pt st N9 + 400 from by omega) (show 2 * (pt st N9 - pt s8 N9) ≤ 2 * pt st N9 + 800 from by omega)
      · refine lv_iload hx hb d_So_isDearer_18 (lv_at hl 1 rfl) ?_
        refine lv_aload_n hx hb d_So_isDearer_20 rfl (lv_at hl 2 rfl) ?_
        refine r_get C K S 0 rfl rfl clOk_So 13 (by decide) wf_So_51 (v := .int (nI tk9)) rfl d_So_isDearer_21 ?_
        refine lv_aload_n hx hb d_So_isDearer_24 rfl (lv_at hl 2 rfl) ?_
        refine r_get C K S 0 rfl rfl clOk_So 11 (by decide) wf_So_59 (v := .int (nI C9)) rfl d_So_isDearer_25 ?_
        refine z_iadd (x := nI tk9) (y := nI C9) (v := nI (tk9 + C9)) hx hb d_So_isDearer_28 (nI_add tk9 C9) ?_
        refine z_icmp_gt (a := i9) (b := (tk9 + C9)) (tgt := 130) hx hb d_So_isDearer_29 (by decide) (by omega) (by omega) (fun hc8 => ?_) (fun hc8 => ?_)
        · refine lv_iload hx hb d_So_isDearer_130 (lv_at hl 0 rfl) ?_
          refine lv_if_le (tgt := 139) hx hb d_So_isDearer_132 (by decide) (fun hc9 => ?_) (fun hc9 => ?_)
          · refine lv_iconst (v := 0) hx hb d_So_isDearer_139 (by decide) ?_
            exact q_iret C K hsz rfl (s8, 0) rfl (show hO s8 Z ∧ keO st s8 ∧ pt s8 N9 ≤ pt st N9 ∧ 0 ≤ 1 from ⟨hh8, hke8, hpt8, by decide⟩) (S.subP [0, 1, 2, 3] (by decide) rfl) d_So_isDearer_140 (show pt st N9 - pt s8 N9 ≤ pt st N9 - pt s8 N9 from by omega) (show 2 * (pt st N9 - pt s8 N9) ≤ 2 * (pt st N9 - pt s8 N9) from by omega) (show pt st N9 - pt s8 N9 ≤ pt st N9 + 400 from by omega) (show 2 * (pt st N9 - pt s8 N9) ≤ 2 * pt st N9 + 800 from by omega)
          · refine lv_iconst (v := 1) hx hb d_So_isDearer_135 (by decide) ?_
            refine lv_goto (tgt := 140) hx hb d_So_isDearer_136 (by decide) ?_
            exact q_iret C K hsz rfl (s8, 1) rfl (show hO s8 Z ∧ keO st s8 ∧ pt s8 N9 ≤ pt st N9 ∧ 1 ≤ 1 from ⟨hh8, hke8, hpt8, by decide⟩) (S.subP [0, 1, 2, 3] (by decide) rfl) d_So_isDearer_140 (show pt st N9 - pt s8 N9 ≤ pt st N9 - pt s8 N9 from by omega) (show 2 * (pt st N9 - pt s8 N9) ≤ 2 * (pt st N9 - pt s8 N9) from by omega) (show pt st N9 - pt s8 N9 ≤ pt st N9 + 400 from by omega) (show 2 * (pt st N9 - pt s8 N9) ≤ 2 * pt st N9 + 800 from by omega)
        · refine lv_iload hx hb d_So_isDearer_32 (lv_at hl 1 rfl) ?_
          refine lv_aload_n hx hb d_So_isDearer_34 rfl (lv_at hl 2 rfl) ?_
          refine r_get C K S 0 rfl rfl clOk_So 13 (by decide) wf_So_51 (v := .int (nI tk9)) rfl d_So_isDearer_35 ?_
          refine z_icmp_gt (a := i9) (b := tk9) (tgt := 51) hx hb d_So_isDearer_38 (by decide) (by omega) (by omega) (fun hc10 => ?_) (fun hc10 => ?_)
          · refine lv_iload hx hb d_So_isDearer_51 (lv_at hl 1 rfl) ?_
            refine lv_aload_n hx hb d_So_isDearer_53 rfl (lv_at hl 2 rfl) ?_
            refine r_get C K S 0 rfl rfl clOk_So 13 (by decide) wf_So_51 (v := .int (nI tk9)) rfl d_So_isDearer_54 ?_
            refine z_isub (x := nI i9) (y := nI tk9) (v := nI (i9 - tk9)) hx hb d_So_isDearer_57 (pk_sub (a := i9) (b := tk9) (by omega)) ?_
            refine lv_iconst (v := 1) hx hb d_So_isDearer_58 (by decide) ?_
            refine z_isub (x := nI (i9 - tk9)) (y := 1) (v := nI (i9 - tk9 - 1)) hx hb d_So_isDearer_59 (pk_sub (a := (i9 - tk9)) (b := 1) (by omega)) ?_
            refine lv_istore (lv' := [(6, .int (nI (i9 - tk9 - 1))), (4, .int o8), (5, .int (nI i9)), (0, .ref h0), (1, .int (nI qj)), (2, .int (nI qk)), (3, .int (nI qr))]) hx hb d_So_isDearer_60 hl (by decide) rfl (fun ls hl => ?_)
            refine lv_aload_n hx hb d_So_isDearer_62 rfl (lv_at hl 3 rfl) ?_
            refine r_get C K S 0 rfl rfl clOk_So 1 (by decide) wf_So_17 (v := .ref roa) rfl d_So_isDearer_63 ?_
            refine lv_iload hx hb d_So_isDearer_66 (lv_at hl 0 rfl) ?_
            refine r_iald C K S 2 rfl (i := nI (i9 - tk9 - 1)) (show vp_in (nI (i9 - tk9 - 1)) _ from vp_in_nI (n := (i9 - tk9 - 1)) (by omega) (by decide)) (v := ro (i9 - tk9 - 1)) (by rw [nI_clamp (by omega)]) d_So_isDearer_68 ?_
            refine lv_bipush (v := (-2)) hx hb d_So_isDearer_69 (by decide) ?_
            refine lv_icmp_eq (tgt := 93) hx hb d_So_isDearer_71 (by decide) (fun hc11 => ?_) (fun hc11 => ?_)
            · refine lv_aload_n hx hb d_So_isDearer_93 rfl (lv_at hl 3 rfl) ?_
              refine r_get C K S 0 rfl rfl clOk_So 2 (by decide) wf_So_21 (v := .ref coa) rfl d_So_isDearer_94 ?_
              refine lv_iload hx hb d_So_isDearer_97 (lv_at hl 0 rfl) ?_
              refine r_iald C K S 3 rfl (i := nI (i9 - tk9 - 1)) (show vp_in (nI (i9 - tk9 - 1)) _ from vp_in_nI (n := (i9 - tk9 - 1)) (by omega) (by decide)) (v := co (i9 - tk9 - 1)) (by rw [nI_clamp (by omega)]) d_So_isDearer_99 ?_
              refine lv_iload_n hx hb d_So_isDearer_100 rfl (lv_at hl 4 rfl) ?_
              refine lv_icmp_ne (tgt := 110) hx hb d_So_isDearer_101 (by decide) (fun hc12 => ?_) (fun hc12 => ?_)
              · refine lv_aload_n hx hb d_So_isDearer_110 rfl (lv_at hl 3 rfl) ?_
                refine r_get C K S 0 rfl rfl clOk_So 2 (by decide) wf_So_21 (v := .ref coa) rfl d_So_isDearer_111 ?_
                refine lv_iload hx hb d_So_isDearer_114 (lv_at hl 0 rfl) ?_
                refine r_iald C K S 3 rfl (i := nI (i9 - tk9 - 1)) (show vp_in (nI (i9 - tk9 - 1)) _ from vp_in_nI (n := (i9 - tk9 - 1)) (by omega) (by decide)) (v := co (i9 - tk9 - 1)) (by rw [nI_clamp (by omega)]) d_So_isDearer_116 ?_
                refine lv_iload_n hx hb d_So_isDearer_117 rfl (lv_at hl 5 rfl) ?_
                refine lv_icmp_ne (tgt := 124) hx hb d_So_isDearer_118 (by decide) (fun hc13 => ?_) (fun hc13 => ?_)
                · refine lv_iinc (v := nI (i9 + 1)) (lv' := [(5, .int (nI (i9 + 1))), (6, .int (nI (i9 - tk9 - 1))), (4, .int o8), (0, .ref h0), (1, .int (nI qj)), (2, .int (nI qk)), (3, .int (nI qr))]) hx hb d_So_isDearer_124 hl (k := 2) rfl (show nI i9 + Int32.ofInt 1 = nI (i9 + 1) from (nI_add i9 1).trans (congrArg nI (by omega))) (by decide) rfl (fun ls hl => ?_)
                  refine lv_goto (tgt := 13) hx hb d_So_isDearer_127 (by decide) ?_
                  have hq8 : hO s8 Z := ⟨hh8.1, hh8.2⟩
                  exact ih_lp s8 o8 (i9 + 1) (by omega) hq8 hke8 (by omega) (by omega) _ _ (S.subP [0, 1, 2, 3] (by decide) rfl) ls (lv_sub hl [2, 0, 3, 4, 5, 6] rfl)
                · refine lv_iconst (v := (-1)) hx hb d_So_isDearer_121 (by decide) ?_
                  refine lv_istore (lv' := [(4, .int (-1)), (6, .int (nI (i9 - tk9 - 1))), (5, .int (nI i9)), (0, .ref h0), (1, .int (nI qj)), (2, .int (nI qk)), (3, .int (nI qr))]) hx hb d_So_isDearer_122 hl (by decide) rfl (fun ls hl => ?_)
                  refine lv_iinc (v := nI (i9 + 1)) (lv' := [(5, .int (nI (i9 + 1))), (4, .int (-1)), (6, .int (nI (i9 - tk9 - 1))), (0, .ref h0), (1, .int (nI qj)), (2, .int (nI qk)), (3, .int (nI qr))]) hx hb d_So_isDearer_124 hl (k := 2) rfl (show nI i9 + Int32.ofInt 1 = nI (i9 + 1) from (nI_add i9 1).trans (congrArg nI (by omega))) (by decide) rfl (fun ls hl => ?_)
                  refine lv_goto (tgt := 13) hx hb d_So_isDearer_127 (by decide) ?_
                  have hq8 : hO s8 Z := ⟨hh8.1, hh8.2⟩
                  exact ih_lp s8 (-1) (i9 + 1) (by omega) hq8 hke8 (by omega) (by omega) _ _ (S.subP [0, 1, 2, 3] (by decide) rfl) ls (lv_sub hl [1, 0, 3, 4, 5, 6] rfl)
              · refine lv_iconst (v := 1) hx hb d_So_isDearer_104 (by decide) ?_
                refine lv_istore (lv' := [(4, .int 1), (6, .int (nI (i9 - tk9 - 1))), (5, .int (nI i9)), (0, .ref h0), (1, .int (nI qj)), (2, .int (nI qk)), (3, .int (nI qr))]) hx hb d_So_isDearer_105 hl (by decide) rfl (fun ls hl => ?_)
                refine lv_goto (tgt := 124) hx hb d_So_isDearer_107 (by decide) ?_
                refine lv_iinc (v := nI (i9 + 1)) (lv' := [(5, .int (nI (i9 + 1))), (4, .int 1), (6, .int (nI (i9 - tk9 - 1))), (0, .ref h0), (1, .int (nI qj)), (2, .int (nI qk)), (3, .int (nI qr))]) hx hb d_So_isDearer_124 hl (k := 2) rfl (show nI i9 + Int32.ofInt 1 = nI (i9 + 1) from (nI_add i9 1).trans (congrArg nI (by omega))) (by decide) rfl (fun ls hl => ?_)
                refine lv_goto (tgt := 13) hx hb d_So_isDearer_127 (by decide) ?_
                have hq8 : hO s8 Z := ⟨hh8.1, hh8.2⟩
                exact ih_lp s8 1 (i9 + 1) (by omega) hq8 hke8 (by omega) (by omega) _ _ (S.subP [0, 1, 2, 3] (by decide) rfl) ls (lv_sub hl [1, 0, 3, 4, 5, 6] rfl)
            · obtain ⟨r8, l8, e8⟩ := (hro _ (show (i9 - tk9 - 1) < C9 by omega)).resolve_left hc11
              refine lv_aload_n hx hb d_So_isDearer_74 rfl (lv_at hl 3 rfl) ?_
              refine lv_aload_n hx hb d_So_isDearer_75 rfl (lv_at hl 3 rfl) ?_
              refine r_get C K S 0 rfl rfl clOk_So 1 (by decide) wf_So_17 (v := .ref roa) rfl d_So_isDearer_76 ?_
              refine lv_iload hx hb d_So_isDearer_79 (lv_at hl 0 rfl) ?_
              refine r_iald C K S 2 rfl (i := nI (i9 - tk9 - 1)) (show vp_in (nI (i9 - tk9 - 1)) _ from vp_in_nI (n := (i9 - tk9 - 1)) (by omega) (by decide)) (v := ro (i9 - tk9 - 1)) (by rw [nI_clamp (by omega)]) d_So_isDearer_81 ?_
              refine z_topi (y := nI r8) e8 ?_
              refine lv_iload_n hx hb d_So_isDearer_82 rfl (lv_at hl 4 rfl) ?_
              refine lv_iload_n hx hb d_So_isDearer_83 rfl (lv_at hl 5 rfl) ?_
              refine lv_iload_n hx hb d_So_isDearer_84 rfl (lv_at hl 6 rfl) ?_
              refine q_backP (wi := [(h0, .inr (1, [.ref cea, .ref roa, .ref coa, .ref ura, .ref uca, .ref au, .ref ap, .ref al, .ref ar, .ref ae, .int (nI rw9), .int (nI C9), .int (nI fs9), .int (nI tk9)])), (cea, .inl (k 4, 3731, .inr (.inr (.inr (.inr (fun j => adO (s8 j)))))))]) (wr := [(roa, .inl (k 0, 40, .inl ro)), (coa, .inl (k 0, 40, .inl co))]) S hA [0, 1] [2, 3] rfl rfl (by decide) (by decide) (va_runV (As := [.int (nI r8), .int (nI qj), .int (nI qk), .int (nI qr)]) (rest := []) ⟨hx, hb, C.2.2.1, C.2.2.2.1, C.2.2.2.2.1⟩ (g_So_compareIn l G k h0 _ _ r8 qj qk qr cea roa coa ura uca au ap al ar ae rw9 C9 fs9 tk9 N9 s8 Z hN ⟨hh8.1, hh8.2⟩ (hke8.at hU) (hke8.at hP) (hke8.at hL) (hke8.at hR) (hke8.at hE) (by omega) (by omega) (by omega) (by omega) (by omega) (by omega) (by omega)) (k_virt (n := 4) C wc_So_compareIn rfl rfl wz_So wm_So_112 wn_So_compareIn ws_So_compareIn (by decide +kernel) ⟨(Nat.le_of_ble_eq_true rfl), (Nat.le_of_ble_eq_true rfl)⟩) (pr_nowVGP K S [0, 1] (by decide) rfl (List.mem_append_left _ (List.mem_of_getElem? (i := 0) rfl)) rfl) rfl rfl hl.1 rfl (lv_room (Nat.le_of_ble_eq_true rfl)) d_So_isDearer_85 ⟨(show pt st N9 - pt s8 N9 + (pt s8 N9 + 400) ≤ pt st N9 + 400 from by omega), (show 2 * (pt st N9 - pt s8 N9) + (2 * pt s8 N9 + 800) ≤ 2 * pt st N9 + 800 from by omega)⟩) (fun c14 H locs hw15 S => ?_)
              have S : Sw G A s.heap _ _ ([(roa, .inl (k 0, 40, .inl ro)), (coa, .inl (k 0, 40, .inl co)), (h0, .inr (1, [.ref cea, .ref roa, .ref coa, .ref ura, .ref uca, .ref au, .ref ap, .ref al, .ref ar, .ref ae, .int (nI rw9), .int (nI C9), .int (nI fs9), .int (nI tk9)])), (cea, .inl (k 4, 3731, .inr (.inr (.inr (.inr (fun j => adO (c14.1 j)))))))] ++ (tpl k c14.1 N9)) := S
              have hw15 : hO c14.1 Z ∧ keO s8 c14.1 ∧ pt c14.1 N9 ≤ pt s8 N9 := hw15
              show W p l e _ s m _ below meth c H locs _ _ _ (F0 m 88 ls [.int c14.2])
              obtain ⟨hh16, ke17, pt18⟩ := hw15
              refine lv_istore (lv' := [(4, .int c14.2), (6, .int (nI (i9 - tk9 - 1))), (5, .int (nI i9)), (0, .ref h0), (1, .int (nI qj)), (2, .int (nI qk)), (3, .int (nI qr))]) hx hb d_So_isDearer_88 hl (by decide) rfl (fun ls hl => ?_)
              refine lv_goto (tgt := 124) hx hb d_So_isDearer_90 (by decide) ?_
              refine lv_iinc (v := nI (i9 + 1)) (lv' := [(5, .int (nI (i9 + 1))), (4, .int c14.2), (6, .int (nI (i9 - tk9 - 1))), (0, .ref h0), (1, .int (nI qj)), (2, .int (nI qk)), (3, .int (nI qr))]) hx hb d_So_isDearer_124 hl (k := 2) rfl (show nI i9 + Int32.ofInt 1 = nI (i9 + 1) from (nI_add i9 1).trans (congrArg nI (by omega))) (by decide) rfl (fun ls hl => ?_)
              refine lv_goto (tgt := 13) hx hb d_So_isDearer_127 (by decide) ?_
              have hq8 : hO c14.1 Z := ⟨hh16.1, hh16.2⟩
              refine W.widen (show pt st N9 - pt s8 N9 + (pt s8 N9 - pt c14.1 N9) ≤ pt st N9 - pt c14.1 N9 from by omega) (show 2 * (pt st N9 - pt s8 N9) + (2 * (pt s8 N9 - pt c14.1 N9)) ≤ 2 * (pt st N9 - pt c14.1 N9) from by omega) ?_
              exact ih_lp c14.1 c14.2 (i9 + 1) (by omega) hq8 (hke8.tr ke17) (by omega) (by omega) _ _ (S.subP [2, 3, 0, 1] (by decide) rfl) ls (lv_sub hl [1, 0, 3, 4, 5, 6] rfl)
          · refine lv_aload_n hx hb d_So_isDearer_41 rfl (lv_at hl 2 rfl) ?_
            refine r_get C K S 0 rfl rfl clOk_So 12 (by decide) wf_So_47 (v := .int (nI fs9)) rfl d_So_isDearer_42 ?_
            refine lv_iload hx hb d_So_isDearer_45 (lv_at hl 1 rfl) ?_
            refine z_iadd (x := nI fs9) (y := nI i9) (v := nI (fs9 + i9)) hx hb d_So_isDearer_47 (nI_add fs9 i9) ?_
            refine lv_goto (tgt := 60) hx hb d_So_isDearer_48 (by decide) ?_
            refine lv_istore (lv' := [(6, .int (nI (fs9 + i9))), (4, .int o8), (5, .int (nI i9)), (0, .ref h0), (1, .int (nI qj)), (2, .int (nI qk)), (3, .int (nI qr))]) hx hb d_So_isDearer_60 hl (by decide) rfl (fun ls hl => ?_)
            refine lv_aload_n hx hb d_So_isDearer_62 rfl (lv_at hl 3 rfl) ?_
            refine r_get C K S 0 rfl rfl clOk_So 1 (by decide) wf_So_17 (v := .ref roa) rfl d_So_isDearer_63 ?_
            refine lv_iload hx hb d_So_isDearer_66 (lv_at hl 0 rfl) ?_
            refine r_iald C K S 2 rfl (i := nI (fs9 + i9)) (show vp_in (nI (fs9 + i9)) _ from vp_in_nI (n := (fs9 + i9)) (by omega) (by decide)) (v := ro (fs9 + i9)) (by rw [nI_clamp (by omega)]) d_So_isDearer_68 ?_
            refine lv_bipush (v := (-2)) hx hb d_So_isDearer_69 (by decide) ?_
            refine lv_icmp_eq (tgt := 93) hx hb d_So_isDearer_71 (by decide) (fun hc19 => ?_) (fun hc19 => ?_)
            · refine lv_aload_n hx hb d_So_isDearer_93 rfl (lv_at hl 3 rfl) ?_
              refine r_get C K S 0 rfl rfl clOk_So 2 (by decide) wf_So_21 (v := .ref coa) rfl d_So_isDearer_94 ?_
              refine lv_iload hx hb d_So_isDearer_97 (lv_at hl 0 rfl) ?_
              refine r_iald C K S 3 rfl (i := nI (fs9 + i9)) (show vp_in (nI (fs9 + i9)) _ from vp_in_nI (n := (fs9 + i9)) (by omega) (by decide)) (v := co (fs9 + i9)) (by rw [nI_clamp (by omega)]) d_So_isDearer_99 ?_
              refine lv_iload_n hx hb d_So_isDearer_100 rfl (lv_at hl 4 rfl) ?_
              refine lv_icmp_ne (tgt := 110) hx hb d_So_isDearer_101 (by decide) (fun hc20 => ?_) (fun hc20 => ?_)
              · refine lv_aload_n hx hb d_So_isDearer_110 rfl (lv_at hl 3 rfl) ?_
                refine r_get C K S 0 rfl rfl clOk_So 2 (by decide) wf_So_21 (v := .ref coa) rfl d_So_isDearer_111 ?_
                refine lv_iload hx hb d_So_isDearer_114 (lv_at hl 0 rfl) ?_
                refine r_iald C K S 3 rfl (i := nI (fs9 + i9)) (show vp_in (nI (fs9 + i9)) _ from vp_in_nI (n := (fs9 + i9)) (by omega) (by decide)) (v := co (fs9 + i9)) (by rw [nI_clamp (by omega)]) d_So_isDearer_116 ?_
                refine lv_iload_n hx hb d_So_isDearer_117 rfl (lv_at hl 5 rfl) ?_
                refine lv_icmp_ne (tgt := 124) hx hb d_So_isDearer_118 (by decide) (fun hc21 => ?_) (fun hc21 => ?_)
                · refine lv_iinc (v := nI (i9 + 1)) (lv' := [(5, .int (nI (i9 + 1))), (6, .int (nI (fs9 + i9))), (4, .int o8), (0, .ref h0), (1, .int (nI qj)), (2, .int (nI qk)), (3, .int (nI qr))]) hx hb d_So_isDearer_124 hl (k := 2) rfl (show nI i9 + Int32.ofInt 1 = nI (i9 + 1) from (nI_add i9 1).trans (congrArg nI (by omega))) (by decide) rfl (fun ls hl => ?_)
                  refine lv_goto (tgt := 13) hx hb d_So_isDearer_127 (by decide) ?_
                  have hq8 : hO s8 Z := ⟨hh8.1, hh8.2⟩
                  exact ih_lp s8 o8 (i9 + 1) (by omega) hq8 hke8 (by omega) (by omega) _ _ (S.subP [0, 1, 2, 3] (by decide) rfl) ls (lv_sub hl [2, 0, 3, 4, 5, 6] rfl)
                · refine lv_iconst (v := (-1)) hx hb d_So_isDearer_121 (by decide) ?_
                  refine lv_istore (lv' := [(4, .int (-1)), (6, .int (nI (fs9 + i9))), (5, .int (nI i9)), (0, .ref h0), (1, .int (nI qj)), (2, .int (nI qk)), (3, .int (nI qr))]) hx hb d_So_isDearer_122 hl (by decide) rfl (fun ls hl => ?_)
                  refine lv_iinc (v := nI (i9 + 1)) (lv' := [(5, .int (nI (i9 + 1))), (4, .int (-1)), (6, .int (nI (fs9 + i9))), (0, .ref h0), (1, .int (nI qj)), (2, .int (nI qk)), (3, .int (nI qr))]) hx hb d_So_isDearer_124 hl (k := 2) rfl (show nI i9 + Int32.ofInt 1 = nI (i9 + 1) from (nI_add i9 1).trans (congrArg nI (by omega))) (by decide) rfl (fun ls hl => ?_)
                  refine lv_goto (tgt := 13) hx hb d_So_isDearer_127 (by decide) ?_
                  have hq8 : hO s8 Z := ⟨hh8.1, hh8.2⟩
                  exact ih_lp s8 (-1) (i9 + 1) (by omega) hq8 hke8 (by omega) (by omega) _ _ (S.subP [0, 1, 2, 3] (by decide) rfl) ls (lv_sub hl [1, 0, 3, 4, 5, 6] rfl)
              · refine lv_iconst (v := 1) hx hb d_So_isDearer_104 (by decide) ?_
                refine lv_istore (lv' := [(4, .int 1), (6, .int (nI (fs9 + i9))), (5, .int (nI i9)), (0, .ref h0), (1, .int (nI qj)), (2, .int (nI qk)), (3, .int (nI qr))]) hx hb d_So_isDearer_105 hl (by decide) rfl (fun ls hl => ?_)
                refine lv_goto (tgt := 124) hx hb d_So_isDearer_107 (by decide) ?_
                refine lv_iinc (v := nI (i9 + 1)) (lv' := [(5, .int (nI (i9 + 1))), (4, .int 1), (6, .int (nI (fs9 + i9))), (0, .ref h0), (1, .int (nI qj)), (2, .int (nI qk)), (3, .int (nI qr))]) hx hb d_So_isDearer_124 hl (k := 2) rfl (show nI i9 + Int32.ofInt 1 = nI (i9 + 1) from (nI_add i9 1).trans (congrArg nI (by omega))) (by decide) rfl (fun ls hl => ?_)
                refine lv_goto (tgt := 13) hx hb d_So_isDearer_127 (by decide) ?_
                have hq8 : hO s8 Z := ⟨hh8.1, hh8.2⟩
                exact ih_lp s8 1 (i9 + 1) (by omega) hq8 hke8 (by omega) (by omega) _ _ (S.subP [0, 1, 2, 3] (by decide) rfl) ls (lv_sub hl [1, 0, 3, 4, 5, 6] rfl)
            · obtain ⟨r8, l8, e8⟩ := (hro _ (show (fs9 + i9) < C9 by omega)).resolve_left hc19
              refine lv_aload_n hx hb d_So_isDearer_74 rfl (lv_at hl 3 rfl) ?_
              refine lv_aload_n hx hb d_So_isDearer_75 rfl (lv_at hl 3 rfl) ?_
              refine r_get C K S 0 rfl rfl clOk_So 1 (by decide) wf_So_17 (v := .ref roa) rfl d_So_isDearer_76 ?_
              refine lv_iload hx hb d_So_isDearer_79 (lv_at hl 0 rfl) ?_
              refine r_iald C K S 2 rfl (i := nI (fs9 + i9)) (show vp_in (nI (fs9 + i9)) _ from vp_in_nI (n := (fs9 + i9)) (by omega) (by decide)) (v := ro (fs9 + i9)) (by rw [nI_clamp (by omega)]) d_So_isDearer_81 ?_
              refine z_topi (y := nI r8) e8 ?_
              refine lv_iload_n hx hb d_So_isDearer_82 rfl (lv_at hl 4 rfl) ?_
              refine lv_iload_n hx hb d_So_isDearer_83 rfl (lv_at hl 5 rfl) ?_
              refine lv_iload_n hx hb d_So_isDearer_84 rfl (lv_at hl 6 rfl) ?_
              refine q_backP (wi := [(h0, .inr (1, [.ref cea, .ref roa, .ref coa, .ref ura, .ref uca, .ref au, .ref ap, .ref al, .ref ar, .ref ae, .int (nI rw9), .int (nI C9), .int (nI fs9), .int (nI tk9)])), (cea, .inl (k 4, 3731, .inr (.inr (.inr (.inr (fun j => adO (s8 j)))))))]) (wr := [(roa, .inl (k 0, 40, .inl ro)), (coa, .inl (k 0, 40, .inl co))]) S hA [0, 1] [2, 3] rfl rfl (by decide) (by decide) (va_runV (As := [.int (nI r8), .int (nI qj), .int (nI qk), .int (nI qr)]) (rest := []) ⟨hx, hb, C.2.2.1, C.2.2.2.1, C.2.2.2.2.1⟩ (g_So_compareIn l G k h0 _ _ r8 qj qk qr cea roa coa ura uca au ap al ar ae rw9 C9 fs9 tk9 N9 s8 Z hN ⟨hh8.1, hh8.2⟩ (hke8.at hU) (hke8.at hP) (hke8.at hL) (hke8.at hR) (hke8.at hE) (by omega) (by omega) (by omega) (by omega) (by omega) (by omega) (by omega)) (k_virt (n := 4) C wc_So_compareIn rfl rfl wz_So wm_So_112 wn_So_compareIn ws_So_compareIn (by decide +kernel) ⟨(Nat.le_of_ble_eq_true rfl), (Nat.le_of_ble_eq_true rfl)⟩) (pr_nowVGP K S [0, 1] (by decide) rfl (List.mem_append_left _ (List.mem_of_getElem? (i := 0) rfl)) rfl) rfl rfl hl.1 rfl (lv_room (Nat.le_of_ble_eq_true rfl)) d_So_isDearer_85 ⟨(show pt st N9 - pt s8 N9 + (pt s8 N9 + 400) ≤ pt st N9 + 400 from by omega), (show 2 * (pt st N9 - pt s8 N9) + (2 * pt s8 N9 + 800) ≤ 2 * pt st N9 + 800 from by omega)⟩) (fun c22 H locs hw23 S => ?_)
              have S : Sw G A s.heap _ _ ([(roa, .inl (k 0, 40, .inl ro)), (coa, .inl (k 0, 40, .inl co)), (h0, .inr (1, [.ref cea, .ref roa, .ref coa, .ref ura, .ref uca, .ref au, .ref ap, .ref al, .ref ar, .ref ae, .int (nI rw9), .int (nI C9), .int (nI fs9), .int (nI tk9)])), (cea, .inl (k 4, 3731, .inr (.inr (.inr (.inr (fun j => adO (c22.1 j)))))))] ++ (tpl k c22.1 N9)) := S
              have hw23 : hO c22.1 Z ∧ keO s8 c22.1 ∧ pt c22.1 N9 ≤ pt s8 N9 := hw23
              show W p l e _ s m _ below meth c H locs _ _ _ (F0 m 88 ls [.int c22.2])
              obtain ⟨hh24, ke25, pt26⟩ := hw23
              refine lv_istore (lv' := [(4, .int c22.2), (6, .int (nI (fs9 + i9))), (5, .int (nI i9)), (0, .ref h0), (1, .int (nI qj)), (2, .int (nI qk)), (3, .int (nI qr))]) hx hb d_So_isDearer_88 hl (by decide) rfl (fun ls hl => ?_)
              refine lv_goto (tgt := 124) hx hb d_So_isDearer_90 (by decide) ?_
              refine lv_iinc (v := nI (i9 + 1)) (lv' := [(5, .int (nI (i9 + 1))), (4, .int c22.2), (6, .int (nI (fs9 + i9))), (0, .ref h0), (1, .int (nI qj)), (2, .int (nI qk)), (3, .int (nI qr))]) hx hb d_So_isDearer_124 hl (k := 2) rfl (show nI i9 + Int32.ofInt 1 = nI (i9 + 1) from (nI_add i9 1).trans (congrArg nI (by omega))) (by decide) rfl (fun ls hl => ?_)
              refine lv_goto (tgt := 13) hx hb d_So_isDearer_127 (by decide) ?_
              have hq8 : hO c22.1 Z := ⟨hh24.1, hh24.2⟩
              refine W.widen (show pt st N9 - pt s8 N9 + (pt s8 N9 - pt c22.1 N9) ≤ pt st N9 - pt c22.1 N9 from by omega) (show 2 * (pt st N9 - pt s8 N9) + (2 * (pt s8 N9 - pt c22.1 N9)) ≤ 2 * (pt st N9 - pt c22.1 N9) from by omega) ?_
              exact ih_lp c22.1 c22.2 (i9 + 1) (by omega) hq8 (hke8.tr ke25) (by omega) (by omega) _ _ (S.subP [2, 3, 0, 1] (by decide) rfl) ls (lv_sub hl [1, 0, 3, 4, 5, 6] rfl)
  exact lp _ c1.1 c1.2 0 (Nat.lt_succ_self _) hz9 ke4 (by omega) (by omega) _ _ (S.subP [2, 3, 0, 1] (by decide) rfl) ls (lv_sub hl [1, 0, 2, 3, 4, 5] rfl)
theorem d_So_lowestRow_0 : decode c_So_lowestRow 0 = .ok (.bipush (-2), 2) := by decide +kernel
theorem d_So_lowestRow_2 : decode c_So_lowestRow 2 = .ok (.istore_n 1, 1) := by decide +kernel
theorem d_So_lowestRow_3 : decode c_So_lowestRow 3 = .ok (.iconst 1, 1) := by decide +kernel
theorem d_So_lowestRow_4 : decode c_So_lowestRow 4 = .ok (.istore_n 2, 1) := by decide +kernel
theorem d_So_lowestRow_5 : decode c_So_lowestRow 5 = .ok (.iload_n 2, 1) := by decide +kernel
theorem d_So_lowestRow_6 : decode c_So_lowestRow 6 = .ok (.aload_n 0, 1) := by decide +kernel
theorem d_So_lowestRow_7 : decode c_So_lowestRow 7 = .ok (.getfield 70, 3) := by decide +kernel
theorem d_So_lowestRow_10 : decode c_So_lowestRow 10 = .ok (.if_icmp .ge 50, 3) := by decide +kernel
theorem d_So_lowestRow_13 : decode c_So_lowestRow 13 = .ok (.aload_n 0, 1) := by decide +kernel
theorem d_So_lowestRow_14 : decode c_So_lowestRow 14 = .ok (.iload_n 2, 1) := by decide +kernel
theorem d_So_lowestRow_15 : decode c_So_lowestRow 15 = .ok (.aload_n 0, 1) := by decide +kernel
theorem d_So_lowestRow_16 : decode c_So_lowestRow 16 = .ok (.getfield 59, 3) := by decide +kernel
theorem d_So_lowestRow_19 : decode c_So_lowestRow 19 = .ok (.invokevirtual 66, 3) := by decide +kernel
theorem d_So_lowestRow_22 : decode c_So_lowestRow 22 = .ok (.astore_n 3, 1) := by decide +kernel
theorem d_So_lowestRow_23 : decode c_So_lowestRow 23 = .ok (.aload_n 3, 1) := by decide +kernel
theorem d_So_lowestRow_24 : decode c_So_lowestRow 24 = .ok (.invokevirtual 101, 3) := by decide +kernel
theorem d_So_lowestRow_27 : decode c_So_lowestRow 27 = .ok (.ifCond .ge 27, 3) := by decide +kernel
theorem d_So_lowestRow_30 : decode c_So_lowestRow 30 = .ok (.iload_n 1, 1) := by decide +kernel
theorem d_So_lowestRow_31 : decode c_So_lowestRow 31 = .ok (.bipush (-2), 2) := by decide +kernel
theorem d_So_lowestRow_33 : decode c_So_lowestRow 33 = .ok (.if_icmp .eq 19, 3) := by decide +kernel
theorem d_So_lowestRow_36 : decode c_So_lowestRow 36 = .ok (.aload_n 3, 1) := by decide +kernel
theorem d_So_lowestRow_37 : decode c_So_lowestRow 37 = .ok (.aload_n 0, 1) := by decide +kernel
theorem d_So_lowestRow_38 : decode c_So_lowestRow 38 = .ok (.iload_n 1, 1) := by decide +kernel
theorem d_So_lowestRow_39 : decode c_So_lowestRow 39 = .ok (.aload_n 0, 1) := by decide +kernel
theorem d_So_lowestRow_40 : decode c_So_lowestRow 40 = .ok (.getfield 59, 3) := by decide +kernel
theorem d_So_lowestRow_43 : decode c_So_lowestRow 43 = .ok (.invokevirtual 66, 3) := by decide +kernel
theorem d_So_lowestRow_46 : decode c_So_lowestRow 46 = .ok (.invokevirtual 104, 3) := by decide +kernel
theorem d_So_lowestRow_49 : decode c_So_lowestRow 49 = .ok (.ifCond .ge 5, 3) := by decide +kernel
theorem d_So_lowestRow_52 : decode c_So_lowestRow 52 = .ok (.iload_n 2, 1) := by decide +kernel
theorem d_So_lowestRow_53 : decode c_So_lowestRow 53 = .ok (.istore_n 1, 1) := by decide +kernel
theorem d_So_lowestRow_54 : decode c_So_lowestRow 54 = .ok (.iinc 2 1, 3) := by decide +kernel
theorem d_So_lowestRow_57 : decode c_So_lowestRow 57 = .ok (.goto (-52), 3) := by decide +kernel
theorem d_So_lowestRow_60 : decode c_So_lowestRow 60 = .ok (.iload_n 1, 1) := by decide +kernel
theorem d_So_lowestRow_61 : decode c_So_lowestRow 61 = .ok (.ireturn, 1) := by decide +kernel
set_option maxRecDepth 100000 in
set_option maxHeartbeats 16000000 in
/-- lowestRow -/
theorem g_So_lowestRow (l : Launch) (G : va_G) (k : Nat → ClassId) (h0 : Nat) (s0 sl : Nat) (cea : Nat) (roa : Nat) (coa : Nat) (ura : Nat) (uca : Nat) (au : Nat) (ap : Nat) (al : Nat) (ar : Nat) (ae : Nat) (rw9 : Nat) (C9 : Nat) (fs9 : Nat) (tk9 : Nat) (N9 : Nat) (st : Nat → Option wQ) (Z : Nat → Int) (hN : N9 = 3745) (hh : hO st Z) (hU : atO st 3731 au) (hP : atO st 3732 ap) (hL : atO st 3733 al) (hR : atO st 3734 ar) (hE : atO st 3735 ae) (hC : C9 ≤ 40) (hRw : rw9 ≤ 91) : CG l y_So_lowestRow c_So_lowestRow 4 (some .int) { frames := 3, cells := pt st N9 + 400, slots := 2 * pt st N9 + 800, locals := 64 } [.ref h0] G k s0 sl ([(h0, .inr (1, [.ref cea, .ref roa, .ref coa, .ref ura, .ref uca, .ref au, .ref ap, .ref al, .ref ar, .ref ae, .int (nI rw9), .int (nI C9), .int (nI fs9), .int (nI tk9)])), (cea, .inl (k 4, 3731, .inr (.inr (.inr (.inr (fun j => adO (st j)))))))] ++ (tpl k st N9)) (fun (u : (Nat → Option wQ) × Int32) => some (.int u.2)) (fun (u : (Nat → Option wQ) × Int32) => hO u.1 Z ∧ keO st u.1 ∧ pt u.1 N9 ≤ pt st N9 ∧ (u.2 = -2 ∨ ∃ b7, b7 < rw9 ∧ u.2 = nI b7)) (fun (u : (Nat → Option wQ) × Int32) => ([(h0, .inr (1, [.ref cea, .ref roa, .ref coa, .ref ura, .ref uca, .ref au, .ref ap, .ref al, .ref ar, .ref ae, .int (nI rw9), .int (nI C9), .int (nI fs9), .int (nI tk9)])), (cea, .inl (k 4, 3731, .inr (.inr (.inr (.inr (fun j => adO (u.1 j)))))))] ++ (tpl k u.1 N9))) (fun (u : (Nat → Option wQ) × Int32) => pt st N9 - pt u.1 N9) (fun (u : (Nat → Option wQ) × Int32) => 2 * (pt st N9 - pt u.1 N9)) (pt st N9 + 400) (2 * pt st N9 + 800) := by
  refine met_startG (by decide) (Nat.le_of_ble_eq_true rfl) ?_
  intro p e s m below meth c C K hA hsz S ls hl
  generalize va_A ([(h0, .inr (1, [.ref cea, .ref roa, .ref coa, .ref ura, .ref uca, .ref au, .ref ap, .ref al, .ref ar, .ref ae, .int (nI rw9), .int (nI C9), .int (nI fs9), .int (nI tk9)])), (cea, .inl (k 4, 3731, .inr (.inr (.inr (.inr (fun j => adO (st j)))))))] ++ (tpl k st N9)) s0 = A at hA S ⊢
  have hx := C.1
  have hb := C.2.1
  have hl : lv_has ls 4 [(0, .ref h0)] := hl
  refine lv_bipush (v := (-2)) hx hb d_So_lowestRow_0 (by decide) ?_
  refine lv_istore_n (lv' := [(1, .int (-2)), (0, .ref h0)]) hx hb d_So_lowestRow_2 rfl hl (by decide) rfl (fun ls hl => ?_)
  refine lv_iconst (v := 1) hx hb d_So_lowestRow_3 (by decide) ?_
  refine lv_istore_n (lv' := [(2, .int 1), (1, .int (-2)), (0, .ref h0)]) hx hb d_So_lowestRow_4 rfl hl (by decide) rfl (fun ls hl => ?_)
  have hz9 : hO st Z := ⟨hh.1, hh.2⟩
  refine W.widen (show 0 ≤ pt st N9 - pt st N9 from by omega) (show 0 ≤ 2 * (pt st N9 - pt st N9) from by omega) ?_
  have lp : ∀ d9, ∀ (s8 : Nat → Option wQ), ∀ (b8 : Int32), ∀ (i9 : Nat), (rw9 - i9) < d9 → (hO s8 Z) → (keO st s8) → (pt s8 N9 ≤ pt st N9) → (1 ≤ i9) → (i9 ≤ rw9 + 1) → (b8 = -2 ∨ ∃ b7, (b7 < i9 ∧ b7 < rw9) ∧ b8 = nI b7) → ∀ (H : Heap) (locs : List Loc), Sw G A s.heap H locs ([(h0, .inr (1, [.ref cea, .ref roa, .ref coa, .ref ura, .ref uca, .ref au, .ref ap, .ref al, .ref ar, .ref ae, .int (nI rw9), .int (nI C9), .int (nI fs9), .int (nI tk9)])), (cea, .inl (k 4, 3731, .inr (.inr (.inr (.inr (fun j => adO (s8 j)))))))] ++ (tpl k s8 N9)) → ∀ ls : Array Slot, lv_has ls 4 [(1, .int b8), (2, .int (nI i9)), (0, .ref h0)] → W p l e { frames := 3, cells := pt st N9 + 400, slots := 2 * pt st N9 + 800, locals := 64 } s m [Value.ref h0].toArray below meth c H locs (pt st N9 - pt s8 N9) (2 * (pt st N9 - pt s8 N9)) (MQ below (va_Qg (fun (u : (Nat → Option wQ) × Int32) => some (.int u.2)) (fun (u : (Nat → Option wQ) × Int32) => hO u.1 Z ∧ keO st u.1 ∧ pt u.1 N9 ≤ pt st N9 ∧ (u.2 = -2 ∨ ∃ b7, b7 < rw9 ∧ u.2 = nI b7)) (Pog G k A (fun (u : (Nat → Option wQ) × Int32) => ([(h0, .inr (1, [.ref cea, .ref roa, .ref coa, .ref ura, .ref uca, .ref au, .ref ap, .ref al, .ref ar, .ref ae, .int (nI rw9), .int (nI C9), .int (nI fs9), .int (nI tk9)])), (cea, .inl (k 4, 3731, .inr (.inr (.inr (.inr (fun j => adO (u.1 j)))))))] ++ (tpl k u.1 N9))) s0 sl (fun (u : (Nat → Option wQ) × Int32) => pt st N9 - pt u.1 N9) (fun (u : (Nat → Option wQ) × Int32) => 2 * (pt st N9 - pt u.1 N9))) A) [Value.ref h0].toArray s (pt st N9 + 400) (2 * pt st N9 + 800) A) (F0 m 5 ls []) := by
    intro d9
    induction d9 with
    | zero => intro s8 b8 i9 hm; exact absurd hm (Nat.not_lt_zero _)
    | succ d9 ih_lp =>
      intro s8 b8 i9 hm hh8 hke8 hpt8 hi hi2 hb8 H locs S ls hl
      refine lv_iload_n hx hb d_So_lowestRow_5 rfl (lv_at hl 1 rfl) ?_
      refine lv_aload_n hx hb d_So_lowestRow_6 rfl (lv_at hl 2 rfl) ?_
      refine r_get C K S 0 rfl rfl clOk_So 10 (by decide) wf_So_70 (v := .int (nI rw9)) rfl d_So_lowestRow_7 ?_
      refine z_icmp_ge (a := i9) (b := rw9) (tgt := 60) hx hb d_So_lowestRow_10 (by decide) (by omega) (by omega) (fun hc1 => ?_) (fun hc1 => ?_)
      · refine lv_iload_n hx hb d_So_lowestRow_60 rfl (lv_at hl 0 rfl) ?_
        exact q_iret C K hsz rfl (s8, b8) rfl (show hO s8 Z ∧ keO st s8 ∧ pt s8 N9 ≤ pt st N9 ∧ (b8 = -2 ∨ ∃ b7, b7 < rw9 ∧ b8 = nI b7) from ⟨hh8, hke8, hpt8, hb8.imp id (fun ⟨b7, q1, q2⟩ => ⟨b7, by omega, q2⟩)⟩) (S.subP [0, 1] (by decide) rfl) d_So_lowestRow_61 (show pt st N9 - pt s8 N9 ≤ pt st N9 - pt s8 N9 from by omega) (show 2 * (pt st N9 - pt s8 N9) ≤ 2 * (pt st N9 - pt s8 N9) from by omega) (show pt st N9 - pt s8 N9 ≤ pt st N9 + 400 from by omega) (show 2 * (pt st N9 - pt s8 N9) ≤ 2 * pt st N9 + 800 from by omega)
      · refine lv_aload_n hx hb d_So_lowestRow_13 rfl (lv_at hl 2 rfl) ?_
        refine lv_iload_n hx hb d_So_lowestRow_14 rfl (lv_at hl 1 rfl) ?_
        refine lv_aload_n hx hb d_So_lowestRow_15 rfl (lv_at hl 2 rfl) ?_
        refine r_get C K S 0 rfl rfl clOk_So 11 (by decide) wf_So_59 (v := .int (nI C9)) rfl d_So_lowestRow_16 ?_
        refine q_backP (wi := [(h0, .inr (1, [.ref cea, .ref roa, .ref coa, .ref ura, .ref uca, .ref au, .ref ap, .ref al, .ref ar, .ref ae, .int (nI rw9), .int (nI C9), .int (nI fs9), .int (nI tk9)])), (cea, .inl (k 4, 3731, .inr (.inr (.inr (.inr (fun j => adO (s8 j)))))))]) (wr := []) S hA [0, 1] [] rfl rfl (by decide) (by decide) (va_runV (As := [.int (nI i9), .int (nI C9)]) (rest := []) ⟨hx, hb, C.2.2.1, C.2.2.2.1, C.2.2.2.2.1⟩ (g_So_cell l G k h0 _ _ i9 C9 cea roa coa ura uca au ap al ar ae rw9 C9 fs9 tk9 N9 s8 Z hN ⟨hh8.1, hh8.2⟩ (by omega) (by omega) (by omega)) (k_virt (n := 2) C wc_So_cell rfl rfl wz_So wm_So_66 wn_So_cell ws_So_cell (by decide +kernel) ⟨(Nat.le_of_ble_eq_true rfl), (Nat.le_of_ble_eq_true rfl)⟩) (pr_nowVGP K S [0, 1] (by decide) rfl (List.mem_append_left _ (List.mem_of_getElem? (i := 0) rfl)) rfl) rfl rfl hl.1 rfl (lv_room (Nat.le_of_ble_eq_true rfl)) d_So_lowestRow_19 ⟨(show pt st N9 - pt s8 N9 + (pt s8 N9 + 10) ≤ pt st N9 + 400 from by omega), (show 2 * (pt st N9 - pt s8 N9) + (2 * pt s8 N9 + 20) ≤ 2 * pt st N9 + 800 from by omega)⟩) (fun c2 H locs hw3 S => ?_)
        have S : Sw G A s.heap _ _ ([(h0, .inr (1, [.ref cea, .ref roa, .ref coa, .ref ura, .ref uca, .ref au, .ref ap, .ref al, .ref ar, .ref ae, .int (nI rw9), .int (nI C9), .int (nI fs9), .int (nI tk9)])), (cea, .inl (k 4, 3731, .inr (.inr (.inr (.inr (fun j => adO (c2.1 j)))))))] ++ (tpl k c2.1 N9)) := S
        have hw3 : hO c2.1 Z ∧ atO c2.1 (i9 * (C9 + 1) + C9) c2.2 ∧ keO s8 c2.1 ∧ pt c2.1 N9 ≤ pt s8 N9 := hw3
        show W p l e _ s m _ below meth c H locs _ _ _ (F0 m 22 ls [.ref c2.2])
        obtain ⟨hh4, at5, ke6, pt7⟩ := hw3
        have lt8 := ix_lt (C := C9) (R := 91) (i := i9) (j := C9) (by omega) (by omega) (Nat.le_refl _) (by omega)
        refine lv_astore_n (lv' := [(3, .ref c2.2), (1, .int b8), (2, .int (nI i9)), (0, .ref h0)]) hx hb d_So_lowestRow_22 rfl hl (by decide) rfl (fun ls hl => ?_)
        refine lv_aload_n hx hb d_So_lowestRow_23 rfl (lv_at hl 0 rfl) ?_
        refine q_backP (wi := []) (wr := [(h0, .inr (1, [.ref cea, .ref roa, .ref coa, .ref ura, .ref uca, .ref au, .ref ap, .ref al, .ref ar, .ref ae, .int (nI rw9), .int (nI C9), .int (nI fs9), .int (nI tk9)])), (cea, .inl (k 4, 3731, .inr (.inr (.inr (.inr (fun j => adO (c2.1 j)))))))]) S hA [] [0, 1] rfl rfl (by decide) (by decide) (va_runV (As := []) (rest := []) ⟨hx, hb, C.2.2.1, C.2.2.2.1, C.2.2.2.2.1⟩ (g_P_sign l G k _ _ (i9 * (C9 + 1) + C9) c2.2 (Z (i9 * (C9 + 1) + C9)) N9 c2.1 Z V0 hN hh4.1 (by omega) at5 rfl (show V0 (i9 * (C9 + 1) + C9) from by unfold V0; omega)) (k_virt (n := 0) C wc_Wh_sign rfl rfl wz_Wh wm_So_101 wn_Wh_sign ws_Wh_sign (by decide +kernel) ⟨(Nat.le_of_ble_eq_true rfl), (Nat.le_of_ble_eq_true rfl)⟩) (pr_nowVGP K S [] (by decide) rfl (Classical.choose_spec (at_mem at5 (show i9 * (C9 + 1) + C9 < N9 by omega))) rfl) rfl rfl hl.1 rfl (lv_room (Nat.le_of_ble_eq_true rfl)) d_So_lowestRow_24 ⟨(show pt st N9 - pt s8 N9 + (pt s8 N9 - pt c2.1 N9) ≤ pt st N9 + 400 from by omega), (show 2 * (pt st N9 - pt s8 N9) + (2 * (pt s8 N9 - pt c2.1 N9)) ≤ 2 * pt st N9 + 800 from by omega)⟩) (fun u9 H locs hw10 S => ?_)
        have S : Sw G A s.heap _ _ ([(h0, .inr (1, [.ref cea, .ref roa, .ref coa, .ref ura, .ref uca, .ref au, .ref ap, .ref al, .ref ar, .ref ae, .int (nI rw9), .int (nI C9), .int (nI fs9), .int (nI tk9)])), (cea, .inl (k 4, 3731, .inr (.inr (.inr (.inr (fun j => adO (c2.1 j)))))))] ++ (tpl k c2.1 N9)) := S
        have hw10 : True := hw10
        show W p l e _ s m _ below meth c H locs _ _ _ (F0 m 27 ls [.int (sgI ((Z (i9 * (C9 + 1) + C9))))])
        refine lv_if_ge (tgt := 54) hx hb d_So_lowestRow_27 (by decide) (fun hc11 => ?_) (fun hc11 => ?_)
        · refine lv_iinc (v := nI (i9 + 1)) (lv' := [(2, .int (nI (i9 + 1))), (3, .ref c2.2), (1, .int b8), (0, .ref h0)]) hx hb d_So_lowestRow_54 hl (k := 2) rfl (show nI i9 + Int32.ofInt 1 = nI (i9 + 1) from (nI_add i9 1).trans (congrArg nI (by omega))) (by decide) rfl (fun ls hl => ?_)
          refine lv_goto (tgt := 5) hx hb d_So_lowestRow_57 (by decide) ?_
          have hq8 : hO c2.1 Z := ⟨hh4.1, hh4.2⟩
          refine W.widen (show pt st N9 - pt s8 N9 + (pt s8 N9 - pt c2.1 N9) ≤ pt st N9 - pt c2.1 N9 from by omega) (show 2 * (pt st N9 - pt s8 N9) + (2 * (pt s8 N9 - pt c2.1 N9)) ≤ 2 * (pt st N9 - pt c2.1 N9) from by omega) ?_
          exact ih_lp c2.1 b8 (i9 + 1) (by omega) hq8 (hke8.tr ke6) (by omega) (by omega) (by omega) (hb8.imp id (fun ⟨b7, q1, q2⟩ => ⟨b7, by omega, q2⟩)) _ _ (S.subP [0, 1] (by decide) rfl) ls (lv_sub hl [2, 0, 3] rfl)
        · refine lv_iload_n hx hb d_So_lowestRow_30 rfl (lv_at hl 1 rfl) ?_
          refine lv_bipush (v := (-2)) hx hb d_So_lowestRow_31 (by decide) ?_
          refine lv_icmp_eq (tgt := 52) hx hb d_So_lowestRow_33 (by decide) (fun hc12 => ?_) (fun hc12 => ?_)
          · refine lv_iload_n hx hb d_So_lowestRow_52 rfl (lv_at hl 2 rfl) ?_
            refine lv_istore_n (lv' := [(1, .int (nI i9)), (3, .ref c2.2), (2, .int (nI i9)), (0, .ref h0)]) hx hb d_So_lowestRow_53 rfl hl (by decide) rfl (fun ls hl => ?_)
            refine lv_iinc (v := nI (i9 + 1)) (lv' := [(2, .int (nI (i9 + 1))), (1, .int (nI i9)), (3, .ref c2.2), (0, .ref h0)]) hx hb d_So_lowestRow_54 hl (k := 2) rfl (show nI i9 + Int32.ofInt 1 = nI (i9 + 1) from (nI_add i9 1).trans (congrArg nI (by omega))) (by decide) rfl (fun ls hl => ?_)
            refine lv_goto (tgt := 5) hx hb d_So_lowestRow_57 (by decide) ?_
            have hq8 : hO c2.1 Z := ⟨hh4.1, hh4.2⟩
            refine W.widen (show pt st N9 - pt s8 N9 + (pt s8 N9 - pt c2.1 N9) ≤ pt st N9 - pt c2.1 N9 from by omega) (show 2 * (pt st N9 - pt s8 N9) + (2 * (pt s8 N9 - pt c2.1 N9)) ≤ 2 * (pt st N9 - pt c2.1 N9) from by omega) ?_
            exact ih_lp c2.1 (nI i9) (i9 + 1) (by omega) hq8 (hke8.tr ke6) (by omega) (by omega) (by omega) (Or.inr ⟨i9, by omega, rfl⟩) _ _ (S.subP [0, 1] (by decide) rfl) ls (lv_sub hl [1, 0, 3] rfl)
          · obtain ⟨b7, l7, e7⟩ := hb8.resolve_left hc12
            subst e7
            refine lv_aload_n hx hb d_So_lowestRow_36 rfl (lv_at hl 0 rfl) ?_
            refine lv_aload_n hx hb d_So_lowestRow_37 rfl (lv_at hl 3 rfl) ?_
            refine lv_iload_n hx hb d_So_lowestRow_38 rfl (lv_at hl 1 rfl) ?_
            refine lv_aload_n hx hb d_So_lowestRow_39 rfl (lv_at hl 3 rfl) ?_
            refine r_get C K S 0 rfl rfl clOk_So 11 (by decide) wf_So_59 (v := .int (nI C9)) rfl d_So_lowestRow_40 ?_
            refine q_backP (wi := [(h0, .inr (1, [.ref cea, .ref roa, .ref coa, .ref ura, .ref uca, .ref au, .ref ap, .ref al, .ref ar, .ref ae, .int (nI rw9), .int (nI C9), .int (nI fs9), .int (nI tk9)])), (cea, .inl (k 4, 3731, .inr (.inr (.inr (.inr (fun j => adO (c2.1 j)))))))]) (wr := []) S hA [0, 1] [] rfl rfl (by decide) (by decide) (va_runV (As := [.int (nI b7), .int (nI C9)]) (rest := [.ref c2.2]) ⟨hx, hb, C.2.2.1, C.2.2.2.1, C.2.2.2.2.1⟩ (g_So_cell l G k h0 _ _ b7 C9 cea roa coa ura uca au ap al ar ae rw9 C9 fs9 tk9 N9 c2.1 Z hN ⟨hh4.1, hh4.2⟩ (by omega) (by omega) (by omega)) (k_virt (n := 2) C wc_So_cell rfl rfl wz_So wm_So_66 wn_So_cell ws_So_cell (by decide +kernel) ⟨(Nat.le_of_ble_eq_true rfl), (Nat.le_of_ble_eq_true rfl)⟩) (pr_nowVGP K S [0, 1] (by decide) rfl (List.mem_append_left _ (List.mem_of_getElem? (i := 0) rfl)) rfl) rfl rfl hl.1 rfl (lv_room (Nat.le_of_ble_eq_true rfl)) d_So_lowestRow_43 ⟨(show pt st N9 - pt s8 N9 + (pt s8 N9 - pt c2.1 N9) + (pt c2.1 N9 + 10) ≤ pt st N9 + 400 from by omega), (show 2 * (pt st N9 - pt s8 N9) + (2 * (pt s8 N9 - pt c2.1 N9)) + (2 * pt c2.1 N9 + 20) ≤ 2 * pt st N9 + 800 from by omega)⟩) (fun c13 H locs hw14 S => ?_)
            have S : Sw G A s.heap _ _ ([(h0, .inr (1, [.ref cea, .ref roa, .ref coa, .ref ura, .ref uca, .ref au, .ref ap, .ref al, .ref ar, .ref ae, .int (nI rw9), .int (nI C9), .int (nI fs9), .int (nI tk9)])), (cea, .inl (k 4, 3731, .inr (.inr (.inr (.inr (fun j => adO (c13.1 j)))))))] ++ (tpl k c13.1 N9)) := S
            have hw14 : hO c13.1 Z ∧ atO c13.1 (b7 * (C9 + 1) + C9) c13.2 ∧ keO c2.1 c13.1 ∧ pt c13.1 N9 ≤ pt c2.1 N9 := hw14
            show W p l e _ s m _ below meth c H locs _ _ _ (F0 m 46 ls [.ref c13.2, .ref c2.2])
            obtain ⟨hh15, at16, ke17, pt18⟩ := hw14
            have lt19 := ix_lt (C := C9) (R := 91) (i := b7) (j := C9) (by omega) (by omega) (Nat.le_refl _) (by omega)
            refine q_backP (wi := []) (wr := [(h0, .inr (1, [.ref cea, .ref roa, .ref coa, .ref ura, .ref uca, .ref au, .ref ap, .ref al, .ref ar, .ref ae, .int (nI rw9), .int (nI C9), .int (nI fs9), .int (nI tk9)])), (cea, .inl (k 4, 3731, .inr (.inr (.inr (.inr (fun j => adO (c13.1 j)))))))]) S hA [] [0, 1] rfl rfl (by decide) (by decide) (va_runV (As := [.ref c13.2]) (rest := []) ⟨hx, hb, C.2.2.1, C.2.2.2.1, C.2.2.2.2.1⟩ (g_P_compare l G k _ _ (i9 * (C9 + 1) + C9) (b7 * (C9 + 1) + C9) c2.2 c13.2 (Z (i9 * (C9 + 1) + C9)) (Z (b7 * (C9 + 1) + C9)) N9 c13.1 Z V0 hN hh15.1 (by omega) (by omega) (ke17.at at5) at16 rfl rfl (show V0 (i9 * (C9 + 1) + C9) from by unfold V0; omega) (show V0 (b7 * (C9 + 1) + C9) from by unfold V0; omega) (by exact ix_ne (by omega) (by omega) (by omega))) (k_virt (n := 1) C wc_Wh_compare rfl rfl wz_Wh wm_So_104 wn_Wh_compare ws_Wh_compare (by decide +kernel) ⟨(Nat.le_of_ble_eq_true rfl), (Nat.le_of_ble_eq_true rfl)⟩) (pr_nowVGP K S [] (by decide) rfl (Classical.choose_spec (at_mem (ke17.at at5) (show i9 * (C9 + 1) + C9 < N9 by omega))) rfl) rfl rfl hl.1 rfl (lv_room (Nat.le_of_ble_eq_true rfl)) d_So_lowestRow_46 ⟨(show pt st N9 - pt s8 N9 + (pt s8 N9 - pt c2.1 N9) + (pt c2.1 N9 - pt c13.1 N9) ≤ pt st N9 + 400 from by omega), (show 2 * (pt st N9 - pt s8 N9) + (2 * (pt s8 N9 - pt c2.1 N9)) + (2 * (pt c2.1 N9 - pt c13.1 N9)) ≤ 2 * pt st N9 + 800 from by omega)⟩) (fun u20 H locs hw21 S => ?_)
            have S : Sw G A s.heap _ _ ([(h0, .inr (1, [.ref cea, .ref roa, .ref coa, .ref ura, .ref uca, .ref au, .ref ap, .ref al, .ref ar, .ref ae, .int (nI rw9), .int (nI C9), .int (nI fs9), .int (nI tk9)])), (cea, .inl (k 4, 3731, .inr (.inr (.inr (.inr (fun j => adO (c13.1 j)))))))] ++ (tpl k c13.1 N9)) := S
            have hw21 : True := hw21
            show W p l e _ s m _ below meth c H locs _ _ _ (F0 m 49 ls [.int (czI ((Z (i9 * (C9 + 1) + C9))) ((Z (b7 * (C9 + 1) + C9))))])
            refine lv_if_ge (tgt := 54) hx hb d_So_lowestRow_49 (by decide) (fun hc22 => ?_) (fun hc22 => ?_)
            · refine lv_iinc (v := nI (i9 + 1)) (lv' := [(2, .int (nI (i9 + 1))), (3, .ref c2.2), (1, .int (nI b7)), (0, .ref h0)]) hx hb d_So_lowestRow_54 hl (k := 2) rfl (show nI i9 + Int32.ofInt 1 = nI (i9 + 1) from (nI_add i9 1).trans (congrArg nI (by omega))) (by decide) rfl (fun ls hl => ?_)
              refine lv_goto (tgt := 5) hx hb d_So_lowestRow_57 (by decide) ?_
              have hq8 : hO c13.1 Z := ⟨hh15.1, hh15.2⟩
              refine W.widen (show pt st N9 - pt s8 N9 + (pt s8 N9 - pt c2.1 N9) + (pt c2.1 N9 - pt c13.1 N9) ≤ pt st N9 - pt c13.1 N9 from by omega) (show 2 * (pt st N9 - pt s8 N9) + (2 * (pt s8 N9 - pt c2.1 N9)) + (2 * (pt c2.1 N9 - pt c13.1 N9)) ≤ 2 * (pt st N9 - pt c13.1 N9) from by omega) ?_
              exact ih_lp c13.1 (nI b7) (i9 + 1) (by omega) hq8 ((hke8.tr ke6).tr ke17) (by omega) (by omega) (by omega) (Or.inr ⟨b7, by omega, rfl⟩) _ _ (S.subP [0, 1] (by decide) rfl) ls (lv_sub hl [2, 0, 3] rfl)
            · refine lv_iload_n hx hb d_So_lowestRow_52 rfl (lv_at hl 2 rfl) ?_
              refine lv_istore_n (lv' := [(1, .int (nI i9)), (3, .ref c2.2), (2, .int (nI i9)), (0, .ref h0)]) hx hb d_So_lowestRow_53 rfl hl (by decide) rfl (fun ls hl => ?_)
              refine lv_iinc (v := nI (i9 + 1)) (lv' := [(2, .int (nI (i9 + 1))), (1, .int (nI i9)), (3, .ref c2.2), (0, .ref h0)]) hx hb d_So_lowestRow_54 hl (k := 2) rfl (show nI i9 + Int32.ofInt 1 = nI (i9 + 1) from (nI_add i9 1).trans (congrArg nI (by omega))) (by decide) rfl (fun ls hl => ?_)
              refine lv_goto (tgt := 5) hx hb d_So_lowestRow_57 (by decide) ?_
              have hq8 : hO c13.1 Z := ⟨hh15.1, hh15.2⟩
              refine W.widen (show pt st N9 - pt s8 N9 + (pt s8 N9 - pt c2.1 N9) + (pt c2.1 N9 - pt c13.1 N9) ≤ pt st N9 - pt c13.1 N9 from by omega) (show 2 * (pt st N9 - pt s8 N9) + (2 * (pt s8 N9 - pt c2.1 N9)) + (2 * (pt c2.1 N9 - pt c13.1 N9)) ≤ 2 * (pt st N9 - pt c13.1 N9) from by omega) ?_
              exact ih_lp c13.1 (nI i9) (i9 + 1) (by omega) hq8 ((hke8.tr ke6).tr ke17) (by omega) (by omega) (by omega) (Or.inr ⟨i9, by omega, rfl⟩) _ _ (S.subP [0, 1] (by decide) rfl) ls (lv_sub hl [1, 0, 3] rfl)
  exact lp _ st (-2) 1 (Nat.lt_succ_self _) hz9 (keO.rf st) (by omega) (by omega) (by omega) (Or.inl rfl) _ _ (S.subP [0, 1] (by decide) rfl) ls (lv_sub hl [1, 0, 2] rfl)
theorem d_So_entering_0 : decode c_So_entering 0 = .ok (.bipush (-2), 2) := by decide +kernel
theorem d_So_entering_2 : decode c_So_entering 2 = .ok (.istore_n 2, 1) := by decide +kernel
theorem d_So_entering_3 : decode c_So_entering 3 = .ok (.iconst 0, 1) := by decide +kernel
theorem d_So_entering_4 : decode c_So_entering 4 = .ok (.istore_n 3, 1) := by decide +kernel
theorem d_So_entering_5 : decode c_So_entering 5 = .ok (.iload_n 3, 1) := by decide +kernel
theorem d_So_entering_6 : decode c_So_entering 6 = .ok (.aload_n 0, 1) := by decide +kernel
theorem d_So_entering_7 : decode c_So_entering 7 = .ok (.getfield 59, 3) := by decide +kernel
theorem d_So_entering_10 : decode c_So_entering 10 = .ok (.if_icmp .ge 39, 3) := by decide +kernel
theorem d_So_entering_13 : decode c_So_entering 13 = .ok (.aload_n 0, 1) := by decide +kernel
theorem d_So_entering_14 : decode c_So_entering 14 = .ok (.iload_n 1, 1) := by decide +kernel
theorem d_So_entering_15 : decode c_So_entering 15 = .ok (.iload_n 3, 1) := by decide +kernel
theorem d_So_entering_16 : decode c_So_entering 16 = .ok (.invokevirtual 66, 3) := by decide +kernel
theorem d_So_entering_19 : decode c_So_entering 19 = .ok (.invokevirtual 101, 3) := by decide +kernel
theorem d_So_entering_22 : decode c_So_entering 22 = .ok (.ifCond .le 21, 3) := by decide +kernel
theorem d_So_entering_25 : decode c_So_entering 25 = .ok (.iload_n 2, 1) := by decide +kernel
theorem d_So_entering_26 : decode c_So_entering 26 = .ok (.bipush (-2), 2) := by decide +kernel
theorem d_So_entering_28 : decode c_So_entering 28 = .ok (.if_icmp .eq 13, 3) := by decide +kernel
theorem d_So_entering_31 : decode c_So_entering 31 = .ok (.aload_n 0, 1) := by decide +kernel
theorem d_So_entering_32 : decode c_So_entering 32 = .ok (.iload_n 2, 1) := by decide +kernel
theorem d_So_entering_33 : decode c_So_entering 33 = .ok (.iload_n 3, 1) := by decide +kernel
theorem d_So_entering_34 : decode c_So_entering 34 = .ok (.iload_n 1, 1) := by decide +kernel
theorem d_So_entering_35 : decode c_So_entering 35 = .ok (.invokevirtual 108, 3) := by decide +kernel
theorem d_So_entering_38 : decode c_So_entering 38 = .ok (.ifCond .eq 5, 3) := by decide +kernel
theorem d_So_entering_41 : decode c_So_entering 41 = .ok (.iload_n 3, 1) := by decide +kernel
theorem d_So_entering_42 : decode c_So_entering 42 = .ok (.istore_n 2, 1) := by decide +kernel
theorem d_So_entering_43 : decode c_So_entering 43 = .ok (.iinc 3 1, 3) := by decide +kernel
theorem d_So_entering_46 : decode c_So_entering 46 = .ok (.goto (-41), 3) := by decide +kernel
theorem d_So_entering_49 : decode c_So_entering 49 = .ok (.iload_n 2, 1) := by decide +kernel
theorem d_So_entering_50 : decode c_So_entering 50 = .ok (.ireturn, 1) := by decide +kernel
set_option maxRecDepth 100000 in
set_option maxHeartbeats 16000000 in
/-- entering -/
theorem g_So_entering (l : Launch) (G : va_G) (k : Nat → ClassId) (h0 : Nat) (s0 sl : Nat) (qr : Nat) (cea : Nat) (roa : Nat) (coa : Nat) (ura : Nat) (uca : Nat) (au : Nat) (ap : Nat) (al : Nat) (ar : Nat) (ae : Nat) (rw9 : Nat) (C9 : Nat) (fs9 : Nat) (tk9 : Nat) (ro : Nat → Int32) (co : Nat → Int32) (N9 : Nat) (st : Nat → Option wQ) (Z : Nat → Int) (hN : N9 = 3745) (hh : hO st Z) (hU : atO st 3731 au) (hP : atO st 3732 ap) (hL : atO st 3733 al) (hR : atO st 3734 ar) (hE : atO st 3735 ae) (hC : C9 ≤ 40) (hRw : rw9 ≤ 91) (hro : ∀ v, v < C9 → ro v = -2 ∨ ∃ r, r < rw9 ∧ ro v = nI r) (hfs : fs9 + tk9 < C9) (hqr : qr < rw9) : CG l y_So_entering c_So_entering 4 (some .int) { frames := 6, cells := pt st N9 + 400, slots := 2 * pt st N9 + 800, locals := 185 } [.ref h0, .int (nI qr)] G k s0 sl ([(h0, .inr (1, [.ref cea, .ref roa, .ref coa, .ref ura, .ref uca, .ref au, .ref ap, .ref al, .ref ar, .ref ae, .int (nI rw9), .int (nI C9), .int (nI fs9), .int (nI tk9)])), (cea, .inl (k 4, 3731, .inr (.inr (.inr (.inr (fun j => adO (st j))))))), (roa, .inl (k 0, 40, .inl ro)), (coa, .inl (k 0, 40, .inl co))] ++ (tpl k st N9)) (fun (u : (Nat → Option wQ) × Int32) => some (.int u.2)) (fun (u : (Nat → Option wQ) × Int32) => hO u.1 Z ∧ keO st u.1 ∧ pt u.1 N9 ≤ pt st N9 ∧ (u.2 = -2 ∨ ∃ b7, (b7 < C9 ∧ 0 < Z (qr * (C9 + 1) + b7)) ∧ u.2 = nI b7)) (fun (u : (Nat → Option wQ) × Int32) => ([(h0, .inr (1, [.ref cea, .ref roa, .ref coa, .ref ura, .ref uca, .ref au, .ref ap, .ref al, .ref ar, .ref ae, .int (nI rw9), .int (nI C9), .int (nI fs9), .int (nI tk9)])), (cea, .inl (k 4, 3731, .inr (.inr (.inr (.inr (fun j => adO (u.1 j))))))), (roa, .inl (k 0, 40, .inl ro)), (coa, .inl (k 0, 40, .inl co))] ++ (tpl k u.1 N9))) (fun (u : (Nat → Option wQ) × Int32) => pt st N9 - pt u.1 N9) (fun (u : (Nat → Option wQ) × Int32) => 2 * (pt st N9 - pt u.1 N9)) (pt st N9 + 400) (2 * pt st N9 + 800) := by
  refine met_startG (by decide) (Nat.le_of_ble_eq_true rfl) ?_
  intro p e s m below meth c C K hA hsz S ls hl
  generalize va_A ([(h0, .inr (1, [.ref cea, .ref roa, .ref coa, .ref ura, .ref uca, .ref au, .ref ap, .ref al, .ref ar, .ref ae, .int (nI rw9), .int (nI C9), .int (nI fs9), .int (nI tk9)])), (cea, .inl (k 4, 3731, .inr (.inr (.inr (.inr (fun j => adO (st j))))))), (roa, .inl (k 0, 40, .inl ro)), (coa, .inl (k 0, 40, .inl co))] ++ (tpl k st N9)) s0 = A at hA S ⊢
  have hx := C.1
  have hb := C.2.1
  have hl : lv_has ls 4 [(0, .ref h0), (1, .int (nI qr))] := hl
  refine lv_bipush (v := (-2)) hx hb d_So_entering_0 (by decide) ?_
  refine lv_istore_n (lv' := [(2, .int (-2)), (0, .ref h0), (1, .int (nI qr))]) hx hb d_So_entering_2 rfl hl (by decide) rfl (fun ls hl => ?_)
  refine lv_iconst (v := 0) hx hb d_So_entering_3 (by decide) ?_
  refine lv_istore_n (lv' := [(3, .int 0), (2, .int (-2)), (0, .ref h0), (1, .int (nI qr))]) hx hb d_So_entering_4 rfl hl (by decide) rfl (fun ls hl => ?_)
  have hz9 : hO st Z := ⟨hh.1, hh.2⟩
  refine W.widen (show 0 ≤ pt st N9 - pt st N9 from by omega) (show 0 ≤ 2 * (pt st N9 - pt st N9) from by omega) ?_
  have lp : ∀ d9, ∀ (s8 : Nat → Option wQ), ∀ (b8 : Int32), ∀ (i9 : Nat), (C9 - i9) < d9 → (hO s8 Z) → (keO st s8) → (pt s8 N9 ≤ pt st N9) → (i9 ≤ C9) → (b8 = -2 ∨ ∃ b7, (b7 < i9 ∧ 0 < Z (qr * (C9 + 1) + b7)) ∧ b8 = nI b7) → ∀ (H : Heap) (locs : List Loc), Sw G A s.heap H locs ([(h0, .inr (1, [.ref cea, .ref roa, .ref coa, .ref ura, .ref uca, .ref au, .ref ap, .ref al, .ref ar, .ref ae, .int (nI rw9), .int (nI C9), .int (nI fs9), .int (nI tk9)])), (cea, .inl (k 4, 3731, .inr (.inr (.inr (.inr (fun j => adO (s8 j))))))), (roa, .inl (k 0, 40, .inl ro)), (coa, .inl (k 0, 40, .inl co))] ++ (tpl k s8 N9)) → ∀ ls : Array Slot, lv_has ls 4 [(2, .int b8), (3, .int (nI i9)), (0, .ref h0), (1, .int (nI qr))] → W p l e { frames := 6, cells := pt st N9 + 400, slots := 2 * pt st N9 + 800, locals := 185 } s m [Value.ref h0, Value.int (nI qr)].toArray below meth c H locs (pt st N9 - pt s8 N9) (2 * (pt st N9 - pt s8 N9)) (MQ below (va_Qg (fun (u : (Nat → Option wQ) × Int32) => some (.int u.2)) (fun (u : (Nat → Option wQ) × Int32) => hO u.1 Z ∧ keO st u.1 ∧ pt u.1 N9 ≤ pt st N9 ∧ (u.2 = -2 ∨ ∃ b7, (b7 < C9 ∧ 0 < Z (qr * (C9 + 1) + b7)) ∧ u.2 = nI b7)) (Pog G k A (fun (u : (Nat → Option wQ) × Int32) => ([(h0, .inr (1, [.ref cea, .ref roa, .ref coa, .ref ura, .ref uca, .ref au, .ref ap, .ref al, .ref ar, .ref ae, .int (nI rw9), .int (nI C9), .int (nI fs9), .int (nI tk9)])), (cea, .inl (k 4, 3731, .inr (.inr (.inr (.inr (fun j => adO (u.1 j))))))), (roa, .inl (k 0, 40, .inl ro)), (coa, .inl (k 0, 40, .inl co))] ++ (tpl k u.1 N9))) s0 sl (fun (u : (Nat → Option wQ) × Int32) => pt st N9 - pt u.1 N9) (fun (u : (Nat → Option wQ) × Int32) => 2 * (pt st N9 - pt u.1 N9))) A) [Value.ref h0, Value.int (nI qr)].toArray s (pt st N9 + 400) (2 * pt st N9 + 800) A) (F0 m 5 ls []) := by
    intro d9
    induction d9 with
    | zero => intro s8 b8 i9 hm; exact absurd hm (Nat.not_lt_zero _)
    | succ d9 ih_lp =>
      intro s8 b8 i9 hm hh8 hke8 hpt8 hi hb8 H locs S ls hl
      refine lv_iload_n hx hb d_So_entering_5 rfl (lv_at hl 1 rfl) ?_
      refine lv_aload_n hx hb d_So_entering_6 rfl (lv_at hl 2 rfl) ?_
      refine r_get C K S 0 rfl rfl clOk_So 11 (by decide) wf_So_59 (v := .int (nI C9)) rfl d_So_entering_7 ?_
      refine z_icmp_ge (a := i9) (b := C9) (tgt := 49) hx hb d_So_entering_10 (by decide) (by omega) (by omega) (fun hc1 => ?_) (fun hc1 => ?_)
      · refine lv_iload_n hx hb d_So_entering_49 rfl (lv_at hl 0 rfl) ?_
        exact q_iret C K hsz rfl (s8, b8) rfl (show hO s8 Z ∧ keO st s8 ∧ pt s8 N9 ≤ pt st N9 ∧ (b8 = -2 ∨ ∃ b7, (b7 < C9 ∧ 0 < Z (qr * (C9 + 1) + b7)) ∧ b8 = nI b7) from ⟨hh8, hke8, hpt8, hb8.imp id (fun ⟨b7, q1, q2⟩ => ⟨b7, ⟨by omega, q1.2⟩, q2⟩)⟩) (S.subP [0, 1, 2, 3] (by decide) rfl) d_So_entering_50 (show pt st N9 - pt s8 N9 ≤ pt st N9 - pt s8 N9 from by omega) (show 2 * (pt st N9 - pt s8 N9) ≤ 2 * (pt st N9 - pt s8 N9) from by omega) (show pt st N9 - pt s8 N9 ≤ pt st N9 + 400 from by omega) (show 2 * (pt st N9 - pt s8 N9) ≤ 2 * pt st N9 + 800 from by omega)
      · refine lv_aload_n hx hb d_So_entering_13 rfl (lv_at hl 2 rfl) ?_
        refine lv_iload_n hx hb d_So_entering_14 rfl (lv_at hl 3 rfl) ?_
        refine lv_iload_n hx hb d_So_entering_15 rfl (lv_at hl 1 rfl) ?_
        refine q_backP (wi := [(h0, .inr (1, [.ref cea, .ref roa, .ref coa, .ref ura, .ref uca, .ref au, .ref ap, .ref al, .ref ar, .ref ae, .int (nI rw9), .int (nI C9), .int (nI fs9), .int (nI tk9)])), (cea, .inl (k 4, 3731, .inr (.inr (.inr (.inr (fun j => adO (s8 j)))))))]) (wr := [(roa, .inl (k 0, 40, .inl ro)), (coa, .inl (k 0, 40, .inl co))]) S hA [0, 1] [2, 3] rfl rfl (by decide) (by decide) (va_runV (As := [.int (nI qr), .int (nI i9)]) (rest := []) ⟨hx, hb, C.2.2.1, C.2.2.2.1, C.2.2.2.2.1⟩ (g_So_cell l G k h0 _ _ qr i9 cea roa coa ura uca au ap al ar ae rw9 C9 fs9 tk9 N9 s8 Z hN ⟨hh8.1, hh8.2⟩ (by omega) (by omega) (by omega)) (k_virt (n := 2) C wc_So_cell rfl rfl wz_So wm_So_66 wn_So_cell ws_So_cell (by decide +kernel) ⟨(Nat.le_of_ble_eq_true rfl), (Nat.le_of_ble_eq_true rfl)⟩) (pr_nowVGP K S [0, 1] (by decide) rfl (List.mem_append_left _ (List.mem_of_getElem? (i := 0) rfl)) rfl) rfl rfl hl.1 rfl (lv_room (Nat.le_of_ble_eq_true rfl)) d_So_entering_16 ⟨(show pt st N9 - pt s8 N9 + (pt s8 N9 + 10) ≤ pt st N9 + 400 from by omega), (show 2 * (pt st N9 - pt s8 N9) + (2 * pt s8 N9 + 20) ≤ 2 * pt st N9 + 800 from by omega)⟩) (fun c2 H locs hw3 S => ?_)
        have S : Sw G A s.heap _ _ ([(roa, .inl (k 0, 40, .inl ro)), (coa, .inl (k 0, 40, .inl co)), (h0, .inr (1, [.ref cea, .ref roa, .ref coa, .ref ura, .ref uca, .ref au, .ref ap, .ref al, .ref ar, .ref ae, .int (nI rw9), .int (nI C9), .int (nI fs9), .int (nI tk9)])), (cea, .inl (k 4, 3731, .inr (.inr (.inr (.inr (fun j => adO (c2.1 j)))))))] ++ (tpl k c2.1 N9)) := S
        have hw3 : hO c2.1 Z ∧ atO c2.1 (qr * (C9 + 1) + i9) c2.2 ∧ keO s8 c2.1 ∧ pt c2.1 N9 ≤ pt s8 N9 := hw3
        show W p l e _ s m _ below meth c H locs _ _ _ (F0 m 19 ls [.ref c2.2])
        obtain ⟨hh4, at5, ke6, pt7⟩ := hw3
        have lt8 := ix_lt (C := C9) (R := 91) (i := qr) (j := i9) (by omega) (by omega) (Nat.le_refl _) (by omega)
        refine q_backP (wi := []) (wr := [(roa, .inl (k 0, 40, .inl ro)), (coa, .inl (k 0, 40, .inl co)), (h0, .inr (1, [.ref cea, .ref roa, .ref coa, .ref ura, .ref uca, .ref au, .ref ap, .ref al, .ref ar, .ref ae, .int (nI rw9), .int (nI C9), .int (nI fs9), .int (nI tk9)])), (cea, .inl (k 4, 3731, .inr (.inr (.inr (.inr (fun j => adO (c2.1 j)))))))]) S hA [] [0, 1, 2, 3] rfl rfl (by decide) (by decide) (va_runV (As := []) (rest := []) ⟨hx, hb, C.2.2.1, C.2.2.2.1, C.2.2.2.2.1⟩ (g_P_sign l G k _ _ (qr * (C9 + 1) + i9) c2.2 (Z (qr * (C9 + 1) + i9)) N9 c2.1 Z V0 hN hh4.1 (by omega) at5 rfl (show V0 (qr * (C9 + 1) + i9) from by unfold V0; omega)) (k_virt (n := 0) C wc_Wh_sign rfl rfl wz_Wh wm_So_101 wn_Wh_sign ws_Wh_sign (by decide +kernel) ⟨(Nat.le_of_ble_eq_true rfl), (Nat.le_of_ble_eq_true rfl)⟩) (pr_nowVGP K S [] (by decide) rfl (Classical.choose_spec (at_mem at5 (show qr * (C9 + 1) + i9 < N9 by omega))) rfl) rfl rfl hl.1 rfl (lv_room (Nat.le_of_ble_eq_true rfl)) d_So_entering_19 ⟨(show pt st N9 - pt s8 N9 + (pt s8 N9 - pt c2.1 N9) ≤ pt st N9 + 400 from by omega), (show 2 * (pt st N9 - pt s8 N9) + (2 * (pt s8 N9 - pt c2.1 N9)) ≤ 2 * pt st N9 + 800 from by omega)⟩) (fun u9 H locs hw10 S => ?_)
        have S : Sw G A s.heap _ _ ([(roa, .inl (k 0, 40, .inl ro)), (coa, .inl (k 0, 40, .inl co)), (h0, .inr (1, [.ref cea, .ref roa, .ref coa, .ref ura, .ref uca, .ref au, .ref ap, .ref al, .ref ar, .ref ae, .int (nI rw9), .int (nI C9), .int (nI fs9), .int (nI tk9)])), (cea, .inl (k 4, 3731, .inr (.inr (.inr (.inr (fun j => adO (c2.1 j)))))))] ++ (tpl k c2.1 N9)) := S
        have hw10 : True := hw10
        show W p l e _ s m _ below meth c H locs _ _ _ (F0 m 22 ls [.int (sgI ((Z (qr * (C9 + 1) + i9))))])
        refine lv_if_le (tgt := 43) hx hb d_So_entering_22 (by decide) (fun hc11 => ?_) (fun hc11 => ?_)
        · refine lv_iinc (v := nI (i9 + 1)) (lv' := [(3, .int (nI (i9 + 1))), (2, .int b8), (0, .ref h0), (1, .int (nI qr))]) hx hb d_So_entering_43 hl (k := 1) rfl (show nI i9 + Int32.ofInt 1 = nI (i9 + 1) from (nI_add i9 1).trans (congrArg nI (by omega))) (by decide) rfl (fun ls hl => ?_)
          refine lv_goto (tgt := 5) hx hb d_So_entering_46 (by decide) ?_
          have hq8 : hO c2.1 Z := ⟨hh4.1, hh4.2⟩
          refine W.widen (show pt st N9 - pt s8 N9 + (pt s8 N9 - pt c2.1 N9) ≤ pt st N9 - pt c2.1 N9 from by omega) (show 2 * (pt st N9 - pt s8 N9) + (2 * (pt s8 N9 - pt c2.1 N9)) ≤ 2 * (pt st N9 - pt c2.1 N9) from by omega) ?_
          exact ih_lp c2.1 b8 (i9 + 1) (by omega) hq8 (hke8.tr ke6) (by omega) (by omega) (hb8.imp id (fun ⟨b7, q1, q2⟩ => ⟨b7, ⟨by omega, q1.2⟩, q2⟩)) _ _ (S.subP [2, 3, 0, 1] (by decide) rfl) ls (lv_sub hl [1, 0, 2, 3] rfl)
        · refine lv_iload_n hx hb d_So_entering_25 rfl (lv_at hl 0 rfl) ?_
          refine lv_bipush (v := (-2)) hx hb d_So_entering_26 (by decide) ?_
          refine lv_icmp_eq (tgt := 41) hx hb d_So_entering_28 (by decide) (fun hc12 => ?_) (fun hc12 => ?_)
          · refine lv_iload_n hx hb d_So_entering_41 rfl (lv_at hl 1 rfl) ?_
            refine lv_istore_n (lv' := [(2, .int (nI i9)), (3, .int (nI i9)), (0, .ref h0), (1, .int (nI qr))]) hx hb d_So_entering_42 rfl hl (by decide) rfl (fun ls hl => ?_)
            refine lv_iinc (v := nI (i9 + 1)) (lv' := [(3, .int (nI (i9 + 1))), (2, .int (nI i9)), (0, .ref h0), (1, .int (nI qr))]) hx hb d_So_entering_43 hl (k := 1) rfl (show nI i9 + Int32.ofInt 1 = nI (i9 + 1) from (nI_add i9 1).trans (congrArg nI (by omega))) (by decide) rfl (fun ls hl => ?_)
            refine lv_goto (tgt := 5) hx hb d_So_entering_46 (by decide) ?_
            have hq8 : hO c2.1 Z := ⟨hh4.1, hh4.2⟩
            refine W.widen (show pt st N9 - pt s8 N9 + (pt s8 N9 - pt c2.1 N9) ≤ pt st N9 - pt c2.1 N9 from by omega) (show 2 * (pt st N9 - pt s8 N9) + (2 * (pt s8 N9 - pt c2.1 N9)) ≤ 2 * (pt st N9 - pt c2.1 N9) from by omega) ?_
            exact ih_lp c2.1 (nI i9) (i9 + 1) (by omega) hq8 (hke8.tr ke6) (by omega) (by omega) (Or.inr ⟨i9, ⟨by omega, sgn_gt.mp (Int32.not_le.mp hc11)⟩, rfl⟩) _ _ (S.subP [2, 3, 0, 1] (by decide) rfl) ls (lv_sub hl [1, 0, 2, 3] rfl)
          · obtain ⟨b7, l7, e7⟩ := hb8.resolve_left hc12
            subst e7
            refine lv_aload_n hx hb d_So_entering_31 rfl (lv_at hl 2 rfl) ?_
            refine lv_iload_n hx hb d_So_entering_32 rfl (lv_at hl 0 rfl) ?_
            refine lv_iload_n hx hb d_So_entering_33 rfl (lv_at hl 1 rfl) ?_
            refine lv_iload_n hx hb d_So_entering_34 rfl (lv_at hl 3 rfl) ?_
            refine q_backP (wi := [(h0, .inr (1, [.ref cea, .ref roa, .ref coa, .ref ura, .ref uca, .ref au, .ref ap, .ref al, .ref ar, .ref ae, .int (nI rw9), .int (nI C9), .int (nI fs9), .int (nI tk9)])), (cea, .inl (k 4, 3731, .inr (.inr (.inr (.inr (fun j => adO (c2.1 j))))))), (roa, .inl (k 0, 40, .inl ro)), (coa, .inl (k 0, 40, .inl co))]) (wr := []) S hA [2, 3, 0, 1] [] rfl rfl (by decide) (by decide) (va_runV (As := [.int (nI b7), .int (nI i9), .int (nI qr)]) (rest := []) ⟨hx, hb, C.2.2.1, C.2.2.2.1, C.2.2.2.2.1⟩ (g_So_isDearer l G k h0 _ _ b7 i9 qr cea roa coa ura uca au ap al ar ae rw9 C9 fs9 tk9 ro co N9 c2.1 Z hN ⟨hh4.1, hh4.2⟩ (ke6.at (hke8.at hU)) (ke6.at (hke8.at hP)) (ke6.at (hke8.at hL)) (ke6.at (hke8.at hR)) (ke6.at (hke8.at hE)) (by omega) (by omega) hro hfs (by omega) (by omega) (by omega) (by omega)) (k_virt (n := 3) C wc_So_isDearer rfl rfl wz_So wm_So_108 wn_So_isDearer ws_So_isDearer (by decide +kernel) ⟨(Nat.le_of_ble_eq_true rfl), (Nat.le_of_ble_eq_true rfl)⟩) (pr_nowVGP K S [2, 3, 0, 1] (by decide) rfl (List.mem_append_left _ (List.mem_of_getElem? (i := 2) rfl)) rfl) rfl rfl hl.1 rfl (lv_room (Nat.le_of_ble_eq_true rfl)) d_So_entering_35 ⟨(show pt st N9 - pt s8 N9 + (pt s8 N9 - pt c2.1 N9) + (pt c2.1 N9 + 400) ≤ pt st N9 + 400 from by omega), (show 2 * (pt st N9 - pt s8 N9) + (2 * (pt s8 N9 - pt c2.1 N9)) + (2 * pt c2.1 N9 + 800) ≤ 2 * pt st N9 + 800 from by omega)⟩) (fun c13 H locs hw14 S => ?_)
            have S : Sw G A s.heap _ _ ([(h0, .inr (1, [.ref cea, .ref roa, .ref coa, .ref ura, .ref uca, .ref au, .ref ap, .ref al, .ref ar, .ref ae, .int (nI rw9), .int (nI C9), .int (nI fs9), .int (nI tk9)])), (cea, .inl (k 4, 3731, .inr (.inr (.inr (.inr (fun j => adO (c13.1 j))))))), (roa, .inl (k 0, 40, .inl ro)), (coa, .inl (k 0, 40, .inl co))] ++ (tpl k c13.1 N9)) := S
            have hw14 : hO c13.1 Z ∧ keO c2.1 c13.1 ∧ pt c13.1 N9 ≤ pt c2.1 N9 ∧ c13.2 ≤ 1 := hw14
            show W p l e _ s m _ below meth c H locs _ _ _ (F0 m 38 ls [.int (nI c13.2)])
            obtain ⟨ia1, ia2, ia3, ia4⟩ := hw14
            have hw14x := And.intro ia1 (And.intro ia2 ia3)
            obtain ⟨hh15, ke16, pt17⟩ := hw14x
            refine z_if_eq (a := c13.2) (tgt := 43) hx hb d_So_entering_38 (by decide) (by omega) (fun hc18 => ?_) (fun hc18 => ?_)
            · refine lv_iinc (v := nI (i9 + 1)) (lv' := [(3, .int (nI (i9 + 1))), (2, .int (nI b7)), (0, .ref h0), (1, .int (nI qr))]) hx hb d_So_entering_43 hl (k := 1) rfl (show nI i9 + Int32.ofInt 1 = nI (i9 + 1) from (nI_add i9 1).trans (congrArg nI (by omega))) (by decide) rfl (fun ls hl => ?_)
              refine lv_goto (tgt := 5) hx hb d_So_entering_46 (by decide) ?_
              have hq8 : hO c13.1 Z := ⟨hh15.1, hh15.2⟩
              refine W.widen (show pt st N9 - pt s8 N9 + (pt s8 N9 - pt c2.1 N9) + (pt c2.1 N9 - pt c13.1 N9) ≤ pt st N9 - pt c13.1 N9 from by omega) (show 2 * (pt st N9 - pt s8 N9) + (2 * (pt s8 N9 - pt c2.1 N9)) + (2 * (pt c2.1 N9 - pt c13.1 N9)) ≤ 2 * (pt st N9 - pt c13.1 N9) from by omega) ?_
              exact ih_lp c13.1 (nI b7) (i9 + 1) (by omega) hq8 ((hke8.tr ke6).tr ke16) (by omega) (by omega) (Or.inr ⟨b7, ⟨by omega, l7.2⟩, rfl⟩) _ _ (S.subP [0, 1, 2, 3] (by decide) rfl) ls (lv_sub hl [1, 0, 2, 3] rfl)
            · refine lv_iload_n hx hb d_So_entering_41 rfl (lv_at hl 1 rfl) ?_
              refine lv_istore_n (lv' := [(2, .int (nI i9)), (3, .int (nI i9)), (0, .ref h0), (1, .int (nI qr))]) hx hb d_So_entering_42 rfl hl (by decide) rfl (fun ls hl => ?_)
              refine lv_iinc (v := nI (i9 + 1)) (lv' := [(3, .int (nI (i9 + 1))), (2, .int (nI i9)), (0, .ref h0), (1, .int (nI qr))]) hx hb d_So_entering_43 hl (k := 1) rfl (show nI i9 + Int32.ofInt 1 = nI (i9 + 1) from (nI_add i9 1).trans (congrArg nI (by omega))) (by decide) rfl (fun ls hl => ?_)
              refine lv_goto (tgt := 5) hx hb d_So_entering_46 (by decide) ?_
              have hq8 : hO c13.1 Z := ⟨hh15.1, hh15.2⟩
              refine W.widen (show pt st N9 - pt s8 N9 + (pt s8 N9 - pt c2.1 N9) + (pt c2.1 N9 - pt c13.1 N9) ≤ pt st N9 - pt c13.1 N9 from by omega) (show 2 * (pt st N9 - pt s8 N9) + (2 * (pt s8 N9 - pt c2.1 N9)) + (2 * (pt c2.1 N9 - pt c13.1 N9)) ≤ 2 * (pt st N9 - pt c13.1 N9) from by omega) ?_
              exact ih_lp c13.1 (nI i9) (i9 + 1) (by omega) hq8 ((hke8.tr ke6).tr ke16) (by omega) (by omega) (Or.inr ⟨i9, ⟨by omega, sgn_gt.mp (Int32.not_le.mp hc11)⟩, rfl⟩) _ _ (S.subP [0, 1, 2, 3] (by decide) rfl) ls (lv_sub hl [1, 0, 2, 3] rfl)
  exact lp _ st (-2) 0 (Nat.lt_succ_self _) hz9 (keO.rf st) (by omega) (by omega) (Or.inl rfl) _ _ (S.subP [0, 1, 2, 3] (by decide) rfl) ls (lv_sub hl [1, 0, 2, 3] rfl)
