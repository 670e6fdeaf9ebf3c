theorem d_Mo_compareProducts_0 : decode c_Mo_compareProducts 0 = .ok (.aload_n 0, 1) := by decide +kernel
theorem d_Mo_compareProducts_1 : decode c_Mo_compareProducts 1 = .ok (.aload_n 0, 1) := by decide +kernel
theorem d_Mo_compareProducts_2 : decode c_Mo_compareProducts 2 = .ok (.iload_n 1, 1) := by decide +kernel
theorem d_Mo_compareProducts_3 : decode c_Mo_compareProducts 3 = .ok (.iload_n 2, 1) := by decide +kernel
theorem d_Mo_compareProducts_4 : decode c_Mo_compareProducts 4 = .ok (.aload_n 0, 1) := by decide +kernel
theorem d_Mo_compareProducts_5 : decode c_Mo_compareProducts 5 = .ok (.getfield 93, 3) := by decide +kernel
theorem d_Mo_compareProducts_8 : decode c_Mo_compareProducts 8 = .ok (.invokevirtual 282, 3) := by decide +kernel
theorem d_Mo_compareProducts_11 : decode c_Mo_compareProducts 11 = .ok (.putfield 286, 3) := by decide +kernel
theorem d_Mo_compareProducts_14 : decode c_Mo_compareProducts 14 = .ok (.aload_n 0, 1) := by decide +kernel
theorem d_Mo_compareProducts_15 : decode c_Mo_compareProducts 15 = .ok (.aload_n 0, 1) := by decide +kernel
theorem d_Mo_compareProducts_16 : decode c_Mo_compareProducts 16 = .ok (.iload_n 3, 1) := by decide +kernel
theorem d_Mo_compareProducts_17 : decode c_Mo_compareProducts 17 = .ok (.iload 4, 2) := by decide +kernel
theorem d_Mo_compareProducts_19 : decode c_Mo_compareProducts 19 = .ok (.aload_n 0, 1) := by decide +kernel
theorem d_Mo_compareProducts_20 : decode c_Mo_compareProducts 20 = .ok (.getfield 96, 3) := by decide +kernel
theorem d_Mo_compareProducts_23 : decode c_Mo_compareProducts 23 = .ok (.invokevirtual 282, 3) := by decide +kernel
theorem d_Mo_compareProducts_26 : decode c_Mo_compareProducts 26 = .ok (.putfield 292, 3) := by decide +kernel
theorem d_Mo_compareProducts_29 : decode c_Mo_compareProducts 29 = .ok (.aload_n 0, 1) := by decide +kernel
theorem d_Mo_compareProducts_30 : decode c_Mo_compareProducts 30 = .ok (.getfield 93, 3) := by decide +kernel
theorem d_Mo_compareProducts_33 : decode c_Mo_compareProducts 33 = .ok (.aload_n 0, 1) := by decide +kernel
theorem d_Mo_compareProducts_34 : decode c_Mo_compareProducts 34 = .ok (.getfield 286, 3) := by decide +kernel
theorem d_Mo_compareProducts_37 : decode c_Mo_compareProducts 37 = .ok (.aload_n 0, 1) := by decide +kernel
theorem d_Mo_compareProducts_38 : decode c_Mo_compareProducts 38 = .ok (.getfield 96, 3) := by decide +kernel
theorem d_Mo_compareProducts_41 : decode c_Mo_compareProducts 41 = .ok (.aload_n 0, 1) := by decide +kernel
theorem d_Mo_compareProducts_42 : decode c_Mo_compareProducts 42 = .ok (.getfield 292, 3) := by decide +kernel
theorem d_Mo_compareProducts_45 : decode c_Mo_compareProducts 45 = .ok (.invokestatic 301, 3) := by decide +kernel
theorem d_Mo_compareProducts_48 : decode c_Mo_compareProducts 48 = .ok (.ireturn, 1) := by decide +kernel
set_option maxRecDepth 100000 in
set_option maxHeartbeats 8000000 in
/-- compareProducts(x, y, a, b): by amounts -/
theorem g_Mo_compareProducts (l : Launch) (G : va_G) (k : Nat → ClassId) (h0 s0 x y a b : Nat) (ma : Nat → Nat) (iv : Nat → Int32) (co : Int64) (dg sz T1 T2 : Nat → Nat) (hx : x < 3998) (hy : y < 3998) (ha : a < 3998) (hb : b < 3998) (sx : sz x ≤ 80) (sy : sz y ≤ 80) (sa : sz a ≤ 80) (sb : sz b ≤ 80) (hdg : ∀ i, i < 319840 → dg i < 65536) (dT1 : ∀ i, i < 170 → T1 i < 65536) (dT2 : ∀ i, i < 170 → T2 i < 65536) : CI l y_Mo_compareProducts c_Mo_compareProducts 5 .int { frames := 2, cells := 0, slots := 0, locals := 100 } [.ref h0, .int (nI x), .int (nI y), .int (nI a), .int (nI b)] G k s0 [(h0, .inr (8, moL ma iv co)), ((ma 21), .inl (k 0, 319840, .inl (fun i => nI (dg i)))), ((ma 22), .inl (k 0, 3998, .inl (fun i => nI (sz i)))), ((ma 24), .inl (k 0, 170, .inl (fun i => nI (T1 i)))), ((ma 25), .inl (k 0, 170, .inl (fun i => nI (T2 i))))] (fun (r : Int32) (u : (Nat → Nat) × (Nat → Nat) × Int32 × Int32) => r = (if vl 65536 (fun i => dg (x * 80 + i)) (sz x) * vl 65536 (fun i => dg (y * 80 + i)) (sz y) = vl 65536 (fun i => dg (a * 80 + i)) (sz a) * vl 65536 (fun i => dg (b * 80 + i)) (sz b) then 0 else if vl 65536 (fun i => dg (x * 80 + i)) (sz x) * vl 65536 (fun i => dg (y * 80 + i)) (sz y) < vl 65536 (fun i => dg (a * 80 + i)) (sz a) * vl 65536 (fun i => dg (b * 80 + i)) (sz b) then -1 else 1) ∧ (∀ i, i < 170 → u.1 i < 65536) ∧ ∀ i, i < 170 → u.2.1 i < 65536) (fun u => [(h0, .inr (8, moL ma (va_up (va_up iv 19 u.2.2.1) 20 u.2.2.2) co)), ((ma 21), .inl (k 0, 319840, .inl (fun i => nI (dg i)))), ((ma 22), .inl (k 0, 3998, .inl (fun i => nI (sz i)))), ((ma 24), .inl (k 0, 170, .inl (fun i => nI (u.1 i)))), ((ma 25), .inl (k 0, 170, .inl (fun i => nI (u.2.1 i))))]) 0 0 := by
  have kx := hx
  have ky := hy
  have ka := ha
  have kb := hb
  refine met_start (by decide) (Nat.le_of_ble_eq_true rfl) ?_
  intro p e s m below meth c C K hA hsz S ls hl
  generalize va_A [(h0, .inr (8, moL ma iv co)), ((ma 21), .inl (k 0, 319840, .inl (fun i => nI (dg i)))), ((ma 22), .inl (k 0, 3998, .inl (fun i => nI (sz i)))), ((ma 24), .inl (k 0, 170, .inl (fun i => nI (T1 i)))), ((ma 25), .inl (k 0, 170, .inl (fun i => nI (T2 i))))] s0 = A at hA S ⊢
  have hx := C.1
  have hb := C.2.1
  have hl : lv_has ls 5 [(0, .ref h0), (1, .int (nI x)), (2, .int (nI y)), (3, .int (nI a)), (4, .int (nI b))] := hl
  refine lv_aload_n hx hb d_Mo_compareProducts_0 rfl (lv_at hl 0 rfl) ?_
  refine lv_aload_n hx hb d_Mo_compareProducts_1 rfl (lv_at hl 0 rfl) ?_
  refine lv_iload_n hx hb d_Mo_compareProducts_2 rfl (lv_at hl 1 rfl) ?_
  refine lv_iload_n hx hb d_Mo_compareProducts_3 rfl (lv_at hl 2 rfl) ?_
  refine lv_aload_n hx hb d_Mo_compareProducts_4 rfl (lv_at hl 0 rfl) ?_
  refine r_get C K S 0 rfl rfl clOk_Mo 44 (by decide) wf_Mo_93 (v := .ref (ma 24)) rfl d_Mo_compareProducts_5 ?_
  refine r_backi (wi := [(h0, .inr (8, moL ma iv co)), ((ma 21), .inl (k 0, 319840, .inl (fun i => nI (dg i)))), ((ma 22), .inl (k 0, 3998, .inl (fun i => nI (sz i)))), ((ma 24), .inl (k 0, 170, .inl (fun i => nI (T1 i))))]) (wr := [((ma 25), .inl (k 0, 170, .inl (fun i => nI (T2 i))))]) S hA [0, 1, 2, 3] [4] rfl rfl (by decide) (by decide) (va_runV (As := [.int (nI x), .int (nI y), .ref (ma 24)]) (rest := [.ref h0]) ⟨hx, hb, C.2.2.1, C.2.2.2.1, C.2.2.2.2.1⟩ (g_Mo_times l G k h0 _ (ma 24) x y ma iv co dg sz T1 kx ky sx sy hdg dT1) (k_virt (n := 3) C wc_Mo_times rfl rfl wz_Mo wm_Mo_282 wn_Mo_times ws_Mo_times (by decide +kernel) ⟨(Nat.le_of_ble_eq_true rfl), (Nat.le_of_ble_eq_true rfl)⟩) (pr_nowV K S [0, 1, 2, 3] (by decide) rfl 0 rfl rfl) rfl rfl hl.1 rfl (lv_room (Nat.le_of_ble_eq_true rfl)) d_Mo_compareProducts_8 ⟨(Nat.le_of_ble_eq_true rfl), (Nat.le_of_ble_eq_true rfl)⟩) (fun r3 u1 H locs hw2 S => ?_)
  have S : Sw G A s.heap _ _ [((ma 25), .inl (k 0, 170, .inl (fun i => nI (T2 i)))), (h0, .inr (8, moL ma iv co)), ((ma 21), .inl (k 0, 319840, .inl (fun i => nI (dg i)))), ((ma 22), .inl (k 0, 3998, .inl (fun i => nI (sz i)))), ((ma 24), .inl (k 0, 170, .inl (fun i => nI (u1 i))))] := S
  obtain ⟨ha0, hv0, hd0, _⟩ := hw2
  subst ha0
  have hk0 := vl_cut (B := 65536) u1 (fun i => nI (u1 i)) (fun _ => rfl) (sz x + sz y) (fun i hi => by have := hd0 i (by omega); omega)
  have hn0 : cutN (fun i => nI (u1 i)) (sz x + sz y) ≤ sz x + sz y := hk0.2.1
  refine r_put C K S 1 rfl rfl clOk_Mo 48 (by decide) wf_Mo_286 rfl (ty := .int) (v := .int (nI (cutN (fun i => nI (u1 i)) (sz x + sz y)))) (by decide +kernel) rfl rfl (Nat.le_of_ble_eq_true rfl) (fs' := moL ma (va_up iv 19 (nI (cutN (fun i => nI (u1 i)) (sz x + sz y)))) co) (ws' := [((ma 25), .inl (k 0, 170, .inl (fun i => nI (T2 i)))), (h0, .inr (8, moL ma (va_up iv 19 (nI (cutN (fun i => nI (u1 i)) (sz x + sz y)))) co)), ((ma 21), .inl (k 0, 319840, .inl (fun i => nI (dg i)))), ((ma 22), .inl (k 0, 3998, .inl (fun i => nI (sz i)))), ((ma 24), .inl (k 0, 170, .inl (fun i => nI (u1 i))))]) rfl rfl d_Mo_compareProducts_11 (fun H locs S => ?_)
  refine lv_aload_n hx hb d_Mo_compareProducts_14 rfl (lv_at hl 0 rfl) ?_
  refine lv_aload_n hx hb d_Mo_compareProducts_15 rfl (lv_at hl 0 rfl) ?_
  refine lv_iload_n hx hb d_Mo_compareProducts_16 rfl (lv_at hl 3 rfl) ?_
  refine lv_iload hx hb d_Mo_compareProducts_17 (lv_at hl 4 rfl) ?_
  refine lv_aload_n hx hb d_Mo_compareProducts_19 rfl (lv_at hl 0 rfl) ?_
  refine r_get C K S 1 rfl rfl clOk_Mo 45 (by decide) wf_Mo_96 (v := .ref (ma 25)) rfl d_Mo_compareProducts_20 ?_
  refine r_backi (wi := [(h0, .inr (8, moL ma (va_up iv 19 (nI (cutN (fun i => nI (u1 i)) (sz x + sz y)))) co)), ((ma 21), .inl (k 0, 319840, .inl (fun i => nI (dg i)))), ((ma 22), .inl (k 0, 3998, .inl (fun i => nI (sz i)))), ((ma 25), .inl (k 0, 170, .inl (fun i => nI (T2 i))))]) (wr := [((ma 24), .inl (k 0, 170, .inl (fun i => nI (u1 i))))]) S hA [1, 2, 3, 0] [4] rfl rfl (by decide) (by decide) (va_runV (As := [.int (nI a), .int (nI b), .ref (ma 25)]) (rest := [.ref h0]) ⟨hx, hb, C.2.2.1, C.2.2.2.1, C.2.2.2.2.1⟩ (g_Mo_times l G k h0 _ (ma 25) a b ma (va_up iv 19 (nI (cutN (fun i => nI (u1 i)) (sz x + sz y)))) co dg sz T2 ka kb sa sb hdg dT2) (k_virt (n := 3) C wc_Mo_times rfl rfl wz_Mo wm_Mo_282 wn_Mo_times ws_Mo_times (by decide +kernel) ⟨(Nat.le_of_ble_eq_true rfl), (Nat.le_of_ble_eq_true rfl)⟩) (pr_nowV K S [1, 2, 3, 0] (by decide) rfl 1 rfl rfl) rfl rfl hl.1 rfl (lv_room (Nat.le_of_ble_eq_true rfl)) d_Mo_compareProducts_23 ⟨(Nat.le_of_ble_eq_true rfl), (Nat.le_of_ble_eq_true rfl)⟩) (fun r6 u4 H locs hw5 S => ?_)
  have S : Sw G A s.heap _ _ [((ma 24), .inl (k 0, 170, .inl (fun i => nI (u1 i)))), (h0, .inr (8, moL ma (va_up iv 19 (nI (cutN (fun i => nI (u1 i)) (sz x + sz y)))) co)), ((ma 21), .inl (k 0, 319840, .inl (fun i => nI (dg i)))), ((ma 22), .inl (k 0, 3998, .inl (fun i => nI (sz i)))), ((ma 25), .inl (k 0, 170, .inl (fun i => nI (u4 i))))] := S
  obtain ⟨ha1, hv1, hd1, _⟩ := hw5
  subst ha1
  have hk1 := vl_cut (B := 65536) u4 (fun i => nI (u4 i)) (fun _ => rfl) (sz a + sz b) (fun i hi => by have := hd1 i (by omega); omega)
  have hn1 : cutN (fun i => nI (u4 i)) (sz a + sz b) ≤ sz a + sz b := hk1.2.1
  refine r_put C K S 1 rfl rfl clOk_Mo 49 (by decide) wf_Mo_292 rfl (ty := .int) (v := .int (nI (cutN (fun i => nI (u4 i)) (sz a + sz b)))) (by decide +kernel) rfl rfl (Nat.le_of_ble_eq_true rfl) (fs' := moL ma (va_up (va_up iv 19 (nI (cutN (fun i => nI (u1 i)) (sz x + sz y)))) 20 (nI (cutN (fun i => nI (u4 i)) (sz a + sz b)))) co) (ws' := [((ma 24), .inl (k 0, 170, .inl (fun i => nI (u1 i)))), (h0, .inr (8, moL ma (va_up (va_up iv 19 (nI (cutN (fun i => nI (u1 i)) (sz x + sz y)))) 20 (nI (cutN (fun i => nI (u4 i)) (sz a + sz b)))) co)), ((ma 21), .inl (k 0, 319840, .inl (fun i => nI (dg i)))), ((ma 22), .inl (k 0, 3998, .inl (fun i => nI (sz i)))), ((ma 25), .inl (k 0, 170, .inl (fun i => nI (u4 i))))]) rfl rfl d_Mo_compareProducts_26 (fun H locs S => ?_)
  refine lv_aload_n hx hb d_Mo_compareProducts_29 rfl (lv_at hl 0 rfl) ?_
  refine r_get C K S 1 rfl rfl clOk_Mo 44 (by decide) wf_Mo_93 (v := .ref (ma 24)) rfl d_Mo_compareProducts_30 ?_
  refine lv_aload_n hx hb d_Mo_compareProducts_33 rfl (lv_at hl 0 rfl) ?_
  refine r_get C K S 1 rfl rfl clOk_Mo 48 (by decide) wf_Mo_286 (v := .int (nI (cutN (fun i => nI (u1 i)) (sz x + sz y)))) rfl d_Mo_compareProducts_34 ?_
  refine lv_aload_n hx hb d_Mo_compareProducts_37 rfl (lv_at hl 0 rfl) ?_
  refine r_get C K S 1 rfl rfl clOk_Mo 45 (by decide) wf_Mo_96 (v := .ref (ma 25)) rfl d_Mo_compareProducts_38 ?_
  refine lv_aload_n hx hb d_Mo_compareProducts_41 rfl (lv_at hl 0 rfl) ?_
  refine r_get C K S 1 rfl rfl clOk_Mo 49 (by decide) wf_Mo_292 (v := .int (nI (cutN (fun i => nI (u4 i)) (sz a + sz b)))) rfl d_Mo_compareProducts_42 ?_
  refine r_backi (wi := [((ma 24), .inl (k 0, 170, .inl (fun i => nI (u1 i)))), ((ma 25), .inl (k 0, 170, .inl (fun i => nI (u4 i))))]) (wr := [(h0, .inr (8, moL ma (va_up (va_up iv 19 (nI (cutN (fun i => nI (u1 i)) (sz x + sz y)))) 20 (nI (cutN (fun i => nI (u4 i)) (sz a + sz b)))) co)), ((ma 21), .inl (k 0, 319840, .inl (fun i => nI (dg i)))), ((ma 22), .inl (k 0, 3998, .inl (fun i => nI (sz i))))]) S hA [0, 4] [1, 2, 3] rfl rfl (by decide) (by decide) (va_runS (As := [.ref (ma 24), .int (nI (cutN (fun i => nI (u1 i)) (sz x + sz y))), .ref (ma 25), .int (nI (cutN (fun i => nI (u4 i)) (sz a + sz b)))]) (rest := []) ⟨hx, hb, C.2.2.1, C.2.2.2.1, C.2.2.2.2.1⟩ (g_Mo_compare l G k _ (ma 24) (ma 25) 170 170 (cutN (fun i => nI (u1 i)) (sz x + sz y)) (cutN (fun i => nI (u4 i)) (sz a + sz b)) u1 u4 (by omega) (by omega) (by decide) (by decide) hd0 hd1) (k_stat (n := 4) C wc_Mo_compare rfl rfl wz_Mo wm_Mo_301 wt_Mo_compare (by decide +kernel) ⟨(Nat.le_of_ble_eq_true rfl), (Nat.le_of_ble_eq_true rfl)⟩) (pr_now K S [0, 4] (by decide) rfl) rfl rfl hl.1 rfl (lv_room (Nat.le_of_ble_eq_true rfl)) d_Mo_compareProducts_45 ⟨(Nat.le_of_ble_eq_true rfl), (Nat.le_of_ble_eq_true rfl)⟩) (fun r9 u7 H locs hw8 S => ?_)
  have S : Sw G A s.heap _ _ [(h0, .inr (8, moL ma (va_up (va_up iv 19 (nI (cutN (fun i => nI (u1 i)) (sz x + sz y)))) 20 (nI (cutN (fun i => nI (u4 i)) (sz a + sz b)))) co)), ((ma 21), .inl (k 0, 319840, .inl (fun i => nI (dg i)))), ((ma 22), .inl (k 0, 3998, .inl (fun i => nI (sz i)))), ((ma 24), .inl (k 0, 170, .inl (fun i => nI (u1 i)))), ((ma 25), .inl (k 0, 170, .inl (fun i => nI (u4 i))))] := S
  have cv := cmpN_val (B := 65536) (ga := u1) (gb := u4) (na := cutN (fun i => nI (u1 i)) (sz x + sz y)) (nb := cutN (fun i => nI (u4 i)) (sz a + sz b)) (by decide) (fun i hi => hd0 i (by omega)) (fun i hi => hd1 i (by omega)) hk0.2.2 hk1.2.2
  rw [← hk0.1, ← hk1.1, hv0, hv1] at cv
  exact r_iret C K rfl (u1, u4, nI (cutN (fun i => nI (u1 i)) (sz x + sz y)), nI (cutN (fun i => nI (u4 i)) (sz a + sz b))) ⟨hw8.trans cv, hd0, hd1⟩ (S.sub [0, 1, 2, 3, 4] (by decide) rfl) d_Mo_compareProducts_48 (Nat.le_of_ble_eq_true rfl) (Nat.le_of_ble_eq_true rfl)
