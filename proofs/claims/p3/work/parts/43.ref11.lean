/-- a number with its sign -/
def sv (b n : Nat) : Int := if b = 1 then - (n : Int) else (n : Int)
theorem sv_mul {a b m n : Nat} (ha : a ≤ 1) (hb : b ≤ 1) : sv (if a = b then 0 else 1) (m * n) = sv a m * sv b n := by
  unfold sv
  rcases (show a = 0 ∨ a = 1 by omega) with rfl | rfl <;> rcases (show b = 0 ∨ b = 1 by omega) with rfl | rfl <;> simp <;> (try rw [Int.neg_mul]) <;> (try rw [Int.mul_neg]) <;> (try rw [Int.neg_neg])
theorem sv_same {b p q u : Nat} (h : u = p + q) : sv b u = sv b p + sv b q := by
  unfold sv
  split <;> omega
theorem sv_ge {a b p q u : Nat} (ha : a ≤ 1) (hb : b ≤ 1) (hne : a ≠ b) (h : u + q = p) : sv a u = sv a p + sv b q := by
  unfold sv
  rcases (show a = 0 ∧ b = 1 ∨ a = 1 ∧ b = 0 by omega) with ⟨rfl, rfl⟩ | ⟨rfl, rfl⟩ <;> simp <;> omega
theorem sv_lt {a b p q u : Nat} (ha : a ≤ 1) (hb : b ≤ 1) (hne : a ≠ b) (h : u + p = q) : sv b u = sv a p + sv b q := by
  unfold sv
  rcases (show a = 0 ∧ b = 1 ∨ a = 1 ∧ b = 0 by omega) with ⟨rfl, rfl⟩ | ⟨rfl, rfl⟩ <;> simp <;> omega
theorem d_Mo_products_0 : decode c_Mo_products 0 = .ok (.aload_n 0, 1) := by decide +kernel
theorem d_Mo_products_1 : decode c_Mo_products 1 = .ok (.aload_n 0, 1) := by decide +kernel
theorem d_Mo_products_2 : decode c_Mo_products 2 = .ok (.iload_n 1, 1) := by decide +kernel
theorem d_Mo_products_3 : decode c_Mo_products 3 = .ok (.iload_n 2, 1) := by decide +kernel
theorem d_Mo_products_4 : decode c_Mo_products 4 = .ok (.aload_n 0, 1) := by decide +kernel
theorem d_Mo_products_5 : decode c_Mo_products 5 = .ok (.getfield 93, 3) := by decide +kernel
theorem d_Mo_products_8 : decode c_Mo_products 8 = .ok (.invokevirtual 282, 3) := by decide +kernel
theorem d_Mo_products_11 : decode c_Mo_products 11 = .ok (.putfield 286, 3) := by decide +kernel
theorem d_Mo_products_14 : decode c_Mo_products 14 = .ok (.aload_n 0, 1) := by decide +kernel
theorem d_Mo_products_15 : decode c_Mo_products 15 = .ok (.aload_n 0, 1) := by decide +kernel
theorem d_Mo_products_16 : decode c_Mo_products 16 = .ok (.getfield 89, 3) := by decide +kernel
theorem d_Mo_products_19 : decode c_Mo_products 19 = .ok (.iload_n 1, 1) := by decide +kernel
theorem d_Mo_products_20 : decode c_Mo_products 20 = .ok (.baload, 1) := by decide +kernel
theorem d_Mo_products_21 : decode c_Mo_products 21 = .ok (.aload_n 0, 1) := by decide +kernel
theorem d_Mo_products_22 : decode c_Mo_products 22 = .ok (.getfield 89, 3) := by decide +kernel
theorem d_Mo_products_25 : decode c_Mo_products 25 = .ok (.iload_n 2, 1) := by decide +kernel
theorem d_Mo_products_26 : decode c_Mo_products 26 = .ok (.baload, 1) := by decide +kernel
theorem d_Mo_products_27 : decode c_Mo_products 27 = .ok (.if_icmp .eq 7, 3) := by decide +kernel
theorem d_Mo_products_30 : decode c_Mo_products 30 = .ok (.iconst 1, 1) := by decide +kernel
theorem d_Mo_products_31 : decode c_Mo_products 31 = .ok (.goto 4, 3) := by decide +kernel
theorem d_Mo_products_34 : decode c_Mo_products 34 = .ok (.iconst 0, 1) := by decide +kernel
theorem d_Mo_products_35 : decode c_Mo_products 35 = .ok (.putfield 289, 3) := by decide +kernel
theorem d_Mo_products_38 : decode c_Mo_products 38 = .ok (.aload_n 0, 1) := by decide +kernel
theorem d_Mo_products_39 : decode c_Mo_products 39 = .ok (.aload_n 0, 1) := by decide +kernel
theorem d_Mo_products_40 : decode c_Mo_products 40 = .ok (.iload_n 3, 1) := by decide +kernel
theorem d_Mo_products_41 : decode c_Mo_products 41 = .ok (.iload 4, 2) := by decide +kernel
theorem d_Mo_products_43 : decode c_Mo_products 43 = .ok (.aload_n 0, 1) := by decide +kernel
theorem d_Mo_products_44 : decode c_Mo_products 44 = .ok (.getfield 96, 3) := by decide +kernel
theorem d_Mo_products_47 : decode c_Mo_products 47 = .ok (.invokevirtual 282, 3) := by decide +kernel
theorem d_Mo_products_50 : decode c_Mo_products 50 = .ok (.putfield 292, 3) := by decide +kernel
theorem d_Mo_products_53 : decode c_Mo_products 53 = .ok (.aload_n 0, 1) := by decide +kernel
theorem d_Mo_products_54 : decode c_Mo_products 54 = .ok (.aload_n 0, 1) := by decide +kernel
theorem d_Mo_products_55 : decode c_Mo_products 55 = .ok (.getfield 89, 3) := by decide +kernel
theorem d_Mo_products_58 : decode c_Mo_products 58 = .ok (.iload_n 3, 1) := by decide +kernel
theorem d_Mo_products_59 : decode c_Mo_products 59 = .ok (.baload, 1) := by decide +kernel
theorem d_Mo_products_60 : decode c_Mo_products 60 = .ok (.aload_n 0, 1) := by decide +kernel
theorem d_Mo_products_61 : decode c_Mo_products 61 = .ok (.getfield 89, 3) := by decide +kernel
theorem d_Mo_products_64 : decode c_Mo_products 64 = .ok (.iload 4, 2) := by decide +kernel
theorem d_Mo_products_66 : decode c_Mo_products 66 = .ok (.baload, 1) := by decide +kernel
theorem d_Mo_products_67 : decode c_Mo_products 67 = .ok (.if_icmp .eq 7, 3) := by decide +kernel
theorem d_Mo_products_70 : decode c_Mo_products 70 = .ok (.iconst 1, 1) := by decide +kernel
theorem d_Mo_products_71 : decode c_Mo_products 71 = .ok (.goto 4, 3) := by decide +kernel
theorem d_Mo_products_74 : decode c_Mo_products 74 = .ok (.iconst 0, 1) := by decide +kernel
theorem d_Mo_products_75 : decode c_Mo_products 75 = .ok (.putfield 295, 3) := by decide +kernel
theorem d_Mo_products_78 : decode c_Mo_products 78 = .ok (.aload_n 0, 1) := by decide +kernel
theorem d_Mo_products_79 : decode c_Mo_products 79 = .ok (.invokevirtual 298, 3) := by decide +kernel
theorem d_Mo_products_82 : decode c_Mo_products 82 = .ok (.return_, 1) := by decide +kernel
set_option maxRecDepth 100000 in
set_option maxHeartbeats 16000000 in
/-- products(x, y, a, b) -/
theorem g_Mo_products (l : Launch) (G : va_G) (k : Nat → ClassId) (h0 s0 x y a b : Nat) (ma : Nat → Nat) (iv : Nat → Int32) (co : Int64) (dg sz bl T1 T2 : Nat → Nat) (kx : x < 3998) (ky : y < 3998) (ka : a < 3998) (kb : b < 3998) (sx : sz x ≤ 80) (sy : sz y ≤ 80) (sa : sz a ≤ 80) (sb : sz b ≤ 80) (bx : bl x ≤ 1) (by9 : bl y ≤ 1) (ba : bl a ≤ 1) (bb : bl b ≤ 1) (hdg : ∀ i, i < 319840 → dg i < 65536) (dT1 : ∀ i, i < 170 → T1 i < 65536) (dT2 : ∀ i, i < 170 → T2 i < 65536) : CV l y_Mo_products c_Mo_products 5 { frames := 3, cells := 0, slots := 0, locals := 140 } [.ref h0, .int (nI x), .int (nI y), .int (nI a), .int (nI b)] G k s0 [(h0, .inr (8, moL ma iv co)), ((ma 21), .inl (k 0, 319840, .inl (fun i => nI (dg i)))), ((ma 22), .inl (k 0, 3998, .inl (fun i => nI (sz i)))), ((ma 23), .inl (k 2, 3998, .inl (fun i => nI (bl i)))), ((ma 24), .inl (k 0, 170, .inl (fun i => nI (T1 i)))), ((ma 25), .inl (k 0, 170, .inl (fun i => nI (T2 i))))] (fun (u : (Nat → Nat) × (Nat → Nat) × Nat × Nat × Nat × Nat) => sv u.2.2.2.1 (vl 65536 u.1 u.2.2.1) = sv (bl x) (vl 65536 (fun i => dg (x * 80 + i)) (sz x)) * sv (bl y) (vl 65536 (fun i => dg (y * 80 + i)) (sz y)) + sv (bl a) (vl 65536 (fun i => dg (a * 80 + i)) (sz a)) * sv (bl b) (vl 65536 (fun i => dg (b * 80 + i)) (sz b)) ∧ u.2.2.1 ≤ 161 ∧ (u.2.2.1 = 0 ∨ u.1 (u.2.2.1 - 1) ≠ 0) ∧ (∀ i, i < 170 → u.1 i < 65536) ∧ (∀ i, i < 170 → u.2.1 i < 65536) ∧ u.2.2.2.1 ≤ 1) (fun u => [(h0, .inr (8, moL ma (va_up (va_up (va_up (va_up iv 21 (nI u.2.2.2.1)) 22 (nI u.2.2.2.2.2)) 20 (nI u.2.2.2.2.1)) 19 (nI u.2.2.1)) co)), ((ma 21), .inl (k 0, 319840, .inl (fun i => nI (dg i)))), ((ma 22), .inl (k 0, 3998, .inl (fun i => nI (sz i)))), ((ma 23), .inl (k 2, 3998, .inl (fun i => nI (bl i)))), ((ma 24), .inl (k 0, 170, .inl (fun i => nI (u.1 i)))), ((ma 25), .inl (k 0, 170, .inl (fun i => nI (u.2.1 i))))]) 0 0 := by
  refine met_start (by decide) (Nat.le_of_ble_eq_true rfl) ?_
  intro p e s m below meth c C K hA hsz S ls hl
  generalize va_A [(h0, .inr (8, moL ma iv co)), ((ma 21), .inl (k 0, 319840, .inl (fun i => nI (dg i)))), ((ma 22), .inl (k 0, 3998, .inl (fun i => nI (sz i)))), ((ma 23), .inl (k 2, 3998, .inl (fun i => nI (bl i)))), ((ma 24), .inl (k 0, 170, .inl (fun i => nI (T1 i)))), ((ma 25), .inl (k 0, 170, .inl (fun i => nI (T2 i))))] s0 = A at hA S ⊢
  have hx := C.1
  have hb := C.2.1
  have hl : lv_has ls 5 [(0, .ref h0), (1, .int (nI x)), (2, .int (nI y)), (3, .int (nI a)), (4, .int (nI b))] := hl
  refine lv_aload_n hx hb d_Mo_products_0 rfl (lv_at hl 0 rfl) ?_
  refine lv_aload_n hx hb d_Mo_products_1 rfl (lv_at hl 0 rfl) ?_
  refine lv_iload_n hx hb d_Mo_products_2 rfl (lv_at hl 1 rfl) ?_
  refine lv_iload_n hx hb d_Mo_products_3 rfl (lv_at hl 2 rfl) ?_
  refine lv_aload_n hx hb d_Mo_products_4 rfl (lv_at hl 0 rfl) ?_
  refine r_get C K S 0 rfl rfl clOk_Mo 44 (by decide) wf_Mo_93 (v := .ref (ma 24)) rfl d_Mo_products_5 ?_
  refine r_backi (wi := [(h0, .inr (8, moL ma iv co)), ((ma 21), .inl (k 0, 319840, .inl (fun i => nI (dg i)))), ((ma 22), .inl (k 0, 3998, .inl (fun i => nI (sz i)))), ((ma 24), .inl (k 0, 170, .inl (fun i => nI (T1 i))))]) (wr := [((ma 23), .inl (k 2, 3998, .inl (fun i => nI (bl i)))), ((ma 25), .inl (k 0, 170, .inl (fun i => nI (T2 i))))]) S hA [0, 1, 2, 4] [3, 5] rfl rfl (by decide) (by decide) (va_runV (As := [.int (nI x), .int (nI y), .ref (ma 24)]) (rest := [.ref h0]) ⟨hx, hb, C.2.2.1, C.2.2.2.1, C.2.2.2.2.1⟩ (g_Mo_times l G k h0 _ (ma 24) x y ma iv co dg sz T1 kx ky sx sy hdg dT1) (k_virt (n := 3) C wc_Mo_times rfl rfl wz_Mo wm_Mo_282 wn_Mo_times ws_Mo_times (by decide +kernel) ⟨(Nat.le_of_ble_eq_true rfl), (Nat.le_of_ble_eq_true rfl)⟩) (pr_nowV K S [0, 1, 2, 4] (by decide) rfl 0 rfl rfl) rfl rfl hl.1 rfl (lv_room (Nat.le_of_ble_eq_true rfl)) d_Mo_products_8 ⟨(Nat.le_of_ble_eq_true rfl), (Nat.le_of_ble_eq_true rfl)⟩) (fun r3 u1 H locs hw2 S => ?_)
  have S : Sw G A s.heap _ _ [((ma 23), .inl (k 2, 3998, .inl (fun i => nI (bl i)))), ((ma 25), .inl (k 0, 170, .inl (fun i => nI (T2 i)))), (h0, .inr (8, moL ma iv co)), ((ma 21), .inl (k 0, 319840, .inl (fun i => nI (dg i)))), ((ma 22), .inl (k 0, 3998, .inl (fun i => nI (sz i)))), ((ma 24), .inl (k 0, 170, .inl (fun i => nI (u1 i))))] := S
  obtain ⟨ha0, hv0, hd0, _⟩ := hw2
  subst ha0
  have hk0 := vl_cut (B := 65536) u1 (fun i => nI (u1 i)) (fun _ => rfl) (sz x + sz y) (fun i hi => by have := hd0 i (by omega); omega)
  have hn0 : cutN (fun i => nI (u1 i)) (sz x + sz y) ≤ sz x + sz y := hk0.2.1
  refine r_put C K S 2 rfl rfl clOk_Mo 48 (by decide) wf_Mo_286 rfl (ty := .int) (v := .int (nI (cutN (fun i => nI (u1 i)) (sz x + sz y)))) (by decide +kernel) rfl rfl (Nat.le_of_ble_eq_true rfl) (fs' := moL ma (va_up iv 19 (nI (cutN (fun i => nI (u1 i)) (sz x + sz y)))) co) (ws' := [((ma 23), .inl (k 2, 3998, .inl (fun i => nI (bl i)))), ((ma 25), .inl (k 0, 170, .inl (fun i => nI (T2 i)))), (h0, .inr (8, moL ma (va_up iv 19 (nI (cutN (fun i => nI (u1 i)) (sz x + sz y)))) co)), ((ma 21), .inl (k 0, 319840, .inl (fun i => nI (dg i)))), ((ma 22), .inl (k 0, 3998, .inl (fun i => nI (sz i)))), ((ma 24), .inl (k 0, 170, .inl (fun i => nI (u1 i))))]) rfl rfl d_Mo_products_11 (fun H locs S => ?_)
  refine lv_aload_n hx hb d_Mo_products_14 rfl (lv_at hl 0 rfl) ?_
  refine lv_aload_n hx hb d_Mo_products_15 rfl (lv_at hl 0 rfl) ?_
  refine r_get C K S 2 rfl rfl clOk_Mo 43 (by decide) wf_Mo_89 (v := .ref (ma 23)) rfl d_Mo_products_16 ?_
  refine lv_iload_n hx hb d_Mo_products_19 rfl (lv_at hl 1 rfl) ?_
  refine r_zald C K S 0 rfl (i := (nI x)) (vp_in_nI (by omega) (by decide)) (v := (nI (bl x))) (by rw [nI_clamp (by omega)]) d_Mo_products_20 ?_
  refine lv_aload_n hx hb d_Mo_products_21 rfl (lv_at hl 0 rfl) ?_
  refine r_get C K S 2 rfl rfl clOk_Mo 43 (by decide) wf_Mo_89 (v := .ref (ma 23)) rfl d_Mo_products_22 ?_
  refine lv_iload_n hx hb d_Mo_products_25 rfl (lv_at hl 2 rfl) ?_
  refine r_zald C K S 0 rfl (i := (nI y)) (vp_in_nI (by omega) (by decide)) (v := (nI (bl y))) (by rw [nI_clamp (by omega)]) d_Mo_products_26 ?_
  have cont1 : ∀ b1 : Nat, b1 ≤ 1 → b1 = (if bl x = bl y then 0 else 1) → W p l e { frames := 3, cells := 0, slots := 0, locals := 140 } s m [Value.ref h0, Value.int (nI x), Value.int (nI y), Value.int (nI a), Value.int (nI b)].toArray below meth c H locs 0 0 (MQ below (va_Qv (fun (u : (Nat → Nat) × (Nat → Nat) × Nat × Nat × Nat × Nat) => sv u.2.2.2.1 (vl 65536 u.1 u.2.2.1) = sv (bl x) (vl 65536 (fun i => dg (x * 80 + i)) (sz x)) * sv (bl y) (vl 65536 (fun i => dg (y * 80 + i)) (sz y)) + sv (bl a) (vl 65536 (fun i => dg (a * 80 + i)) (sz a)) * sv (bl b) (vl 65536 (fun i => dg (b * 80 + i)) (sz b)) ∧ u.2.2.1 ≤ 161 ∧ (u.2.2.1 = 0 ∨ u.1 (u.2.2.1 - 1) ≠ 0) ∧ (∀ i, i < 170 → u.1 i < 65536) ∧ (∀ i, i < 170 → u.2.1 i < 65536) ∧ u.2.2.2.1 ≤ 1) (Po G k A (fun u => [(h0, .inr (8, moL ma (va_up (va_up (va_up (va_up iv 21 (nI u.2.2.2.1)) 22 (nI u.2.2.2.2.2)) 20 (nI u.2.2.2.2.1)) 19 (nI u.2.2.1)) co)), ((ma 21), .inl (k 0, 319840, .inl (fun i => nI (dg i)))), ((ma 22), .inl (k 0, 3998, .inl (fun i => nI (sz i)))), ((ma 23), .inl (k 2, 3998, .inl (fun i => nI (bl i)))), ((ma 24), .inl (k 0, 170, .inl (fun i => nI (u.1 i)))), ((ma 25), .inl (k 0, 170, .inl (fun i => nI (u.2.1 i))))])) A) [Value.ref h0, Value.int (nI x), Value.int (nI y), Value.int (nI a), Value.int (nI b)].toArray s 0 0 A) (F0 m 35 ls [.int (nI b1), .ref h0]) := by
    intro b1 hb1 eb1
    refine r_put C K S 2 rfl rfl clOk_Mo 50 (by decide) wf_Mo_289 rfl (ty := .boolean) (v := .int (nI b1)) (by decide +kernel) (bo_n hb1) (bo_f hb1) (Nat.le_of_ble_eq_true rfl) (fs' := moL ma (va_up (va_up iv 19 (nI (cutN (fun i => nI (u1 i)) (sz x + sz y)))) 21 (nI b1)) co) (ws' := [((ma 23), .inl (k 2, 3998, .inl (fun i => nI (bl i)))), ((ma 25), .inl (k 0, 170, .inl (fun i => nI (T2 i)))), (h0, .inr (8, moL ma (va_up (va_up iv 19 (nI (cutN (fun i => nI (u1 i)) (sz x + sz y)))) 21 (nI b1)) co)), ((ma 21), .inl (k 0, 319840, .inl (fun i => nI (dg i)))), ((ma 22), .inl (k 0, 3998, .inl (fun i => nI (sz i)))), ((ma 24), .inl (k 0, 170, .inl (fun i => nI (u1 i))))]) rfl rfl d_Mo_products_35 (fun H locs S => ?_)
    refine lv_aload_n hx hb d_Mo_products_38 rfl (lv_at hl 0 rfl) ?_
    refine lv_aload_n hx hb d_Mo_products_39 rfl (lv_at hl 0 rfl) ?_
    refine lv_iload_n hx hb d_Mo_products_40 rfl (lv_at hl 3 rfl) ?_
    refine lv_iload hx hb d_Mo_products_41 (lv_at hl 4 rfl) ?_
    refine lv_aload_n hx hb d_Mo_products_43 rfl (lv_at hl 0 rfl) ?_
    refine r_get C K S 2 rfl rfl clOk_Mo 45 (by decide) wf_Mo_96 (v := .ref (ma 25)) rfl d_Mo_products_44 ?_
    refine r_backi (wi := [(h0, .inr (8, moL ma (va_up (va_up iv 19 (nI (cutN (fun i => nI (u1 i)) (sz x + sz y)))) 21 (nI b1)) co)), ((ma 21), .inl (k 0, 319840, .inl (fun i => nI (dg i)))), ((ma 22), .inl (k 0, 3998, .inl (fun i => nI (sz i)))), ((ma 25), .inl (k 0, 170, .inl (fun i => nI (T2 i))))]) (wr := [((ma 23), .inl (k 2, 3998, .inl (fun i => nI (bl i)))), ((ma 24), .inl (k 0, 170, .inl (fun i => nI (u1 i))))]) S hA [2, 3, 4, 1] [0, 5] rfl rfl (by decide) (by decide) (va_runV (As := [.int (nI a), .int (nI b), .ref (ma 25)]) (rest := [.ref h0]) ⟨hx, hb, C.2.2.1, C.2.2.2.1, C.2.2.2.2.1⟩ (g_Mo_times l G k h0 _ (ma 25) a b ma (va_up (va_up iv 19 (nI (cutN (fun i => nI (u1 i)) (sz x + sz y)))) 21 (nI b1)) co dg sz T2 ka kb sa sb hdg dT2) (k_virt (n := 3) C wc_Mo_times rfl rfl wz_Mo wm_Mo_282 wn_Mo_times ws_Mo_times (by decide +kernel) ⟨(Nat.le_of_ble_eq_true rfl), (Nat.le_of_ble_eq_true rfl)⟩) (pr_nowV K S [2, 3, 4, 1] (by decide) rfl 2 rfl rfl) rfl rfl hl.1 rfl (lv_room (Nat.le_of_ble_eq_true rfl)) d_Mo_products_47 ⟨(Nat.le_of_ble_eq_true rfl), (Nat.le_of_ble_eq_true rfl)⟩) (fun r6 u4 H locs hw5 S => ?_)
    have S : Sw G A s.heap _ _ [((ma 23), .inl (k 2, 3998, .inl (fun i => nI (bl i)))), ((ma 24), .inl (k 0, 170, .inl (fun i => nI (u1 i)))), (h0, .inr (8, moL ma (va_up (va_up iv 19 (nI (cutN (fun i => nI (u1 i)) (sz x + sz y)))) 21 (nI b1)) co)), ((ma 21), .inl (k 0, 319840, .inl (fun i => nI (dg i)))), ((ma 22), .inl (k 0, 3998, .inl (fun i => nI (sz i)))), ((ma 25), .inl (k 0, 170, .inl (fun i => nI (u4 i))))] := S
    obtain ⟨ha1, hv1, hd1, _⟩ := hw5
    subst ha1
    have hk1 := vl_cut (B := 65536) u4 (fun i => nI (u4 i)) (fun _ => rfl) (sz a + sz b) (fun i hi => by have := hd1 i (by omega); omega)
    have hn1 : cutN (fun i => nI (u4 i)) (sz a + sz b) ≤ sz a + sz b := hk1.2.1
    refine r_put C K S 2 rfl rfl clOk_Mo 49 (by decide) wf_Mo_292 rfl (ty := .int) (v := .int (nI (cutN (fun i => nI (u4 i)) (sz a + sz b)))) (by decide +kernel) rfl rfl (Nat.le_of_ble_eq_true rfl) (fs' := moL ma (va_up (va_up (va_up iv 19 (nI (cutN (fun i => nI (u1 i)) (sz x + sz y)))) 21 (nI b1)) 20 (nI (cutN (fun i => nI (u4 i)) (sz a + sz b)))) co) (ws' := [((ma 23), .inl (k 2, 3998, .inl (fun i => nI (bl i)))), ((ma 24), .inl (k 0, 170, .inl (fun i => nI (u1 i)))), (h0, .inr (8, moL ma (va_up (va_up (va_up iv 19 (nI (cutN (fun i => nI (u1 i)) (sz x + sz y)))) 21 (nI b1)) 20 (nI (cutN (fun i => nI (u4 i)) (sz a + sz b)))) co)), ((ma 21), .inl (k 0, 319840, .inl (fun i => nI (dg i)))), ((ma 22), .inl (k 0, 3998, .inl (fun i => nI (sz i)))), ((ma 25), .inl (k 0, 170, .inl (fun i => nI (u4 i))))]) rfl rfl d_Mo_products_50 (fun H locs S => ?_)
    refine lv_aload_n hx hb d_Mo_products_53 rfl (lv_at hl 0 rfl) ?_
    refine lv_aload_n hx hb d_Mo_products_54 rfl (lv_at hl 0 rfl) ?_
    refine r_get C K S 2 rfl rfl clOk_Mo 43 (by decide) wf_Mo_89 (v := .ref (ma 23)) rfl d_Mo_products_55 ?_
    refine lv_iload_n hx hb d_Mo_products_58 rfl (lv_at hl 3 rfl) ?_
    refine r_zald C K S 0 rfl (i := (nI a)) (vp_in_nI (by omega) (by decide)) (v := (nI (bl a))) (by rw [nI_clamp (by omega)]) d_Mo_products_59 ?_
    refine lv_aload_n hx hb d_Mo_products_60 rfl (lv_at hl 0 rfl) ?_
    refine r_get C K S 2 rfl rfl clOk_Mo 43 (by decide) wf_Mo_89 (v := .ref (ma 23)) rfl d_Mo_products_61 ?_
    refine lv_iload hx hb d_Mo_products_64 (lv_at hl 4 rfl) ?_
    refine r_zald C K S 0 rfl (i := (nI b)) (vp_in_nI (by omega) (by decide)) (v := (nI (bl b))) (by rw [nI_clamp (by omega)]) d_Mo_products_66 ?_
    have cont2 : ∀ b2 : Nat, b2 ≤ 1 → b2 = (if bl a = bl b then 0 else 1) → W p l e { frames := 3, cells := 0, slots := 0, locals := 140 } s m [Value.ref h0, Value.int (nI x), Value.int (nI y), Value.int (nI a), Value.int (nI b)].toArray below meth c H locs 0 0 (MQ below (va_Qv (fun (u : (Nat → Nat) × (Nat → Nat) × Nat × Nat × Nat × Nat) => sv u.2.2.2.1 (vl 65536 u.1 u.2.2.1) = sv (bl x) (vl 65536 (fun i => dg (x * 80 + i)) (sz x)) * sv (bl y) (vl 65536 (fun i => dg (y * 80 + i)) (sz y)) + sv (bl a) (vl 65536 (fun i => dg (a * 80 + i)) (sz a)) * sv (bl b) (vl 65536 (fun i => dg (b * 80 + i)) (sz b)) ∧ u.2.2.1 ≤ 161 ∧ (u.2.2.1 = 0 ∨ u.1 (u.2.2.1 - 1) ≠ 0) ∧ (∀ i, i < 170 → u.1 i < 65536) ∧ (∀ i, i < 170 → u.2.1 i < 65536) ∧ u.2.2.2.1 ≤ 1) (Po G k A (fun u => [(h0, .inr (8, moL ma (va_up (va_up (va_up (va_up iv 21 (nI u.2.2.2.1)) 22 (nI u.2.2.2.2.2)) 20 (nI u.2.2.2.2.1)) 19 (nI u.2.2.1)) co)), ((ma 21), .inl (k 0, 319840, .inl (fun i => nI (dg i)))), ((ma 22), .inl (k 0, 3998, .inl (fun i => nI (sz i)))), ((ma 23), .inl (k 2, 3998, .inl (fun i => nI (bl i)))), ((ma 24), .inl (k 0, 170, .inl (fun i => nI (u.1 i)))), ((ma 25), .inl (k 0, 170, .inl (fun i => nI (u.2.1 i))))])) A) [Value.ref h0, Value.int (nI x), Value.int (nI y), Value.int (nI a), Value.int (nI b)].toArray s 0 0 A) (F0 m 75 ls [.int (nI b2), .ref h0]) := by
      intro b2 hb2 eb2
      refine r_put C K S 2 rfl rfl clOk_Mo 51 (by decide) wf_Mo_295 rfl (ty := .boolean) (v := .int (nI b2)) (by decide +kernel) (bo_n hb2) (bo_f hb2) (Nat.le_of_ble_eq_true rfl) (fs' := moL ma (va_up (va_up (va_up (va_up iv 19 (nI (cutN (fun i => nI (u1 i)) (sz x + sz y)))) 21 (nI b1)) 20 (nI (cutN (fun i => nI (u4 i)) (sz a + sz b)))) 22 (nI b2)) co) (ws' := [((ma 23), .inl (k 2, 3998, .inl (fun i => nI (bl i)))), ((ma 24), .inl (k 0, 170, .inl (fun i => nI (u1 i)))), (h0, .inr (8, moL ma (va_up (va_up (va_up (va_up iv 19 (nI (cutN (fun i => nI (u1 i)) (sz x + sz y)))) 21 (nI b1)) 20 (nI (cutN (fun i => nI (u4 i)) (sz a + sz b)))) 22 (nI b2)) co)), ((ma 21), .inl (k 0, 319840, .inl (fun i => nI (dg i)))), ((ma 22), .inl (k 0, 3998, .inl (fun i => nI (sz i)))), ((ma 25), .inl (k 0, 170, .inl (fun i => nI (u4 i))))]) rfl rfl d_Mo_products_75 (fun H locs S => ?_)
      refine lv_aload_n hx hb d_Mo_products_78 rfl (lv_at hl 0 rfl) ?_
      have S : Sw G A s.heap _ _ [((ma 23), .inl (k 2, 3998, .inl (fun i => nI (bl i)))), ((ma 24), .inl (k 0, 170, .inl (fun i => nI (u1 i)))), (h0, .inr (8, moL ma (va_up (va_up (va_up (va_up iv 21 (nI b1)) 22 (nI b2)) 20 (nI (cutN (fun i => nI (u4 i)) (sz a + sz b)))) 19 (nI (cutN (fun i => nI (u1 i)) (sz x + sz y)))) co)), ((ma 21), .inl (k 0, 319840, .inl (fun i => nI (dg i)))), ((ma 22), .inl (k 0, 3998, .inl (fun i => nI (sz i)))), ((ma 25), .inl (k 0, 170, .inl (fun i => nI (u4 i))))] := S.sub [0, 1, 2, 3, 4, 5] (by decide) rfl
      have e1 : vl 65536 u1 (cutN (fun i => nI (u1 i)) (sz x + sz y)) = vl 65536 (fun i => dg (x * 80 + i)) (sz x) * vl 65536 (fun i => dg (y * 80 + i)) (sz y) := hk0.1.symm.trans hv0
      have e2 : vl 65536 u4 (cutN (fun i => nI (u4 i)) (sz a + sz b)) = vl 65536 (fun i => dg (a * 80 + i)) (sz a) * vl 65536 (fun i => dg (b * 80 + i)) (sz b) := hk1.1.symm.trans hv1
      have m1 : sv b1 (vl 65536 u1 (cutN (fun i => nI (u1 i)) (sz x + sz y))) = sv (bl x) (vl 65536 (fun i => dg (x * 80 + i)) (sz x)) * sv (bl y) (vl 65536 (fun i => dg (y * 80 + i)) (sz y)) := by rw [e1, eb1]; exact sv_mul bx by9
      have m2 : sv b2 (vl 65536 u4 (cutN (fun i => nI (u4 i)) (sz a + sz b))) = sv (bl a) (vl 65536 (fun i => dg (a * 80 + i)) (sz a)) * sv (bl b) (vl 65536 (fun i => dg (b * 80 + i)) (sz b)) := by rw [e2, eb2]; exact sv_mul ba bb
      rcases (show b1 = b2 ∨ (b1 ≠ b2 ∧ vl 65536 u4 (cutN (fun i => nI (u4 i)) (sz a + sz b)) ≤ vl 65536 u1 (cutN (fun i => nI (u1 i)) (sz x + sz y))) ∨ (b1 ≠ b2 ∧ vl 65536 u1 (cutN (fun i => nI (u1 i)) (sz x + sz y)) < vl 65536 u4 (cutN (fun i => nI (u4 i)) (sz a + sz b))) by omega) with j1 | ⟨j1, j2⟩ | ⟨j1, j2⟩
      · refine r_backv (wi := [(h0, .inr (8, moL ma (va_up (va_up (va_up (va_up iv 21 (nI b1)) 22 (nI b2)) 20 (nI (cutN (fun i => nI (u4 i)) (sz a + sz b)))) 19 (nI (cutN (fun i => nI (u1 i)) (sz x + sz y)))) co)), ((ma 24), .inl (k 0, 170, .inl (fun i => nI (u1 i)))), ((ma 25), .inl (k 0, 170, .inl (fun i => nI (u4 i))))]) (wr := [((ma 23), .inl (k 2, 3998, .inl (fun i => nI (bl i)))), ((ma 21), .inl (k 0, 319840, .inl (fun i => nI (dg i)))), ((ma 22), .inl (k 0, 3998, .inl (fun i => nI (sz i))))]) S hA [2, 1, 5] [0, 3, 4] rfl rfl (by decide) (by decide) (va_runV (As := []) (rest := []) ⟨hx, hb, C.2.2.1, C.2.2.2.1, C.2.2.2.2.1⟩ (g_Mo_join_same l G k h0 _ (cutN (fun i => nI (u1 i)) (sz x + sz y)) (cutN (fun i => nI (u4 i)) (sz a + sz b)) b1 b2 ma iv co u1 u4 (by omega) (by omega) hb1 hb2 hd0 hd1 hk0.2.2 hk1.2.2 j1) (k_virt (n := 0) C wc_Mo_join rfl rfl wz_Mo wm_Mo_298 wn_Mo_join ws_Mo_join (by decide +kernel) ⟨(Nat.le_of_ble_eq_true rfl), (Nat.le_of_ble_eq_true rfl)⟩) (pr_nowV K S [2, 1, 5] (by decide) rfl 2 rfl rfl) rfl rfl hl.1 rfl (lv_room (Nat.le_of_ble_eq_true rfl)) d_Mo_products_79 ⟨(Nat.le_of_ble_eq_true rfl), (Nat.le_of_ble_eq_true rfl)⟩) (fun u7 H locs hw8 S => ?_)
        have S : Sw G A s.heap _ _ [((ma 23), .inl (k 2, 3998, .inl (fun i => nI (bl i)))), ((ma 21), .inl (k 0, 319840, .inl (fun i => nI (dg i)))), ((ma 22), .inl (k 0, 3998, .inl (fun i => nI (sz i)))), (h0, .inr (8, moL ma (va_up (va_up (va_up (va_up iv 21 (nI b1)) 22 (nI b2)) 20 (nI (cutN (fun i => nI (u4 i)) (sz a + sz b)))) 19 (nI u7.2)) co)), ((ma 24), .inl (k 0, 170, .inl (fun i => nI (u7.1 i)))), ((ma 25), .inl (k 0, 170, .inl (fun i => nI (u4 i))))] := S
        exact r_vret C K (u7.1, u4, u7.2, b1, (cutN (fun i => nI (u4 i)) (sz a + sz b)), b2) ⟨by show sv b1 (vl 65536 u7.1 u7.2) = _; rw [← m1, ← m2]; exact (by rw [← j1]; exact sv_same hw8.1), hw8.2.1, hw8.2.2.1, hw8.2.2.2, hd1, by show b1 ≤ 1; omega⟩ (S.sub [3, 1, 2, 0, 4, 5] (by decide) rfl) d_Mo_products_82 (Nat.le_of_ble_eq_true rfl) (Nat.le_of_ble_eq_true rfl)
      · refine r_backv (wi := [(h0, .inr (8, moL ma (va_up (va_up (va_up (va_up iv 21 (nI b1)) 22 (nI b2)) 20 (nI (cutN (fun i => nI (u4 i)) (sz a + sz b)))) 19 (nI (cutN (fun i => nI (u1 i)) (sz x + sz y)))) co)), ((ma 24), .inl (k 0, 170, .inl (fun i => nI (u1 i)))), ((ma 25), .inl (k 0, 170, .inl (fun i => nI (u4 i))))]) (wr := [((ma 23), .inl (k 2, 3998, .inl (fun i => nI (bl i)))), ((ma 21), .inl (k 0, 319840, .inl (fun i => nI (dg i)))), ((ma 22), .inl (k 0, 3998, .inl (fun i => nI (sz i))))]) S hA [2, 1, 5] [0, 3, 4] rfl rfl (by decide) (by decide) (va_runV (As := []) (rest := []) ⟨hx, hb, C.2.2.1, C.2.2.2.1, C.2.2.2.2.1⟩ (g_Mo_join_ge l G k h0 _ (cutN (fun i => nI (u1 i)) (sz x + sz y)) (cutN (fun i => nI (u4 i)) (sz a + sz b)) b1 b2 ma iv co u1 u4 (by omega) (by omega) hb1 hb2 hd0 hd1 hk0.2.2 hk1.2.2 j1 j2) (k_virt (n := 0) C wc_Mo_join rfl rfl wz_Mo wm_Mo_298 wn_Mo_join ws_Mo_join (by decide +kernel) ⟨(Nat.le_of_ble_eq_true rfl), (Nat.le_of_ble_eq_true rfl)⟩) (pr_nowV K S [2, 1, 5] (by decide) rfl 2 rfl rfl) rfl rfl hl.1 rfl (lv_room (Nat.le_of_ble_eq_true rfl)) d_Mo_products_79 ⟨(Nat.le_of_ble_eq_true rfl), (Nat.le_of_ble_eq_true rfl)⟩) (fun u7 H locs hw8 S => ?_)
        have S : Sw G A s.heap _ _ [((ma 23), .inl (k 2, 3998, .inl (fun i => nI (bl i)))), ((ma 21), .inl (k 0, 319840, .inl (fun i => nI (dg i)))), ((ma 22), .inl (k 0, 3998, .inl (fun i => nI (sz i)))), (h0, .inr (8, moL ma (va_up (va_up (va_up (va_up iv 21 (nI b1)) 22 (nI b2)) 20 (nI (cutN (fun i => nI (u4 i)) (sz a + sz b)))) 19 (nI u7.2)) co)), ((ma 24), .inl (k 0, 170, .inl (fun i => nI (u7.1 i)))), ((ma 25), .inl (k 0, 170, .inl (fun i => nI (u4 i))))] := S
        exact r_vret C K (u7.1, u4, u7.2, b1, (cutN (fun i => nI (u4 i)) (sz a + sz b)), b2) ⟨by show sv b1 (vl 65536 u7.1 u7.2) = _; rw [← m1, ← m2]; exact sv_ge hb1 hb2 j1 hw8.1, hw8.2.1, hw8.2.2.1, hw8.2.2.2, hd1, by show b1 ≤ 1; omega⟩ (S.sub [3, 1, 2, 0, 4, 5] (by decide) rfl) d_Mo_products_82 (Nat.le_of_ble_eq_true rfl) (Nat.le_of_ble_eq_true rfl)
      · refine r_backv (wi := [(h0, .inr (8, moL ma (va_up (va_up (va_up (va_up iv 21 (nI b1)) 22 (nI b2)) 20 (nI (cutN (fun i => nI (u4 i)) (sz a + sz b)))) 19 (nI (cutN (fun i => nI (u1 i)) (sz x + sz y)))) co)), ((ma 24), .inl (k 0, 170, .inl (fun i => nI (u1 i)))), ((ma 25), .inl (k 0, 170, .inl (fun i => nI (u4 i))))]) (wr := [((ma 23), .inl (k 2, 3998, .inl (fun i => nI (bl i)))), ((ma 21), .inl (k 0, 319840, .inl (fun i => nI (dg i)))), ((ma 22), .inl (k 0, 3998, .inl (fun i => nI (sz i))))]) S hA [2, 1, 5] [0, 3, 4] rfl rfl (by decide) (by decide) (va_runV (As := []) (rest := []) ⟨hx, hb, C.2.2.1, C.2.2.2.1, C.2.2.2.2.1⟩ (g_Mo_join_lt l G k h0 _ (cutN (fun i => nI (u1 i)) (sz x + sz y)) (cutN (fun i => nI (u4 i)) (sz a + sz b)) b1 b2 ma iv co u1 u4 (by omega) (by omega) hb1 hb2 hd0 hd1 hk0.2.2 hk1.2.2 j1 j2) (k_virt (n := 0) C wc_Mo_join rfl rfl wz_Mo wm_Mo_298 wn_Mo_join ws_Mo_join (by decide +kernel) ⟨(Nat.le_of_ble_eq_true rfl), (Nat.le_of_ble_eq_true rfl)⟩) (pr_nowV K S [2, 1, 5] (by decide) rfl 2 rfl rfl) rfl rfl hl.1 rfl (lv_room (Nat.le_of_ble_eq_true rfl)) d_Mo_products_79 ⟨(Nat.le_of_ble_eq_true rfl), (Nat.le_of_ble_eq_true rfl)⟩) (fun u7 H locs hw8 S => ?_)
        have S : Sw G A s.heap _ _ [((ma 23), .inl (k 2, 3998, .inl (fun i => nI (bl i)))), ((ma 21), .inl (k 0, 319840, .inl (fun i => nI (dg i)))), ((ma 22), .inl (k 0, 3998, .inl (fun i => nI (sz i)))), (h0, .inr (8, moL ma (va_up (va_up (va_up (va_up iv 21 (nI b2)) 22 (nI b2)) 20 (nI (cutN (fun i => nI (u4 i)) (sz a + sz b)))) 19 (nI u7.2)) co)), ((ma 24), .inl (k 0, 170, .inl (fun i => nI (u7.1 i)))), ((ma 25), .inl (k 0, 170, .inl (fun i => nI (u4 i))))] := S
        exact r_vret C K (u7.1, u4, u7.2, b2, (cutN (fun i => nI (u4 i)) (sz a + sz b)), b2) ⟨by show sv b2 (vl 65536 u7.1 u7.2) = _; rw [← m1, ← m2]; exact sv_lt hb1 hb2 j1 hw8.1, hw8.2.1, hw8.2.2.1, hw8.2.2.2, hd1, by show b2 ≤ 1; omega⟩ (S.sub [3, 1, 2, 0, 4, 5] (by decide) rfl) d_Mo_products_82 (Nat.le_of_ble_eq_true rfl) (Nat.le_of_ble_eq_true rfl)
    refine lv_icmp_eq (tgt := 74) hx hb d_Mo_products_67 (by decide) (fun hg => ?_) (fun hg => ?_)
    · refine lv_iconst (v := 0) hx hb d_Mo_products_74 (by decide) ?_
      exact cont2 0 (by omega) (if_pos ((nI_eq (by omega) (by omega)).mp hg)).symm
    · refine lv_iconst (v := 1) hx hb d_Mo_products_70 (by decide) ?_
      refine lv_goto (tgt := 75) hx hb d_Mo_products_71 (by decide) ?_
      exact cont2 1 (by omega) (if_neg (fun e9 => hg (by rw [e9]))).symm
  refine lv_icmp_eq (tgt := 34) hx hb d_Mo_products_27 (by decide) (fun hg => ?_) (fun hg => ?_)
  · refine lv_iconst (v := 0) hx hb d_Mo_products_34 (by decide) ?_
    exact cont1 0 (by omega) (if_pos ((nI_eq (by omega) (by omega)).mp hg)).symm
  · refine lv_iconst (v := 1) hx hb d_Mo_products_30 (by decide) ?_
    refine lv_goto (tgt := 35) hx hb d_Mo_products_31 (by decide) ?_
    exact cont1 1 (by omega) (if_neg (fun e9 => hg (by rw [e9]))).symm
