theorem cmp_nn {a b : Nat} (h : b ≤ a) : ¬ (if a = b then (0 : Int32) else if a < b then -1 else 1) < 0 := by
  by_cases q : a = b
  · rw [if_pos q]; decide
  · rw [if_neg q, if_neg (by omega)]; decide
theorem bo_n {b : Nat} (h : b ≤ 1) : narrow .boolean (.int (nI b)) = .int (nI b) := by
  rcases (show b = 0 ∨ b = 1 by omega) with rfl | rfl <;> rfl
theorem bo_f {b : Nat} (h : b ≤ 1) : fits .boolean (.int (nI b)) = true := by
  rcases (show b = 0 ∨ b = 1 by omega) with rfl | rfl <;> rfl
theorem sz_le {B : Nat} {ga gb : Nat → Nat} {na nb : Nat} (hB : 0 < B) (ha : ∀ i, i < na → ga i < B) (tb : nb = 0 ∨ gb (nb - 1) ≠ 0) (h : vl B gb nb ≤ vl B ga na) : nb ≤ na := by
  rcases Nat.lt_or_ge na nb with w | w
  · have la := vl_lt na ha
    have h1 := vl_ge (B := B) (g := gb) (n := nb) (by omega) (tb.resolve_left (by omega))
    have h2 : B ^ na ≤ B ^ (nb - 1) := Nat.pow_le_pow_right hB (by omega)
    omega
  · exact w
theorem d_Mo_join_0 : decode c_Mo_join 0 = .ok (.aload_n 0, 1) := by decide +kernel
theorem d_Mo_join_1 : decode c_Mo_join 1 = .ok (.getfield 289, 3) := by decide +kernel
theorem d_Mo_join_4 : decode c_Mo_join 4 = .ok (.aload_n 0, 1) := by decide +kernel
theorem d_Mo_join_5 : decode c_Mo_join 5 = .ok (.getfield 295, 3) := by decide +kernel
theorem d_Mo_join_8 : decode c_Mo_join 8 = .ok (.if_icmp .ne 8, 3) := by decide +kernel
theorem d_Mo_join_11 : decode c_Mo_join 11 = .ok (.aload_n 0, 1) := by decide +kernel
theorem d_Mo_join_12 : decode c_Mo_join 12 = .ok (.invokevirtual 305, 3) := by decide +kernel
theorem d_Mo_join_15 : decode c_Mo_join 15 = .ok (.return_, 1) := by decide +kernel
theorem d_Mo_join_16 : decode c_Mo_join 16 = .ok (.aload_n 0, 1) := by decide +kernel
theorem d_Mo_join_17 : decode c_Mo_join 17 = .ok (.getfield 93, 3) := by decide +kernel
theorem d_Mo_join_20 : decode c_Mo_join 20 = .ok (.aload_n 0, 1) := by decide +kernel
theorem d_Mo_join_21 : decode c_Mo_join 21 = .ok (.getfield 286, 3) := by decide +kernel
theorem d_Mo_join_24 : decode c_Mo_join 24 = .ok (.aload_n 0, 1) := by decide +kernel
theorem d_Mo_join_25 : decode c_Mo_join 25 = .ok (.getfield 96, 3) := by decide +kernel
theorem d_Mo_join_28 : decode c_Mo_join 28 = .ok (.aload_n 0, 1) := by decide +kernel
theorem d_Mo_join_29 : decode c_Mo_join 29 = .ok (.getfield 292, 3) := by decide +kernel
theorem d_Mo_join_32 : decode c_Mo_join 32 = .ok (.invokestatic 301, 3) := by decide +kernel
theorem d_Mo_join_35 : decode c_Mo_join 35 = .ok (.ifCond .lt 44, 3) := by decide +kernel
theorem d_Mo_join_38 : decode c_Mo_join 38 = .ok (.aload_n 0, 1) := by decide +kernel
theorem d_Mo_join_39 : decode c_Mo_join 39 = .ok (.getfield 93, 3) := by decide +kernel
theorem d_Mo_join_42 : decode c_Mo_join 42 = .ok (.aload_n 0, 1) := by decide +kernel
theorem d_Mo_join_43 : decode c_Mo_join 43 = .ok (.getfield 286, 3) := by decide +kernel
theorem d_Mo_join_46 : decode c_Mo_join 46 = .ok (.aload_n 0, 1) := by decide +kernel
theorem d_Mo_join_47 : decode c_Mo_join 47 = .ok (.getfield 96, 3) := by decide +kernel
theorem d_Mo_join_50 : decode c_Mo_join 50 = .ok (.aload_n 0, 1) := by decide +kernel
theorem d_Mo_join_51 : decode c_Mo_join 51 = .ok (.getfield 292, 3) := by decide +kernel
theorem d_Mo_join_54 : decode c_Mo_join 54 = .ok (.aload_n 0, 1) := by decide +kernel
theorem d_Mo_join_55 : decode c_Mo_join 55 = .ok (.getfield 93, 3) := by decide +kernel
theorem d_Mo_join_58 : decode c_Mo_join 58 = .ok (.invokestatic 308, 3) := by decide +kernel
theorem d_Mo_join_61 : decode c_Mo_join 61 = .ok (.aload_n 0, 1) := by decide +kernel
theorem d_Mo_join_62 : decode c_Mo_join 62 = .ok (.aload_n 0, 1) := by decide +kernel
theorem d_Mo_join_63 : decode c_Mo_join 63 = .ok (.getfield 93, 3) := by decide +kernel
theorem d_Mo_join_66 : decode c_Mo_join 66 = .ok (.aload_n 0, 1) := by decide +kernel
theorem d_Mo_join_67 : decode c_Mo_join 67 = .ok (.getfield 286, 3) := by decide +kernel
theorem d_Mo_join_70 : decode c_Mo_join 70 = .ok (.invokestatic 278, 3) := by decide +kernel
theorem d_Mo_join_73 : decode c_Mo_join 73 = .ok (.putfield 286, 3) := by decide +kernel
theorem d_Mo_join_76 : decode c_Mo_join 76 = .ok (.goto 49, 3) := by decide +kernel
theorem d_Mo_join_79 : decode c_Mo_join 79 = .ok (.aload_n 0, 1) := by decide +kernel
theorem d_Mo_join_80 : decode c_Mo_join 80 = .ok (.getfield 96, 3) := by decide +kernel
theorem d_Mo_join_83 : decode c_Mo_join 83 = .ok (.aload_n 0, 1) := by decide +kernel
theorem d_Mo_join_84 : decode c_Mo_join 84 = .ok (.getfield 292, 3) := by decide +kernel
theorem d_Mo_join_87 : decode c_Mo_join 87 = .ok (.aload_n 0, 1) := by decide +kernel
theorem d_Mo_join_88 : decode c_Mo_join 88 = .ok (.getfield 93, 3) := by decide +kernel
theorem d_Mo_join_91 : decode c_Mo_join 91 = .ok (.aload_n 0, 1) := by decide +kernel
theorem d_Mo_join_92 : decode c_Mo_join 92 = .ok (.getfield 286, 3) := by decide +kernel
theorem d_Mo_join_95 : decode c_Mo_join 95 = .ok (.aload_n 0, 1) := by decide +kernel
theorem d_Mo_join_96 : decode c_Mo_join 96 = .ok (.getfield 93, 3) := by decide +kernel
theorem d_Mo_join_99 : decode c_Mo_join 99 = .ok (.invokestatic 308, 3) := by decide +kernel
theorem d_Mo_join_102 : decode c_Mo_join 102 = .ok (.aload_n 0, 1) := by decide +kernel
theorem d_Mo_join_103 : decode c_Mo_join 103 = .ok (.aload_n 0, 1) := by decide +kernel
theorem d_Mo_join_104 : decode c_Mo_join 104 = .ok (.getfield 93, 3) := by decide +kernel
theorem d_Mo_join_107 : decode c_Mo_join 107 = .ok (.aload_n 0, 1) := by decide +kernel
theorem d_Mo_join_108 : decode c_Mo_join 108 = .ok (.getfield 292, 3) := by decide +kernel
theorem d_Mo_join_111 : decode c_Mo_join 111 = .ok (.invokestatic 278, 3) := by decide +kernel
theorem d_Mo_join_114 : decode c_Mo_join 114 = .ok (.putfield 286, 3) := by decide +kernel
theorem d_Mo_join_117 : decode c_Mo_join 117 = .ok (.aload_n 0, 1) := by decide +kernel
theorem d_Mo_join_118 : decode c_Mo_join 118 = .ok (.aload_n 0, 1) := by decide +kernel
theorem d_Mo_join_119 : decode c_Mo_join 119 = .ok (.getfield 295, 3) := by decide +kernel
theorem d_Mo_join_122 : decode c_Mo_join 122 = .ok (.putfield 289, 3) := by decide +kernel
theorem d_Mo_join_125 : decode c_Mo_join 125 = .ok (.return_, 1) := by decide +kernel
set_option maxRecDepth 100000 in
set_option maxHeartbeats 8000000 in
/-- join(): equal signs -/
theorem g_Mo_join_same (l : Launch) (G : va_G) (k : Nat → ClassId) (h0 s0 n1 n2 b1 b2 : Nat) (ma : Nat → Nat) (iv : Nat → Int32) (co : Int64) (g1 g2 : Nat → Nat) (h1 : n1 ≤ 160) (h2 : n2 ≤ 160) (hb1 : b1 ≤ 1) (hb2 : b2 ≤ 1) (da : ∀ i, i < 170 → g1 i < 65536) (db : ∀ i, i < 170 → g2 i < 65536) (ta : n1 = 0 ∨ g1 (n1 - 1) ≠ 0) (tb : n2 = 0 ∨ g2 (n2 - 1) ≠ 0) (hs : b1 = b2) : CV l y_Mo_join c_Mo_join 1 { frames := 2, cells := 0, slots := 0, locals := 80 } [.ref h0] G k s0 [(h0, .inr (8, moL ma (va_up (va_up (va_up (va_up iv 21 (nI b1)) 22 (nI b2)) 20 (nI n2)) 19 (nI n1)) co)), ((ma 24), .inl (k 0, 170, .inl (fun i => nI (g1 i)))), ((ma 25), .inl (k 0, 170, .inl (fun i => nI (g2 i))))] (fun (u : (Nat → Nat) × Nat) => vl 65536 u.1 u.2 = vl 65536 g1 n1 + vl 65536 g2 n2 ∧ u.2 ≤ 161 ∧ (u.2 = 0 ∨ u.1 (u.2 - 1) ≠ 0) ∧ ∀ i, i < 170 → u.1 i < 65536) (fun u => [(h0, .inr (8, moL ma (va_up (va_up (va_up (va_up iv 21 (nI b1)) 22 (nI b2)) 20 (nI n2)) 19 (nI u.2)) co)), ((ma 24), .inl (k 0, 170, .inl (fun i => nI (u.1 i)))), ((ma 25), .inl (k 0, 170, .inl (fun i => nI (g2 i))))]) 0 0 := by
  refine met_start (by decide) (Nat.le_of_ble_eq_true rfl) ?_
  intro p e s m below meth c C K hA hsz S ls hl
  generalize va_A [(h0, .inr (8, moL ma (va_up (va_up (va_up (va_up iv 21 (nI b1)) 22 (nI b2)) 20 (nI n2)) 19 (nI n1)) co)), ((ma 24), .inl (k 0, 170, .inl (fun i => nI (g1 i)))), ((ma 25), .inl (k 0, 170, .inl (fun i => nI (g2 i))))] s0 = A at hA S ⊢
  have hx := C.1
  have hb := C.2.1
  have hl : lv_has ls 1 [(0, .ref h0)] := hl
  refine lv_aload_n hx hb d_Mo_join_0 rfl (lv_at hl 0 rfl) ?_
  refine r_get C K S 0 rfl rfl clOk_Mo 50 (by decide) wf_Mo_289 (v := .int (nI b1)) rfl d_Mo_join_1 ?_
  refine lv_aload_n hx hb d_Mo_join_4 rfl (lv_at hl 0 rfl) ?_
  refine r_get C K S 0 rfl rfl clOk_Mo 51 (by decide) wf_Mo_295 (v := .int (nI b2)) rfl d_Mo_join_5 ?_
  refine lv_icmp_ne (tgt := 16) hx hb d_Mo_join_8 (by decide) (fun hq => absurd (by rw [hs]) hq) (fun _ => ?_)
  refine lv_aload_n hx hb d_Mo_join_11 rfl (lv_at hl 0 rfl) ?_
  refine r_backv (wi := [(h0, .inr (8, moL ma (va_up (va_up (va_up (va_up iv 21 (nI b1)) 22 (nI b2)) 20 (nI n2)) 19 (nI n1)) co)), ((ma 24), .inl (k 0, 170, .inl (fun i => nI (g1 i)))), ((ma 25), .inl (k 0, 170, .inl (fun i => nI (g2 i))))]) (wr := []) S hA [0, 1, 2] [] rfl rfl (by decide) (by decide) (va_runV (As := []) (rest := []) ⟨hx, hb, C.2.2.1, C.2.2.2.1, C.2.2.2.2.1⟩ (g_Mo_addRows l G k h0 _ n1 n2 ma (va_up (va_up iv 21 (nI b1)) 22 (nI b2)) co g1 g2 h1 h2 da db) (k_virt (n := 0) C wc_Mo_addRows rfl rfl wz_Mo wm_Mo_305 wn_Mo_addRows ws_Mo_addRows (by decide +kernel) ⟨(Nat.le_of_ble_eq_true rfl), (Nat.le_of_ble_eq_true rfl)⟩) (pr_nowV K S [0, 1, 2] (by decide) rfl 0 rfl rfl) rfl rfl hl.1 rfl (lv_room (Nat.le_of_ble_eq_true rfl)) d_Mo_join_12 ⟨(Nat.le_of_ble_eq_true rfl), (Nat.le_of_ble_eq_true rfl)⟩) (fun u1 H locs hw2 S => ?_)
  have S : Sw G A s.heap _ _ [(h0, .inr (8, moL ma (va_up (va_up (va_up (va_up iv 21 (nI b1)) 22 (nI b2)) 20 (nI n2)) 19 (nI u1.2)) co)), ((ma 24), .inl (k 0, 170, .inl (fun i => nI (u1.1 i)))), ((ma 25), .inl (k 0, 170, .inl (fun i => nI (g2 i))))] := S
  exact r_vret C K u1 ⟨hw2.1, hw2.2.2⟩ (S.sub [0, 1, 2] (by decide) rfl) d_Mo_join_15 (Nat.le_of_ble_eq_true rfl) (Nat.le_of_ble_eq_true rfl)
set_option maxRecDepth 100000 in
set_option maxHeartbeats 8000000 in
/-- join(): the first is more -/
theorem g_Mo_join_ge (l : Launch) (G : va_G) (k : Nat → ClassId) (h0 s0 n1 n2 b1 b2 : Nat) (ma : Nat → Nat) (iv : Nat → Int32) (co : Int64) (g1 g2 : Nat → Nat) (h1 : n1 ≤ 160) (h2 : n2 ≤ 160) (hb1 : b1 ≤ 1) (hb2 : b2 ≤ 1) (da : ∀ i, i < 170 → g1 i < 65536) (db : ∀ i, i < 170 → g2 i < 65536) (ta : n1 = 0 ∨ g1 (n1 - 1) ≠ 0) (tb : n2 = 0 ∨ g2 (n2 - 1) ≠ 0) (hs : b1 ≠ b2) (hle : vl 65536 g2 n2 ≤ vl 65536 g1 n1) : CV l y_Mo_join c_Mo_join 1 { frames := 2, cells := 0, slots := 0, locals := 80 } [.ref h0] G k s0 [(h0, .inr (8, moL ma (va_up (va_up (va_up (va_up iv 21 (nI b1)) 22 (nI b2)) 20 (nI n2)) 19 (nI n1)) co)), ((ma 24), .inl (k 0, 170, .inl (fun i => nI (g1 i)))), ((ma 25), .inl (k 0, 170, .inl (fun i => nI (g2 i))))] (fun (u : (Nat → Nat) × Nat) => vl 65536 u.1 u.2 + vl 65536 g2 n2 = vl 65536 g1 n1 ∧ u.2 ≤ 161 ∧ (u.2 = 0 ∨ u.1 (u.2 - 1) ≠ 0) ∧ ∀ i, i < 170 → u.1 i < 65536) (fun u => [(h0, .inr (8, moL ma (va_up (va_up (va_up (va_up iv 21 (nI b1)) 22 (nI b2)) 20 (nI n2)) 19 (nI u.2)) co)), ((ma 24), .inl (k 0, 170, .inl (fun i => nI (u.1 i)))), ((ma 25), .inl (k 0, 170, .inl (fun i => nI (g2 i))))]) 0 0 := by
  refine met_start (by decide) (Nat.le_of_ble_eq_true rfl) ?_
  intro p e s m below meth c C K hA hsz S ls hl
  generalize va_A [(h0, .inr (8, moL ma (va_up (va_up (va_up (va_up iv 21 (nI b1)) 22 (nI b2)) 20 (nI n2)) 19 (nI n1)) co)), ((ma 24), .inl (k 0, 170, .inl (fun i => nI (g1 i)))), ((ma 25), .inl (k 0, 170, .inl (fun i => nI (g2 i))))] s0 = A at hA S ⊢
  have hx := C.1
  have hb := C.2.1
  have hl : lv_has ls 1 [(0, .ref h0)] := hl
  have hsz2 : n2 ≤ n1 := sz_le (by decide) (fun i hi => da i (by omega)) tb hle
  have cv := cmpN_val (B := 65536) (ga := g1) (gb := g2) (na := n1) (nb := n2) (by decide) (fun i hi => da i (by omega)) (fun i hi => db i (by omega)) ta tb
  refine lv_aload_n hx hb d_Mo_join_0 rfl (lv_at hl 0 rfl) ?_
  refine r_get C K S 0 rfl rfl clOk_Mo 50 (by decide) wf_Mo_289 (v := .int (nI b1)) rfl d_Mo_join_1 ?_
  refine lv_aload_n hx hb d_Mo_join_4 rfl (lv_at hl 0 rfl) ?_
  refine r_get C K S 0 rfl rfl clOk_Mo 51 (by decide) wf_Mo_295 (v := .int (nI b2)) rfl d_Mo_join_5 ?_
  refine lv_icmp_ne (tgt := 16) hx hb d_Mo_join_8 (by decide) (fun _ => ?_) (fun hq => absurd hq (fun e9 => hs ((nI_eq (by omega) (by omega)).mp e9)))
  refine lv_aload_n hx hb d_Mo_join_16 rfl (lv_at hl 0 rfl) ?_
  refine r_get C K S 0 rfl rfl clOk_Mo 44 (by decide) wf_Mo_93 (v := .ref (ma 24)) rfl d_Mo_join_17 ?_
  refine lv_aload_n hx hb d_Mo_join_20 rfl (lv_at hl 0 rfl) ?_
  refine r_get C K S 0 rfl rfl clOk_Mo 48 (by decide) wf_Mo_286 (v := .int (nI n1)) rfl d_Mo_join_21 ?_
  refine lv_aload_n hx hb d_Mo_join_24 rfl (lv_at hl 0 rfl) ?_
  refine r_get C K S 0 rfl rfl clOk_Mo 45 (by decide) wf_Mo_96 (v := .ref (ma 25)) rfl d_Mo_join_25 ?_
  refine lv_aload_n hx hb d_Mo_join_28 rfl (lv_at hl 0 rfl) ?_
  refine r_get C K S 0 rfl rfl clOk_Mo 49 (by decide) wf_Mo_292 (v := .int (nI n2)) rfl d_Mo_join_29 ?_
  refine r_backi (wi := [((ma 24), .inl (k 0, 170, .inl (fun i => nI (g1 i)))), ((ma 25), .inl (k 0, 170, .inl (fun i => nI (g2 i))))]) (wr := [(h0, .inr (8, moL ma (va_up (va_up (va_up (va_up iv 21 (nI b1)) 22 (nI b2)) 20 (nI n2)) 19 (nI n1)) co))]) S hA [1, 2] [0] rfl rfl (by decide) (by decide) (va_runS (As := [.ref (ma 24), .int (nI n1), .ref (ma 25), .int (nI n2)]) (rest := []) ⟨hx, hb, C.2.2.1, C.2.2.2.1, C.2.2.2.2.1⟩ (g_Mo_compare l G k _ (ma 24) (ma 25) 170 170 n1 n2 g1 g2 (by omega) (by omega) (by decide) (by decide) da db) (k_stat (n := 4) C wc_Mo_compare rfl rfl wz_Mo wm_Mo_301 wt_Mo_compare (by decide +kernel) ⟨(Nat.le_of_ble_eq_true rfl), (Nat.le_of_ble_eq_true rfl)⟩) (pr_now K S [1, 2] (by decide) rfl) rfl rfl hl.1 rfl (lv_room (Nat.le_of_ble_eq_true rfl)) d_Mo_join_32 ⟨(Nat.le_of_ble_eq_true rfl), (Nat.le_of_ble_eq_true rfl)⟩) (fun r3 u1 H locs hw2 S => ?_)
  have S : Sw G A s.heap _ _ [(h0, .inr (8, moL ma (va_up (va_up (va_up (va_up iv 21 (nI b1)) 22 (nI b2)) 20 (nI n2)) 19 (nI n1)) co)), ((ma 24), .inl (k 0, 170, .inl (fun i => nI (g1 i)))), ((ma 25), .inl (k 0, 170, .inl (fun i => nI (g2 i))))] := S
  have hw2 : r3 = cmpN g1 g2 n1 n2 := hw2
  refine lv_if_lt (tgt := 79) hx hb d_Mo_join_35 (by decide) (fun hq => absurd hq (by rw [hw2, cv]; exact cmp_nn hle)) (fun _ => ?_)
  refine lv_aload_n hx hb d_Mo_join_38 rfl (lv_at hl 0 rfl) ?_
  refine r_get C K S 0 rfl rfl clOk_Mo 44 (by decide) wf_Mo_93 (v := .ref (ma 24)) rfl d_Mo_join_39 ?_
  refine lv_aload_n hx hb d_Mo_join_42 rfl (lv_at hl 0 rfl) ?_
  refine r_get C K S 0 rfl rfl clOk_Mo 48 (by decide) wf_Mo_286 (v := .int (nI n1)) rfl d_Mo_join_43 ?_
  refine lv_aload_n hx hb d_Mo_join_46 rfl (lv_at hl 0 rfl) ?_
  refine r_get C K S 0 rfl rfl clOk_Mo 45 (by decide) wf_Mo_96 (v := .ref (ma 25)) rfl d_Mo_join_47 ?_
  refine lv_aload_n hx hb d_Mo_join_50 rfl (lv_at hl 0 rfl) ?_
  refine r_get C K S 0 rfl rfl clOk_Mo 49 (by decide) wf_Mo_292 (v := .int (nI n2)) rfl d_Mo_join_51 ?_
  refine lv_aload_n hx hb d_Mo_join_54 rfl (lv_at hl 0 rfl) ?_
  refine r_get C K S 0 rfl rfl clOk_Mo 44 (by decide) wf_Mo_93 (v := .ref (ma 24)) rfl d_Mo_join_55 ?_
  refine r_backv (wi := [((ma 24), .inl (k 0, 170, .inl (fun i => nI (g1 i)))), ((ma 25), .inl (k 0, 170, .inl (fun i => nI (g2 i))))]) (wr := [(h0, .inr (8, moL ma (va_up (va_up (va_up (va_up iv 21 (nI b1)) 22 (nI b2)) 20 (nI n2)) 19 (nI n1)) co))]) S hA [1, 2] [0] rfl rfl (by decide) (by decide) (va_runS (As := [.ref (ma 24), .int (nI n1), .ref (ma 25), .int (nI n2), .ref (ma 24)]) (rest := []) ⟨hx, hb, C.2.2.1, C.2.2.2.1, C.2.2.2.2.1⟩ (g_Mo_subtract_a l G k _ (ma 24) (ma 25) n1 n2 g1 g2 (by omega) (by omega) hle da db) (k_stat (n := 5) C wc_Mo_subtract rfl rfl wz_Mo wm_Mo_308 wt_Mo_subtract (by decide +kernel) ⟨(Nat.le_of_ble_eq_true rfl), (Nat.le_of_ble_eq_true rfl)⟩) (pr_now K S [1, 2] (by decide) rfl) rfl rfl hl.1 rfl (lv_room (Nat.le_of_ble_eq_true rfl)) d_Mo_join_58 ⟨(Nat.le_of_ble_eq_true rfl), (Nat.le_of_ble_eq_true rfl)⟩) (fun u4 H locs hw5 S => ?_)
  have S : Sw G A s.heap _ _ [(h0, .inr (8, moL ma (va_up (va_up (va_up (va_up iv 21 (nI b1)) 22 (nI b2)) 20 (nI n2)) 19 (nI n1)) co)), ((ma 24), .inl (k 0, 170, .inl (fun i => nI (u4 i)))), ((ma 25), .inl (k 0, 170, .inl (fun i => nI (g2 i))))] := S
  refine lv_aload_n hx hb d_Mo_join_61 rfl (lv_at hl 0 rfl) ?_
  refine lv_aload_n hx hb d_Mo_join_62 rfl (lv_at hl 0 rfl) ?_
  refine r_get C K S 0 rfl rfl clOk_Mo 44 (by decide) wf_Mo_93 (v := .ref (ma 24)) rfl d_Mo_join_63 ?_
  refine lv_aload_n hx hb d_Mo_join_66 rfl (lv_at hl 0 rfl) ?_
  refine r_get C K S 0 rfl rfl clOk_Mo 48 (by decide) wf_Mo_286 (v := .int (nI n1)) rfl d_Mo_join_67 ?_
  refine r_backi (wi := [((ma 24), .inl (k 0, 170, .inl (fun i => nI (u4 i))))]) (wr := [(h0, .inr (8, moL ma (va_up (va_up (va_up (va_up iv 21 (nI b1)) 22 (nI b2)) 20 (nI n2)) 19 (nI n1)) co)), ((ma 25), .inl (k 0, 170, .inl (fun i => nI (g2 i))))]) S hA [1] [0, 2] rfl rfl (by decide) (by decide) (va_runS (As := [.ref (ma 24), .int (nI n1)]) (rest := [.ref h0]) ⟨hx, hb, C.2.2.1, C.2.2.2.1, C.2.2.2.2.1⟩ (k_Mo_cut2 l G k (ma 24) _ 170 n1 (fun i => nI (u4 i)) (by omega) (by decide)) (k_stat (n := 2) C wc_Mo_cut2 rfl rfl wz_Mo wm_Mo_278 wt_Mo_cut2 (by decide +kernel) ⟨(Nat.le_of_ble_eq_true rfl), (Nat.le_of_ble_eq_true rfl)⟩) (pr_now K S [1] (by decide) rfl) rfl rfl hl.1 rfl (lv_room (Nat.le_of_ble_eq_true rfl)) d_Mo_join_70 ⟨(Nat.le_of_ble_eq_true rfl), (Nat.le_of_ble_eq_true rfl)⟩) (fun r8 u6 H locs hw7 S => ?_)
  have S : Sw G A s.heap _ _ [(h0, .inr (8, moL ma (va_up (va_up (va_up (va_up iv 21 (nI b1)) 22 (nI b2)) 20 (nI n2)) 19 (nI n1)) co)), ((ma 25), .inl (k 0, 170, .inl (fun i => nI (g2 i)))), ((ma 24), .inl (k 0, 170, .inl (fun i => nI (u4 i))))] := S
  have hw7 : r8 = nI (cutN (fun i => nI (u4 i)) n1) := hw7
  subst hw7
  refine r_put C K S 0 rfl rfl clOk_Mo 48 (by decide) wf_Mo_286 rfl (ty := .int) (v := .int (nI (cutN (fun i => nI (u4 i)) n1))) (by decide +kernel) rfl rfl (Nat.le_of_ble_eq_true rfl) (fs' := moL ma (va_up (va_up (va_up (va_up iv 21 (nI b1)) 22 (nI b2)) 20 (nI n2)) 19 (nI (cutN (fun i => nI (u4 i)) n1))) co) (ws' := [(h0, .inr (8, moL ma (va_up (va_up (va_up (va_up iv 21 (nI b1)) 22 (nI b2)) 20 (nI n2)) 19 (nI (cutN (fun i => nI (u4 i)) n1))) co)), ((ma 25), .inl (k 0, 170, .inl (fun i => nI (g2 i)))), ((ma 24), .inl (k 0, 170, .inl (fun i => nI (u4 i))))]) rfl rfl d_Mo_join_73 (fun H locs S => ?_)
  refine lv_goto (tgt := 125) hx hb d_Mo_join_76 (by decide) ?_
  have e2 := vl_cut (B := 65536) u4 (fun i => nI (u4 i)) (fun _ => rfl) n1 (fun i hi => by have := hw5.2.1 i (by omega); omega)
  exact r_vret C K (u4, cutN (fun i => nI (u4 i)) n1) ⟨by have := hw5.1; have := e2.1; show vl 65536 u4 (cutN (fun i => nI (u4 i)) n1) + _ = _; omega, by have := e2.2.1; show cutN (fun i => nI (u4 i)) n1 ≤ 161; omega, e2.2.2, hw5.2.1⟩ (S.sub [0, 2, 1] (by decide) rfl) d_Mo_join_125 (Nat.le_of_ble_eq_true rfl) (Nat.le_of_ble_eq_true rfl)
set_option maxRecDepth 100000 in
set_option maxHeartbeats 8000000 in
/-- join(): the second is more -/
theorem g_Mo_join_lt (l : Launch) (G : va_G) (k : Nat → ClassId) (h0 s0 n1 n2 b1 b2 : Nat) (ma : Nat → Nat) (iv : Nat → Int32) (co : Int64) (g1 g2 : Nat → Nat) (h1 : n1 ≤ 160) (h2 : n2 ≤ 160) (hb1 : b1 ≤ 1) (hb2 : b2 ≤ 1) (da : ∀ i, i < 170 → g1 i < 65536) (db : ∀ i, i < 170 → g2 i < 65536) (ta : n1 = 0 ∨ g1 (n1 - 1) ≠ 0) (tb : n2 = 0 ∨ g2 (n2 - 1) ≠ 0) (hs : b1 ≠ b2) (hlt : vl 65536 g1 n1 < vl 65536 g2 n2) : CV l y_Mo_join c_Mo_join 1 { frames := 2, cells := 0, slots := 0, locals := 80 } [.ref h0] G k s0 [(h0, .inr (8, moL ma (va_up (va_up (va_up (va_up iv 21 (nI b1)) 22 (nI b2)) 20 (nI n2)) 19 (nI n1)) co)), ((ma 24), .inl (k 0, 170, .inl (fun i => nI (g1 i)))), ((ma 25), .inl (k 0, 170, .inl (fun i => nI (g2 i))))] (fun (u : (Nat → Nat) × Nat) => vl 65536 u.1 u.2 + vl 65536 g1 n1 = vl 65536 g2 n2 ∧ u.2 ≤ 161 ∧ (u.2 = 0 ∨ u.1 (u.2 - 1) ≠ 0) ∧ ∀ i, i < 170 → u.1 i < 65536) (fun u => [(h0, .inr (8, moL ma (va_up (va_up (va_up (va_up iv 21 (nI b2)) 22 (nI b2)) 20 (nI n2)) 19 (nI u.2)) co)), ((ma 24), .inl (k 0, 170, .inl (fun i => nI (u.1 i)))), ((ma 25), .inl (k 0, 170, .inl (fun i => nI (g2 i))))]) 0 0 := by
  refine met_start (by decide) (Nat.le_of_ble_eq_true rfl) ?_
  intro p e s m below meth c C K hA hsz S ls hl
  generalize va_A [(h0, .inr (8, moL ma (va_up (va_up (va_up (va_up iv 21 (nI b1)) 22 (nI b2)) 20 (nI n2)) 19 (nI n1)) co)), ((ma 24), .inl (k 0, 170, .inl (fun i => nI (g1 i)))), ((ma 25), .inl (k 0, 170, .inl (fun i => nI (g2 i))))] s0 = A at hA S ⊢
  have hx := C.1
  have hb := C.2.1
  have hl : lv_has ls 1 [(0, .ref h0)] := hl
  have hsz2 : n1 ≤ n2 := sz_le (by decide) (fun i hi => db i (by omega)) ta (by omega)
  have cv := cmpN_val (B := 65536) (ga := g1) (gb := g2) (na := n1) (nb := n2) (by decide) (fun i hi => da i (by omega)) (fun i hi => db i (by omega)) ta tb
  refine lv_aload_n hx hb d_Mo_join_0 rfl (lv_at hl 0 rfl) ?_
  refine r_get C K S 0 rfl rfl clOk_Mo 50 (by decide) wf_Mo_289 (v := .int (nI b1)) rfl d_Mo_join_1 ?_
  refine lv_aload_n hx hb d_Mo_join_4 rfl (lv_at hl 0 rfl) ?_
  refine r_get C K S 0 rfl rfl clOk_Mo 51 (by decide) wf_Mo_295 (v := .int (nI b2)) rfl d_Mo_join_5 ?_
  refine lv_icmp_ne (tgt := 16) hx hb d_Mo_join_8 (by decide) (fun _ => ?_) (fun hq => absurd hq (fun e9 => hs ((nI_eq (by omega) (by omega)).mp e9)))
  refine lv_aload_n hx hb d_Mo_join_16 rfl (lv_at hl 0 rfl) ?_
  refine r_get C K S 0 rfl rfl clOk_Mo 44 (by decide) wf_Mo_93 (v := .ref (ma 24)) rfl d_Mo_join_17 ?_
  refine lv_aload_n hx hb d_Mo_join_20 rfl (lv_at hl 0 rfl) ?_
  refine r_get C K S 0 rfl rfl clOk_Mo 48 (by decide) wf_Mo_286 (v := .int (nI n1)) rfl d_Mo_join_21 ?_
  refine lv_aload_n hx hb d_Mo_join_24 rfl (lv_at hl 0 rfl) ?_
  refine r_get C K S 0 rfl rfl clOk_Mo 45 (by decide) wf_Mo_96 (v := .ref (ma 25)) rfl d_Mo_join_25 ?_
  refine lv_aload_n hx hb d_Mo_join_28 rfl (lv_at hl 0 rfl) ?_
  refine r_get C K S 0 rfl rfl clOk_Mo 49 (by decide) wf_Mo_292 (v := .int (nI n2)) rfl d_Mo_join_29 ?_
  refine r_backi (wi := [((ma 24), .inl (k 0, 170, .inl (fun i => nI (g1 i)))), ((ma 25), .inl (k 0, 170, .inl (fun i => nI (g2 i))))]) (wr := [(h0, .inr (8, moL ma (va_up (va_up (va_up (va_up iv 21 (nI b1)) 22 (nI b2)) 20 (nI n2)) 19 (nI n1)) co))]) S hA [1, 2] [0] rfl rfl (by decide) (by decide) (va_runS (As := [.ref (ma 24), .int (nI n1), .ref (ma 25), .int (nI n2)]) (rest := []) ⟨hx, hb, C.2.2.1, C.2.2.2.1, C.2.2.2.2.1⟩ (g_Mo_compare l G k _ (ma 24) (ma 25) 170 170 n1 n2 g1 g2 (by omega) (by omega) (by decide) (by decide) da db) (k_stat (n := 4) C wc_Mo_compare rfl rfl wz_Mo wm_Mo_301 wt_Mo_compare (by decide +kernel) ⟨(Nat.le_of_ble_eq_true rfl), (Nat.le_of_ble_eq_true rfl)⟩) (pr_now K S [1, 2] (by decide) rfl) rfl rfl hl.1 rfl (lv_room (Nat.le_of_ble_eq_true rfl)) d_Mo_join_32 ⟨(Nat.le_of_ble_eq_true rfl), (Nat.le_of_ble_eq_true rfl)⟩) (fun r3 u1 H locs hw2 S => ?_)
  have S : Sw G A s.heap _ _ [(h0, .inr (8, moL ma (va_up (va_up (va_up (va_up iv 21 (nI b1)) 22 (nI b2)) 20 (nI n2)) 19 (nI n1)) co)), ((ma 24), .inl (k 0, 170, .inl (fun i => nI (g1 i)))), ((ma 25), .inl (k 0, 170, .inl (fun i => nI (g2 i))))] := S
  have hw2 : r3 = cmpN g1 g2 n1 n2 := hw2
  refine lv_if_lt (tgt := 79) hx hb d_Mo_join_35 (by decide) (fun _ => ?_) (fun hq => absurd (by rw [hw2, cv, if_neg (by omega), if_pos hlt]; decide) hq)
  refine lv_aload_n hx hb d_Mo_join_79 rfl (lv_at hl 0 rfl) ?_
  refine r_get C K S 0 rfl rfl clOk_Mo 45 (by decide) wf_Mo_96 (v := .ref (ma 25)) rfl d_Mo_join_80 ?_
  refine lv_aload_n hx hb d_Mo_join_83 rfl (lv_at hl 0 rfl) ?_
  refine r_get C K S 0 rfl rfl clOk_Mo 49 (by decide) wf_Mo_292 (v := .int (nI n2)) rfl d_Mo_join_84 ?_
  refine lv_aload_n hx hb d_Mo_join_87 rfl (lv_at hl 0 rfl) ?_
  refine r_get C K S 0 rfl rfl clOk_Mo 44 (by decide) wf_Mo_93 (v := .ref (ma 24)) rfl d_Mo_join_88 ?_
  refine lv_aload_n hx hb d_Mo_join_91 rfl (lv_at hl 0 rfl) ?_
  refine r_get C K S 0 rfl rfl clOk_Mo 48 (by decide) wf_Mo_286 (v := .int (nI n1)) rfl d_Mo_join_92 ?_
  refine lv_aload_n hx hb d_Mo_join_95 rfl (lv_at hl 0 rfl) ?_
  refine r_get C K S 0 rfl rfl clOk_Mo 44 (by decide) wf_Mo_93 (v := .ref (ma 24)) rfl d_Mo_join_96 ?_
  refine r_backv (wi := [((ma 25), .inl (k 0, 170, .inl (fun i => nI (g2 i)))), ((ma 24), .inl (k 0, 170, .inl (fun i => nI (g1 i))))]) (wr := [(h0, .inr (8, moL ma (va_up (va_up (va_up (va_up iv 21 (nI b1)) 22 (nI b2)) 20 (nI n2)) 19 (nI n1)) co))]) S hA [2, 1] [0] rfl rfl (by decide) (by decide) (va_runS (As := [.ref (ma 25), .int (nI n2), .ref (ma 24), .int (nI n1), .ref (ma 24)]) (rest := []) ⟨hx, hb, C.2.2.1, C.2.2.2.1, C.2.2.2.2.1⟩ (g_Mo_subtract_b l G k _ (ma 25) (ma 24) n2 n1 g2 g1 (by omega) (by omega) (by omega) db da) (k_stat (n := 5) C wc_Mo_subtract rfl rfl wz_Mo wm_Mo_308 wt_Mo_subtract (by decide +kernel) ⟨(Nat.le_of_ble_eq_true rfl), (Nat.le_of_ble_eq_true rfl)⟩) (pr_now K S [2, 1] (by decide) rfl) rfl rfl hl.1 rfl (lv_room (Nat.le_of_ble_eq_true rfl)) d_Mo_join_99 ⟨(Nat.le_of_ble_eq_true rfl), (Nat.le_of_ble_eq_true rfl)⟩) (fun u4 H locs hw5 S => ?_)
  have S : Sw G A s.heap _ _ [(h0, .inr (8, moL ma (va_up (va_up (va_up (va_up iv 21 (nI b1)) 22 (nI b2)) 20 (nI n2)) 19 (nI n1)) co)), ((ma 25), .inl (k 0, 170, .inl (fun i => nI (g2 i)))), ((ma 24), .inl (k 0, 170, .inl (fun i => nI (u4 i))))] := S
  refine lv_aload_n hx hb d_Mo_join_102 rfl (lv_at hl 0 rfl) ?_
  refine lv_aload_n hx hb d_Mo_join_103 rfl (lv_at hl 0 rfl) ?_
  refine r_get C K S 0 rfl rfl clOk_Mo 44 (by decide) wf_Mo_93 (v := .ref (ma 24)) rfl d_Mo_join_104 ?_
  refine lv_aload_n hx hb d_Mo_join_107 rfl (lv_at hl 0 rfl) ?_
  refine r_get C K S 0 rfl rfl clOk_Mo 49 (by decide) wf_Mo_292 (v := .int (nI n2)) rfl d_Mo_join_108 ?_
  refine r_backi (wi := [((ma 24), .inl (k 0, 170, .inl (fun i => nI (u4 i))))]) (wr := [(h0, .inr (8, moL ma (va_up (va_up (va_up (va_up iv 21 (nI b1)) 22 (nI b2)) 20 (nI n2)) 19 (nI n1)) co)), ((ma 25), .inl (k 0, 170, .inl (fun i => nI (g2 i))))]) S hA [2] [0, 1] rfl rfl (by decide) (by decide) (va_runS (As := [.ref (ma 24), .int (nI n2)]) (rest := [.ref h0]) ⟨hx, hb, C.2.2.1, C.2.2.2.1, C.2.2.2.2.1⟩ (k_Mo_cut2 l G k (ma 24) _ 170 n2 (fun i => nI (u4 i)) (by omega) (by decide)) (k_stat (n := 2) C wc_Mo_cut2 rfl rfl wz_Mo wm_Mo_278 wt_Mo_cut2 (by decide +kernel) ⟨(Nat.le_of_ble_eq_true rfl), (Nat.le_of_ble_eq_true rfl)⟩) (pr_now K S [2] (by decide) rfl) rfl rfl hl.1 rfl (lv_room (Nat.le_of_ble_eq_true rfl)) d_Mo_join_111 ⟨(Nat.le_of_ble_eq_true rfl), (Nat.le_of_ble_eq_true rfl)⟩) (fun r8 u6 H locs hw7 S => ?_)
  have S : Sw G A s.heap _ _ [(h0, .inr (8, moL ma (va_up (va_up (va_up (va_up iv 21 (nI b1)) 22 (nI b2)) 20 (nI n2)) 19 (nI n1)) co)), ((ma 25), .inl (k 0, 170, .inl (fun i => nI (g2 i)))), ((ma 24), .inl (k 0, 170, .inl (fun i => nI (u4 i))))] := S
  have hw7 : r8 = nI (cutN (fun i => nI (u4 i)) n2) := hw7
  subst hw7
  refine r_put C K S 0 rfl rfl clOk_Mo 48 (by decide) wf_Mo_286 rfl (ty := .int) (v := .int (nI (cutN (fun i => nI (u4 i)) n2))) (by decide +kernel) rfl rfl (Nat.le_of_ble_eq_true rfl) (fs' := moL ma (va_up (va_up (va_up (va_up iv 21 (nI b1)) 22 (nI b2)) 20 (nI n2)) 19 (nI (cutN (fun i => nI (u4 i)) n2))) co) (ws' := [(h0, .inr (8, moL ma (va_up (va_up (va_up (va_up iv 21 (nI b1)) 22 (nI b2)) 20 (nI n2)) 19 (nI (cutN (fun i => nI (u4 i)) n2))) co)), ((ma 25), .inl (k 0, 170, .inl (fun i => nI (g2 i)))), ((ma 24), .inl (k 0, 170, .inl (fun i => nI (u4 i))))]) rfl rfl d_Mo_join_114 (fun H locs S => ?_)
  refine lv_aload_n hx hb d_Mo_join_117 rfl (lv_at hl 0 rfl) ?_
  refine lv_aload_n hx hb d_Mo_join_118 rfl (lv_at hl 0 rfl) ?_
  refine r_get C K S 0 rfl rfl clOk_Mo 51 (by decide) wf_Mo_295 (v := .int (nI b2)) rfl d_Mo_join_119 ?_
  refine r_put C K S 0 rfl rfl clOk_Mo 50 (by decide) wf_Mo_289 rfl (ty := .boolean) (v := .int (nI b2)) (by decide +kernel) (bo_n hb2) (bo_f hb2) (Nat.le_of_ble_eq_true rfl) (fs' := moL ma (va_up (va_up (va_up (va_up iv 22 (nI b2)) 20 (nI n2)) 19 (nI (cutN (fun i => nI (u4 i)) n2))) 21 (nI b2)) co) (ws' := [(h0, .inr (8, moL ma (va_up (va_up (va_up (va_up iv 22 (nI b2)) 20 (nI n2)) 19 (nI (cutN (fun i => nI (u4 i)) n2))) 21 (nI b2)) co)), ((ma 25), .inl (k 0, 170, .inl (fun i => nI (g2 i)))), ((ma 24), .inl (k 0, 170, .inl (fun i => nI (u4 i))))]) rfl rfl d_Mo_join_122 (fun H locs S => ?_)
  have e2 := vl_cut (B := 65536) u4 (fun i => nI (u4 i)) (fun _ => rfl) n2 (fun i hi => by have := hw5.2.1 i (by omega); omega)
  exact r_vret C K (u4, cutN (fun i => nI (u4 i)) n2) ⟨by have := hw5.1; have := e2.1; show vl 65536 u4 (cutN (fun i => nI (u4 i)) n2) + _ = _; omega, by have := e2.2.1; show cutN (fun i => nI (u4 i)) n2 ≤ 161; omega, e2.2.2, hw5.2.1⟩ (S.sub [0, 2, 1] (by decide) rfl) d_Mo_join_125 (Nat.le_of_ble_eq_true rfl) (Nat.le_of_ble_eq_true rfl)
