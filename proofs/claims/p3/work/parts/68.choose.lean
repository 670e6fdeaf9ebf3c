/-- a place, or none -/
def bI : Option Nat → Int32
  | none => -1
  | some r => nI r
/-- two products of amounts compared -/
def cpZ (a b c d : Int) : Int32 := if a.natAbs * b.natAbs = c.natAbs * d.natAbs then 0 else if a.natAbs * b.natAbs < c.natAbs * d.natAbs then -1 else 1
theorem cp_val {a b : Int} (ha : 0 ≤ a) (hb : b < 0) : ((a.natAbs * b.natAbs : Nat) : Int) = a * - b := by
  rw [Int.natCast_mul, show ((a.natAbs : Nat) : Int) = a by omega, show ((b.natAbs : Nat) : Int) = - b by omega]
theorem cp_lt {a b c d : Int} (h : cpZ a b c d < 0) (ha : 0 ≤ a) (hb : b < 0) (hc : 0 ≤ c) (hd : d < 0) : a * - b < c * - d := by
  rw [← cp_val ha hb, ← cp_val hc hd]
  unfold cpZ at h
  split at h
  · exact absurd h (by decide)
  · split at h
    · omega
    · exact absurd h (by decide)
theorem cp_eq {a b c d : Int} (h : cpZ a b c d = 0) (ha : 0 ≤ a) (hb : b < 0) (hc : 0 ≤ c) (hd : d < 0) : a * - b = c * - d := by
  rw [← cp_val ha hb, ← cp_val hc hd]
  unfold cpZ at h
  split at h
  · omega
  · split at h
    · exact absurd h (by decide)
    · exact absurd h (by decide)
theorem cp_gt {a b c d : Int} (h1 : ¬ cpZ a b c d < 0) (h2 : ¬ cpZ a b c d = 0) (ha : 0 ≤ a) (hb : b < 0) (hc : 0 ≤ c) (hd : d < 0) : c * - d < a * - b := by
  rw [← cp_val ha hb, ← cp_val hc hd]
  unfold cpZ at h1 h2
  split at h1
  · rename_i q; rw [if_pos q] at h2; exact absurd rfl h2
  · rename_i q
    split at h1
    · exact absurd (by decide) h1
    · omega
/-- the first that is not 0 decides -/
theorem sxN_at {f : Nat → Int} {K q : Nat} (hq : q < K) (h0 : ∀ p, p < q → f p = 0) (h1 : q + 1 = K ∨ f q ≠ 0) : sxN K f ↔ f q < 0 := by
  constructor
  · rintro ⟨p, a, b, c⟩
    rcases Nat.lt_trichotomy p q with w | w | w
    · rw [h0 p w] at c; exact absurd c (by decide)
    · rw [← w]; exact c
    · rcases h1 with h | h
      · omega
      · exact absurd (b q w) h
  · exact fun c => ⟨q, hq, h0, c⟩
theorem d_Mo_shareOf_0 : decode c_Mo_shareOf 0 = .ok (.aload_n 0, 1) := by decide +kernel
theorem d_Mo_shareOf_1 : decode c_Mo_shareOf 1 = .ok (.iload_n 1, 1) := by decide +kernel
theorem d_Mo_shareOf_2 : decode c_Mo_shareOf 2 = .ok (.bipush 41, 2) := by decide +kernel
theorem d_Mo_shareOf_4 : decode c_Mo_shareOf 4 = .ok (.invokestatic 328, 3) := by decide +kernel
theorem d_Mo_shareOf_7 : decode c_Mo_shareOf 7 = .ok (.iload_n 2, 1) := by decide +kernel
theorem d_Mo_shareOf_8 : decode c_Mo_shareOf 8 = .ok (.iload_n 3, 1) := by decide +kernel
theorem d_Mo_shareOf_9 : decode c_Mo_shareOf 9 = .ok (.invokestatic 328, 3) := by decide +kernel
theorem d_Mo_shareOf_12 : decode c_Mo_shareOf 12 = .ok (.iload_n 2, 1) := by decide +kernel
theorem d_Mo_shareOf_13 : decode c_Mo_shareOf 13 = .ok (.bipush 41, 2) := by decide +kernel
theorem d_Mo_shareOf_15 : decode c_Mo_shareOf 15 = .ok (.invokestatic 328, 3) := by decide +kernel
theorem d_Mo_shareOf_18 : decode c_Mo_shareOf 18 = .ok (.iload_n 1, 1) := by decide +kernel
theorem d_Mo_shareOf_19 : decode c_Mo_shareOf 19 = .ok (.iload_n 3, 1) := by decide +kernel
theorem d_Mo_shareOf_20 : decode c_Mo_shareOf 20 = .ok (.invokestatic 328, 3) := by decide +kernel
theorem d_Mo_shareOf_23 : decode c_Mo_shareOf 23 = .ok (.invokevirtual 370, 3) := by decide +kernel
theorem d_Mo_shareOf_26 : decode c_Mo_shareOf 26 = .ok (.ireturn, 1) := by decide +kernel
set_option maxRecDepth 100000 in
set_option maxHeartbeats 16000000 in
/-- shareOf(ri, kk, c9) -/
theorem g_Mo_shareOf (l : Launch) (G : va_G) (k : Nat → ClassId) (h0 : Nat) (s0 : Nat) (ri : Nat) (kk : Nat) (c9 : Nat) (ma : Nat → Nat) (iv : Nat → Int32) (co : Int64) (dg : Nat → Nat) (sz : Nat → Nat) (bl : Nat → Nat) (O : Nat → Nat) (T2 : Nat → Nat) (T : Nat → Int) (hT : tbO dg sz bl T) (hi : ri < 95) (hk : kk < 95) (hc : c9 < 42) (dO : ∀ i, i < 170 → O i < 65536) (d2 : ∀ i, i < 170 → T2 i < 65536) : CI l y_Mo_shareOf c_Mo_shareOf 4 .int { frames := 3, cells := 0, slots := 0, locals := 124 } [.ref h0, .int (nI ri), .int (nI kk), .int (nI c9)] G k s0 [(h0, .inr (8, moL ma iv co)), ((ma 21), .inl (k 0, 319840, .inl (fun i => nI (dg i)))), ((ma 22), .inl (k 0, 3998, .inl (fun i => nI (sz i)))), ((ma 24), .inl (k 0, 170, .inl (fun i => nI (O i)))), ((ma 25), .inl (k 0, 170, .inl (fun i => nI (T2 i))))] (fun (r : Int32) (u : (Nat → Nat → Nat) × (Nat → Int32)) => r = cpZ (T (42 * ri + 41)) (T (42 * kk + c9)) (T (42 * kk + 41)) (T (42 * ri + c9)) ∧ (∀ i, i < 170 → u.1 0 i < 65536) ∧ (∀ i, i < 170 → u.1 1 i < 65536)) (fun u => [(h0, .inr (8, moL ma (va_up (va_up iv 19 (u.2 0)) 20 (u.2 1)) co)), ((ma 21), .inl (k 0, 319840, .inl (fun i => nI (dg i)))), ((ma 22), .inl (k 0, 3998, .inl (fun i => nI (sz i)))), ((ma 24), .inl (k 0, 170, .inl (fun i => nI (u.1 0 i)))), ((ma 25), .inl (k 0, 170, .inl (fun i => nI (u.1 1 i))))]) 0 0 := by
  refine met_start (by decide) (Nat.le_of_ble_eq_true rfl) ?_
  intro p e s m below meth c C K hA hsz S ls hl
  generalize va_A [(h0, .inr (8, moL ma iv co)), ((ma 21), .inl (k 0, 319840, .inl (fun i => nI (dg i)))), ((ma 22), .inl (k 0, 3998, .inl (fun i => nI (sz i)))), ((ma 24), .inl (k 0, 170, .inl (fun i => nI (O i)))), ((ma 25), .inl (k 0, 170, .inl (fun i => nI (T2 i))))] s0 = A at hA S ⊢
  have hx := C.1
  have hb := C.2.1
  have hl : lv_has ls 4 [(0, .ref h0), (1, .int (nI ri)), (2, .int (nI kk)), (3, .int (nI c9))] := hl
  refine lv_aload_n hx hb d_Mo_shareOf_0 rfl (lv_at hl 0 rfl) ?_
  refine lv_iload_n hx hb d_Mo_shareOf_1 rfl (lv_at hl 1 rfl) ?_
  refine lv_bipush (v := 41) hx hb d_Mo_shareOf_2 (by decide) ?_
  refine r_backi (wi := []) (wr := [(h0, .inr (8, moL ma iv co)), ((ma 21), .inl (k 0, 319840, .inl (fun i => nI (dg i)))), ((ma 22), .inl (k 0, 3998, .inl (fun i => nI (sz i)))), ((ma 24), .inl (k 0, 170, .inl (fun i => nI (O i)))), ((ma 25), .inl (k 0, 170, .inl (fun i => nI (T2 i))))]) S hA [] [0, 1, 2, 3, 4] rfl rfl (by decide) (by decide) (va_runS (As := [.int (nI ri), .int 41]) (rest := [.ref h0]) ⟨hx, hb, C.2.2.1, C.2.2.2.1, C.2.2.2.2.1⟩ (g_Mo_at l G k _ ri 41) (k_stat (n := 2) C wc_Mo_at rfl rfl wz_Mo wm_Mo_328 wt_Mo_at (by decide +kernel) ⟨(Nat.le_of_ble_eq_true rfl), (Nat.le_of_ble_eq_true rfl)⟩) (pr_now K S [] (by decide) rfl) rfl rfl hl.1 rfl (lv_room (Nat.le_of_ble_eq_true rfl)) d_Mo_shareOf_4 ⟨(Nat.le_of_ble_eq_true rfl), (Nat.le_of_ble_eq_true rfl)⟩) (fun r3 u1 H locs hw2 S => ?_)
  have S : Sw G A s.heap _ _ [(h0, .inr (8, moL ma iv co)), ((ma 21), .inl (k 0, 319840, .inl (fun i => nI (dg i)))), ((ma 22), .inl (k 0, 3998, .inl (fun i => nI (sz i)))), ((ma 24), .inl (k 0, 170, .inl (fun i => nI (O i)))), ((ma 25), .inl (k 0, 170, .inl (fun i => nI (T2 i))))] := S
  obtain rfl : r3 = nI (42 * ri + 41) := hw2
  refine lv_iload_n hx hb d_Mo_shareOf_7 rfl (lv_at hl 2 rfl) ?_
  refine lv_iload_n hx hb d_Mo_shareOf_8 rfl (lv_at hl 3 rfl) ?_
  refine r_backi (wi := []) (wr := [(h0, .inr (8, moL ma iv co)), ((ma 21), .inl (k 0, 319840, .inl (fun i => nI (dg i)))), ((ma 22), .inl (k 0, 3998, .inl (fun i => nI (sz i)))), ((ma 24), .inl (k 0, 170, .inl (fun i => nI (O i)))), ((ma 25), .inl (k 0, 170, .inl (fun i => nI (T2 i))))]) S hA [] [0, 1, 2, 3, 4] rfl rfl (by decide) (by decide) (va_runS (As := [.int (nI kk), .int (nI c9)]) (rest := [.int (nI (42 * ri + 41)), .ref h0]) ⟨hx, hb, C.2.2.1, C.2.2.2.1, C.2.2.2.2.1⟩ (g_Mo_at l G k _ kk c9) (k_stat (n := 2) C wc_Mo_at rfl rfl wz_Mo wm_Mo_328 wt_Mo_at (by decide +kernel) ⟨(Nat.le_of_ble_eq_true rfl), (Nat.le_of_ble_eq_true rfl)⟩) (pr_now K S [] (by decide) rfl) rfl rfl hl.1 rfl (lv_room (Nat.le_of_ble_eq_true rfl)) d_Mo_shareOf_9 ⟨(Nat.le_of_ble_eq_true rfl), (Nat.le_of_ble_eq_true rfl)⟩) (fun r7 u5 H locs hw6 S => ?_)
  have S : Sw G A s.heap _ _ [(h0, .inr (8, moL ma iv co)), ((ma 21), .inl (k 0, 319840, .inl (fun i => nI (dg i)))), ((ma 22), .inl (k 0, 3998, .inl (fun i => nI (sz i)))), ((ma 24), .inl (k 0, 170, .inl (fun i => nI (O i)))), ((ma 25), .inl (k 0, 170, .inl (fun i => nI (T2 i))))] := S
  obtain rfl : r7 = nI (42 * kk + c9) := hw6
  refine lv_iload_n hx hb d_Mo_shareOf_12 rfl (lv_at hl 2 rfl) ?_
  refine lv_bipush (v := 41) hx hb d_Mo_shareOf_13 (by decide) ?_
  refine r_backi (wi := []) (wr := [(h0, .inr (8, moL ma iv co)), ((ma 21), .inl (k 0, 319840, .inl (fun i => nI (dg i)))), ((ma 22), .inl (k 0, 3998, .inl (fun i => nI (sz i)))), ((ma 24), .inl (k 0, 170, .inl (fun i => nI (O i)))), ((ma 25), .inl (k 0, 170, .inl (fun i => nI (T2 i))))]) S hA [] [0, 1, 2, 3, 4] rfl rfl (by decide) (by decide) (va_runS (As := [.int (nI kk), .int 41]) (rest := [.int (nI (42 * kk + c9)), .int (nI (42 * ri + 41)), .ref h0]) ⟨hx, hb, C.2.2.1, C.2.2.2.1, C.2.2.2.2.1⟩ (g_Mo_at l G k _ kk 41) (k_stat (n := 2) C wc_Mo_at rfl rfl wz_Mo wm_Mo_328 wt_Mo_at (by decide +kernel) ⟨(Nat.le_of_ble_eq_true rfl), (Nat.le_of_ble_eq_true rfl)⟩) (pr_now K S [] (by decide) rfl) rfl rfl hl.1 rfl (lv_room (Nat.le_of_ble_eq_true rfl)) d_Mo_shareOf_15 ⟨(Nat.le_of_ble_eq_true rfl), (Nat.le_of_ble_eq_true rfl)⟩) (fun r11 u9 H locs hw10 S => ?_)
  have S : Sw G A s.heap _ _ [(h0, .inr (8, moL ma iv co)), ((ma 21), .inl (k 0, 319840, .inl (fun i => nI (dg i)))), ((ma 22), .inl (k 0, 3998, .inl (fun i => nI (sz i)))), ((ma 24), .inl (k 0, 170, .inl (fun i => nI (O i)))), ((ma 25), .inl (k 0, 170, .inl (fun i => nI (T2 i))))] := S
  obtain rfl : r11 = nI (42 * kk + 41) := hw10
  refine lv_iload_n hx hb d_Mo_shareOf_18 rfl (lv_at hl 1 rfl) ?_
  refine lv_iload_n hx hb d_Mo_shareOf_19 rfl (lv_at hl 3 rfl) ?_
  refine r_backi (wi := []) (wr := [(h0, .inr (8, moL ma iv co)), ((ma 21), .inl (k 0, 319840, .inl (fun i => nI (dg i)))), ((ma 22), .inl (k 0, 3998, .inl (fun i => nI (sz i)))), ((ma 24), .inl (k 0, 170, .inl (fun i => nI (O i)))), ((ma 25), .inl (k 0, 170, .inl (fun i => nI (T2 i))))]) S hA [] [0, 1, 2, 3, 4] rfl rfl (by decide) (by decide) (va_runS (As := [.int (nI ri), .int (nI c9)]) (rest := [.int (nI (42 * kk + 41)), .int (nI (42 * kk + c9)), .int (nI (42 * ri + 41)), .ref h0]) ⟨hx, hb, C.2.2.1, C.2.2.2.1, C.2.2.2.2.1⟩ (g_Mo_at l G k _ ri c9) (k_stat (n := 2) C wc_Mo_at rfl rfl wz_Mo wm_Mo_328 wt_Mo_at (by decide +kernel) ⟨(Nat.le_of_ble_eq_true rfl), (Nat.le_of_ble_eq_true rfl)⟩) (pr_now K S [] (by decide) rfl) rfl rfl hl.1 rfl (lv_room (Nat.le_of_ble_eq_true rfl)) d_Mo_shareOf_20 ⟨(Nat.le_of_ble_eq_true rfl), (Nat.le_of_ble_eq_true rfl)⟩) (fun r15 u13 H locs hw14 S => ?_)
  have S : Sw G A s.heap _ _ [(h0, .inr (8, moL ma iv co)), ((ma 21), .inl (k 0, 319840, .inl (fun i => nI (dg i)))), ((ma 22), .inl (k 0, 3998, .inl (fun i => nI (sz i)))), ((ma 24), .inl (k 0, 170, .inl (fun i => nI (O i)))), ((ma 25), .inl (k 0, 170, .inl (fun i => nI (T2 i))))] := S
  obtain rfl : r15 = nI (42 * ri + c9) := hw14
  refine r_backi (wi := [(h0, .inr (8, moL ma iv co)), ((ma 21), .inl (k 0, 319840, .inl (fun i => nI (dg i)))), ((ma 22), .inl (k 0, 3998, .inl (fun i => nI (sz i)))), ((ma 24), .inl (k 0, 170, .inl (fun i => nI (O i)))), ((ma 25), .inl (k 0, 170, .inl (fun i => nI (T2 i))))]) (wr := []) S hA [0, 1, 2, 3, 4] [] rfl rfl (by decide) (by decide) (va_runV (As := [.int (nI (42 * ri + 41)), .int (nI (42 * kk + c9)), .int (nI (42 * kk + 41)), .int (nI (42 * ri + c9))]) (rest := []) ⟨hx, hb, C.2.2.1, C.2.2.2.1, C.2.2.2.2.1⟩ (g_Mo_compareProducts l G k h0 _ (42 * ri + 41) (42 * kk + c9) (42 * kk + 41) (42 * ri + c9) ma iv co dg sz O T2 (by omega) (by omega) (by omega) (by omega) (hT.2 _ (by omega)).1 (hT.2 _ (by omega)).1 (hT.2 _ (by omega)).1 (hT.2 _ (by omega)).1 hT.1 dO d2) (k_virt (n := 4) C wc_Mo_compareProducts rfl rfl wz_Mo wm_Mo_370 wn_Mo_compareProducts ws_Mo_compareProducts (by decide +kernel) ⟨(Nat.le_of_ble_eq_true rfl), (Nat.le_of_ble_eq_true rfl)⟩) (pr_nowV K S [0, 1, 2, 3, 4] (by decide) rfl 0 rfl rfl) rfl rfl hl.1 rfl (lv_room (Nat.le_of_ble_eq_true rfl)) d_Mo_shareOf_23 ⟨(Nat.le_of_ble_eq_true rfl), (Nat.le_of_ble_eq_true rfl)⟩) (fun r18 cu H locs hw17 S => ?_)
  have S : Sw G A s.heap _ _ [(h0, .inr (8, moL ma (va_up (va_up iv 19 cu.2.2.1) 20 cu.2.2.2) co)), ((ma 21), .inl (k 0, 319840, .inl (fun i => nI (dg i)))), ((ma 22), .inl (k 0, 3998, .inl (fun i => nI (sz i)))), ((ma 24), .inl (k 0, 170, .inl (fun i => nI (cu.1 i)))), ((ma 25), .inl (k 0, 170, .inl (fun i => nI (cu.2.1 i))))] := S
  obtain ⟨hw170, hcu⟩ := hw17
  obtain rfl : r18 = (if vl 65536 (fun i => dg ((42 * ri + 41) * 80 + i)) (sz (42 * ri + 41)) * vl 65536 (fun i => dg ((42 * kk + c9) * 80 + i)) (sz (42 * kk + c9)) = vl 65536 (fun i => dg ((42 * kk + 41) * 80 + i)) (sz (42 * kk + 41)) * vl 65536 (fun i => dg ((42 * ri + c9) * 80 + i)) (sz (42 * ri + c9)) then 0 else if vl 65536 (fun i => dg ((42 * ri + 41) * 80 + i)) (sz (42 * ri + 41)) * vl 65536 (fun i => dg ((42 * kk + c9) * 80 + i)) (sz (42 * kk + c9)) < vl 65536 (fun i => dg ((42 * kk + 41) * 80 + i)) (sz (42 * kk + 41)) * vl 65536 (fun i => dg ((42 * ri + c9) * 80 + i)) (sz (42 * ri + c9)) then -1 else 1) := hw170
  exact r_iret C K rfl (uz [cu.1, cu.2.1], fz cu.2.2.1 cu.2.2.2 0 0 0) ⟨by unfold cpZ; rw [← nmO_abs (hT.2 (42 * ri + 41) (by omega)), ← nmO_abs (hT.2 (42 * kk + c9) (by omega)), ← nmO_abs (hT.2 (42 * kk + 41) (by omega)), ← nmO_abs (hT.2 (42 * ri + c9) (by omega))], hcu.1, hcu.2⟩ (S.sub [0, 1, 2, 3, 4] (by decide) rfl) d_Mo_shareOf_26 (Nat.le_of_ble_eq_true rfl) (Nat.le_of_ble_eq_true rfl)
theorem d_Mo_giving_0 : decode c_Mo_giving 0 = .ok (.iconst (-1), 1) := by decide +kernel
theorem d_Mo_giving_1 : decode c_Mo_giving 1 = .ok (.istore_n 2, 1) := by decide +kernel
theorem d_Mo_giving_2 : decode c_Mo_giving 2 = .ok (.iconst 0, 1) := by decide +kernel
theorem d_Mo_giving_3 : decode c_Mo_giving 3 = .ok (.istore_n 3, 1) := by decide +kernel
theorem d_Mo_giving_4 : decode c_Mo_giving 4 = .ok (.iload_n 3, 1) := by decide +kernel
theorem d_Mo_giving_5 : decode c_Mo_giving 5 = .ok (.aload_n 0, 1) := by decide +kernel
theorem d_Mo_giving_6 : decode c_Mo_giving 6 = .ok (.getfield 333, 3) := by decide +kernel
theorem d_Mo_giving_9 : decode c_Mo_giving 9 = .ok (.if_icmp .ge 68, 3) := by decide +kernel
theorem d_Mo_giving_12 : decode c_Mo_giving 12 = .ok (.aload_n 0, 1) := by decide +kernel
theorem d_Mo_giving_13 : decode c_Mo_giving 13 = .ok (.iload_n 3, 1) := by decide +kernel
theorem d_Mo_giving_14 : decode c_Mo_giving 14 = .ok (.iload_n 1, 1) := by decide +kernel
theorem d_Mo_giving_15 : decode c_Mo_giving 15 = .ok (.invokestatic 328, 3) := by decide +kernel
theorem d_Mo_giving_18 : decode c_Mo_giving 18 = .ok (.invokevirtual 330, 3) := by decide +kernel
theorem d_Mo_giving_21 : decode c_Mo_giving 21 = .ok (.ifCond .lt 6, 3) := by decide +kernel
theorem d_Mo_giving_24 : decode c_Mo_giving 24 = .ok (.goto 47, 3) := by decide +kernel
theorem d_Mo_giving_27 : decode c_Mo_giving 27 = .ok (.iload_n 2, 1) := by decide +kernel
theorem d_Mo_giving_28 : decode c_Mo_giving 28 = .ok (.ifCond .ge 7, 3) := by decide +kernel
theorem d_Mo_giving_31 : decode c_Mo_giving 31 = .ok (.iconst (-1), 1) := by decide +kernel
theorem d_Mo_giving_32 : decode c_Mo_giving 32 = .ok (.goto 10, 3) := by decide +kernel
theorem d_Mo_giving_35 : decode c_Mo_giving 35 = .ok (.aload_n 0, 1) := by decide +kernel
theorem d_Mo_giving_36 : decode c_Mo_giving 36 = .ok (.iload_n 3, 1) := by decide +kernel
theorem d_Mo_giving_37 : decode c_Mo_giving 37 = .ok (.iload_n 2, 1) := by decide +kernel
theorem d_Mo_giving_38 : decode c_Mo_giving 38 = .ok (.iload_n 1, 1) := by decide +kernel
theorem d_Mo_giving_39 : decode c_Mo_giving 39 = .ok (.invokevirtual 367, 3) := by decide +kernel
theorem d_Mo_giving_42 : decode c_Mo_giving 42 = .ok (.istore 4, 2) := by decide +kernel
theorem d_Mo_giving_44 : decode c_Mo_giving 44 = .ok (.iload 4, 2) := by decide +kernel
theorem d_Mo_giving_46 : decode c_Mo_giving 46 = .ok (.ifCond .lt 23, 3) := by decide +kernel
theorem d_Mo_giving_49 : decode c_Mo_giving 49 = .ok (.iload 4, 2) := by decide +kernel
theorem d_Mo_giving_51 : decode c_Mo_giving 51 = .ok (.ifCond .ne 20, 3) := by decide +kernel
theorem d_Mo_giving_54 : decode c_Mo_giving 54 = .ok (.aload_n 0, 1) := by decide +kernel
theorem d_Mo_giving_55 : decode c_Mo_giving 55 = .ok (.getfield 105, 3) := by decide +kernel
theorem d_Mo_giving_58 : decode c_Mo_giving 58 = .ok (.iload_n 3, 1) := by decide +kernel
theorem d_Mo_giving_59 : decode c_Mo_giving 59 = .ok (.iaload, 1) := by decide +kernel
theorem d_Mo_giving_60 : decode c_Mo_giving 60 = .ok (.aload_n 0, 1) := by decide +kernel
theorem d_Mo_giving_61 : decode c_Mo_giving 61 = .ok (.getfield 105, 3) := by decide +kernel
theorem d_Mo_giving_64 : decode c_Mo_giving 64 = .ok (.iload_n 2, 1) := by decide +kernel
theorem d_Mo_giving_65 : decode c_Mo_giving 65 = .ok (.iaload, 1) := by decide +kernel
theorem d_Mo_giving_66 : decode c_Mo_giving 66 = .ok (.if_icmp .ge 5, 3) := by decide +kernel
theorem d_Mo_giving_69 : decode c_Mo_giving 69 = .ok (.iload_n 3, 1) := by decide +kernel
theorem d_Mo_giving_70 : decode c_Mo_giving 70 = .ok (.istore_n 2, 1) := by decide +kernel
theorem d_Mo_giving_71 : decode c_Mo_giving 71 = .ok (.iinc 3 1, 3) := by decide +kernel
theorem d_Mo_giving_74 : decode c_Mo_giving 74 = .ok (.goto (-70), 3) := by decide +kernel
theorem d_Mo_giving_77 : decode c_Mo_giving 77 = .ok (.iload_n 2, 1) := by decide +kernel
theorem d_Mo_giving_78 : decode c_Mo_giving 78 = .ok (.ireturn, 1) := by decide +kernel
set_option maxRecDepth 100000 in
set_option maxHeartbeats 16000000 in
/-- giving(c9) -/
theorem g_Mo_giving (l : Launch) (G : va_G) (k : Nat → ClassId) (h0 : Nat) (s0 : Nat) (c9 : Nat) (rows : Nat) (ma : Nat → Nat) (iv : Nat → Int32) (co : Int64) (dg : Nat → Nat) (sz : Nat → Nat) (bl : Nat → Nat) (O : Nat → Nat) (T2 : Nat → Nat) (rn : Nat → Nat) (T : Nat → Int) (hT : tbO dg sz bl T) (hc : c9 < 41) (hro : rows ≤ 90) (hpos : ∀ i, i < rows → 0 ≤ T (42 * i + 41)) (hrn : ∀ i, i < rows → rn i < 1000) (dO : ∀ i, i < 170 → O i < 65536) (d2 : ∀ i, i < 170 → T2 i < 65536) : CI l y_Mo_giving c_Mo_giving 5 .int { frames := 4, cells := 0, slots := 0, locals := 147 } [.ref h0, .int (nI c9)] G k s0 [(h0, .inr (8, moL ma (va_up iv 24 (nI rows)) co)), ((ma 21), .inl (k 0, 319840, .inl (fun i => nI (dg i)))), ((ma 22), .inl (k 0, 3998, .inl (fun i => nI (sz i)))), ((ma 23), .inl (k 2, 3998, .inl (fun i => nI (bl i)))), ((ma 24), .inl (k 0, 170, .inl (fun i => nI (O i)))), ((ma 25), .inl (k 0, 170, .inl (fun i => nI (T2 i)))), ((ma 28), .inl (k 0, 90, .inl (fun i => nI (rn i))))] (fun (r : Int32) (u : (Nat → Nat → Nat) × (Nat → Int32) × Option Nat) => r = bI u.2.2 ∧ gvO T rn c9 rows u.2.2 ∧ (∀ i, i < 170 → u.1 0 i < 65536) ∧ (∀ i, i < 170 → u.1 1 i < 65536)) (fun u => [(h0, .inr (8, moL ma (va_up (va_up (va_up iv 24 (nI rows)) 19 (u.2.1 0)) 20 (u.2.1 1)) co)), ((ma 21), .inl (k 0, 319840, .inl (fun i => nI (dg i)))), ((ma 22), .inl (k 0, 3998, .inl (fun i => nI (sz i)))), ((ma 23), .inl (k 2, 3998, .inl (fun i => nI (bl i)))), ((ma 24), .inl (k 0, 170, .inl (fun i => nI (u.1 0 i)))), ((ma 25), .inl (k 0, 170, .inl (fun i => nI (u.1 1 i)))), ((ma 28), .inl (k 0, 90, .inl (fun i => nI (rn i))))]) 0 0 := by
  refine met_start (by decide) (Nat.le_of_ble_eq_true rfl) ?_
  intro p e s m below meth c C K hA hsz S ls hl
  generalize va_A [(h0, .inr (8, moL ma (va_up iv 24 (nI rows)) co)), ((ma 21), .inl (k 0, 319840, .inl (fun i => nI (dg i)))), ((ma 22), .inl (k 0, 3998, .inl (fun i => nI (sz i)))), ((ma 23), .inl (k 2, 3998, .inl (fun i => nI (bl i)))), ((ma 24), .inl (k 0, 170, .inl (fun i => nI (O i)))), ((ma 25), .inl (k 0, 170, .inl (fun i => nI (T2 i)))), ((ma 28), .inl (k 0, 90, .inl (fun i => nI (rn i))))] s0 = A at hA S ⊢
  have hx := C.1
  have hb := C.2.1
  have hl : lv_has ls 5 [(0, .ref h0), (1, .int (nI c9))] := hl
  refine lv_iconst (v := (-1)) hx hb d_Mo_giving_0 (by decide) ?_
  refine lv_istore_n (lv' := [(2, .int (-1)), (0, .ref h0), (1, .int (nI c9))]) hx hb d_Mo_giving_1 rfl hl (by decide) rfl (fun ls hl => ?_)
  refine lv_iconst (v := 0) hx hb d_Mo_giving_2 (by decide) ?_
  refine lv_istore_n (lv' := [(3, .int 0), (2, .int (-1)), (0, .ref h0), (1, .int (nI c9))]) hx hb d_Mo_giving_3 rfl hl (by decide) rfl (fun ls hl => ?_)
  have lp : ∀ d9, ∀ (ri : Nat), ∀ (A1 : Nat → Nat), ∀ (A2 : Nat → Nat), ∀ (w : Nat → Int32), ∀ (b9 : Option Nat), (rows - ri) < d9 → (ri ≤ rows) → (gvO T rn c9 ri b9) → (∀ i, i < 170 → A1 i < 65536) → (∀ i, i < 170 → A2 i < 65536) → ∀ (H : Heap) (locs : List Loc), Sw G A s.heap H locs [(h0, .inr (8, moL ma (va_up (va_up (va_up iv 24 (nI rows)) 19 (w 0)) 20 (w 1)) co)), ((ma 21), .inl (k 0, 319840, .inl (fun i => nI (dg i)))), ((ma 22), .inl (k 0, 3998, .inl (fun i => nI (sz i)))), ((ma 23), .inl (k 2, 3998, .inl (fun i => nI (bl i)))), ((ma 24), .inl (k 0, 170, .inl (fun i => nI (A1 i)))), ((ma 25), .inl (k 0, 170, .inl (fun i => nI (A2 i)))), ((ma 28), .inl (k 0, 90, .inl (fun i => nI (rn i))))] → ∀ ls : Array Slot, lv_has ls 5 [(3, .int (nI ri)), (2, .int (bI b9)), (0, .ref h0), (1, .int (nI c9))] → W p l e { frames := 4, cells := 0, slots := 0, locals := 147 } s m [Value.ref h0, Value.int (nI c9)].toArray below meth c H locs 0 0 (MQ below (va_Qi (fun (r : Int32) (u : (Nat → Nat → Nat) × (Nat → Int32) × Option Nat) => r = bI u.2.2 ∧ gvO T rn c9 rows u.2.2 ∧ (∀ i, i < 170 → u.1 0 i < 65536) ∧ (∀ i, i < 170 → u.1 1 i < 65536)) (Po G k A (fun u => [(h0, .inr (8, moL ma (va_up (va_up (va_up iv 24 (nI rows)) 19 (u.2.1 0)) 20 (u.2.1 1)) co)), ((ma 21), .inl (k 0, 319840, .inl (fun i => nI (dg i)))), ((ma 22), .inl (k 0, 3998, .inl (fun i => nI (sz i)))), ((ma 23), .inl (k 2, 3998, .inl (fun i => nI (bl i)))), ((ma 24), .inl (k 0, 170, .inl (fun i => nI (u.1 0 i)))), ((ma 25), .inl (k 0, 170, .inl (fun i => nI (u.1 1 i)))), ((ma 28), .inl (k 0, 90, .inl (fun i => nI (rn i))))])) A) [Value.ref h0, Value.int (nI c9)].toArray s 0 0 A) (F0 m 4 ls []) := by
    intro d9
    induction d9 with
    | zero => intro ri A1 A2 w b9 hm; exact absurd hm (Nat.not_lt_zero _)
    | succ d9 ih =>
      intro ri A1 A2 w b9 hm hri hB e1 e2 H locs S ls hl
      refine lv_iload_n hx hb d_Mo_giving_4 rfl (lv_at hl 0 rfl) ?_
      refine lv_aload_n hx hb d_Mo_giving_5 rfl (lv_at hl 2 rfl) ?_
      refine r_get C K S 0 rfl rfl clOk_Mo 53 (by decide) wf_Mo_333 (v := .int (nI rows)) rfl d_Mo_giving_6 ?_
      refine z_icmp_ge (a := ri) (b := rows) (tgt := 77) hx hb d_Mo_giving_9 (by decide) (by omega) (by omega) (fun hc1 => ?_) (fun hc1 => ?_)
      · have hB : gvO T rn c9 rows b9 := (show ri = rows by omega) ▸ hB
        refine lv_iload_n hx hb d_Mo_giving_77 rfl (lv_at hl 1 rfl) ?_
        exact r_iret C K rfl (uz [A1, A2], w, b9) ⟨rfl, hB, e1, e2⟩ (S.sub [0, 1, 2, 3, 4, 5, 6] (by decide) rfl) d_Mo_giving_78 (Nat.le_of_ble_eq_true rfl) (Nat.le_of_ble_eq_true rfl)
      · refine lv_aload_n hx hb d_Mo_giving_12 rfl (lv_at hl 2 rfl) ?_
        refine lv_iload_n hx hb d_Mo_giving_13 rfl (lv_at hl 0 rfl) ?_
        refine lv_iload_n hx hb d_Mo_giving_14 rfl (lv_at hl 3 rfl) ?_
        refine r_backi (wi := []) (wr := [(h0, .inr (8, moL ma (va_up (va_up (va_up iv 24 (nI rows)) 19 (w 0)) 20 (w 1)) co)), ((ma 21), .inl (k 0, 319840, .inl (fun i => nI (dg i)))), ((ma 22), .inl (k 0, 3998, .inl (fun i => nI (sz i)))), ((ma 23), .inl (k 2, 3998, .inl (fun i => nI (bl i)))), ((ma 24), .inl (k 0, 170, .inl (fun i => nI (A1 i)))), ((ma 25), .inl (k 0, 170, .inl (fun i => nI (A2 i)))), ((ma 28), .inl (k 0, 90, .inl (fun i => nI (rn i))))]) S hA [] [0, 1, 2, 3, 4, 5, 6] rfl rfl (by decide) (by decide) (va_runS (As := [.int (nI ri), .int (nI c9)]) (rest := [.ref h0]) ⟨hx, hb, C.2.2.1, C.2.2.2.1, C.2.2.2.2.1⟩ (g_Mo_at l G k _ ri c9) (k_stat (n := 2) C wc_Mo_at rfl rfl wz_Mo wm_Mo_328 wt_Mo_at (by decide +kernel) ⟨(Nat.le_of_ble_eq_true rfl), (Nat.le_of_ble_eq_true rfl)⟩) (pr_now K S [] (by decide) rfl) rfl rfl hl.1 rfl (lv_room (Nat.le_of_ble_eq_true rfl)) d_Mo_giving_15 ⟨(Nat.le_of_ble_eq_true rfl), (Nat.le_of_ble_eq_true rfl)⟩) (fun r4 u2 H locs hw3 S => ?_)
        have S : Sw G A s.heap _ _ [(h0, .inr (8, moL ma (va_up (va_up (va_up iv 24 (nI rows)) 19 (w 0)) 20 (w 1)) co)), ((ma 21), .inl (k 0, 319840, .inl (fun i => nI (dg i)))), ((ma 22), .inl (k 0, 3998, .inl (fun i => nI (sz i)))), ((ma 23), .inl (k 2, 3998, .inl (fun i => nI (bl i)))), ((ma 24), .inl (k 0, 170, .inl (fun i => nI (A1 i)))), ((ma 25), .inl (k 0, 170, .inl (fun i => nI (A2 i)))), ((ma 28), .inl (k 0, 90, .inl (fun i => nI (rn i))))] := S
        obtain rfl : r4 = nI (42 * ri + c9) := hw3
        refine r_backi (wi := [(h0, .inr (8, moL ma (va_up (va_up (va_up iv 24 (nI rows)) 19 (w 0)) 20 (w 1)) co)), ((ma 22), .inl (k 0, 3998, .inl (fun i => nI (sz i)))), ((ma 23), .inl (k 2, 3998, .inl (fun i => nI (bl i))))]) (wr := [((ma 21), .inl (k 0, 319840, .inl (fun i => nI (dg i)))), ((ma 24), .inl (k 0, 170, .inl (fun i => nI (A1 i)))), ((ma 25), .inl (k 0, 170, .inl (fun i => nI (A2 i)))), ((ma 28), .inl (k 0, 90, .inl (fun i => nI (rn i))))]) S hA [0, 2, 3] [1, 4, 5, 6] rfl rfl (by decide) (by decide) (va_runV (As := [.int (nI (42 * ri + c9))]) (rest := []) ⟨hx, hb, C.2.2.1, C.2.2.2.1, C.2.2.2.2.1⟩ (g_Mo_signOf l G k h0 _ ma (va_up (va_up (va_up iv 24 (nI rows)) 19 (w 0)) 20 (w 1)) co sz bl (42 * ri + c9) (by omega) (hT.2 _ (by omega)).1 (hT.2 _ (by omega)).2.1) (k_virt (n := 1) C wc_Mo_signOf rfl rfl wz_Mo wm_Mo_330 wn_Mo_signOf ws_Mo_signOf (by decide +kernel) ⟨(Nat.le_of_ble_eq_true rfl), (Nat.le_of_ble_eq_true rfl)⟩) (pr_nowV K S [0, 2, 3] (by decide) rfl 0 rfl rfl) rfl rfl hl.1 rfl (lv_room (Nat.le_of_ble_eq_true rfl)) d_Mo_giving_18 ⟨(Nat.le_of_ble_eq_true rfl), (Nat.le_of_ble_eq_true rfl)⟩) (fun r8 u6 H locs hw7 S => ?_)
        have S : Sw G A s.heap _ _ [((ma 21), .inl (k 0, 319840, .inl (fun i => nI (dg i)))), ((ma 24), .inl (k 0, 170, .inl (fun i => nI (A1 i)))), ((ma 25), .inl (k 0, 170, .inl (fun i => nI (A2 i)))), ((ma 28), .inl (k 0, 90, .inl (fun i => nI (rn i)))), (h0, .inr (8, moL ma (va_up (va_up (va_up iv 24 (nI rows)) 19 (w 0)) 20 (w 1)) co)), ((ma 22), .inl (k 0, 3998, .inl (fun i => nI (sz i)))), ((ma 23), .inl (k 2, 3998, .inl (fun i => nI (bl i))))] := S
        obtain rfl : r8 = sgN (sz (42 * ri + c9)) (bl (42 * ri + c9)) := hw7
        rw [sgN_val (hT.2 (42 * ri + c9) (by omega))]
        refine lv_if_lt (tgt := 27) hx hb d_Mo_giving_21 (by decide) (fun hc10 => ?_) (fun hc10 => ?_)
        · cases b9 with
          | none =>
            have hl : lv_has ls 5 [(3, .int (nI ri)), (2, .int (-1)), (0, .ref h0), (1, .int (nI c9))] := hl
            refine lv_iload_n hx hb d_Mo_giving_27 rfl (lv_at hl 1 rfl) ?_
            refine lv_if_ge (tgt := 35) hx hb d_Mo_giving_28 (by decide) (fun hq => absurd hq (by decide)) (fun _ => ?_)
            refine lv_iconst (v := (-1)) hx hb d_Mo_giving_31 (by decide) ?_
            refine lv_goto (tgt := 42) hx hb d_Mo_giving_32 (by decide) ?_
            refine lv_istore (lv' := [(4, .int (-1)), (3, .int (nI ri)), (2, .int (-1)), (0, .ref h0), (1, .int (nI c9))]) hx hb d_Mo_giving_42 hl (by decide) rfl (fun ls hl => ?_)
            refine lv_iload hx hb d_Mo_giving_44 (lv_at hl 0 rfl) ?_
            refine lv_if_lt (tgt := 69) hx hb d_Mo_giving_46 (by decide) (fun _ => ?_) (fun hq => absurd (by decide) hq)
            refine lv_iload_n hx hb d_Mo_giving_69 rfl (lv_at hl 1 rfl) ?_
            refine lv_istore_n (lv' := [(2, .int (nI ri)), (4, .int (-1)), (3, .int (nI ri)), (0, .ref h0), (1, .int (nI c9))]) hx hb d_Mo_giving_70 rfl hl (by decide) rfl (fun ls hl => ?_)
            refine lv_iinc (v := nI (ri + 1)) (lv' := [(3, .int (nI (ri + 1))), (2, .int (nI ri)), (4, .int (-1)), (0, .ref h0), (1, .int (nI c9))]) hx hb d_Mo_giving_71 hl (k := 2) rfl (show nI ri + Int32.ofInt 1 = nI (ri + 1) from (nI_add ri 1).trans (congrArg nI (by omega))) (by decide) rfl (fun ls hl => ?_)
            refine lv_goto (tgt := 4) hx hb d_Mo_giving_74 (by decide) ?_
            exact ih (ri + 1) A1 A2 w (some ri) (by omega) (by omega) (gvO_first hB (sg_lt hc10)) e1 e2 _ _ (S.sub [4, 0, 5, 6, 1, 2, 3] (by decide) rfl) ls (lv_sub hl [0, 1, 3, 4] rfl)
          | some rb =>
            have hl : lv_has ls 5 [(3, .int (nI ri)), (2, .int (nI rb)), (0, .ref h0), (1, .int (nI c9))] := hl
            have q1 := hB.1
            have q2 := hrn rb (by omega)
            have q3 := hrn ri (by omega)
            refine lv_iload_n hx hb d_Mo_giving_27 rfl (lv_at hl 1 rfl) ?_
            refine z_if_ge (a := rb) (tgt := 35) hx hb d_Mo_giving_28 (by decide) (by omega) ?_
            refine lv_aload_n hx hb d_Mo_giving_35 rfl (lv_at hl 2 rfl) ?_
            refine lv_iload_n hx hb d_Mo_giving_36 rfl (lv_at hl 0 rfl) ?_
            refine lv_iload_n hx hb d_Mo_giving_37 rfl (lv_at hl 1 rfl) ?_
            refine lv_iload_n hx hb d_Mo_giving_38 rfl (lv_at hl 3 rfl) ?_
            refine r_backi (wi := [(h0, .inr (8, moL ma (va_up (va_up (va_up iv 24 (nI rows)) 19 (w 0)) 20 (w 1)) co)), ((ma 21), .inl (k 0, 319840, .inl (fun i => nI (dg i)))), ((ma 22), .inl (k 0, 3998, .inl (fun i => nI (sz i)))), ((ma 24), .inl (k 0, 170, .inl (fun i => nI (A1 i)))), ((ma 25), .inl (k 0, 170, .inl (fun i => nI (A2 i))))]) (wr := [((ma 28), .inl (k 0, 90, .inl (fun i => nI (rn i)))), ((ma 23), .inl (k 2, 3998, .inl (fun i => nI (bl i))))]) S hA [4, 0, 5, 1, 2] [3, 6] rfl rfl (by decide) (by decide) (va_runV (As := [.int (nI ri), .int (nI rb), .int (nI c9)]) (rest := []) ⟨hx, hb, C.2.2.1, C.2.2.2.1, C.2.2.2.2.1⟩ (g_Mo_shareOf l G k h0 _ ri rb c9 ma (va_up (va_up (va_up iv 24 (nI rows)) 19 (w 0)) 20 (w 1)) co dg sz bl A1 A2 T hT (by omega) (by omega) (by omega) e1 e2) (k_virt (n := 3) C wc_Mo_shareOf rfl rfl wz_Mo wm_Mo_367 wn_Mo_shareOf ws_Mo_shareOf (by decide +kernel) ⟨(Nat.le_of_ble_eq_true rfl), (Nat.le_of_ble_eq_true rfl)⟩) (pr_nowV K S [4, 0, 5, 1, 2] (by decide) rfl 4 rfl rfl) rfl rfl hl.1 rfl (lv_room (Nat.le_of_ble_eq_true rfl)) d_Mo_giving_39 ⟨(Nat.le_of_ble_eq_true rfl), (Nat.le_of_ble_eq_true rfl)⟩) (fun r12 su H locs hw11 S => ?_)
            have S : Sw G A s.heap _ _ [((ma 28), .inl (k 0, 90, .inl (fun i => nI (rn i)))), ((ma 23), .inl (k 2, 3998, .inl (fun i => nI (bl i)))), (h0, .inr (8, moL ma (va_up (va_up (va_up iv 24 (nI rows)) 19 (su.2 0)) 20 (su.2 1)) co)), ((ma 21), .inl (k 0, 319840, .inl (fun i => nI (dg i)))), ((ma 22), .inl (k 0, 3998, .inl (fun i => nI (sz i)))), ((ma 24), .inl (k 0, 170, .inl (fun i => nI (su.1 0 i)))), ((ma 25), .inl (k 0, 170, .inl (fun i => nI (su.1 1 i))))] := S
            obtain ⟨hw110, hsu⟩ := hw11
            obtain rfl : r12 = cpZ (T (42 * ri + 41)) (T (42 * rb + c9)) (T (42 * rb + 41)) (T (42 * ri + c9)) := hw110
            refine lv_istore (lv' := [(4, .int (cpZ (T (42 * ri + 41)) (T (42 * rb + c9)) (T (42 * rb + 41)) (T (42 * ri + c9)))), (3, .int (nI ri)), (2, .int (nI rb)), (0, .ref h0), (1, .int (nI c9))]) hx hb d_Mo_giving_42 hl (by decide) rfl (fun ls hl => ?_)
            refine lv_iload hx hb d_Mo_giving_44 (lv_at hl 0 rfl) ?_
            refine lv_if_lt (tgt := 69) hx hb d_Mo_giving_46 (by decide) (fun hc13 => ?_) (fun hc13 => ?_)
            · refine lv_iload_n hx hb d_Mo_giving_69 rfl (lv_at hl 1 rfl) ?_
              refine lv_istore_n (lv' := [(2, .int (nI ri)), (4, .int (cpZ (T (42 * ri + 41)) (T (42 * rb + c9)) (T (42 * rb + 41)) (T (42 * ri + c9)))), (3, .int (nI ri)), (0, .ref h0), (1, .int (nI c9))]) hx hb d_Mo_giving_70 rfl hl (by decide) rfl (fun ls hl => ?_)
              refine lv_iinc (v := nI (ri + 1)) (lv' := [(3, .int (nI (ri + 1))), (2, .int (nI ri)), (4, .int (cpZ (T (42 * ri + 41)) (T (42 * rb + c9)) (T (42 * rb + 41)) (T (42 * ri + c9)))), (0, .ref h0), (1, .int (nI c9))]) hx hb d_Mo_giving_71 hl (k := 2) rfl (show nI ri + Int32.ofInt 1 = nI (ri + 1) from (nI_add ri 1).trans (congrArg nI (by omega))) (by decide) rfl (fun ls hl => ?_)
              refine lv_goto (tgt := 4) hx hb d_Mo_giving_74 (by decide) ?_
              exact ih (ri + 1) (su.1 0) (su.1 1) (fz (su.2 0) (su.2 1) 0 0 0) (some ri) (by omega) (by omega) (gvO_new hB (sg_lt hc10) (Or.inl (cp_lt hc13 (hpos ri (by omega)) hB.2.1 (hpos rb (by omega)) (sg_lt hc10)))) hsu.1 hsu.2 _ _ (S.sub [2, 3, 4, 1, 5, 6, 0] (by decide) rfl) ls (lv_sub hl [0, 1, 3, 4] rfl)
            · refine lv_iload hx hb d_Mo_giving_49 (lv_at hl 0 rfl) ?_
              refine lv_if_ne (tgt := 71) hx hb d_Mo_giving_51 (by decide) (fun hc14 => ?_) (fun hc14 => ?_)
              · refine lv_iinc (v := nI (ri + 1)) (lv' := [(3, .int (nI (ri + 1))), (4, .int (cpZ (T (42 * ri + 41)) (T (42 * rb + c9)) (T (42 * rb + 41)) (T (42 * ri + c9)))), (2, .int (nI rb)), (0, .ref h0), (1, .int (nI c9))]) hx hb d_Mo_giving_71 hl (k := 1) rfl (show nI ri + Int32.ofInt 1 = nI (ri + 1) from (nI_add ri 1).trans (congrArg nI (by omega))) (by decide) rfl (fun ls hl => ?_)
                refine lv_goto (tgt := 4) hx hb d_Mo_giving_74 (by decide) ?_
                exact ih (ri + 1) (su.1 0) (su.1 1) (fz (su.2 0) (su.2 1) 0 0 0) (some rb) (by omega) (by omega) (gvO_old hB (Or.inl (cp_gt hc13 hc14 (hpos ri (by omega)) hB.2.1 (hpos rb (by omega)) (sg_lt hc10)))) hsu.1 hsu.2 _ _ (S.sub [2, 3, 4, 1, 5, 6, 0] (by decide) rfl) ls (lv_sub hl [0, 2, 3, 4] rfl)
              · refine lv_aload_n hx hb d_Mo_giving_54 rfl (lv_at hl 3 rfl) ?_
                refine r_get C K S 2 rfl rfl clOk_Mo 55 (by decide) wf_Mo_105 (v := .ref (ma 28)) rfl d_Mo_giving_55 ?_
                refine lv_iload_n hx hb d_Mo_giving_58 rfl (lv_at hl 1 rfl) ?_
                refine r_iald C K S 0 rfl (i := nI ri) (show vp_in (nI ri) _ from vp_in_nI (n := ri) (by omega) (by decide)) (v := nI (rn ri)) (by rw [nI_clamp (by omega)]) d_Mo_giving_59 ?_
                refine lv_aload_n hx hb d_Mo_giving_60 rfl (lv_at hl 3 rfl) ?_
                refine r_get C K S 2 rfl rfl clOk_Mo 55 (by decide) wf_Mo_105 (v := .ref (ma 28)) rfl d_Mo_giving_61 ?_
                refine lv_iload_n hx hb d_Mo_giving_64 rfl (lv_at hl 2 rfl) ?_
                refine r_iald C K S 0 rfl (i := nI rb) (show vp_in (nI rb) _ from vp_in_nI (n := rb) (by omega) (by decide)) (v := nI (rn rb)) (by rw [nI_clamp (by omega)]) d_Mo_giving_65 ?_
                refine z_icmp_ge (a := (rn ri)) (b := (rn rb)) (tgt := 71) hx hb d_Mo_giving_66 (by decide) (by omega) (by omega) (fun hc15 => ?_) (fun hc15 => ?_)
                · refine lv_iinc (v := nI (ri + 1)) (lv' := [(3, .int (nI (ri + 1))), (4, .int (cpZ (T (42 * ri + 41)) (T (42 * rb + c9)) (T (42 * rb + 41)) (T (42 * ri + c9)))), (2, .int (nI rb)), (0, .ref h0), (1, .int (nI c9))]) hx hb d_Mo_giving_71 hl (k := 1) rfl (show nI ri + Int32.ofInt 1 = nI (ri + 1) from (nI_add ri 1).trans (congrArg nI (by omega))) (by decide) rfl (fun ls hl => ?_)
                  refine lv_goto (tgt := 4) hx hb d_Mo_giving_74 (by decide) ?_
                  exact ih (ri + 1) (su.1 0) (su.1 1) (fz (su.2 0) (su.2 1) 0 0 0) (some rb) (by omega) (by omega) (gvO_old hB (Or.inr ⟨(cp_eq hc14 (hpos ri (by omega)) hB.2.1 (hpos rb (by omega)) (sg_lt hc10)).symm, by omega⟩)) hsu.1 hsu.2 _ _ (S.sub [2, 3, 4, 1, 5, 6, 0] (by decide) rfl) ls (lv_sub hl [0, 2, 3, 4] rfl)
                · refine lv_iload_n hx hb d_Mo_giving_69 rfl (lv_at hl 1 rfl) ?_
                  refine lv_istore_n (lv' := [(2, .int (nI ri)), (4, .int (cpZ (T (42 * ri + 41)) (T (42 * rb + c9)) (T (42 * rb + 41)) (T (42 * ri + c9)))), (3, .int (nI ri)), (0, .ref h0), (1, .int (nI c9))]) hx hb d_Mo_giving_70 rfl hl (by decide) rfl (fun ls hl => ?_)
                  refine lv_iinc (v := nI (ri + 1)) (lv' := [(3, .int (nI (ri + 1))), (2, .int (nI ri)), (4, .int (cpZ (T (42 * ri + 41)) (T (42 * rb + c9)) (T (42 * rb + 41)) (T (42 * ri + c9)))), (0, .ref h0), (1, .int (nI c9))]) hx hb d_Mo_giving_71 hl (k := 2) rfl (show nI ri + Int32.ofInt 1 = nI (ri + 1) from (nI_add ri 1).trans (congrArg nI (by omega))) (by decide) rfl (fun ls hl => ?_)
                  refine lv_goto (tgt := 4) hx hb d_Mo_giving_74 (by decide) ?_
                  exact ih (ri + 1) (su.1 0) (su.1 1) (fz (su.2 0) (su.2 1) 0 0 0) (some ri) (by omega) (by omega) (gvO_new hB (sg_lt hc10) (Or.inr ⟨cp_eq hc14 (hpos ri (by omega)) hB.2.1 (hpos rb (by omega)) (sg_lt hc10), by omega⟩)) hsu.1 hsu.2 _ _ (S.sub [2, 3, 4, 1, 5, 6, 0] (by decide) rfl) ls (lv_sub hl [0, 1, 3, 4] rfl)
        · refine lv_goto (tgt := 71) hx hb d_Mo_giving_24 (by decide) ?_
          refine lv_iinc (v := nI (ri + 1)) (lv' := [(3, .int (nI (ri + 1))), (2, .int (bI b9)), (0, .ref h0), (1, .int (nI c9))]) hx hb d_Mo_giving_71 hl (k := 0) rfl (show nI ri + Int32.ofInt 1 = nI (ri + 1) from (nI_add ri 1).trans (congrArg nI (by omega))) (by decide) rfl (fun ls hl => ?_)
          refine lv_goto (tgt := 4) hx hb d_Mo_giving_74 (by decide) ?_
          exact ih (ri + 1) A1 A2 w b9 (by omega) (by omega) (gvO_no hB (sg_nlt hc10)) e1 e2 _ _ (S.sub [4, 0, 5, 6, 1, 2, 3] (by decide) rfl) ls (lv_sub hl [0, 1, 2, 3] rfl)
  exact lp _ 0 O T2 (fun j => iv (19 + j)) none (Nat.lt_succ_self _) (by omega) (gvO_0 _ _ _) dO d2 _ _ (S.sub [0, 1, 2, 3, 4, 5, 6] (by decide) rfl) ls (lv_sub hl [0, 1, 2, 3] rfl)
theorem d_Mo_coming_0 : decode c_Mo_coming 0 = .ok (.iconst (-1), 1) := by decide +kernel
theorem d_Mo_coming_1 : decode c_Mo_coming 1 = .ok (.istore_n 3, 1) := by decide +kernel
theorem d_Mo_coming_2 : decode c_Mo_coming 2 = .ok (.iconst 0, 1) := by decide +kernel
theorem d_Mo_coming_3 : decode c_Mo_coming 3 = .ok (.istore 4, 2) := by decide +kernel
theorem d_Mo_coming_5 : decode c_Mo_coming 5 = .ok (.iload 4, 2) := by decide +kernel
theorem d_Mo_coming_7 : decode c_Mo_coming 7 = .ok (.aload_n 0, 1) := by decide +kernel
theorem d_Mo_coming_8 : decode c_Mo_coming 8 = .ok (.getfield 192, 3) := by decide +kernel
theorem d_Mo_coming_11 : decode c_Mo_coming 11 = .ok (.if_icmp .gt 93, 3) := by decide +kernel
theorem d_Mo_coming_14 : decode c_Mo_coming 14 = .ok (.iload 4, 2) := by decide +kernel
theorem d_Mo_coming_16 : decode c_Mo_coming 16 = .ok (.aload_n 0, 1) := by decide +kernel
theorem d_Mo_coming_17 : decode c_Mo_coming 17 = .ok (.getfield 364, 3) := by decide +kernel
theorem d_Mo_coming_20 : decode c_Mo_coming 20 = .ok (.if_icmp .ne 6, 3) := by decide +kernel
theorem d_Mo_coming_23 : decode c_Mo_coming 23 = .ok (.goto 75, 3) := by decide +kernel
theorem d_Mo_coming_26 : decode c_Mo_coming 26 = .ok (.iconst 0, 1) := by decide +kernel
theorem d_Mo_coming_27 : decode c_Mo_coming 27 = .ok (.istore 5, 2) := by decide +kernel
theorem d_Mo_coming_29 : decode c_Mo_coming 29 = .ok (.iload 5, 2) := by decide +kernel
theorem d_Mo_coming_31 : decode c_Mo_coming 31 = .ok (.iload_n 2, 1) := by decide +kernel
theorem d_Mo_coming_32 : decode c_Mo_coming 32 = .ok (.iconst 1, 1) := by decide +kernel
theorem d_Mo_coming_33 : decode c_Mo_coming 33 = .ok (.isub, 1) := by decide +kernel
theorem d_Mo_coming_34 : decode c_Mo_coming 34 = .ok (.if_icmp .ge 25, 3) := by decide +kernel
theorem d_Mo_coming_37 : decode c_Mo_coming 37 = .ok (.aload_n 0, 1) := by decide +kernel
theorem d_Mo_coming_38 : decode c_Mo_coming 38 = .ok (.iload_n 1, 1) := by decide +kernel
theorem d_Mo_coming_39 : decode c_Mo_coming 39 = .ok (.iload 5, 2) := by decide +kernel
theorem d_Mo_coming_41 : decode c_Mo_coming 41 = .ok (.iadd, 1) := by decide +kernel
theorem d_Mo_coming_42 : decode c_Mo_coming 42 = .ok (.iload 4, 2) := by decide +kernel
theorem d_Mo_coming_44 : decode c_Mo_coming 44 = .ok (.invokestatic 328, 3) := by decide +kernel
theorem d_Mo_coming_47 : decode c_Mo_coming 47 = .ok (.invokevirtual 330, 3) := by decide +kernel
theorem d_Mo_coming_50 : decode c_Mo_coming 50 = .ok (.ifCond .ne 9, 3) := by decide +kernel
theorem d_Mo_coming_53 : decode c_Mo_coming 53 = .ok (.iinc 5 1, 3) := by decide +kernel
theorem d_Mo_coming_56 : decode c_Mo_coming 56 = .ok (.goto (-27), 3) := by decide +kernel
theorem d_Mo_coming_59 : decode c_Mo_coming 59 = .ok (.aload_n 0, 1) := by decide +kernel
theorem d_Mo_coming_60 : decode c_Mo_coming 60 = .ok (.iload_n 1, 1) := by decide +kernel
theorem d_Mo_coming_61 : decode c_Mo_coming 61 = .ok (.iload 5, 2) := by decide +kernel
theorem d_Mo_coming_63 : decode c_Mo_coming 63 = .ok (.iadd, 1) := by decide +kernel
theorem d_Mo_coming_64 : decode c_Mo_coming 64 = .ok (.iload 4, 2) := by decide +kernel
theorem d_Mo_coming_66 : decode c_Mo_coming 66 = .ok (.invokestatic 328, 3) := by decide +kernel
theorem d_Mo_coming_69 : decode c_Mo_coming 69 = .ok (.invokevirtual 330, 3) := by decide +kernel
theorem d_Mo_coming_72 : decode c_Mo_coming 72 = .ok (.ifCond .ge 26, 3) := by decide +kernel
theorem d_Mo_coming_75 : decode c_Mo_coming 75 = .ok (.iload_n 3, 1) := by decide +kernel
theorem d_Mo_coming_76 : decode c_Mo_coming 76 = .ok (.ifCond .lt 19, 3) := by decide +kernel
theorem d_Mo_coming_79 : decode c_Mo_coming 79 = .ok (.aload_n 0, 1) := by decide +kernel
theorem d_Mo_coming_80 : decode c_Mo_coming 80 = .ok (.getfield 108, 3) := by decide +kernel
theorem d_Mo_coming_83 : decode c_Mo_coming 83 = .ok (.iload 4, 2) := by decide +kernel
theorem d_Mo_coming_85 : decode c_Mo_coming 85 = .ok (.iaload, 1) := by decide +kernel
theorem d_Mo_coming_86 : decode c_Mo_coming 86 = .ok (.aload_n 0, 1) := by decide +kernel
theorem d_Mo_coming_87 : decode c_Mo_coming 87 = .ok (.getfield 108, 3) := by decide +kernel
theorem d_Mo_coming_90 : decode c_Mo_coming 90 = .ok (.iload_n 3, 1) := by decide +kernel
theorem d_Mo_coming_91 : decode c_Mo_coming 91 = .ok (.iaload, 1) := by decide +kernel
theorem d_Mo_coming_92 : decode c_Mo_coming 92 = .ok (.if_icmp .ge 6, 3) := by decide +kernel
theorem d_Mo_coming_95 : decode c_Mo_coming 95 = .ok (.iload 4, 2) := by decide +kernel
theorem d_Mo_coming_97 : decode c_Mo_coming 97 = .ok (.istore_n 3, 1) := by decide +kernel
theorem d_Mo_coming_98 : decode c_Mo_coming 98 = .ok (.iinc 4 1, 3) := by decide +kernel
theorem d_Mo_coming_101 : decode c_Mo_coming 101 = .ok (.goto (-96), 3) := by decide +kernel
theorem d_Mo_coming_104 : decode c_Mo_coming 104 = .ok (.iload_n 3, 1) := by decide +kernel
theorem d_Mo_coming_105 : decode c_Mo_coming 105 = .ok (.ireturn, 1) := by decide +kernel
set_option maxRecDepth 100000 in
set_option maxHeartbeats 16000000 in
/-- coming(fr, mn) -/
theorem g_Mo_coming (l : Launch) (G : va_G) (k : Nat → ClassId) (h0 : Nat) (s0 : Nat) (fr : Nat) (mn : Nat) (un : Nat) (gn : Nat) (gv : Int32) (ma : Nat → Nat) (iv : Nat → Int32) (co : Int64) (dg : Nat → Nat) (sz : Nat → Nat) (bl : Nat → Nat) (cn : Nat → Nat) (T : Nat → Int) (hT : tbO dg sz bl T) (hf : fr + mn ≤ 95) (hm : 1 ≤ mn) (hu : un ≤ 40) (hg : ∀ j, j ≤ 40 → (nI j = gv ↔ j = gn)) (hcn : ∀ j, j ≤ un → cn j < 1000) : CI l y_Mo_coming c_Mo_coming 6 .int { frames := 2, cells := 0, slots := 0, locals := 41 } [.ref h0, .int (nI fr), .int (nI mn)] G k s0 [(h0, .inr (8, moL ma (va_up (va_up iv 14 (nI un)) 28 gv) co)), ((ma 22), .inl (k 0, 3998, .inl (fun i => nI (sz i)))), ((ma 23), .inl (k 2, 3998, .inl (fun i => nI (bl i)))), ((ma 29), .inl (k 0, 41, .inl (fun i => nI (cn i))))] (fun (r : Int32) (u : Option Nat) => r = bI u ∧ cmO T cn fr mn gn (un + 1) u) (fun u => [(h0, .inr (8, moL ma (va_up (va_up iv 14 (nI un)) 28 gv) co)), ((ma 22), .inl (k 0, 3998, .inl (fun i => nI (sz i)))), ((ma 23), .inl (k 2, 3998, .inl (fun i => nI (bl i)))), ((ma 29), .inl (k 0, 41, .inl (fun i => nI (cn i))))]) 0 0 := by
  refine met_start (by decide) (Nat.le_of_ble_eq_true rfl) ?_
  intro p e s m below meth c C K hA hsz S ls hl
  generalize va_A [(h0, .inr (8, moL ma (va_up (va_up iv 14 (nI un)) 28 gv) co)), ((ma 22), .inl (k 0, 3998, .inl (fun i => nI (sz i)))), ((ma 23), .inl (k 2, 3998, .inl (fun i => nI (bl i)))), ((ma 29), .inl (k 0, 41, .inl (fun i => nI (cn i))))] s0 = A at hA S ⊢
  have hx := C.1
  have hb := C.2.1
  have hl : lv_has ls 6 [(0, .ref h0), (1, .int (nI fr)), (2, .int (nI mn))] := hl
  refine lv_iconst (v := (-1)) hx hb d_Mo_coming_0 (by decide) ?_
  refine lv_istore_n (lv' := [(3, .int (-1)), (0, .ref h0), (1, .int (nI fr)), (2, .int (nI mn))]) hx hb d_Mo_coming_1 rfl hl (by decide) rfl (fun ls hl => ?_)
  refine lv_iconst (v := 0) hx hb d_Mo_coming_2 (by decide) ?_
  refine lv_istore (lv' := [(4, .int 0), (3, .int (-1)), (0, .ref h0), (1, .int (nI fr)), (2, .int (nI mn))]) hx hb d_Mo_coming_3 hl (by decide) rfl (fun ls hl => ?_)
  have lp : ∀ d9, ∀ (j : Nat), ∀ (b9 : Option Nat), (un + 1 - j) < d9 → (j ≤ un + 1) → (cmO T cn fr mn gn j b9) → ∀ (H : Heap) (locs : List Loc), Sw G A s.heap H locs [(h0, .inr (8, moL ma (va_up (va_up iv 14 (nI un)) 28 gv) co)), ((ma 22), .inl (k 0, 3998, .inl (fun i => nI (sz i)))), ((ma 23), .inl (k 2, 3998, .inl (fun i => nI (bl i)))), ((ma 29), .inl (k 0, 41, .inl (fun i => nI (cn i))))] → ∀ ls : Array Slot, lv_has ls 6 [(4, .int (nI j)), (3, .int (bI b9)), (0, .ref h0), (1, .int (nI fr)), (2, .int (nI mn))] → W p l e { frames := 2, cells := 0, slots := 0, locals := 41 } s m [Value.ref h0, Value.int (nI fr), Value.int (nI mn)].toArray below meth c H locs 0 0 (MQ below (va_Qi (fun (r : Int32) (u : Option Nat) => r = bI u ∧ cmO T cn fr mn gn (un + 1) u) (Po G k A (fun u => [(h0, .inr (8, moL ma (va_up (va_up iv 14 (nI un)) 28 gv) co)), ((ma 22), .inl (k 0, 3998, .inl (fun i => nI (sz i)))), ((ma 23), .inl (k 2, 3998, .inl (fun i => nI (bl i)))), ((ma 29), .inl (k 0, 41, .inl (fun i => nI (cn i))))])) A) [Value.ref h0, Value.int (nI fr), Value.int (nI mn)].toArray s 0 0 A) (F0 m 5 ls []) := by
    intro d9
    induction d9 with
    | zero => intro j b9 hm; exact absurd hm (Nat.not_lt_zero _)
    | succ d9 ih =>
      intro j b9 hm hj hB H locs S ls hl
      refine lv_iload hx hb d_Mo_coming_5 (lv_at hl 0 rfl) ?_
      refine lv_aload_n hx hb d_Mo_coming_7 rfl (lv_at hl 2 rfl) ?_
      refine r_get C K S 0 rfl rfl clOk_Mo 29 (by decide) wf_Mo_192 (v := .int (nI un)) rfl d_Mo_coming_8 ?_
      refine z_icmp_gt (a := j) (b := un) (tgt := 104) hx hb d_Mo_coming_11 (by decide) (by omega) (by omega) (fun hc1 => ?_) (fun hc1 => ?_)
      · have hB : cmO T cn fr mn gn (un + 1) b9 := (show j = un + 1 by omega) ▸ hB
        refine lv_iload_n hx hb d_Mo_coming_104 rfl (lv_at hl 1 rfl) ?_
        exact r_iret C K rfl b9 ⟨rfl, hB⟩ (S.sub [0, 1, 2, 3] (by decide) rfl) d_Mo_coming_105 (Nat.le_of_ble_eq_true rfl) (Nat.le_of_ble_eq_true rfl)
      · refine lv_iload hx hb d_Mo_coming_14 (lv_at hl 0 rfl) ?_
        refine lv_aload_n hx hb d_Mo_coming_16 rfl (lv_at hl 2 rfl) ?_
        refine r_get C K S 0 rfl rfl clOk_Mo 59 (by decide) wf_Mo_364 (v := .int gv) rfl d_Mo_coming_17 ?_
        refine lv_icmp_ne (tgt := 26) hx hb d_Mo_coming_20 (by decide) (fun hc2 => ?_) (fun hc2 => ?_)
        · have hgj : j ≠ gn := fun q => hc2 ((hg j (by omega)).mpr q)
          refine lv_iconst (v := 0) hx hb d_Mo_coming_26 (by decide) ?_
          refine lv_istore (lv' := [(5, .int 0), (4, .int (nI j)), (3, .int (bI b9)), (0, .ref h0), (1, .int (nI fr)), (2, .int (nI mn))]) hx hb d_Mo_coming_27 hl (by decide) rfl (fun ls hl => ?_)
          have dec9 : ∀ (k9 : Nat), (k9 < mn) → (∀ p, p < k9 → T (42 * (fr + p) + j) = 0) → (k9 + 1 = mn ∨ T (42 * (fr + k9) + j) ≠ 0) → ∀ (H : Heap) (locs : List Loc), Sw G A s.heap H locs [(h0, .inr (8, moL ma (va_up (va_up iv 14 (nI un)) 28 gv) co)), ((ma 22), .inl (k 0, 3998, .inl (fun i => nI (sz i)))), ((ma 23), .inl (k 2, 3998, .inl (fun i => nI (bl i)))), ((ma 29), .inl (k 0, 41, .inl (fun i => nI (cn i))))] → ∀ ls : Array Slot, lv_has ls 6 [(5, .int (nI k9)), (4, .int (nI j)), (3, .int (bI b9)), (0, .ref h0), (1, .int (nI fr)), (2, .int (nI mn))] → W p l e { frames := 2, cells := 0, slots := 0, locals := 41 } s m [Value.ref h0, Value.int (nI fr), Value.int (nI mn)].toArray below meth c H locs 0 0 (MQ below (va_Qi (fun (r : Int32) (u : Option Nat) => r = bI u ∧ cmO T cn fr mn gn (un + 1) u) (Po G k A (fun u => [(h0, .inr (8, moL ma (va_up (va_up iv 14 (nI un)) 28 gv) co)), ((ma 22), .inl (k 0, 3998, .inl (fun i => nI (sz i)))), ((ma 23), .inl (k 2, 3998, .inl (fun i => nI (bl i)))), ((ma 29), .inl (k 0, 41, .inl (fun i => nI (cn i))))])) A) [Value.ref h0, Value.int (nI fr), Value.int (nI mn)].toArray s 0 0 A) (F0 m 59 ls []) := by
            intro k9 hk1 hz hk2 H locs S ls hl
            refine lv_aload_n hx hb d_Mo_coming_59 rfl (lv_at hl 3 rfl) ?_
            refine lv_iload_n hx hb d_Mo_coming_60 rfl (lv_at hl 4 rfl) ?_
            refine lv_iload hx hb d_Mo_coming_61 (lv_at hl 0 rfl) ?_
            refine z_iadd (x := nI fr) (y := nI k9) (v := nI (fr + k9)) hx hb d_Mo_coming_63 (nI_add fr k9) ?_
            refine lv_iload hx hb d_Mo_coming_64 (lv_at hl 1 rfl) ?_
            refine r_backi (wi := []) (wr := [(h0, .inr (8, moL ma (va_up (va_up iv 14 (nI un)) 28 gv) co)), ((ma 22), .inl (k 0, 3998, .inl (fun i => nI (sz i)))), ((ma 23), .inl (k 2, 3998, .inl (fun i => nI (bl i)))), ((ma 29), .inl (k 0, 41, .inl (fun i => nI (cn i))))]) S hA [] [0, 1, 2, 3] rfl rfl (by decide) (by decide) (va_runS (As := [.int (nI (fr + k9)), .int (nI j)]) (rest := [.ref h0]) ⟨hx, hb, C.2.2.1, C.2.2.2.1, C.2.2.2.2.1⟩ (g_Mo_at l G k _ (fr + k9) j) (k_stat (n := 2) C wc_Mo_at rfl rfl wz_Mo wm_Mo_328 wt_Mo_at (by decide +kernel) ⟨(Nat.le_of_ble_eq_true rfl), (Nat.le_of_ble_eq_true rfl)⟩) (pr_now K S [] (by decide) rfl) rfl rfl hl.1 rfl (lv_room (Nat.le_of_ble_eq_true rfl)) d_Mo_coming_66 ⟨(Nat.le_of_ble_eq_true rfl), (Nat.le_of_ble_eq_true rfl)⟩) (fun r5 u3 H locs hw4 S => ?_)
            have S : Sw G A s.heap _ _ [(h0, .inr (8, moL ma (va_up (va_up iv 14 (nI un)) 28 gv) co)), ((ma 22), .inl (k 0, 3998, .inl (fun i => nI (sz i)))), ((ma 23), .inl (k 2, 3998, .inl (fun i => nI (bl i)))), ((ma 29), .inl (k 0, 41, .inl (fun i => nI (cn i))))] := S
            obtain rfl : r5 = nI (42 * (fr + k9) + j) := hw4
            refine r_backi (wi := [(h0, .inr (8, moL ma (va_up (va_up iv 14 (nI un)) 28 gv) co)), ((ma 22), .inl (k 0, 3998, .inl (fun i => nI (sz i)))), ((ma 23), .inl (k 2, 3998, .inl (fun i => nI (bl i))))]) (wr := [((ma 29), .inl (k 0, 41, .inl (fun i => nI (cn i))))]) S hA [0, 1, 2] [3] rfl rfl (by decide) (by decide) (va_runV (As := [.int (nI (42 * (fr + k9) + j))]) (rest := []) ⟨hx, hb, C.2.2.1, C.2.2.2.1, C.2.2.2.2.1⟩ (g_Mo_signOf l G k h0 _ ma (va_up (va_up iv 14 (nI un)) 28 gv) co sz bl (42 * (fr + k9) + j) (by omega) (hT.2 _ (by omega)).1 (hT.2 _ (by omega)).2.1) (k_virt (n := 1) C wc_Mo_signOf rfl rfl wz_Mo wm_Mo_330 wn_Mo_signOf ws_Mo_signOf (by decide +kernel) ⟨(Nat.le_of_ble_eq_true rfl), (Nat.le_of_ble_eq_true rfl)⟩) (pr_nowV K S [0, 1, 2] (by decide) rfl 0 rfl rfl) rfl rfl hl.1 rfl (lv_room (Nat.le_of_ble_eq_true rfl)) d_Mo_coming_69 ⟨(Nat.le_of_ble_eq_true rfl), (Nat.le_of_ble_eq_true rfl)⟩) (fun r9 u7 H locs hw8 S => ?_)
            have S : Sw G A s.heap _ _ [((ma 29), .inl (k 0, 41, .inl (fun i => nI (cn i)))), (h0, .inr (8, moL ma (va_up (va_up iv 14 (nI un)) 28 gv) co)), ((ma 22), .inl (k 0, 3998, .inl (fun i => nI (sz i)))), ((ma 23), .inl (k 2, 3998, .inl (fun i => nI (bl i))))] := S
            obtain rfl : r9 = sgN (sz (42 * (fr + k9) + j)) (bl (42 * (fr + k9) + j)) := hw8
            rw [sgN_val (hT.2 (42 * (fr + k9) + j) (by omega))]
            refine lv_if_ge (tgt := 98) hx hb d_Mo_coming_72 (by decide) (fun hc11 => ?_) (fun hc11 => ?_)
            · refine lv_iinc (v := nI (j + 1)) (lv' := [(4, .int (nI (j + 1))), (5, .int (nI k9)), (3, .int (bI b9)), (0, .ref h0), (1, .int (nI fr)), (2, .int (nI mn))]) hx hb d_Mo_coming_98 hl (k := 1) rfl (show nI j + Int32.ofInt 1 = nI (j + 1) from (nI_add j 1).trans (congrArg nI (by omega))) (by decide) rfl (fun ls hl => ?_)
              refine lv_goto (tgt := 5) hx hb d_Mo_coming_101 (by decide) ?_
              exact ih (j + 1) b9 (by omega) (by omega) (cmO_no hB (Or.inr (fun q => sg_nlt (fun q => Int32.not_lt.mpr hc11 q) ((sxN_at (f := fun q => T (42 * (fr + q) + j)) hk1 hz hk2).mp q)))) _ _ (S.sub [1, 2, 3, 0] (by decide) rfl) ls (lv_sub hl [0, 2, 3, 4, 5] rfl)
            · cases b9 with
              | none =>
                have hl : lv_has ls 6 [(5, .int (nI k9)), (4, .int (nI j)), (3, .int (-1)), (0, .ref h0), (1, .int (nI fr)), (2, .int (nI mn))] := hl
                refine lv_iload_n hx hb d_Mo_coming_75 rfl (lv_at hl 2 rfl) ?_
                refine lv_if_lt (tgt := 95) hx hb d_Mo_coming_76 (by decide) (fun _ => ?_) (fun hq => absurd (by decide) hq)
                refine lv_iload hx hb d_Mo_coming_95 (lv_at hl 1 rfl) ?_
                refine lv_istore_n (lv' := [(3, .int (nI j)), (5, .int (nI k9)), (4, .int (nI j)), (0, .ref h0), (1, .int (nI fr)), (2, .int (nI mn))]) hx hb d_Mo_coming_97 rfl hl (by decide) rfl (fun ls hl => ?_)
                refine lv_iinc (v := nI (j + 1)) (lv' := [(4, .int (nI (j + 1))), (3, .int (nI j)), (5, .int (nI k9)), (0, .ref h0), (1, .int (nI fr)), (2, .int (nI mn))]) hx hb d_Mo_coming_98 hl (k := 2) rfl (show nI j + Int32.ofInt 1 = nI (j + 1) from (nI_add j 1).trans (congrArg nI (by omega))) (by decide) rfl (fun ls hl => ?_)
                refine lv_goto (tgt := 5) hx hb d_Mo_coming_101 (by decide) ?_
                exact ih (j + 1) (some j) (by omega) (by omega) (cmO_first hB hgj ((sxN_at (f := fun q => T (42 * (fr + q) + j)) hk1 hz hk2).mpr (sg_lt (Int32.not_le.mp hc11)))) _ _ (S.sub [1, 2, 3, 0] (by decide) rfl) ls (lv_sub hl [0, 1, 3, 4, 5] rfl)
              | some sb =>
                have hl : lv_has ls 6 [(5, .int (nI k9)), (4, .int (nI j)), (3, .int (nI sb)), (0, .ref h0), (1, .int (nI fr)), (2, .int (nI mn))] := hl
                have q1 := hB.1
                have q2 := hcn sb (by omega)
                have q3 := hcn j (by omega)
                refine lv_iload_n hx hb d_Mo_coming_75 rfl (lv_at hl 2 rfl) ?_
                refine z_if_lt (a := sb) (tgt := 95) hx hb d_Mo_coming_76 (by decide) (by omega) ?_
                refine lv_aload_n hx hb d_Mo_coming_79 rfl (lv_at hl 3 rfl) ?_
                refine r_get C K S 1 rfl rfl clOk_Mo 56 (by decide) wf_Mo_108 (v := .ref (ma 29)) rfl d_Mo_coming_80 ?_
                refine lv_iload hx hb d_Mo_coming_83 (lv_at hl 1 rfl) ?_
                refine r_iald C K S 0 rfl (i := nI j) (show vp_in (nI j) _ from vp_in_nI (n := j) (by omega) (by decide)) (v := nI (cn j)) (by rw [nI_clamp (by omega)]) d_Mo_coming_85 ?_
                refine lv_aload_n hx hb d_Mo_coming_86 rfl (lv_at hl 3 rfl) ?_
                refine r_get C K S 1 rfl rfl clOk_Mo 56 (by decide) wf_Mo_108 (v := .ref (ma 29)) rfl d_Mo_coming_87 ?_
                refine lv_iload_n hx hb d_Mo_coming_90 rfl (lv_at hl 2 rfl) ?_
                refine r_iald C K S 0 rfl (i := nI sb) (show vp_in (nI sb) _ from vp_in_nI (n := sb) (by omega) (by decide)) (v := nI (cn sb)) (by rw [nI_clamp (by omega)]) d_Mo_coming_91 ?_
                refine z_icmp_ge (a := (cn j)) (b := (cn sb)) (tgt := 98) hx hb d_Mo_coming_92 (by decide) (by omega) (by omega) (fun hc12 => ?_) (fun hc12 => ?_)
                · refine lv_iinc (v := nI (j + 1)) (lv' := [(4, .int (nI (j + 1))), (5, .int (nI k9)), (3, .int (nI sb)), (0, .ref h0), (1, .int (nI fr)), (2, .int (nI mn))]) hx hb d_Mo_coming_98 hl (k := 1) rfl (show nI j + Int32.ofInt 1 = nI (j + 1) from (nI_add j 1).trans (congrArg nI (by omega))) (by decide) rfl (fun ls hl => ?_)
                  refine lv_goto (tgt := 5) hx hb d_Mo_coming_101 (by decide) ?_
                  exact ih (j + 1) (some sb) (by omega) (by omega) (cmO_old hB (by omega)) _ _ (S.sub [1, 2, 3, 0] (by decide) rfl) ls (lv_sub hl [0, 2, 3, 4, 5] rfl)
                · refine lv_iload hx hb d_Mo_coming_95 (lv_at hl 1 rfl) ?_
                  refine lv_istore_n (lv' := [(3, .int (nI j)), (5, .int (nI k9)), (4, .int (nI j)), (0, .ref h0), (1, .int (nI fr)), (2, .int (nI mn))]) hx hb d_Mo_coming_97 rfl hl (by decide) rfl (fun ls hl => ?_)
                  refine lv_iinc (v := nI (j + 1)) (lv' := [(4, .int (nI (j + 1))), (3, .int (nI j)), (5, .int (nI k9)), (0, .ref h0), (1, .int (nI fr)), (2, .int (nI mn))]) hx hb d_Mo_coming_98 hl (k := 2) rfl (show nI j + Int32.ofInt 1 = nI (j + 1) from (nI_add j 1).trans (congrArg nI (by omega))) (by decide) rfl (fun ls hl => ?_)
                  refine lv_goto (tgt := 5) hx hb d_Mo_coming_101 (by decide) ?_
                  exact ih (j + 1) (some j) (by omega) (by omega) (cmO_new hB hgj ((sxN_at (f := fun q => T (42 * (fr + q) + j)) hk1 hz hk2).mpr (sg_lt (Int32.not_le.mp hc11))) (by omega)) _ _ (S.sub [1, 2, 3, 0] (by decide) rfl) ls (lv_sub hl [0, 1, 3, 4, 5] rfl)
          have lk : ∀ d9, ∀ (k9 : Nat), (mn - k9) < d9 → (k9 < mn) → (∀ p, p < k9 → T (42 * (fr + p) + j) = 0) → ∀ (H : Heap) (locs : List Loc), Sw G A s.heap H locs [(h0, .inr (8, moL ma (va_up (va_up iv 14 (nI un)) 28 gv) co)), ((ma 22), .inl (k 0, 3998, .inl (fun i => nI (sz i)))), ((ma 23), .inl (k 2, 3998, .inl (fun i => nI (bl i)))), ((ma 29), .inl (k 0, 41, .inl (fun i => nI (cn i))))] → ∀ ls : Array Slot, lv_has ls 6 [(5, .int (nI k9)), (4, .int (nI j)), (3, .int (bI b9)), (0, .ref h0), (1, .int (nI fr)), (2, .int (nI mn))] → W p l e { frames := 2, cells := 0, slots := 0, locals := 41 } s m [Value.ref h0, Value.int (nI fr), Value.int (nI mn)].toArray below meth c H locs 0 0 (MQ below (va_Qi (fun (r : Int32) (u : Option Nat) => r = bI u ∧ cmO T cn fr mn gn (un + 1) u) (Po G k A (fun u => [(h0, .inr (8, moL ma (va_up (va_up iv 14 (nI un)) 28 gv) co)), ((ma 22), .inl (k 0, 3998, .inl (fun i => nI (sz i)))), ((ma 23), .inl (k 2, 3998, .inl (fun i => nI (bl i)))), ((ma 29), .inl (k 0, 41, .inl (fun i => nI (cn i))))])) A) [Value.ref h0, Value.int (nI fr), Value.int (nI mn)].toArray s 0 0 A) (F0 m 29 ls []) := by
            intro d9
            induction d9 with
            | zero => intro k9 hm; exact absurd hm (Nat.not_lt_zero _)
            | succ d9 ih =>
              intro k9 hm hk1 hz H locs S ls hl
              refine lv_iload hx hb d_Mo_coming_29 (lv_at hl 0 rfl) ?_
              refine lv_iload_n hx hb d_Mo_coming_31 rfl (lv_at hl 5 rfl) ?_
              refine lv_iconst (v := 1) hx hb d_Mo_coming_32 (by decide) ?_
              refine z_isub (x := nI mn) (y := 1) (v := nI (mn - 1)) hx hb d_Mo_coming_33 (pk_sub (a := mn) (b := 1) (by omega)) ?_
              refine z_icmp_ge (a := k9) (b := (mn - 1)) (tgt := 59) hx hb d_Mo_coming_34 (by decide) (by omega) (by omega) (fun hc13 => ?_) (fun hc13 => ?_)
              · exact dec9 k9 hk1 hz (Or.inl (by omega)) _ _ (S.sub [0, 1, 2, 3] (by decide) rfl) ls (lv_sub hl [0, 1, 2, 3, 4, 5] rfl)
              · refine lv_aload_n hx hb d_Mo_coming_37 rfl (lv_at hl 3 rfl) ?_
                refine lv_iload_n hx hb d_Mo_coming_38 rfl (lv_at hl 4 rfl) ?_
                refine lv_iload hx hb d_Mo_coming_39 (lv_at hl 0 rfl) ?_
                refine z_iadd (x := nI fr) (y := nI k9) (v := nI (fr + k9)) hx hb d_Mo_coming_41 (nI_add fr k9) ?_
                refine lv_iload hx hb d_Mo_coming_42 (lv_at hl 1 rfl) ?_
                refine r_backi (wi := []) (wr := [(h0, .inr (8, moL ma (va_up (va_up iv 14 (nI un)) 28 gv) co)), ((ma 22), .inl (k 0, 3998, .inl (fun i => nI (sz i)))), ((ma 23), .inl (k 2, 3998, .inl (fun i => nI (bl i)))), ((ma 29), .inl (k 0, 41, .inl (fun i => nI (cn i))))]) S hA [] [0, 1, 2, 3] rfl rfl (by decide) (by decide) (va_runS (As := [.int (nI (fr + k9)), .int (nI j)]) (rest := [.ref h0]) ⟨hx, hb, C.2.2.1, C.2.2.2.1, C.2.2.2.2.1⟩ (g_Mo_at l G k _ (fr + k9) j) (k_stat (n := 2) C wc_Mo_at rfl rfl wz_Mo wm_Mo_328 wt_Mo_at (by decide +kernel) ⟨(Nat.le_of_ble_eq_true rfl), (Nat.le_of_ble_eq_true rfl)⟩) (pr_now K S [] (by decide) rfl) rfl rfl hl.1 rfl (lv_room (Nat.le_of_ble_eq_true rfl)) d_Mo_coming_44 ⟨(Nat.le_of_ble_eq_true rfl), (Nat.le_of_ble_eq_true rfl)⟩) (fun r16 u14 H locs hw15 S => ?_)
                have S : Sw G A s.heap _ _ [(h0, .inr (8, moL ma (va_up (va_up iv 14 (nI un)) 28 gv) co)), ((ma 22), .inl (k 0, 3998, .inl (fun i => nI (sz i)))), ((ma 23), .inl (k 2, 3998, .inl (fun i => nI (bl i)))), ((ma 29), .inl (k 0, 41, .inl (fun i => nI (cn i))))] := S
                obtain rfl : r16 = nI (42 * (fr + k9) + j) := hw15
                refine r_backi (wi := [(h0, .inr (8, moL ma (va_up (va_up iv 14 (nI un)) 28 gv) co)), ((ma 22), .inl (k 0, 3998, .inl (fun i => nI (sz i)))), ((ma 23), .inl (k 2, 3998, .inl (fun i => nI (bl i))))]) (wr := [((ma 29), .inl (k 0, 41, .inl (fun i => nI (cn i))))]) S hA [0, 1, 2] [3] rfl rfl (by decide) (by decide) (va_runV (As := [.int (nI (42 * (fr + k9) + j))]) (rest := []) ⟨hx, hb, C.2.2.1, C.2.2.2.1, C.2.2.2.2.1⟩ (g_Mo_signOf l G k h0 _ ma (va_up (va_up iv 14 (nI un)) 28 gv) co sz bl (42 * (fr + k9) + j) (by omega) (hT.2 _ (by omega)).1 (hT.2 _ (by omega)).2.1) (k_virt (n := 1) C wc_Mo_signOf rfl rfl wz_Mo wm_Mo_330 wn_Mo_signOf ws_Mo_signOf (by decide +kernel) ⟨(Nat.le_of_ble_eq_true rfl), (Nat.le_of_ble_eq_true rfl)⟩) (pr_nowV K S [0, 1, 2] (by decide) rfl 0 rfl rfl) rfl rfl hl.1 rfl (lv_room (Nat.le_of_ble_eq_true rfl)) d_Mo_coming_47 ⟨(Nat.le_of_ble_eq_true rfl), (Nat.le_of_ble_eq_true rfl)⟩) (fun r20 u18 H locs hw19 S => ?_)
                have S : Sw G A s.heap _ _ [((ma 29), .inl (k 0, 41, .inl (fun i => nI (cn i)))), (h0, .inr (8, moL ma (va_up (va_up iv 14 (nI un)) 28 gv) co)), ((ma 22), .inl (k 0, 3998, .inl (fun i => nI (sz i)))), ((ma 23), .inl (k 2, 3998, .inl (fun i => nI (bl i))))] := S
                obtain rfl : r20 = sgN (sz (42 * (fr + k9) + j)) (bl (42 * (fr + k9) + j)) := hw19
                rw [sgN_val (hT.2 (42 * (fr + k9) + j) (by omega))]
                refine lv_if_ne (tgt := 59) hx hb d_Mo_coming_50 (by decide) (fun hc22 => ?_) (fun hc22 => ?_)
                · exact dec9 k9 hk1 hz (Or.inr (sg_ne hc22)) _ _ (S.sub [1, 2, 3, 0] (by decide) rfl) ls (lv_sub hl [0, 1, 2, 3, 4, 5] rfl)
                · refine lv_iinc (v := nI (k9 + 1)) (lv' := [(5, .int (nI (k9 + 1))), (4, .int (nI j)), (3, .int (bI b9)), (0, .ref h0), (1, .int (nI fr)), (2, .int (nI mn))]) hx hb d_Mo_coming_53 hl (k := 0) rfl (show nI k9 + Int32.ofInt 1 = nI (k9 + 1) from (nI_add k9 1).trans (congrArg nI (by omega))) (by decide) rfl (fun ls hl => ?_)
                  refine lv_goto (tgt := 29) hx hb d_Mo_coming_56 (by decide) ?_
                  exact ih (k9 + 1) (by omega) (by omega) (fun p hp => (Nat.lt_or_eq_of_le (Nat.le_of_lt_succ hp)).elim (fun q => hz p q) (fun q => by rw [q]; exact sg_eq hc22)) _ _ (S.sub [1, 2, 3, 0] (by decide) rfl) ls (lv_sub hl [0, 1, 2, 3, 4, 5] rfl)
          exact lk _ 0 (Nat.lt_succ_self _) (by omega) (fun p hp => absurd hp (Nat.not_lt_zero _)) _ _ (S.sub [0, 1, 2, 3] (by decide) rfl) ls (lv_sub hl [0, 1, 2, 3, 4, 5] rfl)
        · refine lv_goto (tgt := 98) hx hb d_Mo_coming_23 (by decide) ?_
          refine lv_iinc (v := nI (j + 1)) (lv' := [(4, .int (nI (j + 1))), (3, .int (bI b9)), (0, .ref h0), (1, .int (nI fr)), (2, .int (nI mn))]) hx hb d_Mo_coming_98 hl (k := 0) rfl (show nI j + Int32.ofInt 1 = nI (j + 1) from (nI_add j 1).trans (congrArg nI (by omega))) (by decide) rfl (fun ls hl => ?_)
          refine lv_goto (tgt := 5) hx hb d_Mo_coming_101 (by decide) ?_
          exact ih (j + 1) b9 (by omega) (by omega) (cmO_no hB (Or.inl ((hg j (by omega)).mp hc2))) _ _ (S.sub [0, 1, 2, 3] (by decide) rfl) ls (lv_sub hl [0, 1, 2, 3, 4] rfl)
  exact lp _ 0 none (Nat.lt_succ_self _) (by omega) (cmO_0 _ _ _ _ _) _ _ (S.sub [0, 1, 2, 3] (by decide) rfl) ls (lv_sub hl [0, 1, 2, 3, 4] rfl)
