def zr (T : Nat → Nat) (t : Nat) : Nat → Nat := fun i => if i < t then 0 else T i
theorem zr_0 (T : Nat → Nat) : zr T 0 = T := by
  funext i
  unfold zr
  rw [if_neg (by omega)]
theorem zr_s (T : Nat → Nat) (t : Nat) : va_up (zr T t) t 0 = zr T (t + 1) := by
  funext i
  unfold va_up zr
  by_cases q : i = t
  · rw [if_pos q, if_pos (by omega)]
  · rw [if_neg q]
    by_cases q2 : i < t
    · rw [if_pos q2, if_pos (by omega)]
    · rw [if_neg q2, if_neg (by omega)]
theorem vl_0 {B : Nat} {g : Nat → Nat} : ∀ n, (∀ i, i < n → g i = 0) → vl B g n = 0
  | 0, _ => rfl
  | n + 1, h => by rw [vl_s, vl_0 n (fun i hi => h i (by omega)), h n (by omega), Nat.zero_mul]
theorem d_Mo_times_0 : decode c_Mo_times 0 = .ok (.aload_n 0, 1) := by decide +kernel
theorem d_Mo_times_1 : decode c_Mo_times 1 = .ok (.getfield 86, 3) := by decide +kernel
theorem d_Mo_times_4 : decode c_Mo_times 4 = .ok (.iload_n 1, 1) := by decide +kernel
theorem d_Mo_times_5 : decode c_Mo_times 5 = .ok (.iaload, 1) := by decide +kernel
theorem d_Mo_times_6 : decode c_Mo_times 6 = .ok (.istore 4, 2) := by decide +kernel
theorem d_Mo_times_8 : decode c_Mo_times 8 = .ok (.aload_n 0, 1) := by decide +kernel
theorem d_Mo_times_9 : decode c_Mo_times 9 = .ok (.getfield 86, 3) := by decide +kernel
theorem d_Mo_times_12 : decode c_Mo_times 12 = .ok (.iload_n 2, 1) := by decide +kernel
theorem d_Mo_times_13 : decode c_Mo_times 13 = .ok (.iaload, 1) := by decide +kernel
theorem d_Mo_times_14 : decode c_Mo_times 14 = .ok (.istore 5, 2) := by decide +kernel
theorem d_Mo_times_16 : decode c_Mo_times 16 = .ok (.iconst 0, 1) := by decide +kernel
theorem d_Mo_times_17 : decode c_Mo_times 17 = .ok (.istore 6, 2) := by decide +kernel
theorem d_Mo_times_19 : decode c_Mo_times 19 = .ok (.iload 6, 2) := by decide +kernel
theorem d_Mo_times_21 : decode c_Mo_times 21 = .ok (.iload 4, 2) := by decide +kernel
theorem d_Mo_times_23 : decode c_Mo_times 23 = .ok (.iload 5, 2) := by decide +kernel
theorem d_Mo_times_25 : decode c_Mo_times 25 = .ok (.iadd, 1) := by decide +kernel
theorem d_Mo_times_26 : decode c_Mo_times 26 = .ok (.if_icmp .ge 14, 3) := by decide +kernel
theorem d_Mo_times_29 : decode c_Mo_times 29 = .ok (.aload_n 3, 1) := by decide +kernel
theorem d_Mo_times_30 : decode c_Mo_times 30 = .ok (.iload 6, 2) := by decide +kernel
theorem d_Mo_times_32 : decode c_Mo_times 32 = .ok (.iconst 0, 1) := by decide +kernel
theorem d_Mo_times_33 : decode c_Mo_times 33 = .ok (.iastore, 1) := by decide +kernel
theorem d_Mo_times_34 : decode c_Mo_times 34 = .ok (.iinc 6 1, 3) := by decide +kernel
theorem d_Mo_times_37 : decode c_Mo_times 37 = .ok (.goto (-18), 3) := by decide +kernel
theorem d_Mo_times_40 : decode c_Mo_times 40 = .ok (.iconst 0, 1) := by decide +kernel
theorem d_Mo_times_41 : decode c_Mo_times 41 = .ok (.istore 6, 2) := by decide +kernel
theorem d_Mo_times_43 : decode c_Mo_times 43 = .ok (.iload 6, 2) := by decide +kernel
theorem d_Mo_times_45 : decode c_Mo_times 45 = .ok (.iload 4, 2) := by decide +kernel
theorem d_Mo_times_47 : decode c_Mo_times 47 = .ok (.if_icmp .ge 104, 3) := by decide +kernel
theorem d_Mo_times_50 : decode c_Mo_times 50 = .ok (.lconst 0, 1) := by decide +kernel
theorem d_Mo_times_51 : decode c_Mo_times 51 = .ok (.lstore 7, 2) := by decide +kernel
theorem d_Mo_times_53 : decode c_Mo_times 53 = .ok (.aload_n 0, 1) := by decide +kernel
theorem d_Mo_times_54 : decode c_Mo_times 54 = .ok (.getfield 83, 3) := by decide +kernel
theorem d_Mo_times_57 : decode c_Mo_times 57 = .ok (.iload_n 1, 1) := by decide +kernel
theorem d_Mo_times_58 : decode c_Mo_times 58 = .ok (.bipush 80, 2) := by decide +kernel
theorem d_Mo_times_60 : decode c_Mo_times 60 = .ok (.imul, 1) := by decide +kernel
theorem d_Mo_times_61 : decode c_Mo_times 61 = .ok (.iload 6, 2) := by decide +kernel
theorem d_Mo_times_63 : decode c_Mo_times 63 = .ok (.iadd, 1) := by decide +kernel
theorem d_Mo_times_64 : decode c_Mo_times 64 = .ok (.iaload, 1) := by decide +kernel
theorem d_Mo_times_65 : decode c_Mo_times 65 = .ok (.i2l, 1) := by decide +kernel
theorem d_Mo_times_66 : decode c_Mo_times 66 = .ok (.lstore 9, 2) := by decide +kernel
theorem d_Mo_times_68 : decode c_Mo_times 68 = .ok (.iconst 0, 1) := by decide +kernel
theorem d_Mo_times_69 : decode c_Mo_times 69 = .ok (.istore 11, 2) := by decide +kernel
theorem d_Mo_times_71 : decode c_Mo_times 71 = .ok (.iload 11, 2) := by decide +kernel
theorem d_Mo_times_73 : decode c_Mo_times 73 = .ok (.iload 5, 2) := by decide +kernel
theorem d_Mo_times_75 : decode c_Mo_times 75 = .ok (.if_icmp .ge 60, 3) := by decide +kernel
theorem d_Mo_times_78 : decode c_Mo_times 78 = .ok (.lload 9, 2) := by decide +kernel
theorem d_Mo_times_80 : decode c_Mo_times 80 = .ok (.aload_n 0, 1) := by decide +kernel
theorem d_Mo_times_81 : decode c_Mo_times 81 = .ok (.getfield 83, 3) := by decide +kernel
theorem d_Mo_times_84 : decode c_Mo_times 84 = .ok (.iload_n 2, 1) := by decide +kernel
theorem d_Mo_times_85 : decode c_Mo_times 85 = .ok (.bipush 80, 2) := by decide +kernel
theorem d_Mo_times_87 : decode c_Mo_times 87 = .ok (.imul, 1) := by decide +kernel
theorem d_Mo_times_88 : decode c_Mo_times 88 = .ok (.iload 11, 2) := by decide +kernel
theorem d_Mo_times_90 : decode c_Mo_times 90 = .ok (.iadd, 1) := by decide +kernel
theorem d_Mo_times_91 : decode c_Mo_times 91 = .ok (.iaload, 1) := by decide +kernel
theorem d_Mo_times_92 : decode c_Mo_times 92 = .ok (.i2l, 1) := by decide +kernel
theorem d_Mo_times_93 : decode c_Mo_times 93 = .ok (.lmul, 1) := by decide +kernel
theorem d_Mo_times_94 : decode c_Mo_times 94 = .ok (.aload_n 3, 1) := by decide +kernel
theorem d_Mo_times_95 : decode c_Mo_times 95 = .ok (.iload 6, 2) := by decide +kernel
theorem d_Mo_times_97 : decode c_Mo_times 97 = .ok (.iload 11, 2) := by decide +kernel
theorem d_Mo_times_99 : decode c_Mo_times 99 = .ok (.iadd, 1) := by decide +kernel
theorem d_Mo_times_100 : decode c_Mo_times 100 = .ok (.iaload, 1) := by decide +kernel
theorem d_Mo_times_101 : decode c_Mo_times 101 = .ok (.i2l, 1) := by decide +kernel
theorem d_Mo_times_102 : decode c_Mo_times 102 = .ok (.ladd, 1) := by decide +kernel
theorem d_Mo_times_103 : decode c_Mo_times 103 = .ok (.lload 7, 2) := by decide +kernel
theorem d_Mo_times_105 : decode c_Mo_times 105 = .ok (.ladd, 1) := by decide +kernel
theorem d_Mo_times_106 : decode c_Mo_times 106 = .ok (.lstore 12, 2) := by decide +kernel
theorem d_Mo_times_108 : decode c_Mo_times 108 = .ok (.aload_n 3, 1) := by decide +kernel
theorem d_Mo_times_109 : decode c_Mo_times 109 = .ok (.iload 6, 2) := by decide +kernel
theorem d_Mo_times_111 : decode c_Mo_times 111 = .ok (.iload 11, 2) := by decide +kernel
theorem d_Mo_times_113 : decode c_Mo_times 113 = .ok (.iadd, 1) := by decide +kernel
theorem d_Mo_times_114 : decode c_Mo_times 114 = .ok (.lload 12, 2) := by decide +kernel
theorem d_Mo_times_116 : decode c_Mo_times 116 = .ok (.ldc2_w 276, 3) := by decide +kernel
theorem d_Mo_times_119 : decode c_Mo_times 119 = .ok (.land, 1) := by decide +kernel
theorem d_Mo_times_120 : decode c_Mo_times 120 = .ok (.l2i, 1) := by decide +kernel
theorem d_Mo_times_121 : decode c_Mo_times 121 = .ok (.iastore, 1) := by decide +kernel
theorem d_Mo_times_122 : decode c_Mo_times 122 = .ok (.lload 12, 2) := by decide +kernel
theorem d_Mo_times_124 : decode c_Mo_times 124 = .ok (.bipush 16, 2) := by decide +kernel
theorem d_Mo_times_126 : decode c_Mo_times 126 = .ok (.lshr, 1) := by decide +kernel
theorem d_Mo_times_127 : decode c_Mo_times 127 = .ok (.lstore 7, 2) := by decide +kernel
theorem d_Mo_times_129 : decode c_Mo_times 129 = .ok (.iinc 11 1, 3) := by decide +kernel
theorem d_Mo_times_132 : decode c_Mo_times 132 = .ok (.goto (-61), 3) := by decide +kernel
theorem d_Mo_times_135 : decode c_Mo_times 135 = .ok (.aload_n 3, 1) := by decide +kernel
theorem d_Mo_times_136 : decode c_Mo_times 136 = .ok (.iload 6, 2) := by decide +kernel
theorem d_Mo_times_138 : decode c_Mo_times 138 = .ok (.iload 5, 2) := by decide +kernel
theorem d_Mo_times_140 : decode c_Mo_times 140 = .ok (.iadd, 1) := by decide +kernel
theorem d_Mo_times_141 : decode c_Mo_times 141 = .ok (.lload 7, 2) := by decide +kernel
theorem d_Mo_times_143 : decode c_Mo_times 143 = .ok (.l2i, 1) := by decide +kernel
theorem d_Mo_times_144 : decode c_Mo_times 144 = .ok (.iastore, 1) := by decide +kernel
theorem d_Mo_times_145 : decode c_Mo_times 145 = .ok (.iinc 6 1, 3) := by decide +kernel
theorem d_Mo_times_148 : decode c_Mo_times 148 = .ok (.goto (-105), 3) := by decide +kernel
theorem d_Mo_times_151 : decode c_Mo_times 151 = .ok (.aload_n 3, 1) := by decide +kernel
theorem d_Mo_times_152 : decode c_Mo_times 152 = .ok (.iload 4, 2) := by decide +kernel
theorem d_Mo_times_154 : decode c_Mo_times 154 = .ok (.iload 5, 2) := by decide +kernel
theorem d_Mo_times_156 : decode c_Mo_times 156 = .ok (.iadd, 1) := by decide +kernel
theorem d_Mo_times_157 : decode c_Mo_times 157 = .ok (.invokestatic 278, 3) := by decide +kernel
theorem d_Mo_times_160 : decode c_Mo_times 160 = .ok (.ireturn, 1) := by decide +kernel
set_option maxRecDepth 100000 in
set_option maxHeartbeats 8000000 in
/-- times(x, y, tt) -/
theorem g_Mo_times (l : Launch) (G : va_G) (k : Nat → ClassId) (h0 s0 tt x y : Nat) (ma : Nat → Nat) (iv : Nat → Int32) (co : Int64) (dg sz T : Nat → Nat) (hx9 : x < 3998) (hy9 : y < 3998) (hsx : sz x ≤ 80) (hsy : sz y ≤ 80) (hdg : ∀ i, i < 319840 → dg i < 65536) (hT : ∀ i, i < 170 → T i < 65536) : CI l y_Mo_times c_Mo_times 14 .int { frames := 1, cells := 0, slots := 0, locals := 40 } [.ref h0, .int (nI x), .int (nI y), .ref tt] G k s0 [(h0, .inr (8, moL ma iv co)), ((ma 21), .inl (k 0, 319840, .inl (fun i => nI (dg i)))), ((ma 22), .inl (k 0, 3998, .inl (fun i => nI (sz i)))), (tt, .inl (k 0, 170, .inl (fun i => nI (T i))))] (fun (r : Int32) (U : Nat → Nat) => r = nI (cutN (fun i => nI (U i)) (sz x + sz y)) ∧ vl 65536 U (sz x + sz y) = vl 65536 (fun i => dg (x * 80 + i)) (sz x) * vl 65536 (fun i => dg (y * 80 + i)) (sz y) ∧ (∀ i, i < 170 → U i < 65536) ∧ ∀ i, (sz x + sz y) ≤ i → U i = T i) (fun U => [(h0, .inr (8, moL ma iv co)), ((ma 21), .inl (k 0, 319840, .inl (fun i => nI (dg i)))), ((ma 22), .inl (k 0, 3998, .inl (fun i => nI (sz i)))), (tt, .inl (k 0, 170, .inl (fun i => nI (U i))))]) 0 0 := by
  refine met_start (by decide) (Nat.le_of_ble_eq_true rfl) ?_
  intro p e s m below meth c C K hA hsz S ls hl
  generalize va_A [(h0, .inr (8, moL ma iv co)), ((ma 21), .inl (k 0, 319840, .inl (fun i => nI (dg i)))), ((ma 22), .inl (k 0, 3998, .inl (fun i => nI (sz i)))), (tt, .inl (k 0, 170, .inl (fun i => nI (T i))))] s0 = A at hA S ⊢
  have hx := C.1
  have hb := C.2.1
  have hl : lv_has ls 14 [(0, .ref h0), (1, .int (nI x)), (2, .int (nI y)), (3, .ref tt)] := hl
  generalize hX : (fun i => dg (x * 80 + i)) = gx
  generalize hY : (fun i => dg (y * 80 + i)) = gy
  have ex : ∀ i, dg (x * 80 + i) = gx i := fun i => by rw [← hX]
  have ey : ∀ i, dg (y * 80 + i) = gy i := fun i => by rw [← hY]
  have dx : ∀ i, i < 80 → gx i < 65536 := fun i hi => by rw [← ex]; exact hdg _ (by omega)
  have dy : ∀ i, i < 80 → gy i < 65536 := fun i hi => by rw [← ey]; exact hdg _ (by omega)
  have loop2 : ∀ d i, i + d = sz x → ∀ U : Nat → Nat, (vl 65536 U (sz x + sz y) = vl 65536 gx i * vl 65536 gy (sz y) ∧ (∀ n, n < 170 → U n < 65536) ∧ (∀ n, i + sz y ≤ n → n < (sz x + sz y) → U n = 0) ∧ ∀ n, (sz x + sz y) ≤ n → U n = T n) → ∀ (H : Heap) (locs : List Loc), Sw G A s.heap H locs [(h0, .inr (8, moL ma iv co)), ((ma 21), .inl (k 0, 319840, .inl (fun i => nI (dg i)))), ((ma 22), .inl (k 0, 3998, .inl (fun i => nI (sz i)))), (tt, .inl (k 0, 170, .inl (fun i => nI (U i))))] → ∀ ls : Array Slot, lv_has ls 14 [(6, .int (nI i)), (5, .int (nI (sz y))), (4, .int (nI (sz x))), (0, .ref h0), (1, .int (nI x)), (2, .int (nI y)), (3, .ref tt)] → W p l e { frames := 1, cells := 0, slots := 0, locals := 40 } s m [Value.ref h0, Value.int (nI x), Value.int (nI y), Value.ref tt].toArray below meth c H locs 0 0 (MQ below (va_Qi (fun (r : Int32) (U : Nat → Nat) => r = nI (cutN (fun i => nI (U i)) (sz x + sz y)) ∧ vl 65536 U (sz x + sz y) = vl 65536 gx (sz x) * vl 65536 gy (sz y) ∧ (∀ i, i < 170 → U i < 65536) ∧ ∀ i, (sz x + sz y) ≤ i → U i = T i) (Po G k A (fun U => [(h0, .inr (8, moL ma iv co)), ((ma 21), .inl (k 0, 319840, .inl (fun i => nI (dg i)))), ((ma 22), .inl (k 0, 3998, .inl (fun i => nI (sz i)))), (tt, .inl (k 0, 170, .inl (fun i => nI (U i))))])) A) [Value.ref h0, Value.int (nI x), Value.int (nI y), Value.ref tt].toArray s 0 0 A) (F0 m 43 ls []) := by
    intro d
    induction d with
    | zero =>
      intro i hi U hI H locs S ls hl
      obtain rfl : i = sz x := by omega
      refine lv_iload hx hb d_Mo_times_43 (lv_at hl 0 rfl) ?_
      refine lv_iload hx hb d_Mo_times_45 (lv_at hl 2 rfl) ?_
      refine lv_icmp_ge (tgt := 151) hx hb d_Mo_times_47 (by decide) (fun _ => ?_) (fun hq => absurd (nI_le (Nat.le_refl _) (by omega)) hq)
      refine lv_aload_n hx hb d_Mo_times_151 rfl (lv_at hl 6 rfl) ?_
      refine lv_iload hx hb d_Mo_times_152 (lv_at hl 2 rfl) ?_
      refine lv_iload hx hb d_Mo_times_154 (lv_at hl 1 rfl) ?_
      refine lv_iadd hx hb d_Mo_times_156 ?_
      rw [nI_add]
      refine r_backi (wi := [(tt, .inl (k 0, 170, .inl (fun i => nI (U i))))]) (wr := [(h0, .inr (8, moL ma iv co)), ((ma 21), .inl (k 0, 319840, .inl (fun i => nI (dg i)))), ((ma 22), .inl (k 0, 3998, .inl (fun i => nI (sz i))))]) S hA [3] [0, 1, 2] rfl rfl (by decide) (by decide) (va_runS (As := [.ref tt, .int (nI (sz x + sz y))]) (rest := []) ⟨hx, hb, C.2.2.1, C.2.2.2.1, C.2.2.2.2.1⟩ (k_Mo_cut2 l G k tt _ 170 (sz x + sz y) (fun i => nI (U i)) (by omega) (by decide)) (k_stat (n := 2) C wc_Mo_cut2 rfl rfl wz_Mo wm_Mo_278 wt_Mo_cut2 (by decide +kernel) ⟨(Nat.le_of_ble_eq_true rfl), (Nat.le_of_ble_eq_true rfl)⟩) (pr_now K S [3] (by decide) rfl) rfl rfl hl.1 rfl (lv_room (Nat.le_of_ble_eq_true rfl)) d_Mo_times_157 ⟨(Nat.le_of_ble_eq_true rfl), (Nat.le_of_ble_eq_true rfl)⟩) (fun r3 u1 H locs hw2 S => ?_)
      have S : Sw G A s.heap _ _ [(h0, .inr (8, moL ma iv co)), ((ma 21), .inl (k 0, 319840, .inl (fun i => nI (dg i)))), ((ma 22), .inl (k 0, 3998, .inl (fun i => nI (sz i)))), (tt, .inl (k 0, 170, .inl (fun i => nI (U i))))] := S
      exact r_iret C K rfl U ⟨hw2, hI.1, hI.2.1, hI.2.2.2⟩ (S.sub [0, 1, 2, 3] (by decide) rfl) d_Mo_times_160 (Nat.le_of_ble_eq_true rfl) (Nat.le_of_ble_eq_true rfl)
    | succ d ih =>
      intro i hi U hI H locs S ls hl
      have di := dx i (by omega)
      have loop3 : ∀ f j, j + f = sz y → ∀ (U : Nat → Nat) (c9 : Nat), (vl 65536 U (sz x + sz y) + c9 * 65536 ^ (i + j) = vl 65536 gx i * vl 65536 gy (sz y) + gx i * vl 65536 gy j * 65536 ^ i ∧ c9 < 65536 ∧ (∀ n, n < 170 → U n < 65536) ∧ (∀ n, i + sz y ≤ n → n < (sz x + sz y) → U n = 0) ∧ ∀ n, (sz x + sz y) ≤ n → U n = T n) → ∀ (H : Heap) (locs : List Loc), Sw G A s.heap H locs [(h0, .inr (8, moL ma iv co)), ((ma 21), .inl (k 0, 319840, .inl (fun i => nI (dg i)))), ((ma 22), .inl (k 0, 3998, .inl (fun i => nI (sz i)))), (tt, .inl (k 0, 170, .inl (fun i => nI (U i))))] → ∀ ls : Array Slot, lv_has ls 14 [(11, .int (nI j)), (9, .long (lN (gx i))), (7, .long (lN c9)), (6, .int (nI i)), (5, .int (nI (sz y))), (4, .int (nI (sz x))), (0, .ref h0), (1, .int (nI x)), (2, .int (nI y)), (3, .ref tt)] → W p l e { frames := 1, cells := 0, slots := 0, locals := 40 } s m [Value.ref h0, Value.int (nI x), Value.int (nI y), Value.ref tt].toArray below meth c H locs 0 0 (MQ below (va_Qi (fun (r : Int32) (U : Nat → Nat) => r = nI (cutN (fun i => nI (U i)) (sz x + sz y)) ∧ vl 65536 U (sz x + sz y) = vl 65536 gx (sz x) * vl 65536 gy (sz y) ∧ (∀ i, i < 170 → U i < 65536) ∧ ∀ i, (sz x + sz y) ≤ i → U i = T i) (Po G k A (fun U => [(h0, .inr (8, moL ma iv co)), ((ma 21), .inl (k 0, 319840, .inl (fun i => nI (dg i)))), ((ma 22), .inl (k 0, 3998, .inl (fun i => nI (sz i)))), (tt, .inl (k 0, 170, .inl (fun i => nI (U i))))])) A) [Value.ref h0, Value.int (nI x), Value.int (nI y), Value.ref tt].toArray s 0 0 A) (F0 m 71 ls []) := by
        intro f
        induction f with
        | zero =>
          intro j hj U c9 hI H locs S ls hl
          obtain rfl : j = sz y := by omega
          refine lv_iload hx hb d_Mo_times_71 (lv_at hl 0 rfl) ?_
          refine lv_iload hx hb d_Mo_times_73 (lv_at hl 4 rfl) ?_
          refine lv_icmp_ge (tgt := 135) hx hb d_Mo_times_75 (by decide) (fun _ => ?_) (fun hq => absurd (nI_le (Nat.le_refl _) (by omega)) hq)
          refine lv_aload_n hx hb d_Mo_times_135 rfl (lv_at hl 9 rfl) ?_
          refine lv_iload hx hb d_Mo_times_136 (lv_at hl 3 rfl) ?_
          refine lv_iload hx hb d_Mo_times_138 (lv_at hl 4 rfl) ?_
          refine lv_iadd hx hb d_Mo_times_140 ?_
          rw [nI_add]
          refine lv_lload hx hb d_Mo_times_141 (lv_at hl 2 rfl) ?_
          refine lv_l2i (v := (nI c9)) hx hb d_Mo_times_143 (lN_i c9) ?_
          refine r_iast C K S 3 rfl (i := nI (i + sz y)) (x := (nI c9)) (vp_in_nI (by omega) (by decide)) (f' := fun n => nI (va_up U (i + sz y) c9 n)) (ws' := [(h0, .inr (8, moL ma iv co)), ((ma 21), .inl (k 0, 319840, .inl (fun i => nI (dg i)))), ((ma 22), .inl (k 0, 3998, .inl (fun i => nI (sz i)))), (tt, .inl (k 0, 170, .inl (fun n => nI (va_up U (i + sz y) c9 n))))]) (upd_nI U (by omega) c9) rfl d_Mo_times_144 (fun H locs S => ?_)
          refine lv_iinc (v := nI (i + 1)) (lv' := [(6, .int (nI (i + 1))), (11, .int (nI (sz y))), (9, .long (lN (gx i))), (7, .long (lN c9)), (5, .int (nI (sz y))), (4, .int (nI (sz x))), (0, .ref h0), (1, .int (nI x)), (2, .int (nI y)), (3, .ref tt)]) hx hb d_Mo_times_145 hl (k := 3) rfl (nI_1 i) (by decide) rfl (fun ls hl => ?_)
          refine lv_goto (tgt := 43) hx hb d_Mo_times_148 (by decide) ?_
          refine ih (i + 1) (by omega) (va_up U (i + sz y) c9) ⟨?_, ?_, ?_, ?_⟩ _ _ S ls (lv_sub hl [0, 4, 5, 6, 7, 8, 9] rfl)
          · have h1 := vl_up (B := 65536) (g := U) (j := i + sz y) (v := c9) (sz x + sz y) (by omega)
            have h2 := hI.2.2.2.1 (i + sz y) (by omega) (by omega)
            rw [h2, Nat.zero_mul, Nat.add_zero] at h1
            rw [h1, hI.1, vl_s, Nat.add_mul, Nat.mul_right_comm (gx i)]
          · intro n hn
            by_cases w : n = i + sz y
            · rw [w, va_up_self]; exact hI.2.1
            · rw [va_up_ne U c9 w]; exact hI.2.2.1 n hn
          · intro n h1 h2
            rw [va_up_ne U c9 (by omega)]
            exact hI.2.2.2.1 n (by omega) h2
          · intro n h1
            rw [va_up_ne U c9 (by omega)]
            exact hI.2.2.2.2 n h1
        | succ f ih3 =>
          intro j hj U c9 hI H locs S ls hl
          have dj := dy j (by omega)
          have du := hI.2.2.1 (i + j) (by omega)
          have dc := hI.2.1
          have hm : gx i * gy j ≤ 65535 * 65535 := Nat.mul_le_mul (by omega) (by omega)
          refine lv_iload hx hb d_Mo_times_71 (lv_at hl 0 rfl) ?_
          refine lv_iload hx hb d_Mo_times_73 (lv_at hl 4 rfl) ?_
          refine lv_icmp_ge (tgt := 135) hx hb d_Mo_times_75 (by decide) (fun hq => absurd hq (nI_ge (by omega) (by omega))) (fun _ => ?_)
          refine lv_lload hx hb d_Mo_times_78 (lv_at hl 1 rfl) ?_
          refine lv_aload_n hx hb d_Mo_times_80 rfl (lv_at hl 6 rfl) ?_
          refine r_get C K S 0 rfl rfl clOk_Mo 41 (by decide) wf_Mo_83 (v := .ref (ma 21)) rfl d_Mo_times_81 ?_
          refine lv_iload_n hx hb d_Mo_times_84 rfl (lv_at hl 8 rfl) ?_
          refine lv_bipush (v := 80) hx hb d_Mo_times_85 (by decide) ?_
          refine lv_imul hx hb d_Mo_times_87 ?_
          rw [show nI y * (80 : Int32) = nI (y * 80) from pk_mul y 80]
          refine lv_iload hx hb d_Mo_times_88 (lv_at hl 0 rfl) ?_
          refine lv_iadd hx hb d_Mo_times_90 ?_
          rw [nI_add]
          refine r_iald C K S 1 rfl (i := nI (y * 80 + j)) (vp_in_nI (by omega) (by decide)) (v := (nI (gy j))) (by rw [nI_clamp (by omega), ey]) d_Mo_times_91 ?_
          refine lv_i2l (v := (lN (gy j))) hx hb d_Mo_times_92 (nI_l (by omega)) ?_
          refine lv_lmul hx hb d_Mo_times_93 ?_
          rw [lN_mul]
          refine lv_aload_n hx hb d_Mo_times_94 rfl (lv_at hl 9 rfl) ?_
          refine lv_iload hx hb d_Mo_times_95 (lv_at hl 3 rfl) ?_
          refine lv_iload hx hb d_Mo_times_97 (lv_at hl 0 rfl) ?_
          refine lv_iadd hx hb d_Mo_times_99 ?_
          rw [nI_add]
          refine r_iald C K S 3 rfl (i := nI (i + j)) (vp_in_nI (by omega) (by decide)) (v := (nI (U (i + j)))) (by rw [nI_clamp (by omega)]) d_Mo_times_100 ?_
          refine lv_i2l (v := (lN (U (i + j)))) hx hb d_Mo_times_101 (nI_l (by omega)) ?_
          refine lv_ladd hx hb d_Mo_times_102 ?_
          rw [lN_add]
          refine lv_lload hx hb d_Mo_times_103 (lv_at hl 2 rfl) ?_
          refine lv_ladd hx hb d_Mo_times_105 ?_
          rw [lN_add]
          refine lv_lstore (lv' := [(12, .long (lN (gx i * gy j + U (i + j) + c9))), (11, .int (nI j)), (9, .long (lN (gx i))), (7, .long (lN c9)), (6, .int (nI i)), (5, .int (nI (sz y))), (4, .int (nI (sz x))), (0, .ref h0), (1, .int (nI x)), (2, .int (nI y)), (3, .ref tt)]) hx hb d_Mo_times_106 hl (by decide) rfl (fun ls hl => ?_)
          refine lv_aload_n hx hb d_Mo_times_108 rfl (lv_at hl 10 rfl) ?_
          refine lv_iload hx hb d_Mo_times_109 (lv_at hl 4 rfl) ?_
          refine lv_iload hx hb d_Mo_times_111 (lv_at hl 1 rfl) ?_
          refine lv_iadd hx hb d_Mo_times_113 ?_
          rw [nI_add]
          refine lv_lload hx hb d_Mo_times_114 (lv_at hl 0 rfl) ?_
          refine lv_ldc2 (v := 65535) hx hb C.2.2.2.1 (C.2.2.2.2.1 _ wk_Mo_276) d_Mo_times_116 ?_
          refine lv_land hx hb d_Mo_times_119 ?_
          rw [show lN (gx i * gy j + U (i + j) + c9) &&& (65535 : Int64) = lN ((gx i * gy j + U (i + j) + c9) % 65536) from g_mask (s := 16) (p := 65536) (by decide) (by decide) (by omega)]
          refine lv_l2i (v := (nI ((gx i * gy j + U (i + j) + c9) % 65536))) hx hb d_Mo_times_120 (lN_i _) ?_
          refine r_iast C K S 3 rfl (i := nI (i + j)) (x := (nI ((gx i * gy j + U (i + j) + c9) % 65536))) (vp_in_nI (by omega) (by decide)) (f' := fun n => nI (va_up U (i + j) ((gx i * gy j + U (i + j) + c9) % 65536) n)) (ws' := [(h0, .inr (8, moL ma iv co)), ((ma 21), .inl (k 0, 319840, .inl (fun i => nI (dg i)))), ((ma 22), .inl (k 0, 3998, .inl (fun i => nI (sz i)))), (tt, .inl (k 0, 170, .inl (fun n => nI (va_up U (i + j) ((gx i * gy j + U (i + j) + c9) % 65536) n))))]) (upd_nI U (by omega) _) rfl d_Mo_times_121 (fun H locs S => ?_)
          refine lv_lload hx hb d_Mo_times_122 (lv_at hl 0 rfl) ?_
          refine lv_bipush (v := 16) hx hb d_Mo_times_124 (by decide) ?_
          refine lv_lshr (v := (lN ((gx i * gy j + U (i + j) + c9) / 65536))) hx hb d_Mo_times_126 (pf_shr (d := 16) (by decide) (by omega)) ?_
          refine lv_lstore (lv' := [(7, .long (lN ((gx i * gy j + U (i + j) + c9) / 65536))), (12, .long (lN (gx i * gy j + U (i + j) + c9))), (11, .int (nI j)), (9, .long (lN (gx i))), (6, .int (nI i)), (5, .int (nI (sz y))), (4, .int (nI (sz x))), (0, .ref h0), (1, .int (nI x)), (2, .int (nI y)), (3, .ref tt)]) hx hb d_Mo_times_127 hl (by decide) rfl (fun ls hl => ?_)
          refine lv_iinc (v := nI (j + 1)) (lv' := [(11, .int (nI (j + 1))), (7, .long (lN ((gx i * gy j + U (i + j) + c9) / 65536))), (12, .long (lN (gx i * gy j + U (i + j) + c9))), (9, .long (lN (gx i))), (6, .int (nI i)), (5, .int (nI (sz y))), (4, .int (nI (sz x))), (0, .ref h0), (1, .int (nI x)), (2, .int (nI y)), (3, .ref tt)]) hx hb d_Mo_times_129 hl (k := 2) rfl (nI_1 j) (by decide) rfl (fun ls hl => ?_)
          refine lv_goto (tgt := 71) hx hb d_Mo_times_132 (by decide) ?_
          refine ih3 (j + 1) (by omega) (va_up U (i + j) ((gx i * gy j + U (i + j) + c9) % 65536)) ((gx i * gy j + U (i + j) + c9) / 65536) ⟨?_, vl_mul_lt di dj du dc, ?_, ?_, ?_⟩ _ _ S ls (lv_sub hl [0, 3, 1, 4, 5, 6, 7, 8, 9, 10] rfl)
          · have h1 := vl_mul_step (d := gx i) (y := gy j) (N := (sz x + sz y)) (p := i + j) (by omega) hI.1
            rw [Nat.add_assoc i j 1] at h1
            rw [h1, vl_s, Nat.mul_add, Nat.add_mul, Nat.pow_add]
            rw [show gx i * (gy j * 65536 ^ j) * 65536 ^ i = gx i * gy j * (65536 ^ i * 65536 ^ j) by rw [← Nat.mul_assoc, Nat.mul_assoc (gx i * gy j), Nat.mul_comm (65536 ^ j)]]
            omega
          · intro n hn
            by_cases w : n = i + j
            · rw [w, va_up_self]; exact Nat.mod_lt _ (by decide)
            · rw [va_up_ne U _ w]; exact hI.2.2.1 n hn
          · intro n h1 h2
            rw [va_up_ne U _ (by omega)]
            exact hI.2.2.2.1 n h1 h2
          · intro n h1
            rw [va_up_ne U _ (by omega)]
            exact hI.2.2.2.2 n h1
      refine lv_iload hx hb d_Mo_times_43 (lv_at hl 0 rfl) ?_
      refine lv_iload hx hb d_Mo_times_45 (lv_at hl 2 rfl) ?_
      refine lv_icmp_ge (tgt := 151) hx hb d_Mo_times_47 (by decide) (fun hq => absurd hq (nI_ge (by omega) (by omega))) (fun _ => ?_)
      refine lv_lconst (v := 0) hx hb d_Mo_times_50 (by decide) ?_
      refine lv_lstore (lv' := [(7, .long 0), (6, .int (nI i)), (5, .int (nI (sz y))), (4, .int (nI (sz x))), (0, .ref h0), (1, .int (nI x)), (2, .int (nI y)), (3, .ref tt)]) hx hb d_Mo_times_51 hl (by decide) rfl (fun ls hl => ?_)
      refine lv_aload_n hx hb d_Mo_times_53 rfl (lv_at hl 4 rfl) ?_
      refine r_get C K S 0 rfl rfl clOk_Mo 41 (by decide) wf_Mo_83 (v := .ref (ma 21)) rfl d_Mo_times_54 ?_
      refine lv_iload_n hx hb d_Mo_times_57 rfl (lv_at hl 5 rfl) ?_
      refine lv_bipush (v := 80) hx hb d_Mo_times_58 (by decide) ?_
      refine lv_imul hx hb d_Mo_times_60 ?_
      rw [show nI x * (80 : Int32) = nI (x * 80) from pk_mul x 80]
      refine lv_iload hx hb d_Mo_times_61 (lv_at hl 1 rfl) ?_
      refine lv_iadd hx hb d_Mo_times_63 ?_
      rw [nI_add]
      refine r_iald C K S 1 rfl (i := nI (x * 80 + i)) (vp_in_nI (by omega) (by decide)) (v := (nI (gx i))) (by rw [nI_clamp (by omega), ex]) d_Mo_times_64 ?_
      refine lv_i2l (v := (lN (gx i))) hx hb d_Mo_times_65 (nI_l (by omega)) ?_
      refine lv_lstore (lv' := [(9, .long (lN (gx i))), (7, .long 0), (6, .int (nI i)), (5, .int (nI (sz y))), (4, .int (nI (sz x))), (0, .ref h0), (1, .int (nI x)), (2, .int (nI y)), (3, .ref tt)]) hx hb d_Mo_times_66 hl (by decide) rfl (fun ls hl => ?_)
      refine lv_iconst (v := 0) hx hb d_Mo_times_68 (by decide) ?_
      refine lv_istore (lv' := [(11, .int 0), (9, .long (lN (gx i))), (7, .long 0), (6, .int (nI i)), (5, .int (nI (sz y))), (4, .int (nI (sz x))), (0, .ref h0), (1, .int (nI x)), (2, .int (nI y)), (3, .ref tt)]) hx hb d_Mo_times_69 hl (by decide) rfl (fun ls hl => ?_)
      refine loop3 (sz y) 0 (by omega) U 0 ⟨?_, by omega, hI.2.1, hI.2.2.1, hI.2.2.2⟩ _ _ S ls (lv_sub hl [0, 1, 2, 3, 4, 5, 6, 7, 8, 9] rfl)
      rw [hI.1]
      simp [vl]
  have loop1 : ∀ d t, t + d = (sz x + sz y) → ∀ (H : Heap) (locs : List Loc), Sw G A s.heap H locs [(h0, .inr (8, moL ma iv co)), ((ma 21), .inl (k 0, 319840, .inl (fun i => nI (dg i)))), ((ma 22), .inl (k 0, 3998, .inl (fun i => nI (sz i)))), (tt, .inl (k 0, 170, .inl (fun i => nI (zr T t i))))] → ∀ ls : Array Slot, lv_has ls 14 [(6, .int (nI t)), (5, .int (nI (sz y))), (4, .int (nI (sz x))), (0, .ref h0), (1, .int (nI x)), (2, .int (nI y)), (3, .ref tt)] → W p l e { frames := 1, cells := 0, slots := 0, locals := 40 } s m [Value.ref h0, Value.int (nI x), Value.int (nI y), Value.ref tt].toArray below meth c H locs 0 0 (MQ below (va_Qi (fun (r : Int32) (U : Nat → Nat) => r = nI (cutN (fun i => nI (U i)) (sz x + sz y)) ∧ vl 65536 U (sz x + sz y) = vl 65536 gx (sz x) * vl 65536 gy (sz y) ∧ (∀ i, i < 170 → U i < 65536) ∧ ∀ i, (sz x + sz y) ≤ i → U i = T i) (Po G k A (fun U => [(h0, .inr (8, moL ma iv co)), ((ma 21), .inl (k 0, 319840, .inl (fun i => nI (dg i)))), ((ma 22), .inl (k 0, 3998, .inl (fun i => nI (sz i)))), (tt, .inl (k 0, 170, .inl (fun i => nI (U i))))])) A) [Value.ref h0, Value.int (nI x), Value.int (nI y), Value.ref tt].toArray s 0 0 A) (F0 m 19 ls []) := by
    intro d
    induction d with
    | zero =>
      intro t ht H locs S ls hl
      obtain rfl : t = (sz x + sz y) := by omega
      refine lv_iload hx hb d_Mo_times_19 (lv_at hl 0 rfl) ?_
      refine lv_iload hx hb d_Mo_times_21 (lv_at hl 2 rfl) ?_
      refine lv_iload hx hb d_Mo_times_23 (lv_at hl 1 rfl) ?_
      refine lv_iadd hx hb d_Mo_times_25 ?_
      rw [nI_add]
      refine lv_icmp_ge (tgt := 40) hx hb d_Mo_times_26 (by decide) (fun _ => ?_) (fun hq => absurd (nI_le (Nat.le_refl _) (by omega)) hq)
      refine lv_iconst (v := 0) hx hb d_Mo_times_40 (by decide) ?_
      refine lv_istore (lv' := [(6, .int 0), (5, .int (nI (sz y))), (4, .int (nI (sz x))), (0, .ref h0), (1, .int (nI x)), (2, .int (nI y)), (3, .ref tt)]) hx hb d_Mo_times_41 hl (by decide) rfl (fun ls hl => ?_)
      refine loop2 (sz x) 0 (by omega) (zr T (sz x + sz y)) ⟨?_, ?_, ?_, ?_⟩ _ _ S ls hl
      · rw [vl_0 (g := zr T (sz x + sz y)) _ (fun n hn => if_pos hn)]
        simp [vl]
      · intro n hn
        unfold zr
        split
        · decide
        · exact hT n hn
      · intro n h1 h2
        exact if_pos h2
      · intro n h1
        exact if_neg (by omega)
    | succ d ih =>
      intro t ht H locs S ls hl
      refine lv_iload hx hb d_Mo_times_19 (lv_at hl 0 rfl) ?_
      refine lv_iload hx hb d_Mo_times_21 (lv_at hl 2 rfl) ?_
      refine lv_iload hx hb d_Mo_times_23 (lv_at hl 1 rfl) ?_
      refine lv_iadd hx hb d_Mo_times_25 ?_
      rw [nI_add]
      refine lv_icmp_ge (tgt := 40) hx hb d_Mo_times_26 (by decide) (fun hq => absurd hq (nI_ge (by omega) (by omega))) (fun _ => ?_)
      refine lv_aload_n hx hb d_Mo_times_29 rfl (lv_at hl 6 rfl) ?_
      refine lv_iload hx hb d_Mo_times_30 (lv_at hl 0 rfl) ?_
      refine lv_iconst (v := 0) hx hb d_Mo_times_32 (by decide) ?_
      refine r_iast C K S 3 rfl (i := (nI t)) (x := 0) (vp_in_nI (by omega) (by decide)) (f' := fun n => nI (zr T (t + 1) n)) (ws' := [(h0, .inr (8, moL ma iv co)), ((ma 21), .inl (k 0, 319840, .inl (fun i => nI (dg i)))), ((ma 22), .inl (k 0, 3998, .inl (fun i => nI (sz i)))), (tt, .inl (k 0, 170, .inl (fun n => nI (zr T (t + 1) n))))]) (by rw [← zr_s]; exact upd_nI (zr T t) (by omega) 0) rfl d_Mo_times_33 (fun H locs S => ?_)
      refine lv_iinc (v := nI (t + 1)) (lv' := [(6, .int (nI (t + 1))), (5, .int (nI (sz y))), (4, .int (nI (sz x))), (0, .ref h0), (1, .int (nI x)), (2, .int (nI y)), (3, .ref tt)]) hx hb d_Mo_times_34 hl (k := 0) rfl (nI_1 t) (by decide) rfl (fun ls hl => ?_)
      refine lv_goto (tgt := 19) hx hb d_Mo_times_37 (by decide) ?_
      exact ih (t + 1) (by omega) _ _ S ls hl
  refine lv_aload_n hx hb d_Mo_times_0 rfl (lv_at hl 0 rfl) ?_
  refine r_get C K S 0 rfl rfl clOk_Mo 42 (by decide) wf_Mo_86 (v := .ref (ma 22)) rfl d_Mo_times_1 ?_
  refine lv_iload_n hx hb d_Mo_times_4 rfl (lv_at hl 1 rfl) ?_
  refine r_iald C K S 2 rfl (i := (nI x)) (vp_in_nI (by omega) (by decide)) (v := (nI (sz x))) (by rw [nI_clamp (by omega)]) d_Mo_times_5 ?_
  refine lv_istore (lv' := [(4, .int (nI (sz x))), (0, .ref h0), (1, .int (nI x)), (2, .int (nI y)), (3, .ref tt)]) hx hb d_Mo_times_6 hl (by decide) rfl (fun ls hl => ?_)
  refine lv_aload_n hx hb d_Mo_times_8 rfl (lv_at hl 1 rfl) ?_
  refine r_get C K S 0 rfl rfl clOk_Mo 42 (by decide) wf_Mo_86 (v := .ref (ma 22)) rfl d_Mo_times_9 ?_
  refine lv_iload_n hx hb d_Mo_times_12 rfl (lv_at hl 3 rfl) ?_
  refine r_iald C K S 2 rfl (i := (nI y)) (vp_in_nI (by omega) (by decide)) (v := (nI (sz y))) (by rw [nI_clamp (by omega)]) d_Mo_times_13 ?_
  refine lv_istore (lv' := [(5, .int (nI (sz y))), (4, .int (nI (sz x))), (0, .ref h0), (1, .int (nI x)), (2, .int (nI y)), (3, .ref tt)]) hx hb d_Mo_times_14 hl (by decide) rfl (fun ls hl => ?_)
  refine lv_iconst (v := 0) hx hb d_Mo_times_16 (by decide) ?_
  refine lv_istore (lv' := [(6, .int 0), (5, .int (nI (sz y))), (4, .int (nI (sz x))), (0, .ref h0), (1, .int (nI x)), (2, .int (nI y)), (3, .ref tt)]) hx hb d_Mo_times_17 hl (by decide) rfl (fun ls hl => ?_)
  have S : Sw G A s.heap s.heap [] [(h0, .inr (8, moL ma iv co)), ((ma 21), .inl (k 0, 319840, .inl (fun i => nI (dg i)))), ((ma 22), .inl (k 0, 3998, .inl (fun i => nI (sz i)))), (tt, .inl (k 0, 170, .inl (fun i => nI (zr T 0 i))))] := by rw [zr_0]; exact S
  exact loop1 (sz x + sz y) 0 (by omega) _ _ S ls hl
