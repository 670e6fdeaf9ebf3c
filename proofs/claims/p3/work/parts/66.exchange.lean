theorem sg_le {z : Int} (h : (if z = 0 then 0 else if z < 0 then -1 else 1 : Int32) ≤ 0) : ¬ 0 < z := by
  intro q
  rw [if_neg (by omega), if_neg (by omega)] at h
  exact absurd h (by decide)
theorem sg_gt {z : Int} (h : ¬ (if z = 0 then 0 else if z < 0 then -1 else 1 : Int32) ≤ 0) : 0 < z := by
  apply Classical.byContradiction
  intro q
  by_cases w : z = 0
  · rw [if_pos w] at h; exact h (by decide)
  · rw [if_neg w, if_pos (by omega)] at h; exact h (by decide)
theorem sg_lt {z : Int} (h : (if z = 0 then 0 else if z < 0 then -1 else 1 : Int32) < 0) : z < 0 := by
  apply Classical.byContradiction
  intro q
  by_cases w : z = 0
  · rw [if_pos w] at h; exact absurd h (by decide)
  · rw [if_neg w, if_neg q] at h; exact absurd h (by decide)
theorem sg_nlt {z : Int} (h : ¬ (if z = 0 then 0 else if z < 0 then -1 else 1 : Int32) < 0) : ¬ z < 0 := by
  intro q
  rw [if_neg (by omega), if_pos q] at h
  exact h (by decide)
theorem sg_eq {z : Int} (h : (if z = 0 then 0 else if z < 0 then -1 else 1 : Int32) = 0) : z = 0 := by
  apply Classical.byContradiction
  intro q
  rw [if_neg q] at h
  split at h
  · exact absurd h (by decide)
  · exact absurd h (by decide)
theorem sg_ne {z : Int} (h : ¬ (if z = 0 then 0 else if z < 0 then -1 else 1 : Int32) = 0) : z ≠ 0 := by
  intro q
  rw [if_pos q] at h
  exact h rfl
theorem exF_K {un M r c9 k9 : Nat} {T U : Nat → Int} (hu : un ≤ 40) (hc : c9 ≤ un) (hM : M ≤ 95) (hF : exF un M r c9 T) (h : exK un r c9 k9 T U) (hk : k9 < M) (hr : k9 ≠ r) : U 3997 = T 3997 ∧ U (42 * r + c9) = T (42 * r + c9) ∧ ∀ j, isC un j → j ≠ c9 → ∃ z : Int, U (42 * r + c9) * U (42 * k9 + j) - U (42 * k9 + c9) * U (42 * r + j) = U 3997 * z ∧ z.natAbs < 65536 ^ 80 := by
  have e1 : U 3997 = T 3997 := h.2.1 _ (by omega)
  have e2 : U (42 * r + c9) = T (42 * r + c9) := h.2.2 _ (by omega) (by omega)
  refine ⟨e1, e2, fun j hj hjc => ?_⟩
  have hj2 := isC_lt hu hj
  rw [e1, e2, h.2.1 (42 * k9 + j) (by omega), h.2.1 (42 * k9 + c9) (by omega), h.2.2 (42 * r + j) (by omega) (by omega)]
  exact hF k9 hk hr j hj hjc
theorem exQ_skip {un r c9 : Nat} {U X : Nat → Int} (h : exQ un r c9 (un + 1) U X) (hu : un ≤ 40) : exQ un r c9 41 U X :=
  ⟨fun j hj h1 h2 => h.1 j (by rcases h1 with w | w <;> omega) h1 h2, fun j hj => h.2.1 j (by omega), h.2.2.1, h.2.2.2⟩
/-- row r is turned about where the number on the cross is above 0 -/
def exP (un r c9 k9 tu : Nat) (U X : Nat → Int) : Prop := (tu = 1 ∧ exQ un r c9 k9 U X) ∨ (tu = 0 ∧ X = U)
theorem exP_out {un r c9 k9 tu : Nat} {U X : Nat → Int} (h : exP un r c9 k9 tu U X) {c : Nat} (hc : c < 42 * r ∨ 42 * r + 42 ≤ c) : X c = U c := by
  rcases h with h | h
  · exact h.2.2.2.2 c hc
  · rw [h.2]
theorem exP_col {un r c9 k9 tu : Nat} {U X : Nat → Int} (h : exP un r c9 k9 tu U X) : X (42 * r + c9) = U (42 * r + c9) := by
  rcases h with h | h
  · exact h.2.2.2.1
  · rw [h.2]
theorem exP_0 {un r c9 tu : Nat} {U : Nat → Int} (h : tu ≤ 1) : exP un r c9 0 tu U U := by
  rcases (show tu = 1 ∨ tu = 0 by omega) with q | q
  · exact Or.inl ⟨q, exQ_0 _ _ _ _⟩
  · exact Or.inr ⟨q, rfl⟩
theorem exP_no {un r c9 k9 tu : Nat} {U X : Nat → Int} (h : exP un r c9 k9 tu U X) (hk : k9 = c9 ∨ tu = 0) : exP un r c9 (k9 + 1) tu U X := by
  rcases h with h | h
  · rcases hk with q | q
    · exact Or.inl ⟨h.1, exQ_no h.2 (fun w => w.2 q)⟩
    · exact absurd h.1 (by omega)
  · exact Or.inr h
theorem exP_s {un r c9 k9 tu : Nat} {U X : Nat → Int} (h : exP un r c9 k9 tu U X) (hk : k9 ≠ c9) (ht : tu ≠ 0) (h2 : k9 < 42) : exP un r c9 (k9 + 1) tu U (va_up X (42 * r + k9) (- X (42 * r + k9))) := by
  rcases h with h | h
  · exact Or.inl ⟨h.1, exQ_s h.2 hk h2⟩
  · exact absurd h.1 ht
theorem exP_all {un r c9 tu : Nat} {U X : Nat → Int} (hu : un ≤ 40) (h : exP un r c9 (un + 1) tu U X) : exP un r c9 41 tu U X := by
  rcases h with h | h
  · exact Or.inl ⟨h.1, exQ_skip h.2 hu⟩
  · exact Or.inr h
theorem exP_done {un M r c9 tu : Nat} {T U X : Nat → Int} (hu : un ≤ 40) (hs : c9 ≤ un) (hM : M ≤ 95) (hr : r < M) (h : exK un r c9 M T U) (htu : tu = if 0 < T (42 * r + c9) then 1 else 0) (h2 : exP un r c9 42 tu U X) : exOK un M r c9 T (va_up (va_up X (42 * r + c9) (if tu = 1 then X 3997 else - X 3997)) 3997 ((X (42 * r + c9)).natAbs : Int)) := by
  have e1 : X 3997 = T 3997 := by rw [exP_out h2 (by omega)]; exact h.2.1 _ (by omega)
  have e2 : X (42 * r + c9) = T (42 * r + c9) := by rw [exP_col h2]; exact h.2.2 _ (by omega) (by omega)
  refine exOK_of hu hs hM hr h (W := X) ?_ ?_ (by rw [e2])
  · by_cases q : 0 < T (42 * r + c9)
    · rw [if_pos q] at htu
      rcases h2 with h2 | h2
      · exact Or.inl ⟨q, h2.2⟩
      · exact absurd h2.1 (by omega)
    · rw [if_neg q] at htu
      rcases h2 with h2 | h2
      · exact absurd h2.1 (by omega)
      · exact Or.inr ⟨q, h2.2⟩
  · rw [e1]
    unfold sxS
    by_cases q : 0 < T (42 * r + c9)
    · rw [if_pos q] at htu ⊢
      rw [if_pos htu, Int.one_mul]
    · rw [if_neg q] at htu ⊢
      rw [if_neg (by omega)]
      omega
theorem d_Mo_exchange_0 : decode c_Mo_exchange 0 = .ok (.iload_n 1, 1) := by decide +kernel
theorem d_Mo_exchange_1 : decode c_Mo_exchange 1 = .ok (.iload_n 2, 1) := by decide +kernel
theorem d_Mo_exchange_2 : decode c_Mo_exchange 2 = .ok (.invokestatic 328, 3) := by decide +kernel
theorem d_Mo_exchange_5 : decode c_Mo_exchange 5 = .ok (.istore_n 3, 1) := by decide +kernel
theorem d_Mo_exchange_6 : decode c_Mo_exchange 6 = .ok (.aload_n 0, 1) := by decide +kernel
theorem d_Mo_exchange_7 : decode c_Mo_exchange 7 = .ok (.iload_n 3, 1) := by decide +kernel
theorem d_Mo_exchange_8 : decode c_Mo_exchange 8 = .ok (.invokevirtual 330, 3) := by decide +kernel
theorem d_Mo_exchange_11 : decode c_Mo_exchange 11 = .ok (.ifCond .le 7, 3) := by decide +kernel
theorem d_Mo_exchange_14 : decode c_Mo_exchange 14 = .ok (.iconst 1, 1) := by decide +kernel
theorem d_Mo_exchange_15 : decode c_Mo_exchange 15 = .ok (.goto 4, 3) := by decide +kernel
theorem d_Mo_exchange_18 : decode c_Mo_exchange 18 = .ok (.iconst 0, 1) := by decide +kernel
theorem d_Mo_exchange_19 : decode c_Mo_exchange 19 = .ok (.istore 4, 2) := by decide +kernel
theorem d_Mo_exchange_21 : decode c_Mo_exchange 21 = .ok (.iconst 0, 1) := by decide +kernel
theorem d_Mo_exchange_22 : decode c_Mo_exchange 22 = .ok (.istore 5, 2) := by decide +kernel
theorem d_Mo_exchange_24 : decode c_Mo_exchange 24 = .ok (.iload 5, 2) := by decide +kernel
theorem d_Mo_exchange_26 : decode c_Mo_exchange 26 = .ok (.aload_n 0, 1) := by decide +kernel
theorem d_Mo_exchange_27 : decode c_Mo_exchange 27 = .ok (.getfield 333, 3) := by decide +kernel
theorem d_Mo_exchange_30 : decode c_Mo_exchange 30 = .ok (.aload_n 0, 1) := by decide +kernel
theorem d_Mo_exchange_31 : decode c_Mo_exchange 31 = .ok (.getfield 336, 3) := by decide +kernel
theorem d_Mo_exchange_34 : decode c_Mo_exchange 34 = .ok (.iadd, 1) := by decide +kernel
theorem d_Mo_exchange_35 : decode c_Mo_exchange 35 = .ok (.if_icmp .ge 25, 3) := by decide +kernel
theorem d_Mo_exchange_38 : decode c_Mo_exchange 38 = .ok (.iload 5, 2) := by decide +kernel
theorem d_Mo_exchange_40 : decode c_Mo_exchange 40 = .ok (.iload_n 1, 1) := by decide +kernel
theorem d_Mo_exchange_41 : decode c_Mo_exchange 41 = .ok (.if_icmp .eq 13, 3) := by decide +kernel
theorem d_Mo_exchange_44 : decode c_Mo_exchange 44 = .ok (.aload_n 0, 1) := by decide +kernel
theorem d_Mo_exchange_45 : decode c_Mo_exchange 45 = .ok (.iload 5, 2) := by decide +kernel
theorem d_Mo_exchange_47 : decode c_Mo_exchange 47 = .ok (.iload_n 1, 1) := by decide +kernel
theorem d_Mo_exchange_48 : decode c_Mo_exchange 48 = .ok (.iload_n 2, 1) := by decide +kernel
theorem d_Mo_exchange_49 : decode c_Mo_exchange 49 = .ok (.iload 4, 2) := by decide +kernel
theorem d_Mo_exchange_51 : decode c_Mo_exchange 51 = .ok (.invokevirtual 339, 3) := by decide +kernel
theorem d_Mo_exchange_54 : decode c_Mo_exchange 54 = .ok (.iinc 5 1, 3) := by decide +kernel
theorem d_Mo_exchange_57 : decode c_Mo_exchange 57 = .ok (.goto (-33), 3) := by decide +kernel
theorem d_Mo_exchange_60 : decode c_Mo_exchange 60 = .ok (.iconst 0, 1) := by decide +kernel
theorem d_Mo_exchange_61 : decode c_Mo_exchange 61 = .ok (.istore 5, 2) := by decide +kernel
theorem d_Mo_exchange_63 : decode c_Mo_exchange 63 = .ok (.iload 5, 2) := by decide +kernel
theorem d_Mo_exchange_65 : decode c_Mo_exchange 65 = .ok (.aload_n 0, 1) := by decide +kernel
theorem d_Mo_exchange_66 : decode c_Mo_exchange 66 = .ok (.getfield 192, 3) := by decide +kernel
theorem d_Mo_exchange_69 : decode c_Mo_exchange 69 = .ok (.if_icmp .gt 30, 3) := by decide +kernel
theorem d_Mo_exchange_72 : decode c_Mo_exchange 72 = .ok (.iload 5, 2) := by decide +kernel
theorem d_Mo_exchange_74 : decode c_Mo_exchange 74 = .ok (.iload_n 2, 1) := by decide +kernel
theorem d_Mo_exchange_75 : decode c_Mo_exchange 75 = .ok (.if_icmp .eq 18, 3) := by decide +kernel
theorem d_Mo_exchange_78 : decode c_Mo_exchange 78 = .ok (.iload 4, 2) := by decide +kernel
theorem d_Mo_exchange_80 : decode c_Mo_exchange 80 = .ok (.ifCond .eq 13, 3) := by decide +kernel
theorem d_Mo_exchange_83 : decode c_Mo_exchange 83 = .ok (.aload_n 0, 1) := by decide +kernel
theorem d_Mo_exchange_84 : decode c_Mo_exchange 84 = .ok (.iload_n 1, 1) := by decide +kernel
theorem d_Mo_exchange_85 : decode c_Mo_exchange 85 = .ok (.iload 5, 2) := by decide +kernel
theorem d_Mo_exchange_87 : decode c_Mo_exchange 87 = .ok (.invokestatic 328, 3) := by decide +kernel
theorem d_Mo_exchange_90 : decode c_Mo_exchange 90 = .ok (.invokevirtual 343, 3) := by decide +kernel
theorem d_Mo_exchange_93 : decode c_Mo_exchange 93 = .ok (.iinc 5 1, 3) := by decide +kernel
theorem d_Mo_exchange_96 : decode c_Mo_exchange 96 = .ok (.goto (-33), 3) := by decide +kernel
theorem d_Mo_exchange_99 : decode c_Mo_exchange 99 = .ok (.iload 4, 2) := by decide +kernel
theorem d_Mo_exchange_101 : decode c_Mo_exchange 101 = .ok (.ifCond .eq 13, 3) := by decide +kernel
theorem d_Mo_exchange_104 : decode c_Mo_exchange 104 = .ok (.aload_n 0, 1) := by decide +kernel
theorem d_Mo_exchange_105 : decode c_Mo_exchange 105 = .ok (.iload_n 1, 1) := by decide +kernel
theorem d_Mo_exchange_106 : decode c_Mo_exchange 106 = .ok (.bipush 41, 2) := by decide +kernel
theorem d_Mo_exchange_108 : decode c_Mo_exchange 108 = .ok (.invokestatic 328, 3) := by decide +kernel
theorem d_Mo_exchange_111 : decode c_Mo_exchange 111 = .ok (.invokevirtual 343, 3) := by decide +kernel
theorem d_Mo_exchange_114 : decode c_Mo_exchange 114 = .ok (.aload_n 0, 1) := by decide +kernel
theorem d_Mo_exchange_115 : decode c_Mo_exchange 115 = .ok (.iload_n 3, 1) := by decide +kernel
theorem d_Mo_exchange_116 : decode c_Mo_exchange 116 = .ok (.iload 4, 2) := by decide +kernel
theorem d_Mo_exchange_118 : decode c_Mo_exchange 118 = .ok (.invokevirtual 346, 3) := by decide +kernel
theorem d_Mo_exchange_121 : decode c_Mo_exchange 121 = .ok (.aload_n 0, 1) := by decide +kernel
theorem d_Mo_exchange_122 : decode c_Mo_exchange 122 = .ok (.getfield 105, 3) := by decide +kernel
theorem d_Mo_exchange_125 : decode c_Mo_exchange 125 = .ok (.iload_n 1, 1) := by decide +kernel
theorem d_Mo_exchange_126 : decode c_Mo_exchange 126 = .ok (.iaload, 1) := by decide +kernel
theorem d_Mo_exchange_127 : decode c_Mo_exchange 127 = .ok (.istore 5, 2) := by decide +kernel
theorem d_Mo_exchange_129 : decode c_Mo_exchange 129 = .ok (.aload_n 0, 1) := by decide +kernel
theorem d_Mo_exchange_130 : decode c_Mo_exchange 130 = .ok (.getfield 105, 3) := by decide +kernel
theorem d_Mo_exchange_133 : decode c_Mo_exchange 133 = .ok (.iload_n 1, 1) := by decide +kernel
theorem d_Mo_exchange_134 : decode c_Mo_exchange 134 = .ok (.aload_n 0, 1) := by decide +kernel
theorem d_Mo_exchange_135 : decode c_Mo_exchange 135 = .ok (.getfield 108, 3) := by decide +kernel
theorem d_Mo_exchange_138 : decode c_Mo_exchange 138 = .ok (.iload_n 2, 1) := by decide +kernel
theorem d_Mo_exchange_139 : decode c_Mo_exchange 139 = .ok (.iaload, 1) := by decide +kernel
theorem d_Mo_exchange_140 : decode c_Mo_exchange 140 = .ok (.iastore, 1) := by decide +kernel
theorem d_Mo_exchange_141 : decode c_Mo_exchange 141 = .ok (.aload_n 0, 1) := by decide +kernel
theorem d_Mo_exchange_142 : decode c_Mo_exchange 142 = .ok (.getfield 108, 3) := by decide +kernel
theorem d_Mo_exchange_145 : decode c_Mo_exchange 145 = .ok (.iload_n 2, 1) := by decide +kernel
theorem d_Mo_exchange_146 : decode c_Mo_exchange 146 = .ok (.iload 5, 2) := by decide +kernel
theorem d_Mo_exchange_148 : decode c_Mo_exchange 148 = .ok (.iastore, 1) := by decide +kernel
theorem d_Mo_exchange_149 : decode c_Mo_exchange 149 = .ok (.return_, 1) := by decide +kernel
set_option maxRecDepth 100000 in
set_option maxHeartbeats 16000000 in
/-- exchange(r, c9) -/
theorem g_Mo_exchange (l : Launch) (G : va_G) (k : Nat → ClassId) (h0 : Nat) (s0 : Nat) (r : Nat) (c9 : Nat) (un : Nat) (rows : Nat) (aims : Nat) (ma : Nat → Nat) (iv : Nat → Int32) (co : Int64) (dg : Nat → Nat) (sz : Nat → Nat) (bl : Nat → Nat) (O : Nat → Nat) (T2 : Nat → Nat) (qt : Nat → Nat) (Dv : Nat → Nat) (rn : Nat → Nat) (cn : Nat → Nat) (T : Nat → Int) (hT : tbO dg sz bl T) (hr : r < rows) (hro : rows ≤ 90) (hai : aims ≤ 5) (hsu : c9 ≤ un) (hu : un ≤ 40) (h1 : 0 < T 3997) (hF : exF un (rows + aims) r c9 T) (dO : ∀ i, i < 170 → O i < 65536) (d2 : ∀ i, i < 170 → T2 i < 65536) (dQ : ∀ i, i < 170 → qt i < 65536) (dD : ∀ i, i < 170 → Dv i < 65536) : CV l y_Mo_exchange c_Mo_exchange 6 { frames := 5, cells := 0, slots := 0, locals := 192 } [.ref h0, .int (nI r), .int (nI c9)] G k s0 [(h0, .inr (8, moL ma (va_up (va_up (va_up iv 14 (nI un)) 24 (nI rows)) 25 (nI aims)) co)), ((ma 21), .inl (k 0, 319840, .inl (fun i => nI (dg i)))), ((ma 22), .inl (k 0, 3998, .inl (fun i => nI (sz i)))), ((ma 23), .inl (k 2, 3998, .inl (fun i => nI (bl i)))), ((ma 24), .inl (k 0, 170, .inl (fun i => nI (O i)))), ((ma 25), .inl (k 0, 170, .inl (fun i => nI (T2 i)))), ((ma 26), .inl (k 0, 170, .inl (fun i => nI (qt i)))), ((ma 27), .inl (k 0, 170, .inl (fun i => nI (Dv i)))), ((ma 28), .inl (k 0, 90, .inl (fun i => nI (rn i)))), ((ma 29), .inl (k 0, 41, .inl (fun i => nI (cn i))))] (fun (u : (Nat → Nat → Nat) × (Nat → Int32)) => (∃ W9, tbO (u.1 0) (u.1 1) (u.1 2) W9 ∧ exOK un (rows + aims) r c9 T W9) ∧ (∀ i, i < 170 → u.1 3 i < 65536) ∧ (∀ i, i < 170 → u.1 4 i < 65536) ∧ (∀ i, i < 170 → u.1 5 i < 65536) ∧ (∀ i, i < 170 → u.1 6 i < 65536)) (fun u => [(h0, .inr (8, moL ma (va_up (va_up (va_up (va_up (va_up (va_up (va_up (va_up iv 14 (nI un)) 24 (nI rows)) 25 (nI aims)) 19 (u.2 0)) 20 (u.2 1)) 21 (u.2 2)) 22 (u.2 3)) 23 (u.2 4)) co)), ((ma 21), .inl (k 0, 319840, .inl (fun i => nI (u.1 0 i)))), ((ma 22), .inl (k 0, 3998, .inl (fun i => nI (u.1 1 i)))), ((ma 23), .inl (k 2, 3998, .inl (fun i => nI (u.1 2 i)))), ((ma 24), .inl (k 0, 170, .inl (fun i => nI (u.1 3 i)))), ((ma 25), .inl (k 0, 170, .inl (fun i => nI (u.1 4 i)))), ((ma 26), .inl (k 0, 170, .inl (fun i => nI (u.1 5 i)))), ((ma 27), .inl (k 0, 170, .inl (fun i => nI (u.1 6 i)))), ((ma 28), .inl (k 0, 90, .inl (fun i => nI ((va_up rn r (cn c9)) i)))), ((ma 29), .inl (k 0, 41, .inl (fun i => nI ((va_up cn c9 (rn r)) i))))]) 0 0 := by
  refine met_start (by decide) (Nat.le_of_ble_eq_true rfl) ?_
  intro p e s m below meth c C K hA hsz S ls hl
  generalize va_A [(h0, .inr (8, moL ma (va_up (va_up (va_up iv 14 (nI un)) 24 (nI rows)) 25 (nI aims)) co)), ((ma 21), .inl (k 0, 319840, .inl (fun i => nI (dg i)))), ((ma 22), .inl (k 0, 3998, .inl (fun i => nI (sz i)))), ((ma 23), .inl (k 2, 3998, .inl (fun i => nI (bl i)))), ((ma 24), .inl (k 0, 170, .inl (fun i => nI (O i)))), ((ma 25), .inl (k 0, 170, .inl (fun i => nI (T2 i)))), ((ma 26), .inl (k 0, 170, .inl (fun i => nI (qt i)))), ((ma 27), .inl (k 0, 170, .inl (fun i => nI (Dv i)))), ((ma 28), .inl (k 0, 90, .inl (fun i => nI (rn i)))), ((ma 29), .inl (k 0, 41, .inl (fun i => nI (cn i))))] s0 = A at hA S ⊢
  have hx := C.1
  have hb := C.2.1
  have hl : lv_has ls 6 [(0, .ref h0), (1, .int (nI r)), (2, .int (nI c9))] := hl
  refine lv_iload_n hx hb d_Mo_exchange_0 rfl (lv_at hl 1 rfl) ?_
  refine lv_iload_n hx hb d_Mo_exchange_1 rfl (lv_at hl 2 rfl) ?_
  refine r_backi (wi := []) (wr := [(h0, .inr (8, moL ma (va_up (va_up (va_up iv 14 (nI un)) 24 (nI rows)) 25 (nI aims)) co)), ((ma 21), .inl (k 0, 319840, .inl (fun i => nI (dg i)))), ((ma 22), .inl (k 0, 3998, .inl (fun i => nI (sz i)))), ((ma 23), .inl (k 2, 3998, .inl (fun i => nI (bl i)))), ((ma 24), .inl (k 0, 170, .inl (fun i => nI (O i)))), ((ma 25), .inl (k 0, 170, .inl (fun i => nI (T2 i)))), ((ma 26), .inl (k 0, 170, .inl (fun i => nI (qt i)))), ((ma 27), .inl (k 0, 170, .inl (fun i => nI (Dv i)))), ((ma 28), .inl (k 0, 90, .inl (fun i => nI (rn i)))), ((ma 29), .inl (k 0, 41, .inl (fun i => nI (cn i))))]) S hA [] [0, 1, 2, 3, 4, 5, 6, 7, 8, 9] rfl rfl (by decide) (by decide) (va_runS (As := [.int (nI r), .int (nI c9)]) (rest := []) ⟨hx, hb, C.2.2.1, C.2.2.2.1, C.2.2.2.2.1⟩ (g_Mo_at l G k _ r c9) (k_stat (n := 2) C wc_Mo_at rfl rfl wz_Mo wm_Mo_328 wt_Mo_at (by decide +kernel) ⟨(Nat.le_of_ble_eq_true rfl), (Nat.le_of_ble_eq_true rfl)⟩) (pr_now K S [] (by decide) rfl) rfl rfl hl.1 rfl (lv_room (Nat.le_of_ble_eq_true rfl)) d_Mo_exchange_2 ⟨(Nat.le_of_ble_eq_true rfl), (Nat.le_of_ble_eq_true rfl)⟩) (fun r3 u1 H locs hw2 S => ?_)
  have S : Sw G A s.heap _ _ [(h0, .inr (8, moL ma (va_up (va_up (va_up iv 14 (nI un)) 24 (nI rows)) 25 (nI aims)) co)), ((ma 21), .inl (k 0, 319840, .inl (fun i => nI (dg i)))), ((ma 22), .inl (k 0, 3998, .inl (fun i => nI (sz i)))), ((ma 23), .inl (k 2, 3998, .inl (fun i => nI (bl i)))), ((ma 24), .inl (k 0, 170, .inl (fun i => nI (O i)))), ((ma 25), .inl (k 0, 170, .inl (fun i => nI (T2 i)))), ((ma 26), .inl (k 0, 170, .inl (fun i => nI (qt i)))), ((ma 27), .inl (k 0, 170, .inl (fun i => nI (Dv i)))), ((ma 28), .inl (k 0, 90, .inl (fun i => nI (rn i)))), ((ma 29), .inl (k 0, 41, .inl (fun i => nI (cn i))))] := S
  obtain rfl : r3 = nI (42 * r + c9) := hw2
  refine lv_istore_n (lv' := [(3, .int (nI (42 * r + c9))), (0, .ref h0), (1, .int (nI r)), (2, .int (nI c9))]) hx hb d_Mo_exchange_5 rfl hl (by decide) rfl (fun ls hl => ?_)
  refine lv_aload_n hx hb d_Mo_exchange_6 rfl (lv_at hl 1 rfl) ?_
  refine lv_iload_n hx hb d_Mo_exchange_7 rfl (lv_at hl 0 rfl) ?_
  refine r_backi (wi := [(h0, .inr (8, moL ma (va_up (va_up (va_up iv 14 (nI un)) 24 (nI rows)) 25 (nI aims)) co)), ((ma 22), .inl (k 0, 3998, .inl (fun i => nI (sz i)))), ((ma 23), .inl (k 2, 3998, .inl (fun i => nI (bl i))))]) (wr := [((ma 21), .inl (k 0, 319840, .inl (fun i => nI (dg i)))), ((ma 24), .inl (k 0, 170, .inl (fun i => nI (O i)))), ((ma 25), .inl (k 0, 170, .inl (fun i => nI (T2 i)))), ((ma 26), .inl (k 0, 170, .inl (fun i => nI (qt i)))), ((ma 27), .inl (k 0, 170, .inl (fun i => nI (Dv i)))), ((ma 28), .inl (k 0, 90, .inl (fun i => nI (rn i)))), ((ma 29), .inl (k 0, 41, .inl (fun i => nI (cn i))))]) S hA [0, 2, 3] [1, 4, 5, 6, 7, 8, 9] rfl rfl (by decide) (by decide) (va_runV (As := [.int (nI (42 * r + c9))]) (rest := []) ⟨hx, hb, C.2.2.1, C.2.2.2.1, C.2.2.2.2.1⟩ (g_Mo_signOf l G k h0 _ ma (va_up (va_up (va_up iv 14 (nI un)) 24 (nI rows)) 25 (nI aims)) co sz bl (42 * r + c9) (by omega) (hT.2 _ (by omega)).1 (hT.2 _ (by omega)).2.1) (k_virt (n := 1) C wc_Mo_signOf rfl rfl wz_Mo wm_Mo_330 wn_Mo_signOf ws_Mo_signOf (by decide +kernel) ⟨(Nat.le_of_ble_eq_true rfl), (Nat.le_of_ble_eq_true rfl)⟩) (pr_nowV K S [0, 2, 3] (by decide) rfl 0 rfl rfl) rfl rfl hl.1 rfl (lv_room (Nat.le_of_ble_eq_true rfl)) d_Mo_exchange_8 ⟨(Nat.le_of_ble_eq_true rfl), (Nat.le_of_ble_eq_true rfl)⟩) (fun r7 u5 H locs hw6 S => ?_)
  have S : Sw G A s.heap _ _ [((ma 21), .inl (k 0, 319840, .inl (fun i => nI (dg i)))), ((ma 24), .inl (k 0, 170, .inl (fun i => nI (O i)))), ((ma 25), .inl (k 0, 170, .inl (fun i => nI (T2 i)))), ((ma 26), .inl (k 0, 170, .inl (fun i => nI (qt i)))), ((ma 27), .inl (k 0, 170, .inl (fun i => nI (Dv i)))), ((ma 28), .inl (k 0, 90, .inl (fun i => nI (rn i)))), ((ma 29), .inl (k 0, 41, .inl (fun i => nI (cn i)))), (h0, .inr (8, moL ma (va_up (va_up (va_up iv 14 (nI un)) 24 (nI rows)) 25 (nI aims)) co)), ((ma 22), .inl (k 0, 3998, .inl (fun i => nI (sz i)))), ((ma 23), .inl (k 2, 3998, .inl (fun i => nI (bl i))))] := S
  obtain rfl : r7 = sgN (sz (42 * r + c9)) (bl (42 * r + c9)) := hw6
  have go9 : ∀ (tu : Nat), (tu = if 0 < T (42 * r + c9) then 1 else 0) → ∀ (H : Heap) (locs : List Loc), Sw G A s.heap H locs [((ma 21), .inl (k 0, 319840, .inl (fun i => nI (dg i)))), ((ma 24), .inl (k 0, 170, .inl (fun i => nI (O i)))), ((ma 25), .inl (k 0, 170, .inl (fun i => nI (T2 i)))), ((ma 26), .inl (k 0, 170, .inl (fun i => nI (qt i)))), ((ma 27), .inl (k 0, 170, .inl (fun i => nI (Dv i)))), ((ma 28), .inl (k 0, 90, .inl (fun i => nI (rn i)))), ((ma 29), .inl (k 0, 41, .inl (fun i => nI (cn i)))), (h0, .inr (8, moL ma (va_up (va_up (va_up iv 14 (nI un)) 24 (nI rows)) 25 (nI aims)) co)), ((ma 22), .inl (k 0, 3998, .inl (fun i => nI (sz i)))), ((ma 23), .inl (k 2, 3998, .inl (fun i => nI (bl i))))] → ∀ ls : Array Slot, lv_has ls 6 [(3, .int (nI (42 * r + c9))), (0, .ref h0), (1, .int (nI r)), (2, .int (nI c9))] → W p l e { frames := 5, cells := 0, slots := 0, locals := 192 } s m [Value.ref h0, Value.int (nI r), Value.int (nI c9)].toArray below meth c H locs 0 0 (MQ below (va_Qv (fun (u : (Nat → Nat → Nat) × (Nat → Int32)) => (∃ W9, tbO (u.1 0) (u.1 1) (u.1 2) W9 ∧ exOK un (rows + aims) r c9 T W9) ∧ (∀ i, i < 170 → u.1 3 i < 65536) ∧ (∀ i, i < 170 → u.1 4 i < 65536) ∧ (∀ i, i < 170 → u.1 5 i < 65536) ∧ (∀ i, i < 170 → u.1 6 i < 65536)) (Po G k A (fun u => [(h0, .inr (8, moL ma (va_up (va_up (va_up (va_up (va_up (va_up (va_up (va_up iv 14 (nI un)) 24 (nI rows)) 25 (nI aims)) 19 (u.2 0)) 20 (u.2 1)) 21 (u.2 2)) 22 (u.2 3)) 23 (u.2 4)) co)), ((ma 21), .inl (k 0, 319840, .inl (fun i => nI (u.1 0 i)))), ((ma 22), .inl (k 0, 3998, .inl (fun i => nI (u.1 1 i)))), ((ma 23), .inl (k 2, 3998, .inl (fun i => nI (u.1 2 i)))), ((ma 24), .inl (k 0, 170, .inl (fun i => nI (u.1 3 i)))), ((ma 25), .inl (k 0, 170, .inl (fun i => nI (u.1 4 i)))), ((ma 26), .inl (k 0, 170, .inl (fun i => nI (u.1 5 i)))), ((ma 27), .inl (k 0, 170, .inl (fun i => nI (u.1 6 i)))), ((ma 28), .inl (k 0, 90, .inl (fun i => nI ((va_up rn r (cn c9)) i)))), ((ma 29), .inl (k 0, 41, .inl (fun i => nI ((va_up cn c9 (rn r)) i))))])) A) [Value.ref h0, Value.int (nI r), Value.int (nI c9)].toArray s 0 0 A) (F0 m 19 ls [.int (nI tu)]) := by
    intro tu htu H locs S ls hl
    have ht1 : tu ≤ 1 := by rw [htu]; split <;> omega
    refine lv_istore (lv' := [(4, .int (nI tu)), (3, .int (nI (42 * r + c9))), (0, .ref h0), (1, .int (nI r)), (2, .int (nI c9))]) hx hb d_Mo_exchange_19 hl (by decide) rfl (fun ls hl => ?_)
    refine lv_iconst (v := 0) hx hb d_Mo_exchange_21 (by decide) ?_
    refine lv_istore (lv' := [(5, .int 0), (4, .int (nI tu)), (3, .int (nI (42 * r + c9))), (0, .ref h0), (1, .int (nI r)), (2, .int (nI c9))]) hx hb d_Mo_exchange_22 hl (by decide) rfl (fun ls hl => ?_)
    have lp : ∀ d9, ∀ (ri : Nat), ∀ (D : Nat → Nat), ∀ (Z : Nat → Nat), ∀ (B : Nat → Nat), ∀ (O9 : Nat → Nat), ∀ (T9 : Nat → Nat), ∀ (Q9 : Nat → Nat), ∀ (V9 : Nat → Nat), ∀ (w : Nat → Int32), ∀ (U9 : Nat → Int), (rows + aims - ri) < d9 → (ri ≤ rows + aims) → (tbO D Z B U9) → (exK un r c9 ri T U9) → (∀ i, i < 170 → O9 i < 65536) → (∀ i, i < 170 → T9 i < 65536) → (∀ i, i < 170 → Q9 i < 65536) → (∀ i, i < 170 → V9 i < 65536) → ∀ (H : Heap) (locs : List Loc), Sw G A s.heap H locs [(h0, .inr (8, moL ma (va_up (va_up (va_up (va_up (va_up (va_up (va_up (va_up iv 14 (nI un)) 24 (nI rows)) 25 (nI aims)) 19 (w 0)) 20 (w 1)) 21 (w 2)) 22 (w 3)) 23 (w 4)) co)), ((ma 21), .inl (k 0, 319840, .inl (fun i => nI (D i)))), ((ma 22), .inl (k 0, 3998, .inl (fun i => nI (Z i)))), ((ma 23), .inl (k 2, 3998, .inl (fun i => nI (B i)))), ((ma 24), .inl (k 0, 170, .inl (fun i => nI (O9 i)))), ((ma 25), .inl (k 0, 170, .inl (fun i => nI (T9 i)))), ((ma 26), .inl (k 0, 170, .inl (fun i => nI (Q9 i)))), ((ma 27), .inl (k 0, 170, .inl (fun i => nI (V9 i)))), ((ma 28), .inl (k 0, 90, .inl (fun i => nI (rn i)))), ((ma 29), .inl (k 0, 41, .inl (fun i => nI (cn i))))] → ∀ ls : Array Slot, lv_has ls 6 [(5, .int (nI ri)), (4, .int (nI tu)), (3, .int (nI (42 * r + c9))), (0, .ref h0), (1, .int (nI r)), (2, .int (nI c9))] → W p l e { frames := 5, cells := 0, slots := 0, locals := 192 } s m [Value.ref h0, Value.int (nI r), Value.int (nI c9)].toArray below meth c H locs 0 0 (MQ below (va_Qv (fun (u : (Nat → Nat → Nat) × (Nat → Int32)) => (∃ W9, tbO (u.1 0) (u.1 1) (u.1 2) W9 ∧ exOK un (rows + aims) r c9 T W9) ∧ (∀ i, i < 170 → u.1 3 i < 65536) ∧ (∀ i, i < 170 → u.1 4 i < 65536) ∧ (∀ i, i < 170 → u.1 5 i < 65536) ∧ (∀ i, i < 170 → u.1 6 i < 65536)) (Po G k A (fun u => [(h0, .inr (8, moL ma (va_up (va_up (va_up (va_up (va_up (va_up (va_up (va_up iv 14 (nI un)) 24 (nI rows)) 25 (nI aims)) 19 (u.2 0)) 20 (u.2 1)) 21 (u.2 2)) 22 (u.2 3)) 23 (u.2 4)) co)), ((ma 21), .inl (k 0, 319840, .inl (fun i => nI (u.1 0 i)))), ((ma 22), .inl (k 0, 3998, .inl (fun i => nI (u.1 1 i)))), ((ma 23), .inl (k 2, 3998, .inl (fun i => nI (u.1 2 i)))), ((ma 24), .inl (k 0, 170, .inl (fun i => nI (u.1 3 i)))), ((ma 25), .inl (k 0, 170, .inl (fun i => nI (u.1 4 i)))), ((ma 26), .inl (k 0, 170, .inl (fun i => nI (u.1 5 i)))), ((ma 27), .inl (k 0, 170, .inl (fun i => nI (u.1 6 i)))), ((ma 28), .inl (k 0, 90, .inl (fun i => nI ((va_up rn r (cn c9)) i)))), ((ma 29), .inl (k 0, 41, .inl (fun i => nI ((va_up cn c9 (rn r)) i))))])) A) [Value.ref h0, Value.int (nI r), Value.int (nI c9)].toArray s 0 0 A) (F0 m 24 ls []) := by
      intro d9
      induction d9 with
      | zero => intro ri D Z B O9 T9 Q9 V9 w U9 hm; exact absurd hm (Nat.not_lt_zero _)
      | succ d9 ih =>
        intro ri D Z B O9 T9 Q9 V9 w U9 hm hri hT2 hK e1 e2 e3 e4 H locs S ls hl
        refine lv_iload hx hb d_Mo_exchange_24 (lv_at hl 0 rfl) ?_
        refine lv_aload_n hx hb d_Mo_exchange_26 rfl (lv_at hl 3 rfl) ?_
        refine r_get C K S 0 rfl rfl clOk_Mo 53 (by decide) wf_Mo_333 (v := .int (nI rows)) rfl d_Mo_exchange_27 ?_
        refine lv_aload_n hx hb d_Mo_exchange_30 rfl (lv_at hl 3 rfl) ?_
        refine r_get C K S 0 rfl rfl clOk_Mo 54 (by decide) wf_Mo_336 (v := .int (nI aims)) rfl d_Mo_exchange_31 ?_
        refine z_iadd (x := nI rows) (y := nI aims) (v := nI (rows + aims)) hx hb d_Mo_exchange_34 (nI_add rows aims) ?_
        refine z_icmp_ge (a := ri) (b := (rows + aims)) (tgt := 60) hx hb d_Mo_exchange_35 (by decide) (by omega) (by omega) (fun hc9 => ?_) (fun hc9 => ?_)
        · have hre : ri = rows + aims := by omega
          refine lv_iconst (v := 0) hx hb d_Mo_exchange_60 (by decide) ?_
          refine lv_istore (lv' := [(5, .int 0), (4, .int (nI tu)), (3, .int (nI (42 * r + c9))), (0, .ref h0), (1, .int (nI r)), (2, .int (nI c9))]) hx hb d_Mo_exchange_61 hl (by decide) rfl (fun ls hl => ?_)
          rw [hre] at hK
          have lc : ∀ d9, ∀ (j : Nat), ∀ (B3 : Nat → Nat), ∀ (X9 : Nat → Int), (un + 1 - j) < d9 → (j ≤ un + 1) → (tbO D Z B3 X9) → (exP un r c9 j tu U9 X9) → ∀ (H : Heap) (locs : List Loc), Sw G A s.heap H locs [(h0, .inr (8, moL ma (va_up (va_up (va_up (va_up (va_up (va_up (va_up (va_up iv 14 (nI un)) 24 (nI rows)) 25 (nI aims)) 19 (w 0)) 20 (w 1)) 21 (w 2)) 22 (w 3)) 23 (w 4)) co)), ((ma 21), .inl (k 0, 319840, .inl (fun i => nI (D i)))), ((ma 22), .inl (k 0, 3998, .inl (fun i => nI (Z i)))), ((ma 23), .inl (k 2, 3998, .inl (fun i => nI (B3 i)))), ((ma 24), .inl (k 0, 170, .inl (fun i => nI (O9 i)))), ((ma 25), .inl (k 0, 170, .inl (fun i => nI (T9 i)))), ((ma 26), .inl (k 0, 170, .inl (fun i => nI (Q9 i)))), ((ma 27), .inl (k 0, 170, .inl (fun i => nI (V9 i)))), ((ma 28), .inl (k 0, 90, .inl (fun i => nI (rn i)))), ((ma 29), .inl (k 0, 41, .inl (fun i => nI (cn i))))] → ∀ ls : Array Slot, lv_has ls 6 [(5, .int (nI j)), (4, .int (nI tu)), (3, .int (nI (42 * r + c9))), (0, .ref h0), (1, .int (nI r)), (2, .int (nI c9))] → W p l e { frames := 5, cells := 0, slots := 0, locals := 192 } s m [Value.ref h0, Value.int (nI r), Value.int (nI c9)].toArray below meth c H locs 0 0 (MQ below (va_Qv (fun (u : (Nat → Nat → Nat) × (Nat → Int32)) => (∃ W9, tbO (u.1 0) (u.1 1) (u.1 2) W9 ∧ exOK un (rows + aims) r c9 T W9) ∧ (∀ i, i < 170 → u.1 3 i < 65536) ∧ (∀ i, i < 170 → u.1 4 i < 65536) ∧ (∀ i, i < 170 → u.1 5 i < 65536) ∧ (∀ i, i < 170 → u.1 6 i < 65536)) (Po G k A (fun u => [(h0, .inr (8, moL ma (va_up (va_up (va_up (va_up (va_up (va_up (va_up (va_up iv 14 (nI un)) 24 (nI rows)) 25 (nI aims)) 19 (u.2 0)) 20 (u.2 1)) 21 (u.2 2)) 22 (u.2 3)) 23 (u.2 4)) co)), ((ma 21), .inl (k 0, 319840, .inl (fun i => nI (u.1 0 i)))), ((ma 22), .inl (k 0, 3998, .inl (fun i => nI (u.1 1 i)))), ((ma 23), .inl (k 2, 3998, .inl (fun i => nI (u.1 2 i)))), ((ma 24), .inl (k 0, 170, .inl (fun i => nI (u.1 3 i)))), ((ma 25), .inl (k 0, 170, .inl (fun i => nI (u.1 4 i)))), ((ma 26), .inl (k 0, 170, .inl (fun i => nI (u.1 5 i)))), ((ma 27), .inl (k 0, 170, .inl (fun i => nI (u.1 6 i)))), ((ma 28), .inl (k 0, 90, .inl (fun i => nI ((va_up rn r (cn c9)) i)))), ((ma 29), .inl (k 0, 41, .inl (fun i => nI ((va_up cn c9 (rn r)) i))))])) A) [Value.ref h0, Value.int (nI r), Value.int (nI c9)].toArray s 0 0 A) (F0 m 63 ls []) := by
            intro d9
            induction d9 with
            | zero => intro j B3 X9 hm; exact absurd hm (Nat.not_lt_zero _)
            | succ d9 ih =>
              intro j B3 X9 hm hj hT4 hP H locs S ls hl
              refine lv_iload hx hb d_Mo_exchange_63 (lv_at hl 0 rfl) ?_
              refine lv_aload_n hx hb d_Mo_exchange_65 rfl (lv_at hl 3 rfl) ?_
              refine r_get C K S 0 rfl rfl clOk_Mo 29 (by decide) wf_Mo_192 (v := .int (nI un)) rfl d_Mo_exchange_66 ?_
              refine z_icmp_gt (a := j) (b := un) (tgt := 99) hx hb d_Mo_exchange_69 (by decide) (by omega) (by omega) (fun hc10 => ?_) (fun hc10 => ?_)
              · have hP : exP un r c9 (un + 1) tu U9 X9 := (show j = un + 1 by omega) ▸ hP
                refine lv_iload hx hb d_Mo_exchange_99 (lv_at hl 1 rfl) ?_
                refine z_if_eq (a := tu) (tgt := 114) hx hb d_Mo_exchange_101 (by decide) (by omega) (fun hc11 => ?_) (fun hc11 => ?_)
                · refine lv_aload_n hx hb d_Mo_exchange_114 rfl (lv_at hl 3 rfl) ?_
                  refine lv_iload_n hx hb d_Mo_exchange_115 rfl (lv_at hl 2 rfl) ?_
                  refine lv_iload hx hb d_Mo_exchange_116 (lv_at hl 1 rfl) ?_
                  have hT5 := hT4
                  have hP5 := exP_no (exP_all hu hP) (Or.inr (show tu = 0 by omega))
                  refine r_backv (wi := [(h0, .inr (8, moL ma (va_up (va_up (va_up (va_up (va_up (va_up (va_up (va_up iv 14 (nI un)) 24 (nI rows)) 25 (nI aims)) 19 (w 0)) 20 (w 1)) 21 (w 2)) 22 (w 3)) 23 (w 4)) co)), ((ma 21), .inl (k 0, 319840, .inl (fun i => nI (D i)))), ((ma 22), .inl (k 0, 3998, .inl (fun i => nI (Z i)))), ((ma 23), .inl (k 2, 3998, .inl (fun i => nI (B3 i))))]) (wr := [((ma 24), .inl (k 0, 170, .inl (fun i => nI (O9 i)))), ((ma 25), .inl (k 0, 170, .inl (fun i => nI (T9 i)))), ((ma 26), .inl (k 0, 170, .inl (fun i => nI (Q9 i)))), ((ma 27), .inl (k 0, 170, .inl (fun i => nI (V9 i)))), ((ma 28), .inl (k 0, 90, .inl (fun i => nI (rn i)))), ((ma 29), .inl (k 0, 41, .inl (fun i => nI (cn i))))]) S hA [0, 1, 2, 3] [4, 5, 6, 7, 8, 9] rfl rfl (by decide) (by decide) (va_runV (As := [.int (nI (42 * r + c9)), .int (nI tu)]) (rest := []) ⟨hx, hb, C.2.2.1, C.2.2.2.1, C.2.2.2.2.1⟩ (g_Mo_swapOne l G k h0 _ (42 * r + c9) tu ma (va_up (va_up (va_up (va_up (va_up (va_up (va_up (va_up iv 14 (nI un)) 24 (nI rows)) 25 (nI aims)) 19 (w 0)) 20 (w 1)) 21 (w 2)) 22 (w 3)) 23 (w 4)) co D Z B3 X9 hT5 (by omega) (by rw [exP_out hP5 (by omega), hK.2.1 _ (by omega)]; exact h1) ht1) (k_virt (n := 2) C wc_Mo_swapOne rfl rfl wz_Mo wm_Mo_346 wn_Mo_swapOne ws_Mo_swapOne (by decide +kernel) ⟨(Nat.le_of_ble_eq_true rfl), (Nat.le_of_ble_eq_true rfl)⟩) (pr_nowV K S [0, 1, 2, 3] (by decide) rfl 0 rfl rfl) rfl rfl hl.1 rfl (lv_room (Nat.le_of_ble_eq_true rfl)) d_Mo_exchange_118 ⟨(Nat.le_of_ble_eq_true rfl), (Nat.le_of_ble_eq_true rfl)⟩) (fun su H locs hw12 S => ?_)
                  have S : Sw G A s.heap _ _ [((ma 24), .inl (k 0, 170, .inl (fun i => nI (O9 i)))), ((ma 25), .inl (k 0, 170, .inl (fun i => nI (T9 i)))), ((ma 26), .inl (k 0, 170, .inl (fun i => nI (Q9 i)))), ((ma 27), .inl (k 0, 170, .inl (fun i => nI (V9 i)))), ((ma 28), .inl (k 0, 90, .inl (fun i => nI (rn i)))), ((ma 29), .inl (k 0, 41, .inl (fun i => nI (cn i)))), (h0, .inr (8, moL ma (va_up (va_up (va_up (va_up (va_up (va_up (va_up (va_up iv 14 (nI un)) 24 (nI rows)) 25 (nI aims)) 19 (w 0)) 20 (w 1)) 21 (w 2)) 22 (w 3)) 23 (w 4)) co)), ((ma 21), .inl (k 0, 319840, .inl (fun i => nI (su.1 i)))), ((ma 22), .inl (k 0, 3998, .inl (fun i => nI (su.2.1 i)))), ((ma 23), .inl (k 2, 3998, .inl (fun i => nI (su.2.2 i))))] := S
                  have hSW := hw12
                  refine lv_aload_n hx hb d_Mo_exchange_121 rfl (lv_at hl 3 rfl) ?_
                  refine r_get C K S 6 rfl rfl clOk_Mo 55 (by decide) wf_Mo_105 (v := .ref (ma 28)) rfl d_Mo_exchange_122 ?_
                  refine lv_iload_n hx hb d_Mo_exchange_125 rfl (lv_at hl 4 rfl) ?_
                  refine r_iald C K S 4 rfl (i := nI r) (show vp_in (nI r) _ from vp_in_nI (n := r) (by omega) (by decide)) (v := nI (rn r)) (by rw [nI_clamp (by omega)]) d_Mo_exchange_126 ?_
                  refine lv_istore (lv' := [(5, .int (nI (rn r))), (4, .int (nI tu)), (3, .int (nI (42 * r + c9))), (0, .ref h0), (1, .int (nI r)), (2, .int (nI c9))]) hx hb d_Mo_exchange_127 hl (by decide) rfl (fun ls hl => ?_)
                  refine lv_aload_n hx hb d_Mo_exchange_129 rfl (lv_at hl 3 rfl) ?_
                  refine r_get C K S 6 rfl rfl clOk_Mo 55 (by decide) wf_Mo_105 (v := .ref (ma 28)) rfl d_Mo_exchange_130 ?_
                  refine lv_iload_n hx hb d_Mo_exchange_133 rfl (lv_at hl 4 rfl) ?_
                  refine lv_aload_n hx hb d_Mo_exchange_134 rfl (lv_at hl 3 rfl) ?_
                  refine r_get C K S 6 rfl rfl clOk_Mo 56 (by decide) wf_Mo_108 (v := .ref (ma 29)) rfl d_Mo_exchange_135 ?_
                  refine lv_iload_n hx hb d_Mo_exchange_138 rfl (lv_at hl 5 rfl) ?_
                  refine r_iald C K S 5 rfl (i := nI c9) (show vp_in (nI c9) _ from vp_in_nI (n := c9) (by omega) (by decide)) (v := nI (cn c9)) (by rw [nI_clamp (by omega)]) d_Mo_exchange_139 ?_
                  refine r_iast C K S 4 rfl (i := nI r) (x := nI (cn c9)) (show vp_in (nI r) _ from vp_in_nI (n := r) (by omega) (by decide)) (f' := fun i => nI (va_up rn r (cn c9) i)) (ws' := [((ma 24), .inl (k 0, 170, .inl (fun i => nI (O9 i)))), ((ma 25), .inl (k 0, 170, .inl (fun i => nI (T9 i)))), ((ma 26), .inl (k 0, 170, .inl (fun i => nI (Q9 i)))), ((ma 27), .inl (k 0, 170, .inl (fun i => nI (V9 i)))), ((ma 28), .inl (k 0, 90, .inl (fun i => nI (va_up rn r (cn c9) i)))), ((ma 29), .inl (k 0, 41, .inl (fun i => nI (cn i)))), (h0, .inr (8, moL ma (va_up (va_up (va_up (va_up (va_up (va_up (va_up (va_up iv 14 (nI un)) 24 (nI rows)) 25 (nI aims)) 19 (w 0)) 20 (w 1)) 21 (w 2)) 22 (w 3)) 23 (w 4)) co)), ((ma 21), .inl (k 0, 319840, .inl (fun i => nI (su.1 i)))), ((ma 22), .inl (k 0, 3998, .inl (fun i => nI (su.2.1 i)))), ((ma 23), .inl (k 2, 3998, .inl (fun i => nI (su.2.2 i))))]) (show upd _ (nI r : Int32).toNatClampNeg (nI (cn c9)) = _ from upd_nI rn (j := r) (by omega) (cn c9)) rfl d_Mo_exchange_140 (fun H locs S => ?_)
                  refine lv_aload_n hx hb d_Mo_exchange_141 rfl (lv_at hl 3 rfl) ?_
                  refine r_get C K S 6 rfl rfl clOk_Mo 56 (by decide) wf_Mo_108 (v := .ref (ma 29)) rfl d_Mo_exchange_142 ?_
                  refine lv_iload_n hx hb d_Mo_exchange_145 rfl (lv_at hl 5 rfl) ?_
                  refine lv_iload hx hb d_Mo_exchange_146 (lv_at hl 0 rfl) ?_
                  refine r_iast C K S 5 rfl (i := nI c9) (x := nI (rn r)) (show vp_in (nI c9) _ from vp_in_nI (n := c9) (by omega) (by decide)) (f' := fun i => nI (va_up cn c9 (rn r) i)) (ws' := [((ma 24), .inl (k 0, 170, .inl (fun i => nI (O9 i)))), ((ma 25), .inl (k 0, 170, .inl (fun i => nI (T9 i)))), ((ma 26), .inl (k 0, 170, .inl (fun i => nI (Q9 i)))), ((ma 27), .inl (k 0, 170, .inl (fun i => nI (V9 i)))), ((ma 28), .inl (k 0, 90, .inl (fun i => nI (va_up rn r (cn c9) i)))), ((ma 29), .inl (k 0, 41, .inl (fun i => nI (va_up cn c9 (rn r) i)))), (h0, .inr (8, moL ma (va_up (va_up (va_up (va_up (va_up (va_up (va_up (va_up iv 14 (nI un)) 24 (nI rows)) 25 (nI aims)) 19 (w 0)) 20 (w 1)) 21 (w 2)) 22 (w 3)) 23 (w 4)) co)), ((ma 21), .inl (k 0, 319840, .inl (fun i => nI (su.1 i)))), ((ma 22), .inl (k 0, 3998, .inl (fun i => nI (su.2.1 i)))), ((ma 23), .inl (k 2, 3998, .inl (fun i => nI (su.2.2 i))))]) (show upd _ (nI c9 : Int32).toNatClampNeg (nI (rn r)) = _ from upd_nI cn (j := c9) (by omega) (rn r)) rfl d_Mo_exchange_148 (fun H locs S => ?_)
                  exact r_vret C K (uz [su.1, su.2.1, su.2.2, O9, T9, Q9, V9], w) ⟨⟨_, hSW, exP_done hu hsu (by omega) (by omega) hK htu hP5⟩, e1, e2, e3, e4⟩ (S.sub [6, 7, 8, 9, 0, 1, 2, 3, 4, 5] (by decide) rfl) d_Mo_exchange_149 (Nat.le_of_ble_eq_true rfl) (Nat.le_of_ble_eq_true rfl)
                · refine lv_aload_n hx hb d_Mo_exchange_104 rfl (lv_at hl 3 rfl) ?_
                  refine lv_iload_n hx hb d_Mo_exchange_105 rfl (lv_at hl 4 rfl) ?_
                  refine lv_bipush (v := 41) hx hb d_Mo_exchange_106 (by decide) ?_
                  refine r_backi (wi := []) (wr := [(h0, .inr (8, moL ma (va_up (va_up (va_up (va_up (va_up (va_up (va_up (va_up iv 14 (nI un)) 24 (nI rows)) 25 (nI aims)) 19 (w 0)) 20 (w 1)) 21 (w 2)) 22 (w 3)) 23 (w 4)) co)), ((ma 21), .inl (k 0, 319840, .inl (fun i => nI (D i)))), ((ma 22), .inl (k 0, 3998, .inl (fun i => nI (Z i)))), ((ma 23), .inl (k 2, 3998, .inl (fun i => nI (B3 i)))), ((ma 24), .inl (k 0, 170, .inl (fun i => nI (O9 i)))), ((ma 25), .inl (k 0, 170, .inl (fun i => nI (T9 i)))), ((ma 26), .inl (k 0, 170, .inl (fun i => nI (Q9 i)))), ((ma 27), .inl (k 0, 170, .inl (fun i => nI (V9 i)))), ((ma 28), .inl (k 0, 90, .inl (fun i => nI (rn i)))), ((ma 29), .inl (k 0, 41, .inl (fun i => nI (cn i))))]) S hA [] [0, 1, 2, 3, 4, 5, 6, 7, 8, 9] rfl rfl (by decide) (by decide) (va_runS (As := [.int (nI r), .int 41]) (rest := [.ref h0]) ⟨hx, hb, C.2.2.1, C.2.2.2.1, C.2.2.2.2.1⟩ (g_Mo_at l G k _ r 41) (k_stat (n := 2) C wc_Mo_at rfl rfl wz_Mo wm_Mo_328 wt_Mo_at (by decide +kernel) ⟨(Nat.le_of_ble_eq_true rfl), (Nat.le_of_ble_eq_true rfl)⟩) (pr_now K S [] (by decide) rfl) rfl rfl hl.1 rfl (lv_room (Nat.le_of_ble_eq_true rfl)) d_Mo_exchange_108 ⟨(Nat.le_of_ble_eq_true rfl), (Nat.le_of_ble_eq_true rfl)⟩) (fun r15 u13 H locs hw14 S => ?_)
                  have S : Sw G A s.heap _ _ [(h0, .inr (8, moL ma (va_up (va_up (va_up (va_up (va_up (va_up (va_up (va_up iv 14 (nI un)) 24 (nI rows)) 25 (nI aims)) 19 (w 0)) 20 (w 1)) 21 (w 2)) 22 (w 3)) 23 (w 4)) co)), ((ma 21), .inl (k 0, 319840, .inl (fun i => nI (D i)))), ((ma 22), .inl (k 0, 3998, .inl (fun i => nI (Z i)))), ((ma 23), .inl (k 2, 3998, .inl (fun i => nI (B3 i)))), ((ma 24), .inl (k 0, 170, .inl (fun i => nI (O9 i)))), ((ma 25), .inl (k 0, 170, .inl (fun i => nI (T9 i)))), ((ma 26), .inl (k 0, 170, .inl (fun i => nI (Q9 i)))), ((ma 27), .inl (k 0, 170, .inl (fun i => nI (V9 i)))), ((ma 28), .inl (k 0, 90, .inl (fun i => nI (rn i)))), ((ma 29), .inl (k 0, 41, .inl (fun i => nI (cn i))))] := S
                  obtain rfl : r15 = nI (42 * r + 41) := hw14
                  refine r_backv (wi := [(h0, .inr (8, moL ma (va_up (va_up (va_up (va_up (va_up (va_up (va_up (va_up iv 14 (nI un)) 24 (nI rows)) 25 (nI aims)) 19 (w 0)) 20 (w 1)) 21 (w 2)) 22 (w 3)) 23 (w 4)) co)), ((ma 22), .inl (k 0, 3998, .inl (fun i => nI (Z i)))), ((ma 23), .inl (k 2, 3998, .inl (fun i => nI (B3 i))))]) (wr := [((ma 21), .inl (k 0, 319840, .inl (fun i => nI (D i)))), ((ma 24), .inl (k 0, 170, .inl (fun i => nI (O9 i)))), ((ma 25), .inl (k 0, 170, .inl (fun i => nI (T9 i)))), ((ma 26), .inl (k 0, 170, .inl (fun i => nI (Q9 i)))), ((ma 27), .inl (k 0, 170, .inl (fun i => nI (V9 i)))), ((ma 28), .inl (k 0, 90, .inl (fun i => nI (rn i)))), ((ma 29), .inl (k 0, 41, .inl (fun i => nI (cn i))))]) S hA [0, 2, 3] [1, 4, 5, 6, 7, 8, 9] rfl rfl (by decide) (by decide) (va_runV (As := [.int (nI (42 * r + 41))]) (rest := []) ⟨hx, hb, C.2.2.1, C.2.2.2.1, C.2.2.2.2.1⟩ (g_Mo_turn l G k h0 _ ma (va_up (va_up (va_up (va_up (va_up (va_up (va_up (va_up iv 14 (nI un)) 24 (nI rows)) 25 (nI aims)) 19 (w 0)) 20 (w 1)) 21 (w 2)) 22 (w 3)) 23 (w 4)) co Z B3 (42 * r + 41) (by omega) (hT4.2 _ (by omega)).1 (hT4.2 _ (by omega)).2.1) (k_virt (n := 1) C wc_Mo_turn rfl rfl wz_Mo wm_Mo_343 wn_Mo_turn ws_Mo_turn (by decide +kernel) ⟨(Nat.le_of_ble_eq_true rfl), (Nat.le_of_ble_eq_true rfl)⟩) (pr_nowV K S [0, 2, 3] (by decide) rfl 0 rfl rfl) rfl rfl hl.1 rfl (lv_room (Nat.le_of_ble_eq_true rfl)) d_Mo_exchange_111 ⟨(Nat.le_of_ble_eq_true rfl), (Nat.le_of_ble_eq_true rfl)⟩) (fun tb H locs hw17 S => ?_)
                  have S : Sw G A s.heap _ _ [((ma 21), .inl (k 0, 319840, .inl (fun i => nI (D i)))), ((ma 24), .inl (k 0, 170, .inl (fun i => nI (O9 i)))), ((ma 25), .inl (k 0, 170, .inl (fun i => nI (T9 i)))), ((ma 26), .inl (k 0, 170, .inl (fun i => nI (Q9 i)))), ((ma 27), .inl (k 0, 170, .inl (fun i => nI (V9 i)))), ((ma 28), .inl (k 0, 90, .inl (fun i => nI (rn i)))), ((ma 29), .inl (k 0, 41, .inl (fun i => nI (cn i)))), (h0, .inr (8, moL ma (va_up (va_up (va_up (va_up (va_up (va_up (va_up (va_up iv 14 (nI un)) 24 (nI rows)) 25 (nI aims)) 19 (w 0)) 20 (w 1)) 21 (w 2)) 22 (w 3)) 23 (w 4)) co)), ((ma 22), .inl (k 0, 3998, .inl (fun i => nI (Z i)))), ((ma 23), .inl (k 2, 3998, .inl (fun i => nI (tb i))))] := S
                  obtain rfl : tb = va_up B3 (42 * r + 41) (tnB (Z (42 * r + 41)) (B3 (42 * r + 41))) := hw17
                  have S : Sw G A s.heap _ _ [((ma 21), .inl (k 0, 319840, .inl (fun i => nI (D i)))), ((ma 24), .inl (k 0, 170, .inl (fun i => nI (O9 i)))), ((ma 25), .inl (k 0, 170, .inl (fun i => nI (T9 i)))), ((ma 26), .inl (k 0, 170, .inl (fun i => nI (Q9 i)))), ((ma 27), .inl (k 0, 170, .inl (fun i => nI (V9 i)))), ((ma 28), .inl (k 0, 90, .inl (fun i => nI (rn i)))), ((ma 29), .inl (k 0, 41, .inl (fun i => nI (cn i)))), (h0, .inr (8, moL ma (va_up (va_up (va_up (va_up (va_up (va_up (va_up (va_up iv 14 (nI un)) 24 (nI rows)) 25 (nI aims)) 19 (w 0)) 20 (w 1)) 21 (w 2)) 22 (w 3)) 23 (w 4)) co)), ((ma 22), .inl (k 0, 3998, .inl (fun i => nI (Z i)))), ((ma 23), .inl (k 2, 3998, .inl (fun i => nI ((va_up B3 (42 * r + 41) (tnB (Z (42 * r + 41)) (B3 (42 * r + 41)))) i))))] := S
                  have hT5 := tbO_turn (c := 42 * r + 41) hT4 (by omega)
                  have hP5 := exP_s (exP_all hu hP) (show 41 ≠ c9 by omega) (by omega) (by omega)
                  refine lv_aload_n hx hb d_Mo_exchange_114 rfl (lv_at hl 3 rfl) ?_
                  refine lv_iload_n hx hb d_Mo_exchange_115 rfl (lv_at hl 2 rfl) ?_
                  refine lv_iload hx hb d_Mo_exchange_116 (lv_at hl 1 rfl) ?_
                  refine r_backv (wi := [(h0, .inr (8, moL ma (va_up (va_up (va_up (va_up (va_up (va_up (va_up (va_up iv 14 (nI un)) 24 (nI rows)) 25 (nI aims)) 19 (w 0)) 20 (w 1)) 21 (w 2)) 22 (w 3)) 23 (w 4)) co)), ((ma 21), .inl (k 0, 319840, .inl (fun i => nI (D i)))), ((ma 22), .inl (k 0, 3998, .inl (fun i => nI (Z i)))), ((ma 23), .inl (k 2, 3998, .inl (fun i => nI ((va_up B3 (42 * r + 41) (tnB (Z (42 * r + 41)) (B3 (42 * r + 41)))) i))))]) (wr := [((ma 24), .inl (k 0, 170, .inl (fun i => nI (O9 i)))), ((ma 25), .inl (k 0, 170, .inl (fun i => nI (T9 i)))), ((ma 26), .inl (k 0, 170, .inl (fun i => nI (Q9 i)))), ((ma 27), .inl (k 0, 170, .inl (fun i => nI (V9 i)))), ((ma 28), .inl (k 0, 90, .inl (fun i => nI (rn i)))), ((ma 29), .inl (k 0, 41, .inl (fun i => nI (cn i))))]) S hA [7, 0, 8, 9] [1, 2, 3, 4, 5, 6] rfl rfl (by decide) (by decide) (va_runV (As := [.int (nI (42 * r + c9)), .int (nI tu)]) (rest := []) ⟨hx, hb, C.2.2.1, C.2.2.2.1, C.2.2.2.2.1⟩ (g_Mo_swapOne l G k h0 _ (42 * r + c9) tu ma (va_up (va_up (va_up (va_up (va_up (va_up (va_up (va_up iv 14 (nI un)) 24 (nI rows)) 25 (nI aims)) 19 (w 0)) 20 (w 1)) 21 (w 2)) 22 (w 3)) 23 (w 4)) co D Z (va_up B3 (42 * r + 41) (tnB (Z (42 * r + 41)) (B3 (42 * r + 41)))) (va_up X9 (42 * r + 41) (- X9 (42 * r + 41))) hT5 (by omega) (by rw [exP_out hP5 (by omega), hK.2.1 _ (by omega)]; exact h1) ht1) (k_virt (n := 2) C wc_Mo_swapOne rfl rfl wz_Mo wm_Mo_346 wn_Mo_swapOne ws_Mo_swapOne (by decide +kernel) ⟨(Nat.le_of_ble_eq_true rfl), (Nat.le_of_ble_eq_true rfl)⟩) (pr_nowV K S [7, 0, 8, 9] (by decide) rfl 7 rfl rfl) rfl rfl hl.1 rfl (lv_room (Nat.le_of_ble_eq_true rfl)) d_Mo_exchange_118 ⟨(Nat.le_of_ble_eq_true rfl), (Nat.le_of_ble_eq_true rfl)⟩) (fun su H locs hw18 S => ?_)
                  have S : Sw G A s.heap _ _ [((ma 24), .inl (k 0, 170, .inl (fun i => nI (O9 i)))), ((ma 25), .inl (k 0, 170, .inl (fun i => nI (T9 i)))), ((ma 26), .inl (k 0, 170, .inl (fun i => nI (Q9 i)))), ((ma 27), .inl (k 0, 170, .inl (fun i => nI (V9 i)))), ((ma 28), .inl (k 0, 90, .inl (fun i => nI (rn i)))), ((ma 29), .inl (k 0, 41, .inl (fun i => nI (cn i)))), (h0, .inr (8, moL ma (va_up (va_up (va_up (va_up (va_up (va_up (va_up (va_up iv 14 (nI un)) 24 (nI rows)) 25 (nI aims)) 19 (w 0)) 20 (w 1)) 21 (w 2)) 22 (w 3)) 23 (w 4)) co)), ((ma 21), .inl (k 0, 319840, .inl (fun i => nI (su.1 i)))), ((ma 22), .inl (k 0, 3998, .inl (fun i => nI (su.2.1 i)))), ((ma 23), .inl (k 2, 3998, .inl (fun i => nI (su.2.2 i))))] := S
                  have hSW := hw18
                  refine lv_aload_n hx hb d_Mo_exchange_121 rfl (lv_at hl 3 rfl) ?_
                  refine r_get C K S 6 rfl rfl clOk_Mo 55 (by decide) wf_Mo_105 (v := .ref (ma 28)) rfl d_Mo_exchange_122 ?_
                  refine lv_iload_n hx hb d_Mo_exchange_125 rfl (lv_at hl 4 rfl) ?_
                  refine r_iald C K S 4 rfl (i := nI r) (show vp_in (nI r) _ from vp_in_nI (n := r) (by omega) (by decide)) (v := nI (rn r)) (by rw [nI_clamp (by omega)]) d_Mo_exchange_126 ?_
                  refine lv_istore (lv' := [(5, .int (nI (rn r))), (4, .int (nI tu)), (3, .int (nI (42 * r + c9))), (0, .ref h0), (1, .int (nI r)), (2, .int (nI c9))]) hx hb d_Mo_exchange_127 hl (by decide) rfl (fun ls hl => ?_)
                  refine lv_aload_n hx hb d_Mo_exchange_129 rfl (lv_at hl 3 rfl) ?_
                  refine r_get C K S 6 rfl rfl clOk_Mo 55 (by decide) wf_Mo_105 (v := .ref (ma 28)) rfl d_Mo_exchange_130 ?_
                  refine lv_iload_n hx hb d_Mo_exchange_133 rfl (lv_at hl 4 rfl) ?_
                  refine lv_aload_n hx hb d_Mo_exchange_134 rfl (lv_at hl 3 rfl) ?_
                  refine r_get C K S 6 rfl rfl clOk_Mo 56 (by decide) wf_Mo_108 (v := .ref (ma 29)) rfl d_Mo_exchange_135 ?_
                  refine lv_iload_n hx hb d_Mo_exchange_138 rfl (lv_at hl 5 rfl) ?_
                  refine r_iald C K S 5 rfl (i := nI c9) (show vp_in (nI c9) _ from vp_in_nI (n := c9) (by omega) (by decide)) (v := nI (cn c9)) (by rw [nI_clamp (by omega)]) d_Mo_exchange_139 ?_
                  refine r_iast C K S 4 rfl (i := nI r) (x := nI (cn c9)) (show vp_in (nI r) _ from vp_in_nI (n := r) (by omega) (by decide)) (f' := fun i => nI (va_up rn r (cn c9) i)) (ws' := [((ma 24), .inl (k 0, 170, .inl (fun i => nI (O9 i)))), ((ma 25), .inl (k 0, 170, .inl (fun i => nI (T9 i)))), ((ma 26), .inl (k 0, 170, .inl (fun i => nI (Q9 i)))), ((ma 27), .inl (k 0, 170, .inl (fun i => nI (V9 i)))), ((ma 28), .inl (k 0, 90, .inl (fun i => nI (va_up rn r (cn c9) i)))), ((ma 29), .inl (k 0, 41, .inl (fun i => nI (cn i)))), (h0, .inr (8, moL ma (va_up (va_up (va_up (va_up (va_up (va_up (va_up (va_up iv 14 (nI un)) 24 (nI rows)) 25 (nI aims)) 19 (w 0)) 20 (w 1)) 21 (w 2)) 22 (w 3)) 23 (w 4)) co)), ((ma 21), .inl (k 0, 319840, .inl (fun i => nI (su.1 i)))), ((ma 22), .inl (k 0, 3998, .inl (fun i => nI (su.2.1 i)))), ((ma 23), .inl (k 2, 3998, .inl (fun i => nI (su.2.2 i))))]) (show upd _ (nI r : Int32).toNatClampNeg (nI (cn c9)) = _ from upd_nI rn (j := r) (by omega) (cn c9)) rfl d_Mo_exchange_140 (fun H locs S => ?_)
                  refine lv_aload_n hx hb d_Mo_exchange_141 rfl (lv_at hl 3 rfl) ?_
                  refine r_get C K S 6 rfl rfl clOk_Mo 56 (by decide) wf_Mo_108 (v := .ref (ma 29)) rfl d_Mo_exchange_142 ?_
                  refine lv_iload_n hx hb d_Mo_exchange_145 rfl (lv_at hl 5 rfl) ?_
                  refine lv_iload hx hb d_Mo_exchange_146 (lv_at hl 0 rfl) ?_
                  refine r_iast C K S 5 rfl (i := nI c9) (x := nI (rn r)) (show vp_in (nI c9) _ from vp_in_nI (n := c9) (by omega) (by decide)) (f' := fun i => nI (va_up cn c9 (rn r) i)) (ws' := [((ma 24), .inl (k 0, 170, .inl (fun i => nI (O9 i)))), ((ma 25), .inl (k 0, 170, .inl (fun i => nI (T9 i)))), ((ma 26), .inl (k 0, 170, .inl (fun i => nI (Q9 i)))), ((ma 27), .inl (k 0, 170, .inl (fun i => nI (V9 i)))), ((ma 28), .inl (k 0, 90, .inl (fun i => nI (va_up rn r (cn c9) i)))), ((ma 29), .inl (k 0, 41, .inl (fun i => nI (va_up cn c9 (rn r) i)))), (h0, .inr (8, moL ma (va_up (va_up (va_up (va_up (va_up (va_up (va_up (va_up iv 14 (nI un)) 24 (nI rows)) 25 (nI aims)) 19 (w 0)) 20 (w 1)) 21 (w 2)) 22 (w 3)) 23 (w 4)) co)), ((ma 21), .inl (k 0, 319840, .inl (fun i => nI (su.1 i)))), ((ma 22), .inl (k 0, 3998, .inl (fun i => nI (su.2.1 i)))), ((ma 23), .inl (k 2, 3998, .inl (fun i => nI (su.2.2 i))))]) (show upd _ (nI c9 : Int32).toNatClampNeg (nI (rn r)) = _ from upd_nI cn (j := c9) (by omega) (rn r)) rfl d_Mo_exchange_148 (fun H locs S => ?_)
                  exact r_vret C K (uz [su.1, su.2.1, su.2.2, O9, T9, Q9, V9], w) ⟨⟨_, hSW, exP_done hu hsu (by omega) (by omega) hK htu hP5⟩, e1, e2, e3, e4⟩ (S.sub [6, 7, 8, 9, 0, 1, 2, 3, 4, 5] (by decide) rfl) d_Mo_exchange_149 (Nat.le_of_ble_eq_true rfl) (Nat.le_of_ble_eq_true rfl)
              · refine lv_iload hx hb d_Mo_exchange_72 (lv_at hl 0 rfl) ?_
                refine lv_iload_n hx hb d_Mo_exchange_74 rfl (lv_at hl 5 rfl) ?_
                refine z_icmp_eq (a := j) (b := c9) (tgt := 93) hx hb d_Mo_exchange_75 (by decide) (by omega) (by omega) (fun hc19 => ?_) (fun hc19 => ?_)
                · refine lv_iinc (v := nI (j + 1)) (lv' := [(5, .int (nI (j + 1))), (4, .int (nI tu)), (3, .int (nI (42 * r + c9))), (0, .ref h0), (1, .int (nI r)), (2, .int (nI c9))]) hx hb d_Mo_exchange_93 hl (k := 0) rfl (show nI j + Int32.ofInt 1 = nI (j + 1) from (nI_add j 1).trans (congrArg nI (by omega))) (by decide) rfl (fun ls hl => ?_)
                  refine lv_goto (tgt := 63) hx hb d_Mo_exchange_96 (by decide) ?_
                  exact ih (j + 1) B3 X9 (by omega) (by omega) hT4 (exP_no hP (by omega)) _ _ (S.sub [0, 1, 2, 3, 4, 5, 6, 7, 8, 9] (by decide) rfl) ls (lv_sub hl [0, 1, 2, 3, 4, 5] rfl)
                · refine lv_iload hx hb d_Mo_exchange_78 (lv_at hl 1 rfl) ?_
                  refine z_if_eq (a := tu) (tgt := 93) hx hb d_Mo_exchange_80 (by decide) (by omega) (fun hc20 => ?_) (fun hc20 => ?_)
                  · refine lv_iinc (v := nI (j + 1)) (lv' := [(5, .int (nI (j + 1))), (4, .int (nI tu)), (3, .int (nI (42 * r + c9))), (0, .ref h0), (1, .int (nI r)), (2, .int (nI c9))]) hx hb d_Mo_exchange_93 hl (k := 0) rfl (show nI j + Int32.ofInt 1 = nI (j + 1) from (nI_add j 1).trans (congrArg nI (by omega))) (by decide) rfl (fun ls hl => ?_)
                    refine lv_goto (tgt := 63) hx hb d_Mo_exchange_96 (by decide) ?_
                    exact ih (j + 1) B3 X9 (by omega) (by omega) hT4 (exP_no hP (by omega)) _ _ (S.sub [0, 1, 2, 3, 4, 5, 6, 7, 8, 9] (by decide) rfl) ls (lv_sub hl [0, 1, 2, 3, 4, 5] rfl)
                  · refine lv_aload_n hx hb d_Mo_exchange_83 rfl (lv_at hl 3 rfl) ?_
                    refine lv_iload_n hx hb d_Mo_exchange_84 rfl (lv_at hl 4 rfl) ?_
                    refine lv_iload hx hb d_Mo_exchange_85 (lv_at hl 0 rfl) ?_
                    refine r_backi (wi := []) (wr := [(h0, .inr (8, moL ma (va_up (va_up (va_up (va_up (va_up (va_up (va_up (va_up iv 14 (nI un)) 24 (nI rows)) 25 (nI aims)) 19 (w 0)) 20 (w 1)) 21 (w 2)) 22 (w 3)) 23 (w 4)) co)), ((ma 21), .inl (k 0, 319840, .inl (fun i => nI (D i)))), ((ma 22), .inl (k 0, 3998, .inl (fun i => nI (Z i)))), ((ma 23), .inl (k 2, 3998, .inl (fun i => nI (B3 i)))), ((ma 24), .inl (k 0, 170, .inl (fun i => nI (O9 i)))), ((ma 25), .inl (k 0, 170, .inl (fun i => nI (T9 i)))), ((ma 26), .inl (k 0, 170, .inl (fun i => nI (Q9 i)))), ((ma 27), .inl (k 0, 170, .inl (fun i => nI (V9 i)))), ((ma 28), .inl (k 0, 90, .inl (fun i => nI (rn i)))), ((ma 29), .inl (k 0, 41, .inl (fun i => nI (cn i))))]) S hA [] [0, 1, 2, 3, 4, 5, 6, 7, 8, 9] rfl rfl (by decide) (by decide) (va_runS (As := [.int (nI r), .int (nI j)]) (rest := [.ref h0]) ⟨hx, hb, C.2.2.1, C.2.2.2.1, C.2.2.2.2.1⟩ (g_Mo_at l G k _ r j) (k_stat (n := 2) C wc_Mo_at rfl rfl wz_Mo wm_Mo_328 wt_Mo_at (by decide +kernel) ⟨(Nat.le_of_ble_eq_true rfl), (Nat.le_of_ble_eq_true rfl)⟩) (pr_now K S [] (by decide) rfl) rfl rfl hl.1 rfl (lv_room (Nat.le_of_ble_eq_true rfl)) d_Mo_exchange_87 ⟨(Nat.le_of_ble_eq_true rfl), (Nat.le_of_ble_eq_true rfl)⟩) (fun r23 u21 H locs hw22 S => ?_)
                    have S : Sw G A s.heap _ _ [(h0, .inr (8, moL ma (va_up (va_up (va_up (va_up (va_up (va_up (va_up (va_up iv 14 (nI un)) 24 (nI rows)) 25 (nI aims)) 19 (w 0)) 20 (w 1)) 21 (w 2)) 22 (w 3)) 23 (w 4)) co)), ((ma 21), .inl (k 0, 319840, .inl (fun i => nI (D i)))), ((ma 22), .inl (k 0, 3998, .inl (fun i => nI (Z i)))), ((ma 23), .inl (k 2, 3998, .inl (fun i => nI (B3 i)))), ((ma 24), .inl (k 0, 170, .inl (fun i => nI (O9 i)))), ((ma 25), .inl (k 0, 170, .inl (fun i => nI (T9 i)))), ((ma 26), .inl (k 0, 170, .inl (fun i => nI (Q9 i)))), ((ma 27), .inl (k 0, 170, .inl (fun i => nI (V9 i)))), ((ma 28), .inl (k 0, 90, .inl (fun i => nI (rn i)))), ((ma 29), .inl (k 0, 41, .inl (fun i => nI (cn i))))] := S
                    obtain rfl : r23 = nI (42 * r + j) := hw22
                    refine r_backv (wi := [(h0, .inr (8, moL ma (va_up (va_up (va_up (va_up (va_up (va_up (va_up (va_up iv 14 (nI un)) 24 (nI rows)) 25 (nI aims)) 19 (w 0)) 20 (w 1)) 21 (w 2)) 22 (w 3)) 23 (w 4)) co)), ((ma 22), .inl (k 0, 3998, .inl (fun i => nI (Z i)))), ((ma 23), .inl (k 2, 3998, .inl (fun i => nI (B3 i))))]) (wr := [((ma 21), .inl (k 0, 319840, .inl (fun i => nI (D i)))), ((ma 24), .inl (k 0, 170, .inl (fun i => nI (O9 i)))), ((ma 25), .inl (k 0, 170, .inl (fun i => nI (T9 i)))), ((ma 26), .inl (k 0, 170, .inl (fun i => nI (Q9 i)))), ((ma 27), .inl (k 0, 170, .inl (fun i => nI (V9 i)))), ((ma 28), .inl (k 0, 90, .inl (fun i => nI (rn i)))), ((ma 29), .inl (k 0, 41, .inl (fun i => nI (cn i))))]) S hA [0, 2, 3] [1, 4, 5, 6, 7, 8, 9] rfl rfl (by decide) (by decide) (va_runV (As := [.int (nI (42 * r + j))]) (rest := []) ⟨hx, hb, C.2.2.1, C.2.2.2.1, C.2.2.2.2.1⟩ (g_Mo_turn l G k h0 _ ma (va_up (va_up (va_up (va_up (va_up (va_up (va_up (va_up iv 14 (nI un)) 24 (nI rows)) 25 (nI aims)) 19 (w 0)) 20 (w 1)) 21 (w 2)) 22 (w 3)) 23 (w 4)) co Z B3 (42 * r + j) (by omega) (hT4.2 _ (by omega)).1 (hT4.2 _ (by omega)).2.1) (k_virt (n := 1) C wc_Mo_turn rfl rfl wz_Mo wm_Mo_343 wn_Mo_turn ws_Mo_turn (by decide +kernel) ⟨(Nat.le_of_ble_eq_true rfl), (Nat.le_of_ble_eq_true rfl)⟩) (pr_nowV K S [0, 2, 3] (by decide) rfl 0 rfl rfl) rfl rfl hl.1 rfl (lv_room (Nat.le_of_ble_eq_true rfl)) d_Mo_exchange_90 ⟨(Nat.le_of_ble_eq_true rfl), (Nat.le_of_ble_eq_true rfl)⟩) (fun tb H locs hw25 S => ?_)
                    have S : Sw G A s.heap _ _ [((ma 21), .inl (k 0, 319840, .inl (fun i => nI (D i)))), ((ma 24), .inl (k 0, 170, .inl (fun i => nI (O9 i)))), ((ma 25), .inl (k 0, 170, .inl (fun i => nI (T9 i)))), ((ma 26), .inl (k 0, 170, .inl (fun i => nI (Q9 i)))), ((ma 27), .inl (k 0, 170, .inl (fun i => nI (V9 i)))), ((ma 28), .inl (k 0, 90, .inl (fun i => nI (rn i)))), ((ma 29), .inl (k 0, 41, .inl (fun i => nI (cn i)))), (h0, .inr (8, moL ma (va_up (va_up (va_up (va_up (va_up (va_up (va_up (va_up iv 14 (nI un)) 24 (nI rows)) 25 (nI aims)) 19 (w 0)) 20 (w 1)) 21 (w 2)) 22 (w 3)) 23 (w 4)) co)), ((ma 22), .inl (k 0, 3998, .inl (fun i => nI (Z i)))), ((ma 23), .inl (k 2, 3998, .inl (fun i => nI (tb i))))] := S
                    obtain rfl : tb = va_up B3 (42 * r + j) (tnB (Z (42 * r + j)) (B3 (42 * r + j))) := hw25
                    have S : Sw G A s.heap _ _ [((ma 21), .inl (k 0, 319840, .inl (fun i => nI (D i)))), ((ma 24), .inl (k 0, 170, .inl (fun i => nI (O9 i)))), ((ma 25), .inl (k 0, 170, .inl (fun i => nI (T9 i)))), ((ma 26), .inl (k 0, 170, .inl (fun i => nI (Q9 i)))), ((ma 27), .inl (k 0, 170, .inl (fun i => nI (V9 i)))), ((ma 28), .inl (k 0, 90, .inl (fun i => nI (rn i)))), ((ma 29), .inl (k 0, 41, .inl (fun i => nI (cn i)))), (h0, .inr (8, moL ma (va_up (va_up (va_up (va_up (va_up (va_up (va_up (va_up iv 14 (nI un)) 24 (nI rows)) 25 (nI aims)) 19 (w 0)) 20 (w 1)) 21 (w 2)) 22 (w 3)) 23 (w 4)) co)), ((ma 22), .inl (k 0, 3998, .inl (fun i => nI (Z i)))), ((ma 23), .inl (k 2, 3998, .inl (fun i => nI ((va_up B3 (42 * r + j) (tnB (Z (42 * r + j)) (B3 (42 * r + j)))) i))))] := S
                    refine lv_iinc (v := nI (j + 1)) (lv' := [(5, .int (nI (j + 1))), (4, .int (nI tu)), (3, .int (nI (42 * r + c9))), (0, .ref h0), (1, .int (nI r)), (2, .int (nI c9))]) hx hb d_Mo_exchange_93 hl (k := 0) rfl (show nI j + Int32.ofInt 1 = nI (j + 1) from (nI_add j 1).trans (congrArg nI (by omega))) (by decide) rfl (fun ls hl => ?_)
                    refine lv_goto (tgt := 63) hx hb d_Mo_exchange_96 (by decide) ?_
                    exact ih (j + 1) (va_up B3 (42 * r + j) (tnB (Z (42 * r + j)) (B3 (42 * r + j)))) (va_up X9 (42 * r + j) (- X9 (42 * r + j))) (by omega) (by omega) (tbO_turn hT4 (by omega)) (exP_s hP (by omega) (by omega) (by omega)) _ _ (S.sub [7, 0, 8, 9, 1, 2, 3, 4, 5, 6] (by decide) rfl) ls (lv_sub hl [0, 1, 2, 3, 4, 5] rfl)
          exact lc _ 0 B U9 (Nat.lt_succ_self _) (by omega) hT2 (exP_0 ht1) _ _ (S.sub [0, 1, 2, 3, 4, 5, 6, 7, 8, 9] (by decide) rfl) ls (lv_sub hl [0, 1, 2, 3, 4, 5] rfl)
        · refine lv_iload hx hb d_Mo_exchange_38 (lv_at hl 0 rfl) ?_
          refine lv_iload_n hx hb d_Mo_exchange_40 rfl (lv_at hl 4 rfl) ?_
          refine z_icmp_eq (a := ri) (b := r) (tgt := 54) hx hb d_Mo_exchange_41 (by decide) (by omega) (by omega) (fun hc26 => ?_) (fun hc26 => ?_)
          · refine lv_iinc (v := nI (ri + 1)) (lv' := [(5, .int (nI (ri + 1))), (4, .int (nI tu)), (3, .int (nI (42 * r + c9))), (0, .ref h0), (1, .int (nI r)), (2, .int (nI c9))]) hx hb d_Mo_exchange_54 hl (k := 0) rfl (show nI ri + Int32.ofInt 1 = nI (ri + 1) from (nI_add ri 1).trans (congrArg nI (by omega))) (by decide) rfl (fun ls hl => ?_)
            refine lv_goto (tgt := 24) hx hb d_Mo_exchange_57 (by decide) ?_
            exact ih (ri + 1) D Z B O9 T9 Q9 V9 w U9 (by omega) (by omega) hT2 (by rw [hc26] at hK ⊢; exact exK_r hK) e1 e2 e3 e4 _ _ (S.sub [0, 1, 2, 3, 4, 5, 6, 7, 8, 9] (by decide) rfl) ls (lv_sub hl [0, 1, 2, 3, 4, 5] rfl)
          · refine lv_aload_n hx hb d_Mo_exchange_44 rfl (lv_at hl 3 rfl) ?_
            refine lv_iload hx hb d_Mo_exchange_45 (lv_at hl 0 rfl) ?_
            refine lv_iload_n hx hb d_Mo_exchange_47 rfl (lv_at hl 4 rfl) ?_
            refine lv_iload_n hx hb d_Mo_exchange_48 rfl (lv_at hl 5 rfl) ?_
            refine lv_iload hx hb d_Mo_exchange_49 (lv_at hl 1 rfl) ?_
            obtain ⟨k1, k2, k3⟩ := exF_K hu hsu (by omega) hF hK (by omega) (show ri ≠ r by omega)
            refine r_backv (wi := [(h0, .inr (8, moL ma (va_up (va_up (va_up (va_up (va_up (va_up (va_up (va_up iv 24 (nI rows)) 25 (nI aims)) 19 (w 0)) 20 (w 1)) 21 (w 2)) 22 (w 3)) 23 (w 4)) 14 (nI un)) co)), ((ma 21), .inl (k 0, 319840, .inl (fun i => nI (D i)))), ((ma 22), .inl (k 0, 3998, .inl (fun i => nI (Z i)))), ((ma 23), .inl (k 2, 3998, .inl (fun i => nI (B i)))), ((ma 24), .inl (k 0, 170, .inl (fun i => nI (O9 i)))), ((ma 25), .inl (k 0, 170, .inl (fun i => nI (T9 i)))), ((ma 26), .inl (k 0, 170, .inl (fun i => nI (Q9 i)))), ((ma 27), .inl (k 0, 170, .inl (fun i => nI (V9 i))))]) (wr := [((ma 28), .inl (k 0, 90, .inl (fun i => nI (rn i)))), ((ma 29), .inl (k 0, 41, .inl (fun i => nI (cn i))))]) S hA [0, 1, 2, 3, 4, 5, 6, 7] [8, 9] rfl rfl (by decide) (by decide) (va_runV (As := [.int (nI ri), .int (nI r), .int (nI c9), .int (nI tu)]) (rest := []) ⟨hx, hb, C.2.2.1, C.2.2.2.1, C.2.2.2.2.1⟩ (g_Mo_rowBy l G k h0 _ ri r c9 tu un ma (va_up (va_up (va_up (va_up (va_up (va_up (va_up iv 24 (nI rows)) 25 (nI aims)) 19 (w 0)) 20 (w 1)) 21 (w 2)) 22 (w 3)) 23 (w 4)) co D Z B O9 T9 Q9 V9 U9 hT2 (by omega) (by omega) (by omega) hsu hu (by rw [k1]; exact h1) (by rw [k2]; exact htu) k3 e1 e2 e3 e4) (k_virt (n := 4) C wc_Mo_rowBy rfl rfl wz_Mo wm_Mo_339 wn_Mo_rowBy ws_Mo_rowBy (by decide +kernel) ⟨(Nat.le_of_ble_eq_true rfl), (Nat.le_of_ble_eq_true rfl)⟩) (pr_nowV K S [0, 1, 2, 3, 4, 5, 6, 7] (by decide) rfl 0 rfl rfl) rfl rfl hl.1 rfl (lv_room (Nat.le_of_ble_eq_true rfl)) d_Mo_exchange_51 ⟨(Nat.le_of_ble_eq_true rfl), (Nat.le_of_ble_eq_true rfl)⟩) (fun ru H locs hw27 S => ?_)
            have S : Sw G A s.heap _ _ [((ma 28), .inl (k 0, 90, .inl (fun i => nI (rn i)))), ((ma 29), .inl (k 0, 41, .inl (fun i => nI (cn i)))), (h0, .inr (8, moL ma (va_up (va_up (va_up (va_up (va_up (va_up (va_up (va_up iv 24 (nI rows)) 25 (nI aims)) 14 (nI un)) 19 (ru.2 0)) 20 (ru.2 1)) 21 (ru.2 2)) 22 (ru.2 3)) 23 (ru.2 4)) co)), ((ma 21), .inl (k 0, 319840, .inl (fun i => nI (ru.1 0 i)))), ((ma 22), .inl (k 0, 3998, .inl (fun i => nI (ru.1 1 i)))), ((ma 23), .inl (k 2, 3998, .inl (fun i => nI (ru.1 2 i)))), ((ma 24), .inl (k 0, 170, .inl (fun i => nI (ru.1 3 i)))), ((ma 25), .inl (k 0, 170, .inl (fun i => nI (ru.1 4 i)))), ((ma 26), .inl (k 0, 170, .inl (fun i => nI (ru.1 5 i)))), ((ma 27), .inl (k 0, 170, .inl (fun i => nI (ru.1 6 i))))] := S
            obtain ⟨hT3, a1, a2, a3, a4⟩ := hw27
            refine lv_iinc (v := nI (ri + 1)) (lv' := [(5, .int (nI (ri + 1))), (4, .int (nI tu)), (3, .int (nI (42 * r + c9))), (0, .ref h0), (1, .int (nI r)), (2, .int (nI c9))]) hx hb d_Mo_exchange_54 hl (k := 0) rfl (show nI ri + Int32.ofInt 1 = nI (ri + 1) from (nI_add ri 1).trans (congrArg nI (by omega))) (by decide) rfl (fun ls hl => ?_)
            refine lv_goto (tgt := 24) hx hb d_Mo_exchange_57 (by decide) ?_
            exact ih (ri + 1) (ru.1 0) (ru.1 1) (ru.1 2) (ru.1 3) (ru.1 4) (ru.1 5) (ru.1 6) ru.2 (rbF un r c9 ri U9) (by omega) (by omega) hT3 (exK_s hu (by omega) (by omega) (by omega) hK) a1 a2 a3 a4 _ _ (S.sub [2, 3, 4, 5, 6, 7, 8, 9, 0, 1] (by decide) rfl) ls (lv_sub hl [0, 1, 2, 3, 4, 5] rfl)
    exact lp _ 0 dg sz bl O T2 qt Dv (fun j => iv (19 + j)) T (Nat.lt_succ_self _) (by omega) hT (exK_0 _ _ _ _) dO d2 dQ dD _ _ (S.sub [7, 0, 8, 9, 1, 2, 3, 4, 5, 6] (by decide) rfl) ls (lv_sub hl [0, 1, 2, 3, 4, 5] rfl)
  refine lv_if_le (tgt := 18) hx hb d_Mo_exchange_11 (by decide) (fun hc28 => ?_) (fun hc28 => ?_)
  · refine lv_iconst (v := 0) hx hb d_Mo_exchange_18 (by decide) ?_
    rw [sgN_val (hT.2 (42 * r + c9) (by omega))] at hc28
    exact go9 0 (by rw [if_neg (sg_le hc28)]) _ _ (S.sub [0, 1, 2, 3, 4, 5, 6, 7, 8, 9] (by decide) rfl) ls (lv_sub hl [0, 1, 2, 3] rfl)
  · refine lv_iconst (v := 1) hx hb d_Mo_exchange_14 (by decide) ?_
    refine lv_goto (tgt := 19) hx hb d_Mo_exchange_15 (by decide) ?_
    rw [sgN_val (hT.2 (42 * r + c9) (by omega))] at hc28
    exact go9 1 (by rw [if_pos (sg_gt hc28)]) _ _ (S.sub [0, 1, 2, 3, 4, 5, 6, 7, 8, 9] (by decide) rfl) ls (lv_sub hl [0, 1, 2, 3] rfl)
