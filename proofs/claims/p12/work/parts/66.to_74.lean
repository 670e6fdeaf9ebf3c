section
theorem sg_le {z : Int} (h : (if z = 0 then 0 else if z < 0 then -1 else 1 : Int32) ≤ 0) : ¬ 0 < z := by
  intro q
  rw [if_neg (by omega), if_neg (by omega)] at h
  exact absurd h (by decide)
theorem sg_gt {z : Int} (h : ¬ (if z = 0 then 0 else if z < 0 then -1 else 1 : Int32) ≤ 0) : 0 < z := by
  apply Classical.byContradiction
  intro q
  by_cases w : z = 0
  · rw [if_pos w] at h; exact h (by decide)
  · rw [if_neg w, if_pos (by omega)] at h; exact h (by decide)
theorem sg_lt {z : Int} (h : (if z = 0 then 0 else if z < 0 then -1 else 1 : Int32) < 0) : z < 0 := by
  apply Classical.byContradiction
  intro q
  by_cases w : z = 0
  · rw [if_pos w] at h; exact absurd h (by decide)
  · rw [if_neg w, if_neg q] at h; exact absurd h (by decide)
theorem sg_nlt {z : Int} (h : ¬ (if z = 0 then 0 else if z < 0 then -1 else 1 : Int32) < 0) : ¬ z < 0 := by
  intro q
  rw [if_neg (by omega), if_pos q] at h
  exact h (by decide)
theorem sg_eq {z : Int} (h : (if z = 0 then 0 else if z < 0 then -1 else 1 : Int32) = 0) : z = 0 := by
  apply Classical.byContradiction
  intro q
  rw [if_neg q] at h
  split at h
  · exact absurd h (by decide)
  · exact absurd h (by decide)
theorem sg_ne {z : Int} (h : ¬ (if z = 0 then 0 else if z < 0 then -1 else 1 : Int32) = 0) : z ≠ 0 := by
  intro q
  rw [if_pos q] at h
  exact h rfl
theorem exF_K {un M r c9 k9 : Nat} {T U : Nat → Int} (hu : un ≤ 40) (hc : c9 ≤ un) (hM : M ≤ 95) (hF : exF un M r c9 T) (h : exK un r c9 k9 T U) (hk : k9 < M) (hr : k9 ≠ r) : U 3997 = T 3997 ∧ U (42 * r + c9) = T (42 * r + c9) ∧ ∀ j, isC un j → j ≠ c9 → ∃ z : Int, U (42 * r + c9) * U (42 * k9 + j) - U (42 * k9 + c9) * U (42 * r + j) = U 3997 * z ∧ z.natAbs < 65536 ^ 80 := by
  have e1 : U 3997 = T 3997 := h.2.1 _ (by omega)
  have e2 : U (42 * r + c9) = T (42 * r + c9) := h.2.2 _ (by omega) (by omega)
  refine ⟨e1, e2, fun j hj hjc => ?_⟩
  have hj2 := isC_lt hu hj
  rw [e1, e2, h.2.1 (42 * k9 + j) (by omega), h.2.1 (42 * k9 + c9) (by omega), h.2.2 (42 * r + j) (by omega) (by omega)]
  exact hF k9 hk hr j hj hjc
theorem exQ_skip {un r c9 : Nat} {U X : Nat → Int} (h : exQ un r c9 (un + 1) U X) (hu : un ≤ 40) : exQ un r c9 41 U X :=
  ⟨fun j hj h1 h2 => h.1 j (by rcases h1 with w | w <;> omega) h1 h2, fun j hj => h.2.1 j (by omega), h.2.2.1, h.2.2.2⟩
/-- row r is turned about where the number on the cross is above 0 -/
def exP (un r c9 k9 tu : Nat) (U X : Nat → Int) : Prop := (tu = 1 ∧ exQ un r c9 k9 U X) ∨ (tu = 0 ∧ X = U)
theorem exP_out {un r c9 k9 tu : Nat} {U X : Nat → Int} (h : exP un r c9 k9 tu U X) {c : Nat} (hc : c < 42 * r ∨ 42 * r + 42 ≤ c) : X c = U c := by
  rcases h with h | h
  · exact h.2.2.2.2 c hc
  · rw [h.2]
theorem exP_col {un r c9 k9 tu : Nat} {U X : Nat → Int} (h : exP un r c9 k9 tu U X) : X (42 * r + c9) = U (42 * r + c9) := by
  rcases h with h | h
  · exact h.2.2.2.1
  · rw [h.2]
theorem exP_0 {un r c9 tu : Nat} {U : Nat → Int} (h : tu ≤ 1) : exP un r c9 0 tu U U := by
  rcases (show tu = 1 ∨ tu = 0 by omega) with q | q
  · exact Or.inl ⟨q, exQ_0 _ _ _ _⟩
  · exact Or.inr ⟨q, rfl⟩
theorem exP_no {un r c9 k9 tu : Nat} {U X : Nat → Int} (h : exP un r c9 k9 tu U X) (hk : k9 = c9 ∨ tu = 0) : exP un r c9 (k9 + 1) tu U X := by
  rcases h with h | h
  · rcases hk with q | q
    · exact Or.inl ⟨h.1, exQ_no h.2 (fun w => w.2 q)⟩
    · exact absurd h.1 (by omega)
  · exact Or.inr h
theorem exP_s {un r c9 k9 tu : Nat} {U X : Nat → Int} (h : exP un r c9 k9 tu U X) (hk : k9 ≠ c9) (ht : tu ≠ 0) (h2 : k9 < 42) : exP un r c9 (k9 + 1) tu U (va_up X (42 * r + k9) (- X (42 * r + k9))) := by
  rcases h with h | h
  · exact Or.inl ⟨h.1, exQ_s h.2 hk h2⟩
  · exact absurd h.1 ht
theorem exP_all {un r c9 tu : Nat} {U X : Nat → Int} (hu : un ≤ 40) (h : exP un r c9 (un + 1) tu U X) : exP un r c9 41 tu U X := by
  rcases h with h | h
  · exact Or.inl ⟨h.1, exQ_skip h.2 hu⟩
  · exact Or.inr h
theorem exP_done {un M r c9 tu : Nat} {T U X : Nat → Int} (hu : un ≤ 40) (hs : c9 ≤ un) (hM : M ≤ 95) (hr : r < M) (h : exK un r c9 M T U) (htu : tu = if 0 < T (42 * r + c9) then 1 else 0) (h2 : exP un r c9 42 tu U X) : exOK un M r c9 T (va_up (va_up X (42 * r + c9) (if tu = 1 then X 3997 else - X 3997)) 3997 ((X (42 * r + c9)).natAbs : Int)) := by
  have e1 : X 3997 = T 3997 := by rw [exP_out h2 (by omega)]; exact h.2.1 _ (by omega)
  have e2 : X (42 * r + c9) = T (42 * r + c9) := by rw [exP_col h2]; exact h.2.2 _ (by omega) (by omega)
  refine exOK_of hu hs hM hr h (W := X) ?_ ?_ (by rw [e2])
  · by_cases q : 0 < T (42 * r + c9)
    · rw [if_pos q] at htu
      rcases h2 with h2 | h2
      · exact Or.inl ⟨q, h2.2⟩
      · exact absurd h2.1 (by omega)
    · rw [if_neg q] at htu
      rcases h2 with h2 | h2
      · exact absurd h2.1 (by omega)
      · exact Or.inr ⟨q, h2.2⟩
  · rw [e1]
    unfold sxS
    by_cases q : 0 < T (42 * r + c9)
    · rw [if_pos q] at htu ⊢
      rw [if_pos htu, Int.one_mul]
    · rw [if_neg q] at htu ⊢
      rw [if_neg (by omega)]
      omega
theorem d_Mo_exchange_0 : decode c_Mo_exchange 0 = .ok (.iload_n 1, 1) := by decide +kernel
theorem d_Mo_exchange_1 : decode c_Mo_exchange 1 = .ok (.iload_n 2, 1) := by decide +kernel
theorem d_Mo_exchange_2 : decode c_Mo_exchange 2 = .ok (.invokestatic 328, 3) := by decide +kernel
theorem d_Mo_exchange_5 : decode c_Mo_exchange 5 = .ok (.istore_n 3, 1) := by decide +kernel
theorem d_Mo_exchange_6 : decode c_Mo_exchange 6 = .ok (.aload_n 0, 1) := by decide +kernel
theorem d_Mo_exchange_7 : decode c_Mo_exchange 7 = .ok (.iload_n 3, 1) := by decide +kernel
theorem d_Mo_exchange_8 : decode c_Mo_exchange 8 = .ok (.invokevirtual 330, 3) := by decide +kernel
theorem d_Mo_exchange_11 : decode c_Mo_exchange 11 = .ok (.ifCond .le 7, 3) := by decide +kernel
theorem d_Mo_exchange_14 : decode c_Mo_exchange 14 = .ok (.iconst 1, 1) := by decide +kernel
theorem d_Mo_exchange_15 : decode c_Mo_exchange 15 = .ok (.goto 4, 3) := by decide +kernel
theorem d_Mo_exchange_18 : decode c_Mo_exchange 18 = .ok (.iconst 0, 1) := by decide +kernel
theorem d_Mo_exchange_19 : decode c_Mo_exchange 19 = .ok (.istore 4, 2) := by decide +kernel
theorem d_Mo_exchange_21 : decode c_Mo_exchange 21 = .ok (.iconst 0, 1) := by decide +kernel
theorem d_Mo_exchange_22 : decode c_Mo_exchange 22 = .ok (.istore 5, 2) := by decide +kernel
theorem d_Mo_exchange_24 : decode c_Mo_exchange 24 = .ok (.iload 5, 2) := by decide +kernel
theorem d_Mo_exchange_26 : decode c_Mo_exchange 26 = .ok (.aload_n 0, 1) := by decide +kernel
theorem d_Mo_exchange_27 : decode c_Mo_exchange 27 = .ok (.getfield 333, 3) := by decide +kernel
theorem d_Mo_exchange_30 : decode c_Mo_exchange 30 = .ok (.aload_n 0, 1) := by decide +kernel
theorem d_Mo_exchange_31 : decode c_Mo_exchange 31 = .ok (.getfield 336, 3) := by decide +kernel
theorem d_Mo_exchange_34 : decode c_Mo_exchange 34 = .ok (.iadd, 1) := by decide +kernel
theorem d_Mo_exchange_35 : decode c_Mo_exchange 35 = .ok (.if_icmp .ge 25, 3) := by decide +kernel
theorem d_Mo_exchange_38 : decode c_Mo_exchange 38 = .ok (.iload 5, 2) := by decide +kernel
theorem d_Mo_exchange_40 : decode c_Mo_exchange 40 = .ok (.iload_n 1, 1) := by decide +kernel
theorem d_Mo_exchange_41 : decode c_Mo_exchange 41 = .ok (.if_icmp .eq 13, 3) := by decide +kernel
theorem d_Mo_exchange_44 : decode c_Mo_exchange 44 = .ok (.aload_n 0, 1) := by decide +kernel
theorem d_Mo_exchange_45 : decode c_Mo_exchange 45 = .ok (.iload 5, 2) := by decide +kernel
theorem d_Mo_exchange_47 : decode c_Mo_exchange 47 = .ok (.iload_n 1, 1) := by decide +kernel
theorem d_Mo_exchange_48 : decode c_Mo_exchange 48 = .ok (.iload_n 2, 1) := by decide +kernel
theorem d_Mo_exchange_49 : decode c_Mo_exchange 49 = .ok (.iload 4, 2) := by decide +kernel
theorem d_Mo_exchange_51 : decode c_Mo_exchange 51 = .ok (.invokevirtual 339, 3) := by decide +kernel
theorem d_Mo_exchange_54 : decode c_Mo_exchange 54 = .ok (.iinc 5 1, 3) := by decide +kernel
theorem d_Mo_exchange_57 : decode c_Mo_exchange 57 = .ok (.goto (-33), 3) := by decide +kernel
theorem d_Mo_exchange_60 : decode c_Mo_exchange 60 = .ok (.iconst 0, 1) := by decide +kernel
theorem d_Mo_exchange_61 : decode c_Mo_exchange 61 = .ok (.istore 5, 2) := by decide +kernel
theorem d_Mo_exchange_63 : decode c_Mo_exchange 63 = .ok (.iload 5, 2) := by decide +kernel
theorem d_Mo_exchange_65 : decode c_Mo_exchange 65 = .ok (.aload_n 0, 1) := by decide +kernel
theorem d_Mo_exchange_66 : decode c_Mo_exchange 66 = .ok (.getfield 192, 3) := by decide +kernel
theorem d_Mo_exchange_69 : decode c_Mo_exchange 69 = .ok (.if_icmp .gt 30, 3) := by decide +kernel
theorem d_Mo_exchange_72 : decode c_Mo_exchange 72 = .ok (.iload 5, 2) := by decide +kernel
theorem d_Mo_exchange_74 : decode c_Mo_exchange 74 = .ok (.iload_n 2, 1) := by decide +kernel
theorem d_Mo_exchange_75 : decode c_Mo_exchange 75 = .ok (.if_icmp .eq 18, 3) := by decide +kernel
theorem d_Mo_exchange_78 : decode c_Mo_exchange 78 = .ok (.iload 4, 2) := by decide +kernel
theorem d_Mo_exchange_80 : decode c_Mo_exchange 80 = .ok (.ifCond .eq 13, 3) := by decide +kernel
theorem d_Mo_exchange_83 : decode c_Mo_exchange 83 = .ok (.aload_n 0, 1) := by decide +kernel
theorem d_Mo_exchange_84 : decode c_Mo_exchange 84 = .ok (.iload_n 1, 1) := by decide +kernel
theorem d_Mo_exchange_85 : decode c_Mo_exchange 85 = .ok (.iload 5, 2) := by decide +kernel
theorem d_Mo_exchange_87 : decode c_Mo_exchange 87 = .ok (.invokestatic 328, 3) := by decide +kernel
theorem d_Mo_exchange_90 : decode c_Mo_exchange 90 = .ok (.invokevirtual 343, 3) := by decide +kernel
theorem d_Mo_exchange_93 : decode c_Mo_exchange 93 = .ok (.iinc 5 1, 3) := by decide +kernel
theorem d_Mo_exchange_96 : decode c_Mo_exchange 96 = .ok (.goto (-33), 3) := by decide +kernel
theorem d_Mo_exchange_99 : decode c_Mo_exchange 99 = .ok (.iload 4, 2) := by decide +kernel
theorem d_Mo_exchange_101 : decode c_Mo_exchange 101 = .ok (.ifCond .eq 13, 3) := by decide +kernel
theorem d_Mo_exchange_104 : decode c_Mo_exchange 104 = .ok (.aload_n 0, 1) := by decide +kernel
theorem d_Mo_exchange_105 : decode c_Mo_exchange 105 = .ok (.iload_n 1, 1) := by decide +kernel
theorem d_Mo_exchange_106 : decode c_Mo_exchange 106 = .ok (.bipush 41, 2) := by decide +kernel
theorem d_Mo_exchange_108 : decode c_Mo_exchange 108 = .ok (.invokestatic 328, 3) := by decide +kernel
theorem d_Mo_exchange_111 : decode c_Mo_exchange 111 = .ok (.invokevirtual 343, 3) := by decide +kernel
theorem d_Mo_exchange_114 : decode c_Mo_exchange 114 = .ok (.aload_n 0, 1) := by decide +kernel
theorem d_Mo_exchange_115 : decode c_Mo_exchange 115 = .ok (.iload_n 3, 1) := by decide +kernel
theorem d_Mo_exchange_116 : decode c_Mo_exchange 116 = .ok (.iload 4, 2) := by decide +kernel
theorem d_Mo_exchange_118 : decode c_Mo_exchange 118 = .ok (.invokevirtual 346, 3) := by decide +kernel
theorem d_Mo_exchange_121 : decode c_Mo_exchange 121 = .ok (.aload_n 0, 1) := by decide +kernel
theorem d_Mo_exchange_122 : decode c_Mo_exchange 122 = .ok (.getfield 105, 3) := by decide +kernel
theorem d_Mo_exchange_125 : decode c_Mo_exchange 125 = .ok (.iload_n 1, 1) := by decide +kernel
theorem d_Mo_exchange_126 : decode c_Mo_exchange 126 = .ok (.iaload, 1) := by decide +kernel
theorem d_Mo_exchange_127 : decode c_Mo_exchange 127 = .ok (.istore 5, 2) := by decide +kernel
theorem d_Mo_exchange_129 : decode c_Mo_exchange 129 = .ok (.aload_n 0, 1) := by decide +kernel
theorem d_Mo_exchange_130 : decode c_Mo_exchange 130 = .ok (.getfield 105, 3) := by decide +kernel
theorem d_Mo_exchange_133 : decode c_Mo_exchange 133 = .ok (.iload_n 1, 1) := by decide +kernel
theorem d_Mo_exchange_134 : decode c_Mo_exchange 134 = .ok (.aload_n 0, 1) := by decide +kernel
theorem d_Mo_exchange_135 : decode c_Mo_exchange 135 = .ok (.getfield 108, 3) := by decide +kernel
theorem d_Mo_exchange_138 : decode c_Mo_exchange 138 = .ok (.iload_n 2, 1) := by decide +kernel
theorem d_Mo_exchange_139 : decode c_Mo_exchange 139 = .ok (.iaload, 1) := by decide +kernel
theorem d_Mo_exchange_140 : decode c_Mo_exchange 140 = .ok (.iastore, 1) := by decide +kernel
theorem d_Mo_exchange_141 : decode c_Mo_exchange 141 = .ok (.aload_n 0, 1) := by decide +kernel
theorem d_Mo_exchange_142 : decode c_Mo_exchange 142 = .ok (.getfield 108, 3) := by decide +kernel
theorem d_Mo_exchange_145 : decode c_Mo_exchange 145 = .ok (.iload_n 2, 1) := by decide +kernel
theorem d_Mo_exchange_146 : decode c_Mo_exchange 146 = .ok (.iload 5, 2) := by decide +kernel
theorem d_Mo_exchange_148 : decode c_Mo_exchange 148 = .ok (.iastore, 1) := by decide +kernel
theorem d_Mo_exchange_149 : decode c_Mo_exchange 149 = .ok (.return_, 1) := by decide +kernel
set_option maxRecDepth 100000 in
set_option maxHeartbeats 16000000 in
/-- exchange(r, c9) -/
theorem g_Mo_exchange (l : Launch) (G : va_G) (k : Nat → ClassId) (h0 : Nat) (s0 : Nat) (r : Nat) (c9 : Nat) (un : Nat) (rows : Nat) (aims : Nat) (ma : Nat → Nat) (iv : Nat → Int32) (co : Int64) (dg : Nat → Nat) (sz : Nat → Nat) (bl : Nat → Nat) (O : Nat → Nat) (T2 : Nat → Nat) (qt : Nat → Nat) (Dv : Nat → Nat) (rn : Nat → Nat) (cn : Nat → Nat) (T : Nat → Int) (hT : tbO dg sz bl T) (hr : r < rows) (hro : rows ≤ 90) (hai : aims ≤ 5) (hsu : c9 ≤ un) (hu : un ≤ 40) (h1 : 0 < T 3997) (hF : exF un (rows + aims) r c9 T) (dO : ∀ i, i < 170 → O i < 65536) (d2 : ∀ i, i < 170 → T2 i < 65536) (dQ : ∀ i, i < 170 → qt i < 65536) (dD : ∀ i, i < 170 → Dv i < 65536) : CV l y_Mo_exchange c_Mo_exchange 6 { frames := 5, cells := 0, slots := 0, locals := 192 } [.ref h0, .int (nI r), .int (nI c9)] G k s0 [(h0, .inr (8, moL ma (va_up (va_up (va_up iv 14 (nI un)) 24 (nI rows)) 25 (nI aims)) co)), ((ma 21), .inl (k 0, 319840, .inl (fun i => nI (dg i)))), ((ma 22), .inl (k 0, 3998, .inl (fun i => nI (sz i)))), ((ma 23), .inl (k 2, 3998, .inl (fun i => nI (bl i)))), ((ma 24), .inl (k 0, 170, .inl (fun i => nI (O i)))), ((ma 25), .inl (k 0, 170, .inl (fun i => nI (T2 i)))), ((ma 26), .inl (k 0, 170, .inl (fun i => nI (qt i)))), ((ma 27), .inl (k 0, 170, .inl (fun i => nI (Dv i)))), ((ma 28), .inl (k 0, 90, .inl (fun i => nI (rn i)))), ((ma 29), .inl (k 0, 41, .inl (fun i => nI (cn i))))] (fun (u : (Nat → Nat → Nat) × (Nat → Int32)) => (∃ W9, tbO (u.1 0) (u.1 1) (u.1 2) W9 ∧ exOK un (rows + aims) r c9 T W9) ∧ (∀ i, i < 170 → u.1 3 i < 65536) ∧ (∀ i, i < 170 → u.1 4 i < 65536) ∧ (∀ i, i < 170 → u.1 5 i < 65536) ∧ (∀ i, i < 170 → u.1 6 i < 65536)) (fun u => [(h0, .inr (8, moL ma (va_up (va_up (va_up (va_up (va_up (va_up (va_up (va_up iv 14 (nI un)) 24 (nI rows)) 25 (nI aims)) 19 (u.2 0)) 20 (u.2 1)) 21 (u.2 2)) 22 (u.2 3)) 23 (u.2 4)) co)), ((ma 21), .inl (k 0, 319840, .inl (fun i => nI (u.1 0 i)))), ((ma 22), .inl (k 0, 3998, .inl (fun i => nI (u.1 1 i)))), ((ma 23), .inl (k 2, 3998, .inl (fun i => nI (u.1 2 i)))), ((ma 24), .inl (k 0, 170, .inl (fun i => nI (u.1 3 i)))), ((ma 25), .inl (k 0, 170, .inl (fun i => nI (u.1 4 i)))), ((ma 26), .inl (k 0, 170, .inl (fun i => nI (u.1 5 i)))), ((ma 27), .inl (k 0, 170, .inl (fun i => nI (u.1 6 i)))), ((ma 28), .inl (k 0, 90, .inl (fun i => nI ((va_up rn r (cn c9)) i)))), ((ma 29), .inl (k 0, 41, .inl (fun i => nI ((va_up cn c9 (rn r)) i))))]) 0 0 := by
  refine met_start (by decide) (Nat.le_of_ble_eq_true rfl) ?_
  intro p e s m below meth c C K hA hsz S ls hl
  generalize va_A [(h0, .inr (8, moL ma (va_up (va_up (va_up iv 14 (nI un)) 24 (nI rows)) 25 (nI aims)) co)), ((ma 21), .inl (k 0, 319840, .inl (fun i => nI (dg i)))), ((ma 22), .inl (k 0, 3998, .inl (fun i => nI (sz i)))), ((ma 23), .inl (k 2, 3998, .inl (fun i => nI (bl i)))), ((ma 24), .inl (k 0, 170, .inl (fun i => nI (O i)))), ((ma 25), .inl (k 0, 170, .inl (fun i => nI (T2 i)))), ((ma 26), .inl (k 0, 170, .inl (fun i => nI (qt i)))), ((ma 27), .inl (k 0, 170, .inl (fun i => nI (Dv i)))), ((ma 28), .inl (k 0, 90, .inl (fun i => nI (rn i)))), ((ma 29), .inl (k 0, 41, .inl (fun i => nI (cn i))))] s0 = A at hA S ⊢
  have hx := C.1
  have hb := C.2.1
  have hl : lv_has ls 6 [(0, .ref h0), (1, .int (nI r)), (2, .int (nI c9))] := hl
  refine lv_iload_n hx hb d_Mo_exchange_0 rfl (lv_at hl 1 rfl) ?_
  refine lv_iload_n hx hb d_Mo_exchange_1 rfl (lv_at hl 2 rfl) ?_
  refine r_backi (wi := []) (wr := [(h0, .inr (8, moL ma (va_up (va_up (va_up iv 14 (nI un)) 24 (nI rows)) 25 (nI aims)) co)), ((ma 21), .inl (k 0, 319840, .inl (fun i => nI (dg i)))), ((ma 22), .inl (k 0, 3998, .inl (fun i => nI (sz i)))), ((ma 23), .inl (k 2, 3998, .inl (fun i => nI (bl i)))), ((ma 24), .inl (k 0, 170, .inl (fun i => nI (O i)))), ((ma 25), .inl (k 0, 170, .inl (fun i => nI (T2 i)))), ((ma 26), .inl (k 0, 170, .inl (fun i => nI (qt i)))), ((ma 27), .inl (k 0, 170, .inl (fun i => nI (Dv i)))), ((ma 28), .inl (k 0, 90, .inl (fun i => nI (rn i)))), ((ma 29), .inl (k 0, 41, .inl (fun i => nI (cn i))))]) S hA [] [0, 1, 2, 3, 4, 5, 6, 7, 8, 9] rfl rfl (by decide) (by decide) (va_runS (As := [.int (nI r), .int (nI c9)]) (rest := []) ⟨hx, hb, C.2.2.1, C.2.2.2.1, C.2.2.2.2.1⟩ (g_Mo_at l G k _ r c9) (k_stat (n := 2) C wc_Mo_at rfl rfl wz_Mo wm_Mo_328 wt_Mo_at (by decide +kernel) ⟨(Nat.le_of_ble_eq_true rfl), (Nat.le_of_ble_eq_true rfl)⟩) (pr_now K S [] (by decide) rfl) rfl rfl hl.1 rfl (lv_room (Nat.le_of_ble_eq_true rfl)) d_Mo_exchange_2 ⟨(Nat.le_of_ble_eq_true rfl), (Nat.le_of_ble_eq_true rfl)⟩) (fun r3 u1 H locs hw2 S => ?_)
  have S : Sw G A s.heap _ _ [(h0, .inr (8, moL ma (va_up (va_up (va_up iv 14 (nI un)) 24 (nI rows)) 25 (nI aims)) co)), ((ma 21), .inl (k 0, 319840, .inl (fun i => nI (dg i)))), ((ma 22), .inl (k 0, 3998, .inl (fun i => nI (sz i)))), ((ma 23), .inl (k 2, 3998, .inl (fun i => nI (bl i)))), ((ma 24), .inl (k 0, 170, .inl (fun i => nI (O i)))), ((ma 25), .inl (k 0, 170, .inl (fun i => nI (T2 i)))), ((ma 26), .inl (k 0, 170, .inl (fun i => nI (qt i)))), ((ma 27), .inl (k 0, 170, .inl (fun i => nI (Dv i)))), ((ma 28), .inl (k 0, 90, .inl (fun i => nI (rn i)))), ((ma 29), .inl (k 0, 41, .inl (fun i => nI (cn i))))] := S
  obtain rfl : r3 = nI (42 * r + c9) := hw2
  refine lv_istore_n (lv' := [(3, .int (nI (42 * r + c9))), (0, .ref h0), (1, .int (nI r)), (2, .int (nI c9))]) hx hb d_Mo_exchange_5 rfl hl (by decide) rfl (fun ls hl => ?_)
  refine lv_aload_n hx hb d_Mo_exchange_6 rfl (lv_at hl 1 rfl) ?_
  refine lv_iload_n hx hb d_Mo_exchange_7 rfl (lv_at hl 0 rfl) ?_
  refine r_backi (wi := [(h0, .inr (8, moL ma (va_up (va_up (va_up iv 14 (nI un)) 24 (nI rows)) 25 (nI aims)) co)), ((ma 22), .inl (k 0, 3998, .inl (fun i => nI (sz i)))), ((ma 23), .inl (k 2, 3998, .inl (fun i => nI (bl i))))]) (wr := [((ma 21), .inl (k 0, 319840, .inl (fun i => nI (dg i)))), ((ma 24), .inl (k 0, 170, .inl (fun i => nI (O i)))), ((ma 25), .inl (k 0, 170, .inl (fun i => nI (T2 i)))), ((ma 26), .inl (k 0, 170, .inl (fun i => nI (qt i)))), ((ma 27), .inl (k 0, 170, .inl (fun i => nI (Dv i)))), ((ma 28), .inl (k 0, 90, .inl (fun i => nI (rn i)))), ((ma 29), .inl (k 0, 41, .inl (fun i => nI (cn i))))]) S hA [0, 2, 3] [1, 4, 5, 6, 7, 8, 9] rfl rfl (by decide) (by decide) (va_runV (As := [.int (nI (42 * r + c9))]) (rest := []) ⟨hx, hb, C.2.2.1, C.2.2.2.1, C.2.2.2.2.1⟩ (g_Mo_signOf l G k h0 _ ma (va_up (va_up (va_up iv 14 (nI un)) 24 (nI rows)) 25 (nI aims)) co sz bl (42 * r + c9) (by omega) (hT.2 _ (by omega)).1 (hT.2 _ (by omega)).2.1) (k_virt (n := 1) C wc_Mo_signOf rfl rfl wz_Mo wm_Mo_330 wn_Mo_signOf ws_Mo_signOf (by decide +kernel) ⟨(Nat.le_of_ble_eq_true rfl), (Nat.le_of_ble_eq_true rfl)⟩) (pr_nowV K S [0, 2, 3] (by decide) rfl 0 rfl rfl) rfl rfl hl.1 rfl (lv_room (Nat.le_of_ble_eq_true rfl)) d_Mo_exchange_8 ⟨(Nat.le_of_ble_eq_true rfl), (Nat.le_of_ble_eq_true rfl)⟩) (fun r7 u5 H locs hw6 S => ?_)
  have S : Sw G A s.heap _ _ [((ma 21), .inl (k 0, 319840, .inl (fun i => nI (dg i)))), ((ma 24), .inl (k 0, 170, .inl (fun i => nI (O i)))), ((ma 25), .inl (k 0, 170, .inl (fun i => nI (T2 i)))), ((ma 26), .inl (k 0, 170, .inl (fun i => nI (qt i)))), ((ma 27), .inl (k 0, 170, .inl (fun i => nI (Dv i)))), ((ma 28), .inl (k 0, 90, .inl (fun i => nI (rn i)))), ((ma 29), .inl (k 0, 41, .inl (fun i => nI (cn i)))), (h0, .inr (8, moL ma (va_up (va_up (va_up iv 14 (nI un)) 24 (nI rows)) 25 (nI aims)) co)), ((ma 22), .inl (k 0, 3998, .inl (fun i => nI (sz i)))), ((ma 23), .inl (k 2, 3998, .inl (fun i => nI (bl i))))] := S
  obtain rfl : r7 = sgN (sz (42 * r + c9)) (bl (42 * r + c9)) := hw6
  have go9 : ∀ (tu : Nat), (tu = if 0 < T (42 * r + c9) then 1 else 0) → ∀ (H : Heap) (locs : List Loc), Sw G A s.heap H locs [((ma 21), .inl (k 0, 319840, .inl (fun i => nI (dg i)))), ((ma 24), .inl (k 0, 170, .inl (fun i => nI (O i)))), ((ma 25), .inl (k 0, 170, .inl (fun i => nI (T2 i)))), ((ma 26), .inl (k 0, 170, .inl (fun i => nI (qt i)))), ((ma 27), .inl (k 0, 170, .inl (fun i => nI (Dv i)))), ((ma 28), .inl (k 0, 90, .inl (fun i => nI (rn i)))), ((ma 29), .inl (k 0, 41, .inl (fun i => nI (cn i)))), (h0, .inr (8, moL ma (va_up (va_up (va_up iv 14 (nI un)) 24 (nI rows)) 25 (nI aims)) co)), ((ma 22), .inl (k 0, 3998, .inl (fun i => nI (sz i)))), ((ma 23), .inl (k 2, 3998, .inl (fun i => nI (bl i))))] → ∀ ls : Array Slot, lv_has ls 6 [(3, .int (nI (42 * r + c9))), (0, .ref h0), (1, .int (nI r)), (2, .int (nI c9))] → W p l e { frames := 5, cells := 0, slots := 0, locals := 192 } s m [Value.ref h0, Value.int (nI r), Value.int (nI c9)].toArray below meth c H locs 0 0 (MQ below (va_Qv (fun (u : (Nat → Nat → Nat) × (Nat → Int32)) => (∃ W9, tbO (u.1 0) (u.1 1) (u.1 2) W9 ∧ exOK un (rows + aims) r c9 T W9) ∧ (∀ i, i < 170 → u.1 3 i < 65536) ∧ (∀ i, i < 170 → u.1 4 i < 65536) ∧ (∀ i, i < 170 → u.1 5 i < 65536) ∧ (∀ i, i < 170 → u.1 6 i < 65536)) (Po G k A (fun u => [(h0, .inr (8, moL ma (va_up (va_up (va_up (va_up (va_up (va_up (va_up (va_up iv 14 (nI un)) 24 (nI rows)) 25 (nI aims)) 19 (u.2 0)) 20 (u.2 1)) 21 (u.2 2)) 22 (u.2 3)) 23 (u.2 4)) co)), ((ma 21), .inl (k 0, 319840, .inl (fun i => nI (u.1 0 i)))), ((ma 22), .inl (k 0, 3998, .inl (fun i => nI (u.1 1 i)))), ((ma 23), .inl (k 2, 3998, .inl (fun i => nI (u.1 2 i)))), ((ma 24), .inl (k 0, 170, .inl (fun i => nI (u.1 3 i)))), ((ma 25), .inl (k 0, 170, .inl (fun i => nI (u.1 4 i)))), ((ma 26), .inl (k 0, 170, .inl (fun i => nI (u.1 5 i)))), ((ma 27), .inl (k 0, 170, .inl (fun i => nI (u.1 6 i)))), ((ma 28), .inl (k 0, 90, .inl (fun i => nI ((va_up rn r (cn c9)) i)))), ((ma 29), .inl (k 0, 41, .inl (fun i => nI ((va_up cn c9 (rn r)) i))))])) A) [Value.ref h0, Value.int (nI r), Value.int (nI c9)].toArray s 0 0 A) (F0 m 19 ls [.int (nI tu)]) := by
    intro tu htu H locs S ls hl
    have ht1 : tu ≤ 1 := by rw [htu]; split <;> omega
    refine lv_istore (lv' := [(4, .int (nI tu)), (3, .int (nI (42 * r + c9))), (0, .ref h0), (1, .int (nI r)), (2, .int (nI c9))]) hx hb d_Mo_exchange_19 hl (by decide) rfl (fun ls hl => ?_)
    refine lv_iconst (v := 0) hx hb d_Mo_exchange_21 (by decide) ?_
    refine lv_istore (lv' := [(5, .int 0), (4, .int (nI tu)), (3, .int (nI (42 * r + c9))), (0, .ref h0), (1, .int (nI r)), (2, .int (nI c9))]) hx hb d_Mo_exchange_22 hl (by decide) rfl (fun ls hl => ?_)
    have lp : ∀ d9, ∀ (ri : Nat), ∀ (D : Nat → Nat), ∀ (Z : Nat → Nat), ∀ (B : Nat → Nat), ∀ (O9 : Nat → Nat), ∀ (T9 : Nat → Nat), ∀ (Q9 : Nat → Nat), ∀ (V9 : Nat → Nat), ∀ (w : Nat → Int32), ∀ (U9 : Nat → Int), (rows + aims - ri) < d9 → (ri ≤ rows + aims) → (tbO D Z B U9) → (exK un r c9 ri T U9) → (∀ i, i < 170 → O9 i < 65536) → (∀ i, i < 170 → T9 i < 65536) → (∀ i, i < 170 → Q9 i < 65536) → (∀ i, i < 170 → V9 i < 65536) → ∀ (H : Heap) (locs : List Loc), Sw G A s.heap H locs [(h0, .inr (8, moL ma (va_up (va_up (va_up (va_up (va_up (va_up (va_up (va_up iv 14 (nI un)) 24 (nI rows)) 25 (nI aims)) 19 (w 0)) 20 (w 1)) 21 (w 2)) 22 (w 3)) 23 (w 4)) co)), ((ma 21), .inl (k 0, 319840, .inl (fun i => nI (D i)))), ((ma 22), .inl (k 0, 3998, .inl (fun i => nI (Z i)))), ((ma 23), .inl (k 2, 3998, .inl (fun i => nI (B i)))), ((ma 24), .inl (k 0, 170, .inl (fun i => nI (O9 i)))), ((ma 25), .inl (k 0, 170, .inl (fun i => nI (T9 i)))), ((ma 26), .inl (k 0, 170, .inl (fun i => nI (Q9 i)))), ((ma 27), .inl (k 0, 170, .inl (fun i => nI (V9 i)))), ((ma 28), .inl (k 0, 90, .inl (fun i => nI (rn i)))), ((ma 29), .inl (k 0, 41, .inl (fun i => nI (cn i))))] → ∀ ls : Array Slot, lv_has ls 6 [(5, .int (nI ri)), (4, .int (nI tu)), (3, .int (nI (42 * r + c9))), (0, .ref h0), (1, .int (nI r)), (2, .int (nI c9))] → W p l e { frames := 5, cells := 0, slots := 0, locals := 192 } s m [Value.ref h0, Value.int (nI r), Value.int (nI c9)].toArray below meth c H locs 0 0 (MQ below (va_Qv (fun (u : (Nat → Nat → Nat) × (Nat → Int32)) => (∃ W9, tbO (u.1 0) (u.1 1) (u.1 2) W9 ∧ exOK un (rows + aims) r c9 T W9) ∧ (∀ i, i < 170 → u.1 3 i < 65536) ∧ (∀ i, i < 170 → u.1 4 i < 65536) ∧ (∀ i, i < 170 → u.1 5 i < 65536) ∧ (∀ i, i < 170 → u.1 6 i < 65536)) (Po G k A (fun u => [(h0, .inr (8, moL ma (va_up (va_up (va_up (va_up (va_up (va_up (va_up (va_up iv 14 (nI un)) 24 (nI rows)) 25 (nI aims)) 19 (u.2 0)) 20 (u.2 1)) 21 (u.2 2)) 22 (u.2 3)) 23 (u.2 4)) co)), ((ma 21), .inl (k 0, 319840, .inl (fun i => nI (u.1 0 i)))), ((ma 22), .inl (k 0, 3998, .inl (fun i => nI (u.1 1 i)))), ((ma 23), .inl (k 2, 3998, .inl (fun i => nI (u.1 2 i)))), ((ma 24), .inl (k 0, 170, .inl (fun i => nI (u.1 3 i)))), ((ma 25), .inl (k 0, 170, .inl (fun i => nI (u.1 4 i)))), ((ma 26), .inl (k 0, 170, .inl (fun i => nI (u.1 5 i)))), ((ma 27), .inl (k 0, 170, .inl (fun i => nI (u.1 6 i)))), ((ma 28), .inl (k 0, 90, .inl (fun i => nI ((va_up rn r (cn c9)) i)))), ((ma 29), .inl (k 0, 41, .inl (fun i => nI ((va_up cn c9 (rn r)) i))))])) A) [Value.ref h0, Value.int (nI r), Value.int (nI c9)].toArray s 0 0 A) (F0 m 24 ls []) := by
      intro d9
      induction d9 with
      | zero => intro ri D Z B O9 T9 Q9 V9 w U9 hm; exact absurd hm (Nat.not_lt_zero _)
      | succ d9 ih =>
        intro ri D Z B O9 T9 Q9 V9 w U9 hm hri hT2 hK e1 e2 e3 e4 H locs S ls hl
        refine lv_iload hx hb d_Mo_exchange_24 (lv_at hl 0 rfl) ?_
        refine lv_aload_n hx hb d_Mo_exchange_26 rfl (lv_at hl 3 rfl) ?_
        refine r_get C K S 0 rfl rfl clOk_Mo 53 (by decide) wf_Mo_333 (v := .int (nI rows)) rfl d_Mo_exchange_27 ?_
        refine lv_aload_n hx hb d_Mo_exchange_30 rfl (lv_at hl 3 rfl) ?_
        refine r_get C K S 0 rfl rfl clOk_Mo 54 (by decide) wf_Mo_336 (v := .int (nI aims)) rfl d_Mo_exchange_31 ?_
        refine z_iadd (x := nI rows) (y := nI aims) (v := nI (rows + aims)) hx hb d_Mo_exchange_34 (nI_add rows aims) ?_
        refine z_icmp_ge (a := ri) (b := (rows + aims)) (tgt := 60) hx hb d_Mo_exchange_35 (by decide) (by omega) (by omega) (fun hc9 => ?_) (fun hc9 => ?_)
        · have hre : ri = rows + aims := by omega
          refine lv_iconst (v := 0) hx hb d_Mo_exchange_60 (by decide) ?_
          refine lv_istore (lv' := [(5, .int 0), (4, .int (nI tu)), (3, .int (nI (42 * r + c9))), (0, .ref h0), (1, .int (nI r)), (2, .int (nI c9))]) hx hb d_Mo_exchange_61 hl (by decide) rfl (fun ls hl => ?_)
          rw [hre] at hK
          have lc : ∀ d9, ∀ (j : Nat), ∀ (B3 : Nat → Nat), ∀ (X9 : Nat → Int), (un + 1 - j) < d9 → (j ≤ un + 1) → (tbO D Z B3 X9) → (exP un r c9 j tu U9 X9) → ∀ (H : Heap) (locs : List Loc), Sw G A s.heap H locs [(h0, .inr (8, moL ma (va_up (va_up (va_up (va_up (va_up (va_up (va_up (va_up iv 14 (nI un)) 24 (nI rows)) 25 (nI aims)) 19 (w 0)) 20 (w 1)) 21 (w 2)) 22 (w 3)) 23 (w 4)) co)), ((ma 21), .inl (k 0, 319840, .inl (fun i => nI (D i)))), ((ma 22), .inl (k 0, 3998, .inl (fun i => nI (Z i)))), ((ma 23), .inl (k 2, 3998, .inl (fun i => nI (B3 i)))), ((ma 24), .inl (k 0, 170, .inl (fun i => nI (O9 i)))), ((ma 25), .inl (k 0, 170, .inl (fun i => nI (T9 i)))), ((ma 26), .inl (k 0, 170, .inl (fun i => nI (Q9 i)))), ((ma 27), .inl (k 0, 170, .inl (fun i => nI (V9 i)))), ((ma 28), .inl (k 0, 90, .inl (fun i => nI (rn i)))), ((ma 29), .inl (k 0, 41, .inl (fun i => nI (cn i))))] → ∀ ls : Array Slot, lv_has ls 6 [(5, .int (nI j)), (4, .int (nI tu)), (3, .int (nI (42 * r + c9))), (0, .ref h0), (1, .int (nI r)), (2, .int (nI c9))] → W p l e { frames := 5, cells := 0, slots := 0, locals := 192 } s m [Value.ref h0, Value.int (nI r), Value.int (nI c9)].toArray below meth c H locs 0 0 (MQ below (va_Qv (fun (u : (Nat → Nat → Nat) × (Nat → Int32)) => (∃ W9, tbO (u.1 0) (u.1 1) (u.1 2) W9 ∧ exOK un (rows + aims) r c9 T W9) ∧ (∀ i, i < 170 → u.1 3 i < 65536) ∧ (∀ i, i < 170 → u.1 4 i < 65536) ∧ (∀ i, i < 170 → u.1 5 i < 65536) ∧ (∀ i, i < 170 → u.1 6 i < 65536)) (Po G k A (fun u => [(h0, .inr (8, moL ma (va_up (va_up (va_up (va_up (va_up (va_up (va_up (va_up iv 14 (nI un)) 24 (nI rows)) 25 (nI aims)) 19 (u.2 0)) 20 (u.2 1)) 21 (u.2 2)) 22 (u.2 3)) 23 (u.2 4)) co)), ((ma 21), .inl (k 0, 319840, .inl (fun i => nI (u.1 0 i)))), ((ma 22), .inl (k 0, 3998, .inl (fun i => nI (u.1 1 i)))), ((ma 23), .inl (k 2, 3998, .inl (fun i => nI (u.1 2 i)))), ((ma 24), .inl (k 0, 170, .inl (fun i => nI (u.1 3 i)))), ((ma 25), .inl (k 0, 170, .inl (fun i => nI (u.1 4 i)))), ((ma 26), .inl (k 0, 170, .inl (fun i => nI (u.1 5 i)))), ((ma 27), .inl (k 0, 170, .inl (fun i => nI (u.1 6 i)))), ((ma 28), .inl (k 0, 90, .inl (fun i => nI ((va_up rn r (cn c9)) i)))), ((ma 29), .inl (k 0, 41, .inl (fun i => nI ((va_up cn c9 (rn r)) i))))])) A) [Value.ref h0, Value.int (nI r), Value.int (nI c9)].toArray s 0 0 A) (F0 m 63 ls []) := by
            intro d9
            induction d9 with
            | zero => intro j B3 X9 hm; exact absurd hm (Nat.not_lt_zero _)
            | succ d9 ih =>
              intro j B3 X9 hm hj hT4 hP H locs S ls hl
              refine lv_iload hx hb d_Mo_exchange_63 (lv_at hl 0 rfl) ?_
              refine lv_aload_n hx hb d_Mo_exchange_65 rfl (lv_at hl 3 rfl) ?_
              refine r_get C K S 0 rfl rfl clOk_Mo 29 (by decide) wf_Mo_192 (v := .int (nI un)) rfl d_Mo_exchange_66 ?_
              refine z_icmp_gt (a := j) (b := un) (tgt := 99) hx hb d_Mo_exchange_69 (by decide) (by omega) (by omega) (fun hc10 => ?_) (fun hc10 => ?_)
              · have hP : exP un r c9 (un + 1) tu U9 X9 := (show j = un + 1 by omega) ▸ hP
                refine lv_iload hx hb d_Mo_exchange_99 (lv_at hl 1 rfl) ?_
                refine z_if_eq (a := tu) (tgt := 114) hx hb d_Mo_exchange_101 (by decide) (by omega) (fun hc11 => ?_) (fun hc11 => ?_)
                · refine lv_aload_n hx hb d_Mo_exchange_114 rfl (lv_at hl 3 rfl) ?_
                  refine lv_iload_n hx hb d_Mo_exchange_115 rfl (lv_at hl 2 rfl) ?_
                  refine lv_iload hx hb d_Mo_exchange_116 (lv_at hl 1 rfl) ?_
                  have hT5 := hT4
                  have hP5 := exP_no (exP_all hu hP) (Or.inr (show tu = 0 by omega))
                  refine r_backv (wi := [(h0, .inr (8, moL ma (va_up (va_up (va_up (va_up (va_up (va_up (va_up (va_up iv 14 (nI un)) 24 (nI rows)) 25 (nI aims)) 19 (w 0)) 20 (w 1)) 21 (w 2)) 22 (w 3)) 23 (w 4)) co)), ((ma 21), .inl (k 0, 319840, .inl (fun i => nI (D i)))), ((ma 22), .inl (k 0, 3998, .inl (fun i => nI (Z i)))), ((ma 23), .inl (k 2, 3998, .inl (fun i => nI (B3 i))))]) (wr := [((ma 24), .inl (k 0, 170, .inl (fun i => nI (O9 i)))), ((ma 25), .inl (k 0, 170, .inl (fun i => nI (T9 i)))), ((ma 26), .inl (k 0, 170, .inl (fun i => nI (Q9 i)))), ((ma 27), .inl (k 0, 170, .inl (fun i => nI (V9 i)))), ((ma 28), .inl (k 0, 90, .inl (fun i => nI (rn i)))), ((ma 29), .inl (k 0, 41, .inl (fun i => nI (cn i))))]) S hA [0, 1, 2, 3] [4, 5, 6, 7, 8, 9] rfl rfl (by decide) (by decide) (va_runV (As := [.int (nI (42 * r + c9)), .int (nI tu)]) (rest := []) ⟨hx, hb, C.2.2.1, C.2.2.2.1, C.2.2.2.2.1⟩ (g_Mo_swapOne l G k h0 _ (42 * r + c9) tu ma (va_up (va_up (va_up (va_up (va_up (va_up (va_up (va_up iv 14 (nI un)) 24 (nI rows)) 25 (nI aims)) 19 (w 0)) 20 (w 1)) 21 (w 2)) 22 (w 3)) 23 (w 4)) co D Z B3 X9 hT5 (by omega) (by rw [exP_out hP5 (by omega), hK.2.1 _ (by omega)]; exact h1) ht1) (k_virt (n := 2) C wc_Mo_swapOne rfl rfl wz_Mo wm_Mo_346 wn_Mo_swapOne ws_Mo_swapOne (by decide +kernel) ⟨(Nat.le_of_ble_eq_true rfl), (Nat.le_of_ble_eq_true rfl)⟩) (pr_nowV K S [0, 1, 2, 3] (by decide) rfl 0 rfl rfl) rfl rfl hl.1 rfl (lv_room (Nat.le_of_ble_eq_true rfl)) d_Mo_exchange_118 ⟨(Nat.le_of_ble_eq_true rfl), (Nat.le_of_ble_eq_true rfl)⟩) (fun su H locs hw12 S => ?_)
                  have S : Sw G A s.heap _ _ [((ma 24), .inl (k 0, 170, .inl (fun i => nI (O9 i)))), ((ma 25), .inl (k 0, 170, .inl (fun i => nI (T9 i)))), ((ma 26), .inl (k 0, 170, .inl (fun i => nI (Q9 i)))), ((ma 27), .inl (k 0, 170, .inl (fun i => nI (V9 i)))), ((ma 28), .inl (k 0, 90, .inl (fun i => nI (rn i)))), ((ma 29), .inl (k 0, 41, .inl (fun i => nI (cn i)))), (h0, .inr (8, moL ma (va_up (va_up (va_up (va_up (va_up (va_up (va_up (va_up iv 14 (nI un)) 24 (nI rows)) 25 (nI aims)) 19 (w 0)) 20 (w 1)) 21 (w 2)) 22 (w 3)) 23 (w 4)) co)), ((ma 21), .inl (k 0, 319840, .inl (fun i => nI (su.1 i)))), ((ma 22), .inl (k 0, 3998, .inl (fun i => nI (su.2.1 i)))), ((ma 23), .inl (k 2, 3998, .inl (fun i => nI (su.2.2 i))))] := S
                  have hSW := hw12
                  refine lv_aload_n hx hb d_Mo_exchange_121 rfl (lv_at hl 3 rfl) ?_
                  refine r_get C K S 6 rfl rfl clOk_Mo 55 (by decide) wf_Mo_105 (v := .ref (ma 28)) rfl d_Mo_exchange_122 ?_
                  refine lv_iload_n hx hb d_Mo_exchange_125 rfl (lv_at hl 4 rfl) ?_
                  refine r_iald C K S 4 rfl (i := nI r) (show vp_in (nI r) _ from vp_in_nI (n := r) (by omega) (by decide)) (v := nI (rn r)) (by rw [nI_clamp (by omega)]) d_Mo_exchange_126 ?_
                  refine lv_istore (lv' := [(5, .int (nI (rn r))), (4, .int (nI tu)), (3, .int (nI (42 * r + c9))), (0, .ref h0), (1, .int (nI r)), (2, .int (nI c9))]) hx hb d_Mo_exchange_127 hl (by decide) rfl (fun ls hl => ?_)
                  refine lv_aload_n hx hb d_Mo_exchange_129 rfl (lv_at hl 3 rfl) ?_
                  refine r_get C K S 6 rfl rfl clOk_Mo 55 (by decide) wf_Mo_105 (v := .ref (ma 28)) rfl d_Mo_exchange_130 ?_
                  refine lv_iload_n hx hb d_Mo_exchange_133 rfl (lv_at hl 4 rfl) ?_
                  refine lv_aload_n hx hb d_Mo_exchange_134 rfl (lv_at hl 3 rfl) ?_
                  refine r_get C K S 6 rfl rfl clOk_Mo 56 (by decide) wf_Mo_108 (v := .ref (ma 29)) rfl d_Mo_exchange_135 ?_
                  refine lv_iload_n hx hb d_Mo_exchange_138 rfl (lv_at hl 5 rfl) ?_
                  refine r_iald C K S 5 rfl (i := nI c9) (show vp_in (nI c9) _ from vp_in_nI (n := c9) (by omega) (by decide)) (v := nI (cn c9)) (by rw [nI_clamp (by omega)]) d_Mo_exchange_139 ?_
                  refine r_iast C K S 4 rfl (i := nI r) (x := nI (cn c9)) (show vp_in (nI r) _ from vp_in_nI (n := r) (by omega) (by decide)) (f' := fun i => nI (va_up rn r (cn c9) i)) (ws' := [((ma 24), .inl (k 0, 170, .inl (fun i => nI (O9 i)))), ((ma 25), .inl (k 0, 170, .inl (fun i => nI (T9 i)))), ((ma 26), .inl (k 0, 170, .inl (fun i => nI (Q9 i)))), ((ma 27), .inl (k 0, 170, .inl (fun i => nI (V9 i)))), ((ma 28), .inl (k 0, 90, .inl (fun i => nI (va_up rn r (cn c9) i)))), ((ma 29), .inl (k 0, 41, .inl (fun i => nI (cn i)))), (h0, .inr (8, moL ma (va_up (va_up (va_up (va_up (va_up (va_up (va_up (va_up iv 14 (nI un)) 24 (nI rows)) 25 (nI aims)) 19 (w 0)) 20 (w 1)) 21 (w 2)) 22 (w 3)) 23 (w 4)) co)), ((ma 21), .inl (k 0, 319840, .inl (fun i => nI (su.1 i)))), ((ma 22), .inl (k 0, 3998, .inl (fun i => nI (su.2.1 i)))), ((ma 23), .inl (k 2, 3998, .inl (fun i => nI (su.2.2 i))))]) (show upd _ (nI r : Int32).toNatClampNeg (nI (cn c9)) = _ from upd_nI rn (j := r) (by omega) (cn c9)) rfl d_Mo_exchange_140 (fun H locs S => ?_)
                  refine lv_aload_n hx hb d_Mo_exchange_141 rfl (lv_at hl 3 rfl) ?_
                  refine r_get C K S 6 rfl rfl clOk_Mo 56 (by decide) wf_Mo_108 (v := .ref (ma 29)) rfl d_Mo_exchange_142 ?_
                  refine lv_iload_n hx hb d_Mo_exchange_145 rfl (lv_at hl 5 rfl) ?_
                  refine lv_iload hx hb d_Mo_exchange_146 (lv_at hl 0 rfl) ?_
                  refine r_iast C K S 5 rfl (i := nI c9) (x := nI (rn r)) (show vp_in (nI c9) _ from vp_in_nI (n := c9) (by omega) (by decide)) (f' := fun i => nI (va_up cn c9 (rn r) i)) (ws' := [((ma 24), .inl (k 0, 170, .inl (fun i => nI (O9 i)))), ((ma 25), .inl (k 0, 170, .inl (fun i => nI (T9 i)))), ((ma 26), .inl (k 0, 170, .inl (fun i => nI (Q9 i)))), ((ma 27), .inl (k 0, 170, .inl (fun i => nI (V9 i)))), ((ma 28), .inl (k 0, 90, .inl (fun i => nI (va_up rn r (cn c9) i)))), ((ma 29), .inl (k 0, 41, .inl (fun i => nI (va_up cn c9 (rn r) i)))), (h0, .inr (8, moL ma (va_up (va_up (va_up (va_up (va_up (va_up (va_up (va_up iv 14 (nI un)) 24 (nI rows)) 25 (nI aims)) 19 (w 0)) 20 (w 1)) 21 (w 2)) 22 (w 3)) 23 (w 4)) co)), ((ma 21), .inl (k 0, 319840, .inl (fun i => nI (su.1 i)))), ((ma 22), .inl (k 0, 3998, .inl (fun i => nI (su.2.1 i)))), ((ma 23), .inl (k 2, 3998, .inl (fun i => nI (su.2.2 i))))]) (show upd _ (nI c9 : Int32).toNatClampNeg (nI (rn r)) = _ from upd_nI cn (j := c9) (by omega) (rn r)) rfl d_Mo_exchange_148 (fun H locs S => ?_)
                  exact r_vret C K (uz [su.1, su.2.1, su.2.2, O9, T9, Q9, V9], w) ⟨⟨_, hSW, exP_done hu hsu (by omega) (by omega) hK htu hP5⟩, e1, e2, e3, e4⟩ (S.sub [6, 7, 8, 9, 0, 1, 2, 3, 4, 5] (by decide) rfl) d_Mo_exchange_149 (Nat.le_of_ble_eq_true rfl) (Nat.le_of_ble_eq_true rfl)
                · refine lv_aload_n hx hb d_Mo_exchange_104 rfl (lv_at hl 3 rfl) ?_
                  refine lv_iload_n hx hb d_Mo_exchange_105 rfl (lv_at hl 4 rfl) ?_
                  refine lv_bipush (v := 41) hx hb d_Mo_exchange_106 (by decide) ?_
                  refine r_backi (wi := []) (wr := [(h0, .inr (8, moL ma (va_up (va_up (va_up (va_up (va_up (va_up (va_up (va_up iv 14 (nI un)) 24 (nI rows)) 25 (nI aims)) 19 (w 0)) 20 (w 1)) 21 (w 2)) 22 (w 3)) 23 (w 4)) co)), ((ma 21), .inl (k 0, 319840, .inl (fun i => nI (D i)))), ((ma 22), .inl (k 0, 3998, .inl (fun i => nI (Z i)))), ((ma 23), .inl (k 2, 3998, .inl (fun i => nI (B3 i)))), ((ma 24), .inl (k 0, 170, .inl (fun i => nI (O9 i)))), ((ma 25), .inl (k 0, 170, .inl (fun i => nI (T9 i)))), ((ma 26), .inl (k 0, 170, .inl (fun i => nI (Q9 i)))), ((ma 27), .inl (k 0, 170, .inl (fun i => nI (V9 i)))), ((ma 28), .inl (k 0, 90, .inl (fun i => nI (rn i)))), ((ma 29), .inl (k 0, 41, .inl (fun i => nI (cn i))))]) S hA [] [0, 1, 2, 3, 4, 5, 6, 7, 8, 9] rfl rfl (by decide) (by decide) (va_runS (As := [.int (nI r), .int 41]) (rest := [.ref h0]) ⟨hx, hb, C.2.2.1, C.2.2.2.1, C.2.2.2.2.1⟩ (g_Mo_at l G k _ r 41) (k_stat (n := 2) C wc_Mo_at rfl rfl wz_Mo wm_Mo_328 wt_Mo_at (by decide +kernel) ⟨(Nat.le_of_ble_eq_true rfl), (Nat.le_of_ble_eq_true rfl)⟩) (pr_now K S [] (by decide) rfl) rfl rfl hl.1 rfl (lv_room (Nat.le_of_ble_eq_true rfl)) d_Mo_exchange_108 ⟨(Nat.le_of_ble_eq_true rfl), (Nat.le_of_ble_eq_true rfl)⟩) (fun r15 u13 H locs hw14 S => ?_)
                  have S : Sw G A s.heap _ _ [(h0, .inr (8, moL ma (va_up (va_up (va_up (va_up (va_up (va_up (va_up (va_up iv 14 (nI un)) 24 (nI rows)) 25 (nI aims)) 19 (w 0)) 20 (w 1)) 21 (w 2)) 22 (w 3)) 23 (w 4)) co)), ((ma 21), .inl (k 0, 319840, .inl (fun i => nI (D i)))), ((ma 22), .inl (k 0, 3998, .inl (fun i => nI (Z i)))), ((ma 23), .inl (k 2, 3998, .inl (fun i => nI (B3 i)))), ((ma 24), .inl (k 0, 170, .inl (fun i => nI (O9 i)))), ((ma 25), .inl (k 0, 170, .inl (fun i => nI (T9 i)))), ((ma 26), .inl (k 0, 170, .inl (fun i => nI (Q9 i)))), ((ma 27), .inl (k 0, 170, .inl (fun i => nI (V9 i)))), ((ma 28), .inl (k 0, 90, .inl (fun i => nI (rn i)))), ((ma 29), .inl (k 0, 41, .inl (fun i => nI (cn i))))] := S
                  obtain rfl : r15 = nI (42 * r + 41) := hw14
                  refine r_backv (wi := [(h0, .inr (8, moL ma (va_up (va_up (va_up (va_up (va_up (va_up (va_up (va_up iv 14 (nI un)) 24 (nI rows)) 25 (nI aims)) 19 (w 0)) 20 (w 1)) 21 (w 2)) 22 (w 3)) 23 (w 4)) co)), ((ma 22), .inl (k 0, 3998, .inl (fun i => nI (Z i)))), ((ma 23), .inl (k 2, 3998, .inl (fun i => nI (B3 i))))]) (wr := [((ma 21), .inl (k 0, 319840, .inl (fun i => nI (D i)))), ((ma 24), .inl (k 0, 170, .inl (fun i => nI (O9 i)))), ((ma 25), .inl (k 0, 170, .inl (fun i => nI (T9 i)))), ((ma 26), .inl (k 0, 170, .inl (fun i => nI (Q9 i)))), ((ma 27), .inl (k 0, 170, .inl (fun i => nI (V9 i)))), ((ma 28), .inl (k 0, 90, .inl (fun i => nI (rn i)))), ((ma 29), .inl (k 0, 41, .inl (fun i => nI (cn i))))]) S hA [0, 2, 3] [1, 4, 5, 6, 7, 8, 9] rfl rfl (by decide) (by decide) (va_runV (As := [.int (nI (42 * r + 41))]) (rest := []) ⟨hx, hb, C.2.2.1, C.2.2.2.1, C.2.2.2.2.1⟩ (g_Mo_turn l G k h0 _ ma (va_up (va_up (va_up (va_up (va_up (va_up (va_up (va_up iv 14 (nI un)) 24 (nI rows)) 25 (nI aims)) 19 (w 0)) 20 (w 1)) 21 (w 2)) 22 (w 3)) 23 (w 4)) co Z B3 (42 * r + 41) (by omega) (hT4.2 _ (by omega)).1 (hT4.2 _ (by omega)).2.1) (k_virt (n := 1) C wc_Mo_turn rfl rfl wz_Mo wm_Mo_343 wn_Mo_turn ws_Mo_turn (by decide +kernel) ⟨(Nat.le_of_ble_eq_true rfl), (Nat.le_of_ble_eq_true rfl)⟩) (pr_nowV K S [0, 2, 3] (by decide) rfl 0 rfl rfl) rfl rfl hl.1 rfl (lv_room (Nat.le_of_ble_eq_true rfl)) d_Mo_exchange_111 ⟨(Nat.le_of_ble_eq_true rfl), (Nat.le_of_ble_eq_true rfl)⟩) (fun tb H locs hw17 S => ?_)
                  have S : Sw G A s.heap _ _ [((ma 21), .inl (k 0, 319840, .inl (fun i => nI (D i)))), ((ma 24), .inl (k 0, 170, .inl (fun i => nI (O9 i)))), ((ma 25), .inl (k 0, 170, .inl (fun i => nI (T9 i)))), ((ma 26), .inl (k 0, 170, .inl (fun i => nI (Q9 i)))), ((ma 27), .inl (k 0, 170, .inl (fun i => nI (V9 i)))), ((ma 28), .inl (k 0, 90, .inl (fun i => nI (rn i)))), ((ma 29), .inl (k 0, 41, .inl (fun i => nI (cn i)))), (h0, .inr (8, moL ma (va_up (va_up (va_up (va_up (va_up (va_up (va_up (va_up iv 14 (nI un)) 24 (nI rows)) 25 (nI aims)) 19 (w 0)) 20 (w 1)) 21 (w 2)) 22 (w 3)) 23 (w 4)) co)), ((ma 22), .inl (k 0, 3998, .inl (fun i => nI (Z i)))), ((ma 23), .inl (k 2, 3998, .inl (fun i => nI (tb i))))] := S
                  obtain rfl : tb = va_up B3 (42 * r + 41) (tnB (Z (42 * r + 41)) (B3 (42 * r + 41))) := hw17
                  have S : Sw G A s.heap _ _ [((ma 21), .inl (k 0, 319840, .inl (fun i => nI (D i)))), ((ma 24), .inl (k 0, 170, .inl (fun i => nI (O9 i)))), ((ma 25), .inl (k 0, 170, .inl (fun i => nI (T9 i)))), ((ma 26), .inl (k 0, 170, .inl (fun i => nI (Q9 i)))), ((ma 27), .inl (k 0, 170, .inl (fun i => nI (V9 i)))), ((ma 28), .inl (k 0, 90, .inl (fun i => nI (rn i)))), ((ma 29), .inl (k 0, 41, .inl (fun i => nI (cn i)))), (h0, .inr (8, moL ma (va_up (va_up (va_up (va_up (va_up (va_up (va_up (va_up iv 14 (nI un)) 24 (nI rows)) 25 (nI aims)) 19 (w 0)) 20 (w 1)) 21 (w 2)) 22 (w 3)) 23 (w 4)) co)), ((ma 22), .inl (k 0, 3998, .inl (fun i => nI (Z i)))), ((ma 23), .inl (k 2, 3998, .inl (fun i => nI ((va_up B3 (42 * r + 41) (tnB (Z (42 * r + 41)) (B3 (42 * r + 41)))) i))))] := S
                  have hT5 := tbO_turn (c := 42 * r + 41) hT4 (by omega)
                  have hP5 := exP_s (exP_all hu hP) (show 41 ≠ c9 by omega) (by omega) (by omega)
                  refine lv_aload_n hx hb d_Mo_exchange_114 rfl (lv_at hl 3 rfl) ?_
                  refine lv_iload_n hx hb d_Mo_exchange_115 rfl (lv_at hl 2 rfl) ?_
                  refine lv_iload hx hb d_Mo_exchange_116 (lv_at hl 1 rfl) ?_
                  refine r_backv (wi := [(h0, .inr (8, moL ma (va_up (va_up (va_up (va_up (va_up (va_up (va_up (va_up iv 14 (nI un)) 24 (nI rows)) 25 (nI aims)) 19 (w 0)) 20 (w 1)) 21 (w 2)) 22 (w 3)) 23 (w 4)) co)), ((ma 21), .inl (k 0, 319840, .inl (fun i => nI (D i)))), ((ma 22), .inl (k 0, 3998, .inl (fun i => nI (Z i)))), ((ma 23), .inl (k 2, 3998, .inl (fun i => nI ((va_up B3 (42 * r + 41) (tnB (Z (42 * r + 41)) (B3 (42 * r + 41)))) i))))]) (wr := [((ma 24), .inl (k 0, 170, .inl (fun i => nI (O9 i)))), ((ma 25), .inl (k 0, 170, .inl (fun i => nI (T9 i)))), ((ma 26), .inl (k 0, 170, .inl (fun i => nI (Q9 i)))), ((ma 27), .inl (k 0, 170, .inl (fun i => nI (V9 i)))), ((ma 28), .inl (k 0, 90, .inl (fun i => nI (rn i)))), ((ma 29), .inl (k 0, 41, .inl (fun i => nI (cn i))))]) S hA [7, 0, 8, 9] [1, 2, 3, 4, 5, 6] rfl rfl (by decide) (by decide) (va_runV (As := [.int (nI (42 * r + c9)), .int (nI tu)]) (rest := []) ⟨hx, hb, C.2.2.1, C.2.2.2.1, C.2.2.2.2.1⟩ (g_Mo_swapOne l G k h0 _ (42 * r + c9) tu ma (va_up (va_up (va_up (va_up (va_up (va_up (va_up (va_up iv 14 (nI un)) 24 (nI rows)) 25 (nI aims)) 19 (w 0)) 20 (w 1)) 21 (w 2)) 22 (w 3)) 23 (w 4)) co D Z (va_up B3 (42 * r + 41) (tnB (Z (42 * r + 41)) (B3 (42 * r + 41)))) (va_up X9 (42 * r + 41) (- X9 (42 * r + 41))) hT5 (by omega) (by rw [exP_out hP5 (by omega), hK.2.1 _ (by omega)]; exact h1) ht1) (k_virt (n := 2) C wc_Mo_swapOne rfl rfl wz_Mo wm_Mo_346 wn_Mo_swapOne ws_Mo_swapOne (by decide +kernel) ⟨(Nat.le_of_ble_eq_true rfl), (Nat.le_of_ble_eq_true rfl)⟩) (pr_nowV K S [7, 0, 8, 9] (by decide) rfl 7 rfl rfl) rfl rfl hl.1 rfl (lv_room (Nat.le_of_ble_eq_true rfl)) d_Mo_exchange_118 ⟨(Nat.le_of_ble_eq_true rfl), (Nat.le_of_ble_eq_true rfl)⟩) (fun su H locs hw18 S => ?_)
                  have S : Sw G A s.heap _ _ [((ma 24), .inl (k 0, 170, .inl (fun i => nI (O9 i)))), ((ma 25), .inl (k 0, 170, .inl (fun i => nI (T9 i)))), ((ma 26), .inl (k 0, 170, .inl (fun i => nI (Q9 i)))), ((ma 27), .inl (k 0, 170, .inl (fun i => nI (V9 i)))), ((ma 28), .inl (k 0, 90, .inl (fun i => nI (rn i)))), ((ma 29), .inl (k 0, 41, .inl (fun i => nI (cn i)))), (h0, .inr (8, moL ma (va_up (va_up (va_up (va_up (va_up (va_up (va_up (va_up iv 14 (nI un)) 24 (nI rows)) 25 (nI aims)) 19 (w 0)) 20 (w 1)) 21 (w 2)) 22 (w 3)) 23 (w 4)) co)), ((ma 21), .inl (k 0, 319840, .inl (fun i => nI (su.1 i)))), ((ma 22), .inl (k 0, 3998, .inl (fun i => nI (su.2.1 i)))), ((ma 23), .inl (k 2, 3998, .inl (fun i => nI (su.2.2 i))))] := S
                  have hSW := hw18
                  refine lv_aload_n hx hb d_Mo_exchange_121 rfl (lv_at hl 3 rfl) ?_
                  refine r_get C K S 6 rfl rfl clOk_Mo 55 (by decide) wf_Mo_105 (v := .ref (ma 28)) rfl d_Mo_exchange_122 ?_
                  refine lv_iload_n hx hb d_Mo_exchange_125 rfl (lv_at hl 4 rfl) ?_
                  refine r_iald C K S 4 rfl (i := nI r) (show vp_in (nI r) _ from vp_in_nI (n := r) (by omega) (by decide)) (v := nI (rn r)) (by rw [nI_clamp (by omega)]) d_Mo_exchange_126 ?_
                  refine lv_istore (lv' := [(5, .int (nI (rn r))), (4, .int (nI tu)), (3, .int (nI (42 * r + c9))), (0, .ref h0), (1, .int (nI r)), (2, .int (nI c9))]) hx hb d_Mo_exchange_127 hl (by decide) rfl (fun ls hl => ?_)
                  refine lv_aload_n hx hb d_Mo_exchange_129 rfl (lv_at hl 3 rfl) ?_
                  refine r_get C K S 6 rfl rfl clOk_Mo 55 (by decide) wf_Mo_105 (v := .ref (ma 28)) rfl d_Mo_exchange_130 ?_
                  refine lv_iload_n hx hb d_Mo_exchange_133 rfl (lv_at hl 4 rfl) ?_
                  refine lv_aload_n hx hb d_Mo_exchange_134 rfl (lv_at hl 3 rfl) ?_
                  refine r_get C K S 6 rfl rfl clOk_Mo 56 (by decide) wf_Mo_108 (v := .ref (ma 29)) rfl d_Mo_exchange_135 ?_
                  refine lv_iload_n hx hb d_Mo_exchange_138 rfl (lv_at hl 5 rfl) ?_
                  refine r_iald C K S 5 rfl (i := nI c9) (show vp_in (nI c9) _ from vp_in_nI (n := c9) (by omega) (by decide)) (v := nI (cn c9)) (by rw [nI_clamp (by omega)]) d_Mo_exchange_139 ?_
                  refine r_iast C K S 4 rfl (i := nI r) (x := nI (cn c9)) (show vp_in (nI r) _ from vp_in_nI (n := r) (by omega) (by decide)) (f' := fun i => nI (va_up rn r (cn c9) i)) (ws' := [((ma 24), .inl (k 0, 170, .inl (fun i => nI (O9 i)))), ((ma 25), .inl (k 0, 170, .inl (fun i => nI (T9 i)))), ((ma 26), .inl (k 0, 170, .inl (fun i => nI (Q9 i)))), ((ma 27), .inl (k 0, 170, .inl (fun i => nI (V9 i)))), ((ma 28), .inl (k 0, 90, .inl (fun i => nI (va_up rn r (cn c9) i)))), ((ma 29), .inl (k 0, 41, .inl (fun i => nI (cn i)))), (h0, .inr (8, moL ma (va_up (va_up (va_up (va_up (va_up (va_up (va_up (va_up iv 14 (nI un)) 24 (nI rows)) 25 (nI aims)) 19 (w 0)) 20 (w 1)) 21 (w 2)) 22 (w 3)) 23 (w 4)) co)), ((ma 21), .inl (k 0, 319840, .inl (fun i => nI (su.1 i)))), ((ma 22), .inl (k 0, 3998, .inl (fun i => nI (su.2.1 i)))), ((ma 23), .inl (k 2, 3998, .inl (fun i => nI (su.2.2 i))))]) (show upd _ (nI r : Int32).toNatClampNeg (nI (cn c9)) = _ from upd_nI rn (j := r) (by omega) (cn c9)) rfl d_Mo_exchange_140 (fun H locs S => ?_)
                  refine lv_aload_n hx hb d_Mo_exchange_141 rfl (lv_at hl 3 rfl) ?_
                  refine r_get C K S 6 rfl rfl clOk_Mo 56 (by decide) wf_Mo_108 (v := .ref (ma 29)) rfl d_Mo_exchange_142 ?_
                  refine lv_iload_n hx hb d_Mo_exchange_145 rfl (lv_at hl 5 rfl) ?_
                  refine lv_iload hx hb d_Mo_exchange_146 (lv_at hl 0 rfl) ?_
                  refine r_iast C K S 5 rfl (i := nI c9) (x := nI (rn r)) (show vp_in (nI c9) _ from vp_in_nI (n := c9) (by omega) (by decide)) (f' := fun i => nI (va_up cn c9 (rn r) i)) (ws' := [((ma 24), .inl (k 0, 170, .inl (fun i => nI (O9 i)))), ((ma 25), .inl (k 0, 170, .inl (fun i => nI (T9 i)))), ((ma 26), .inl (k 0, 170, .inl (fun i => nI (Q9 i)))), ((ma 27), .inl (k 0, 170, .inl (fun i => nI (V9 i)))), ((ma 28), .inl (k 0, 90, .inl (fun i => nI (va_up rn r (cn c9) i)))), ((ma 29), .inl (k 0, 41, .inl (fun i => nI (va_up cn c9 (rn r) i)))), (h0, .inr (8, moL ma (va_up (va_up (va_up (va_up (va_up (va_up (va_up (va_up iv 14 (nI un)) 24 (nI rows)) 25 (nI aims)) 19 (w 0)) 20 (w 1)) 21 (w 2)) 22 (w 3)) 23 (w 4)) co)), ((ma 21), .inl (k 0, 319840, .inl (fun i => nI (su.1 i)))), ((ma 22), .inl (k 0, 3998, .inl (fun i => nI (su.2.1 i)))), ((ma 23), .inl (k 2, 3998, .inl (fun i => nI (su.2.2 i))))]) (show upd _ (nI c9 : Int32).toNatClampNeg (nI (rn r)) = _ from upd_nI cn (j := c9) (by omega) (rn r)) rfl d_Mo_exchange_148 (fun H locs S => ?_)
                  exact r_vret C K (uz [su.1, su.2.1, su.2.2, O9, T9, Q9, V9], w) ⟨⟨_, hSW, exP_done hu hsu (by omega) (by omega) hK htu hP5⟩, e1, e2, e3, e4⟩ (S.sub [6, 7, 8, 9, 0, 1, 2, 3, 4, 5] (by decide) rfl) d_Mo_exchange_149 (Nat.le_of_ble_eq_true rfl) (Nat.le_of_ble_eq_true rfl)
              · refine lv_iload hx hb d_Mo_exchange_72 (lv_at hl 0 rfl) ?_
                refine lv_iload_n hx hb d_Mo_exchange_74 rfl (lv_at hl 5 rfl) ?_
                refine z_icmp_eq (a := j) (b := c9) (tgt := 93) hx hb d_Mo_exchange_75 (by decide) (by omega) (by omega) (fun hc19 => ?_) (fun hc19 => ?_)
                · refine lv_iinc (v := nI (j + 1)) (lv' := [(5, .int (nI (j + 1))), (4, .int (nI tu)), (3, .int (nI (42 * r + c9))), (0, .ref h0), (1, .int (nI r)), (2, .int (nI c9))]) hx hb d_Mo_exchange_93 hl (k := 0) rfl (show nI j + Int32.ofInt 1 = nI (j + 1) from (nI_add j 1).trans (congrArg nI (by omega))) (by decide) rfl (fun ls hl => ?_)
                  refine lv_goto (tgt := 63) hx hb d_Mo_exchange_96 (by decide) ?_
                  exact ih (j + 1) B3 X9 (by omega) (by omega) hT4 (exP_no hP (by omega)) _ _ (S.sub [0, 1, 2, 3, 4, 5, 6, 7, 8, 9] (by decide) rfl) ls (lv_sub hl [0, 1, 2, 3, 4, 5] rfl)
                · refine lv_iload hx hb d_Mo_exchange_78 (lv_at hl 1 rfl) ?_
                  refine z_if_eq (a := tu) (tgt := 93) hx hb d_Mo_exchange_80 (by decide) (by omega) (fun hc20 => ?_) (fun hc20 => ?_)
                  · refine lv_iinc (v := nI (j + 1)) (lv' := [(5, .int (nI (j + 1))), (4, .int (nI tu)), (3, .int (nI (42 * r + c9))), (0, .ref h0), (1, .int (nI r)), (2, .int (nI c9))]) hx hb d_Mo_exchange_93 hl (k := 0) rfl (show nI j + Int32.ofInt 1 = nI (j + 1) from (nI_add j 1).trans (congrArg nI (by omega))) (by decide) rfl (fun ls hl => ?_)
                    refine lv_goto (tgt := 63) hx hb d_Mo_exchange_96 (by decide) ?_
                    exact ih (j + 1) B3 X9 (by omega) (by omega) hT4 (exP_no hP (by omega)) _ _ (S.sub [0, 1, 2, 3, 4, 5, 6, 7, 8, 9] (by decide) rfl) ls (lv_sub hl [0, 1, 2, 3, 4, 5] rfl)
                  · refine lv_aload_n hx hb d_Mo_exchange_83 rfl (lv_at hl 3 rfl) ?_
                    refine lv_iload_n hx hb d_Mo_exchange_84 rfl (lv_at hl 4 rfl) ?_
                    refine lv_iload hx hb d_Mo_exchange_85 (lv_at hl 0 rfl) ?_
                    refine r_backi (wi := []) (wr := [(h0, .inr (8, moL ma (va_up (va_up (va_up (va_up (va_up (va_up (va_up (va_up iv 14 (nI un)) 24 (nI rows)) 25 (nI aims)) 19 (w 0)) 20 (w 1)) 21 (w 2)) 22 (w 3)) 23 (w 4)) co)), ((ma 21), .inl (k 0, 319840, .inl (fun i => nI (D i)))), ((ma 22), .inl (k 0, 3998, .inl (fun i => nI (Z i)))), ((ma 23), .inl (k 2, 3998, .inl (fun i => nI (B3 i)))), ((ma 24), .inl (k 0, 170, .inl (fun i => nI (O9 i)))), ((ma 25), .inl (k 0, 170, .inl (fun i => nI (T9 i)))), ((ma 26), .inl (k 0, 170, .inl (fun i => nI (Q9 i)))), ((ma 27), .inl (k 0, 170, .inl (fun i => nI (V9 i)))), ((ma 28), .inl (k 0, 90, .inl (fun i => nI (rn i)))), ((ma 29), .inl (k 0, 41, .inl (fun i => nI (cn i))))]) S hA [] [0, 1, 2, 3, 4, 5, 6, 7, 8, 9] rfl rfl (by decide) (by decide) (va_runS (As := [.int (nI r), .int (nI j)]) (rest := [.ref h0]) ⟨hx, hb, C.2.2.1, C.2.2.2.1, C.2.2.2.2.1⟩ (g_Mo_at l G k _ r j) (k_stat (n := 2) C wc_Mo_at rfl rfl wz_Mo wm_Mo_328 wt_Mo_at (by decide +kernel) ⟨(Nat.le_of_ble_eq_true rfl), (Nat.le_of_ble_eq_true rfl)⟩) (pr_now K S [] (by decide) rfl) rfl rfl hl.1 rfl (lv_room (Nat.le_of_ble_eq_true rfl)) d_Mo_exchange_87 ⟨(Nat.le_of_ble_eq_true rfl), (Nat.le_of_ble_eq_true rfl)⟩) (fun r23 u21 H locs hw22 S => ?_)
                    have S : Sw G A s.heap _ _ [(h0, .inr (8, moL ma (va_up (va_up (va_up (va_up (va_up (va_up (va_up (va_up iv 14 (nI un)) 24 (nI rows)) 25 (nI aims)) 19 (w 0)) 20 (w 1)) 21 (w 2)) 22 (w 3)) 23 (w 4)) co)), ((ma 21), .inl (k 0, 319840, .inl (fun i => nI (D i)))), ((ma 22), .inl (k 0, 3998, .inl (fun i => nI (Z i)))), ((ma 23), .inl (k 2, 3998, .inl (fun i => nI (B3 i)))), ((ma 24), .inl (k 0, 170, .inl (fun i => nI (O9 i)))), ((ma 25), .inl (k 0, 170, .inl (fun i => nI (T9 i)))), ((ma 26), .inl (k 0, 170, .inl (fun i => nI (Q9 i)))), ((ma 27), .inl (k 0, 170, .inl (fun i => nI (V9 i)))), ((ma 28), .inl (k 0, 90, .inl (fun i => nI (rn i)))), ((ma 29), .inl (k 0, 41, .inl (fun i => nI (cn i))))] := S
                    obtain rfl : r23 = nI (42 * r + j) := hw22
                    refine r_backv (wi := [(h0, .inr (8, moL ma (va_up (va_up (va_up (va_up (va_up (va_up (va_up (va_up iv 14 (nI un)) 24 (nI rows)) 25 (nI aims)) 19 (w 0)) 20 (w 1)) 21 (w 2)) 22 (w 3)) 23 (w 4)) co)), ((ma 22), .inl (k 0, 3998, .inl (fun i => nI (Z i)))), ((ma 23), .inl (k 2, 3998, .inl (fun i => nI (B3 i))))]) (wr := [((ma 21), .inl (k 0, 319840, .inl (fun i => nI (D i)))), ((ma 24), .inl (k 0, 170, .inl (fun i => nI (O9 i)))), ((ma 25), .inl (k 0, 170, .inl (fun i => nI (T9 i)))), ((ma 26), .inl (k 0, 170, .inl (fun i => nI (Q9 i)))), ((ma 27), .inl (k 0, 170, .inl (fun i => nI (V9 i)))), ((ma 28), .inl (k 0, 90, .inl (fun i => nI (rn i)))), ((ma 29), .inl (k 0, 41, .inl (fun i => nI (cn i))))]) S hA [0, 2, 3] [1, 4, 5, 6, 7, 8, 9] rfl rfl (by decide) (by decide) (va_runV (As := [.int (nI (42 * r + j))]) (rest := []) ⟨hx, hb, C.2.2.1, C.2.2.2.1, C.2.2.2.2.1⟩ (g_Mo_turn l G k h0 _ ma (va_up (va_up (va_up (va_up (va_up (va_up (va_up (va_up iv 14 (nI un)) 24 (nI rows)) 25 (nI aims)) 19 (w 0)) 20 (w 1)) 21 (w 2)) 22 (w 3)) 23 (w 4)) co Z B3 (42 * r + j) (by omega) (hT4.2 _ (by omega)).1 (hT4.2 _ (by omega)).2.1) (k_virt (n := 1) C wc_Mo_turn rfl rfl wz_Mo wm_Mo_343 wn_Mo_turn ws_Mo_turn (by decide +kernel) ⟨(Nat.le_of_ble_eq_true rfl), (Nat.le_of_ble_eq_true rfl)⟩) (pr_nowV K S [0, 2, 3] (by decide) rfl 0 rfl rfl) rfl rfl hl.1 rfl (lv_room (Nat.le_of_ble_eq_true rfl)) d_Mo_exchange_90 ⟨(Nat.le_of_ble_eq_true rfl), (Nat.le_of_ble_eq_true rfl)⟩) (fun tb H locs hw25 S => ?_)
                    have S : Sw G A s.heap _ _ [((ma 21), .inl (k 0, 319840, .inl (fun i => nI (D i)))), ((ma 24), .inl (k 0, 170, .inl (fun i => nI (O9 i)))), ((ma 25), .inl (k 0, 170, .inl (fun i => nI (T9 i)))), ((ma 26), .inl (k 0, 170, .inl (fun i => nI (Q9 i)))), ((ma 27), .inl (k 0, 170, .inl (fun i => nI (V9 i)))), ((ma 28), .inl (k 0, 90, .inl (fun i => nI (rn i)))), ((ma 29), .inl (k 0, 41, .inl (fun i => nI (cn i)))), (h0, .inr (8, moL ma (va_up (va_up (va_up (va_up (va_up (va_up (va_up (va_up iv 14 (nI un)) 24 (nI rows)) 25 (nI aims)) 19 (w 0)) 20 (w 1)) 21 (w 2)) 22 (w 3)) 23 (w 4)) co)), ((ma 22), .inl (k 0, 3998, .inl (fun i => nI (Z i)))), ((ma 23), .inl (k 2, 3998, .inl (fun i => nI (tb i))))] := S
                    obtain rfl : tb = va_up B3 (42 * r + j) (tnB (Z (42 * r + j)) (B3 (42 * r + j))) := hw25
                    have S : Sw G A s.heap _ _ [((ma 21), .inl (k 0, 319840, .inl (fun i => nI (D i)))), ((ma 24), .inl (k 0, 170, .inl (fun i => nI (O9 i)))), ((ma 25), .inl (k 0, 170, .inl (fun i => nI (T9 i)))), ((ma 26), .inl (k 0, 170, .inl (fun i => nI (Q9 i)))), ((ma 27), .inl (k 0, 170, .inl (fun i => nI (V9 i)))), ((ma 28), .inl (k 0, 90, .inl (fun i => nI (rn i)))), ((ma 29), .inl (k 0, 41, .inl (fun i => nI (cn i)))), (h0, .inr (8, moL ma (va_up (va_up (va_up (va_up (va_up (va_up (va_up (va_up iv 14 (nI un)) 24 (nI rows)) 25 (nI aims)) 19 (w 0)) 20 (w 1)) 21 (w 2)) 22 (w 3)) 23 (w 4)) co)), ((ma 22), .inl (k 0, 3998, .inl (fun i => nI (Z i)))), ((ma 23), .inl (k 2, 3998, .inl (fun i => nI ((va_up B3 (42 * r + j) (tnB (Z (42 * r + j)) (B3 (42 * r + j)))) i))))] := S
                    refine lv_iinc (v := nI (j + 1)) (lv' := [(5, .int (nI (j + 1))), (4, .int (nI tu)), (3, .int (nI (42 * r + c9))), (0, .ref h0), (1, .int (nI r)), (2, .int (nI c9))]) hx hb d_Mo_exchange_93 hl (k := 0) rfl (show nI j + Int32.ofInt 1 = nI (j + 1) from (nI_add j 1).trans (congrArg nI (by omega))) (by decide) rfl (fun ls hl => ?_)
                    refine lv_goto (tgt := 63) hx hb d_Mo_exchange_96 (by decide) ?_
                    exact ih (j + 1) (va_up B3 (42 * r + j) (tnB (Z (42 * r + j)) (B3 (42 * r + j)))) (va_up X9 (42 * r + j) (- X9 (42 * r + j))) (by omega) (by omega) (tbO_turn hT4 (by omega)) (exP_s hP (by omega) (by omega) (by omega)) _ _ (S.sub [7, 0, 8, 9, 1, 2, 3, 4, 5, 6] (by decide) rfl) ls (lv_sub hl [0, 1, 2, 3, 4, 5] rfl)
          exact lc _ 0 B U9 (Nat.lt_succ_self _) (by omega) hT2 (exP_0 ht1) _ _ (S.sub [0, 1, 2, 3, 4, 5, 6, 7, 8, 9] (by decide) rfl) ls (lv_sub hl [0, 1, 2, 3, 4, 5] rfl)
        · refine lv_iload hx hb d_Mo_exchange_38 (lv_at hl 0 rfl) ?_
          refine lv_iload_n hx hb d_Mo_exchange_40 rfl (lv_at hl 4 rfl) ?_
          refine z_icmp_eq (a := ri) (b := r) (tgt := 54) hx hb d_Mo_exchange_41 (by decide) (by omega) (by omega) (fun hc26 => ?_) (fun hc26 => ?_)
          · refine lv_iinc (v := nI (ri + 1)) (lv' := [(5, .int (nI (ri + 1))), (4, .int (nI tu)), (3, .int (nI (42 * r + c9))), (0, .ref h0), (1, .int (nI r)), (2, .int (nI c9))]) hx hb d_Mo_exchange_54 hl (k := 0) rfl (show nI ri + Int32.ofInt 1 = nI (ri + 1) from (nI_add ri 1).trans (congrArg nI (by omega))) (by decide) rfl (fun ls hl => ?_)
            refine lv_goto (tgt := 24) hx hb d_Mo_exchange_57 (by decide) ?_
            exact ih (ri + 1) D Z B O9 T9 Q9 V9 w U9 (by omega) (by omega) hT2 (by rw [hc26] at hK ⊢; exact exK_r hK) e1 e2 e3 e4 _ _ (S.sub [0, 1, 2, 3, 4, 5, 6, 7, 8, 9] (by decide) rfl) ls (lv_sub hl [0, 1, 2, 3, 4, 5] rfl)
          · refine lv_aload_n hx hb d_Mo_exchange_44 rfl (lv_at hl 3 rfl) ?_
            refine lv_iload hx hb d_Mo_exchange_45 (lv_at hl 0 rfl) ?_
            refine lv_iload_n hx hb d_Mo_exchange_47 rfl (lv_at hl 4 rfl) ?_
            refine lv_iload_n hx hb d_Mo_exchange_48 rfl (lv_at hl 5 rfl) ?_
            refine lv_iload hx hb d_Mo_exchange_49 (lv_at hl 1 rfl) ?_
            obtain ⟨k1, k2, k3⟩ := exF_K hu hsu (by omega) hF hK (by omega) (show ri ≠ r by omega)
            refine r_backv (wi := [(h0, .inr (8, moL ma (va_up (va_up (va_up (va_up (va_up (va_up (va_up (va_up iv 24 (nI rows)) 25 (nI aims)) 19 (w 0)) 20 (w 1)) 21 (w 2)) 22 (w 3)) 23 (w 4)) 14 (nI un)) co)), ((ma 21), .inl (k 0, 319840, .inl (fun i => nI (D i)))), ((ma 22), .inl (k 0, 3998, .inl (fun i => nI (Z i)))), ((ma 23), .inl (k 2, 3998, .inl (fun i => nI (B i)))), ((ma 24), .inl (k 0, 170, .inl (fun i => nI (O9 i)))), ((ma 25), .inl (k 0, 170, .inl (fun i => nI (T9 i)))), ((ma 26), .inl (k 0, 170, .inl (fun i => nI (Q9 i)))), ((ma 27), .inl (k 0, 170, .inl (fun i => nI (V9 i))))]) (wr := [((ma 28), .inl (k 0, 90, .inl (fun i => nI (rn i)))), ((ma 29), .inl (k 0, 41, .inl (fun i => nI (cn i))))]) S hA [0, 1, 2, 3, 4, 5, 6, 7] [8, 9] rfl rfl (by decide) (by decide) (va_runV (As := [.int (nI ri), .int (nI r), .int (nI c9), .int (nI tu)]) (rest := []) ⟨hx, hb, C.2.2.1, C.2.2.2.1, C.2.2.2.2.1⟩ (g_Mo_rowBy l G k h0 _ ri r c9 tu un ma (va_up (va_up (va_up (va_up (va_up (va_up (va_up iv 24 (nI rows)) 25 (nI aims)) 19 (w 0)) 20 (w 1)) 21 (w 2)) 22 (w 3)) 23 (w 4)) co D Z B O9 T9 Q9 V9 U9 hT2 (by omega) (by omega) (by omega) hsu hu (by rw [k1]; exact h1) (by rw [k2]; exact htu) k3 e1 e2 e3 e4) (k_virt (n := 4) C wc_Mo_rowBy rfl rfl wz_Mo wm_Mo_339 wn_Mo_rowBy ws_Mo_rowBy (by decide +kernel) ⟨(Nat.le_of_ble_eq_true rfl), (Nat.le_of_ble_eq_true rfl)⟩) (pr_nowV K S [0, 1, 2, 3, 4, 5, 6, 7] (by decide) rfl 0 rfl rfl) rfl rfl hl.1 rfl (lv_room (Nat.le_of_ble_eq_true rfl)) d_Mo_exchange_51 ⟨(Nat.le_of_ble_eq_true rfl), (Nat.le_of_ble_eq_true rfl)⟩) (fun ru H locs hw27 S => ?_)
            have S : Sw G A s.heap _ _ [((ma 28), .inl (k 0, 90, .inl (fun i => nI (rn i)))), ((ma 29), .inl (k 0, 41, .inl (fun i => nI (cn i)))), (h0, .inr (8, moL ma (va_up (va_up (va_up (va_up (va_up (va_up (va_up (va_up iv 24 (nI rows)) 25 (nI aims)) 14 (nI un)) 19 (ru.2 0)) 20 (ru.2 1)) 21 (ru.2 2)) 22 (ru.2 3)) 23 (ru.2 4)) co)), ((ma 21), .inl (k 0, 319840, .inl (fun i => nI (ru.1 0 i)))), ((ma 22), .inl (k 0, 3998, .inl (fun i => nI (ru.1 1 i)))), ((ma 23), .inl (k 2, 3998, .inl (fun i => nI (ru.1 2 i)))), ((ma 24), .inl (k 0, 170, .inl (fun i => nI (ru.1 3 i)))), ((ma 25), .inl (k 0, 170, .inl (fun i => nI (ru.1 4 i)))), ((ma 26), .inl (k 0, 170, .inl (fun i => nI (ru.1 5 i)))), ((ma 27), .inl (k 0, 170, .inl (fun i => nI (ru.1 6 i))))] := S
            obtain ⟨hT3, a1, a2, a3, a4⟩ := hw27
            refine lv_iinc (v := nI (ri + 1)) (lv' := [(5, .int (nI (ri + 1))), (4, .int (nI tu)), (3, .int (nI (42 * r + c9))), (0, .ref h0), (1, .int (nI r)), (2, .int (nI c9))]) hx hb d_Mo_exchange_54 hl (k := 0) rfl (show nI ri + Int32.ofInt 1 = nI (ri + 1) from (nI_add ri 1).trans (congrArg nI (by omega))) (by decide) rfl (fun ls hl => ?_)
            refine lv_goto (tgt := 24) hx hb d_Mo_exchange_57 (by decide) ?_
            exact ih (ri + 1) (ru.1 0) (ru.1 1) (ru.1 2) (ru.1 3) (ru.1 4) (ru.1 5) (ru.1 6) ru.2 (rbF un r c9 ri U9) (by omega) (by omega) hT3 (exK_s hu (by omega) (by omega) (by omega) hK) a1 a2 a3 a4 _ _ (S.sub [2, 3, 4, 5, 6, 7, 8, 9, 0, 1] (by decide) rfl) ls (lv_sub hl [0, 1, 2, 3, 4, 5] rfl)
    exact lp _ 0 dg sz bl O T2 qt Dv (fun j => iv (19 + j)) T (Nat.lt_succ_self _) (by omega) hT (exK_0 _ _ _ _) dO d2 dQ dD _ _ (S.sub [7, 0, 8, 9, 1, 2, 3, 4, 5, 6] (by decide) rfl) ls (lv_sub hl [0, 1, 2, 3, 4, 5] rfl)
  refine lv_if_le (tgt := 18) hx hb d_Mo_exchange_11 (by decide) (fun hc28 => ?_) (fun hc28 => ?_)
  · refine lv_iconst (v := 0) hx hb d_Mo_exchange_18 (by decide) ?_
    rw [sgN_val (hT.2 (42 * r + c9) (by omega))] at hc28
    exact go9 0 (by rw [if_neg (sg_le hc28)]) _ _ (S.sub [0, 1, 2, 3, 4, 5, 6, 7, 8, 9] (by decide) rfl) ls (lv_sub hl [0, 1, 2, 3] rfl)
  · refine lv_iconst (v := 1) hx hb d_Mo_exchange_14 (by decide) ?_
    refine lv_goto (tgt := 19) hx hb d_Mo_exchange_15 (by decide) ?_
    rw [sgN_val (hT.2 (42 * r + c9) (by omega))] at hc28
    exact go9 1 (by rw [if_pos (sg_gt hc28)]) _ _ (S.sub [0, 1, 2, 3, 4, 5, 6, 7, 8, 9] (by decide) rfl) ls (lv_sub hl [0, 1, 2, 3] rfl)
end
section
/-! a contract with a weaker post; put for any long but the lowest -/
theorem CV_imp {S S' : Type} {l : Launch} {y : MethodName} {cc : ByteArray} {n : Nat} {rm : Room} {as : List Value} {G : va_G} {k : Nat → ClassId} {sz : Nat} {wi : va_W} {post : S → Prop} {wo : S → va_W} {post' : S' → Prop} {wo' : S' → va_W} {mc ms : Nat} (h : CV l y cc n rm as G k sz wi post wo mc ms) (hq : ∀ u, post u → ∃ u', post' u' ∧ wo' u' = wo u) : CV l y cc n rm as G k sz wi post' wo' mc ms := by
  refine Jvm.Free.MetFree.mono h (fun _ _ x => x) (fun _ _ _ _ _ x => x) (fun a s o t _ hh => ?_)
  obtain ⟨⟨⟨u, h1, h2, h3⟩, h4⟩, h5⟩ := hh
  obtain ⟨u', g1, g2⟩ := hq u h2
  refine ⟨⟨⟨u', h1, g1, ?_⟩, h4⟩, h5⟩
  unfold Po at h3 ⊢
  rw [g2]
  exact h3
theorem lN_of {x : Int64} (h : 0 ≤ x.toInt) : x = lN x.toInt.toNat := by
  apply Int64.toInt_inj.mp
  have h1 := x.toInt_lt
  show x.toInt = (Int64.ofNat x.toInt.toNat).toInt
  rw [Int64.toInt_ofNat_of_lt (by omega)]
  omega
theorem lN_neg_of {x : Int64} (h : x.toInt < 0) (h2 : -9223372036854775808 < x.toInt) : x = - lN (- x.toInt).toNat := by
  apply Int64.toInt_inj.mp
  have e : (lN (- x.toInt).toNat).toInt = - x.toInt := by
    show (Int64.ofNat (- x.toInt).toNat).toInt = _
    rw [Int64.toInt_ofNat_of_lt (by omega)]
    omega
  rw [Int64.toInt_neg, e, Int.neg_neg]
  exact (Int.bmod_eq_of_le (by omega) (by have := x.toInt_lt; omega)).symm
theorem g_Mo_putZ (l : Launch) (G : va_G) (k : Nat → ClassId) (h0 s0 c0 : Nat) (x : Int64) (ma : Nat → Nat) (iv : Nat → Int32) (co : Int64) (dg sz bl : Nat → Nat) (T : Nat → Int) (hT : tbO dg sz bl T) (kc : c0 < 3998) (hx : -9223372036854775808 < x.toInt) : CV l y_Mo_put c_Mo_put 7 { frames := 0, cells := 0, slots := 0, locals := 0 } [.ref h0, .int (nI c0), .long x] G k s0 [(h0, .inr (8, moL ma iv co)), ((ma 21), .inl (k 0, 319840, .inl (fun i => nI (dg i)))), ((ma 22), .inl (k 0, 3998, .inl (fun i => nI (sz i)))), ((ma 23), .inl (k 2, 3998, .inl (fun i => nI (bl i))))] (fun (u : (Nat → Nat) × (Nat → Nat) × (Nat → Nat)) => tbO u.1 u.2.1 u.2.2 (va_up T c0 x.toInt)) (fun u => [(h0, .inr (8, moL ma iv co)), ((ma 21), .inl (k 0, 319840, .inl (fun i => nI (u.1 i)))), ((ma 22), .inl (k 0, 3998, .inl (fun i => nI (u.2.1 i)))), ((ma 23), .inl (k 2, 3998, .inl (fun i => nI (u.2.2 i))))]) 0 0 := by
  by_cases q : 0 ≤ x.toInt
  · have e := lN_of q
    have h := g_Mo_put_p l G k h0 s0 c0 x.toInt.toNat ma iv co dg sz bl kc (by have := x.toInt_lt; omega) hT.1
    rw [← e] at h
    refine CV_imp h (fun u hu => ⟨(u.1, va_up sz c0 u.2, va_up bl c0 0), ?_, rfl⟩)
    have := tbO_put_p hT hu
    rw [show ((x.toInt.toNat : Nat) : Int) = x.toInt by omega] at this
    exact this
  · have e := lN_neg_of (x := x) (by omega) hx
    have h := g_Mo_put_n l G k h0 s0 c0 (- x.toInt).toNat ma iv co dg sz bl kc (by omega) (by omega) hT.1
    rw [← e] at h
    refine CV_imp h (fun u hu => ⟨(u.1, va_up sz c0 u.2, va_up bl c0 1), ?_, rfl⟩)
    have := tbO_put_n hT (by omega) hu
    rw [show - (((- x.toInt).toNat : Nat) : Int) = x.toInt by omega] at this
    exact this
end
section
/-- a place, or none -/
def bI : Option Nat → Int32
  | none => -1
  | some r => nI r
/-- two products of amounts compared -/
def cpZ (a b c d : Int) : Int32 := if a.natAbs * b.natAbs = c.natAbs * d.natAbs then 0 else if a.natAbs * b.natAbs < c.natAbs * d.natAbs then -1 else 1
theorem cp_val {a b : Int} (ha : 0 ≤ a) (hb : b < 0) : ((a.natAbs * b.natAbs : Nat) : Int) = a * - b := by
  rw [Int.natCast_mul, show ((a.natAbs : Nat) : Int) = a by omega, show ((b.natAbs : Nat) : Int) = - b by omega]
theorem cp_lt {a b c d : Int} (h : cpZ a b c d < 0) (ha : 0 ≤ a) (hb : b < 0) (hc : 0 ≤ c) (hd : d < 0) : a * - b < c * - d := by
  rw [← cp_val ha hb, ← cp_val hc hd]
  unfold cpZ at h
  split at h
  · exact absurd h (by decide)
  · split at h
    · omega
    · exact absurd h (by decide)
theorem cp_eq {a b c d : Int} (h : cpZ a b c d = 0) (ha : 0 ≤ a) (hb : b < 0) (hc : 0 ≤ c) (hd : d < 0) : a * - b = c * - d := by
  rw [← cp_val ha hb, ← cp_val hc hd]
  unfold cpZ at h
  split at h
  · omega
  · split at h
    · exact absurd h (by decide)
    · exact absurd h (by decide)
theorem cp_gt {a b c d : Int} (h1 : ¬ cpZ a b c d < 0) (h2 : ¬ cpZ a b c d = 0) (ha : 0 ≤ a) (hb : b < 0) (hc : 0 ≤ c) (hd : d < 0) : c * - d < a * - b := by
  rw [← cp_val ha hb, ← cp_val hc hd]
  unfold cpZ at h1 h2
  split at h1
  · rename_i q; rw [if_pos q] at h2; exact absurd rfl h2
  · rename_i q
    split at h1
    · exact absurd (by decide) h1
    · omega
/-- the first that is not 0 decides -/
theorem sxN_at {f : Nat → Int} {K q : Nat} (hq : q < K) (h0 : ∀ p, p < q → f p = 0) (h1 : q + 1 = K ∨ f q ≠ 0) : sxN K f ↔ f q < 0 := by
  constructor
  · rintro ⟨p, a, b, c⟩
    rcases Nat.lt_trichotomy p q with w | w | w
    · rw [h0 p w] at c; exact absurd c (by decide)
    · rw [← w]; exact c
    · rcases h1 with h | h
      · omega
      · exact absurd (b q w) h
  · exact fun c => ⟨q, hq, h0, c⟩
theorem d_Mo_shareOf_0 : decode c_Mo_shareOf 0 = .ok (.aload_n 0, 1) := by decide +kernel
theorem d_Mo_shareOf_1 : decode c_Mo_shareOf 1 = .ok (.iload_n 1, 1) := by decide +kernel
theorem d_Mo_shareOf_2 : decode c_Mo_shareOf 2 = .ok (.bipush 41, 2) := by decide +kernel
theorem d_Mo_shareOf_4 : decode c_Mo_shareOf 4 = .ok (.invokestatic 328, 3) := by decide +kernel
theorem d_Mo_shareOf_7 : decode c_Mo_shareOf 7 = .ok (.iload_n 2, 1) := by decide +kernel
theorem d_Mo_shareOf_8 : decode c_Mo_shareOf 8 = .ok (.iload_n 3, 1) := by decide +kernel
theorem d_Mo_shareOf_9 : decode c_Mo_shareOf 9 = .ok (.invokestatic 328, 3) := by decide +kernel
theorem d_Mo_shareOf_12 : decode c_Mo_shareOf 12 = .ok (.iload_n 2, 1) := by decide +kernel
theorem d_Mo_shareOf_13 : decode c_Mo_shareOf 13 = .ok (.bipush 41, 2) := by decide +kernel
theorem d_Mo_shareOf_15 : decode c_Mo_shareOf 15 = .ok (.invokestatic 328, 3) := by decide +kernel
theorem d_Mo_shareOf_18 : decode c_Mo_shareOf 18 = .ok (.iload_n 1, 1) := by decide +kernel
theorem d_Mo_shareOf_19 : decode c_Mo_shareOf 19 = .ok (.iload_n 3, 1) := by decide +kernel
theorem d_Mo_shareOf_20 : decode c_Mo_shareOf 20 = .ok (.invokestatic 328, 3) := by decide +kernel
theorem d_Mo_shareOf_23 : decode c_Mo_shareOf 23 = .ok (.invokevirtual 370, 3) := by decide +kernel
theorem d_Mo_shareOf_26 : decode c_Mo_shareOf 26 = .ok (.ireturn, 1) := by decide +kernel
set_option maxRecDepth 100000 in
set_option maxHeartbeats 16000000 in
/-- shareOf(ri, kk, c9) -/
theorem g_Mo_shareOf (l : Launch) (G : va_G) (k : Nat → ClassId) (h0 : Nat) (s0 : Nat) (ri : Nat) (kk : Nat) (c9 : Nat) (ma : Nat → Nat) (iv : Nat → Int32) (co : Int64) (dg : Nat → Nat) (sz : Nat → Nat) (bl : Nat → Nat) (O : Nat → Nat) (T2 : Nat → Nat) (T : Nat → Int) (hT : tbO dg sz bl T) (hi : ri < 95) (hk : kk < 95) (hc : c9 < 42) (dO : ∀ i, i < 170 → O i < 65536) (d2 : ∀ i, i < 170 → T2 i < 65536) : CI l y_Mo_shareOf c_Mo_shareOf 4 .int { frames := 3, cells := 0, slots := 0, locals := 124 } [.ref h0, .int (nI ri), .int (nI kk), .int (nI c9)] G k s0 [(h0, .inr (8, moL ma iv co)), ((ma 21), .inl (k 0, 319840, .inl (fun i => nI (dg i)))), ((ma 22), .inl (k 0, 3998, .inl (fun i => nI (sz i)))), ((ma 24), .inl (k 0, 170, .inl (fun i => nI (O i)))), ((ma 25), .inl (k 0, 170, .inl (fun i => nI (T2 i))))] (fun (r : Int32) (u : (Nat → Nat → Nat) × (Nat → Int32)) => r = cpZ (T (42 * ri + 41)) (T (42 * kk + c9)) (T (42 * kk + 41)) (T (42 * ri + c9)) ∧ (∀ i, i < 170 → u.1 0 i < 65536) ∧ (∀ i, i < 170 → u.1 1 i < 65536)) (fun u => [(h0, .inr (8, moL ma (va_up (va_up iv 19 (u.2 0)) 20 (u.2 1)) co)), ((ma 21), .inl (k 0, 319840, .inl (fun i => nI (dg i)))), ((ma 22), .inl (k 0, 3998, .inl (fun i => nI (sz i)))), ((ma 24), .inl (k 0, 170, .inl (fun i => nI (u.1 0 i)))), ((ma 25), .inl (k 0, 170, .inl (fun i => nI (u.1 1 i))))]) 0 0 := by
  refine met_start (by decide) (Nat.le_of_ble_eq_true rfl) ?_
  intro p e s m below meth c C K hA hsz S ls hl
  generalize va_A [(h0, .inr (8, moL ma iv co)), ((ma 21), .inl (k 0, 319840, .inl (fun i => nI (dg i)))), ((ma 22), .inl (k 0, 3998, .inl (fun i => nI (sz i)))), ((ma 24), .inl (k 0, 170, .inl (fun i => nI (O i)))), ((ma 25), .inl (k 0, 170, .inl (fun i => nI (T2 i))))] s0 = A at hA S ⊢
  have hx := C.1
  have hb := C.2.1
  have hl : lv_has ls 4 [(0, .ref h0), (1, .int (nI ri)), (2, .int (nI kk)), (3, .int (nI c9))] := hl
  refine lv_aload_n hx hb d_Mo_shareOf_0 rfl (lv_at hl 0 rfl) ?_
  refine lv_iload_n hx hb d_Mo_shareOf_1 rfl (lv_at hl 1 rfl) ?_
  refine lv_bipush (v := 41) hx hb d_Mo_shareOf_2 (by decide) ?_
  refine r_backi (wi := []) (wr := [(h0, .inr (8, moL ma iv co)), ((ma 21), .inl (k 0, 319840, .inl (fun i => nI (dg i)))), ((ma 22), .inl (k 0, 3998, .inl (fun i => nI (sz i)))), ((ma 24), .inl (k 0, 170, .inl (fun i => nI (O i)))), ((ma 25), .inl (k 0, 170, .inl (fun i => nI (T2 i))))]) S hA [] [0, 1, 2, 3, 4] rfl rfl (by decide) (by decide) (va_runS (As := [.int (nI ri), .int 41]) (rest := [.ref h0]) ⟨hx, hb, C.2.2.1, C.2.2.2.1, C.2.2.2.2.1⟩ (g_Mo_at l G k _ ri 41) (k_stat (n := 2) C wc_Mo_at rfl rfl wz_Mo wm_Mo_328 wt_Mo_at (by decide +kernel) ⟨(Nat.le_of_ble_eq_true rfl), (Nat.le_of_ble_eq_true rfl)⟩) (pr_now K S [] (by decide) rfl) rfl rfl hl.1 rfl (lv_room (Nat.le_of_ble_eq_true rfl)) d_Mo_shareOf_4 ⟨(Nat.le_of_ble_eq_true rfl), (Nat.le_of_ble_eq_true rfl)⟩) (fun r3 u1 H locs hw2 S => ?_)
  have S : Sw G A s.heap _ _ [(h0, .inr (8, moL ma iv co)), ((ma 21), .inl (k 0, 319840, .inl (fun i => nI (dg i)))), ((ma 22), .inl (k 0, 3998, .inl (fun i => nI (sz i)))), ((ma 24), .inl (k 0, 170, .inl (fun i => nI (O i)))), ((ma 25), .inl (k 0, 170, .inl (fun i => nI (T2 i))))] := S
  obtain rfl : r3 = nI (42 * ri + 41) := hw2
  refine lv_iload_n hx hb d_Mo_shareOf_7 rfl (lv_at hl 2 rfl) ?_
  refine lv_iload_n hx hb d_Mo_shareOf_8 rfl (lv_at hl 3 rfl) ?_
  refine r_backi (wi := []) (wr := [(h0, .inr (8, moL ma iv co)), ((ma 21), .inl (k 0, 319840, .inl (fun i => nI (dg i)))), ((ma 22), .inl (k 0, 3998, .inl (fun i => nI (sz i)))), ((ma 24), .inl (k 0, 170, .inl (fun i => nI (O i)))), ((ma 25), .inl (k 0, 170, .inl (fun i => nI (T2 i))))]) S hA [] [0, 1, 2, 3, 4] rfl rfl (by decide) (by decide) (va_runS (As := [.int (nI kk), .int (nI c9)]) (rest := [.int (nI (42 * ri + 41)), .ref h0]) ⟨hx, hb, C.2.2.1, C.2.2.2.1, C.2.2.2.2.1⟩ (g_Mo_at l G k _ kk c9) (k_stat (n := 2) C wc_Mo_at rfl rfl wz_Mo wm_Mo_328 wt_Mo_at (by decide +kernel) ⟨(Nat.le_of_ble_eq_true rfl), (Nat.le_of_ble_eq_true rfl)⟩) (pr_now K S [] (by decide) rfl) rfl rfl hl.1 rfl (lv_room (Nat.le_of_ble_eq_true rfl)) d_Mo_shareOf_9 ⟨(Nat.le_of_ble_eq_true rfl), (Nat.le_of_ble_eq_true rfl)⟩) (fun r7 u5 H locs hw6 S => ?_)
  have S : Sw G A s.heap _ _ [(h0, .inr (8, moL ma iv co)), ((ma 21), .inl (k 0, 319840, .inl (fun i => nI (dg i)))), ((ma 22), .inl (k 0, 3998, .inl (fun i => nI (sz i)))), ((ma 24), .inl (k 0, 170, .inl (fun i => nI (O i)))), ((ma 25), .inl (k 0, 170, .inl (fun i => nI (T2 i))))] := S
  obtain rfl : r7 = nI (42 * kk + c9) := hw6
  refine lv_iload_n hx hb d_Mo_shareOf_12 rfl (lv_at hl 2 rfl) ?_
  refine lv_bipush (v := 41) hx hb d_Mo_shareOf_13 (by decide) ?_
  refine r_backi (wi := []) (wr := [(h0, .inr (8, moL ma iv co)), ((ma 21), .inl (k 0, 319840, .inl (fun i => nI (dg i)))), ((ma 22), .inl (k 0, 3998, .inl (fun i => nI (sz i)))), ((ma 24), .inl (k 0, 170, .inl (fun i => nI (O i)))), ((ma 25), .inl (k 0, 170, .inl (fun i => nI (T2 i))))]) S hA [] [0, 1, 2, 3, 4] rfl rfl (by decide) (by decide) (va_runS (As := [.int (nI kk), .int 41]) (rest := [.int (nI (42 * kk + c9)), .int (nI (42 * ri + 41)), .ref h0]) ⟨hx, hb, C.2.2.1, C.2.2.2.1, C.2.2.2.2.1⟩ (g_Mo_at l G k _ kk 41) (k_stat (n := 2) C wc_Mo_at rfl rfl wz_Mo wm_Mo_328 wt_Mo_at (by decide +kernel) ⟨(Nat.le_of_ble_eq_true rfl), (Nat.le_of_ble_eq_true rfl)⟩) (pr_now K S [] (by decide) rfl) rfl rfl hl.1 rfl (lv_room (Nat.le_of_ble_eq_true rfl)) d_Mo_shareOf_15 ⟨(Nat.le_of_ble_eq_true rfl), (Nat.le_of_ble_eq_true rfl)⟩) (fun r11 u9 H locs hw10 S => ?_)
  have S : Sw G A s.heap _ _ [(h0, .inr (8, moL ma iv co)), ((ma 21), .inl (k 0, 319840, .inl (fun i => nI (dg i)))), ((ma 22), .inl (k 0, 3998, .inl (fun i => nI (sz i)))), ((ma 24), .inl (k 0, 170, .inl (fun i => nI (O i)))), ((ma 25), .inl (k 0, 170, .inl (fun i => nI (T2 i))))] := S
  obtain rfl : r11 = nI (42 * kk + 41) := hw10
  refine lv_iload_n hx hb d_Mo_shareOf_18 rfl (lv_at hl 1 rfl) ?_
  refine lv_iload_n hx hb d_Mo_shareOf_19 rfl (lv_at hl 3 rfl) ?_
  refine r_backi (wi := []) (wr := [(h0, .inr (8, moL ma iv co)), ((ma 21), .inl (k 0, 319840, .inl (fun i => nI (dg i)))), ((ma 22), .inl (k 0, 3998, .inl (fun i => nI (sz i)))), ((ma 24), .inl (k 0, 170, .inl (fun i => nI (O i)))), ((ma 25), .inl (k 0, 170, .inl (fun i => nI (T2 i))))]) S hA [] [0, 1, 2, 3, 4] rfl rfl (by decide) (by decide) (va_runS (As := [.int (nI ri), .int (nI c9)]) (rest := [.int (nI (42 * kk + 41)), .int (nI (42 * kk + c9)), .int (nI (42 * ri + 41)), .ref h0]) ⟨hx, hb, C.2.2.1, C.2.2.2.1, C.2.2.2.2.1⟩ (g_Mo_at l G k _ ri c9) (k_stat (n := 2) C wc_Mo_at rfl rfl wz_Mo wm_Mo_328 wt_Mo_at (by decide +kernel) ⟨(Nat.le_of_ble_eq_true rfl), (Nat.le_of_ble_eq_true rfl)⟩) (pr_now K S [] (by decide) rfl) rfl rfl hl.1 rfl (lv_room (Nat.le_of_ble_eq_true rfl)) d_Mo_shareOf_20 ⟨(Nat.le_of_ble_eq_true rfl), (Nat.le_of_ble_eq_true rfl)⟩) (fun r15 u13 H locs hw14 S => ?_)
  have S : Sw G A s.heap _ _ [(h0, .inr (8, moL ma iv co)), ((ma 21), .inl (k 0, 319840, .inl (fun i => nI (dg i)))), ((ma 22), .inl (k 0, 3998, .inl (fun i => nI (sz i)))), ((ma 24), .inl (k 0, 170, .inl (fun i => nI (O i)))), ((ma 25), .inl (k 0, 170, .inl (fun i => nI (T2 i))))] := S
  obtain rfl : r15 = nI (42 * ri + c9) := hw14
  refine r_backi (wi := [(h0, .inr (8, moL ma iv co)), ((ma 21), .inl (k 0, 319840, .inl (fun i => nI (dg i)))), ((ma 22), .inl (k 0, 3998, .inl (fun i => nI (sz i)))), ((ma 24), .inl (k 0, 170, .inl (fun i => nI (O i)))), ((ma 25), .inl (k 0, 170, .inl (fun i => nI (T2 i))))]) (wr := []) S hA [0, 1, 2, 3, 4] [] rfl rfl (by decide) (by decide) (va_runV (As := [.int (nI (42 * ri + 41)), .int (nI (42 * kk + c9)), .int (nI (42 * kk + 41)), .int (nI (42 * ri + c9))]) (rest := []) ⟨hx, hb, C.2.2.1, C.2.2.2.1, C.2.2.2.2.1⟩ (g_Mo_compareProducts l G k h0 _ (42 * ri + 41) (42 * kk + c9) (42 * kk + 41) (42 * ri + c9) ma iv co dg sz O T2 (by omega) (by omega) (by omega) (by omega) (hT.2 _ (by omega)).1 (hT.2 _ (by omega)).1 (hT.2 _ (by omega)).1 (hT.2 _ (by omega)).1 hT.1 dO d2) (k_virt (n := 4) C wc_Mo_compareProducts rfl rfl wz_Mo wm_Mo_370 wn_Mo_compareProducts ws_Mo_compareProducts (by decide +kernel) ⟨(Nat.le_of_ble_eq_true rfl), (Nat.le_of_ble_eq_true rfl)⟩) (pr_nowV K S [0, 1, 2, 3, 4] (by decide) rfl 0 rfl rfl) rfl rfl hl.1 rfl (lv_room (Nat.le_of_ble_eq_true rfl)) d_Mo_shareOf_23 ⟨(Nat.le_of_ble_eq_true rfl), (Nat.le_of_ble_eq_true rfl)⟩) (fun r18 cu H locs hw17 S => ?_)
  have S : Sw G A s.heap _ _ [(h0, .inr (8, moL ma (va_up (va_up iv 19 cu.2.2.1) 20 cu.2.2.2) co)), ((ma 21), .inl (k 0, 319840, .inl (fun i => nI (dg i)))), ((ma 22), .inl (k 0, 3998, .inl (fun i => nI (sz i)))), ((ma 24), .inl (k 0, 170, .inl (fun i => nI (cu.1 i)))), ((ma 25), .inl (k 0, 170, .inl (fun i => nI (cu.2.1 i))))] := S
  obtain ⟨hw170, hcu⟩ := hw17
  obtain rfl : r18 = (if vl 65536 (fun i => dg ((42 * ri + 41) * 80 + i)) (sz (42 * ri + 41)) * vl 65536 (fun i => dg ((42 * kk + c9) * 80 + i)) (sz (42 * kk + c9)) = vl 65536 (fun i => dg ((42 * kk + 41) * 80 + i)) (sz (42 * kk + 41)) * vl 65536 (fun i => dg ((42 * ri + c9) * 80 + i)) (sz (42 * ri + c9)) then 0 else if vl 65536 (fun i => dg ((42 * ri + 41) * 80 + i)) (sz (42 * ri + 41)) * vl 65536 (fun i => dg ((42 * kk + c9) * 80 + i)) (sz (42 * kk + c9)) < vl 65536 (fun i => dg ((42 * kk + 41) * 80 + i)) (sz (42 * kk + 41)) * vl 65536 (fun i => dg ((42 * ri + c9) * 80 + i)) (sz (42 * ri + c9)) then -1 else 1) := hw170
  exact r_iret C K rfl (uz [cu.1, cu.2.1], fz cu.2.2.1 cu.2.2.2 0 0 0) ⟨by unfold cpZ; rw [← nmO_abs (hT.2 (42 * ri + 41) (by omega)), ← nmO_abs (hT.2 (42 * kk + c9) (by omega)), ← nmO_abs (hT.2 (42 * kk + 41) (by omega)), ← nmO_abs (hT.2 (42 * ri + c9) (by omega))], hcu.1, hcu.2⟩ (S.sub [0, 1, 2, 3, 4] (by decide) rfl) d_Mo_shareOf_26 (Nat.le_of_ble_eq_true rfl) (Nat.le_of_ble_eq_true rfl)
theorem d_Mo_giving_0 : decode c_Mo_giving 0 = .ok (.iconst (-1), 1) := by decide +kernel
theorem d_Mo_giving_1 : decode c_Mo_giving 1 = .ok (.istore_n 2, 1) := by decide +kernel
theorem d_Mo_giving_2 : decode c_Mo_giving 2 = .ok (.iconst 0, 1) := by decide +kernel
theorem d_Mo_giving_3 : decode c_Mo_giving 3 = .ok (.istore_n 3, 1) := by decide +kernel
theorem d_Mo_giving_4 : decode c_Mo_giving 4 = .ok (.iload_n 3, 1) := by decide +kernel
theorem d_Mo_giving_5 : decode c_Mo_giving 5 = .ok (.aload_n 0, 1) := by decide +kernel
theorem d_Mo_giving_6 : decode c_Mo_giving 6 = .ok (.getfield 333, 3) := by decide +kernel
theorem d_Mo_giving_9 : decode c_Mo_giving 9 = .ok (.if_icmp .ge 68, 3) := by decide +kernel
theorem d_Mo_giving_12 : decode c_Mo_giving 12 = .ok (.aload_n 0, 1) := by decide +kernel
theorem d_Mo_giving_13 : decode c_Mo_giving 13 = .ok (.iload_n 3, 1) := by decide +kernel
theorem d_Mo_giving_14 : decode c_Mo_giving 14 = .ok (.iload_n 1, 1) := by decide +kernel
theorem d_Mo_giving_15 : decode c_Mo_giving 15 = .ok (.invokestatic 328, 3) := by decide +kernel
theorem d_Mo_giving_18 : decode c_Mo_giving 18 = .ok (.invokevirtual 330, 3) := by decide +kernel
theorem d_Mo_giving_21 : decode c_Mo_giving 21 = .ok (.ifCond .lt 6, 3) := by decide +kernel
theorem d_Mo_giving_24 : decode c_Mo_giving 24 = .ok (.goto 47, 3) := by decide +kernel
theorem d_Mo_giving_27 : decode c_Mo_giving 27 = .ok (.iload_n 2, 1) := by decide +kernel
theorem d_Mo_giving_28 : decode c_Mo_giving 28 = .ok (.ifCond .ge 7, 3) := by decide +kernel
theorem d_Mo_giving_31 : decode c_Mo_giving 31 = .ok (.iconst (-1), 1) := by decide +kernel
theorem d_Mo_giving_32 : decode c_Mo_giving 32 = .ok (.goto 10, 3) := by decide +kernel
theorem d_Mo_giving_35 : decode c_Mo_giving 35 = .ok (.aload_n 0, 1) := by decide +kernel
theorem d_Mo_giving_36 : decode c_Mo_giving 36 = .ok (.iload_n 3, 1) := by decide +kernel
theorem d_Mo_giving_37 : decode c_Mo_giving 37 = .ok (.iload_n 2, 1) := by decide +kernel
theorem d_Mo_giving_38 : decode c_Mo_giving 38 = .ok (.iload_n 1, 1) := by decide +kernel
theorem d_Mo_giving_39 : decode c_Mo_giving 39 = .ok (.invokevirtual 367, 3) := by decide +kernel
theorem d_Mo_giving_42 : decode c_Mo_giving 42 = .ok (.istore 4, 2) := by decide +kernel
theorem d_Mo_giving_44 : decode c_Mo_giving 44 = .ok (.iload 4, 2) := by decide +kernel
theorem d_Mo_giving_46 : decode c_Mo_giving 46 = .ok (.ifCond .lt 23, 3) := by decide +kernel
theorem d_Mo_giving_49 : decode c_Mo_giving 49 = .ok (.iload 4, 2) := by decide +kernel
theorem d_Mo_giving_51 : decode c_Mo_giving 51 = .ok (.ifCond .ne 20, 3) := by decide +kernel
theorem d_Mo_giving_54 : decode c_Mo_giving 54 = .ok (.aload_n 0, 1) := by decide +kernel
theorem d_Mo_giving_55 : decode c_Mo_giving 55 = .ok (.getfield 105, 3) := by decide +kernel
theorem d_Mo_giving_58 : decode c_Mo_giving 58 = .ok (.iload_n 3, 1) := by decide +kernel
theorem d_Mo_giving_59 : decode c_Mo_giving 59 = .ok (.iaload, 1) := by decide +kernel
theorem d_Mo_giving_60 : decode c_Mo_giving 60 = .ok (.aload_n 0, 1) := by decide +kernel
theorem d_Mo_giving_61 : decode c_Mo_giving 61 = .ok (.getfield 105, 3) := by decide +kernel
theorem d_Mo_giving_64 : decode c_Mo_giving 64 = .ok (.iload_n 2, 1) := by decide +kernel
theorem d_Mo_giving_65 : decode c_Mo_giving 65 = .ok (.iaload, 1) := by decide +kernel
theorem d_Mo_giving_66 : decode c_Mo_giving 66 = .ok (.if_icmp .ge 5, 3) := by decide +kernel
theorem d_Mo_giving_69 : decode c_Mo_giving 69 = .ok (.iload_n 3, 1) := by decide +kernel
theorem d_Mo_giving_70 : decode c_Mo_giving 70 = .ok (.istore_n 2, 1) := by decide +kernel
theorem d_Mo_giving_71 : decode c_Mo_giving 71 = .ok (.iinc 3 1, 3) := by decide +kernel
theorem d_Mo_giving_74 : decode c_Mo_giving 74 = .ok (.goto (-70), 3) := by decide +kernel
theorem d_Mo_giving_77 : decode c_Mo_giving 77 = .ok (.iload_n 2, 1) := by decide +kernel
theorem d_Mo_giving_78 : decode c_Mo_giving 78 = .ok (.ireturn, 1) := by decide +kernel
set_option maxRecDepth 100000 in
set_option maxHeartbeats 16000000 in
/-- giving(c9) -/
theorem g_Mo_giving (l : Launch) (G : va_G) (k : Nat → ClassId) (h0 : Nat) (s0 : Nat) (c9 : Nat) (rows : Nat) (ma : Nat → Nat) (iv : Nat → Int32) (co : Int64) (dg : Nat → Nat) (sz : Nat → Nat) (bl : Nat → Nat) (O : Nat → Nat) (T2 : Nat → Nat) (rn : Nat → Nat) (T : Nat → Int) (hT : tbO dg sz bl T) (hc : c9 < 41) (hro : rows ≤ 90) (hpos : ∀ i, i < rows → 0 ≤ T (42 * i + 41)) (hrn : ∀ i, i < rows → rn i < 1000) (dO : ∀ i, i < 170 → O i < 65536) (d2 : ∀ i, i < 170 → T2 i < 65536) : CI l y_Mo_giving c_Mo_giving 5 .int { frames := 4, cells := 0, slots := 0, locals := 147 } [.ref h0, .int (nI c9)] G k s0 [(h0, .inr (8, moL ma (va_up iv 24 (nI rows)) co)), ((ma 21), .inl (k 0, 319840, .inl (fun i => nI (dg i)))), ((ma 22), .inl (k 0, 3998, .inl (fun i => nI (sz i)))), ((ma 23), .inl (k 2, 3998, .inl (fun i => nI (bl i)))), ((ma 24), .inl (k 0, 170, .inl (fun i => nI (O i)))), ((ma 25), .inl (k 0, 170, .inl (fun i => nI (T2 i)))), ((ma 28), .inl (k 0, 90, .inl (fun i => nI (rn i))))] (fun (r : Int32) (u : (Nat → Nat → Nat) × (Nat → Int32) × Option Nat) => r = bI u.2.2 ∧ gvO T rn c9 rows u.2.2 ∧ (∀ i, i < 170 → u.1 0 i < 65536) ∧ (∀ i, i < 170 → u.1 1 i < 65536)) (fun u => [(h0, .inr (8, moL ma (va_up (va_up (va_up iv 24 (nI rows)) 19 (u.2.1 0)) 20 (u.2.1 1)) co)), ((ma 21), .inl (k 0, 319840, .inl (fun i => nI (dg i)))), ((ma 22), .inl (k 0, 3998, .inl (fun i => nI (sz i)))), ((ma 23), .inl (k 2, 3998, .inl (fun i => nI (bl i)))), ((ma 24), .inl (k 0, 170, .inl (fun i => nI (u.1 0 i)))), ((ma 25), .inl (k 0, 170, .inl (fun i => nI (u.1 1 i)))), ((ma 28), .inl (k 0, 90, .inl (fun i => nI (rn i))))]) 0 0 := by
  refine met_start (by decide) (Nat.le_of_ble_eq_true rfl) ?_
  intro p e s m below meth c C K hA hsz S ls hl
  generalize va_A [(h0, .inr (8, moL ma (va_up iv 24 (nI rows)) co)), ((ma 21), .inl (k 0, 319840, .inl (fun i => nI (dg i)))), ((ma 22), .inl (k 0, 3998, .inl (fun i => nI (sz i)))), ((ma 23), .inl (k 2, 3998, .inl (fun i => nI (bl i)))), ((ma 24), .inl (k 0, 170, .inl (fun i => nI (O i)))), ((ma 25), .inl (k 0, 170, .inl (fun i => nI (T2 i)))), ((ma 28), .inl (k 0, 90, .inl (fun i => nI (rn i))))] s0 = A at hA S ⊢
  have hx := C.1
  have hb := C.2.1
  have hl : lv_has ls 5 [(0, .ref h0), (1, .int (nI c9))] := hl
  refine lv_iconst (v := (-1)) hx hb d_Mo_giving_0 (by decide) ?_
  refine lv_istore_n (lv' := [(2, .int (-1)), (0, .ref h0), (1, .int (nI c9))]) hx hb d_Mo_giving_1 rfl hl (by decide) rfl (fun ls hl => ?_)
  refine lv_iconst (v := 0) hx hb d_Mo_giving_2 (by decide) ?_
  refine lv_istore_n (lv' := [(3, .int 0), (2, .int (-1)), (0, .ref h0), (1, .int (nI c9))]) hx hb d_Mo_giving_3 rfl hl (by decide) rfl (fun ls hl => ?_)
  have lp : ∀ d9, ∀ (ri : Nat), ∀ (A1 : Nat → Nat), ∀ (A2 : Nat → Nat), ∀ (w : Nat → Int32), ∀ (b9 : Option Nat), (rows - ri) < d9 → (ri ≤ rows) → (gvO T rn c9 ri b9) → (∀ i, i < 170 → A1 i < 65536) → (∀ i, i < 170 → A2 i < 65536) → ∀ (H : Heap) (locs : List Loc), Sw G A s.heap H locs [(h0, .inr (8, moL ma (va_up (va_up (va_up iv 24 (nI rows)) 19 (w 0)) 20 (w 1)) co)), ((ma 21), .inl (k 0, 319840, .inl (fun i => nI (dg i)))), ((ma 22), .inl (k 0, 3998, .inl (fun i => nI (sz i)))), ((ma 23), .inl (k 2, 3998, .inl (fun i => nI (bl i)))), ((ma 24), .inl (k 0, 170, .inl (fun i => nI (A1 i)))), ((ma 25), .inl (k 0, 170, .inl (fun i => nI (A2 i)))), ((ma 28), .inl (k 0, 90, .inl (fun i => nI (rn i))))] → ∀ ls : Array Slot, lv_has ls 5 [(3, .int (nI ri)), (2, .int (bI b9)), (0, .ref h0), (1, .int (nI c9))] → W p l e { frames := 4, cells := 0, slots := 0, locals := 147 } s m [Value.ref h0, Value.int (nI c9)].toArray below meth c H locs 0 0 (MQ below (va_Qi (fun (r : Int32) (u : (Nat → Nat → Nat) × (Nat → Int32) × Option Nat) => r = bI u.2.2 ∧ gvO T rn c9 rows u.2.2 ∧ (∀ i, i < 170 → u.1 0 i < 65536) ∧ (∀ i, i < 170 → u.1 1 i < 65536)) (Po G k A (fun u => [(h0, .inr (8, moL ma (va_up (va_up (va_up iv 24 (nI rows)) 19 (u.2.1 0)) 20 (u.2.1 1)) co)), ((ma 21), .inl (k 0, 319840, .inl (fun i => nI (dg i)))), ((ma 22), .inl (k 0, 3998, .inl (fun i => nI (sz i)))), ((ma 23), .inl (k 2, 3998, .inl (fun i => nI (bl i)))), ((ma 24), .inl (k 0, 170, .inl (fun i => nI (u.1 0 i)))), ((ma 25), .inl (k 0, 170, .inl (fun i => nI (u.1 1 i)))), ((ma 28), .inl (k 0, 90, .inl (fun i => nI (rn i))))])) A) [Value.ref h0, Value.int (nI c9)].toArray s 0 0 A) (F0 m 4 ls []) := by
    intro d9
    induction d9 with
    | zero => intro ri A1 A2 w b9 hm; exact absurd hm (Nat.not_lt_zero _)
    | succ d9 ih =>
      intro ri A1 A2 w b9 hm hri hB e1 e2 H locs S ls hl
      refine lv_iload_n hx hb d_Mo_giving_4 rfl (lv_at hl 0 rfl) ?_
      refine lv_aload_n hx hb d_Mo_giving_5 rfl (lv_at hl 2 rfl) ?_
      refine r_get C K S 0 rfl rfl clOk_Mo 53 (by decide) wf_Mo_333 (v := .int (nI rows)) rfl d_Mo_giving_6 ?_
      refine z_icmp_ge (a := ri) (b := rows) (tgt := 77) hx hb d_Mo_giving_9 (by decide) (by omega) (by omega) (fun hc1 => ?_) (fun hc1 => ?_)
      · have hB : gvO T rn c9 rows b9 := (show ri = rows by omega) ▸ hB
        refine lv_iload_n hx hb d_Mo_giving_77 rfl (lv_at hl 1 rfl) ?_
        exact r_iret C K rfl (uz [A1, A2], w, b9) ⟨rfl, hB, e1, e2⟩ (S.sub [0, 1, 2, 3, 4, 5, 6] (by decide) rfl) d_Mo_giving_78 (Nat.le_of_ble_eq_true rfl) (Nat.le_of_ble_eq_true rfl)
      · refine lv_aload_n hx hb d_Mo_giving_12 rfl (lv_at hl 2 rfl) ?_
        refine lv_iload_n hx hb d_Mo_giving_13 rfl (lv_at hl 0 rfl) ?_
        refine lv_iload_n hx hb d_Mo_giving_14 rfl (lv_at hl 3 rfl) ?_
        refine r_backi (wi := []) (wr := [(h0, .inr (8, moL ma (va_up (va_up (va_up iv 24 (nI rows)) 19 (w 0)) 20 (w 1)) co)), ((ma 21), .inl (k 0, 319840, .inl (fun i => nI (dg i)))), ((ma 22), .inl (k 0, 3998, .inl (fun i => nI (sz i)))), ((ma 23), .inl (k 2, 3998, .inl (fun i => nI (bl i)))), ((ma 24), .inl (k 0, 170, .inl (fun i => nI (A1 i)))), ((ma 25), .inl (k 0, 170, .inl (fun i => nI (A2 i)))), ((ma 28), .inl (k 0, 90, .inl (fun i => nI (rn i))))]) S hA [] [0, 1, 2, 3, 4, 5, 6] rfl rfl (by decide) (by decide) (va_runS (As := [.int (nI ri), .int (nI c9)]) (rest := [.ref h0]) ⟨hx, hb, C.2.2.1, C.2.2.2.1, C.2.2.2.2.1⟩ (g_Mo_at l G k _ ri c9) (k_stat (n := 2) C wc_Mo_at rfl rfl wz_Mo wm_Mo_328 wt_Mo_at (by decide +kernel) ⟨(Nat.le_of_ble_eq_true rfl), (Nat.le_of_ble_eq_true rfl)⟩) (pr_now K S [] (by decide) rfl) rfl rfl hl.1 rfl (lv_room (Nat.le_of_ble_eq_true rfl)) d_Mo_giving_15 ⟨(Nat.le_of_ble_eq_true rfl), (Nat.le_of_ble_eq_true rfl)⟩) (fun r4 u2 H locs hw3 S => ?_)
        have S : Sw G A s.heap _ _ [(h0, .inr (8, moL ma (va_up (va_up (va_up iv 24 (nI rows)) 19 (w 0)) 20 (w 1)) co)), ((ma 21), .inl (k 0, 319840, .inl (fun i => nI (dg i)))), ((ma 22), .inl (k 0, 3998, .inl (fun i => nI (sz i)))), ((ma 23), .inl (k 2, 3998, .inl (fun i => nI (bl i)))), ((ma 24), .inl (k 0, 170, .inl (fun i => nI (A1 i)))), ((ma 25), .inl (k 0, 170, .inl (fun i => nI (A2 i)))), ((ma 28), .inl (k 0, 90, .inl (fun i => nI (rn i))))] := S
        obtain rfl : r4 = nI (42 * ri + c9) := hw3
        refine r_backi (wi := [(h0, .inr (8, moL ma (va_up (va_up (va_up iv 24 (nI rows)) 19 (w 0)) 20 (w 1)) co)), ((ma 22), .inl (k 0, 3998, .inl (fun i => nI (sz i)))), ((ma 23), .inl (k 2, 3998, .inl (fun i => nI (bl i))))]) (wr := [((ma 21), .inl (k 0, 319840, .inl (fun i => nI (dg i)))), ((ma 24), .inl (k 0, 170, .inl (fun i => nI (A1 i)))), ((ma 25), .inl (k 0, 170, .inl (fun i => nI (A2 i)))), ((ma 28), .inl (k 0, 90, .inl (fun i => nI (rn i))))]) S hA [0, 2, 3] [1, 4, 5, 6] rfl rfl (by decide) (by decide) (va_runV (As := [.int (nI (42 * ri + c9))]) (rest := []) ⟨hx, hb, C.2.2.1, C.2.2.2.1, C.2.2.2.2.1⟩ (g_Mo_signOf l G k h0 _ ma (va_up (va_up (va_up iv 24 (nI rows)) 19 (w 0)) 20 (w 1)) co sz bl (42 * ri + c9) (by omega) (hT.2 _ (by omega)).1 (hT.2 _ (by omega)).2.1) (k_virt (n := 1) C wc_Mo_signOf rfl rfl wz_Mo wm_Mo_330 wn_Mo_signOf ws_Mo_signOf (by decide +kernel) ⟨(Nat.le_of_ble_eq_true rfl), (Nat.le_of_ble_eq_true rfl)⟩) (pr_nowV K S [0, 2, 3] (by decide) rfl 0 rfl rfl) rfl rfl hl.1 rfl (lv_room (Nat.le_of_ble_eq_true rfl)) d_Mo_giving_18 ⟨(Nat.le_of_ble_eq_true rfl), (Nat.le_of_ble_eq_true rfl)⟩) (fun r8 u6 H locs hw7 S => ?_)
        have S : Sw G A s.heap _ _ [((ma 21), .inl (k 0, 319840, .inl (fun i => nI (dg i)))), ((ma 24), .inl (k 0, 170, .inl (fun i => nI (A1 i)))), ((ma 25), .inl (k 0, 170, .inl (fun i => nI (A2 i)))), ((ma 28), .inl (k 0, 90, .inl (fun i => nI (rn i)))), (h0, .inr (8, moL ma (va_up (va_up (va_up iv 24 (nI rows)) 19 (w 0)) 20 (w 1)) co)), ((ma 22), .inl (k 0, 3998, .inl (fun i => nI (sz i)))), ((ma 23), .inl (k 2, 3998, .inl (fun i => nI (bl i))))] := S
        obtain rfl : r8 = sgN (sz (42 * ri + c9)) (bl (42 * ri + c9)) := hw7
        rw [sgN_val (hT.2 (42 * ri + c9) (by omega))]
        refine lv_if_lt (tgt := 27) hx hb d_Mo_giving_21 (by decide) (fun hc10 => ?_) (fun hc10 => ?_)
        · cases b9 with
          | none =>
            have hl : lv_has ls 5 [(3, .int (nI ri)), (2, .int (-1)), (0, .ref h0), (1, .int (nI c9))] := hl
            refine lv_iload_n hx hb d_Mo_giving_27 rfl (lv_at hl 1 rfl) ?_
            refine lv_if_ge (tgt := 35) hx hb d_Mo_giving_28 (by decide) (fun hq => absurd hq (by decide)) (fun _ => ?_)
            refine lv_iconst (v := (-1)) hx hb d_Mo_giving_31 (by decide) ?_
            refine lv_goto (tgt := 42) hx hb d_Mo_giving_32 (by decide) ?_
            refine lv_istore (lv' := [(4, .int (-1)), (3, .int (nI ri)), (2, .int (-1)), (0, .ref h0), (1, .int (nI c9))]) hx hb d_Mo_giving_42 hl (by decide) rfl (fun ls hl => ?_)
            refine lv_iload hx hb d_Mo_giving_44 (lv_at hl 0 rfl) ?_
            refine lv_if_lt (tgt := 69) hx hb d_Mo_giving_46 (by decide) (fun _ => ?_) (fun hq => absurd (by decide) hq)
            refine lv_iload_n hx hb d_Mo_giving_69 rfl (lv_at hl 1 rfl) ?_
            refine lv_istore_n (lv' := [(2, .int (nI ri)), (4, .int (-1)), (3, .int (nI ri)), (0, .ref h0), (1, .int (nI c9))]) hx hb d_Mo_giving_70 rfl hl (by decide) rfl (fun ls hl => ?_)
            refine lv_iinc (v := nI (ri + 1)) (lv' := [(3, .int (nI (ri + 1))), (2, .int (nI ri)), (4, .int (-1)), (0, .ref h0), (1, .int (nI c9))]) hx hb d_Mo_giving_71 hl (k := 2) rfl (show nI ri + Int32.ofInt 1 = nI (ri + 1) from (nI_add ri 1).trans (congrArg nI (by omega))) (by decide) rfl (fun ls hl => ?_)
            refine lv_goto (tgt := 4) hx hb d_Mo_giving_74 (by decide) ?_
            exact ih (ri + 1) A1 A2 w (some ri) (by omega) (by omega) (gvO_first hB (sg_lt hc10)) e1 e2 _ _ (S.sub [4, 0, 5, 6, 1, 2, 3] (by decide) rfl) ls (lv_sub hl [0, 1, 3, 4] rfl)
          | some rb =>
            have hl : lv_has ls 5 [(3, .int (nI ri)), (2, .int (nI rb)), (0, .ref h0), (1, .int (nI c9))] := hl
            have q1 := hB.1
            have q2 := hrn rb (by omega)
            have q3 := hrn ri (by omega)
            refine lv_iload_n hx hb d_Mo_giving_27 rfl (lv_at hl 1 rfl) ?_
            refine z_if_ge (a := rb) (tgt := 35) hx hb d_Mo_giving_28 (by decide) (by omega) ?_
            refine lv_aload_n hx hb d_Mo_giving_35 rfl (lv_at hl 2 rfl) ?_
            refine lv_iload_n hx hb d_Mo_giving_36 rfl (lv_at hl 0 rfl) ?_
            refine lv_iload_n hx hb d_Mo_giving_37 rfl (lv_at hl 1 rfl) ?_
            refine lv_iload_n hx hb d_Mo_giving_38 rfl (lv_at hl 3 rfl) ?_
            refine r_backi (wi := [(h0, .inr (8, moL ma (va_up (va_up (va_up iv 24 (nI rows)) 19 (w 0)) 20 (w 1)) co)), ((ma 21), .inl (k 0, 319840, .inl (fun i => nI (dg i)))), ((ma 22), .inl (k 0, 3998, .inl (fun i => nI (sz i)))), ((ma 24), .inl (k 0, 170, .inl (fun i => nI (A1 i)))), ((ma 25), .inl (k 0, 170, .inl (fun i => nI (A2 i))))]) (wr := [((ma 28), .inl (k 0, 90, .inl (fun i => nI (rn i)))), ((ma 23), .inl (k 2, 3998, .inl (fun i => nI (bl i))))]) S hA [4, 0, 5, 1, 2] [3, 6] rfl rfl (by decide) (by decide) (va_runV (As := [.int (nI ri), .int (nI rb), .int (nI c9)]) (rest := []) ⟨hx, hb, C.2.2.1, C.2.2.2.1, C.2.2.2.2.1⟩ (g_Mo_shareOf l G k h0 _ ri rb c9 ma (va_up (va_up (va_up iv 24 (nI rows)) 19 (w 0)) 20 (w 1)) co dg sz bl A1 A2 T hT (by omega) (by omega) (by omega) e1 e2) (k_virt (n := 3) C wc_Mo_shareOf rfl rfl wz_Mo wm_Mo_367 wn_Mo_shareOf ws_Mo_shareOf (by decide +kernel) ⟨(Nat.le_of_ble_eq_true rfl), (Nat.le_of_ble_eq_true rfl)⟩) (pr_nowV K S [4, 0, 5, 1, 2] (by decide) rfl 4 rfl rfl) rfl rfl hl.1 rfl (lv_room (Nat.le_of_ble_eq_true rfl)) d_Mo_giving_39 ⟨(Nat.le_of_ble_eq_true rfl), (Nat.le_of_ble_eq_true rfl)⟩) (fun r12 su H locs hw11 S => ?_)
            have S : Sw G A s.heap _ _ [((ma 28), .inl (k 0, 90, .inl (fun i => nI (rn i)))), ((ma 23), .inl (k 2, 3998, .inl (fun i => nI (bl i)))), (h0, .inr (8, moL ma (va_up (va_up (va_up iv 24 (nI rows)) 19 (su.2 0)) 20 (su.2 1)) co)), ((ma 21), .inl (k 0, 319840, .inl (fun i => nI (dg i)))), ((ma 22), .inl (k 0, 3998, .inl (fun i => nI (sz i)))), ((ma 24), .inl (k 0, 170, .inl (fun i => nI (su.1 0 i)))), ((ma 25), .inl (k 0, 170, .inl (fun i => nI (su.1 1 i))))] := S
            obtain ⟨hw110, hsu⟩ := hw11
            obtain rfl : r12 = cpZ (T (42 * ri + 41)) (T (42 * rb + c9)) (T (42 * rb + 41)) (T (42 * ri + c9)) := hw110
            refine lv_istore (lv' := [(4, .int (cpZ (T (42 * ri + 41)) (T (42 * rb + c9)) (T (42 * rb + 41)) (T (42 * ri + c9)))), (3, .int (nI ri)), (2, .int (nI rb)), (0, .ref h0), (1, .int (nI c9))]) hx hb d_Mo_giving_42 hl (by decide) rfl (fun ls hl => ?_)
            refine lv_iload hx hb d_Mo_giving_44 (lv_at hl 0 rfl) ?_
            refine lv_if_lt (tgt := 69) hx hb d_Mo_giving_46 (by decide) (fun hc13 => ?_) (fun hc13 => ?_)
            · refine lv_iload_n hx hb d_Mo_giving_69 rfl (lv_at hl 1 rfl) ?_
              refine lv_istore_n (lv' := [(2, .int (nI ri)), (4, .int (cpZ (T (42 * ri + 41)) (T (42 * rb + c9)) (T (42 * rb + 41)) (T (42 * ri + c9)))), (3, .int (nI ri)), (0, .ref h0), (1, .int (nI c9))]) hx hb d_Mo_giving_70 rfl hl (by decide) rfl (fun ls hl => ?_)
              refine lv_iinc (v := nI (ri + 1)) (lv' := [(3, .int (nI (ri + 1))), (2, .int (nI ri)), (4, .int (cpZ (T (42 * ri + 41)) (T (42 * rb + c9)) (T (42 * rb + 41)) (T (42 * ri + c9)))), (0, .ref h0), (1, .int (nI c9))]) hx hb d_Mo_giving_71 hl (k := 2) rfl (show nI ri + Int32.ofInt 1 = nI (ri + 1) from (nI_add ri 1).trans (congrArg nI (by omega))) (by decide) rfl (fun ls hl => ?_)
              refine lv_goto (tgt := 4) hx hb d_Mo_giving_74 (by decide) ?_
              exact ih (ri + 1) (su.1 0) (su.1 1) (fz (su.2 0) (su.2 1) 0 0 0) (some ri) (by omega) (by omega) (gvO_new hB (sg_lt hc10) (Or.inl (cp_lt hc13 (hpos ri (by omega)) hB.2.1 (hpos rb (by omega)) (sg_lt hc10)))) hsu.1 hsu.2 _ _ (S.sub [2, 3, 4, 1, 5, 6, 0] (by decide) rfl) ls (lv_sub hl [0, 1, 3, 4] rfl)
            · refine lv_iload hx hb d_Mo_giving_49 (lv_at hl 0 rfl) ?_
              refine lv_if_ne (tgt := 71) hx hb d_Mo_giving_51 (by decide) (fun hc14 => ?_) (fun hc14 => ?_)
              · refine lv_iinc (v := nI (ri + 1)) (lv' := [(3, .int (nI (ri + 1))), (4, .int (cpZ (T (42 * ri + 41)) (T (42 * rb + c9)) (T (42 * rb + 41)) (T (42 * ri + c9)))), (2, .int (nI rb)), (0, .ref h0), (1, .int (nI c9))]) hx hb d_Mo_giving_71 hl (k := 1) rfl (show nI ri + Int32.ofInt 1 = nI (ri + 1) from (nI_add ri 1).trans (congrArg nI (by omega))) (by decide) rfl (fun ls hl => ?_)
                refine lv_goto (tgt := 4) hx hb d_Mo_giving_74 (by decide) ?_
                exact ih (ri + 1) (su.1 0) (su.1 1) (fz (su.2 0) (su.2 1) 0 0 0) (some rb) (by omega) (by omega) (gvO_old hB (Or.inl (cp_gt hc13 hc14 (hpos ri (by omega)) hB.2.1 (hpos rb (by omega)) (sg_lt hc10)))) hsu.1 hsu.2 _ _ (S.sub [2, 3, 4, 1, 5, 6, 0] (by decide) rfl) ls (lv_sub hl [0, 2, 3, 4] rfl)
              · refine lv_aload_n hx hb d_Mo_giving_54 rfl (lv_at hl 3 rfl) ?_
                refine r_get C K S 2 rfl rfl clOk_Mo 55 (by decide) wf_Mo_105 (v := .ref (ma 28)) rfl d_Mo_giving_55 ?_
                refine lv_iload_n hx hb d_Mo_giving_58 rfl (lv_at hl 1 rfl) ?_
                refine r_iald C K S 0 rfl (i := nI ri) (show vp_in (nI ri) _ from vp_in_nI (n := ri) (by omega) (by decide)) (v := nI (rn ri)) (by rw [nI_clamp (by omega)]) d_Mo_giving_59 ?_
                refine lv_aload_n hx hb d_Mo_giving_60 rfl (lv_at hl 3 rfl) ?_
                refine r_get C K S 2 rfl rfl clOk_Mo 55 (by decide) wf_Mo_105 (v := .ref (ma 28)) rfl d_Mo_giving_61 ?_
                refine lv_iload_n hx hb d_Mo_giving_64 rfl (lv_at hl 2 rfl) ?_
                refine r_iald C K S 0 rfl (i := nI rb) (show vp_in (nI rb) _ from vp_in_nI (n := rb) (by omega) (by decide)) (v := nI (rn rb)) (by rw [nI_clamp (by omega)]) d_Mo_giving_65 ?_
                refine z_icmp_ge (a := (rn ri)) (b := (rn rb)) (tgt := 71) hx hb d_Mo_giving_66 (by decide) (by omega) (by omega) (fun hc15 => ?_) (fun hc15 => ?_)
                · refine lv_iinc (v := nI (ri + 1)) (lv' := [(3, .int (nI (ri + 1))), (4, .int (cpZ (T (42 * ri + 41)) (T (42 * rb + c9)) (T (42 * rb + 41)) (T (42 * ri + c9)))), (2, .int (nI rb)), (0, .ref h0), (1, .int (nI c9))]) hx hb d_Mo_giving_71 hl (k := 1) rfl (show nI ri + Int32.ofInt 1 = nI (ri + 1) from (nI_add ri 1).trans (congrArg nI (by omega))) (by decide) rfl (fun ls hl => ?_)
                  refine lv_goto (tgt := 4) hx hb d_Mo_giving_74 (by decide) ?_
                  exact ih (ri + 1) (su.1 0) (su.1 1) (fz (su.2 0) (su.2 1) 0 0 0) (some rb) (by omega) (by omega) (gvO_old hB (Or.inr ⟨(cp_eq hc14 (hpos ri (by omega)) hB.2.1 (hpos rb (by omega)) (sg_lt hc10)).symm, by omega⟩)) hsu.1 hsu.2 _ _ (S.sub [2, 3, 4, 1, 5, 6, 0] (by decide) rfl) ls (lv_sub hl [0, 2, 3, 4] rfl)
                · refine lv_iload_n hx hb d_Mo_giving_69 rfl (lv_at hl 1 rfl) ?_
                  refine lv_istore_n (lv' := [(2, .int (nI ri)), (4, .int (cpZ (T (42 * ri + 41)) (T (42 * rb + c9)) (T (42 * rb + 41)) (T (42 * ri + c9)))), (3, .int (nI ri)), (0, .ref h0), (1, .int (nI c9))]) hx hb d_Mo_giving_70 rfl hl (by decide) rfl (fun ls hl => ?_)
                  refine lv_iinc (v := nI (ri + 1)) (lv' := [(3, .int (nI (ri + 1))), (2, .int (nI ri)), (4, .int (cpZ (T (42 * ri + 41)) (T (42 * rb + c9)) (T (42 * rb + 41)) (T (42 * ri + c9)))), (0, .ref h0), (1, .int (nI c9))]) hx hb d_Mo_giving_71 hl (k := 2) rfl (show nI ri + Int32.ofInt 1 = nI (ri + 1) from (nI_add ri 1).trans (congrArg nI (by omega))) (by decide) rfl (fun ls hl => ?_)
                  refine lv_goto (tgt := 4) hx hb d_Mo_giving_74 (by decide) ?_
                  exact ih (ri + 1) (su.1 0) (su.1 1) (fz (su.2 0) (su.2 1) 0 0 0) (some ri) (by omega) (by omega) (gvO_new hB (sg_lt hc10) (Or.inr ⟨cp_eq hc14 (hpos ri (by omega)) hB.2.1 (hpos rb (by omega)) (sg_lt hc10), by omega⟩)) hsu.1 hsu.2 _ _ (S.sub [2, 3, 4, 1, 5, 6, 0] (by decide) rfl) ls (lv_sub hl [0, 1, 3, 4] rfl)
        · refine lv_goto (tgt := 71) hx hb d_Mo_giving_24 (by decide) ?_
          refine lv_iinc (v := nI (ri + 1)) (lv' := [(3, .int (nI (ri + 1))), (2, .int (bI b9)), (0, .ref h0), (1, .int (nI c9))]) hx hb d_Mo_giving_71 hl (k := 0) rfl (show nI ri + Int32.ofInt 1 = nI (ri + 1) from (nI_add ri 1).trans (congrArg nI (by omega))) (by decide) rfl (fun ls hl => ?_)
          refine lv_goto (tgt := 4) hx hb d_Mo_giving_74 (by decide) ?_
          exact ih (ri + 1) A1 A2 w b9 (by omega) (by omega) (gvO_no hB (sg_nlt hc10)) e1 e2 _ _ (S.sub [4, 0, 5, 6, 1, 2, 3] (by decide) rfl) ls (lv_sub hl [0, 1, 2, 3] rfl)
  exact lp _ 0 O T2 (fun j => iv (19 + j)) none (Nat.lt_succ_self _) (by omega) (gvO_0 _ _ _) dO d2 _ _ (S.sub [0, 1, 2, 3, 4, 5, 6] (by decide) rfl) ls (lv_sub hl [0, 1, 2, 3] rfl)
theorem d_Mo_coming_0 : decode c_Mo_coming 0 = .ok (.iconst (-1), 1) := by decide +kernel
theorem d_Mo_coming_1 : decode c_Mo_coming 1 = .ok (.istore_n 3, 1) := by decide +kernel
theorem d_Mo_coming_2 : decode c_Mo_coming 2 = .ok (.iconst 0, 1) := by decide +kernel
theorem d_Mo_coming_3 : decode c_Mo_coming 3 = .ok (.istore 4, 2) := by decide +kernel
theorem d_Mo_coming_5 : decode c_Mo_coming 5 = .ok (.iload 4, 2) := by decide +kernel
theorem d_Mo_coming_7 : decode c_Mo_coming 7 = .ok (.aload_n 0, 1) := by decide +kernel
theorem d_Mo_coming_8 : decode c_Mo_coming 8 = .ok (.getfield 192, 3) := by decide +kernel
theorem d_Mo_coming_11 : decode c_Mo_coming 11 = .ok (.if_icmp .gt 93, 3) := by decide +kernel
theorem d_Mo_coming_14 : decode c_Mo_coming 14 = .ok (.iload 4, 2) := by decide +kernel
theorem d_Mo_coming_16 : decode c_Mo_coming 16 = .ok (.aload_n 0, 1) := by decide +kernel
theorem d_Mo_coming_17 : decode c_Mo_coming 17 = .ok (.getfield 364, 3) := by decide +kernel
theorem d_Mo_coming_20 : decode c_Mo_coming 20 = .ok (.if_icmp .ne 6, 3) := by decide +kernel
theorem d_Mo_coming_23 : decode c_Mo_coming 23 = .ok (.goto 75, 3) := by decide +kernel
theorem d_Mo_coming_26 : decode c_Mo_coming 26 = .ok (.iconst 0, 1) := by decide +kernel
theorem d_Mo_coming_27 : decode c_Mo_coming 27 = .ok (.istore 5, 2) := by decide +kernel
theorem d_Mo_coming_29 : decode c_Mo_coming 29 = .ok (.iload 5, 2) := by decide +kernel
theorem d_Mo_coming_31 : decode c_Mo_coming 31 = .ok (.iload_n 2, 1) := by decide +kernel
theorem d_Mo_coming_32 : decode c_Mo_coming 32 = .ok (.iconst 1, 1) := by decide +kernel
theorem d_Mo_coming_33 : decode c_Mo_coming 33 = .ok (.isub, 1) := by decide +kernel
theorem d_Mo_coming_34 : decode c_Mo_coming 34 = .ok (.if_icmp .ge 25, 3) := by decide +kernel
theorem d_Mo_coming_37 : decode c_Mo_coming 37 = .ok (.aload_n 0, 1) := by decide +kernel
theorem d_Mo_coming_38 : decode c_Mo_coming 38 = .ok (.iload_n 1, 1) := by decide +kernel
theorem d_Mo_coming_39 : decode c_Mo_coming 39 = .ok (.iload 5, 2) := by decide +kernel
theorem d_Mo_coming_41 : decode c_Mo_coming 41 = .ok (.iadd, 1) := by decide +kernel
theorem d_Mo_coming_42 : decode c_Mo_coming 42 = .ok (.iload 4, 2) := by decide +kernel
theorem d_Mo_coming_44 : decode c_Mo_coming 44 = .ok (.invokestatic 328, 3) := by decide +kernel
theorem d_Mo_coming_47 : decode c_Mo_coming 47 = .ok (.invokevirtual 330, 3) := by decide +kernel
theorem d_Mo_coming_50 : decode c_Mo_coming 50 = .ok (.ifCond .ne 9, 3) := by decide +kernel
theorem d_Mo_coming_53 : decode c_Mo_coming 53 = .ok (.iinc 5 1, 3) := by decide +kernel
theorem d_Mo_coming_56 : decode c_Mo_coming 56 = .ok (.goto (-27), 3) := by decide +kernel
theorem d_Mo_coming_59 : decode c_Mo_coming 59 = .ok (.aload_n 0, 1) := by decide +kernel
theorem d_Mo_coming_60 : decode c_Mo_coming 60 = .ok (.iload_n 1, 1) := by decide +kernel
theorem d_Mo_coming_61 : decode c_Mo_coming 61 = .ok (.iload 5, 2) := by decide +kernel
theorem d_Mo_coming_63 : decode c_Mo_coming 63 = .ok (.iadd, 1) := by decide +kernel
theorem d_Mo_coming_64 : decode c_Mo_coming 64 = .ok (.iload 4, 2) := by decide +kernel
theorem d_Mo_coming_66 : decode c_Mo_coming 66 = .ok (.invokestatic 328, 3) := by decide +kernel
theorem d_Mo_coming_69 : decode c_Mo_coming 69 = .ok (.invokevirtual 330, 3) := by decide +kernel
theorem d_Mo_coming_72 : decode c_Mo_coming 72 = .ok (.ifCond .ge 26, 3) := by decide +kernel
theorem d_Mo_coming_75 : decode c_Mo_coming 75 = .ok (.iload_n 3, 1) := by decide +kernel
theorem d_Mo_coming_76 : decode c_Mo_coming 76 = .ok (.ifCond .lt 19, 3) := by decide +kernel
theorem d_Mo_coming_79 : decode c_Mo_coming 79 = .ok (.aload_n 0, 1) := by decide +kernel
theorem d_Mo_coming_80 : decode c_Mo_coming 80 = .ok (.getfield 108, 3) := by decide +kernel
theorem d_Mo_coming_83 : decode c_Mo_coming 83 = .ok (.iload 4, 2) := by decide +kernel
theorem d_Mo_coming_85 : decode c_Mo_coming 85 = .ok (.iaload, 1) := by decide +kernel
theorem d_Mo_coming_86 : decode c_Mo_coming 86 = .ok (.aload_n 0, 1) := by decide +kernel
theorem d_Mo_coming_87 : decode c_Mo_coming 87 = .ok (.getfield 108, 3) := by decide +kernel
theorem d_Mo_coming_90 : decode c_Mo_coming 90 = .ok (.iload_n 3, 1) := by decide +kernel
theorem d_Mo_coming_91 : decode c_Mo_coming 91 = .ok (.iaload, 1) := by decide +kernel
theorem d_Mo_coming_92 : decode c_Mo_coming 92 = .ok (.if_icmp .ge 6, 3) := by decide +kernel
theorem d_Mo_coming_95 : decode c_Mo_coming 95 = .ok (.iload 4, 2) := by decide +kernel
theorem d_Mo_coming_97 : decode c_Mo_coming 97 = .ok (.istore_n 3, 1) := by decide +kernel
theorem d_Mo_coming_98 : decode c_Mo_coming 98 = .ok (.iinc 4 1, 3) := by decide +kernel
theorem d_Mo_coming_101 : decode c_Mo_coming 101 = .ok (.goto (-96), 3) := by decide +kernel
theorem d_Mo_coming_104 : decode c_Mo_coming 104 = .ok (.iload_n 3, 1) := by decide +kernel
theorem d_Mo_coming_105 : decode c_Mo_coming 105 = .ok (.ireturn, 1) := by decide +kernel
set_option maxRecDepth 100000 in
set_option maxHeartbeats 16000000 in
/-- coming(fr, mn) -/
theorem g_Mo_coming (l : Launch) (G : va_G) (k : Nat → ClassId) (h0 : Nat) (s0 : Nat) (fr : Nat) (mn : Nat) (un : Nat) (gn : Nat) (gv : Int32) (ma : Nat → Nat) (iv : Nat → Int32) (co : Int64) (dg : Nat → Nat) (sz : Nat → Nat) (bl : Nat → Nat) (cn : Nat → Nat) (T : Nat → Int) (hT : tbO dg sz bl T) (hf : fr + mn ≤ 95) (hm : 1 ≤ mn) (hu : un ≤ 40) (hg : ∀ j, j ≤ 40 → (nI j = gv ↔ j = gn)) (hcn : ∀ j, j ≤ un → cn j < 1000) : CI l y_Mo_coming c_Mo_coming 6 .int { frames := 2, cells := 0, slots := 0, locals := 41 } [.ref h0, .int (nI fr), .int (nI mn)] G k s0 [(h0, .inr (8, moL ma (va_up (va_up iv 14 (nI un)) 28 gv) co)), ((ma 22), .inl (k 0, 3998, .inl (fun i => nI (sz i)))), ((ma 23), .inl (k 2, 3998, .inl (fun i => nI (bl i)))), ((ma 29), .inl (k 0, 41, .inl (fun i => nI (cn i))))] (fun (r : Int32) (u : Option Nat) => r = bI u ∧ cmO T cn fr mn gn (un + 1) u) (fun u => [(h0, .inr (8, moL ma (va_up (va_up iv 14 (nI un)) 28 gv) co)), ((ma 22), .inl (k 0, 3998, .inl (fun i => nI (sz i)))), ((ma 23), .inl (k 2, 3998, .inl (fun i => nI (bl i)))), ((ma 29), .inl (k 0, 41, .inl (fun i => nI (cn i))))]) 0 0 := by
  refine met_start (by decide) (Nat.le_of_ble_eq_true rfl) ?_
  intro p e s m below meth c C K hA hsz S ls hl
  generalize va_A [(h0, .inr (8, moL ma (va_up (va_up iv 14 (nI un)) 28 gv) co)), ((ma 22), .inl (k 0, 3998, .inl (fun i => nI (sz i)))), ((ma 23), .inl (k 2, 3998, .inl (fun i => nI (bl i)))), ((ma 29), .inl (k 0, 41, .inl (fun i => nI (cn i))))] s0 = A at hA S ⊢
  have hx := C.1
  have hb := C.2.1
  have hl : lv_has ls 6 [(0, .ref h0), (1, .int (nI fr)), (2, .int (nI mn))] := hl
  refine lv_iconst (v := (-1)) hx hb d_Mo_coming_0 (by decide) ?_
  refine lv_istore_n (lv' := [(3, .int (-1)), (0, .ref h0), (1, .int (nI fr)), (2, .int (nI mn))]) hx hb d_Mo_coming_1 rfl hl (by decide) rfl (fun ls hl => ?_)
  refine lv_iconst (v := 0) hx hb d_Mo_coming_2 (by decide) ?_
  refine lv_istore (lv' := [(4, .int 0), (3, .int (-1)), (0, .ref h0), (1, .int (nI fr)), (2, .int (nI mn))]) hx hb d_Mo_coming_3 hl (by decide) rfl (fun ls hl => ?_)
  have lp : ∀ d9, ∀ (j : Nat), ∀ (b9 : Option Nat), (un + 1 - j) < d9 → (j ≤ un + 1) → (cmO T cn fr mn gn j b9) → ∀ (H : Heap) (locs : List Loc), Sw G A s.heap H locs [(h0, .inr (8, moL ma (va_up (va_up iv 14 (nI un)) 28 gv) co)), ((ma 22), .inl (k 0, 3998, .inl (fun i => nI (sz i)))), ((ma 23), .inl (k 2, 3998, .inl (fun i => nI (bl i)))), ((ma 29), .inl (k 0, 41, .inl (fun i => nI (cn i))))] → ∀ ls : Array Slot, lv_has ls 6 [(4, .int (nI j)), (3, .int (bI b9)), (0, .ref h0), (1, .int (nI fr)), (2, .int (nI mn))] → W p l e { frames := 2, cells := 0, slots := 0, locals := 41 } s m [Value.ref h0, Value.int (nI fr), Value.int (nI mn)].toArray below meth c H locs 0 0 (MQ below (va_Qi (fun (r : Int32) (u : Option Nat) => r = bI u ∧ cmO T cn fr mn gn (un + 1) u) (Po G k A (fun u => [(h0, .inr (8, moL ma (va_up (va_up iv 14 (nI un)) 28 gv) co)), ((ma 22), .inl (k 0, 3998, .inl (fun i => nI (sz i)))), ((ma 23), .inl (k 2, 3998, .inl (fun i => nI (bl i)))), ((ma 29), .inl (k 0, 41, .inl (fun i => nI (cn i))))])) A) [Value.ref h0, Value.int (nI fr), Value.int (nI mn)].toArray s 0 0 A) (F0 m 5 ls []) := by
    intro d9
    induction d9 with
    | zero => intro j b9 hm; exact absurd hm (Nat.not_lt_zero _)
    | succ d9 ih =>
      intro j b9 hm hj hB H locs S ls hl
      refine lv_iload hx hb d_Mo_coming_5 (lv_at hl 0 rfl) ?_
      refine lv_aload_n hx hb d_Mo_coming_7 rfl (lv_at hl 2 rfl) ?_
      refine r_get C K S 0 rfl rfl clOk_Mo 29 (by decide) wf_Mo_192 (v := .int (nI un)) rfl d_Mo_coming_8 ?_
      refine z_icmp_gt (a := j) (b := un) (tgt := 104) hx hb d_Mo_coming_11 (by decide) (by omega) (by omega) (fun hc1 => ?_) (fun hc1 => ?_)
      · have hB : cmO T cn fr mn gn (un + 1) b9 := (show j = un + 1 by omega) ▸ hB
        refine lv_iload_n hx hb d_Mo_coming_104 rfl (lv_at hl 1 rfl) ?_
        exact r_iret C K rfl b9 ⟨rfl, hB⟩ (S.sub [0, 1, 2, 3] (by decide) rfl) d_Mo_coming_105 (Nat.le_of_ble_eq_true rfl) (Nat.le_of_ble_eq_true rfl)
      · refine lv_iload hx hb d_Mo_coming_14 (lv_at hl 0 rfl) ?_
        refine lv_aload_n hx hb d_Mo_coming_16 rfl (lv_at hl 2 rfl) ?_
        refine r_get C K S 0 rfl rfl clOk_Mo 59 (by decide) wf_Mo_364 (v := .int gv) rfl d_Mo_coming_17 ?_
        refine lv_icmp_ne (tgt := 26) hx hb d_Mo_coming_20 (by decide) (fun hc2 => ?_) (fun hc2 => ?_)
        · have hgj : j ≠ gn := fun q => hc2 ((hg j (by omega)).mpr q)
          refine lv_iconst (v := 0) hx hb d_Mo_coming_26 (by decide) ?_
          refine lv_istore (lv' := [(5, .int 0), (4, .int (nI j)), (3, .int (bI b9)), (0, .ref h0), (1, .int (nI fr)), (2, .int (nI mn))]) hx hb d_Mo_coming_27 hl (by decide) rfl (fun ls hl => ?_)
          have dec9 : ∀ (k9 : Nat), (k9 < mn) → (∀ p, p < k9 → T (42 * (fr + p) + j) = 0) → (k9 + 1 = mn ∨ T (42 * (fr + k9) + j) ≠ 0) → ∀ (H : Heap) (locs : List Loc), Sw G A s.heap H locs [(h0, .inr (8, moL ma (va_up (va_up iv 14 (nI un)) 28 gv) co)), ((ma 22), .inl (k 0, 3998, .inl (fun i => nI (sz i)))), ((ma 23), .inl (k 2, 3998, .inl (fun i => nI (bl i)))), ((ma 29), .inl (k 0, 41, .inl (fun i => nI (cn i))))] → ∀ ls : Array Slot, lv_has ls 6 [(5, .int (nI k9)), (4, .int (nI j)), (3, .int (bI b9)), (0, .ref h0), (1, .int (nI fr)), (2, .int (nI mn))] → W p l e { frames := 2, cells := 0, slots := 0, locals := 41 } s m [Value.ref h0, Value.int (nI fr), Value.int (nI mn)].toArray below meth c H locs 0 0 (MQ below (va_Qi (fun (r : Int32) (u : Option Nat) => r = bI u ∧ cmO T cn fr mn gn (un + 1) u) (Po G k A (fun u => [(h0, .inr (8, moL ma (va_up (va_up iv 14 (nI un)) 28 gv) co)), ((ma 22), .inl (k 0, 3998, .inl (fun i => nI (sz i)))), ((ma 23), .inl (k 2, 3998, .inl (fun i => nI (bl i)))), ((ma 29), .inl (k 0, 41, .inl (fun i => nI (cn i))))])) A) [Value.ref h0, Value.int (nI fr), Value.int (nI mn)].toArray s 0 0 A) (F0 m 59 ls []) := by
            intro k9 hk1 hz hk2 H locs S ls hl
            refine lv_aload_n hx hb d_Mo_coming_59 rfl (lv_at hl 3 rfl) ?_
            refine lv_iload_n hx hb d_Mo_coming_60 rfl (lv_at hl 4 rfl) ?_
            refine lv_iload hx hb d_Mo_coming_61 (lv_at hl 0 rfl) ?_
            refine z_iadd (x := nI fr) (y := nI k9) (v := nI (fr + k9)) hx hb d_Mo_coming_63 (nI_add fr k9) ?_
            refine lv_iload hx hb d_Mo_coming_64 (lv_at hl 1 rfl) ?_
            refine r_backi (wi := []) (wr := [(h0, .inr (8, moL ma (va_up (va_up iv 14 (nI un)) 28 gv) co)), ((ma 22), .inl (k 0, 3998, .inl (fun i => nI (sz i)))), ((ma 23), .inl (k 2, 3998, .inl (fun i => nI (bl i)))), ((ma 29), .inl (k 0, 41, .inl (fun i => nI (cn i))))]) S hA [] [0, 1, 2, 3] rfl rfl (by decide) (by decide) (va_runS (As := [.int (nI (fr + k9)), .int (nI j)]) (rest := [.ref h0]) ⟨hx, hb, C.2.2.1, C.2.2.2.1, C.2.2.2.2.1⟩ (g_Mo_at l G k _ (fr + k9) j) (k_stat (n := 2) C wc_Mo_at rfl rfl wz_Mo wm_Mo_328 wt_Mo_at (by decide +kernel) ⟨(Nat.le_of_ble_eq_true rfl), (Nat.le_of_ble_eq_true rfl)⟩) (pr_now K S [] (by decide) rfl) rfl rfl hl.1 rfl (lv_room (Nat.le_of_ble_eq_true rfl)) d_Mo_coming_66 ⟨(Nat.le_of_ble_eq_true rfl), (Nat.le_of_ble_eq_true rfl)⟩) (fun r5 u3 H locs hw4 S => ?_)
            have S : Sw G A s.heap _ _ [(h0, .inr (8, moL ma (va_up (va_up iv 14 (nI un)) 28 gv) co)), ((ma 22), .inl (k 0, 3998, .inl (fun i => nI (sz i)))), ((ma 23), .inl (k 2, 3998, .inl (fun i => nI (bl i)))), ((ma 29), .inl (k 0, 41, .inl (fun i => nI (cn i))))] := S
            obtain rfl : r5 = nI (42 * (fr + k9) + j) := hw4
            refine r_backi (wi := [(h0, .inr (8, moL ma (va_up (va_up iv 14 (nI un)) 28 gv) co)), ((ma 22), .inl (k 0, 3998, .inl (fun i => nI (sz i)))), ((ma 23), .inl (k 2, 3998, .inl (fun i => nI (bl i))))]) (wr := [((ma 29), .inl (k 0, 41, .inl (fun i => nI (cn i))))]) S hA [0, 1, 2] [3] rfl rfl (by decide) (by decide) (va_runV (As := [.int (nI (42 * (fr + k9) + j))]) (rest := []) ⟨hx, hb, C.2.2.1, C.2.2.2.1, C.2.2.2.2.1⟩ (g_Mo_signOf l G k h0 _ ma (va_up (va_up iv 14 (nI un)) 28 gv) co sz bl (42 * (fr + k9) + j) (by omega) (hT.2 _ (by omega)).1 (hT.2 _ (by omega)).2.1) (k_virt (n := 1) C wc_Mo_signOf rfl rfl wz_Mo wm_Mo_330 wn_Mo_signOf ws_Mo_signOf (by decide +kernel) ⟨(Nat.le_of_ble_eq_true rfl), (Nat.le_of_ble_eq_true rfl)⟩) (pr_nowV K S [0, 1, 2] (by decide) rfl 0 rfl rfl) rfl rfl hl.1 rfl (lv_room (Nat.le_of_ble_eq_true rfl)) d_Mo_coming_69 ⟨(Nat.le_of_ble_eq_true rfl), (Nat.le_of_ble_eq_true rfl)⟩) (fun r9 u7 H locs hw8 S => ?_)
            have S : Sw G A s.heap _ _ [((ma 29), .inl (k 0, 41, .inl (fun i => nI (cn i)))), (h0, .inr (8, moL ma (va_up (va_up iv 14 (nI un)) 28 gv) co)), ((ma 22), .inl (k 0, 3998, .inl (fun i => nI (sz i)))), ((ma 23), .inl (k 2, 3998, .inl (fun i => nI (bl i))))] := S
            obtain rfl : r9 = sgN (sz (42 * (fr + k9) + j)) (bl (42 * (fr + k9) + j)) := hw8
            rw [sgN_val (hT.2 (42 * (fr + k9) + j) (by omega))]
            refine lv_if_ge (tgt := 98) hx hb d_Mo_coming_72 (by decide) (fun hc11 => ?_) (fun hc11 => ?_)
            · refine lv_iinc (v := nI (j + 1)) (lv' := [(4, .int (nI (j + 1))), (5, .int (nI k9)), (3, .int (bI b9)), (0, .ref h0), (1, .int (nI fr)), (2, .int (nI mn))]) hx hb d_Mo_coming_98 hl (k := 1) rfl (show nI j + Int32.ofInt 1 = nI (j + 1) from (nI_add j 1).trans (congrArg nI (by omega))) (by decide) rfl (fun ls hl => ?_)
              refine lv_goto (tgt := 5) hx hb d_Mo_coming_101 (by decide) ?_
              exact ih (j + 1) b9 (by omega) (by omega) (cmO_no hB (Or.inr (fun q => sg_nlt (fun q => Int32.not_lt.mpr hc11 q) ((sxN_at (f := fun q => T (42 * (fr + q) + j)) hk1 hz hk2).mp q)))) _ _ (S.sub [1, 2, 3, 0] (by decide) rfl) ls (lv_sub hl [0, 2, 3, 4, 5] rfl)
            · cases b9 with
              | none =>
                have hl : lv_has ls 6 [(5, .int (nI k9)), (4, .int (nI j)), (3, .int (-1)), (0, .ref h0), (1, .int (nI fr)), (2, .int (nI mn))] := hl
                refine lv_iload_n hx hb d_Mo_coming_75 rfl (lv_at hl 2 rfl) ?_
                refine lv_if_lt (tgt := 95) hx hb d_Mo_coming_76 (by decide) (fun _ => ?_) (fun hq => absurd (by decide) hq)
                refine lv_iload hx hb d_Mo_coming_95 (lv_at hl 1 rfl) ?_
                refine lv_istore_n (lv' := [(3, .int (nI j)), (5, .int (nI k9)), (4, .int (nI j)), (0, .ref h0), (1, .int (nI fr)), (2, .int (nI mn))]) hx hb d_Mo_coming_97 rfl hl (by decide) rfl (fun ls hl => ?_)
                refine lv_iinc (v := nI (j + 1)) (lv' := [(4, .int (nI (j + 1))), (3, .int (nI j)), (5, .int (nI k9)), (0, .ref h0), (1, .int (nI fr)), (2, .int (nI mn))]) hx hb d_Mo_coming_98 hl (k := 2) rfl (show nI j + Int32.ofInt 1 = nI (j + 1) from (nI_add j 1).trans (congrArg nI (by omega))) (by decide) rfl (fun ls hl => ?_)
                refine lv_goto (tgt := 5) hx hb d_Mo_coming_101 (by decide) ?_
                exact ih (j + 1) (some j) (by omega) (by omega) (cmO_first hB hgj ((sxN_at (f := fun q => T (42 * (fr + q) + j)) hk1 hz hk2).mpr (sg_lt (Int32.not_le.mp hc11)))) _ _ (S.sub [1, 2, 3, 0] (by decide) rfl) ls (lv_sub hl [0, 1, 3, 4, 5] rfl)
              | some sb =>
                have hl : lv_has ls 6 [(5, .int (nI k9)), (4, .int (nI j)), (3, .int (nI sb)), (0, .ref h0), (1, .int (nI fr)), (2, .int (nI mn))] := hl
                have q1 := hB.1
                have q2 := hcn sb (by omega)
                have q3 := hcn j (by omega)
                refine lv_iload_n hx hb d_Mo_coming_75 rfl (lv_at hl 2 rfl) ?_
                refine z_if_lt (a := sb) (tgt := 95) hx hb d_Mo_coming_76 (by decide) (by omega) ?_
                refine lv_aload_n hx hb d_Mo_coming_79 rfl (lv_at hl 3 rfl) ?_
                refine r_get C K S 1 rfl rfl clOk_Mo 56 (by decide) wf_Mo_108 (v := .ref (ma 29)) rfl d_Mo_coming_80 ?_
                refine lv_iload hx hb d_Mo_coming_83 (lv_at hl 1 rfl) ?_
                refine r_iald C K S 0 rfl (i := nI j) (show vp_in (nI j) _ from vp_in_nI (n := j) (by omega) (by decide)) (v := nI (cn j)) (by rw [nI_clamp (by omega)]) d_Mo_coming_85 ?_
                refine lv_aload_n hx hb d_Mo_coming_86 rfl (lv_at hl 3 rfl) ?_
                refine r_get C K S 1 rfl rfl clOk_Mo 56 (by decide) wf_Mo_108 (v := .ref (ma 29)) rfl d_Mo_coming_87 ?_
                refine lv_iload_n hx hb d_Mo_coming_90 rfl (lv_at hl 2 rfl) ?_
                refine r_iald C K S 0 rfl (i := nI sb) (show vp_in (nI sb) _ from vp_in_nI (n := sb) (by omega) (by decide)) (v := nI (cn sb)) (by rw [nI_clamp (by omega)]) d_Mo_coming_91 ?_
                refine z_icmp_ge (a := (cn j)) (b := (cn sb)) (tgt := 98) hx hb d_Mo_coming_92 (by decide) (by omega) (by omega) (fun hc12 => ?_) (fun hc12 => ?_)
                · refine lv_iinc (v := nI (j + 1)) (lv' := [(4, .int (nI (j + 1))), (5, .int (nI k9)), (3, .int (nI sb)), (0, .ref h0), (1, .int (nI fr)), (2, .int (nI mn))]) hx hb d_Mo_coming_98 hl (k := 1) rfl (show nI j + Int32.ofInt 1 = nI (j + 1) from (nI_add j 1).trans (congrArg nI (by omega))) (by decide) rfl (fun ls hl => ?_)
                  refine lv_goto (tgt := 5) hx hb d_Mo_coming_101 (by decide) ?_
                  exact ih (j + 1) (some sb) (by omega) (by omega) (cmO_old hB (by omega)) _ _ (S.sub [1, 2, 3, 0] (by decide) rfl) ls (lv_sub hl [0, 2, 3, 4, 5] rfl)
                · refine lv_iload hx hb d_Mo_coming_95 (lv_at hl 1 rfl) ?_
                  refine lv_istore_n (lv' := [(3, .int (nI j)), (5, .int (nI k9)), (4, .int (nI j)), (0, .ref h0), (1, .int (nI fr)), (2, .int (nI mn))]) hx hb d_Mo_coming_97 rfl hl (by decide) rfl (fun ls hl => ?_)
                  refine lv_iinc (v := nI (j + 1)) (lv' := [(4, .int (nI (j + 1))), (3, .int (nI j)), (5, .int (nI k9)), (0, .ref h0), (1, .int (nI fr)), (2, .int (nI mn))]) hx hb d_Mo_coming_98 hl (k := 2) rfl (show nI j + Int32.ofInt 1 = nI (j + 1) from (nI_add j 1).trans (congrArg nI (by omega))) (by decide) rfl (fun ls hl => ?_)
                  refine lv_goto (tgt := 5) hx hb d_Mo_coming_101 (by decide) ?_
                  exact ih (j + 1) (some j) (by omega) (by omega) (cmO_new hB hgj ((sxN_at (f := fun q => T (42 * (fr + q) + j)) hk1 hz hk2).mpr (sg_lt (Int32.not_le.mp hc11))) (by omega)) _ _ (S.sub [1, 2, 3, 0] (by decide) rfl) ls (lv_sub hl [0, 1, 3, 4, 5] rfl)
          have lk : ∀ d9, ∀ (k9 : Nat), (mn - k9) < d9 → (k9 < mn) → (∀ p, p < k9 → T (42 * (fr + p) + j) = 0) → ∀ (H : Heap) (locs : List Loc), Sw G A s.heap H locs [(h0, .inr (8, moL ma (va_up (va_up iv 14 (nI un)) 28 gv) co)), ((ma 22), .inl (k 0, 3998, .inl (fun i => nI (sz i)))), ((ma 23), .inl (k 2, 3998, .inl (fun i => nI (bl i)))), ((ma 29), .inl (k 0, 41, .inl (fun i => nI (cn i))))] → ∀ ls : Array Slot, lv_has ls 6 [(5, .int (nI k9)), (4, .int (nI j)), (3, .int (bI b9)), (0, .ref h0), (1, .int (nI fr)), (2, .int (nI mn))] → W p l e { frames := 2, cells := 0, slots := 0, locals := 41 } s m [Value.ref h0, Value.int (nI fr), Value.int (nI mn)].toArray below meth c H locs 0 0 (MQ below (va_Qi (fun (r : Int32) (u : Option Nat) => r = bI u ∧ cmO T cn fr mn gn (un + 1) u) (Po G k A (fun u => [(h0, .inr (8, moL ma (va_up (va_up iv 14 (nI un)) 28 gv) co)), ((ma 22), .inl (k 0, 3998, .inl (fun i => nI (sz i)))), ((ma 23), .inl (k 2, 3998, .inl (fun i => nI (bl i)))), ((ma 29), .inl (k 0, 41, .inl (fun i => nI (cn i))))])) A) [Value.ref h0, Value.int (nI fr), Value.int (nI mn)].toArray s 0 0 A) (F0 m 29 ls []) := by
            intro d9
            induction d9 with
            | zero => intro k9 hm; exact absurd hm (Nat.not_lt_zero _)
            | succ d9 ih =>
              intro k9 hm hk1 hz H locs S ls hl
              refine lv_iload hx hb d_Mo_coming_29 (lv_at hl 0 rfl) ?_
              refine lv_iload_n hx hb d_Mo_coming_31 rfl (lv_at hl 5 rfl) ?_
              refine lv_iconst (v := 1) hx hb d_Mo_coming_32 (by decide) ?_
              refine z_isub (x := nI mn) (y := 1) (v := nI (mn - 1)) hx hb d_Mo_coming_33 (pk_sub (a := mn) (b := 1) (by omega)) ?_
              refine z_icmp_ge (a := k9) (b := (mn - 1)) (tgt := 59) hx hb d_Mo_coming_34 (by decide) (by omega) (by omega) (fun hc13 => ?_) (fun hc13 => ?_)
              · exact dec9 k9 hk1 hz (Or.inl (by omega)) _ _ (S.sub [0, 1, 2, 3] (by decide) rfl) ls (lv_sub hl [0, 1, 2, 3, 4, 5] rfl)
              · refine lv_aload_n hx hb d_Mo_coming_37 rfl (lv_at hl 3 rfl) ?_
                refine lv_iload_n hx hb d_Mo_coming_38 rfl (lv_at hl 4 rfl) ?_
                refine lv_iload hx hb d_Mo_coming_39 (lv_at hl 0 rfl) ?_
                refine z_iadd (x := nI fr) (y := nI k9) (v := nI (fr + k9)) hx hb d_Mo_coming_41 (nI_add fr k9) ?_
                refine lv_iload hx hb d_Mo_coming_42 (lv_at hl 1 rfl) ?_
                refine r_backi (wi := []) (wr := [(h0, .inr (8, moL ma (va_up (va_up iv 14 (nI un)) 28 gv) co)), ((ma 22), .inl (k 0, 3998, .inl (fun i => nI (sz i)))), ((ma 23), .inl (k 2, 3998, .inl (fun i => nI (bl i)))), ((ma 29), .inl (k 0, 41, .inl (fun i => nI (cn i))))]) S hA [] [0, 1, 2, 3] rfl rfl (by decide) (by decide) (va_runS (As := [.int (nI (fr + k9)), .int (nI j)]) (rest := [.ref h0]) ⟨hx, hb, C.2.2.1, C.2.2.2.1, C.2.2.2.2.1⟩ (g_Mo_at l G k _ (fr + k9) j) (k_stat (n := 2) C wc_Mo_at rfl rfl wz_Mo wm_Mo_328 wt_Mo_at (by decide +kernel) ⟨(Nat.le_of_ble_eq_true rfl), (Nat.le_of_ble_eq_true rfl)⟩) (pr_now K S [] (by decide) rfl) rfl rfl hl.1 rfl (lv_room (Nat.le_of_ble_eq_true rfl)) d_Mo_coming_44 ⟨(Nat.le_of_ble_eq_true rfl), (Nat.le_of_ble_eq_true rfl)⟩) (fun r16 u14 H locs hw15 S => ?_)
                have S : Sw G A s.heap _ _ [(h0, .inr (8, moL ma (va_up (va_up iv 14 (nI un)) 28 gv) co)), ((ma 22), .inl (k 0, 3998, .inl (fun i => nI (sz i)))), ((ma 23), .inl (k 2, 3998, .inl (fun i => nI (bl i)))), ((ma 29), .inl (k 0, 41, .inl (fun i => nI (cn i))))] := S
                obtain rfl : r16 = nI (42 * (fr + k9) + j) := hw15
                refine r_backi (wi := [(h0, .inr (8, moL ma (va_up (va_up iv 14 (nI un)) 28 gv) co)), ((ma 22), .inl (k 0, 3998, .inl (fun i => nI (sz i)))), ((ma 23), .inl (k 2, 3998, .inl (fun i => nI (bl i))))]) (wr := [((ma 29), .inl (k 0, 41, .inl (fun i => nI (cn i))))]) S hA [0, 1, 2] [3] rfl rfl (by decide) (by decide) (va_runV (As := [.int (nI (42 * (fr + k9) + j))]) (rest := []) ⟨hx, hb, C.2.2.1, C.2.2.2.1, C.2.2.2.2.1⟩ (g_Mo_signOf l G k h0 _ ma (va_up (va_up iv 14 (nI un)) 28 gv) co sz bl (42 * (fr + k9) + j) (by omega) (hT.2 _ (by omega)).1 (hT.2 _ (by omega)).2.1) (k_virt (n := 1) C wc_Mo_signOf rfl rfl wz_Mo wm_Mo_330 wn_Mo_signOf ws_Mo_signOf (by decide +kernel) ⟨(Nat.le_of_ble_eq_true rfl), (Nat.le_of_ble_eq_true rfl)⟩) (pr_nowV K S [0, 1, 2] (by decide) rfl 0 rfl rfl) rfl rfl hl.1 rfl (lv_room (Nat.le_of_ble_eq_true rfl)) d_Mo_coming_47 ⟨(Nat.le_of_ble_eq_true rfl), (Nat.le_of_ble_eq_true rfl)⟩) (fun r20 u18 H locs hw19 S => ?_)
                have S : Sw G A s.heap _ _ [((ma 29), .inl (k 0, 41, .inl (fun i => nI (cn i)))), (h0, .inr (8, moL ma (va_up (va_up iv 14 (nI un)) 28 gv) co)), ((ma 22), .inl (k 0, 3998, .inl (fun i => nI (sz i)))), ((ma 23), .inl (k 2, 3998, .inl (fun i => nI (bl i))))] := S
                obtain rfl : r20 = sgN (sz (42 * (fr + k9) + j)) (bl (42 * (fr + k9) + j)) := hw19
                rw [sgN_val (hT.2 (42 * (fr + k9) + j) (by omega))]
                refine lv_if_ne (tgt := 59) hx hb d_Mo_coming_50 (by decide) (fun hc22 => ?_) (fun hc22 => ?_)
                · exact dec9 k9 hk1 hz (Or.inr (sg_ne hc22)) _ _ (S.sub [1, 2, 3, 0] (by decide) rfl) ls (lv_sub hl [0, 1, 2, 3, 4, 5] rfl)
                · refine lv_iinc (v := nI (k9 + 1)) (lv' := [(5, .int (nI (k9 + 1))), (4, .int (nI j)), (3, .int (bI b9)), (0, .ref h0), (1, .int (nI fr)), (2, .int (nI mn))]) hx hb d_Mo_coming_53 hl (k := 0) rfl (show nI k9 + Int32.ofInt 1 = nI (k9 + 1) from (nI_add k9 1).trans (congrArg nI (by omega))) (by decide) rfl (fun ls hl => ?_)
                  refine lv_goto (tgt := 29) hx hb d_Mo_coming_56 (by decide) ?_
                  exact ih (k9 + 1) (by omega) (by omega) (fun p hp => (Nat.lt_or_eq_of_le (Nat.le_of_lt_succ hp)).elim (fun q => hz p q) (fun q => by rw [q]; exact sg_eq hc22)) _ _ (S.sub [1, 2, 3, 0] (by decide) rfl) ls (lv_sub hl [0, 1, 2, 3, 4, 5] rfl)
          exact lk _ 0 (Nat.lt_succ_self _) (by omega) (fun p hp => absurd hp (Nat.not_lt_zero _)) _ _ (S.sub [0, 1, 2, 3] (by decide) rfl) ls (lv_sub hl [0, 1, 2, 3, 4, 5] rfl)
        · refine lv_goto (tgt := 98) hx hb d_Mo_coming_23 (by decide) ?_
          refine lv_iinc (v := nI (j + 1)) (lv' := [(4, .int (nI (j + 1))), (3, .int (bI b9)), (0, .ref h0), (1, .int (nI fr)), (2, .int (nI mn))]) hx hb d_Mo_coming_98 hl (k := 0) rfl (show nI j + Int32.ofInt 1 = nI (j + 1) from (nI_add j 1).trans (congrArg nI (by omega))) (by decide) rfl (fun ls hl => ?_)
          refine lv_goto (tgt := 5) hx hb d_Mo_coming_101 (by decide) ?_
          exact ih (j + 1) b9 (by omega) (by omega) (cmO_no hB (Or.inl ((hg j (by omega)).mp hc2))) _ _ (S.sub [0, 1, 2, 3] (by decide) rfl) ls (lv_sub hl [0, 1, 2, 3, 4] rfl)
  exact lp _ 0 none (Nat.lt_succ_self _) (by omega) (cmO_0 _ _ _ _ _) _ _ (S.sub [0, 1, 2, 3] (by decide) rfl) ls (lv_sub hl [0, 1, 2, 3, 4] rfl)
end
section
/-! what the cells hold while the table is laid -/
def lyB (un i : Nat) (sm T : Nat → Int) : Prop := T 3997 = 1 ∧ ∀ x, x < i → T (42 * x) = 0 ∧ (∀ j, j < un → T (42 * x + (j + 1)) = sm (41 * x + j)) ∧ T (42 * x + 41) = sm (41 * x + 40)
theorem lyB_keep {un i c : Nat} {sm T : Nat → Int} {v : Int} (h : lyB un i sm T) (hu : un ≤ 40) (h1 : 42 * i ≤ c) (h2 : c < 3990) : lyB un i sm (va_up T c v) := by
  refine ⟨by rw [va_up_ne _ _ (by omega)]; exact h.1, fun x hx => ?_⟩
  obtain ⟨a, b, d⟩ := h.2 x hx
  refine ⟨by rw [va_up_ne _ _ (by omega)]; exact a, fun j hj => ?_, by rw [va_up_ne _ _ (by omega)]; exact d⟩
  rw [va_up_ne _ _ (by omega)]
  exact b j hj
def lyR (un i j : Nat) (sm T : Nat → Int) : Prop := T (42 * i) = 0 ∧ ∀ x, x < j → T (42 * i + (x + 1)) = sm (41 * i + x)
theorem lyR_0 {un i : Nat} {sm T : Nat → Int} : lyR un i 0 sm (va_up T (42 * i + 0) 0) := ⟨va_up_self _ _ _, fun _ h => absurd h (Nat.not_lt_zero _)⟩
theorem lyR_s {un i j : Nat} {sm T : Nat → Int} (h : lyR un i j sm T) : lyR un i (j + 1) sm (va_up T (42 * i + (j + 1)) (sm (41 * i + j))) := by
  refine ⟨by rw [va_up_ne _ _ (by omega)]; exact h.1, fun x hx => ?_⟩
  by_cases q : x = j
  · rw [q, va_up_self]
  · rw [va_up_ne _ _ (by omega)]; exact h.2 x (by omega)
theorem lyB_s {un i : Nat} {sm T : Nat → Int} (h : lyB un i sm T) (hr : lyR un i un sm T) (hu : un ≤ 40) (hi : 42 * i + 41 < 3990) : lyB un (i + 1) sm (va_up T (42 * i + 41) (sm (41 * i + 40))) := by
  have hk := lyB_keep (c := 42 * i + 41) (v := sm (41 * i + 40)) h hu (by omega) (by omega)
  refine ⟨hk.1, fun x hx => ?_⟩
  by_cases q : x = i
  · subst q
    refine ⟨by rw [va_up_ne _ _ (by omega)]; exact hr.1, fun j hj => ?_, va_up_self _ _ _⟩
    rw [va_up_ne _ _ (by omega)]
    exact hr.2 j hj
  · exact hk.2 x (by omega)
/-- q rows of aims are empty, and k9 cells of the next -/
def lyC (un rows q k9 : Nat) (T : Nat → Int) : Prop := (∀ x, x < q → ∀ j, isC un j → T (42 * (rows + x) + j) = 0) ∧ ∀ j, j < k9 → T (42 * (rows + q) + j) = 0
theorem lyC_0 {un rows : Nat} {T : Nat → Int} : lyC un rows 0 0 T := ⟨fun _ h => absurd h (Nat.not_lt_zero _), fun _ h => absurd h (Nat.not_lt_zero _)⟩
theorem lyC_s {un rows q k9 : Nat} {T : Nat → Int} (h : lyC un rows q k9 T) (hu : un ≤ 40) : lyC un rows q (k9 + 1) (va_up T (42 * (rows + q) + k9) 0) := by
  refine ⟨fun x hx j hj => ?_, fun j hj => ?_⟩
  · have := isC_lt hu hj
    rw [va_up_ne _ _ (by omega)]
    exact h.1 x hx j hj
  · by_cases w : j = k9
    · rw [w, va_up_self]
    · rw [va_up_ne _ _ (by omega)]; exact h.2 j (by omega)
theorem lyC_n {un rows q : Nat} {T : Nat → Int} (h : lyC un rows q (un + 1) T) (hu : un ≤ 40) : lyC un rows (q + 1) 0 (va_up T (42 * (rows + q) + 41) 0) := by
  refine ⟨fun x hx j hj => ?_, fun _ h => absurd h (Nat.not_lt_zero _)⟩
  have hj2 := isC_lt hu hj
  by_cases w : x = q
  · subst w
    rcases hj with hj | hj
    · rw [va_up_ne _ _ (by omega)]; exact h.2 j (by omega)
    · rw [hj, va_up_self]
  · rw [va_up_ne _ _ (by omega)]; exact h.1 x (by omega) j hj
/-- the aims, for the first k9 unknowns that are sought -/
def lyD (un rows fst tk k9 : Nat) (T : Nat → Int) : Prop := ∀ q, q < tk + 2 → ∀ j, isC un j → T (42 * (rows + q) + j) = if q = 0 then (if fst + 1 ≤ j ∧ j ≤ fst + k9 ∧ j ≤ un then 1 else 0) else if j = fst + q ∧ q ≤ k9 then 1 else 0
theorem lyD_0 {un rows fst tk : Nat} {T : Nat → Int} (h : lyC un rows (tk + 2) 0 T) : lyD un rows fst tk 0 T := by
  intro q hq j hj
  rw [h.1 q hq j hj]
  by_cases w : q = 0
  · rw [if_pos w, if_neg (by omega)]
  · rw [if_neg w, if_neg (by omega)]
theorem lyD_s {un rows fst tk k9 : Nat} {T : Nat → Int} (h : lyD un rows fst tk k9 T) (hu : un ≤ 40) (hk : k9 ≤ tk) (hf : fst + tk + 1 ≤ un) : lyD un rows fst tk (k9 + 1) (va_up (va_up T (42 * rows + (fst + k9 + 1)) 1) (42 * (rows + 1 + k9) + (fst + k9 + 1)) 1) := by
  intro q hq j hj
  have hj2 := isC_lt hu hj
  have h0 := h q hq j hj
  by_cases w : q = 0
  · subst w
    rw [va_up_ne _ _ (by omega), if_pos rfl]
    rw [if_pos rfl] at h0
    by_cases w2 : j = fst + k9 + 1
    · rw [w2, show rows + 0 = rows from rfl, va_up_self, if_pos (by omega)]
    · rw [va_up_ne _ _ (by omega), h0]
      by_cases w3 : fst + 1 ≤ j ∧ j ≤ fst + k9 ∧ j ≤ un
      · rw [if_pos w3, if_pos (by omega)]
      · rw [if_neg w3, if_neg (by omega)]
  · rw [if_neg w] at h0 ⊢
    by_cases w2 : q = k9 + 1 ∧ j = fst + k9 + 1
    · obtain ⟨rfl, rfl⟩ := w2
      rw [show rows + (k9 + 1) = rows + 1 + k9 by omega, va_up_self, if_pos (by omega)]
    · rw [va_up_ne _ _ (by omega), va_up_ne _ _ (by omega), h0]
      by_cases w3 : j = fst + q ∧ q ≤ k9
      · rw [if_pos w3, if_pos (by omega)]
      · rw [if_neg w3, if_neg (by omega)]
theorem ly_done {un rows fst tk : Nat} {sm T : Nat → Int} (hB : lyB un rows sm T) (hD : lyD un rows fst tk (tk + 1) T) : layO un rows 0 fst tk sm T := by
  refine ⟨hB.1, fun i hi => ⟨(hB.2 i hi).1, (hB.2 i hi).2.1, (hB.2 i hi).2.2⟩, fun q hq j hj => ?_⟩
  rw [hD q hq j hj]
  by_cases w : q = 0
  · rw [if_pos w, if_pos w]
    rfl
  · rw [if_neg w, if_neg w]
    by_cases w3 : j = fst + q
    · rw [if_pos ⟨w3, by omega⟩, if_pos w3]
    · rw [if_neg (fun x => w3 x.1), if_neg w3]
end
section
/-! bodies: what their words say, and the reading of them -/
/-- the words from p to q are one expression, at most fu deep, with kn variables; E p is where the expression that begins at p ends -/
def wf (W : Nat → Int32) (tk : Nat → Nat) (nf : Nat) (E : Nat → Nat) : Nat → Nat → Nat → Nat → Prop
  | 0, _, _, _ => False
  | fu + 1, kn, p, q => E p = q ∧ ((W p = 0 ∧ q = p + 1) ∨ (W p = 1 ∧ (∃ v, W (p + 1) = nI v ∧ v < kn) ∧ q = p + 2) ∨ (W p = 2 ∧ wf W tk nf E fu kn (p + 1) q)
    ∨ (W p = 3 ∧ (∃ v, W (p + 1) = nI v ∧ v < kn) ∧ ∃ m, wf W tk nf E fu kn (p + 2) m ∧ wf W tk nf E fu (kn + 1) m q) ∨ (W p = 4 ∧ (∃ n, W (p + 1) = nI n ∧ n ≤ 1000) ∧ wf W tk nf E fu kn (p + 2) q)
    ∨ (W p = 5 ∧ (∃ g, W (p + 1) = nI g ∧ g < nf ∧ q = p + 2 + tk g ∧ ∀ k, k < tk g → ∃ v, W (p + 2 + k) = nI v ∧ v < kn)) ∨ (W p = 6 ∧ ∃ m, wf W tk nf E fu kn (p + 1) m ∧ wf W tk nf E fu (kn + 1) m q))
/-- how many nodes there are from p on -/
def nd (W : Nat → Int32) (E : Nat → Nat) : Nat → Nat → Nat
  | 0, _ => 0
  | fu + 1, p => if W p = 2 then nd W E fu (p + 1) + 1 else if W p = 4 then nd W E fu (p + 2) + 1 else if W p = 3 then nd W E fu (p + 2) + nd W E fu (E (p + 2)) + 1 else if W p = 6 then nd W E fu (p + 1) + nd W E fu (E (p + 1)) + 1 else 1
/-- the first word of a call's lists that can't stand there -/
def whV (W : Nat → Int32) (cnt kn p : Nat) : Nat → Option Nat
  | 0 => none
  | k + 1 => match whV W cnt kn p k with
    | some b => some b
    | none => if p + 2 + k = cnt then some cnt else if W (p + 2 + k) < 0 ∨ ¬ W (p + 2 + k) < nI kn then some (p + 2 + k) else none
/-- what is wrong with the words of a node itself -/
def wh (W : Nat → Int32) (tk : Nat → Nat) (nf cnt p kn : Nat) : Option Nat :=
  if W p < 0 ∨ 6 < W p then some p
  else if W p = 0 ∨ W p = 2 ∨ W p = 6 then none
  else if p + 1 = cnt then some cnt
  else if W p = 4 then (if W (p + 1) < 0 ∨ 1000 < W (p + 1) then some (p + 1) else none)
  else if W p ≠ 5 then (if W (p + 1) < 0 ∨ ¬ W (p + 1) < nI kn then some (p + 1) else none)
  else if ¬ (0 ≤ W (p + 1) ∧ W (p + 1) < nI nf) then some (p + 1)
  else whV W cnt kn p (tk (W (p + 1)).toNatClampNeg)
/-- how many words a node has of its own, and how many parts -/
def hdN (W : Nat → Int32) (tk : Nat → Nat) (p : Nat) : Nat := if W p = 0 ∨ W p = 2 ∨ W p = 6 then 1 else if W p = 5 then 2 + tk (W (p + 1)).toNatClampNeg else 2
def ptN (o : Int32) : Nat := if o = 3 ∨ o = 6 then 2 else if o = 2 ∨ o = 4 then 1 else 0
/-- nodes that wait for parts, the innermost first: where each begins, how many parts it has got, what is known -/
abbrev Stk := List (Nat × Nat × Nat)
def clo (W : Nat → Int32) (at9 : Nat) : Nat → Stk → (Nat → Nat) → Stk × (Nat → Nat)
  | _, [], E => ([], E)
  | inc, (a, p, kn) :: st, E => if p + inc = ptN (W a) then clo W at9 1 st (va_up E a at9) else ((a, p + inc, kn) :: st, E)
def kbN (W : Nat → Int32) : Stk → Nat
  | [] => 0
  | (a, p, kn) :: _ => kn + (if (W a = 3 ∨ W a = 6) ∧ p = 1 then 1 else 0)
/-- what holds of every turn of the reading: where it stops, ends or goes on -/
def WLc (W : Nat → Int32) (tk : Nat → Nat) (nf cnt : Nat) (P : Nat → Nat → Nat → Stk → (Nat → Nat) → Option Nat → (Nat → Nat) → Prop) : Prop :=
  (∀ at9 nodes kn st E, at9 ≤ cnt → (at9 = cnt ∨ nodes = 40 ∨ st.length = 16) → P at9 nodes kn st E (some at9) E)
  ∧ (∀ at9 nodes kn st E b, at9 < cnt → nodes < 40 → st.length < 16 → wh W tk nf cnt at9 kn = some b → P at9 nodes kn st E (some b) E)
  ∧ (∀ at9 nodes kn st E E', at9 < cnt → nodes < 40 → st.length < 16 → wh W tk nf cnt at9 kn = none → clo W (at9 + hdN W tk at9) 0 ((at9, 0, kn) :: st) E = ([], E') → P at9 nodes kn st E (if at9 + hdN W tk at9 = cnt then none else some (at9 + hdN W tk at9)) E')
  ∧ (∀ at9 nodes kn st st' E E' E'' r, at9 < cnt → nodes < 40 → st.length < 16 → wh W tk nf cnt at9 kn = none → clo W (at9 + hdN W tk at9) 0 ((at9, 0, kn) :: st) E = (st', E') → st' ≠ [] → P (at9 + hdN W tk at9) (nodes + 1) (kbN W st') st' E' r E'' → P at9 nodes kn st E r E'')
/-- the reading, turn by turn: none: all words are read; some b: the place b is wrong -/
def WL (W : Nat → Int32) (tk : Nat → Nat) (nf cnt : Nat) (at9 nodes kn : Nat) (st : Stk) (E : Nat → Nat) (r : Option Nat) (E' : Nat → Nat) : Prop := ∀ P, WLc W tk nf cnt P → P at9 nodes kn st E r E'
/-- the reading as a function -/
abbrev PR := Sum Nat (Nat × Nat × (Nat → Nat))
def prs (W : Nat → Int32) (tk : Nat → Nat) (nf cnt : Nat) : Nat → Nat → Nat → Nat → (Nat → Nat) → PR
  | 0, _, at9, _, _ => .inl at9
  | fu + 1, kn, at9, nodes, E =>
    if at9 = cnt ∨ nodes = 40 then .inl at9
    else match wh W tk nf cnt at9 kn with
    | some b => .inl b
    | none =>
      if W at9 = 0 ∨ W at9 = 1 ∨ W at9 = 5 then .inr (at9 + hdN W tk at9, nodes + 1, va_up E at9 (at9 + hdN W tk at9))
      else match prs W tk nf cnt fu kn (at9 + hdN W tk at9) (nodes + 1) E with
      | .inl b => .inl b
      | .inr (a2, n2, E2) =>
        if W at9 = 2 ∨ W at9 = 4 then .inr (a2, n2, va_up E2 at9 a2)
        else match prs W tk nf cnt fu (kn + 1) a2 n2 E2 with
        | .inl b => .inl b
        | .inr (a3, n3, E3) => .inr (a3, n3, va_up E3 at9 a3)
section WLR
variable {W : Nat → Int32} {tk : Nat → Nat} {nf cnt : Nat} {at9 nodes kn : Nat} {st st' : Stk} {E E' E'' : Nat → Nat} {r : Option Nat} {b : Nat}
theorem WL_stop (h0 : at9 ≤ cnt) (h : at9 = cnt ∨ nodes = 40 ∨ st.length = 16) : WL W tk nf cnt at9 nodes kn st E (some at9) E := fun _ hP => hP.1 _ _ _ _ _ h0 h
theorem WL_head (h1 : at9 < cnt) (h2 : nodes < 40) (h3 : st.length < 16) (h4 : wh W tk nf cnt at9 kn = some b) : WL W tk nf cnt at9 nodes kn st E (some b) E := fun _ hP => hP.2.1 _ _ _ _ _ _ h1 h2 h3 h4
theorem WL_fin (h1 : at9 < cnt) (h2 : nodes < 40) (h3 : st.length < 16) (h4 : wh W tk nf cnt at9 kn = none) (h5 : clo W (at9 + hdN W tk at9) 0 ((at9, 0, kn) :: st) E = ([], E')) : WL W tk nf cnt at9 nodes kn st E (if at9 + hdN W tk at9 = cnt then none else some (at9 + hdN W tk at9)) E' := fun _ hP => hP.2.2.1 _ _ _ _ _ _ h1 h2 h3 h4 h5
theorem WL_go (h1 : at9 < cnt) (h2 : nodes < 40) (h3 : st.length < 16) (h4 : wh W tk nf cnt at9 kn = none) (h5 : clo W (at9 + hdN W tk at9) 0 ((at9, 0, kn) :: st) E = (st', E')) (h6 : st' ≠ []) (h7 : WL W tk nf cnt (at9 + hdN W tk at9) (nodes + 1) (kbN W st') st' E' r E'') : WL W tk nf cnt at9 nodes kn st E r E'' := fun P hP => hP.2.2.2 _ _ _ _ _ _ _ _ _ h1 h2 h3 h4 h5 h6 (h7 P hP)
end WLR
end
section
theorem i32_13 {x : Int32} (a1 : ¬ x < 0) (a2 : ¬ 6 < x) (a3 : x ≠ 0) (a4 : x ≠ 2) (a5 : x ≠ 6) (a6 : ¬ x = 4) (a7 : ¬ x = 5) : x = 1 ∨ x = 3 := by
  rw [Int32.lt_iff_toInt_lt] at a1 a2
  have z0 : (0 : Int32).toInt = 0 := by decide
  have z6 : (6 : Int32).toInt = 6 := by decide
  rw [z0] at a1
  rw [z6] at a2
  have k : ∀ (y : Int32) (n : Int), y.toInt = n → x.toInt = n → x = y := fun y n h1 h2 => Int32.toInt_inj.mp (h2.trans h1.symm)
  have h : x.toInt = 0 ∨ x.toInt = 1 ∨ x.toInt = 2 ∨ x.toInt = 3 ∨ x.toInt = 4 ∨ x.toInt = 5 ∨ x.toInt = 6 := by omega
  rcases h with h | h | h | h | h | h | h
  · exact absurd (k 0 0 (by decide) h) a3
  · exact Or.inl (k 1 1 (by decide) h)
  · exact absurd (k 2 2 (by decide) h) a4
  · exact Or.inr (k 3 3 (by decide) h)
  · exact absurd (k 4 4 (by decide) h) a6
  · exact absurd (k 5 5 (by decide) h) a7
  · exact absurd (k 6 6 (by decide) h) a5
section PRS
variable {W : Nat → Int32} {tk : Nat → Nat} {nf cnt : Nat}
theorem whV_none {kn p : Nat} : ∀ {k : Nat}, whV W cnt kn p k = none → ∀ j, j < k → p + 2 + j ≠ cnt ∧ ¬ W (p + 2 + j) < 0 ∧ W (p + 2 + j) < nI kn
  | 0, _, j, hj => absurd hj (Nat.not_lt_zero _)
  | k + 1, h, j, hj => by
    unfold whV at h
    cases h1 : whV W cnt kn p k with
    | some b => rw [h1] at h; exact absurd h (by simp)
    | none =>
      rw [h1] at h
      by_cases q : j = k
      · subst q
        have h : (if p + 2 + j = cnt then some cnt else if W (p + 2 + j) < 0 ∨ ¬ W (p + 2 + j) < nI kn then some (p + 2 + j) else none) = none := h
        by_cases w1 : p + 2 + j = cnt
        · rw [if_pos w1] at h; exact absurd h (by simp)
        · rw [if_neg w1] at h
          by_cases w2 : W (p + 2 + j) < 0 ∨ ¬ W (p + 2 + j) < nI kn
          · rw [if_pos w2] at h; exact absurd h (by simp)
          · exact ⟨w1, fun x => w2 (Or.inl x), Classical.byContradiction (fun x => w2 (Or.inr x))⟩
      · exact whV_none h1 j (by omega)
/-- what a node's own words are, when nothing is wrong with them -/
theorem wh_none {p kn : Nat} (h : wh W tk nf cnt p kn = none) : (W p = 0 ∨ W p = 2 ∨ W p = 6) ∨ (p + 1 ≠ cnt ∧ ((W p = 4 ∧ ¬ W (p + 1) < 0 ∧ ¬ 1000 < W (p + 1)) ∨ ((W p = 1 ∨ W p = 3) ∧ ¬ W (p + 1) < 0 ∧ W (p + 1) < nI kn) ∨ (W p = 5 ∧ 0 ≤ W (p + 1) ∧ W (p + 1) < nI nf ∧ whV W cnt kn p (tk (W (p + 1)).toNatClampNeg) = none))) := by
  unfold wh at h
  by_cases q0 : W p < 0 ∨ 6 < W p
  · rw [if_pos q0] at h; exact absurd h (by simp)
  rw [if_neg q0] at h
  by_cases q1 : W p = 0 ∨ W p = 2 ∨ W p = 6
  · exact Or.inl q1
  rw [if_neg q1] at h
  by_cases q2 : p + 1 = cnt
  · rw [if_pos q2] at h; exact absurd h (by simp)
  rw [if_neg q2] at h
  refine Or.inr ⟨q2, ?_⟩
  by_cases q3 : W p = 4
  · rw [if_pos q3] at h
    by_cases q4 : W (p + 1) < 0 ∨ 1000 < W (p + 1)
    · rw [if_pos q4] at h; exact absurd h (by simp)
    · exact Or.inl ⟨q3, fun x => q4 (Or.inl x), fun x => q4 (Or.inr x)⟩
  rw [if_neg q3] at h
  by_cases q5 : W p = 5
  · rw [if_neg (fun x => x q5)] at h
    by_cases q6 : 0 ≤ W (p + 1) ∧ W (p + 1) < nI nf
    · rw [if_neg (fun x => x q6)] at h
      exact Or.inr (Or.inr ⟨q5, q6.1, q6.2, h⟩)
    · rw [if_pos q6] at h; exact absurd h (by simp)
  · rw [if_pos q5] at h
    by_cases q4 : W (p + 1) < 0 ∨ ¬ W (p + 1) < nI kn
    · rw [if_pos q4] at h; exact absurd h (by simp)
    · refine Or.inr (Or.inl ⟨?_, fun x => q4 (Or.inl x), Classical.byContradiction (fun x => q4 (Or.inr x))⟩)
      have a1 : ¬ W p < 0 := fun x => q0 (Or.inl x)
      have a2 : ¬ 6 < W p := fun x => q0 (Or.inr x)
      have a3 : W p ≠ 0 := fun x => q1 (Or.inl x)
      have a4 : W p ≠ 2 := fun x => q1 (Or.inr (Or.inl x))
      have a5 : W p ≠ 6 := fun x => q1 (Or.inr (Or.inr x))
      clear h q0 q1 q2 q4
      exact i32_13 a1 a2 a3 a4 a5 q3 q5
theorem wh_hd {p kn : Nat} (h : wh W tk nf cnt p kn = none) (hp : p < cnt) : p + hdN W tk p ≤ cnt := by
  unfold hdN
  rcases wh_none h with q | ⟨q, r⟩
  · rw [if_pos q]; omega
  · by_cases q1 : W p = 0 ∨ W p = 2 ∨ W p = 6
    · rw [if_pos q1]; omega
    · rw [if_neg q1]
      rcases r with r | r | r
      · rw [if_neg (by rw [r.1]; decide)]; omega
      · rw [if_neg (by rcases r.1 with x | x <;> rw [x] <;> decide)]; omega
      · rw [if_pos r.1]
        have h1 := whV_none r.2.2.2
        generalize tk (W (p + 1)).toNatClampNeg = n at *
        have : ∀ k, k ≤ n → p + 2 + k ≤ cnt := by
          intro k
          induction k with
          | zero => intro _; omega
          | succ k ih =>
            intro hk
            have := ih (by omega)
            have := (h1 k (by omega)).1
            omega
        have := this n (Nat.le_refl _)
        omega
theorem ptN_of {o : Int32} : (o = 0 → ptN o = 0) ∧ (o = 1 → ptN o = 0) ∧ (o = 5 → ptN o = 0) ∧ (o = 2 → ptN o = 1) ∧ (o = 4 → ptN o = 1) ∧ (o = 3 → ptN o = 2) ∧ (o = 6 → ptN o = 2) := by
  refine ⟨?_, ?_, ?_, ?_, ?_, ?_, ?_⟩ <;> intro h <;> subst h <;> decide
theorem wh_kind {p kn : Nat} (h : wh W tk nf cnt p kn = none) (h0 : W p ≠ 0) (h1 : W p ≠ 1) (h5 : W p ≠ 5) (h2 : W p ≠ 2) (h4 : W p ≠ 4) : W p = 3 ∨ W p = 6 := by
  rcases wh_none h with q | ⟨-, r⟩
  · rcases q with q | q | q
    · exact absurd q h0
    · exact absurd q h2
    · exact Or.inr q
  · rcases r with r | r | r
    · exact absurd r.1 h4
    · rcases r.1 with r | r
      · exact absurd r h1
      · exact Or.inl r
    · exact absurd r.1 h5
/-- the reading by turns is the reading as a function -/
def wlX (W : Nat → Int32) (tk : Nat → Nat) (nf cnt kn at9 nodes : Nat) (st : Stk) (E : Nat → Nat) : PR → Prop
  | .inl b => ∃ E', WL W tk nf cnt at9 nodes kn st E (some b) E'
  | .inr (a2, n2, E2) => a2 ≤ cnt ∧ n2 ≤ 40 ∧ ∀ st' E', clo W a2 1 st E2 = (st', E') → (st' = [] → WL W tk nf cnt at9 nodes kn st E (if a2 = cnt then none else some a2) E') ∧ (st' ≠ [] → ∀ r E'', WL W tk nf cnt a2 n2 (kbN W st') st' E' r E'' → WL W tk nf cnt at9 nodes kn st E r E'')
theorem wl_prs : ∀ (fu kn at9 nodes : Nat) (st : Stk) (E : Nat → Nat), fu + st.length = 16 → at9 ≤ cnt → nodes ≤ 40 → wlX W tk nf cnt kn at9 nodes st E (prs W tk nf cnt fu kn at9 nodes E)
  | 0, kn, at9, nodes, st, E, hl, ha, hn => ⟨E, WL_stop ha (Or.inr (Or.inr (by omega)))⟩
  | fu + 1, kn, at9, nodes, st, E, hl, ha, hn => by
    rw [prs]
    by_cases q0 : at9 = cnt ∨ nodes = 40
    · rw [if_pos q0]
      exact ⟨E, WL_stop ha (by rcases q0 with q | q; exact Or.inl q; exact Or.inr (Or.inl q))⟩
    rw [if_neg q0]
    have ha2 : at9 < cnt := by omega
    have hn2 : nodes < 40 := by omega
    cases hw : wh W tk nf cnt at9 kn with
    | some b => exact ⟨E, WL_head ha2 hn2 (by omega) hw⟩
    | none =>
      have hh := wh_hd hw ha2
      show wlX W tk nf cnt kn at9 nodes st E (if W at9 = 0 ∨ W at9 = 1 ∨ W at9 = 5 then _ else _)
      by_cases w0 : W at9 = 0 ∨ W at9 = 1 ∨ W at9 = 5
      · rw [if_pos w0]
        have hp : ptN (W at9) = 0 := by
          rcases w0 with w | w | w
          · exact ptN_of.1 w
          · exact ptN_of.2.1 w
          · exact ptN_of.2.2.1 w
        refine ⟨hh, by omega, fun st' E' hc => ?_⟩
        have hc2 : clo W (at9 + hdN W tk at9) 0 ((at9, 0, kn) :: st) E = (st', E') := by
          rw [clo, if_pos (by rw [hp])]; exact hc
        refine ⟨fun q => ?_, fun q r E'' hr => WL_go ha2 hn2 (by omega) hw hc2 q hr⟩
        subst q
        exact WL_fin ha2 hn2 (by omega) hw hc2
      rw [if_neg w0]
      have hkind : ptN (W at9) ≠ 0 := by
        by_cases w2 : W at9 = 2
        · rw [ptN_of.2.2.2.1 w2]; decide
        · by_cases w4 : W at9 = 4
          · rw [ptN_of.2.2.2.2.1 w4]; decide
          · rcases wh_kind hw (fun x => w0 (Or.inl x)) (fun x => w0 (Or.inr (Or.inl x))) (fun x => w0 (Or.inr (Or.inr x))) w2 w4 with w | w
            · rw [ptN_of.2.2.2.2.2.1 w]; decide
            · rw [ptN_of.2.2.2.2.2.2 w]; decide
      have hc1 : clo W (at9 + hdN W tk at9) 0 ((at9, 0, kn) :: st) E = ((at9, 0, kn) :: st, E) := by
        rw [clo, if_neg (fun x => hkind x.symm)]
      have hk0 : kbN W ((at9, 0, kn) :: st) = kn := by
        show kn + (if (W at9 = 3 ∨ W at9 = 6) ∧ 0 = 1 then 1 else 0) = kn
        rw [if_neg (fun x => by omega)]; rfl
      have hgo : ∀ r E'', WL W tk nf cnt (at9 + hdN W tk at9) (nodes + 1) kn ((at9, 0, kn) :: st) E r E'' → WL W tk nf cnt at9 nodes kn st E r E'' := by
        intro r E'' hr
        exact WL_go ha2 hn2 (by omega) hw hc1 (by simp) (by rw [hk0]; exact hr)
      have ih1 := wl_prs fu kn (at9 + hdN W tk at9) (nodes + 1) ((at9, 0, kn) :: st) E (by simp only [List.length_cons]; omega) hh (by omega)
      cases hp1 : prs W tk nf cnt fu kn (at9 + hdN W tk at9) (nodes + 1) E with
      | inl b =>
        rw [hp1] at ih1
        obtain ⟨E', h⟩ := ih1
        exact ⟨E', hgo _ _ h⟩
      | inr x =>
        obtain ⟨a2, n2, E2⟩ := x
        rw [hp1] at ih1
        obtain ⟨i1, i2, i3⟩ := ih1
        show wlX W tk nf cnt kn at9 nodes st E (if W at9 = 2 ∨ W at9 = 4 then _ else _)
        by_cases w2 : W at9 = 2 ∨ W at9 = 4
        · rw [if_pos w2]
          have hp : ptN (W at9) = 1 := by
            rcases w2 with w | w
            · exact ptN_of.2.2.2.1 w
            · exact ptN_of.2.2.2.2.1 w
          refine ⟨i1, i2, fun st' E' hc => ?_⟩
          have hc2 : clo W a2 1 ((at9, 0, kn) :: st) E2 = (st', E') := by
            rw [clo, if_pos (by rw [hp])]; exact hc
          have i4 := i3 st' E' hc2
          exact ⟨fun q => hgo _ _ (i4.1 q), fun q r E'' hr => hgo _ _ (i4.2 q r E'' hr)⟩
        rw [if_neg w2]
        have hk := wh_kind hw (fun x => w0 (Or.inl x)) (fun x => w0 (Or.inr (Or.inl x))) (fun x => w0 (Or.inr (Or.inr x))) (fun x => w2 (Or.inl x)) (fun x => w2 (Or.inr x))
        have hp2 : ptN (W at9) = 2 := by
          rcases hk with w | w
          · exact ptN_of.2.2.2.2.2.1 w
          · exact ptN_of.2.2.2.2.2.2 w
        have hc3 : clo W a2 1 ((at9, 0, kn) :: st) E2 = ((at9, 1, kn) :: st, E2) := by
          rw [clo, if_neg (by rw [hp2]; decide)]
        have hk1 : kbN W ((at9, 1, kn) :: st) = kn + 1 := by
          show kn + (if (W at9 = 3 ∨ W at9 = 6) ∧ 1 = 1 then 1 else 0) = kn + 1
          rw [if_pos ⟨hk, rfl⟩]
        have hgo2 : ∀ r E'', WL W tk nf cnt a2 n2 (kn + 1) ((at9, 1, kn) :: st) E2 r E'' → WL W tk nf cnt at9 nodes kn st E r E'' := by
          intro r E'' hr
          exact hgo _ _ ((i3 _ _ hc3).2 (by simp) r E'' (by rw [hk1]; exact hr))
        have ih2 := wl_prs fu (kn + 1) a2 n2 ((at9, 1, kn) :: st) E2 (by simp only [List.length_cons]; omega) i1 i2
        cases hp3 : prs W tk nf cnt fu (kn + 1) a2 n2 E2 with
        | inl b =>
          rw [hp3] at ih2
          obtain ⟨E', h⟩ := ih2
          exact ⟨E', hgo2 _ _ h⟩
        | inr y =>
          obtain ⟨a3, n3, E3⟩ := y
          rw [hp3] at ih2
          obtain ⟨j1, j2, j3⟩ := ih2
          refine ⟨j1, j2, fun st' E' hc => ?_⟩
          have hc2 : clo W a3 1 ((at9, 1, kn) :: st) E3 = (st', E') := by
            rw [clo, if_pos (by rw [hp2])]; exact hc
          have i4 := j3 st' E' hc2
          exact ⟨fun q => hgo2 _ _ (i4.1 q), fun q r E'' hr => hgo2 _ _ (i4.2 q r E'' hr)⟩
end PRS
end
section
theorem nn_of {x : Int32} (h : ¬ x < 0) : nI x.toNatClampNeg = x := by
  apply Int32.toInt_inj.mp
  rw [Int32.lt_iff_toInt_lt, show (0 : Int32).toInt = 0 by decide] at h
  have h1 := x.toInt_lt
  have h2 : x.toNatClampNeg = x.toInt.toNat := rfl
  show (Int32.ofNat x.toNatClampNeg).toInt = x.toInt
  rw [Int32.toInt_ofNat_of_lt (by omega)]
  omega
theorem nn_lt {x : Int32} {n : Nat} (h : ¬ x < 0) (hn : n < 2147483648) (h2 : x < nI n) : x.toNatClampNeg < n := by
  rw [Int32.lt_iff_toInt_lt, show (0 : Int32).toInt = 0 by decide] at h
  rw [Int32.lt_iff_toInt_lt] at h2
  have h3 : (nI n).toInt = n := Int32.toInt_ofNat_of_lt (by omega)
  rw [h3] at h2
  have h4 : x.toNatClampNeg = x.toInt.toNat := rfl
  omega
theorem nn_le {x : Int32} (h : ¬ x < 0) (h2 : ¬ 1000 < x) : x.toNatClampNeg ≤ 1000 := by
  rw [Int32.lt_iff_toInt_lt, show (0 : Int32).toInt = 0 by decide] at h
  rw [Int32.lt_iff_toInt_lt, show (1000 : Int32).toInt = 1000 by decide] at h2
  have h4 : x.toNatClampNeg = x.toInt.toNat := rfl
  omega
section ENC
variable {W : Nat → Int32} {tk : Nat → Nat} {nf cnt : Nat}
theorem wf_lt {E : Nat → Nat} : ∀ (fu kn p q : Nat), wf W tk nf E fu kn p q → p < q
  | 0, _, _, _, h => h.elim
  | fu + 1, kn, p, q, h => by
    obtain ⟨-, h⟩ := h
    rcases h with h | h | h | h | h | h | h
    · omega
    · omega
    · have := wf_lt fu _ _ _ h.2; omega
    · obtain ⟨-, -, m, h1, h2⟩ := h
      have := wf_lt fu _ _ _ h1
      have := wf_lt fu _ _ _ h2
      omega
    · have := wf_lt fu _ _ _ h.2.2; omega
    · obtain ⟨-, g, -, -, h, -⟩ := h
      omega
    · obtain ⟨-, m, h1, h2⟩ := h
      have := wf_lt fu _ _ _ h1
      have := wf_lt fu _ _ _ h2
      omega
theorem wf_end {E : Nat → Nat} : ∀ {fu kn p q : Nat}, wf W tk nf E fu kn p q → E p = q
  | 0, _, _, _, h => h.elim
  | _ + 1, _, _, _, h => h.1
theorem wf_congr {E E' : Nat → Nat} : ∀ (fu kn p q : Nat), (∀ i, p ≤ i → i < q → E' i = E i) → wf W tk nf E fu kn p q → wf W tk nf E' fu kn p q ∧ nd W E' fu p = nd W E fu p
  | 0, _, _, _, _, h => h.elim
  | fu + 1, kn, p, q, hE, h => by
    have hl := wf_lt (fu + 1) kn p q h
    obtain ⟨h0, h⟩ := h
    have e0 : E' p = q := by rw [hE p (Nat.le_refl _) hl]; exact h0
    rcases h with h | h | h | h | h | h | h
    · refine ⟨⟨e0, Or.inl h⟩, ?_⟩
      rw [nd, nd, if_neg (by rw [h.1]; decide), if_neg (by rw [h.1]; decide), if_neg (by rw [h.1]; decide), if_neg (by rw [h.1]; decide), if_neg (by rw [h.1]; decide), if_neg (by rw [h.1]; decide), if_neg (by rw [h.1]; decide), if_neg (by rw [h.1]; decide)]
    · refine ⟨⟨e0, Or.inr (Or.inl h)⟩, ?_⟩
      rw [nd, nd, if_neg (by rw [h.1]; decide), if_neg (by rw [h.1]; decide), if_neg (by rw [h.1]; decide), if_neg (by rw [h.1]; decide), if_neg (by rw [h.1]; decide), if_neg (by rw [h.1]; decide), if_neg (by rw [h.1]; decide), if_neg (by rw [h.1]; decide)]
    · have i1 := wf_congr fu kn (p + 1) q (fun i a b => hE i (by omega) b) h.2
      refine ⟨⟨e0, Or.inr (Or.inr (Or.inl ⟨h.1, i1.1⟩))⟩, ?_⟩
      rw [nd, nd, if_pos h.1, if_pos h.1, i1.2]
    · obtain ⟨a1, a2, m, h1, h2⟩ := h
      have l1 := wf_lt _ _ _ _ h1
      have l2 := wf_lt _ _ _ _ h2
      have i1 := wf_congr fu kn (p + 2) m (fun i a b => hE i (by omega) (by omega)) h1
      have i2 := wf_congr fu (kn + 1) m q (fun i a b => hE i (by omega) b) h2
      refine ⟨⟨e0, Or.inr (Or.inr (Or.inr (Or.inl ⟨a1, a2, m, i1.1, i2.1⟩)))⟩, ?_⟩
      have e1 : E (p + 2) = m := wf_end h1
      have e2 : E' (p + 2) = m := wf_end i1.1
      rw [nd, nd, if_neg (by rw [a1]; decide), if_neg (by rw [a1]; decide), if_pos a1, if_neg (by rw [a1]; decide), if_neg (by rw [a1]; decide), if_pos a1, e1, e2, i1.2, i2.2]
    · have i1 := wf_congr fu kn (p + 2) q (fun i a b => hE i (by omega) b) h.2.2
      refine ⟨⟨e0, Or.inr (Or.inr (Or.inr (Or.inr (Or.inl ⟨h.1, h.2.1, i1.1⟩))))⟩, ?_⟩
      rw [nd, nd, if_neg (by rw [h.1]; decide), if_pos h.1, if_neg (by rw [h.1]; decide), if_pos h.1, i1.2]
    · refine ⟨⟨e0, Or.inr (Or.inr (Or.inr (Or.inr (Or.inr (Or.inl h)))))⟩, ?_⟩
      rw [nd, nd, if_neg (by rw [h.1]; decide), if_neg (by rw [h.1]; decide), if_neg (by rw [h.1]; decide), if_neg (by rw [h.1]; decide), if_neg (by rw [h.1]; decide), if_neg (by rw [h.1]; decide), if_neg (by rw [h.1]; decide), if_neg (by rw [h.1]; decide)]
    · obtain ⟨a1, m, h1, h2⟩ := h
      have l1 := wf_lt _ _ _ _ h1
      have l2 := wf_lt _ _ _ _ h2
      have i1 := wf_congr fu kn (p + 1) m (fun i a b => hE i (by omega) (by omega)) h1
      have i2 := wf_congr fu (kn + 1) m q (fun i a b => hE i (by omega) b) h2
      refine ⟨⟨e0, Or.inr (Or.inr (Or.inr (Or.inr (Or.inr (Or.inr ⟨a1, m, i1.1, i2.1⟩)))))⟩, ?_⟩
      have e1 : E (p + 1) = m := wf_end h1
      have e2 : E' (p + 1) = m := wf_end i1.1
      rw [nd, nd, if_neg (by rw [a1]; decide), if_neg (by rw [a1]; decide), if_neg (by rw [a1]; decide), if_pos a1, if_neg (by rw [a1]; decide), if_neg (by rw [a1]; decide), if_neg (by rw [a1]; decide), if_pos a1, e1, e2, i1.2, i2.2]
/-- what is read is one expression -/
theorem prs_wf (hnf : nf ≤ 4) : ∀ (fu kn at9 nodes : Nat) (E : Nat → Nat) (a2 n2 : Nat) (E2 : Nat → Nat), prs W tk nf cnt fu kn at9 nodes E = .inr (a2, n2, E2) → at9 ≤ cnt → nodes ≤ 40 → kn + fu ≤ 1000 →
    wf W tk nf E2 fu kn at9 a2 ∧ (∀ i, i < at9 ∨ a2 ≤ i → E2 i = E i) ∧ n2 = nodes + nd W E2 fu at9 ∧ at9 < a2 ∧ a2 ≤ cnt ∧ n2 ≤ 40
  | 0, kn, at9, nodes, E, a2, n2, E2, h, ha, hn, hk => by simp [prs] at h
  | fu + 1, kn, at9, nodes, E, a2, n2, E2, h, ha, hn, hk => by
    rw [prs] at h
    by_cases q0 : at9 = cnt ∨ nodes = 40
    · rw [if_pos q0] at h; exact absurd h (by simp)
    rw [if_neg q0] at h
    have ha2 : at9 < cnt := by omega
    have hn2 : nodes < 40 := by omega
    cases hw : wh W tk nf cnt at9 kn with
    | some b => rw [hw] at h; exact absurd h (by simp)
    | none =>
      rw [hw] at h
      have hh := wh_hd hw ha2
      have hh1 : 1 ≤ hdN W tk at9 := by unfold hdN; split; omega; split <;> omega
      have hno := wh_none hw
      have up1 : ∀ (i : Nat) (X : Nat → Nat) (v : Nat), i < at9 ∨ at9 < i → va_up X at9 v i = X i := fun i X v hi => va_up_ne _ _ (by omega)
      have h : (if W at9 = 0 ∨ W at9 = 1 ∨ W at9 = 5 then Sum.inr (at9 + hdN W tk at9, nodes + 1, va_up E at9 (at9 + hdN W tk at9))
        else match prs W tk nf cnt fu kn (at9 + hdN W tk at9) (nodes + 1) E with
        | .inl b => .inl b
        | .inr (a2, n2, E2) =>
          if W at9 = 2 ∨ W at9 = 4 then .inr (a2, n2, va_up E2 at9 a2)
          else match prs W tk nf cnt fu (kn + 1) a2 n2 E2 with
          | .inl b => .inl b
          | .inr (a3, n3, E3) => .inr (a3, n3, va_up E3 at9 a3) : PR) = .inr (a2, n2, E2) := h
      by_cases w0 : W at9 = 0 ∨ W at9 = 1 ∨ W at9 = 5
      · rw [if_pos w0] at h
        injection h with h
        injection h with g1 h
        injection h with g2 g3
        subst g1; subst g2; subst g3
        have hnd : nd W (va_up E at9 (at9 + hdN W tk at9)) (fu + 1) at9 = 1 := by
          rw [nd]
          rcases w0 with w | w | w <;> rw [if_neg (by rw [w]; decide), if_neg (by rw [w]; decide), if_neg (by rw [w]; decide), if_neg (by rw [w]; decide)]
        refine ⟨⟨va_up_self _ _ _, ?_⟩, fun i hi => up1 i _ _ (by omega), by rw [hnd], by omega, hh, by omega⟩
        rcases w0 with w | w | w
        · exact Or.inl ⟨w, by unfold hdN; rw [if_pos (Or.inl w)]⟩
        · have hd : hdN W tk at9 = 2 := by unfold hdN; rw [if_neg (by rw [w]; decide), if_neg (by rw [w]; decide)]
          rcases hno with q | ⟨-, q | q | q⟩
          · rw [w] at q; exact absurd q (by decide)
          · rw [w] at q; exact absurd q.1 (by decide)
          · exact Or.inr (Or.inl ⟨w, ⟨_, (nn_of q.2.1).symm, nn_lt q.2.1 (by omega) q.2.2⟩, by rw [hd]⟩)
          · rw [w] at q; exact absurd q.1 (by decide)
        · have hd : hdN W tk at9 = 2 + tk (W (at9 + 1)).toNatClampNeg := by unfold hdN; rw [if_neg (by rw [w]; decide), if_pos w]
          rcases hno with q | ⟨-, q | q | q⟩
          · rw [w] at q; exact absurd q (by decide)
          · rw [w] at q; exact absurd q.1 (by decide)
          · rw [w] at q; exact absurd q.1 (by decide)
          · have nz : ¬ W (at9 + 1) < 0 := Int32.not_lt.mpr q.2.1
            refine Or.inr (Or.inr (Or.inr (Or.inr (Or.inr (Or.inl ⟨w, _, (nn_of nz).symm, nn_lt nz (by omega) q.2.2.1, by rw [hd, Nat.add_assoc], fun k hk9 => ?_⟩)))))
            have := whV_none q.2.2.2 k hk9
            exact ⟨_, (nn_of this.2.1).symm, nn_lt this.2.1 (by omega) this.2.2⟩
      rw [if_neg w0] at h
      cases hp1 : prs W tk nf cnt fu kn (at9 + hdN W tk at9) (nodes + 1) E with
      | inl b => rw [hp1] at h; exact absurd h (by simp)
      | inr x =>
        obtain ⟨b2, m2, X2⟩ := x
        rw [hp1] at h
        obtain ⟨i1, i2, i3, i5, i6, i7⟩ := prs_wf hnf fu kn _ _ E b2 m2 X2 hp1 hh (by omega) (by omega)
        have h : (if W at9 = 2 ∨ W at9 = 4 then .inr (b2, m2, va_up X2 at9 b2)
          else match prs W tk nf cnt fu (kn + 1) b2 m2 X2 with
          | .inl b => .inl b
          | .inr (a3, n3, E3) => .inr (a3, n3, va_up E3 at9 a3) : PR) = .inr (a2, n2, E2) := h
        by_cases w2 : W at9 = 2 ∨ W at9 = 4
        · rw [if_pos w2] at h
          injection h with h
          injection h with g1 h
          injection h with g2 g3
          subst g1; subst g2; subst g3
          have k9 := wf_congr (E := X2) (E' := va_up X2 at9 b2) fu kn (at9 + hdN W tk at9) b2 (fun i a b => up1 i _ _ (by omega)) i1
          rcases w2 with w | w
          · have hd : hdN W tk at9 = 1 := by unfold hdN; rw [if_pos (Or.inr (Or.inl w))]
            rw [hd] at k9 i3
            exact ⟨⟨va_up_self _ _ _, Or.inr (Or.inr (Or.inl ⟨w, k9.1⟩))⟩, fun i hi => by rw [up1 i _ _ (by omega)]; exact i2 i (by omega), by rw [nd, if_pos w, k9.2]; omega, by omega, i6, i7⟩
          · have hd : hdN W tk at9 = 2 := by unfold hdN; rw [if_neg (by rw [w]; decide), if_neg (by rw [w]; decide)]
            rw [hd] at k9 i3
            rcases hno with q | ⟨-, q | q | q⟩
            · rw [w] at q; exact absurd q (by decide)
            · exact ⟨⟨va_up_self _ _ _, Or.inr (Or.inr (Or.inr (Or.inr (Or.inl ⟨w, ⟨_, (nn_of q.2.1).symm, nn_le q.2.1 q.2.2⟩, k9.1⟩))))⟩, fun i hi => by rw [up1 i _ _ (by omega)]; exact i2 i (by omega), by rw [nd, if_neg (by rw [w]; decide), if_pos w, k9.2]; omega, by omega, i6, i7⟩
            · rw [w] at q; exact absurd q.1 (by decide)
            · rw [w] at q; exact absurd q.1 (by decide)
        rw [if_neg w2] at h
        have hk9 := wh_kind hw (fun x => w0 (Or.inl x)) (fun x => w0 (Or.inr (Or.inl x))) (fun x => w0 (Or.inr (Or.inr x))) (fun x => w2 (Or.inl x)) (fun x => w2 (Or.inr x))
        cases hp2 : prs W tk nf cnt fu (kn + 1) b2 m2 X2 with
        | inl b => rw [hp2] at h; exact absurd h (by simp)
        | inr y =>
          obtain ⟨b3, m3, X3⟩ := y
          rw [hp2] at h
          obtain ⟨j1, j2, j3, j5, j6, j7⟩ := prs_wf hnf fu (kn + 1) _ _ X2 b3 m3 X3 hp2 i6 i7 (by omega)
          have h : (.inr (b3, m3, va_up X3 at9 b3) : PR) = .inr (a2, n2, E2) := h
          injection h with h
          injection h with g1 h
          injection h with g2 g3
          subst g1; subst g2; subst g3
          have c1 := wf_congr (E := X2) (E' := va_up X3 at9 b3) fu kn (at9 + hdN W tk at9) b2 (fun i a b => by rw [up1 i _ _ (by omega)]; exact j2 i (Or.inl b)) i1
          have c2 := wf_congr (E := X3) (E' := va_up X3 at9 b3) fu (kn + 1) b2 b3 (fun i a b => up1 i _ _ (by omega)) j1
          have c3 : ∀ i, i < at9 ∨ b3 ≤ i → va_up X3 at9 b3 i = E i := fun i hi => by rw [up1 i _ _ (by omega), j2 i (by omega)]; exact i2 i (by omega)
          have c5 := wf_end c1.1
          rcases hk9 with w | w
          · have hd : hdN W tk at9 = 2 := by unfold hdN; rw [if_neg (by rw [w]; decide), if_neg (by rw [w]; decide)]
            rw [hd] at c1 i3 c5
            rcases hno with q | ⟨-, q | q | q⟩
            · rw [w] at q; exact absurd q (by decide)
            · rw [w] at q; exact absurd q.1 (by decide)
            · exact ⟨⟨va_up_self _ _ _, Or.inr (Or.inr (Or.inr (Or.inl ⟨w, ⟨_, (nn_of q.2.1).symm, nn_lt q.2.1 (by omega) q.2.2⟩, b2, c1.1, c2.1⟩)))⟩, c3, by rw [nd, if_neg (by rw [w]; decide), if_neg (by rw [w]; decide), if_pos w, c5, c1.2, c2.2]; omega, by omega, j6, j7⟩
            · rw [w] at q; exact absurd q.1 (by decide)
          · have hd : hdN W tk at9 = 1 := by unfold hdN; rw [if_pos (Or.inr (Or.inr w))]
            rw [hd] at c1 i3 c5
            exact ⟨⟨va_up_self _ _ _, Or.inr (Or.inr (Or.inr (Or.inr (Or.inr (Or.inr ⟨w, b2, c1.1, c2.1⟩)))))⟩, c3, by rw [nd, if_neg (by rw [w]; decide), if_neg (by rw [w]; decide), if_neg (by rw [w]; decide), if_pos w, c5, c1.2, c2.2]; omega, by omega, j6, j7⟩
end ENC
end
section
/-! the nodes of a body in a row; which variables are named -/
section ROW
variable {W : Nat → Int32} {tk : Nat → Nat} {nf : Nat} {E : Nat → Nat}
/-- a node begins at p -/
def hdO (W : Nat → Int32) (nf p : Nat) : Prop := (W p = 0 ∨ W p = 1 ∨ W p = 2 ∨ W p = 3 ∨ W p = 4 ∨ W p = 5 ∨ W p = 6) ∧ (W p = 5 → ∃ g, W (p + 1) = nI g ∧ g < nf)
/-- n nodes in a row from p to q -/
def HDn (W : Nat → Int32) (tk : Nat → Nat) (nf : Nat) : Nat → Nat → Nat → Prop
  | 0, p, q => p = q
  | n + 1, p, q => hdO W nf p ∧ HDn W tk nf n (p + hdN W tk p) q
theorem HDn_add : ∀ {a b p m q : Nat}, HDn W tk nf a p m → HDn W tk nf b m q → HDn W tk nf (a + b) p q
  | 0, b, p, m, q, h1, h2 => by
    have h1 : p = m := h1
    rw [Nat.zero_add, h1]; exact h2
  | a + 1, b, p, m, q, h1, h2 => by
    rw [show a + 1 + b = a + b + 1 by omega]
    exact ⟨h1.1, HDn_add h1.2 h2⟩
theorem wf_HD (hnf : nf ≤ 4) : ∀ (fu kn p q : Nat), wf W tk nf E fu kn p q → HDn W tk nf (nd W E fu p) p q
  | 0, _, _, _, h => h.elim
  | fu + 1, kn, p, q, h => by
    obtain ⟨-, h⟩ := h
    rcases h with h | h | h | h | h | h | h
    · have e : nd W E (fu + 1) p = 0 + 1 := by rw [nd, if_neg (by rw [h.1]; decide), if_neg (by rw [h.1]; decide), if_neg (by rw [h.1]; decide), if_neg (by rw [h.1]; decide)]
      have hd : hdN W tk p = 1 := by unfold hdN; rw [if_pos (Or.inl h.1)]
      rw [e]
      refine ⟨⟨Or.inl h.1, fun w => by rw [h.1] at w; exact absurd w (by decide)⟩, ?_⟩
      rw [hd]; exact h.2.symm
    · have e : nd W E (fu + 1) p = 0 + 1 := by rw [nd, if_neg (by rw [h.1]; decide), if_neg (by rw [h.1]; decide), if_neg (by rw [h.1]; decide), if_neg (by rw [h.1]; decide)]
      have hd : hdN W tk p = 2 := by unfold hdN; rw [if_neg (by rw [h.1]; decide), if_neg (by rw [h.1]; decide)]
      rw [e]
      refine ⟨⟨Or.inr (Or.inl h.1), fun w => by rw [h.1] at w; exact absurd w (by decide)⟩, ?_⟩
      rw [hd]; exact h.2.2.symm
    · have hd : hdN W tk p = 1 := by unfold hdN; rw [if_pos (Or.inr (Or.inl h.1))]
      rw [nd, if_pos h.1]
      refine ⟨⟨Or.inr (Or.inr (Or.inl h.1)), fun w => by rw [h.1] at w; exact absurd w (by decide)⟩, ?_⟩
      rw [hd]; exact wf_HD hnf fu kn _ _ h.2
    · obtain ⟨a, -, m, h1, h2⟩ := h
      have hd : hdN W tk p = 2 := by unfold hdN; rw [if_neg (by rw [a]; decide), if_neg (by rw [a]; decide)]
      rw [nd, if_neg (by rw [a]; decide), if_neg (by rw [a]; decide), if_pos a]
      refine ⟨⟨Or.inr (Or.inr (Or.inr (Or.inl a))), fun w => by rw [a] at w; exact absurd w (by decide)⟩, ?_⟩
      rw [hd, wf_end h1]; exact HDn_add (wf_HD hnf fu kn _ _ h1) (wf_HD hnf fu (kn + 1) _ _ h2)
    · have hd : hdN W tk p = 2 := by unfold hdN; rw [if_neg (by rw [h.1]; decide), if_neg (by rw [h.1]; decide)]
      rw [nd, if_neg (by rw [h.1]; decide), if_pos h.1]
      refine ⟨⟨Or.inr (Or.inr (Or.inr (Or.inr (Or.inl h.1)))), fun w => by rw [h.1] at w; exact absurd w (by decide)⟩, ?_⟩
      rw [hd]; exact wf_HD hnf fu kn _ _ h.2.2
    · obtain ⟨a, g, b1, b2, b3, -⟩ := h
      have e : nd W E (fu + 1) p = 0 + 1 := by rw [nd, if_neg (by rw [a]; decide), if_neg (by rw [a]; decide), if_neg (by rw [a]; decide), if_neg (by rw [a]; decide)]
      have hd : hdN W tk p = 2 + tk g := by unfold hdN; rw [if_neg (by rw [a]; decide), if_pos a, b1, show (nI g).toNatClampNeg = g from nI_clamp (by omega)]
      rw [e]
      refine ⟨⟨Or.inr (Or.inr (Or.inr (Or.inr (Or.inr (Or.inl a))))), fun _ => ⟨g, b1, b2⟩⟩, ?_⟩
      rw [hd, ← Nat.add_assoc]; exact b3.symm
    · obtain ⟨a, m, h1, h2⟩ := h
      have hd : hdN W tk p = 1 := by unfold hdN; rw [if_pos (Or.inr (Or.inr a))]
      rw [nd, if_neg (by rw [a]; decide), if_neg (by rw [a]; decide), if_neg (by rw [a]; decide), if_pos a]
      refine ⟨⟨Or.inr (Or.inr (Or.inr (Or.inr (Or.inr (Or.inr a))))), fun w => by rw [a] at w; exact absurd w (by decide)⟩, ?_⟩
      rw [hd, wf_end h1]; exact HDn_add (wf_HD hnf fu kn _ _ h1) (wf_HD hnf fu (kn + 1) _ _ h2)
theorem hdN_pos (p : Nat) : 1 ≤ hdN W tk p := by
  unfold hdN
  split
  · omega
  · split <;> omega
theorem HDn_le : ∀ {n p q : Nat}, HDn W tk nf n p q → p + n ≤ q
  | 0, p, q, h => by have h : p = q := h; omega
  | n + 1, p, q, h => by
    have := HDn_le h.2
    have := hdN_pos (W := W) (tk := tk) p
    omega
/-- whether a node names the variable v itself, and whether one of n nodes in a row does -/
def nmV (W : Nat → Int32) (v : Int32) (p : Nat) : Nat → Bool
  | 0 => false
  | k + 1 => nmV W v p k || decide (W (p + 2 + k) = v)
def nm1 (W : Nat → Int32) (tk : Nat → Nat) (v : Int32) (p : Nat) : Bool := if W p = 1 ∨ W p = 3 then decide (W (p + 1) = v) else if W p = 5 then nmV W v p (tk (W (p + 1)).toNatClampNeg) else false
def nmN (W : Nat → Int32) (tk : Nat → Nat) (v : Int32) : Nat → Nat → Bool
  | 0, _ => false
  | n + 1, p => nm1 W tk v p || nmN W tk v n (p + hdN W tk p)
end ROW
end
section
/-! how large lines of factors are -/
def l1 (x : Int64) : Nat := x.toInt.natAbs
theorem l1_0 : l1 0 = 0 := by decide
theorem l1_1 : l1 1 = 1 := by decide
theorem bm_le (z : Int) : (z.bmod 18446744073709551616).natAbs ≤ z.natAbs := by
  rw [Int.bmod_def]
  split <;> omega
theorem l1_add (x y : Int64) : l1 (x + y) ≤ l1 x + l1 y := by
  unfold l1
  rw [Int64.toInt_add]
  have := bm_le (x.toInt + y.toInt)
  have e : (2 : Nat) ^ 64 = 18446744073709551616 := by decide
  rw [e]
  omega
theorem l1_sub (x y : Int64) : l1 (x - y) ≤ l1 x + l1 y := by
  unfold l1
  rw [Int64.toInt_sub]
  have := bm_le (x.toInt - y.toInt)
  have e : (2 : Nat) ^ 64 = 18446744073709551616 := by decide
  rw [e]
  omega
def ns : Nat → (Nat → Nat) → Nat
  | 0, _ => 0
  | n + 1, f => ns n f + f n
theorem ns_s (n : Nat) (f : Nat → Nat) : ns (n + 1) f = ns n f + f n := rfl
theorem ns_congr {f g : Nat → Nat} : ∀ {n : Nat}, (∀ i, i < n → f i = g i) → ns n f = ns n g
  | 0, _ => rfl
  | n + 1, h => by rw [ns_s, ns_s, ns_congr (fun i hi => h i (by omega)), h n (by omega)]
theorem ns_le {f g : Nat → Nat} : ∀ {n : Nat}, (∀ i, i < n → f i ≤ g i) → ns n f ≤ ns n g
  | 0, _ => Nat.le_refl _
  | n + 1, h => by
    rw [ns_s, ns_s]
    have := ns_le (n := n) (fun i hi => h i (by omega))
    have := h n (by omega)
    omega
theorem ns_add (f g : Nat → Nat) : ∀ n, ns n (fun i => f i + g i) = ns n f + ns n g
  | 0 => rfl
  | n + 1 => by rw [ns_s, ns_s, ns_s, ns_add f g n]; omega
theorem ns_0 : ∀ n, ns n (fun _ => 0) = 0
  | 0 => rfl
  | n + 1 => by rw [ns_s, ns_0 n]
theorem ns_mem {f : Nat → Nat} : ∀ {n i : Nat}, i < n → f i ≤ ns n f
  | 0, _, h => absurd h (Nat.not_lt_zero _)
  | n + 1, i, h => by
    rw [ns_s]
    by_cases q : i = n
    · subst q; omega
    · have := ns_mem (f := f) (n := n) (i := i) (by omega); omega
/-- one place grows by d at most -/
theorem ns_one {f g : Nat → Nat} {j d : Nat} : ∀ {n : Nat}, (∀ i, i < n → i ≠ j → f i ≤ g i) → f j ≤ g j + d → ns n f ≤ ns n g + d
  | 0, _, _ => Nat.zero_le _
  | n + 1, h, hj => by
    rw [ns_s, ns_s]
    by_cases q : j = n
    · subst q
      have : ns j f ≤ ns j g := ns_le (fun i hi => h i (by omega) (by omega))
      omega
    · have := ns_one (n := n) (fun i hi hne => h i (by omega) hne) hj
      have := h n (by omega) (fun e => q e.symm)
      omega
theorem ns_up {m n : Nat} (h : m ≤ n) (f : Nat → Nat) : ns m f ≤ ns n f := by
  obtain ⟨d, rfl⟩ : ∃ d, n = m + d := ⟨n - m, by omega⟩
  clear h
  induction d with
  | zero => exact Nat.le_refl _
  | succ d ih => rw [← Nat.add_assoc, ns_s]; omega
/-- line x: 41 factors from x * 41 on -/
def lz (f : Nat → Int64) (x : Nat) : Nat := ns 41 (fun k => l1 (f (x * 41 + k)))
theorem lz_congr {f g : Nat → Int64} {x : Nat} (h : ∀ k, k < 41 → f (x * 41 + k) = g (x * 41 + k)) : lz f x = lz g x := ns_congr (fun k hk => by rw [h k hk])
theorem lz_C {f : Nat → Int64} {x : Nat} : lz (lnC f (x * 41) 41) x = 0 := by
  unfold lz
  rw [ns_congr (g := fun _ => 0) (fun k hk => by show l1 (if _ then 0 else _) = 0; rw [if_pos (by omega)]; exact l1_0), ns_0]
theorem lz_C_ne {f : Nat → Int64} {x y : Nat} (h : y ≠ x) : lz (lnC f (x * 41) 41) y = lz f y := lz_congr (fun k hk => if_neg (by omega))
theorem lz_P {f : Nat → Int64} {x y : Nat} : lz (lnP f (y * 41) (x * 41) 41) x = lz f y := ns_congr (fun k hk => by
  show l1 (if _ then _ else _) = _
  rw [if_pos (by omega), Nat.add_sub_cancel_left])
theorem lz_P_ne {f : Nat → Int64} {x y z : Nat} (h : z ≠ x) : lz (lnP f (y * 41) (x * 41) 41) z = lz f z := lz_congr (fun k hk => if_neg (by omega))
theorem lz_A {f : Nat → Int64} {x y : Nat} : lz (lnA f (y * 41) (x * 41) 41) x ≤ lz f x + lz f y := by
  unfold lz
  rw [← ns_add]
  refine ns_le (fun k hk => ?_)
  show l1 (if _ then _ else _) ≤ _
  rw [if_pos (by omega), Nat.add_sub_cancel_left]
  exact l1_add _ _
theorem lz_A_ne {f : Nat → Int64} {x y z : Nat} (h : z ≠ x) : lz (lnA f (y * 41) (x * 41) 41) z = lz f z := lz_congr (fun k hk => if_neg (by omega))
theorem lz_up {f : Nat → Int64} {x j : Nat} {v : Int64} (hj : j < 41) : lz (va_up f (x * 41 + j) v) x ≤ lz f x + l1 v := by
  unfold lz
  refine ns_one (j := j) (fun i hi hne => ?_) ?_
  · rw [va_up_ne _ _ (by omega)]; exact Nat.le_refl _
  · rw [va_up_self]; omega
theorem lz_inc {f : Nat → Int64} {x j d : Nat} {v : Int64} (hv : l1 v ≤ l1 (f (x * 41 + j)) + d) : lz (va_up f (x * 41 + j) v) x ≤ lz f x + d := by
  unfold lz
  refine ns_one (j := j) (fun i hi hne => ?_) ?_
  · rw [va_up_ne _ _ (by omega)]; exact Nat.le_refl _
  · rw [va_up_self]; exact hv
theorem lz_up_ne {f : Nat → Int64} {x y j : Nat} {v : Int64} (hj : j < 41) (h : y ≠ x) : lz (va_up f (x * 41 + j) v) y = lz f y := lz_congr (fun k hk => va_up_ne _ _ (by omega))
/-- less a line of another row of factors -/
def lnT (f g : Nat → Int64) (fr to t : Nat) : Nat → Int64 := fun i => if to ≤ i ∧ i < to + t then f i - g (fr + (i - to)) else f i
theorem lz_T {f g : Nat → Int64} {x y : Nat} : lz (lnT f g (y * 41) (x * 41) 41) x ≤ lz f x + lz g y := by
  unfold lz
  rw [← ns_add]
  refine ns_le (fun k hk => ?_)
  show l1 (if _ then _ else _) ≤ _
  rw [if_pos (by omega), Nat.add_sub_cancel_left]
  exact l1_sub _ _
theorem lz_T_ne {f g : Nat → Int64} {x y z : Nat} (h : z ≠ x) : lz (lnT f g (y * 41) (x * 41) 41) z = lz f z := lz_congr (fun k hk => if_neg (by omega))
theorem lz_dt (f : Nat → Int64) (x : Nat) : dt_nm 41 (fun j => (f (41 * x + j)).toInt) = lz f x := by
  unfold lz
  have : ∀ n, dt_nm n (fun j => (f (41 * x + j)).toInt) = ns n (fun k => l1 (f (x * 41 + k))) := by
    intro n
    induction n with
    | zero => rfl
    | succ n ih => rw [dt_nm_s, ns_s, ih, Nat.mul_comm]; rfl
  exact this 41
/-- all variables' lines of a block -/
def tn (f : Nat → Int64) (b : Nat) : Nat := ns 19 (fun k => lz f (22 * b + k))
end
