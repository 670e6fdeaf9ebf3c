/-- the worst condition of the first k9 -/
def woO (z : Nat → Int) (k9 : Nat) : Option Nat → Prop
  | none => ∀ i, i < k9 → ¬ z (41 * i + 40) < 0
  | some r => r < k9 ∧ z (41 * r + 40) < 0 ∧ ∀ i, i < k9 → z (41 * r + 40) ≤ z (41 * i + 40)
theorem woO_no {z : Nat → Int} {k9 : Nat} {b : Option Nat} (h : woO z k9 b) (hk : ¬ z (41 * k9 + 40) < 0) : woO z (k9 + 1) b := by
  cases b with
  | none =>
    intro i hi
    by_cases q : i = k9
    · subst q; exact hk
    · exact h i (by omega)
  | some r =>
    refine ⟨by have := h.1; omega, h.2.1, fun i hi => ?_⟩
    by_cases q : i = k9
    · subst q; have := h.2.1; omega
    · exact h.2.2 i (by omega)
theorem woO_first {z : Nat → Int} {k9 : Nat} (h : woO z k9 none) (hk : z (41 * k9 + 40) < 0) : woO z (k9 + 1) (some k9) := by
  refine ⟨by omega, hk, fun i hi => ?_⟩
  by_cases q : i = k9
  · subst q; exact Int.le_refl _
  · have := h i (by omega); omega
theorem woO_new {z : Nat → Int} {k9 r : Nat} (h : woO z k9 (some r)) (hk : z (41 * k9 + 40) < 0) (hl : z (41 * k9 + 40) < z (41 * r + 40)) : woO z (k9 + 1) (some k9) := by
  refine ⟨by omega, hk, fun i hi => ?_⟩
  by_cases q : i = k9
  · subst q; exact Int.le_refl _
  · have := h.2.2 i (by omega); omega
theorem woO_old {z : Nat → Int} {k9 r : Nat} (h : woO z k9 (some r)) (hl : ¬ z (41 * k9 + 40) < z (41 * r + 40)) : woO z (k9 + 1) (some r) := by
  refine ⟨by have := h.1; omega, h.2.1, fun i hi => ?_⟩
  by_cases q : i = k9
  · subst q; omega
  · exact h.2.2 i (by omega)
theorem lz_lt {a b : Int64} : a < b ↔ a.toInt < b.toInt := Int64.lt_iff_toInt_lt
theorem lcg_nlt {a b : Int64} (h : 0 ≤ lg_cmp a b) : ¬ a.toInt < b.toInt := fun q => absurd (lz_lt.mpr q) (Int64.not_lt.mpr ((lg_cmp_ge _ _).mp h))
theorem lcg_lt {a b : Int64} (h : ¬ 0 ≤ lg_cmp a b) : a.toInt < b.toInt := lz_lt.mp (Int64.not_le.mp (fun q => h ((lg_cmp_ge _ _).mpr q)))
/-- column 0 is 1 in the first k9 rows -/
def lyE (un rows fst tk k9 : Nat) (sm T : Nat → Int) : Prop := T 3997 = 1 ∧ (∀ i, i < rows → T (42 * i) = (if i < k9 then 1 else 0) ∧ (∀ j, j < un → T (42 * i + (j + 1)) = sm (41 * i + j)) ∧ T (42 * i + 41) = sm (41 * i + 40)) ∧ ∀ q, q < tk + 2 → ∀ j, isC un j → T (42 * (rows + q) + j) = if q = 0 then (if fst + 1 ≤ j ∧ j ≤ fst + tk + 1 ∧ j ≤ un then 1 else 0) else if j = fst + q then 1 else 0
theorem lyE_0 {un rows fst tk : Nat} {sm T : Nat → Int} (h : layO un rows 0 fst tk sm T) : lyE un rows fst tk 0 sm T := ⟨h.1, fun i hi => ⟨by rw [if_neg (Nat.not_lt_zero _)]; exact (h.2.1 i hi).1, (h.2.1 i hi).2⟩, h.2.2⟩
theorem lyE_1 {un rows fst tk : Nat} {sm T : Nat → Int} (h : lyE un rows fst tk rows sm T) : layO un rows 1 fst tk sm T := ⟨h.1, fun i hi => ⟨by have := (h.2.1 i hi).1; rw [if_pos hi] at this; exact this, (h.2.1 i hi).2⟩, h.2.2⟩
theorem lyE_s {un rows fst tk k9 : Nat} {sm T : Nat → Int} (hu : un ≤ 40) (hro : rows ≤ 90) (hk : k9 < rows) (h : lyE un rows fst tk k9 sm T) : lyE un rows fst tk (k9 + 1) sm (va_up T (42 * k9 + 0) 1) := by
  refine ⟨by rw [va_up_ne _ _ (by omega)]; exact h.1, fun i hi => ?_, fun q hq j hj => ?_⟩
  · obtain ⟨a, b, c⟩ := h.2.1 i hi
    refine ⟨?_, fun j hj => by rw [va_up_ne _ _ (by omega)]; exact b j hj, by rw [va_up_ne _ _ (by omega)]; exact c⟩
    by_cases q : i = k9
    · subst q
      rw [show 42 * i = 42 * i + 0 from rfl, va_up_self, if_pos (by omega)]
    · rw [va_up_ne _ _ (by omega), a]
      by_cases w : i < k9
      · rw [if_pos w, if_pos (by omega)]
      · rw [if_neg w, if_neg (by omega)]
  · rw [va_up_ne _ _ (by omega)]
    exact h.2.2 q hq j hj
theorem sxN_1 {f : Nat → Int} (h : sxN 1 f) : f 0 < 0 := by
  obtain ⟨q, a, -, c⟩ := h
  obtain rfl : q = 0 := by omega
  exact c
theorem gone99 : ∀ j, j ≤ 40 → (nI j = (-1 : Int32) ↔ j = 99) := by
  intro j hj
  constructor
  · intro q
    have h1 : (nI j).toNatClampNeg = j := nI_clamp (by omega)
    rw [q] at h1
    have h2 : (-1 : Int32).toNatClampNeg = 0 := by decide
    have h3 : j = 0 := by omega
    subst h3
    exact absurd q (by decide)
  · intro q; omega
theorem gone_s {j sb : Nat} (hj : j ≤ 40) (hs : sb ≤ 40) : nI j = nI sb ↔ j = sb := by
  constructor
  · intro q
    have h1 : (nI j).toNatClampNeg = j := nI_clamp (by omega)
    rw [q, nI_clamp (by omega)] at h1
    exact h1.symm
  · intro q; rw [q]
theorem gone0 {j : Nat} (hj : j ≤ 40) : nI j = (0 : Int32) ↔ j = 0 := gone_s (sb := 0) hj (by omega)
theorem d_Mo_reach_0 : decode c_Mo_reach 0 = .ok (.iconst (-1), 1) := by decide +kernel
theorem d_Mo_reach_1 : decode c_Mo_reach 1 = .ok (.istore_n 1, 1) := by decide +kernel
theorem d_Mo_reach_2 : decode c_Mo_reach 2 = .ok (.iconst 0, 1) := by decide +kernel
theorem d_Mo_reach_3 : decode c_Mo_reach 3 = .ok (.istore_n 2, 1) := by decide +kernel
theorem d_Mo_reach_4 : decode c_Mo_reach 4 = .ok (.iload_n 2, 1) := by decide +kernel
theorem d_Mo_reach_5 : decode c_Mo_reach 5 = .ok (.aload_n 0, 1) := by decide +kernel
theorem d_Mo_reach_6 : decode c_Mo_reach 6 = .ok (.getfield 333, 3) := by decide +kernel
theorem d_Mo_reach_9 : decode c_Mo_reach 9 = .ok (.if_icmp .ge 60, 3) := by decide +kernel
theorem d_Mo_reach_12 : decode c_Mo_reach 12 = .ok (.aload_n 0, 1) := by decide +kernel
theorem d_Mo_reach_13 : decode c_Mo_reach 13 = .ok (.getfield 64, 3) := by decide +kernel
theorem d_Mo_reach_16 : decode c_Mo_reach 16 = .ok (.bipush 41, 2) := by decide +kernel
theorem d_Mo_reach_18 : decode c_Mo_reach 18 = .ok (.iload_n 2, 1) := by decide +kernel
theorem d_Mo_reach_19 : decode c_Mo_reach 19 = .ok (.imul, 1) := by decide +kernel
theorem d_Mo_reach_20 : decode c_Mo_reach 20 = .ok (.bipush 40, 2) := by decide +kernel
theorem d_Mo_reach_22 : decode c_Mo_reach 22 = .ok (.iadd, 1) := by decide +kernel
theorem d_Mo_reach_23 : decode c_Mo_reach 23 = .ok (.laload, 1) := by decide +kernel
theorem d_Mo_reach_24 : decode c_Mo_reach 24 = .ok (.lconst 0, 1) := by decide +kernel
theorem d_Mo_reach_25 : decode c_Mo_reach 25 = .ok (.lcmp, 1) := by decide +kernel
theorem d_Mo_reach_26 : decode c_Mo_reach 26 = .ok (.ifCond .ge 37, 3) := by decide +kernel
theorem d_Mo_reach_29 : decode c_Mo_reach 29 = .ok (.iload_n 1, 1) := by decide +kernel
theorem d_Mo_reach_30 : decode c_Mo_reach 30 = .ok (.ifCond .lt 31, 3) := by decide +kernel
theorem d_Mo_reach_33 : decode c_Mo_reach 33 = .ok (.aload_n 0, 1) := by decide +kernel
theorem d_Mo_reach_34 : decode c_Mo_reach 34 = .ok (.getfield 64, 3) := by decide +kernel
theorem d_Mo_reach_37 : decode c_Mo_reach 37 = .ok (.bipush 41, 2) := by decide +kernel
theorem d_Mo_reach_39 : decode c_Mo_reach 39 = .ok (.iload_n 2, 1) := by decide +kernel
theorem d_Mo_reach_40 : decode c_Mo_reach 40 = .ok (.imul, 1) := by decide +kernel
theorem d_Mo_reach_41 : decode c_Mo_reach 41 = .ok (.bipush 40, 2) := by decide +kernel
theorem d_Mo_reach_43 : decode c_Mo_reach 43 = .ok (.iadd, 1) := by decide +kernel
theorem d_Mo_reach_44 : decode c_Mo_reach 44 = .ok (.laload, 1) := by decide +kernel
theorem d_Mo_reach_45 : decode c_Mo_reach 45 = .ok (.aload_n 0, 1) := by decide +kernel
theorem d_Mo_reach_46 : decode c_Mo_reach 46 = .ok (.getfield 64, 3) := by decide +kernel
theorem d_Mo_reach_49 : decode c_Mo_reach 49 = .ok (.bipush 41, 2) := by decide +kernel
theorem d_Mo_reach_51 : decode c_Mo_reach 51 = .ok (.iload_n 1, 1) := by decide +kernel
theorem d_Mo_reach_52 : decode c_Mo_reach 52 = .ok (.imul, 1) := by decide +kernel
theorem d_Mo_reach_53 : decode c_Mo_reach 53 = .ok (.bipush 40, 2) := by decide +kernel
theorem d_Mo_reach_55 : decode c_Mo_reach 55 = .ok (.iadd, 1) := by decide +kernel
theorem d_Mo_reach_56 : decode c_Mo_reach 56 = .ok (.laload, 1) := by decide +kernel
theorem d_Mo_reach_57 : decode c_Mo_reach 57 = .ok (.lcmp, 1) := by decide +kernel
theorem d_Mo_reach_58 : decode c_Mo_reach 58 = .ok (.ifCond .ge 5, 3) := by decide +kernel
theorem d_Mo_reach_61 : decode c_Mo_reach 61 = .ok (.iload_n 2, 1) := by decide +kernel
theorem d_Mo_reach_62 : decode c_Mo_reach 62 = .ok (.istore_n 1, 1) := by decide +kernel
theorem d_Mo_reach_63 : decode c_Mo_reach 63 = .ok (.iinc 2 1, 3) := by decide +kernel
theorem d_Mo_reach_66 : decode c_Mo_reach 66 = .ok (.goto (-62), 3) := by decide +kernel
theorem d_Mo_reach_69 : decode c_Mo_reach 69 = .ok (.iload_n 1, 1) := by decide +kernel
theorem d_Mo_reach_70 : decode c_Mo_reach 70 = .ok (.ifCond .ge 10, 3) := by decide +kernel
theorem d_Mo_reach_73 : decode c_Mo_reach 73 = .ok (.aload_n 0, 1) := by decide +kernel
theorem d_Mo_reach_74 : decode c_Mo_reach 74 = .ok (.iconst 0, 1) := by decide +kernel
theorem d_Mo_reach_75 : decode c_Mo_reach 75 = .ok (.putfield 364, 3) := by decide +kernel
theorem d_Mo_reach_78 : decode c_Mo_reach 78 = .ok (.iconst 1, 1) := by decide +kernel
theorem d_Mo_reach_79 : decode c_Mo_reach 79 = .ok (.ireturn, 1) := by decide +kernel
theorem d_Mo_reach_80 : decode c_Mo_reach 80 = .ok (.iconst 0, 1) := by decide +kernel
theorem d_Mo_reach_81 : decode c_Mo_reach 81 = .ok (.istore_n 2, 1) := by decide +kernel
theorem d_Mo_reach_82 : decode c_Mo_reach 82 = .ok (.iload_n 2, 1) := by decide +kernel
theorem d_Mo_reach_83 : decode c_Mo_reach 83 = .ok (.aload_n 0, 1) := by decide +kernel
theorem d_Mo_reach_84 : decode c_Mo_reach 84 = .ok (.getfield 333, 3) := by decide +kernel
theorem d_Mo_reach_87 : decode c_Mo_reach 87 = .ok (.if_icmp .ge 19, 3) := by decide +kernel
theorem d_Mo_reach_90 : decode c_Mo_reach 90 = .ok (.aload_n 0, 1) := by decide +kernel
theorem d_Mo_reach_91 : decode c_Mo_reach 91 = .ok (.iload_n 2, 1) := by decide +kernel
theorem d_Mo_reach_92 : decode c_Mo_reach 92 = .ok (.iconst 0, 1) := by decide +kernel
theorem d_Mo_reach_93 : decode c_Mo_reach 93 = .ok (.invokestatic 328, 3) := by decide +kernel
theorem d_Mo_reach_96 : decode c_Mo_reach 96 = .ok (.lconst 1, 1) := by decide +kernel
theorem d_Mo_reach_97 : decode c_Mo_reach 97 = .ok (.invokevirtual 360, 3) := by decide +kernel
theorem d_Mo_reach_100 : decode c_Mo_reach 100 = .ok (.iinc 2 1, 3) := by decide +kernel
theorem d_Mo_reach_103 : decode c_Mo_reach 103 = .ok (.goto (-21), 3) := by decide +kernel
theorem d_Mo_reach_106 : decode c_Mo_reach 106 = .ok (.aload_n 0, 1) := by decide +kernel
theorem d_Mo_reach_107 : decode c_Mo_reach 107 = .ok (.iload_n 1, 1) := by decide +kernel
theorem d_Mo_reach_108 : decode c_Mo_reach 108 = .ok (.iconst 0, 1) := by decide +kernel
theorem d_Mo_reach_109 : decode c_Mo_reach 109 = .ok (.invokevirtual 374, 3) := by decide +kernel
theorem d_Mo_reach_112 : decode c_Mo_reach 112 = .ok (.iload_n 1, 1) := by decide +kernel
theorem d_Mo_reach_113 : decode c_Mo_reach 113 = .ok (.istore_n 2, 1) := by decide +kernel
theorem d_Mo_reach_114 : decode c_Mo_reach 114 = .ok (.iload_n 2, 1) := by decide +kernel
theorem d_Mo_reach_115 : decode c_Mo_reach 115 = .ok (.ifCond .lt 46, 3) := by decide +kernel
theorem d_Mo_reach_118 : decode c_Mo_reach 118 = .ok (.aload_n 0, 1) := by decide +kernel
theorem d_Mo_reach_119 : decode c_Mo_reach 119 = .ok (.iload_n 2, 1) := by decide +kernel
theorem d_Mo_reach_120 : decode c_Mo_reach 120 = .ok (.iconst 1, 1) := by decide +kernel
theorem d_Mo_reach_121 : decode c_Mo_reach 121 = .ok (.invokevirtual 377, 3) := by decide +kernel
theorem d_Mo_reach_124 : decode c_Mo_reach 124 = .ok (.istore_n 3, 1) := by decide +kernel
theorem d_Mo_reach_125 : decode c_Mo_reach 125 = .ok (.iload_n 3, 1) := by decide +kernel
theorem d_Mo_reach_126 : decode c_Mo_reach 126 = .ok (.ifCond .ge 5, 3) := by decide +kernel
theorem d_Mo_reach_129 : decode c_Mo_reach 129 = .ok (.iconst 0, 1) := by decide +kernel
theorem d_Mo_reach_130 : decode c_Mo_reach 130 = .ok (.ireturn, 1) := by decide +kernel
theorem d_Mo_reach_131 : decode c_Mo_reach 131 = .ok (.aload_n 0, 1) := by decide +kernel
theorem d_Mo_reach_132 : decode c_Mo_reach 132 = .ok (.iload_n 3, 1) := by decide +kernel
theorem d_Mo_reach_133 : decode c_Mo_reach 133 = .ok (.invokevirtual 380, 3) := by decide +kernel
theorem d_Mo_reach_136 : decode c_Mo_reach 136 = .ok (.istore 4, 2) := by decide +kernel
theorem d_Mo_reach_138 : decode c_Mo_reach 138 = .ok (.aload_n 0, 1) := by decide +kernel
theorem d_Mo_reach_139 : decode c_Mo_reach 139 = .ok (.iload 4, 2) := by decide +kernel
theorem d_Mo_reach_141 : decode c_Mo_reach 141 = .ok (.iload_n 3, 1) := by decide +kernel
theorem d_Mo_reach_142 : decode c_Mo_reach 142 = .ok (.invokevirtual 374, 3) := by decide +kernel
theorem d_Mo_reach_145 : decode c_Mo_reach 145 = .ok (.iload 4, 2) := by decide +kernel
theorem d_Mo_reach_147 : decode c_Mo_reach 147 = .ok (.iload_n 2, 1) := by decide +kernel
theorem d_Mo_reach_148 : decode c_Mo_reach 148 = .ok (.if_icmp .ne 10, 3) := by decide +kernel
theorem d_Mo_reach_151 : decode c_Mo_reach 151 = .ok (.iconst (-1), 1) := by decide +kernel
theorem d_Mo_reach_152 : decode c_Mo_reach 152 = .ok (.istore_n 2, 1) := by decide +kernel
theorem d_Mo_reach_153 : decode c_Mo_reach 153 = .ok (.aload_n 0, 1) := by decide +kernel
theorem d_Mo_reach_154 : decode c_Mo_reach 154 = .ok (.iload_n 3, 1) := by decide +kernel
theorem d_Mo_reach_155 : decode c_Mo_reach 155 = .ok (.putfield 364, 3) := by decide +kernel
theorem d_Mo_reach_158 : decode c_Mo_reach 158 = .ok (.goto (-44), 3) := by decide +kernel
theorem d_Mo_reach_161 : decode c_Mo_reach 161 = .ok (.iconst 1, 1) := by decide +kernel
theorem d_Mo_reach_162 : decode c_Mo_reach 162 = .ok (.ireturn, 1) := by decide +kernel
set_option maxRecDepth 100000 in
set_option maxHeartbeats 16000000 in
/-- reach() -/
theorem g_Mo_reach (l : Launch) (G : va_G) (k : Nat → ClassId) (h0 : Nat) (s0 : Nat) (un : Nat) (rows : Nat) (fst : Nat) (tk9 : Nat) (ma : Nat → Nat) (iv : Nat → Int32) (co : Int64) (sm : Nat → Int64) (dg : Nat → Nat) (sz : Nat → Nat) (bl : Nat → Nat) (O : Nat → Nat) (T2 : Nat → Nat) (qt : Nat → Nat) (Dv : Nat → Nat) (rn : Nat → Nat) (cn : Nat → Nat) (T : Nat → Int) (hT : tbO dg sz bl T) (hL : layO un rows 0 fst tk9 (fun i => (sm i).toInt) T) (hro : rows ≤ 90) (htk : tk9 ≤ 3) (hu : un ≤ 40) (hfs : fst + tk9 + 1 ≤ un) (hcn : ∀ j, j < un + 1 → cn j = j) (hrn : ∀ i, i < rows → rn i = un + 1 + i) (hsm : ∀ i, i < rows → dt_nm 41 (fun j => (sm (41 * i + j)).toInt) ≤ 65000) (dO : ∀ i, i < 170 → O i < 65536) (d2 : ∀ i, i < 170 → T2 i < 65536) (dQ : ∀ i, i < 170 → qt i < 65536) (dD : ∀ i, i < 170 → Dv i < 65536) : CI l y_Mo_reach c_Mo_reach 5 .boolean { frames := 6, cells := 0, slots := 0, locals := 217 } [.ref h0] G k s0 [(h0, .inr (8, moL ma (va_up (va_up (va_up (va_up iv 14 (nI un)) 24 (nI rows)) 25 (nI (tk9 + 2))) 28 (-1)) co)), ((ma 15), .inl (k 1, 3690, .inr (.inl sm))), ((ma 21), .inl (k 0, 319840, .inl (fun i => nI (dg i)))), ((ma 22), .inl (k 0, 3998, .inl (fun i => nI (sz i)))), ((ma 23), .inl (k 2, 3998, .inl (fun i => nI (bl i)))), ((ma 24), .inl (k 0, 170, .inl (fun i => nI (O i)))), ((ma 25), .inl (k 0, 170, .inl (fun i => nI (T2 i)))), ((ma 26), .inl (k 0, 170, .inl (fun i => nI (qt i)))), ((ma 27), .inl (k 0, 170, .inl (fun i => nI (Dv i)))), ((ma 28), .inl (k 0, 90, .inl (fun i => nI (rn i)))), ((ma 29), .inl (k 0, 41, .inl (fun i => nI (cn i))))] (fun (r : Int32) (u : (Nat → Nat → Nat) × (Nat → Int32) × Int32 × Nat) => r = nI u.2.2.2 ∧ u.2.2.2 ≤ 1 ∧ (∃ T9, tbO (u.1 0) (u.1 1) (u.1 2) T9 ∧ T9 3994 = T 3994 ∧ (u.2.2.2 = 1 → ∃ h9 gn, h9 ≤ 1 ∧ tabI un rows (rows + (tk9 + 2)) (rfF un rows h9 fst tk9 (fun i => (sm i).toInt)) (u.1 8) (u.1 7) T9 ∧ ∀ j, j ≤ 40 → (nI j = u.2.2.1 ↔ j = gn))) ∧ (∀ i, i < 170 → u.1 3 i < 65536) ∧ (∀ i, i < 170 → u.1 4 i < 65536) ∧ (∀ i, i < 170 → u.1 5 i < 65536) ∧ (∀ i, i < 170 → u.1 6 i < 65536)) (fun u => [(h0, .inr (8, moL ma (va_up (va_up (va_up (va_up (va_up (va_up (va_up (va_up (va_up iv 14 (nI un)) 24 (nI rows)) 25 (nI (tk9 + 2))) 28 u.2.2.1) 19 (u.2.1 0)) 20 (u.2.1 1)) 21 (u.2.1 2)) 22 (u.2.1 3)) 23 (u.2.1 4)) co)), ((ma 15), .inl (k 1, 3690, .inr (.inl sm))), ((ma 21), .inl (k 0, 319840, .inl (fun i => nI (u.1 0 i)))), ((ma 22), .inl (k 0, 3998, .inl (fun i => nI (u.1 1 i)))), ((ma 23), .inl (k 2, 3998, .inl (fun i => nI (u.1 2 i)))), ((ma 24), .inl (k 0, 170, .inl (fun i => nI (u.1 3 i)))), ((ma 25), .inl (k 0, 170, .inl (fun i => nI (u.1 4 i)))), ((ma 26), .inl (k 0, 170, .inl (fun i => nI (u.1 5 i)))), ((ma 27), .inl (k 0, 170, .inl (fun i => nI (u.1 6 i)))), ((ma 28), .inl (k 0, 90, .inl (fun i => nI (u.1 7 i)))), ((ma 29), .inl (k 0, 41, .inl (fun i => nI (u.1 8 i))))]) 0 0 := by
  refine met_start (by decide) (Nat.le_of_ble_eq_true rfl) ?_
  intro p e s m below meth c C K hA hsz S ls hl
  generalize va_A [(h0, .inr (8, moL ma (va_up (va_up (va_up (va_up iv 14 (nI un)) 24 (nI rows)) 25 (nI (tk9 + 2))) 28 (-1)) co)), ((ma 15), .inl (k 1, 3690, .inr (.inl sm))), ((ma 21), .inl (k 0, 319840, .inl (fun i => nI (dg i)))), ((ma 22), .inl (k 0, 3998, .inl (fun i => nI (sz i)))), ((ma 23), .inl (k 2, 3998, .inl (fun i => nI (bl i)))), ((ma 24), .inl (k 0, 170, .inl (fun i => nI (O i)))), ((ma 25), .inl (k 0, 170, .inl (fun i => nI (T2 i)))), ((ma 26), .inl (k 0, 170, .inl (fun i => nI (qt i)))), ((ma 27), .inl (k 0, 170, .inl (fun i => nI (Dv i)))), ((ma 28), .inl (k 0, 90, .inl (fun i => nI (rn i)))), ((ma 29), .inl (k 0, 41, .inl (fun i => nI (cn i))))] s0 = A at hA S ⊢
  have hx := C.1
  have hb := C.2.1
  have hl : lv_has ls 5 [(0, .ref h0)] := hl
  refine lv_iconst (v := (-1)) hx hb d_Mo_reach_0 (by decide) ?_
  refine lv_istore_n (lv' := [(1, .int (-1)), (0, .ref h0)]) hx hb d_Mo_reach_1 rfl hl (by decide) rfl (fun ls hl => ?_)
  refine lv_iconst (v := 0) hx hb d_Mo_reach_2 (by decide) ?_
  refine lv_istore_n (lv' := [(2, .int 0), (1, .int (-1)), (0, .ref h0)]) hx hb d_Mo_reach_3 rfl hl (by decide) rfl (fun ls hl => ?_)
  have lp : ∀ d9, ∀ (ri : Nat), ∀ (b9 : Option Nat), (rows - ri) < d9 → (ri ≤ rows) → (woO (fun i => (sm i).toInt) ri b9) → ∀ (H : Heap) (locs : List Loc), Sw G A s.heap H locs [(h0, .inr (8, moL ma (va_up (va_up (va_up (va_up iv 14 (nI un)) 24 (nI rows)) 25 (nI (tk9 + 2))) 28 (-1)) co)), ((ma 15), .inl (k 1, 3690, .inr (.inl sm))), ((ma 21), .inl (k 0, 319840, .inl (fun i => nI (dg i)))), ((ma 22), .inl (k 0, 3998, .inl (fun i => nI (sz i)))), ((ma 23), .inl (k 2, 3998, .inl (fun i => nI (bl i)))), ((ma 24), .inl (k 0, 170, .inl (fun i => nI (O i)))), ((ma 25), .inl (k 0, 170, .inl (fun i => nI (T2 i)))), ((ma 26), .inl (k 0, 170, .inl (fun i => nI (qt i)))), ((ma 27), .inl (k 0, 170, .inl (fun i => nI (Dv i)))), ((ma 28), .inl (k 0, 90, .inl (fun i => nI (rn i)))), ((ma 29), .inl (k 0, 41, .inl (fun i => nI (cn i))))] → ∀ ls : Array Slot, lv_has ls 5 [(2, .int (nI ri)), (1, .int (bI b9)), (0, .ref h0)] → W p l e { frames := 6, cells := 0, slots := 0, locals := 217 } s m [Value.ref h0].toArray below meth c H locs 0 0 (MQ below (va_Qi (fun (r : Int32) (u : (Nat → Nat → Nat) × (Nat → Int32) × Int32 × Nat) => r = nI u.2.2.2 ∧ u.2.2.2 ≤ 1 ∧ (∃ T9, tbO (u.1 0) (u.1 1) (u.1 2) T9 ∧ T9 3994 = T 3994 ∧ (u.2.2.2 = 1 → ∃ h9 gn, h9 ≤ 1 ∧ tabI un rows (rows + (tk9 + 2)) (rfF un rows h9 fst tk9 (fun i => (sm i).toInt)) (u.1 8) (u.1 7) T9 ∧ ∀ j, j ≤ 40 → (nI j = u.2.2.1 ↔ j = gn))) ∧ (∀ i, i < 170 → u.1 3 i < 65536) ∧ (∀ i, i < 170 → u.1 4 i < 65536) ∧ (∀ i, i < 170 → u.1 5 i < 65536) ∧ (∀ i, i < 170 → u.1 6 i < 65536)) (Po G k A (fun u => [(h0, .inr (8, moL ma (va_up (va_up (va_up (va_up (va_up (va_up (va_up (va_up (va_up iv 14 (nI un)) 24 (nI rows)) 25 (nI (tk9 + 2))) 28 u.2.2.1) 19 (u.2.1 0)) 20 (u.2.1 1)) 21 (u.2.1 2)) 22 (u.2.1 3)) 23 (u.2.1 4)) co)), ((ma 15), .inl (k 1, 3690, .inr (.inl sm))), ((ma 21), .inl (k 0, 319840, .inl (fun i => nI (u.1 0 i)))), ((ma 22), .inl (k 0, 3998, .inl (fun i => nI (u.1 1 i)))), ((ma 23), .inl (k 2, 3998, .inl (fun i => nI (u.1 2 i)))), ((ma 24), .inl (k 0, 170, .inl (fun i => nI (u.1 3 i)))), ((ma 25), .inl (k 0, 170, .inl (fun i => nI (u.1 4 i)))), ((ma 26), .inl (k 0, 170, .inl (fun i => nI (u.1 5 i)))), ((ma 27), .inl (k 0, 170, .inl (fun i => nI (u.1 6 i)))), ((ma 28), .inl (k 0, 90, .inl (fun i => nI (u.1 7 i)))), ((ma 29), .inl (k 0, 41, .inl (fun i => nI (u.1 8 i))))])) A) [Value.ref h0].toArray s 0 0 A) (F0 m 4 ls []) := by
    intro d9
    induction d9 with
    | zero => intro ri b9 hm; exact absurd hm (Nat.not_lt_zero _)
    | succ d9 ih_lp =>
      intro ri b9 hm hri hB H locs S ls hl
      refine lv_iload_n hx hb d_Mo_reach_4 rfl (lv_at hl 0 rfl) ?_
      refine lv_aload_n hx hb d_Mo_reach_5 rfl (lv_at hl 2 rfl) ?_
      refine r_get C K S 0 rfl rfl clOk_Mo 53 (by decide) wf_Mo_333 (v := .int (nI rows)) rfl d_Mo_reach_6 ?_
      refine z_icmp_ge (a := ri) (b := rows) (tgt := 69) hx hb d_Mo_reach_9 (by decide) (by omega) (by omega) (fun hc1 => ?_) (fun hc1 => ?_)
      · have hB : woO (fun i => (sm i).toInt) rows b9 := (show ri = rows by omega) ▸ hB
        cases b9 with
        | none =>
          have hl : lv_has ls 5 [(2, .int (nI ri)), (1, .int (-1)), (0, .ref h0)] := hl
          refine lv_iload_n hx hb d_Mo_reach_69 rfl (lv_at hl 1 rfl) ?_
          refine lv_if_ge (tgt := 80) hx hb d_Mo_reach_70 (by decide) (fun hq => absurd hq (by decide)) (fun _ => ?_)
          refine lv_aload_n hx hb d_Mo_reach_73 rfl (lv_at hl 2 rfl) ?_
          refine lv_iconst (v := 0) hx hb d_Mo_reach_74 (by decide) ?_
          refine r_put C K S 0 rfl rfl clOk_Mo 59 (by decide) wf_Mo_364 rfl (ty := .int) (v := .int 0) (by decide +kernel) rfl rfl (Nat.le_of_ble_eq_true rfl) (fs' := moL ma (va_up (va_up (va_up (va_up iv 14 (nI un)) 24 (nI rows)) 25 (nI (tk9 + 2))) 28 0) co) (ws' := [(h0, .inr (8, moL ma (va_up (va_up (va_up (va_up iv 14 (nI un)) 24 (nI rows)) 25 (nI (tk9 + 2))) 28 0) co)), ((ma 15), .inl (k 1, 3690, .inr (.inl sm))), ((ma 21), .inl (k 0, 319840, .inl (fun i => nI (dg i)))), ((ma 22), .inl (k 0, 3998, .inl (fun i => nI (sz i)))), ((ma 23), .inl (k 2, 3998, .inl (fun i => nI (bl i)))), ((ma 24), .inl (k 0, 170, .inl (fun i => nI (O i)))), ((ma 25), .inl (k 0, 170, .inl (fun i => nI (T2 i)))), ((ma 26), .inl (k 0, 170, .inl (fun i => nI (qt i)))), ((ma 27), .inl (k 0, 170, .inl (fun i => nI (Dv i)))), ((ma 28), .inl (k 0, 90, .inl (fun i => nI (rn i)))), ((ma 29), .inl (k 0, 41, .inl (fun i => nI (cn i))))]) rfl rfl d_Mo_reach_75 (fun H locs S => ?_)
          refine lv_iconst (v := 1) hx hb d_Mo_reach_78 (by decide) ?_
          exact r_iret C K rfl (uz [dg, sz, bl, O, T2, qt, Dv, rn, cn], (fun j => iv (19 + j)), 0, 1) ⟨rfl, Nat.le_refl 1, ⟨T, hT, rfl, fun _ => ⟨0, 0, by omega, ⟨tabJ_first hu hfs hL hcn hrn, fun i hi => by rw [(hL.2.1 i hi).2.2]; have := hB i hi; omega⟩, fun j hj => gone0 hj⟩⟩, dO, d2, dQ, dD⟩ (S.sub [0, 1, 2, 3, 4, 5, 6, 7, 8, 9, 10] (by decide) rfl) d_Mo_reach_79 (Nat.le_of_ble_eq_true rfl) (Nat.le_of_ble_eq_true rfl)
        | some wr =>
          have hl : lv_has ls 5 [(2, .int (nI ri)), (1, .int (nI wr)), (0, .ref h0)] := hl
          have q1 := hB.1
          refine lv_iload_n hx hb d_Mo_reach_69 rfl (lv_at hl 1 rfl) ?_
          refine z_if_ge (a := wr) (tgt := 80) hx hb d_Mo_reach_70 (by decide) (by omega) ?_
          refine lv_iconst (v := 0) hx hb d_Mo_reach_80 (by decide) ?_
          refine lv_istore_n (lv' := [(2, .int 0), (1, .int (nI wr)), (0, .ref h0)]) hx hb d_Mo_reach_81 rfl hl (by decide) rfl (fun ls hl => ?_)
          have lq : ∀ d9, ∀ (ri : Nat), ∀ (D : Nat → Nat), ∀ (Z : Nat → Nat), ∀ (B : Nat → Nat), ∀ (T8 : Nat → Int), (rows - ri) < d9 → (ri ≤ rows) → (tbO D Z B T8) → (lyE un rows fst tk9 ri (fun i => (sm i).toInt) T8) → (T8 3994 = T 3994) → ∀ (H : Heap) (locs : List Loc), Sw G A s.heap H locs [(h0, .inr (8, moL ma (va_up (va_up (va_up (va_up iv 14 (nI un)) 24 (nI rows)) 25 (nI (tk9 + 2))) 28 (-1)) co)), ((ma 15), .inl (k 1, 3690, .inr (.inl sm))), ((ma 21), .inl (k 0, 319840, .inl (fun i => nI (D i)))), ((ma 22), .inl (k 0, 3998, .inl (fun i => nI (Z i)))), ((ma 23), .inl (k 2, 3998, .inl (fun i => nI (B i)))), ((ma 24), .inl (k 0, 170, .inl (fun i => nI (O i)))), ((ma 25), .inl (k 0, 170, .inl (fun i => nI (T2 i)))), ((ma 26), .inl (k 0, 170, .inl (fun i => nI (qt i)))), ((ma 27), .inl (k 0, 170, .inl (fun i => nI (Dv i)))), ((ma 28), .inl (k 0, 90, .inl (fun i => nI (rn i)))), ((ma 29), .inl (k 0, 41, .inl (fun i => nI (cn i))))] → ∀ ls : Array Slot, lv_has ls 5 [(2, .int (nI ri)), (1, .int (nI wr)), (0, .ref h0)] → W p l e { frames := 6, cells := 0, slots := 0, locals := 217 } s m [Value.ref h0].toArray below meth c H locs 0 0 (MQ below (va_Qi (fun (r : Int32) (u : (Nat → Nat → Nat) × (Nat → Int32) × Int32 × Nat) => r = nI u.2.2.2 ∧ u.2.2.2 ≤ 1 ∧ (∃ T9, tbO (u.1 0) (u.1 1) (u.1 2) T9 ∧ T9 3994 = T 3994 ∧ (u.2.2.2 = 1 → ∃ h9 gn, h9 ≤ 1 ∧ tabI un rows (rows + (tk9 + 2)) (rfF un rows h9 fst tk9 (fun i => (sm i).toInt)) (u.1 8) (u.1 7) T9 ∧ ∀ j, j ≤ 40 → (nI j = u.2.2.1 ↔ j = gn))) ∧ (∀ i, i < 170 → u.1 3 i < 65536) ∧ (∀ i, i < 170 → u.1 4 i < 65536) ∧ (∀ i, i < 170 → u.1 5 i < 65536) ∧ (∀ i, i < 170 → u.1 6 i < 65536)) (Po G k A (fun u => [(h0, .inr (8, moL ma (va_up (va_up (va_up (va_up (va_up (va_up (va_up (va_up (va_up iv 14 (nI un)) 24 (nI rows)) 25 (nI (tk9 + 2))) 28 u.2.2.1) 19 (u.2.1 0)) 20 (u.2.1 1)) 21 (u.2.1 2)) 22 (u.2.1 3)) 23 (u.2.1 4)) co)), ((ma 15), .inl (k 1, 3690, .inr (.inl sm))), ((ma 21), .inl (k 0, 319840, .inl (fun i => nI (u.1 0 i)))), ((ma 22), .inl (k 0, 3998, .inl (fun i => nI (u.1 1 i)))), ((ma 23), .inl (k 2, 3998, .inl (fun i => nI (u.1 2 i)))), ((ma 24), .inl (k 0, 170, .inl (fun i => nI (u.1 3 i)))), ((ma 25), .inl (k 0, 170, .inl (fun i => nI (u.1 4 i)))), ((ma 26), .inl (k 0, 170, .inl (fun i => nI (u.1 5 i)))), ((ma 27), .inl (k 0, 170, .inl (fun i => nI (u.1 6 i)))), ((ma 28), .inl (k 0, 90, .inl (fun i => nI (u.1 7 i)))), ((ma 29), .inl (k 0, 41, .inl (fun i => nI (u.1 8 i))))])) A) [Value.ref h0].toArray s 0 0 A) (F0 m 82 ls []) := by
            intro d9
            induction d9 with
            | zero => intro ri D Z B T8 hm; exact absurd hm (Nat.not_lt_zero _)
            | succ d9 ih_lq =>
              intro ri D Z B T8 hm hri hT3 hE h94 H locs S ls hl
              refine lv_iload_n hx hb d_Mo_reach_82 rfl (lv_at hl 0 rfl) ?_
              refine lv_aload_n hx hb d_Mo_reach_83 rfl (lv_at hl 2 rfl) ?_
              refine r_get C K S 0 rfl rfl clOk_Mo 53 (by decide) wf_Mo_333 (v := .int (nI rows)) rfl d_Mo_reach_84 ?_
              refine z_icmp_ge (a := ri) (b := rows) (tgt := 106) hx hb d_Mo_reach_87 (by decide) (by omega) (by omega) (fun hc2 => ?_) (fun hc2 => ?_)
              · have hL1 : layO un rows 1 fst tk9 (fun i => (sm i).toInt) T8 := lyE_1 ((show ri = rows by omega) ▸ hE)
                refine lv_aload_n hx hb d_Mo_reach_106 rfl (lv_at hl 2 rfl) ?_
                refine lv_iload_n hx hb d_Mo_reach_107 rfl (lv_at hl 1 rfl) ?_
                refine lv_iconst (v := 0) hx hb d_Mo_reach_108 (by decide) ?_
                have hJ := tabJ_first hu hfs hL1 hcn hrn
                have hFF : ∀ v, dt_nm (un + 2) (rfF un rows 1 fst tk9 (fun i => (sm i).toInt) v) ≤ 65535 := fun v => rfF_nm (sm := fun i => (sm i).toInt) hu (by omega) hsm v
                refine r_backv (wi := [(h0, .inr (8, moL ma (va_up (va_up (va_up (va_up iv 28 (-1)) 14 (nI un)) 24 (nI rows)) 25 (nI (tk9 + 2))) co)), ((ma 21), .inl (k 0, 319840, .inl (fun i => nI (D i)))), ((ma 22), .inl (k 0, 3998, .inl (fun i => nI (Z i)))), ((ma 23), .inl (k 2, 3998, .inl (fun i => nI (B i)))), ((ma 24), .inl (k 0, 170, .inl (fun i => nI (O i)))), ((ma 25), .inl (k 0, 170, .inl (fun i => nI (T2 i)))), ((ma 26), .inl (k 0, 170, .inl (fun i => nI (qt i)))), ((ma 27), .inl (k 0, 170, .inl (fun i => nI (Dv i)))), ((ma 28), .inl (k 0, 90, .inl (fun i => nI (rn i)))), ((ma 29), .inl (k 0, 41, .inl (fun i => nI (cn i))))]) (wr := [((ma 15), .inl (k 1, 3690, .inr (.inl sm)))]) S hA [0, 2, 3, 4, 5, 6, 7, 8, 9, 10] [1] rfl rfl (by decide) (by decide) (va_runV (As := [.int (nI wr), .int 0]) (rest := []) ⟨hx, hb, C.2.2.1, C.2.2.2.1, C.2.2.2.2.1⟩ (g_Mo_exchange l G k h0 _ wr 0 un rows (tk9 + 2) ma (va_up iv 28 (-1)) co D Z B O T2 qt Dv rn cn T8 hT3 q1 hro (by omega) (by omega) hu (by rw [hL1.1]; decide) (tabJ_exF hu (by omega) (by omega) hJ hFF) dO d2 dQ dD) (k_virt (n := 2) C wc_Mo_exchange rfl rfl wz_Mo wm_Mo_374 wn_Mo_exchange ws_Mo_exchange (by decide +kernel) ⟨(Nat.le_of_ble_eq_true rfl), (Nat.le_of_ble_eq_true rfl)⟩) (pr_nowV K S [0, 2, 3, 4, 5, 6, 7, 8, 9, 10] (by decide) rfl 0 rfl rfl) rfl rfl hl.1 rfl (lv_room (Nat.le_of_ble_eq_true rfl)) d_Mo_reach_109 ⟨(Nat.le_of_ble_eq_true rfl), (Nat.le_of_ble_eq_true rfl)⟩) (fun xu H locs hw3 S => ?_)
                have S : Sw G A s.heap _ _ [((ma 15), .inl (k 1, 3690, .inr (.inl sm))), (h0, .inr (8, moL ma (va_up (va_up (va_up (va_up (va_up (va_up (va_up (va_up (va_up iv 28 (-1)) 14 (nI un)) 24 (nI rows)) 25 (nI (tk9 + 2))) 19 (xu.2 0)) 20 (xu.2 1)) 21 (xu.2 2)) 22 (xu.2 3)) 23 (xu.2 4)) co)), ((ma 21), .inl (k 0, 319840, .inl (fun i => nI (xu.1 0 i)))), ((ma 22), .inl (k 0, 3998, .inl (fun i => nI (xu.1 1 i)))), ((ma 23), .inl (k 2, 3998, .inl (fun i => nI (xu.1 2 i)))), ((ma 24), .inl (k 0, 170, .inl (fun i => nI (xu.1 3 i)))), ((ma 25), .inl (k 0, 170, .inl (fun i => nI (xu.1 4 i)))), ((ma 26), .inl (k 0, 170, .inl (fun i => nI (xu.1 5 i)))), ((ma 27), .inl (k 0, 170, .inl (fun i => nI (xu.1 6 i)))), ((ma 28), .inl (k 0, 90, .inl (fun i => nI ((va_up rn wr (cn 0)) i)))), ((ma 29), .inl (k 0, 41, .inl (fun i => nI ((va_up cn 0 (rn wr)) i))))] := S
                obtain ⟨⟨W9, hW1, hW2⟩, a1, a2, a3, a4⟩ := hw3
                have hI0 := tabI_enter hu q1 (by omega) hJ hL1.1 (fun i hi => (hL1.2.1 i hi).1) ⟨by rw [(hL1.2.1 wr q1).2.2]; exact hB.2.1, fun i hi => by rw [(hL1.2.1 wr q1).2.2, (hL1.2.1 i hi).2.2]; exact hB.2.2 i hi⟩ hW2
                refine lv_iload_n hx hb d_Mo_reach_112 rfl (lv_at hl 1 rfl) ?_
                refine lv_istore_n (lv' := [(2, .int (nI wr)), (1, .int (nI wr)), (0, .ref h0)]) hx hb d_Mo_reach_113 rfl hl (by decide) rfl (fun ls hl => ?_)
                have lr : ∀ d9, ∀ (m9 : Nat), ∀ (D : Nat → Nat), ∀ (Z : Nat → Nat), ∀ (B : Nat → Nat), ∀ (O9 : Nat → Nat), ∀ (T9a : Nat → Nat), ∀ (Q9 : Nat → Nat), ∀ (V9 : Nat → Nat), ∀ (RN : Nat → Nat), ∀ (CN : Nat → Nat), ∀ (w : Nat → Int32), ∀ (T9 : Nat → Int), ((un + 1 + rows) ^ (un + 1) - m9) < d9 → (tbO D Z B T9) → (tabI un rows (rows + (tk9 + 2)) (rfF un rows 1 fst tk9 (fun i => (sm i).toInt)) CN RN T9) → (sxRun (un + 1) (rfF un rows 1 fst tk9 (fun i => (sm i).toInt)) rows 1 0 99 (un + 1 + rows) m9 CN RN) → (RN wr = 0) → (T9 3994 = T 3994) → (∀ i, i < 170 → O9 i < 65536) → (∀ i, i < 170 → T9a i < 65536) → (∀ i, i < 170 → Q9 i < 65536) → (∀ i, i < 170 → V9 i < 65536) → ∀ (H : Heap) (locs : List Loc), Sw G A s.heap H locs [(h0, .inr (8, moL ma (va_up (va_up (va_up (va_up (va_up (va_up (va_up (va_up (va_up iv 14 (nI un)) 24 (nI rows)) 25 (nI (tk9 + 2))) 28 (-1)) 19 (w 0)) 20 (w 1)) 21 (w 2)) 22 (w 3)) 23 (w 4)) co)), ((ma 15), .inl (k 1, 3690, .inr (.inl sm))), ((ma 21), .inl (k 0, 319840, .inl (fun i => nI (D i)))), ((ma 22), .inl (k 0, 3998, .inl (fun i => nI (Z i)))), ((ma 23), .inl (k 2, 3998, .inl (fun i => nI (B i)))), ((ma 24), .inl (k 0, 170, .inl (fun i => nI (O9 i)))), ((ma 25), .inl (k 0, 170, .inl (fun i => nI (T9a i)))), ((ma 26), .inl (k 0, 170, .inl (fun i => nI (Q9 i)))), ((ma 27), .inl (k 0, 170, .inl (fun i => nI (V9 i)))), ((ma 28), .inl (k 0, 90, .inl (fun i => nI (RN i)))), ((ma 29), .inl (k 0, 41, .inl (fun i => nI (CN i))))] → ∀ ls : Array Slot, lv_has ls 5 [(2, .int (nI wr)), (1, .int (nI wr)), (0, .ref h0)] → W p l e { frames := 6, cells := 0, slots := 0, locals := 217 } s m [Value.ref h0].toArray below meth c H locs 0 0 (MQ below (va_Qi (fun (r : Int32) (u : (Nat → Nat → Nat) × (Nat → Int32) × Int32 × Nat) => r = nI u.2.2.2 ∧ u.2.2.2 ≤ 1 ∧ (∃ T9, tbO (u.1 0) (u.1 1) (u.1 2) T9 ∧ T9 3994 = T 3994 ∧ (u.2.2.2 = 1 → ∃ h9 gn, h9 ≤ 1 ∧ tabI un rows (rows + (tk9 + 2)) (rfF un rows h9 fst tk9 (fun i => (sm i).toInt)) (u.1 8) (u.1 7) T9 ∧ ∀ j, j ≤ 40 → (nI j = u.2.2.1 ↔ j = gn))) ∧ (∀ i, i < 170 → u.1 3 i < 65536) ∧ (∀ i, i < 170 → u.1 4 i < 65536) ∧ (∀ i, i < 170 → u.1 5 i < 65536) ∧ (∀ i, i < 170 → u.1 6 i < 65536)) (Po G k A (fun u => [(h0, .inr (8, moL ma (va_up (va_up (va_up (va_up (va_up (va_up (va_up (va_up (va_up iv 14 (nI un)) 24 (nI rows)) 25 (nI (tk9 + 2))) 28 u.2.2.1) 19 (u.2.1 0)) 20 (u.2.1 1)) 21 (u.2.1 2)) 22 (u.2.1 3)) 23 (u.2.1 4)) co)), ((ma 15), .inl (k 1, 3690, .inr (.inl sm))), ((ma 21), .inl (k 0, 319840, .inl (fun i => nI (u.1 0 i)))), ((ma 22), .inl (k 0, 3998, .inl (fun i => nI (u.1 1 i)))), ((ma 23), .inl (k 2, 3998, .inl (fun i => nI (u.1 2 i)))), ((ma 24), .inl (k 0, 170, .inl (fun i => nI (u.1 3 i)))), ((ma 25), .inl (k 0, 170, .inl (fun i => nI (u.1 4 i)))), ((ma 26), .inl (k 0, 170, .inl (fun i => nI (u.1 5 i)))), ((ma 27), .inl (k 0, 170, .inl (fun i => nI (u.1 6 i)))), ((ma 28), .inl (k 0, 90, .inl (fun i => nI (u.1 7 i)))), ((ma 29), .inl (k 0, 41, .inl (fun i => nI (u.1 8 i))))])) A) [Value.ref h0].toArray s 0 0 A) (F0 m 114 ls []) := by
                  intro d9
                  induction d9 with
                  | zero => intro m9 D Z B O9 T9a Q9 V9 RN CN w T9 hm; exact absurd hm (Nat.not_lt_zero _)
                  | succ d9 ih_lr =>
                    intro m9 D Z B O9 T9a Q9 V9 RN CN w T9 hm hT2 hI2 hrun hz0 h942 e1 e2 e3 e4 H locs S ls hl
                    refine lv_iload_n hx hb d_Mo_reach_114 rfl (lv_at hl 0 rfl) ?_
                    refine z_if_lt (a := wr) (tgt := 161) hx hb d_Mo_reach_115 (by decide) (by omega) ?_
                    refine lv_aload_n hx hb d_Mo_reach_118 rfl (lv_at hl 2 rfl) ?_
                    refine lv_iload_n hx hb d_Mo_reach_119 rfl (lv_at hl 0 rfl) ?_
                    refine lv_iconst (v := 1) hx hb d_Mo_reach_120 (by decide) ?_
                    refine r_backi (wi := [(h0, .inr (8, moL ma (va_up (va_up (va_up (va_up (va_up (va_up (va_up (va_up (va_up iv 24 (nI rows)) 25 (nI (tk9 + 2))) 19 (w 0)) 20 (w 1)) 21 (w 2)) 22 (w 3)) 23 (w 4)) 14 (nI un)) 28 (-1)) co)), ((ma 22), .inl (k 0, 3998, .inl (fun i => nI (Z i)))), ((ma 23), .inl (k 2, 3998, .inl (fun i => nI (B i)))), ((ma 29), .inl (k 0, 41, .inl (fun i => nI (CN i))))]) (wr := [((ma 15), .inl (k 1, 3690, .inr (.inl sm))), ((ma 21), .inl (k 0, 319840, .inl (fun i => nI (D i)))), ((ma 24), .inl (k 0, 170, .inl (fun i => nI (O9 i)))), ((ma 25), .inl (k 0, 170, .inl (fun i => nI (T9a i)))), ((ma 26), .inl (k 0, 170, .inl (fun i => nI (Q9 i)))), ((ma 27), .inl (k 0, 170, .inl (fun i => nI (V9 i)))), ((ma 28), .inl (k 0, 90, .inl (fun i => nI (RN i))))]) S hA [0, 3, 4, 10] [1, 2, 5, 6, 7, 8, 9] rfl rfl (by decide) (by decide) (va_runV (As := [.int (nI wr), .int 1]) (rest := []) ⟨hx, hb, C.2.2.1, C.2.2.2.1, C.2.2.2.2.1⟩ (g_Mo_coming l G k h0 _ wr 1 un 99 (-1) ma (va_up (va_up (va_up (va_up (va_up (va_up (va_up iv 24 (nI rows)) 25 (nI (tk9 + 2))) 19 (w 0)) 20 (w 1)) 21 (w 2)) 22 (w 3)) 23 (w 4)) co D Z B CN T9 hT2 (by omega) (by omega) hu gone99 (tabJ_names hu hro hI2.1).1) (k_virt (n := 2) C wc_Mo_coming rfl rfl wz_Mo wm_Mo_377 wn_Mo_coming ws_Mo_coming (by decide +kernel) ⟨(Nat.le_of_ble_eq_true rfl), (Nat.le_of_ble_eq_true rfl)⟩) (pr_nowV K S [0, 3, 4, 10] (by decide) rfl 0 rfl rfl) rfl rfl hl.1 rfl (lv_room (Nat.le_of_ble_eq_true rfl)) d_Mo_reach_121 ⟨(Nat.le_of_ble_eq_true rfl), (Nat.le_of_ble_eq_true rfl)⟩) (fun r5 cb H locs hw4 S => ?_)
                    have S : Sw G A s.heap _ _ [((ma 15), .inl (k 1, 3690, .inr (.inl sm))), ((ma 21), .inl (k 0, 319840, .inl (fun i => nI (D i)))), ((ma 24), .inl (k 0, 170, .inl (fun i => nI (O9 i)))), ((ma 25), .inl (k 0, 170, .inl (fun i => nI (T9a i)))), ((ma 26), .inl (k 0, 170, .inl (fun i => nI (Q9 i)))), ((ma 27), .inl (k 0, 170, .inl (fun i => nI (V9 i)))), ((ma 28), .inl (k 0, 90, .inl (fun i => nI (RN i)))), (h0, .inr (8, moL ma (va_up (va_up (va_up (va_up (va_up (va_up (va_up (va_up (va_up iv 24 (nI rows)) 25 (nI (tk9 + 2))) 19 (w 0)) 20 (w 1)) 21 (w 2)) 22 (w 3)) 23 (w 4)) 14 (nI un)) 28 (-1)) co)), ((ma 22), .inl (k 0, 3998, .inl (fun i => nI (Z i)))), ((ma 23), .inl (k 2, 3998, .inl (fun i => nI (B i)))), ((ma 29), .inl (k 0, 41, .inl (fun i => nI (CN i))))] := S
                    obtain ⟨hw40, hcb⟩ := hw4
                    obtain rfl : r5 = bI cb := hw40
                    refine lv_istore_n (lv' := [(3, .int (bI cb)), (2, .int (nI wr)), (1, .int (nI wr)), (0, .ref h0)]) hx hb d_Mo_reach_124 rfl hl (by decide) rfl (fun ls hl => ?_)
                    cases hcq : cb with
                    | none =>
                      rw [hcq] at hcb hl
                      have hl : lv_has ls 5 [(3, .int (-1)), (2, .int (nI wr)), (1, .int (nI wr)), (0, .ref h0)] := hl
                      refine lv_iload_n hx hb d_Mo_reach_125 rfl (lv_at hl 0 rfl) ?_
                      refine lv_if_ge (tgt := 131) hx hb d_Mo_reach_126 (by decide) (fun hq => absurd hq (by decide)) (fun _ => ?_)
                      refine lv_iconst (v := 0) hx hb d_Mo_reach_129 (by decide) ?_
                      exact r_iret C K rfl (uz [D, Z, B, O9, T9a, Q9, V9, RN, CN], w, (-1), 0) ⟨rfl, Nat.zero_le 1, ⟨T9, hT2, h942, fun q => absurd (show 0 = 1 from q) (by decide)⟩, e1, e2, e3, e4⟩ (S.sub [7, 0, 1, 8, 9, 2, 3, 4, 5, 6, 10] (by decide) rfl) d_Mo_reach_130 (Nat.le_of_ble_eq_true rfl) (Nat.le_of_ble_eq_true rfl)
                    | some sb =>
                      rw [hcq] at hcb hl
                      have hl : lv_has ls 5 [(3, .int (nI sb)), (2, .int (nI wr)), (1, .int (nI wr)), (0, .ref h0)] := hl
                      have hsb := hcb.1
                      have hlt := sxRun_lt hrun
                      have hng : T9 (42 * wr + sb) < 0 := sxN_1 hcb.2.2.1
                      have hnm := tabJ_names hu hro hI2.1
                      refine lv_iload_n hx hb d_Mo_reach_125 rfl (lv_at hl 0 rfl) ?_
                      refine z_if_ge (a := sb) (tgt := 131) hx hb d_Mo_reach_126 (by decide) (by omega) ?_
                      refine lv_aload_n hx hb d_Mo_reach_131 rfl (lv_at hl 3 rfl) ?_
                      refine lv_iload_n hx hb d_Mo_reach_132 rfl (lv_at hl 0 rfl) ?_
                      refine r_backi (wi := [(h0, .inr (8, moL ma (va_up (va_up (va_up (va_up (va_up (va_up (va_up (va_up (va_up iv 25 (nI (tk9 + 2))) 19 (w 0)) 20 (w 1)) 21 (w 2)) 22 (w 3)) 23 (w 4)) 14 (nI un)) 28 (-1)) 24 (nI rows)) co)), ((ma 21), .inl (k 0, 319840, .inl (fun i => nI (D i)))), ((ma 22), .inl (k 0, 3998, .inl (fun i => nI (Z i)))), ((ma 23), .inl (k 2, 3998, .inl (fun i => nI (B i)))), ((ma 24), .inl (k 0, 170, .inl (fun i => nI (O9 i)))), ((ma 25), .inl (k 0, 170, .inl (fun i => nI (T9a i)))), ((ma 28), .inl (k 0, 90, .inl (fun i => nI (RN i))))]) (wr := [((ma 15), .inl (k 1, 3690, .inr (.inl sm))), ((ma 26), .inl (k 0, 170, .inl (fun i => nI (Q9 i)))), ((ma 27), .inl (k 0, 170, .inl (fun i => nI (V9 i)))), ((ma 29), .inl (k 0, 41, .inl (fun i => nI (CN i))))]) S hA [7, 1, 8, 9, 2, 3, 6] [0, 4, 5, 10] rfl rfl (by decide) (by decide) (va_runV (As := [.int (nI sb)]) (rest := []) ⟨hx, hb, C.2.2.1, C.2.2.2.1, C.2.2.2.2.1⟩ (g_Mo_giving l G k h0 _ sb rows ma (va_up (va_up (va_up (va_up (va_up (va_up (va_up (va_up iv 25 (nI (tk9 + 2))) 19 (w 0)) 20 (w 1)) 21 (w 2)) 22 (w 3)) 23 (w 4)) 14 (nI un)) 28 (-1)) co D Z B O9 T9a RN T9 hT2 (by omega) hro hI2.2 hnm.2.1 e1 e2) (k_virt (n := 1) C wc_Mo_giving rfl rfl wz_Mo wm_Mo_380 wn_Mo_giving ws_Mo_giving (by decide +kernel) ⟨(Nat.le_of_ble_eq_true rfl), (Nat.le_of_ble_eq_true rfl)⟩) (pr_nowV K S [7, 1, 8, 9, 2, 3, 6] (by decide) rfl 7 rfl rfl) rfl rfl hl.1 rfl (lv_room (Nat.le_of_ble_eq_true rfl)) d_Mo_reach_133 ⟨(Nat.le_of_ble_eq_true rfl), (Nat.le_of_ble_eq_true rfl)⟩) (fun r7 gu H locs hw6 S => ?_)
                      have S : Sw G A s.heap _ _ [((ma 15), .inl (k 1, 3690, .inr (.inl sm))), ((ma 26), .inl (k 0, 170, .inl (fun i => nI (Q9 i)))), ((ma 27), .inl (k 0, 170, .inl (fun i => nI (V9 i)))), ((ma 29), .inl (k 0, 41, .inl (fun i => nI (CN i)))), (h0, .inr (8, moL ma (va_up (va_up (va_up (va_up (va_up (va_up (va_up (va_up (va_up iv 25 (nI (tk9 + 2))) 21 (w 2)) 22 (w 3)) 23 (w 4)) 14 (nI un)) 28 (-1)) 24 (nI rows)) 19 (gu.2.1 0)) 20 (gu.2.1 1)) co)), ((ma 21), .inl (k 0, 319840, .inl (fun i => nI (D i)))), ((ma 22), .inl (k 0, 3998, .inl (fun i => nI (Z i)))), ((ma 23), .inl (k 2, 3998, .inl (fun i => nI (B i)))), ((ma 24), .inl (k 0, 170, .inl (fun i => nI (gu.1 0 i)))), ((ma 25), .inl (k 0, 170, .inl (fun i => nI (gu.1 1 i)))), ((ma 28), .inl (k 0, 90, .inl (fun i => nI (RN i))))] := S
                      obtain ⟨hw60, hgu⟩ := hw6
                      obtain rfl : r7 = bI gu.2.2 := hw60
                      obtain ⟨r9, hge, hr9⟩ := gv_some hgu.1 ⟨wr, q1, hng⟩
                      rw [show bI gu.2.2 = nI r9 from congrArg bI hge]
                      have hgv : gvO T9 RN sb rows (some r9) := hge ▸ hgu.1
                      refine lv_istore (lv' := [(4, .int (nI r9)), (3, .int (nI sb)), (2, .int (nI wr)), (1, .int (nI wr)), (0, .ref h0)]) hx hb d_Mo_reach_136 hl (by decide) rfl (fun ls hl => ?_)
                      refine lv_aload_n hx hb d_Mo_reach_138 rfl (lv_at hl 4 rfl) ?_
                      refine lv_iload hx hb d_Mo_reach_139 (lv_at hl 0 rfl) ?_
                      refine lv_iload_n hx hb d_Mo_reach_141 rfl (lv_at hl 1 rfl) ?_
                      refine r_backv (wi := [(h0, .inr (8, moL ma (va_up (va_up (va_up (va_up (va_up (va_up (va_up (va_up (va_up iv 21 (w 2)) 22 (w 3)) 23 (w 4)) 28 (-1)) 19 (gu.2.1 0)) 20 (gu.2.1 1)) 14 (nI un)) 24 (nI rows)) 25 (nI (tk9 + 2))) co)), ((ma 21), .inl (k 0, 319840, .inl (fun i => nI (D i)))), ((ma 22), .inl (k 0, 3998, .inl (fun i => nI (Z i)))), ((ma 23), .inl (k 2, 3998, .inl (fun i => nI (B i)))), ((ma 24), .inl (k 0, 170, .inl (fun i => nI (gu.1 0 i)))), ((ma 25), .inl (k 0, 170, .inl (fun i => nI (gu.1 1 i)))), ((ma 26), .inl (k 0, 170, .inl (fun i => nI (Q9 i)))), ((ma 27), .inl (k 0, 170, .inl (fun i => nI (V9 i)))), ((ma 28), .inl (k 0, 90, .inl (fun i => nI (RN i)))), ((ma 29), .inl (k 0, 41, .inl (fun i => nI (CN i))))]) (wr := [((ma 15), .inl (k 1, 3690, .inr (.inl sm)))]) S hA [4, 5, 6, 7, 8, 9, 1, 2, 10, 3] [0] rfl rfl (by decide) (by decide) (va_runV (As := [.int (nI r9), .int (nI sb)]) (rest := []) ⟨hx, hb, C.2.2.1, C.2.2.2.1, C.2.2.2.2.1⟩ (g_Mo_exchange l G k h0 _ r9 sb un rows (tk9 + 2) ma (va_up (va_up (va_up (va_up (va_up (va_up iv 21 (w 2)) 22 (w 3)) 23 (w 4)) 28 (-1)) 19 (gu.2.1 0)) 20 (gu.2.1 1)) co D Z B (gu.1 0) (gu.1 1) Q9 V9 RN CN T9 hT2 hr9 hro (by omega) (by omega) hu hnm.2.2 (tabJ_exF hu (by omega) (by omega) hI2.1 hFF) hgu.2.1 hgu.2.2 e3 e4) (k_virt (n := 2) C wc_Mo_exchange rfl rfl wz_Mo wm_Mo_374 wn_Mo_exchange ws_Mo_exchange (by decide +kernel) ⟨(Nat.le_of_ble_eq_true rfl), (Nat.le_of_ble_eq_true rfl)⟩) (pr_nowV K S [4, 5, 6, 7, 8, 9, 1, 2, 10, 3] (by decide) rfl 4 rfl rfl) rfl rfl hl.1 rfl (lv_room (Nat.le_of_ble_eq_true rfl)) d_Mo_reach_142 ⟨(Nat.le_of_ble_eq_true rfl), (Nat.le_of_ble_eq_true rfl)⟩) (fun yu H locs hw8 S => ?_)
                      have S : Sw G A s.heap _ _ [((ma 15), .inl (k 1, 3690, .inr (.inl sm))), (h0, .inr (8, moL ma (va_up (va_up (va_up (va_up (va_up (va_up (va_up (va_up (va_up iv 28 (-1)) 14 (nI un)) 24 (nI rows)) 25 (nI (tk9 + 2))) 19 (yu.2 0)) 20 (yu.2 1)) 21 (yu.2 2)) 22 (yu.2 3)) 23 (yu.2 4)) co)), ((ma 21), .inl (k 0, 319840, .inl (fun i => nI (yu.1 0 i)))), ((ma 22), .inl (k 0, 3998, .inl (fun i => nI (yu.1 1 i)))), ((ma 23), .inl (k 2, 3998, .inl (fun i => nI (yu.1 2 i)))), ((ma 24), .inl (k 0, 170, .inl (fun i => nI (yu.1 3 i)))), ((ma 25), .inl (k 0, 170, .inl (fun i => nI (yu.1 4 i)))), ((ma 26), .inl (k 0, 170, .inl (fun i => nI (yu.1 5 i)))), ((ma 27), .inl (k 0, 170, .inl (fun i => nI (yu.1 6 i)))), ((ma 28), .inl (k 0, 90, .inl (fun i => nI ((va_up RN r9 (CN sb)) i)))), ((ma 29), .inl (k 0, 41, .inl (fun i => nI ((va_up CN sb (RN r9)) i))))] := S
                      obtain ⟨⟨W8, hV1, hV2⟩, b1, b2, b3, b4⟩ := hw8
                      have hI3 := tabI_next hu (by omega) hr9 (by omega) hI2 hgv hV2
                      have hrun3 := tabI_run (K := 1) (A := 0) (gone := 99) (from9 := wr) hu (by omega) hr9 (by omega) hI2 hgv hcb (fun q hq => ⟨by omega, by unfold nmR; rw [if_pos (by omega), show wr + q = wr by omega, hz0]; omega⟩) hV2 hrun
                      have h95 : W8 3994 = T 3994 := by rw [hV2.2.2.2.2.2 3994 (by omega) (by omega)]; exact h942
                      refine lv_iload hx hb d_Mo_reach_145 (lv_at hl 0 rfl) ?_
                      refine lv_iload_n hx hb d_Mo_reach_147 rfl (lv_at hl 2 rfl) ?_
                      refine z_icmp_ne (a := r9) (b := wr) (tgt := 158) hx hb d_Mo_reach_148 (by decide) (by omega) (by omega) (fun hc9 => ?_) (fun hc9 => ?_)
                      · refine lv_goto (tgt := 114) hx hb d_Mo_reach_158 (by decide) ?_
                        exact ih_lr (m9 + 1) (yu.1 0) (yu.1 1) (yu.1 2) (yu.1 3) (yu.1 4) (yu.1 5) (yu.1 6) (va_up RN r9 (CN sb)) (va_up CN sb (RN r9)) yu.2 W8 (by have := bd_m hlt; omega) hV1 hI3 hrun3 (by rw [va_up_ne _ _ (by omega)]; exact hz0) h95 b1 b2 b3 b4 _ _ (S.sub [1, 0, 2, 3, 4, 5, 6, 7, 8, 9, 10] (by decide) rfl) ls (lv_sub hl [2, 3, 4] rfl)
                      · refine lv_iconst (v := (-1)) hx hb d_Mo_reach_151 (by decide) ?_
                        refine lv_istore_n (lv' := [(2, .int (-1)), (4, .int (nI r9)), (3, .int (nI sb)), (1, .int (nI wr)), (0, .ref h0)]) hx hb d_Mo_reach_152 rfl hl (by decide) rfl (fun ls hl => ?_)
                        refine lv_aload_n hx hb d_Mo_reach_153 rfl (lv_at hl 4 rfl) ?_
                        refine lv_iload_n hx hb d_Mo_reach_154 rfl (lv_at hl 2 rfl) ?_
                        refine r_put C K S 1 rfl rfl clOk_Mo 59 (by decide) wf_Mo_364 rfl (ty := .int) (v := .int (nI sb)) (by decide +kernel) rfl rfl (Nat.le_of_ble_eq_true rfl) (fs' := moL ma (va_up (va_up (va_up (va_up (va_up (va_up (va_up (va_up (va_up iv 14 (nI un)) 24 (nI rows)) 25 (nI (tk9 + 2))) 19 (yu.2 0)) 20 (yu.2 1)) 21 (yu.2 2)) 22 (yu.2 3)) 23 (yu.2 4)) 28 (nI sb)) co) (ws' := [((ma 15), .inl (k 1, 3690, .inr (.inl sm))), (h0, .inr (8, moL ma (va_up (va_up (va_up (va_up (va_up (va_up (va_up (va_up (va_up iv 14 (nI un)) 24 (nI rows)) 25 (nI (tk9 + 2))) 19 (yu.2 0)) 20 (yu.2 1)) 21 (yu.2 2)) 22 (yu.2 3)) 23 (yu.2 4)) 28 (nI sb)) co)), ((ma 21), .inl (k 0, 319840, .inl (fun i => nI (yu.1 0 i)))), ((ma 22), .inl (k 0, 3998, .inl (fun i => nI (yu.1 1 i)))), ((ma 23), .inl (k 2, 3998, .inl (fun i => nI (yu.1 2 i)))), ((ma 24), .inl (k 0, 170, .inl (fun i => nI (yu.1 3 i)))), ((ma 25), .inl (k 0, 170, .inl (fun i => nI (yu.1 4 i)))), ((ma 26), .inl (k 0, 170, .inl (fun i => nI (yu.1 5 i)))), ((ma 27), .inl (k 0, 170, .inl (fun i => nI (yu.1 6 i)))), ((ma 28), .inl (k 0, 90, .inl (fun i => nI ((va_up RN r9 (CN sb)) i)))), ((ma 29), .inl (k 0, 41, .inl (fun i => nI ((va_up CN sb (RN r9)) i))))]) rfl rfl d_Mo_reach_155 (fun H locs S => ?_)
                        refine lv_goto (tgt := 114) hx hb d_Mo_reach_158 (by decide) ?_
                        refine lv_iload_n hx hb d_Mo_reach_114 rfl (lv_at hl 0 rfl) ?_
                        refine lv_if_lt (tgt := 161) hx hb d_Mo_reach_115 (by decide) (fun _ => ?_) (fun hq => absurd (by decide) hq)
                        refine lv_iconst (v := 1) hx hb d_Mo_reach_161 (by decide) ?_
                        exact r_iret C K rfl (uz [yu.1 0, yu.1 1, yu.1 2, yu.1 3, yu.1 4, yu.1 5, yu.1 6, va_up RN r9 (CN sb), va_up CN sb (RN r9)], yu.2, nI sb, 1) ⟨rfl, Nat.le_refl 1, ⟨W8, hV1, h95, fun _ => ⟨1, sb, by omega, hI3, fun j hj => gone_s hj (by omega)⟩⟩, b1, b2, b3, b4⟩ (S.sub [1, 0, 2, 3, 4, 5, 6, 7, 8, 9, 10] (by decide) rfl) d_Mo_reach_162 (Nat.le_of_ble_eq_true rfl) (Nat.le_of_ble_eq_true rfl)
                exact lr _ 0 (xu.1 0) (xu.1 1) (xu.1 2) (xu.1 3) (xu.1 4) (xu.1 5) (xu.1 6) (va_up rn wr (cn 0)) (va_up cn 0 (rn wr)) xu.2 W9 (Nat.lt_succ_self _) hW1 hI0 (tabI_start (by omega) hI0) (by rw [va_up_self]; exact hcn 0 (by omega)) (by rw [hW2.2.2.2.2.2 3994 (by omega) (by omega)]; exact h94) a1 a2 a3 a4 _ _ (S.sub [1, 0, 2, 3, 4, 5, 6, 7, 8, 9, 10] (by decide) rfl) ls (lv_sub hl [0, 1, 2] rfl)
              · refine lv_aload_n hx hb d_Mo_reach_90 rfl (lv_at hl 2 rfl) ?_
                refine lv_iload_n hx hb d_Mo_reach_91 rfl (lv_at hl 0 rfl) ?_
                refine lv_iconst (v := 0) hx hb d_Mo_reach_92 (by decide) ?_
                refine r_backi (wi := []) (wr := [(h0, .inr (8, moL ma (va_up (va_up (va_up (va_up iv 14 (nI un)) 24 (nI rows)) 25 (nI (tk9 + 2))) 28 (-1)) co)), ((ma 15), .inl (k 1, 3690, .inr (.inl sm))), ((ma 21), .inl (k 0, 319840, .inl (fun i => nI (D i)))), ((ma 22), .inl (k 0, 3998, .inl (fun i => nI (Z i)))), ((ma 23), .inl (k 2, 3998, .inl (fun i => nI (B i)))), ((ma 24), .inl (k 0, 170, .inl (fun i => nI (O i)))), ((ma 25), .inl (k 0, 170, .inl (fun i => nI (T2 i)))), ((ma 26), .inl (k 0, 170, .inl (fun i => nI (qt i)))), ((ma 27), .inl (k 0, 170, .inl (fun i => nI (Dv i)))), ((ma 28), .inl (k 0, 90, .inl (fun i => nI (rn i)))), ((ma 29), .inl (k 0, 41, .inl (fun i => nI (cn i))))]) S hA [] [0, 1, 2, 3, 4, 5, 6, 7, 8, 9, 10] rfl rfl (by decide) (by decide) (va_runS (As := [.int (nI ri), .int 0]) (rest := [.ref h0]) ⟨hx, hb, C.2.2.1, C.2.2.2.1, C.2.2.2.2.1⟩ (g_Mo_at l G k _ ri 0) (k_stat (n := 2) C wc_Mo_at rfl rfl wz_Mo wm_Mo_328 wt_Mo_at (by decide +kernel) ⟨(Nat.le_of_ble_eq_true rfl), (Nat.le_of_ble_eq_true rfl)⟩) (pr_now K S [] (by decide) rfl) rfl rfl hl.1 rfl (lv_room (Nat.le_of_ble_eq_true rfl)) d_Mo_reach_93 ⟨(Nat.le_of_ble_eq_true rfl), (Nat.le_of_ble_eq_true rfl)⟩) (fun r12 u10 H locs hw11 S => ?_)
                have S : Sw G A s.heap _ _ [(h0, .inr (8, moL ma (va_up (va_up (va_up (va_up iv 14 (nI un)) 24 (nI rows)) 25 (nI (tk9 + 2))) 28 (-1)) co)), ((ma 15), .inl (k 1, 3690, .inr (.inl sm))), ((ma 21), .inl (k 0, 319840, .inl (fun i => nI (D i)))), ((ma 22), .inl (k 0, 3998, .inl (fun i => nI (Z i)))), ((ma 23), .inl (k 2, 3998, .inl (fun i => nI (B i)))), ((ma 24), .inl (k 0, 170, .inl (fun i => nI (O i)))), ((ma 25), .inl (k 0, 170, .inl (fun i => nI (T2 i)))), ((ma 26), .inl (k 0, 170, .inl (fun i => nI (qt i)))), ((ma 27), .inl (k 0, 170, .inl (fun i => nI (Dv i)))), ((ma 28), .inl (k 0, 90, .inl (fun i => nI (rn i)))), ((ma 29), .inl (k 0, 41, .inl (fun i => nI (cn i))))] := S
                obtain rfl : r12 = nI (42 * ri + 0) := hw11
                refine lv_lconst (v := 1) hx hb d_Mo_reach_96 (by decide) ?_
                refine r_backv (wi := [(h0, .inr (8, moL ma (va_up (va_up (va_up (va_up iv 14 (nI un)) 24 (nI rows)) 25 (nI (tk9 + 2))) 28 (-1)) co)), ((ma 21), .inl (k 0, 319840, .inl (fun i => nI (D i)))), ((ma 22), .inl (k 0, 3998, .inl (fun i => nI (Z i)))), ((ma 23), .inl (k 2, 3998, .inl (fun i => nI (B i))))]) (wr := [((ma 15), .inl (k 1, 3690, .inr (.inl sm))), ((ma 24), .inl (k 0, 170, .inl (fun i => nI (O i)))), ((ma 25), .inl (k 0, 170, .inl (fun i => nI (T2 i)))), ((ma 26), .inl (k 0, 170, .inl (fun i => nI (qt i)))), ((ma 27), .inl (k 0, 170, .inl (fun i => nI (Dv i)))), ((ma 28), .inl (k 0, 90, .inl (fun i => nI (rn i)))), ((ma 29), .inl (k 0, 41, .inl (fun i => nI (cn i))))]) S hA [0, 2, 3, 4] [1, 5, 6, 7, 8, 9, 10] rfl rfl (by decide) (by decide) (va_runV (As := [.int (nI (42 * ri + 0)), .long 1]) (rest := []) ⟨hx, hb, C.2.2.1, C.2.2.2.1, C.2.2.2.2.1⟩ (g_Mo_putZ l G k h0 _ (42 * ri + 0) 1 ma (va_up (va_up (va_up (va_up iv 14 (nI un)) 24 (nI rows)) 25 (nI (tk9 + 2))) 28 (-1)) co D Z B T8 hT3 (by omega) (by decide)) (k_virt (n := 2) C wc_Mo_put rfl rfl wz_Mo wm_Mo_360 wn_Mo_put ws_Mo_put (by decide +kernel) ⟨(Nat.le_of_ble_eq_true rfl), (Nat.le_of_ble_eq_true rfl)⟩) (pr_nowV K S [0, 2, 3, 4] (by decide) rfl 0 rfl rfl) rfl rfl hl.1 rfl (lv_room (Nat.le_of_ble_eq_true rfl)) d_Mo_reach_97 ⟨(Nat.le_of_ble_eq_true rfl), (Nat.le_of_ble_eq_true rfl)⟩) (fun p9 H locs hw14 S => ?_)
                have S : Sw G A s.heap _ _ [((ma 15), .inl (k 1, 3690, .inr (.inl sm))), ((ma 24), .inl (k 0, 170, .inl (fun i => nI (O i)))), ((ma 25), .inl (k 0, 170, .inl (fun i => nI (T2 i)))), ((ma 26), .inl (k 0, 170, .inl (fun i => nI (qt i)))), ((ma 27), .inl (k 0, 170, .inl (fun i => nI (Dv i)))), ((ma 28), .inl (k 0, 90, .inl (fun i => nI (rn i)))), ((ma 29), .inl (k 0, 41, .inl (fun i => nI (cn i)))), (h0, .inr (8, moL ma (va_up (va_up (va_up (va_up iv 14 (nI un)) 24 (nI rows)) 25 (nI (tk9 + 2))) 28 (-1)) co)), ((ma 21), .inl (k 0, 319840, .inl (fun i => nI (p9.1 i)))), ((ma 22), .inl (k 0, 3998, .inl (fun i => nI (p9.2.1 i)))), ((ma 23), .inl (k 2, 3998, .inl (fun i => nI (p9.2.2 i))))] := S
                have hT_p9 : tbO p9.1 p9.2.1 p9.2.2 (va_up T8 (42 * ri + 0) 1) := by have h9 := hw14; rw [show (1 : Int64).toInt = 1 from by decide] at h9; exact h9
                refine lv_iinc (v := nI (ri + 1)) (lv' := [(2, .int (nI (ri + 1))), (1, .int (nI wr)), (0, .ref h0)]) hx hb d_Mo_reach_100 hl (k := 0) rfl (show nI ri + Int32.ofInt 1 = nI (ri + 1) from (nI_add ri 1).trans (congrArg nI (by omega))) (by decide) rfl (fun ls hl => ?_)
                refine lv_goto (tgt := 82) hx hb d_Mo_reach_103 (by decide) ?_
                exact ih_lq (ri + 1) p9.1 p9.2.1 p9.2.2 (va_up T8 (42 * ri + 0) 1) (by omega) (by omega) hT_p9 (lyE_s hu hro (by omega) hE) (by rw [va_up_ne _ _ (by omega)]; exact h94) _ _ (S.sub [7, 0, 8, 9, 10, 1, 2, 3, 4, 5, 6] (by decide) rfl) ls (lv_sub hl [0, 1, 2] rfl)
          exact lq _ 0 dg sz bl T (Nat.lt_succ_self _) (by omega) hT (lyE_0 hL) rfl _ _ (S.sub [0, 1, 2, 3, 4, 5, 6, 7, 8, 9, 10] (by decide) rfl) ls (lv_sub hl [0, 1, 2] rfl)
      · refine lv_aload_n hx hb d_Mo_reach_12 rfl (lv_at hl 2 rfl) ?_
        refine r_get C K S 0 rfl rfl clOk_Mo 33 (by decide) wf_Mo_64 (v := .ref (ma 15)) rfl d_Mo_reach_13 ?_
        refine lv_bipush (v := 41) hx hb d_Mo_reach_16 (by decide) ?_
        refine lv_iload_n hx hb d_Mo_reach_18 rfl (lv_at hl 0 rfl) ?_
        refine z_imul (x := 41) (y := nI ri) (v := nI (41 * ri)) hx hb d_Mo_reach_19 (pk_mul 41 ri) ?_
        refine lv_bipush (v := 40) hx hb d_Mo_reach_20 (by decide) ?_
        refine z_iadd (x := nI (41 * ri)) (y := 40) (v := nI (41 * ri + 40)) hx hb d_Mo_reach_22 (nI_add (41 * ri) 40) ?_
        refine r_lald C K S 1 rfl (i := nI (41 * ri + 40)) (show vp_in (nI (41 * ri + 40)) _ from vp_in_nI (n := (41 * ri + 40)) (by omega) (by decide)) (v := sm (41 * ri + 40)) (by rw [nI_clamp (by omega)]) d_Mo_reach_23 ?_
        refine lv_lconst (v := 0) hx hb d_Mo_reach_24 (by decide) ?_
        refine W.lcmp hx hb d_Mo_reach_25 ?_
        refine lv_if_ge (tgt := 63) hx hb d_Mo_reach_26 (by decide) (fun hc15 => ?_) (fun hc15 => ?_)
        · refine lv_iinc (v := nI (ri + 1)) (lv' := [(2, .int (nI (ri + 1))), (1, .int (bI b9)), (0, .ref h0)]) hx hb d_Mo_reach_63 hl (k := 0) rfl (show nI ri + Int32.ofInt 1 = nI (ri + 1) from (nI_add ri 1).trans (congrArg nI (by omega))) (by decide) rfl (fun ls hl => ?_)
          refine lv_goto (tgt := 4) hx hb d_Mo_reach_66 (by decide) ?_
          exact ih_lp (ri + 1) b9 (by omega) (by omega) (woO_no (z := (fun i => (sm i).toInt)) hB (lcg_nlt hc15)) _ _ (S.sub [0, 1, 2, 3, 4, 5, 6, 7, 8, 9, 10] (by decide) rfl) ls (lv_sub hl [0, 1, 2] rfl)
        · cases b9 with
          | none =>
            have hl : lv_has ls 5 [(2, .int (nI ri)), (1, .int (-1)), (0, .ref h0)] := hl
            refine lv_iload_n hx hb d_Mo_reach_29 rfl (lv_at hl 1 rfl) ?_
            refine lv_if_lt (tgt := 61) hx hb d_Mo_reach_30 (by decide) (fun _ => ?_) (fun hq => absurd (by decide) hq)
            refine lv_iload_n hx hb d_Mo_reach_61 rfl (lv_at hl 0 rfl) ?_
            refine lv_istore_n (lv' := [(1, .int (nI ri)), (2, .int (nI ri)), (0, .ref h0)]) hx hb d_Mo_reach_62 rfl hl (by decide) rfl (fun ls hl => ?_)
            refine lv_iinc (v := nI (ri + 1)) (lv' := [(2, .int (nI (ri + 1))), (1, .int (nI ri)), (0, .ref h0)]) hx hb d_Mo_reach_63 hl (k := 1) rfl (show nI ri + Int32.ofInt 1 = nI (ri + 1) from (nI_add ri 1).trans (congrArg nI (by omega))) (by decide) rfl (fun ls hl => ?_)
            refine lv_goto (tgt := 4) hx hb d_Mo_reach_66 (by decide) ?_
            exact ih_lp (ri + 1) (some ri) (by omega) (by omega) (woO_first (z := (fun i => (sm i).toInt)) hB (lcg_lt hc15)) _ _ (S.sub [0, 1, 2, 3, 4, 5, 6, 7, 8, 9, 10] (by decide) rfl) ls (lv_sub hl [0, 1, 2] rfl)
          | some wr =>
            have hl : lv_has ls 5 [(2, .int (nI ri)), (1, .int (nI wr)), (0, .ref h0)] := hl
            have q1 := hB.1
            refine lv_iload_n hx hb d_Mo_reach_29 rfl (lv_at hl 1 rfl) ?_
            refine z_if_lt (a := wr) (tgt := 61) hx hb d_Mo_reach_30 (by decide) (by omega) ?_
            refine lv_aload_n hx hb d_Mo_reach_33 rfl (lv_at hl 2 rfl) ?_
            refine r_get C K S 0 rfl rfl clOk_Mo 33 (by decide) wf_Mo_64 (v := .ref (ma 15)) rfl d_Mo_reach_34 ?_
            refine lv_bipush (v := 41) hx hb d_Mo_reach_37 (by decide) ?_
            refine lv_iload_n hx hb d_Mo_reach_39 rfl (lv_at hl 0 rfl) ?_
            refine z_imul (x := 41) (y := nI ri) (v := nI (41 * ri)) hx hb d_Mo_reach_40 (pk_mul 41 ri) ?_
            refine lv_bipush (v := 40) hx hb d_Mo_reach_41 (by decide) ?_
            refine z_iadd (x := nI (41 * ri)) (y := 40) (v := nI (41 * ri + 40)) hx hb d_Mo_reach_43 (nI_add (41 * ri) 40) ?_
            refine r_lald C K S 1 rfl (i := nI (41 * ri + 40)) (show vp_in (nI (41 * ri + 40)) _ from vp_in_nI (n := (41 * ri + 40)) (by omega) (by decide)) (v := sm (41 * ri + 40)) (by rw [nI_clamp (by omega)]) d_Mo_reach_44 ?_
            refine lv_aload_n hx hb d_Mo_reach_45 rfl (lv_at hl 2 rfl) ?_
            refine r_get C K S 0 rfl rfl clOk_Mo 33 (by decide) wf_Mo_64 (v := .ref (ma 15)) rfl d_Mo_reach_46 ?_
            refine lv_bipush (v := 41) hx hb d_Mo_reach_49 (by decide) ?_
            refine lv_iload_n hx hb d_Mo_reach_51 rfl (lv_at hl 1 rfl) ?_
            refine z_imul (x := 41) (y := nI wr) (v := nI (41 * wr)) hx hb d_Mo_reach_52 (pk_mul 41 wr) ?_
            refine lv_bipush (v := 40) hx hb d_Mo_reach_53 (by decide) ?_
            refine z_iadd (x := nI (41 * wr)) (y := 40) (v := nI (41 * wr + 40)) hx hb d_Mo_reach_55 (nI_add (41 * wr) 40) ?_
            refine r_lald C K S 1 rfl (i := nI (41 * wr + 40)) (show vp_in (nI (41 * wr + 40)) _ from vp_in_nI (n := (41 * wr + 40)) (by omega) (by decide)) (v := sm (41 * wr + 40)) (by rw [nI_clamp (by omega)]) d_Mo_reach_56 ?_
            refine W.lcmp hx hb d_Mo_reach_57 ?_
            refine lv_if_ge (tgt := 63) hx hb d_Mo_reach_58 (by decide) (fun hc16 => ?_) (fun hc16 => ?_)
            · refine lv_iinc (v := nI (ri + 1)) (lv' := [(2, .int (nI (ri + 1))), (1, .int (nI wr)), (0, .ref h0)]) hx hb d_Mo_reach_63 hl (k := 0) rfl (show nI ri + Int32.ofInt 1 = nI (ri + 1) from (nI_add ri 1).trans (congrArg nI (by omega))) (by decide) rfl (fun ls hl => ?_)
              refine lv_goto (tgt := 4) hx hb d_Mo_reach_66 (by decide) ?_
              exact ih_lp (ri + 1) (some wr) (by omega) (by omega) (woO_old (z := (fun i => (sm i).toInt)) hB (lcg_nlt hc16)) _ _ (S.sub [0, 1, 2, 3, 4, 5, 6, 7, 8, 9, 10] (by decide) rfl) ls (lv_sub hl [0, 1, 2] rfl)
            · refine lv_iload_n hx hb d_Mo_reach_61 rfl (lv_at hl 0 rfl) ?_
              refine lv_istore_n (lv' := [(1, .int (nI ri)), (2, .int (nI ri)), (0, .ref h0)]) hx hb d_Mo_reach_62 rfl hl (by decide) rfl (fun ls hl => ?_)
              refine lv_iinc (v := nI (ri + 1)) (lv' := [(2, .int (nI (ri + 1))), (1, .int (nI ri)), (0, .ref h0)]) hx hb d_Mo_reach_63 hl (k := 1) rfl (show nI ri + Int32.ofInt 1 = nI (ri + 1) from (nI_add ri 1).trans (congrArg nI (by omega))) (by decide) rfl (fun ls hl => ?_)
              refine lv_goto (tgt := 4) hx hb d_Mo_reach_66 (by decide) ?_
              exact ih_lp (ri + 1) (some ri) (by omega) (by omega) (woO_new (z := (fun i => (sm i).toInt)) hB (lcg_lt hc15) (lcg_lt hc16)) _ _ (S.sub [0, 1, 2, 3, 4, 5, 6, 7, 8, 9, 10] (by decide) rfl) ls (lv_sub hl [0, 1, 2] rfl)
  exact lp _ 0 none (Nat.lt_succ_self _) (by omega) (fun _ h => absurd h (Nat.not_lt_zero _)) _ _ (S.sub [0, 1, 2, 3, 4, 5, 6, 7, 8, 9, 10] (by decide) rfl) ls (lv_sub hl [0, 1, 2] rfl)
