/-- ints that come back -/
def vz (l : List Int32) : Nat → Int32 := fun j => l.getD j 0
def wz (l : List (Nat → Int64)) : Nat → Nat → Int64 := fun j => l.getD j (fun _ => 0)
theorem smO_min {co : Nat} {sm : Nat → Int64} (h : smO co sm) (hc : co ≤ 90) : ∀ i, i < 41 * co → -9223372036854775808 < (sm i).toInt := by
  intro i hi
  have h1 := h (i / 41) (by omega) (by omega)
  have h2 : l1 (sm (i / 41 * 41 + i % 41)) ≤ lz sm (i / 41) := ns_mem (f := fun k => l1 (sm (i / 41 * 41 + k))) (Nat.mod_lt _ (by decide))
  rw [show i / 41 * 41 + i % 41 = i by omega] at h2
  unfold l1 at h2
  omega
theorem smO_dt {co : Nat} {sm : Nat → Int64} (h : smO co sm) (hc : co ≤ 90) : ∀ i, i < co → dt_nm 41 (fun j => (sm (41 * i + j)).toInt) ≤ 65000 := by
  intro i hi
  rw [lz_dt]
  exact h i hi (by omega)
theorem sol_of {un rows tk9 : Nat} {F : Nat → Nat → Int} {cn rn : Nat → Nat} {T : Nat → Int} (hu : un ≤ 40) (hro : rows ≤ 90) (htk : tk9 ≤ 3) (hF : ∀ v, dt_nm (un + 2) (F v) ≤ 65535) (h : tabI un rows (rows + (tk9 + 2)) F cn rn T) : solO tk9 rows T := by
  obtain ⟨⟨⟨e, h1⟩, -, -⟩, -⟩ := h
  have h2 := sx_le h1 (B := 65535) (by decide) hF
  have h3 : 65535 ^ (un + 1 + 1) ≤ 65535 ^ 42 := Nat.pow_le_pow_right (by decide) (by omega)
  have h4 : 65535 ^ 42 < 65536 ^ 42 := Nat.pow_lt_pow_left (by decide) (by decide)
  refine ⟨htk, hro, h1.2.2.1, Nat.lt_of_le_of_lt (Nat.le_trans h2.1 h3) h4, fun i hi => ?_⟩
  have h5 := h2.2 (rows + 1 + i) (by omega) (un + 1) (by omega)
  unfold tC at h5
  rw [cj_n] at h5
  exact Nat.lt_of_le_of_lt (Nat.le_trans h5 h3) h4
theorem flO_no {un co fl : Nat} (h : flO un co fl) (h2 : fl = 0) : un ≤ 40 ∧ co ≤ 90 := by
  unfold flO at h
  rw [h2] at h
  by_cases q : 40 < un ∨ 90 < co
  · rw [if_pos q] at h; exact absurd h (by decide)
  · omega
theorem d_Mo_bound_0 : decode c_Mo_bound 0 = .ok (.aload_n 0, 1) := by decide +kernel
theorem d_Mo_bound_1 : decode c_Mo_bound 1 = .ok (.iconst 0, 1) := by decide +kernel
theorem d_Mo_bound_2 : decode c_Mo_bound 2 = .ok (.putfield 383, 3) := by decide +kernel
theorem d_Mo_bound_5 : decode c_Mo_bound 5 = .ok (.aload_n 0, 1) := by decide +kernel
theorem d_Mo_bound_6 : decode c_Mo_bound 6 = .ok (.iconst 0, 1) := by decide +kernel
theorem d_Mo_bound_7 : decode c_Mo_bound 7 = .ok (.putfield 386, 3) := by decide +kernel
theorem d_Mo_bound_10 : decode c_Mo_bound 10 = .ok (.aload_n 0, 1) := by decide +kernel
theorem d_Mo_bound_11 : decode c_Mo_bound 11 = .ok (.iload_n 1, 1) := by decide +kernel
theorem d_Mo_bound_12 : decode c_Mo_bound 12 = .ok (.invokevirtual 114, 3) := by decide +kernel
theorem d_Mo_bound_15 : decode c_Mo_bound 15 = .ok (.ifCond .eq 10, 3) := by decide +kernel
theorem d_Mo_bound_18 : decode c_Mo_bound 18 = .ok (.aload_n 0, 1) := by decide +kernel
theorem d_Mo_bound_19 : decode c_Mo_bound 19 = .ok (.invokevirtual 182, 3) := by decide +kernel
theorem d_Mo_bound_22 : decode c_Mo_bound 22 = .ok (.ifCond .ne 5, 3) := by decide +kernel
theorem d_Mo_bound_25 : decode c_Mo_bound 25 = .ok (.iconst (-1), 1) := by decide +kernel
theorem d_Mo_bound_26 : decode c_Mo_bound 26 = .ok (.ireturn, 1) := by decide +kernel
theorem d_Mo_bound_27 : decode c_Mo_bound 27 = .ok (.aload_n 0, 1) := by decide +kernel
theorem d_Mo_bound_28 : decode c_Mo_bound 28 = .ok (.iconst 0, 1) := by decide +kernel
theorem d_Mo_bound_29 : decode c_Mo_bound 29 = .ok (.putfield 192, 3) := by decide +kernel
theorem d_Mo_bound_32 : decode c_Mo_bound 32 = .ok (.aload_n 0, 1) := by decide +kernel
theorem d_Mo_bound_33 : decode c_Mo_bound 33 = .ok (.iconst 0, 1) := by decide +kernel
theorem d_Mo_bound_34 : decode c_Mo_bound 34 = .ok (.putfield 198, 3) := by decide +kernel
theorem d_Mo_bound_37 : decode c_Mo_bound 37 = .ok (.aload_n 0, 1) := by decide +kernel
theorem d_Mo_bound_38 : decode c_Mo_bound 38 = .ok (.iconst 0, 1) := by decide +kernel
theorem d_Mo_bound_39 : decode c_Mo_bound 39 = .ok (.putfield 195, 3) := by decide +kernel
theorem d_Mo_bound_42 : decode c_Mo_bound 42 = .ok (.iconst 0, 1) := by decide +kernel
theorem d_Mo_bound_43 : decode c_Mo_bound 43 = .ok (.istore_n 2, 1) := by decide +kernel
theorem d_Mo_bound_44 : decode c_Mo_bound 44 = .ok (.iload_n 2, 1) := by decide +kernel
theorem d_Mo_bound_45 : decode c_Mo_bound 45 = .ok (.aload_n 0, 1) := by decide +kernel
theorem d_Mo_bound_46 : decode c_Mo_bound 46 = .ok (.getfield 111, 3) := by decide +kernel
theorem d_Mo_bound_49 : decode c_Mo_bound 49 = .ok (.if_icmp .ge 36, 3) := by decide +kernel
theorem d_Mo_bound_52 : decode c_Mo_bound 52 = .ok (.aload_n 0, 1) := by decide +kernel
theorem d_Mo_bound_53 : decode c_Mo_bound 53 = .ok (.getfield 61, 3) := by decide +kernel
theorem d_Mo_bound_56 : decode c_Mo_bound 56 = .ok (.iload_n 2, 1) := by decide +kernel
theorem d_Mo_bound_57 : decode c_Mo_bound 57 = .ok (.aload_n 0, 1) := by decide +kernel
theorem d_Mo_bound_58 : decode c_Mo_bound 58 = .ok (.getfield 192, 3) := by decide +kernel
theorem d_Mo_bound_61 : decode c_Mo_bound 61 = .ok (.iastore, 1) := by decide +kernel
theorem d_Mo_bound_62 : decode c_Mo_bound 62 = .ok (.aload_n 0, 1) := by decide +kernel
theorem d_Mo_bound_63 : decode c_Mo_bound 63 = .ok (.dup, 1) := by decide +kernel
theorem d_Mo_bound_64 : decode c_Mo_bound 64 = .ok (.getfield 192, 3) := by decide +kernel
theorem d_Mo_bound_67 : decode c_Mo_bound 67 = .ok (.aload_n 0, 1) := by decide +kernel
theorem d_Mo_bound_68 : decode c_Mo_bound 68 = .ok (.getfield 9, 3) := by decide +kernel
theorem d_Mo_bound_71 : decode c_Mo_bound 71 = .ok (.iload_n 2, 1) := by decide +kernel
theorem d_Mo_bound_72 : decode c_Mo_bound 72 = .ok (.iaload, 1) := by decide +kernel
theorem d_Mo_bound_73 : decode c_Mo_bound 73 = .ok (.iconst 3, 1) := by decide +kernel
theorem d_Mo_bound_74 : decode c_Mo_bound 74 = .ok (.iadd, 1) := by decide +kernel
theorem d_Mo_bound_75 : decode c_Mo_bound 75 = .ok (.iadd, 1) := by decide +kernel
theorem d_Mo_bound_76 : decode c_Mo_bound 76 = .ok (.putfield 192, 3) := by decide +kernel
theorem d_Mo_bound_79 : decode c_Mo_bound 79 = .ok (.iinc 2 1, 3) := by decide +kernel
theorem d_Mo_bound_82 : decode c_Mo_bound 82 = .ok (.goto (-38), 3) := by decide +kernel
theorem d_Mo_bound_85 : decode c_Mo_bound 85 = .ok (.iconst 0, 1) := by decide +kernel
theorem d_Mo_bound_86 : decode c_Mo_bound 86 = .ok (.istore_n 2, 1) := by decide +kernel
theorem d_Mo_bound_87 : decode c_Mo_bound 87 = .ok (.iload_n 2, 1) := by decide +kernel
theorem d_Mo_bound_88 : decode c_Mo_bound 88 = .ok (.aload_n 0, 1) := by decide +kernel
theorem d_Mo_bound_89 : decode c_Mo_bound 89 = .ok (.getfield 111, 3) := by decide +kernel
theorem d_Mo_bound_92 : decode c_Mo_bound 92 = .ok (.if_icmp .ge 14, 3) := by decide +kernel
theorem d_Mo_bound_95 : decode c_Mo_bound 95 = .ok (.aload_n 0, 1) := by decide +kernel
theorem d_Mo_bound_96 : decode c_Mo_bound 96 = .ok (.iload_n 2, 1) := by decide +kernel
theorem d_Mo_bound_97 : decode c_Mo_bound 97 = .ok (.invokevirtual 389, 3) := by decide +kernel
theorem d_Mo_bound_100 : decode c_Mo_bound 100 = .ok (.iinc 2 1, 3) := by decide +kernel
theorem d_Mo_bound_103 : decode c_Mo_bound 103 = .ok (.goto (-16), 3) := by decide +kernel
theorem d_Mo_bound_106 : decode c_Mo_bound 106 = .ok (.aload_n 0, 1) := by decide +kernel
theorem d_Mo_bound_107 : decode c_Mo_bound 107 = .ok (.getfield 195, 3) := by decide +kernel
theorem d_Mo_bound_110 : decode c_Mo_bound 110 = .ok (.ifCond .eq 6, 3) := by decide +kernel
theorem d_Mo_bound_113 : decode c_Mo_bound 113 = .ok (.bipush (-3), 2) := by decide +kernel
theorem d_Mo_bound_115 : decode c_Mo_bound 115 = .ok (.ireturn, 1) := by decide +kernel
theorem d_Mo_bound_116 : decode c_Mo_bound 116 = .ok (.aload_n 0, 1) := by decide +kernel
theorem d_Mo_bound_117 : decode c_Mo_bound 117 = .ok (.iconst 1, 1) := by decide +kernel
theorem d_Mo_bound_118 : decode c_Mo_bound 118 = .ok (.putfield 386, 3) := by decide +kernel
theorem d_Mo_bound_121 : decode c_Mo_bound 121 = .ok (.aload_n 0, 1) := by decide +kernel
theorem d_Mo_bound_122 : decode c_Mo_bound 122 = .ok (.iload_n 1, 1) := by decide +kernel
theorem d_Mo_bound_123 : decode c_Mo_bound 123 = .ok (.putfield 392, 3) := by decide +kernel
theorem d_Mo_bound_126 : decode c_Mo_bound 126 = .ok (.aload_n 0, 1) := by decide +kernel
theorem d_Mo_bound_127 : decode c_Mo_bound 127 = .ok (.iload_n 1, 1) := by decide +kernel
theorem d_Mo_bound_128 : decode c_Mo_bound 128 = .ok (.invokevirtual 395, 3) := by decide +kernel
theorem d_Mo_bound_131 : decode c_Mo_bound 131 = .ok (.aload_n 0, 1) := by decide +kernel
theorem d_Mo_bound_132 : decode c_Mo_bound 132 = .ok (.invokevirtual 398, 3) := by decide +kernel
theorem d_Mo_bound_135 : decode c_Mo_bound 135 = .ok (.ifCond .ne 5, 3) := by decide +kernel
theorem d_Mo_bound_138 : decode c_Mo_bound 138 = .ok (.iconst 0, 1) := by decide +kernel
theorem d_Mo_bound_139 : decode c_Mo_bound 139 = .ok (.ireturn, 1) := by decide +kernel
theorem d_Mo_bound_140 : decode c_Mo_bound 140 = .ok (.aload_n 0, 1) := by decide +kernel
theorem d_Mo_bound_141 : decode c_Mo_bound 141 = .ok (.invokevirtual 401, 3) := by decide +kernel
theorem d_Mo_bound_144 : decode c_Mo_bound 144 = .ok (.aload_n 0, 1) := by decide +kernel
theorem d_Mo_bound_145 : decode c_Mo_bound 145 = .ok (.iconst 1, 1) := by decide +kernel
theorem d_Mo_bound_146 : decode c_Mo_bound 146 = .ok (.putfield 383, 3) := by decide +kernel
theorem d_Mo_bound_149 : decode c_Mo_bound 149 = .ok (.iconst 1, 1) := by decide +kernel
theorem d_Mo_bound_150 : decode c_Mo_bound 150 = .ok (.ireturn, 1) := by decide +kernel