section
theorem tn_inc {L L2 : Nat → Int64} {b k d : Nat} (hk : k < 19) (h1 : ∀ x, x ≠ 22 * b + k → lz L2 x = lz L x) (h2 : lz L2 (22 * b + k) ≤ lz L (22 * b + k) + d) : tn L2 b ≤ tn L b + d := by
  unfold tn
  refine ns_one (j := k) (fun i hi hne => ?_) h2
  rw [h1 _ (by omega)]
  exact Nat.le_refl _
theorem tn_same {L L2 : Nat → Int64} {b : Nat} (h : ∀ k, k < 19 → lz L2 (22 * b + k) = lz L (22 * b + k)) : tn L2 b = tn L b := ns_congr h
theorem d_Mo_needCall_0 : decode c_Mo_needCall 0 = .ok (.aload_n 0, 1) := by decide +kernel
theorem d_Mo_needCall_1 : decode c_Mo_needCall 1 = .ok (.invokevirtual 260, 3) := by decide +kernel
theorem d_Mo_needCall_4 : decode c_Mo_needCall 4 = .ok (.istore 4, 2) := by decide +kernel
theorem d_Mo_needCall_6 : decode c_Mo_needCall 6 = .ok (.aload_n 0, 1) := by decide +kernel
theorem d_Mo_needCall_7 : decode c_Mo_needCall 7 = .ok (.getfield 57, 3) := by decide +kernel
theorem d_Mo_needCall_10 : decode c_Mo_needCall 10 = .ok (.iload_n 1, 1) := by decide +kernel
theorem d_Mo_needCall_11 : decode c_Mo_needCall 11 = .ok (.bipush 19, 2) := by decide +kernel
theorem d_Mo_needCall_13 : decode c_Mo_needCall 13 = .ok (.invokestatic 211, 3) := by decide +kernel
theorem d_Mo_needCall_16 : decode c_Mo_needCall 16 = .ok (.iload 4, 2) := by decide +kernel
theorem d_Mo_needCall_18 : decode c_Mo_needCall 18 = .ok (.iadd, 1) := by decide +kernel
theorem d_Mo_needCall_19 : decode c_Mo_needCall 19 = .ok (.lconst 1, 1) := by decide +kernel
theorem d_Mo_needCall_20 : decode c_Mo_needCall 20 = .ok (.lastore, 1) := by decide +kernel
theorem d_Mo_needCall_21 : decode c_Mo_needCall 21 = .ok (.aload_n 0, 1) := by decide +kernel
theorem d_Mo_needCall_22 : decode c_Mo_needCall 22 = .ok (.invokevirtual 201, 3) := by decide +kernel
theorem d_Mo_needCall_25 : decode c_Mo_needCall 25 = .ok (.istore 5, 2) := by decide +kernel
theorem d_Mo_needCall_27 : decode c_Mo_needCall 27 = .ok (.aload_n 0, 1) := by decide +kernel
theorem d_Mo_needCall_28 : decode c_Mo_needCall 28 = .ok (.getfield 64, 3) := by decide +kernel
theorem d_Mo_needCall_31 : decode c_Mo_needCall 31 = .ok (.iload 5, 2) := by decide +kernel
theorem d_Mo_needCall_33 : decode c_Mo_needCall 33 = .ok (.iload 4, 2) := by decide +kernel
theorem d_Mo_needCall_35 : decode c_Mo_needCall 35 = .ok (.iadd, 1) := by decide +kernel
theorem d_Mo_needCall_36 : decode c_Mo_needCall 36 = .ok (.dup2, 1) := by decide +kernel
theorem d_Mo_needCall_37 : decode c_Mo_needCall 37 = .ok (.laload, 1) := by decide +kernel
theorem d_Mo_needCall_38 : decode c_Mo_needCall 38 = .ok (.lconst 1, 1) := by decide +kernel
theorem d_Mo_needCall_39 : decode c_Mo_needCall 39 = .ok (.ladd, 1) := by decide +kernel
theorem d_Mo_needCall_40 : decode c_Mo_needCall 40 = .ok (.lastore, 1) := by decide +kernel
theorem d_Mo_needCall_41 : decode c_Mo_needCall 41 = .ok (.aload_n 0, 1) := by decide +kernel
theorem d_Mo_needCall_42 : decode c_Mo_needCall 42 = .ok (.getfield 64, 3) := by decide +kernel
theorem d_Mo_needCall_45 : decode c_Mo_needCall 45 = .ok (.iload 5, 2) := by decide +kernel
theorem d_Mo_needCall_47 : decode c_Mo_needCall 47 = .ok (.aload_n 0, 1) := by decide +kernel
theorem d_Mo_needCall_48 : decode c_Mo_needCall 48 = .ok (.iload_n 3, 1) := by decide +kernel
theorem d_Mo_needCall_49 : decode c_Mo_needCall 49 = .ok (.aload_n 0, 1) := by decide +kernel
theorem d_Mo_needCall_50 : decode c_Mo_needCall 50 = .ok (.getfield 9, 3) := by decide +kernel
theorem d_Mo_needCall_53 : decode c_Mo_needCall 53 = .ok (.iload_n 3, 1) := by decide +kernel
theorem d_Mo_needCall_54 : decode c_Mo_needCall 54 = .ok (.iaload, 1) := by decide +kernel
theorem d_Mo_needCall_55 : decode c_Mo_needCall 55 = .ok (.invokevirtual 263, 3) := by decide +kernel
theorem d_Mo_needCall_58 : decode c_Mo_needCall 58 = .ok (.iadd, 1) := by decide +kernel
theorem d_Mo_needCall_59 : decode c_Mo_needCall 59 = .ok (.dup2, 1) := by decide +kernel
theorem d_Mo_needCall_60 : decode c_Mo_needCall 60 = .ok (.laload, 1) := by decide +kernel
theorem d_Mo_needCall_61 : decode c_Mo_needCall 61 = .ok (.lconst 1, 1) := by decide +kernel
theorem d_Mo_needCall_62 : decode c_Mo_needCall 62 = .ok (.lsub, 1) := by decide +kernel
theorem d_Mo_needCall_63 : decode c_Mo_needCall 63 = .ok (.lastore, 1) := by decide +kernel
theorem d_Mo_needCall_64 : decode c_Mo_needCall 64 = .ok (.aload_n 0, 1) := by decide +kernel
theorem d_Mo_needCall_65 : decode c_Mo_needCall 65 = .ok (.invokevirtual 201, 3) := by decide +kernel
theorem d_Mo_needCall_68 : decode c_Mo_needCall 68 = .ok (.istore 5, 2) := by decide +kernel
theorem d_Mo_needCall_70 : decode c_Mo_needCall 70 = .ok (.aload_n 0, 1) := by decide +kernel
theorem d_Mo_needCall_71 : decode c_Mo_needCall 71 = .ok (.getfield 64, 3) := by decide +kernel
theorem d_Mo_needCall_74 : decode c_Mo_needCall 74 = .ok (.iload 5, 2) := by decide +kernel
theorem d_Mo_needCall_76 : decode c_Mo_needCall 76 = .ok (.iload 4, 2) := by decide +kernel
theorem d_Mo_needCall_78 : decode c_Mo_needCall 78 = .ok (.iadd, 1) := by decide +kernel
theorem d_Mo_needCall_79 : decode c_Mo_needCall 79 = .ok (.dup2, 1) := by decide +kernel
theorem d_Mo_needCall_80 : decode c_Mo_needCall 80 = .ok (.laload, 1) := by decide +kernel
theorem d_Mo_needCall_81 : decode c_Mo_needCall 81 = .ok (.lconst 1, 1) := by decide +kernel
theorem d_Mo_needCall_82 : decode c_Mo_needCall 82 = .ok (.ladd, 1) := by decide +kernel
theorem d_Mo_needCall_83 : decode c_Mo_needCall 83 = .ok (.lastore, 1) := by decide +kernel
theorem d_Mo_needCall_84 : decode c_Mo_needCall 84 = .ok (.aload_n 0, 1) := by decide +kernel
theorem d_Mo_needCall_85 : decode c_Mo_needCall 85 = .ok (.getfield 64, 3) := by decide +kernel
theorem d_Mo_needCall_88 : decode c_Mo_needCall 88 = .ok (.iload 5, 2) := by decide +kernel
theorem d_Mo_needCall_90 : decode c_Mo_needCall 90 = .ok (.aload_n 0, 1) := by decide +kernel
theorem d_Mo_needCall_91 : decode c_Mo_needCall 91 = .ok (.iload_n 3, 1) := by decide +kernel
theorem d_Mo_needCall_92 : decode c_Mo_needCall 92 = .ok (.aload_n 0, 1) := by decide +kernel
theorem d_Mo_needCall_93 : decode c_Mo_needCall 93 = .ok (.getfield 9, 3) := by decide +kernel
theorem d_Mo_needCall_96 : decode c_Mo_needCall 96 = .ok (.iload_n 3, 1) := by decide +kernel
theorem d_Mo_needCall_97 : decode c_Mo_needCall 97 = .ok (.iaload, 1) := by decide +kernel
theorem d_Mo_needCall_98 : decode c_Mo_needCall 98 = .ok (.invokevirtual 263, 3) := by decide +kernel
theorem d_Mo_needCall_101 : decode c_Mo_needCall 101 = .ok (.iadd, 1) := by decide +kernel
theorem d_Mo_needCall_102 : decode c_Mo_needCall 102 = .ok (.dup2, 1) := by decide +kernel
theorem d_Mo_needCall_103 : decode c_Mo_needCall 103 = .ok (.laload, 1) := by decide +kernel
theorem d_Mo_needCall_104 : decode c_Mo_needCall 104 = .ok (.lconst 1, 1) := by decide +kernel
theorem d_Mo_needCall_105 : decode c_Mo_needCall 105 = .ok (.lsub, 1) := by decide +kernel
theorem d_Mo_needCall_106 : decode c_Mo_needCall 106 = .ok (.lastore, 1) := by decide +kernel
theorem d_Mo_needCall_107 : decode c_Mo_needCall 107 = .ok (.aload_n 0, 1) := by decide +kernel
theorem d_Mo_needCall_108 : decode c_Mo_needCall 108 = .ok (.getfield 64, 3) := by decide +kernel
theorem d_Mo_needCall_111 : decode c_Mo_needCall 111 = .ok (.iload 5, 2) := by decide +kernel
theorem d_Mo_needCall_113 : decode c_Mo_needCall 113 = .ok (.aload_n 0, 1) := by decide +kernel
theorem d_Mo_needCall_114 : decode c_Mo_needCall 114 = .ok (.iload_n 3, 1) := by decide +kernel
theorem d_Mo_needCall_115 : decode c_Mo_needCall 115 = .ok (.aload_n 0, 1) := by decide +kernel
theorem d_Mo_needCall_116 : decode c_Mo_needCall 116 = .ok (.getfield 9, 3) := by decide +kernel
theorem d_Mo_needCall_119 : decode c_Mo_needCall 119 = .ok (.iload_n 3, 1) := by decide +kernel
theorem d_Mo_needCall_120 : decode c_Mo_needCall 120 = .ok (.iaload, 1) := by decide +kernel
theorem d_Mo_needCall_121 : decode c_Mo_needCall 121 = .ok (.iconst 2, 1) := by decide +kernel
theorem d_Mo_needCall_122 : decode c_Mo_needCall 122 = .ok (.iadd, 1) := by decide +kernel
theorem d_Mo_needCall_123 : decode c_Mo_needCall 123 = .ok (.invokevirtual 263, 3) := by decide +kernel
theorem d_Mo_needCall_126 : decode c_Mo_needCall 126 = .ok (.iadd, 1) := by decide +kernel
theorem d_Mo_needCall_127 : decode c_Mo_needCall 127 = .ok (.dup2, 1) := by decide +kernel
theorem d_Mo_needCall_128 : decode c_Mo_needCall 128 = .ok (.laload, 1) := by decide +kernel
theorem d_Mo_needCall_129 : decode c_Mo_needCall 129 = .ok (.lconst 1, 1) := by decide +kernel
theorem d_Mo_needCall_130 : decode c_Mo_needCall 130 = .ok (.ladd, 1) := by decide +kernel
theorem d_Mo_needCall_131 : decode c_Mo_needCall 131 = .ok (.lastore, 1) := by decide +kernel
theorem d_Mo_needCall_132 : decode c_Mo_needCall 132 = .ok (.aload_n 0, 1) := by decide +kernel
theorem d_Mo_needCall_133 : decode c_Mo_needCall 133 = .ok (.iload 5, 2) := by decide +kernel
theorem d_Mo_needCall_135 : decode c_Mo_needCall 135 = .ok (.iload_n 1, 1) := by decide +kernel
theorem d_Mo_needCall_136 : decode c_Mo_needCall 136 = .ok (.bipush 21, 2) := by decide +kernel
theorem d_Mo_needCall_138 : decode c_Mo_needCall 138 = .ok (.invokestatic 211, 3) := by decide +kernel
theorem d_Mo_needCall_141 : decode c_Mo_needCall 141 = .ok (.invokevirtual 205, 3) := by decide +kernel
theorem d_Mo_needCall_144 : decode c_Mo_needCall 144 = .ok (.aload_n 0, 1) := by decide +kernel
theorem d_Mo_needCall_145 : decode c_Mo_needCall 145 = .ok (.aload_n 0, 1) := by decide +kernel
theorem d_Mo_needCall_146 : decode c_Mo_needCall 146 = .ok (.iload_n 3, 1) := by decide +kernel
theorem d_Mo_needCall_147 : decode c_Mo_needCall 147 = .ok (.aload_n 0, 1) := by decide +kernel
theorem d_Mo_needCall_148 : decode c_Mo_needCall 148 = .ok (.getfield 9, 3) := by decide +kernel
theorem d_Mo_needCall_151 : decode c_Mo_needCall 151 = .ok (.iload_n 3, 1) := by decide +kernel
theorem d_Mo_needCall_152 : decode c_Mo_needCall 152 = .ok (.iaload, 1) := by decide +kernel
theorem d_Mo_needCall_153 : decode c_Mo_needCall 153 = .ok (.iconst 1, 1) := by decide +kernel
theorem d_Mo_needCall_154 : decode c_Mo_needCall 154 = .ok (.iadd, 1) := by decide +kernel
theorem d_Mo_needCall_155 : decode c_Mo_needCall 155 = .ok (.invokevirtual 263, 3) := by decide +kernel
theorem d_Mo_needCall_158 : decode c_Mo_needCall 158 = .ok (.iload_n 1, 1) := by decide +kernel
theorem d_Mo_needCall_159 : decode c_Mo_needCall 159 = .ok (.bipush 20, 2) := by decide +kernel
theorem d_Mo_needCall_161 : decode c_Mo_needCall 161 = .ok (.invokestatic 211, 3) := by decide +kernel
theorem d_Mo_needCall_164 : decode c_Mo_needCall 164 = .ok (.invokevirtual 266, 3) := by decide +kernel
theorem d_Mo_needCall_167 : decode c_Mo_needCall 167 = .ok (.iconst 0, 1) := by decide +kernel
theorem d_Mo_needCall_168 : decode c_Mo_needCall 168 = .ok (.istore 6, 2) := by decide +kernel
theorem d_Mo_needCall_170 : decode c_Mo_needCall 170 = .ok (.iload 6, 2) := by decide +kernel
theorem d_Mo_needCall_172 : decode c_Mo_needCall 172 = .ok (.aload_n 0, 1) := by decide +kernel
theorem d_Mo_needCall_173 : decode c_Mo_needCall 173 = .ok (.getfield 9, 3) := by decide +kernel
theorem d_Mo_needCall_176 : decode c_Mo_needCall 176 = .ok (.iload_n 3, 1) := by decide +kernel
theorem d_Mo_needCall_177 : decode c_Mo_needCall 177 = .ok (.iaload, 1) := by decide +kernel
theorem d_Mo_needCall_178 : decode c_Mo_needCall 178 = .ok (.if_icmp .ge 41, 3) := by decide +kernel
theorem d_Mo_needCall_181 : decode c_Mo_needCall 181 = .ok (.aload_n 0, 1) := by decide +kernel
theorem d_Mo_needCall_182 : decode c_Mo_needCall 182 = .ok (.getfield 57, 3) := by decide +kernel
theorem d_Mo_needCall_185 : decode c_Mo_needCall 185 = .ok (.iload_n 1, 1) := by decide +kernel
theorem d_Mo_needCall_186 : decode c_Mo_needCall 186 = .ok (.aload_n 0, 1) := by decide +kernel
theorem d_Mo_needCall_187 : decode c_Mo_needCall 187 = .ok (.getfield 13, 3) := by decide +kernel
theorem d_Mo_needCall_190 : decode c_Mo_needCall 190 = .ok (.iload_n 2, 1) := by decide +kernel
theorem d_Mo_needCall_191 : decode c_Mo_needCall 191 = .ok (.iconst 2, 1) := by decide +kernel
theorem d_Mo_needCall_192 : decode c_Mo_needCall 192 = .ok (.iadd, 1) := by decide +kernel
theorem d_Mo_needCall_193 : decode c_Mo_needCall 193 = .ok (.iload 6, 2) := by decide +kernel
theorem d_Mo_needCall_195 : decode c_Mo_needCall 195 = .ok (.iadd, 1) := by decide +kernel
theorem d_Mo_needCall_196 : decode c_Mo_needCall 196 = .ok (.iaload, 1) := by decide +kernel
theorem d_Mo_needCall_197 : decode c_Mo_needCall 197 = .ok (.invokestatic 211, 3) := by decide +kernel
theorem d_Mo_needCall_200 : decode c_Mo_needCall 200 = .ok (.aload_n 0, 1) := by decide +kernel
theorem d_Mo_needCall_201 : decode c_Mo_needCall 201 = .ok (.iload_n 3, 1) := by decide +kernel
theorem d_Mo_needCall_202 : decode c_Mo_needCall 202 = .ok (.iload 6, 2) := by decide +kernel
theorem d_Mo_needCall_204 : decode c_Mo_needCall 204 = .ok (.invokevirtual 263, 3) := by decide +kernel
theorem d_Mo_needCall_207 : decode c_Mo_needCall 207 = .ok (.iadd, 1) := by decide +kernel
theorem d_Mo_needCall_208 : decode c_Mo_needCall 208 = .ok (.dup2, 1) := by decide +kernel
theorem d_Mo_needCall_209 : decode c_Mo_needCall 209 = .ok (.laload, 1) := by decide +kernel
theorem d_Mo_needCall_210 : decode c_Mo_needCall 210 = .ok (.lconst 1, 1) := by decide +kernel
theorem d_Mo_needCall_211 : decode c_Mo_needCall 211 = .ok (.ladd, 1) := by decide +kernel
theorem d_Mo_needCall_212 : decode c_Mo_needCall 212 = .ok (.lastore, 1) := by decide +kernel
theorem d_Mo_needCall_213 : decode c_Mo_needCall 213 = .ok (.iinc 6 1, 3) := by decide +kernel
theorem d_Mo_needCall_216 : decode c_Mo_needCall 216 = .ok (.goto (-46), 3) := by decide +kernel
theorem d_Mo_needCall_219 : decode c_Mo_needCall 219 = .ok (.return_, 1) := by decide +kernel
set_option maxRecDepth 100000 in
set_option maxHeartbeats 16000000 in
/-- needCall(b9, p9, g9) -/
theorem g_Mo_needCall (l : Launch) (G : va_G) (k : Nat → ClassId) (h0 : Nat) (s0 : Nat) (b9 : Nat) (f9 : Nat) (p9 : Nat) (g9 : Nat) (un : Nat) (co9 : Nat) (fl : Nat) (ma : Nat → Nat) (iv : Nat → Int32) (co : Int64) (tk : Nat → Nat) (fs : Nat → Nat) (wd : Nat → Int32) (L : Nat → Int64) (sm : Nat → Int64) (hbk : b9 < 40) (hf : f9 < 4) (hp : p9 + 2 + tk g9 ≤ 200) (hg : g9 < 4) (hvs : ∀ k9, k9 < tk g9 → ∃ v, wdF wd f9 (p9 + 2 + k9) = nI v ∧ v < 19) (hfs : fs g9 + tk g9 + 2 < 40) (hun : un ≤ 9000) (hco : co9 ≤ 9000) (hfl : fl ≤ 1) (hsm : smO co9 sm) (hG : lz L (22 * b9 + 20) ≤ 60000) (hD : lz L (22 * b9 + 21) ≤ 60000) : CV l y_Mo_needCall c_Mo_needCall 7 { frames := 2, cells := 0, slots := 0, locals := 46 } [.ref h0, .int (nI b9), .int (nI (200 * f9 + p9)), .int (nI g9)] G k s0 [(h0, .inr (8, moL ma (va_up (va_up (va_up iv 14 (nI un)) 15 (nI co9)) 16 (nI fl)) co)), ((ma 0), .inl (k 0, 4, .inl (fun i => nI (tk i)))), ((ma 1), .inl (k 0, 800, .inl wd)), ((ma 14), .inl (k 0, 4, .inl (fun i => nI (fs i)))), ((ma 13), .inl (k 1, 36982, .inr (.inl L))), ((ma 15), .inl (k 1, 3690, .inr (.inl sm)))] (fun (u : (Nat → Int64) × (Nat → Int64)) => smO (co9 + 3) u.2 ∧ lz u.1 (22 * b9 + 19) ≤ lz L (22 * b9 + 19) + 1 ∧ tn u.1 b9 ≤ tn L b9 + tk g9 ∧ ∀ x, x < 22 * b9 ∨ 22 * b9 + 20 ≤ x → lz u.1 x = lz L x) (fun u => [(h0, .inr (8, moL ma (va_up (va_up (va_up iv 14 (nI (un + 1))) 15 (nI (co9 + 3))) 16 (nI (fcN (co9 + 2) (fcN (co9 + 1) (fcN co9 (fuN un fl)))))) co)), ((ma 0), .inl (k 0, 4, .inl (fun i => nI (tk i)))), ((ma 1), .inl (k 0, 800, .inl wd)), ((ma 14), .inl (k 0, 4, .inl (fun i => nI (fs i)))), ((ma 13), .inl (k 1, 36982, .inr (.inl u.1))), ((ma 15), .inl (k 1, 3690, .inr (.inl u.2)))]) 0 0 := by
  refine met_start (by decide) (Nat.le_of_ble_eq_true rfl) ?_
  intro p e s m below meth c C K hA hsz S ls hl
  generalize va_A [(h0, .inr (8, moL ma (va_up (va_up (va_up iv 14 (nI un)) 15 (nI co9)) 16 (nI fl)) co)), ((ma 0), .inl (k 0, 4, .inl (fun i => nI (tk i)))), ((ma 1), .inl (k 0, 800, .inl wd)), ((ma 14), .inl (k 0, 4, .inl (fun i => nI (fs i)))), ((ma 13), .inl (k 1, 36982, .inr (.inl L))), ((ma 15), .inl (k 1, 3690, .inr (.inl sm)))] s0 = A at hA S ⊢
  have hx := C.1
  have hb := C.2.1
  have hl : lv_has ls 7 [(0, .ref h0), (1, .int (nI b9)), (2, .int (nI (200 * f9 + p9))), (3, .int (nI g9))] := hl
  have hu0 := uiN_lt un
  have hc0 := cxN_lt co9
  have hc1 := cxN_lt (co9 + 1)
  have hfu : fuN un fl ≤ 1 := by unfold fuN; split <;> omega
  have hfc : ∀ c x, x ≤ 1 → fcN c x ≤ 1 := fun c x hx => by unfold fcN; split <;> omega
  refine lv_aload_n hx hb d_Mo_needCall_0 rfl (lv_at hl 0 rfl) ?_
  refine r_backi (wi := [(h0, .inr (8, moL ma (va_up (va_up (va_up iv 15 (nI co9)) 14 (nI un)) 16 (nI fl)) co))]) (wr := [((ma 0), .inl (k 0, 4, .inl (fun i => nI (tk i)))), ((ma 1), .inl (k 0, 800, .inl wd)), ((ma 14), .inl (k 0, 4, .inl (fun i => nI (fs i)))), ((ma 13), .inl (k 1, 36982, .inr (.inl L))), ((ma 15), .inl (k 1, 3690, .inr (.inl sm)))]) S hA [0] [1, 2, 3, 4, 5] rfl rfl (by decide) (by decide) (va_runV (As := []) (rest := []) ⟨hx, hb, C.2.2.1, C.2.2.2.1, C.2.2.2.2.1⟩ (g_Mo_newUnknown l G k h0 _ un fl ma (va_up iv 15 (nI co9)) co (by first | assumption | omega) (by first | assumption | omega)) (k_virt (n := 0) C wc_Mo_newUnknown rfl rfl wz_Mo wm_Mo_260 wn_Mo_newUnknown ws_Mo_newUnknown (by decide +kernel) ⟨(Nat.le_of_ble_eq_true rfl), (Nat.le_of_ble_eq_true rfl)⟩) (pr_nowV K S [0] (by decide) rfl 0 rfl rfl) rfl rfl hl.1 rfl (lv_room (Nat.le_of_ble_eq_true rfl)) d_Mo_needCall_1 ⟨(Nat.le_of_ble_eq_true rfl), (Nat.le_of_ble_eq_true rfl)⟩) (fun r3 u1 H locs hw2 S => ?_)
  have S : Sw G A s.heap _ _ [((ma 0), .inl (k 0, 4, .inl (fun i => nI (tk i)))), ((ma 1), .inl (k 0, 800, .inl wd)), ((ma 14), .inl (k 0, 4, .inl (fun i => nI (fs i)))), ((ma 13), .inl (k 1, 36982, .inr (.inl L))), ((ma 15), .inl (k 1, 3690, .inr (.inl sm))), (h0, .inr (8, moL ma (va_up (va_up (va_up iv 15 (nI co9)) 14 (nI (un + 1))) 16 (nI (fuN un fl))) co))] := S
  obtain ⟨hw20, hp4⟩ := hw2
  obtain rfl : r3 = nI (uiN un) := hw20
  refine lv_istore (lv' := [(4, .int (nI (uiN un))), (0, .ref h0), (1, .int (nI b9)), (2, .int (nI (200 * f9 + p9))), (3, .int (nI g9))]) hx hb d_Mo_needCall_4 hl (by decide) rfl (fun ls hl => ?_)
  refine lv_aload_n hx hb d_Mo_needCall_6 rfl (lv_at hl 1 rfl) ?_
  refine r_get C K S 5 rfl rfl clOk_Mo 27 (by decide) wf_Mo_57 (v := .ref (ma 13)) rfl d_Mo_needCall_7 ?_
  refine lv_iload_n hx hb d_Mo_needCall_10 rfl (lv_at hl 2 rfl) ?_
  refine lv_bipush (v := 19) hx hb d_Mo_needCall_11 (by decide) ?_
  refine r_backi (wi := []) (wr := [((ma 0), .inl (k 0, 4, .inl (fun i => nI (tk i)))), ((ma 1), .inl (k 0, 800, .inl wd)), ((ma 14), .inl (k 0, 4, .inl (fun i => nI (fs i)))), ((ma 13), .inl (k 1, 36982, .inr (.inl L))), ((ma 15), .inl (k 1, 3690, .inr (.inl sm))), (h0, .inr (8, moL ma (va_up (va_up (va_up iv 15 (nI co9)) 14 (nI (un + 1))) 16 (nI (fuN un fl))) co))]) S hA [] [0, 1, 2, 3, 4, 5] rfl rfl (by decide) (by decide) (va_runS (As := [.int (nI b9), .int 19]) (rest := [.ref (ma 13)]) ⟨hx, hb, C.2.2.1, C.2.2.2.1, C.2.2.2.2.1⟩ (g_Mo_line l G k _ b9 19) (k_stat (n := 2) C wc_Mo_line rfl rfl wz_Mo wm_Mo_211 wt_Mo_line (by decide +kernel) ⟨(Nat.le_of_ble_eq_true rfl), (Nat.le_of_ble_eq_true rfl)⟩) (pr_now K S [] (by decide) rfl) rfl rfl hl.1 rfl (lv_room (Nat.le_of_ble_eq_true rfl)) d_Mo_needCall_13 ⟨(Nat.le_of_ble_eq_true rfl), (Nat.le_of_ble_eq_true rfl)⟩) (fun r7 u5 H locs hw6 S => ?_)
  have S : Sw G A s.heap _ _ [((ma 0), .inl (k 0, 4, .inl (fun i => nI (tk i)))), ((ma 1), .inl (k 0, 800, .inl wd)), ((ma 14), .inl (k 0, 4, .inl (fun i => nI (fs i)))), ((ma 13), .inl (k 1, 36982, .inr (.inl L))), ((ma 15), .inl (k 1, 3690, .inr (.inl sm))), (h0, .inr (8, moL ma (va_up (va_up (va_up iv 15 (nI co9)) 14 (nI (un + 1))) 16 (nI (fuN un fl))) co))] := S
  obtain rfl : r7 = nI ((22 * b9 + 19) * 41) := hw6
  refine lv_iload hx hb d_Mo_needCall_16 (lv_at hl 0 rfl) ?_
  refine z_iadd (x := nI ((22 * b9 + 19) * 41)) (y := nI (uiN un)) (v := nI ((22 * b9 + 19) * 41 + uiN un)) hx hb d_Mo_needCall_18 (nI_add ((22 * b9 + 19) * 41) (uiN un)) ?_
  refine lv_lconst (v := 1) hx hb d_Mo_needCall_19 (by decide) ?_
  refine r_last C K S 3 rfl (i := nI ((22 * b9 + 19) * 41 + uiN un)) (x := 1) (show vp_in (nI ((22 * b9 + 19) * 41 + uiN un)) _ from vp_in_nI (n := ((22 * b9 + 19) * 41 + uiN un)) (by omega) (by decide)) (f' := va_up L ((22 * b9 + 19) * 41 + uiN un) 1) (ws' := [((ma 0), .inl (k 0, 4, .inl (fun i => nI (tk i)))), ((ma 1), .inl (k 0, 800, .inl wd)), ((ma 14), .inl (k 0, 4, .inl (fun i => nI (fs i)))), ((ma 13), .inl (k 1, 36982, .inr (.inl (va_up L ((22 * b9 + 19) * 41 + uiN un) 1)))), ((ma 15), .inl (k 1, 3690, .inr (.inl sm))), (h0, .inr (8, moL ma (va_up (va_up (va_up iv 15 (nI co9)) 14 (nI (un + 1))) 16 (nI (fuN un fl))) co))]) (show vp_updL _ (nI ((22 * b9 + 19) * 41 + uiN un) : Int32).toNatClampNeg _ = _ from vp_updL_eq L (j := ((22 * b9 + 19) * 41 + uiN un)) (by omega) 1) rfl d_Mo_needCall_20 (fun H locs S => ?_)
  obtain ⟨L1, he_L1⟩ : ∃ x9 : Nat → Int64, x9 = va_up L ((22 * b9 + 19) * 41 + uiN un) 1 := ⟨_, rfl⟩
  have k1 : lz L1 (22 * b9 + 19) ≤ lz L (22 * b9 + 19) + 1 := by rw [he_L1]; exact Nat.le_trans (lz_up (by have := uiN_lt un; omega)) (by rw [l1_1]; exact Nat.le_refl _)
  have k2 : ∀ x, x ≠ 22 * b9 + 19 → lz L1 x = lz L x := by rw [he_L1]; exact fun x hx => lz_up_ne (by have := uiN_lt un; omega) hx
  have S : Sw G A s.heap H locs [((ma 0), .inl (k 0, 4, .inl (fun i => nI (tk i)))), ((ma 1), .inl (k 0, 800, .inl wd)), ((ma 14), .inl (k 0, 4, .inl (fun i => nI (fs i)))), ((ma 13), .inl (k 1, 36982, .inr (.inl L1))), ((ma 15), .inl (k 1, 3690, .inr (.inl sm))), (h0, .inr (8, moL ma (va_up (va_up (va_up iv 15 (nI co9)) 14 (nI (un + 1))) 16 (nI (fuN un fl))) co))] := by rw [he_L1]; exact S
  refine lv_aload_n hx hb d_Mo_needCall_21 rfl (lv_at hl 1 rfl) ?_
  refine r_backi (wi := [(h0, .inr (8, moL ma (va_up (va_up (va_up iv 14 (nI (un + 1))) 15 (nI co9)) 16 (nI (fuN un fl))) co)), ((ma 15), .inl (k 1, 3690, .inr (.inl sm)))]) (wr := [((ma 0), .inl (k 0, 4, .inl (fun i => nI (tk i)))), ((ma 1), .inl (k 0, 800, .inl wd)), ((ma 14), .inl (k 0, 4, .inl (fun i => nI (fs i)))), ((ma 13), .inl (k 1, 36982, .inr (.inl L1)))]) S hA [5, 4] [0, 1, 2, 3] rfl rfl (by decide) (by decide) (va_runV (As := []) (rest := []) ⟨hx, hb, C.2.2.1, C.2.2.2.1, C.2.2.2.2.1⟩ (g_Mo_newCondition l G k h0 _ co9 (fuN un fl) ma (va_up iv 14 (nI (un + 1))) co sm (by omega) hfu) (k_virt (n := 0) C wc_Mo_newCondition rfl rfl wz_Mo wm_Mo_201 wn_Mo_newCondition ws_Mo_newCondition (by decide +kernel) ⟨(Nat.le_of_ble_eq_true rfl), (Nat.le_of_ble_eq_true rfl)⟩) (pr_nowV K S [5, 4] (by decide) rfl 5 rfl rfl) rfl rfl hl.1 rfl (lv_room (Nat.le_of_ble_eq_true rfl)) d_Mo_needCall_22 ⟨(Nat.le_of_ble_eq_true rfl), (Nat.le_of_ble_eq_true rfl)⟩) (fun r11 u9 H locs hw10 S => ?_)
  have S : Sw G A s.heap _ _ [((ma 0), .inl (k 0, 4, .inl (fun i => nI (tk i)))), ((ma 1), .inl (k 0, 800, .inl wd)), ((ma 14), .inl (k 0, 4, .inl (fun i => nI (fs i)))), ((ma 13), .inl (k 1, 36982, .inr (.inl L1))), (h0, .inr (8, moL ma (va_up (va_up (va_up iv 14 (nI (un + 1))) 15 (nI (co9 + 1))) 16 (nI (fcN co9 (fuN un fl)))) co)), ((ma 15), .inl (k 1, 3690, .inr (.inl (lnC sm (cxN co9 * 41) 41))))] := S
  obtain ⟨hw100, hp12⟩ := hw10
  obtain rfl : r11 = nI (cxN co9 * 41) := hw100
  obtain ⟨s0_, he_s0_⟩ : ∃ x9 : Nat → Int64, x9 = (lnC sm (cxN co9 * 41) 41) := ⟨_, rfl⟩
  have a1 : lz s0_ (cxN co9) = 0 := by rw [he_s0_]; exact lz_C
  have a2 : ∀ x, x ≠ cxN co9 → lz s0_ x = lz sm x := by rw [he_s0_]; exact fun x hx => lz_C_ne hx
  have S : Sw G A s.heap H locs [((ma 0), .inl (k 0, 4, .inl (fun i => nI (tk i)))), ((ma 1), .inl (k 0, 800, .inl wd)), ((ma 14), .inl (k 0, 4, .inl (fun i => nI (fs i)))), ((ma 13), .inl (k 1, 36982, .inr (.inl L1))), (h0, .inr (8, moL ma (va_up (va_up (va_up iv 14 (nI (un + 1))) 15 (nI (co9 + 1))) 16 (nI (fcN co9 (fuN un fl)))) co)), ((ma 15), .inl (k 1, 3690, .inr (.inl s0_)))] := by rw [he_s0_]; exact S
  refine lv_istore (lv' := [(5, .int (nI (cxN co9 * 41))), (4, .int (nI (uiN un))), (0, .ref h0), (1, .int (nI b9)), (2, .int (nI (200 * f9 + p9))), (3, .int (nI g9))]) hx hb d_Mo_needCall_25 hl (by decide) rfl (fun ls hl => ?_)
  refine lv_aload_n hx hb d_Mo_needCall_27 rfl (lv_at hl 2 rfl) ?_
  refine r_get C K S 4 rfl rfl clOk_Mo 33 (by decide) wf_Mo_64 (v := .ref (ma 15)) rfl d_Mo_needCall_28 ?_
  refine lv_iload hx hb d_Mo_needCall_31 (lv_at hl 0 rfl) ?_
  refine lv_iload hx hb d_Mo_needCall_33 (lv_at hl 1 rfl) ?_
  refine z_iadd (x := nI (cxN co9 * 41)) (y := nI (uiN un)) (v := nI (cxN co9 * 41 + uiN un)) hx hb d_Mo_needCall_35 (nI_add (cxN co9 * 41) (uiN un)) ?_
  refine lv_dup2_11 hx hb d_Mo_needCall_36 rfl rfl ?_
  refine r_lald C K S 5 rfl (i := nI (cxN co9 * 41 + uiN un)) (show vp_in (nI (cxN co9 * 41 + uiN un)) _ from vp_in_nI (n := (cxN co9 * 41 + uiN un)) (by omega) (by decide)) (v := s0_ (cxN co9 * 41 + uiN un)) (by rw [nI_clamp (by omega)]) d_Mo_needCall_37 ?_
  refine lv_lconst (v := 1) hx hb d_Mo_needCall_38 (by decide) ?_
  refine lv_ladd hx hb d_Mo_needCall_39 ?_
  refine r_last C K S 5 rfl (i := nI (cxN co9 * 41 + uiN un)) (x := (s0_ (cxN co9 * 41 + uiN un)) + 1) (show vp_in (nI (cxN co9 * 41 + uiN un)) _ from vp_in_nI (n := (cxN co9 * 41 + uiN un)) (by omega) (by decide)) (f' := va_up s0_ (cxN co9 * 41 + uiN un) ((s0_ (cxN co9 * 41 + uiN un)) + 1)) (ws' := [((ma 0), .inl (k 0, 4, .inl (fun i => nI (tk i)))), ((ma 1), .inl (k 0, 800, .inl wd)), ((ma 14), .inl (k 0, 4, .inl (fun i => nI (fs i)))), ((ma 13), .inl (k 1, 36982, .inr (.inl L1))), (h0, .inr (8, moL ma (va_up (va_up (va_up iv 14 (nI (un + 1))) 15 (nI (co9 + 1))) 16 (nI (fcN co9 (fuN un fl)))) co)), ((ma 15), .inl (k 1, 3690, .inr (.inl (va_up s0_ (cxN co9 * 41 + uiN un) ((s0_ (cxN co9 * 41 + uiN un)) + 1)))))]) (show vp_updL _ (nI (cxN co9 * 41 + uiN un) : Int32).toNatClampNeg _ = _ from vp_updL_eq s0_ (j := (cxN co9 * 41 + uiN un)) (by omega) ((s0_ (cxN co9 * 41 + uiN un)) + 1)) rfl d_Mo_needCall_40 (fun H locs S => ?_)
  obtain ⟨s1_, he_s1_⟩ : ∃ x9 : Nat → Int64, x9 = va_up s0_ (cxN co9 * 41 + uiN un) ((s0_ (cxN co9 * 41 + uiN un)) + 1) := ⟨_, rfl⟩
  have b1 : lz s1_ (cxN co9) ≤ 1 := by rw [he_s1_]; exact Nat.le_trans (lz_inc (l1_inc _)) (by rw [a1]; exact Nat.le_refl _)
  have b2 : ∀ x, x ≠ cxN co9 → lz s1_ x = lz sm x := by rw [he_s1_]; exact fun x hx => by rw [lz_up_ne (by have := uiN_lt un; omega) hx]; exact a2 x hx
  have S : Sw G A s.heap H locs [((ma 0), .inl (k 0, 4, .inl (fun i => nI (tk i)))), ((ma 1), .inl (k 0, 800, .inl wd)), ((ma 14), .inl (k 0, 4, .inl (fun i => nI (fs i)))), ((ma 13), .inl (k 1, 36982, .inr (.inl L1))), (h0, .inr (8, moL ma (va_up (va_up (va_up iv 14 (nI (un + 1))) 15 (nI (co9 + 1))) 16 (nI (fcN co9 (fuN un fl)))) co)), ((ma 15), .inl (k 1, 3690, .inr (.inl s1_)))] := by rw [he_s1_]; exact S
  refine lv_aload_n hx hb d_Mo_needCall_41 rfl (lv_at hl 2 rfl) ?_
  refine r_get C K S 4 rfl rfl clOk_Mo 33 (by decide) wf_Mo_64 (v := .ref (ma 15)) rfl d_Mo_needCall_42 ?_
  refine lv_iload hx hb d_Mo_needCall_45 (lv_at hl 0 rfl) ?_
  refine lv_aload_n hx hb d_Mo_needCall_47 rfl (lv_at hl 2 rfl) ?_
  refine lv_iload_n hx hb d_Mo_needCall_48 rfl (lv_at hl 5 rfl) ?_
  refine lv_aload_n hx hb d_Mo_needCall_49 rfl (lv_at hl 2 rfl) ?_
  refine r_get C K S 4 rfl rfl clOk_Mo 1 (by decide) wf_Mo_9 (v := .ref (ma 0)) rfl d_Mo_needCall_50 ?_
  refine lv_iload_n hx hb d_Mo_needCall_53 rfl (lv_at hl 5 rfl) ?_
  refine r_iald C K S 0 rfl (i := nI g9) (show vp_in (nI g9) _ from vp_in_nI (n := g9) (by omega) (by decide)) (v := nI (tk g9)) (by rw [nI_clamp (by omega)]) d_Mo_needCall_54 ?_
  refine r_backi (wi := [(h0, .inr (8, moL ma (va_up (va_up (va_up iv 14 (nI (un + 1))) 15 (nI (co9 + 1))) 16 (nI (fcN co9 (fuN un fl)))) co)), ((ma 14), .inl (k 0, 4, .inl (fun i => nI (fs i))))]) (wr := [((ma 0), .inl (k 0, 4, .inl (fun i => nI (tk i)))), ((ma 1), .inl (k 0, 800, .inl wd)), ((ma 13), .inl (k 1, 36982, .inr (.inl L1))), ((ma 15), .inl (k 1, 3690, .inr (.inl s1_)))]) S hA [4, 2] [0, 1, 3, 5] rfl rfl (by decide) (by decide) (va_runV (As := [.int (nI g9), .int (nI (tk g9))]) (rest := [.int (nI (cxN co9 * 41)), .ref (ma 15)]) ⟨hx, hb, C.2.2.1, C.2.2.2.1, C.2.2.2.2.1⟩ (g_Mo_unknown l G k h0 _ ma (va_up (va_up (va_up iv 14 (nI (un + 1))) 15 (nI (co9 + 1))) 16 (nI (fcN co9 (fuN un fl)))) co fs g9 (tk g9) hg) (k_virt (n := 2) C wc_Mo_unknown rfl rfl wz_Mo wm_Mo_263 wn_Mo_unknown ws_Mo_unknown (by decide +kernel) ⟨(Nat.le_of_ble_eq_true rfl), (Nat.le_of_ble_eq_true rfl)⟩) (pr_nowV K S [4, 2] (by decide) rfl 4 rfl rfl) rfl rfl hl.1 rfl (lv_room (Nat.le_of_ble_eq_true rfl)) d_Mo_needCall_55 ⟨(Nat.le_of_ble_eq_true rfl), (Nat.le_of_ble_eq_true rfl)⟩) (fun r15 u13 H locs hw14 S => ?_)
  have S : Sw G A s.heap _ _ [((ma 0), .inl (k 0, 4, .inl (fun i => nI (tk i)))), ((ma 1), .inl (k 0, 800, .inl wd)), ((ma 13), .inl (k 1, 36982, .inr (.inl L1))), ((ma 15), .inl (k 1, 3690, .inr (.inl s1_))), (h0, .inr (8, moL ma (va_up (va_up (va_up iv 14 (nI (un + 1))) 15 (nI (co9 + 1))) 16 (nI (fcN co9 (fuN un fl)))) co)), ((ma 14), .inl (k 0, 4, .inl (fun i => nI (fs i))))] := S
  obtain rfl : r15 = nI (fs g9 + (tk g9)) := hw14
  refine z_iadd (x := nI (cxN co9 * 41)) (y := nI (fs g9 + (tk g9))) (v := nI (cxN co9 * 41 + (fs g9 + (tk g9)))) hx hb d_Mo_needCall_58 (show _ = nI (cxN co9 * 41 + (fs g9 + (tk g9))) from (nI_add (cxN co9 * 41) (fs g9 + (tk g9))).trans (congrArg nI (by omega))) ?_
  refine lv_dup2_11 hx hb d_Mo_needCall_59 rfl rfl ?_
  refine r_lald C K S 3 rfl (i := nI (cxN co9 * 41 + (fs g9 + (tk g9)))) (show vp_in (nI (cxN co9 * 41 + (fs g9 + (tk g9)))) _ from vp_in_nI (n := (cxN co9 * 41 + (fs g9 + (tk g9)))) (by omega) (by decide)) (v := s1_ (cxN co9 * 41 + (fs g9 + (tk g9)))) (by rw [nI_clamp (by omega)]) d_Mo_needCall_60 ?_
  refine lv_lconst (v := 1) hx hb d_Mo_needCall_61 (by decide) ?_
  refine lv_lsub hx hb d_Mo_needCall_62 ?_
  refine r_last C K S 3 rfl (i := nI (cxN co9 * 41 + (fs g9 + (tk g9)))) (x := (s1_ (cxN co9 * 41 + (fs g9 + (tk g9)))) - 1) (show vp_in (nI (cxN co9 * 41 + (fs g9 + (tk g9)))) _ from vp_in_nI (n := (cxN co9 * 41 + (fs g9 + (tk g9)))) (by omega) (by decide)) (f' := va_up s1_ (cxN co9 * 41 + (fs g9 + (tk g9))) ((s1_ (cxN co9 * 41 + (fs g9 + (tk g9)))) - 1)) (ws' := [((ma 0), .inl (k 0, 4, .inl (fun i => nI (tk i)))), ((ma 1), .inl (k 0, 800, .inl wd)), ((ma 13), .inl (k 1, 36982, .inr (.inl L1))), ((ma 15), .inl (k 1, 3690, .inr (.inl (va_up s1_ (cxN co9 * 41 + (fs g9 + (tk g9))) ((s1_ (cxN co9 * 41 + (fs g9 + (tk g9)))) - 1))))), (h0, .inr (8, moL ma (va_up (va_up (va_up iv 14 (nI (un + 1))) 15 (nI (co9 + 1))) 16 (nI (fcN co9 (fuN un fl)))) co)), ((ma 14), .inl (k 0, 4, .inl (fun i => nI (fs i))))]) (show vp_updL _ (nI (cxN co9 * 41 + (fs g9 + (tk g9))) : Int32).toNatClampNeg _ = _ from vp_updL_eq s1_ (j := (cxN co9 * 41 + (fs g9 + (tk g9)))) (by omega) ((s1_ (cxN co9 * 41 + (fs g9 + (tk g9)))) - 1)) rfl d_Mo_needCall_63 (fun H locs S => ?_)
  obtain ⟨s2_, he_s2_⟩ : ∃ x9 : Nat → Int64, x9 = va_up s1_ (cxN co9 * 41 + (fs g9 + (tk g9))) ((s1_ (cxN co9 * 41 + (fs g9 + (tk g9)))) - 1) := ⟨_, rfl⟩
  have c1 : lz s2_ (cxN co9) ≤ 2 := by rw [he_s2_]; exact Nat.le_trans (lz_inc (l1_dec _)) (by omega)
  have c2 : ∀ x, x ≠ cxN co9 → lz s2_ x = lz sm x := by rw [he_s2_]; exact fun x hx => by rw [lz_up_ne (by omega) hx]; exact b2 x hx
  have S : Sw G A s.heap H locs [((ma 0), .inl (k 0, 4, .inl (fun i => nI (tk i)))), ((ma 1), .inl (k 0, 800, .inl wd)), ((ma 13), .inl (k 1, 36982, .inr (.inl L1))), ((ma 15), .inl (k 1, 3690, .inr (.inl s2_))), (h0, .inr (8, moL ma (va_up (va_up (va_up iv 14 (nI (un + 1))) 15 (nI (co9 + 1))) 16 (nI (fcN co9 (fuN un fl)))) co)), ((ma 14), .inl (k 0, 4, .inl (fun i => nI (fs i))))] := by rw [he_s2_]; exact S
  have hsm1 : smO (co9 + 1) s2_ := smO_s hsm c2 (by omega)
  refine lv_aload_n hx hb d_Mo_needCall_64 rfl (lv_at hl 2 rfl) ?_
  refine r_backi (wi := [(h0, .inr (8, moL ma (va_up (va_up (va_up iv 14 (nI (un + 1))) 15 (nI (co9 + 1))) 16 (nI (fcN co9 (fuN un fl)))) co)), ((ma 15), .inl (k 1, 3690, .inr (.inl s2_)))]) (wr := [((ma 0), .inl (k 0, 4, .inl (fun i => nI (tk i)))), ((ma 1), .inl (k 0, 800, .inl wd)), ((ma 13), .inl (k 1, 36982, .inr (.inl L1))), ((ma 14), .inl (k 0, 4, .inl (fun i => nI (fs i))))]) S hA [4, 3] [0, 1, 2, 5] rfl rfl (by decide) (by decide) (va_runV (As := []) (rest := []) ⟨hx, hb, C.2.2.1, C.2.2.2.1, C.2.2.2.2.1⟩ (g_Mo_newCondition l G k h0 _ (co9 + 1) (fcN co9 (fuN un fl)) ma (va_up iv 14 (nI (un + 1))) co s2_ (by omega) (hfc _ _ hfu)) (k_virt (n := 0) C wc_Mo_newCondition rfl rfl wz_Mo wm_Mo_201 wn_Mo_newCondition ws_Mo_newCondition (by decide +kernel) ⟨(Nat.le_of_ble_eq_true rfl), (Nat.le_of_ble_eq_true rfl)⟩) (pr_nowV K S [4, 3] (by decide) rfl 4 rfl rfl) rfl rfl hl.1 rfl (lv_room (Nat.le_of_ble_eq_true rfl)) d_Mo_needCall_65 ⟨(Nat.le_of_ble_eq_true rfl), (Nat.le_of_ble_eq_true rfl)⟩) (fun r19 u17 H locs hw18 S => ?_)
  have S : Sw G A s.heap _ _ [((ma 0), .inl (k 0, 4, .inl (fun i => nI (tk i)))), ((ma 1), .inl (k 0, 800, .inl wd)), ((ma 13), .inl (k 1, 36982, .inr (.inl L1))), ((ma 14), .inl (k 0, 4, .inl (fun i => nI (fs i)))), (h0, .inr (8, moL ma (va_up (va_up (va_up iv 14 (nI (un + 1))) 15 (nI ((co9 + 1) + 1))) 16 (nI (fcN (co9 + 1) (fcN co9 (fuN un fl))))) co)), ((ma 15), .inl (k 1, 3690, .inr (.inl (lnC s2_ (cxN (co9 + 1) * 41) 41))))] := S
  obtain ⟨hw180, hp20⟩ := hw18
  obtain rfl : r19 = nI (cxN (co9 + 1) * 41) := hw180
  obtain ⟨s3_, he_s3_⟩ : ∃ x9 : Nat → Int64, x9 = (lnC s2_ (cxN (co9 + 1) * 41) 41) := ⟨_, rfl⟩
  have d1 : lz s3_ (cxN (co9 + 1)) = 0 := by rw [he_s3_]; exact lz_C
  have d2 : ∀ x, x ≠ cxN (co9 + 1) → lz s3_ x = lz s2_ x := by rw [he_s3_]; exact fun x hx => lz_C_ne hx
  have S : Sw G A s.heap H locs [((ma 0), .inl (k 0, 4, .inl (fun i => nI (tk i)))), ((ma 1), .inl (k 0, 800, .inl wd)), ((ma 13), .inl (k 1, 36982, .inr (.inl L1))), ((ma 14), .inl (k 0, 4, .inl (fun i => nI (fs i)))), (h0, .inr (8, moL ma (va_up (va_up (va_up iv 14 (nI (un + 1))) 15 (nI ((co9 + 1) + 1))) 16 (nI (fcN (co9 + 1) (fcN co9 (fuN un fl))))) co)), ((ma 15), .inl (k 1, 3690, .inr (.inl s3_)))] := by rw [he_s3_]; exact S
  refine lv_istore (lv' := [(5, .int (nI (cxN (co9 + 1) * 41))), (4, .int (nI (uiN un))), (0, .ref h0), (1, .int (nI b9)), (2, .int (nI (200 * f9 + p9))), (3, .int (nI g9))]) hx hb d_Mo_needCall_68 hl (by decide) rfl (fun ls hl => ?_)
  refine lv_aload_n hx hb d_Mo_needCall_70 rfl (lv_at hl 2 rfl) ?_
  refine r_get C K S 4 rfl rfl clOk_Mo 33 (by decide) wf_Mo_64 (v := .ref (ma 15)) rfl d_Mo_needCall_71 ?_
  refine lv_iload hx hb d_Mo_needCall_74 (lv_at hl 0 rfl) ?_
  refine lv_iload hx hb d_Mo_needCall_76 (lv_at hl 1 rfl) ?_
  refine z_iadd (x := nI (cxN (co9 + 1) * 41)) (y := nI (uiN un)) (v := nI (cxN (co9 + 1) * 41 + uiN un)) hx hb d_Mo_needCall_78 (nI_add (cxN (co9 + 1) * 41) (uiN un)) ?_
  refine lv_dup2_11 hx hb d_Mo_needCall_79 rfl rfl ?_
  refine r_lald C K S 5 rfl (i := nI (cxN (co9 + 1) * 41 + uiN un)) (show vp_in (nI (cxN (co9 + 1) * 41 + uiN un)) _ from vp_in_nI (n := (cxN (co9 + 1) * 41 + uiN un)) (by omega) (by decide)) (v := s3_ (cxN (co9 + 1) * 41 + uiN un)) (by rw [nI_clamp (by omega)]) d_Mo_needCall_80 ?_
  refine lv_lconst (v := 1) hx hb d_Mo_needCall_81 (by decide) ?_
  refine lv_ladd hx hb d_Mo_needCall_82 ?_
  refine r_last C K S 5 rfl (i := nI (cxN (co9 + 1) * 41 + uiN un)) (x := (s3_ (cxN (co9 + 1) * 41 + uiN un)) + 1) (show vp_in (nI (cxN (co9 + 1) * 41 + uiN un)) _ from vp_in_nI (n := (cxN (co9 + 1) * 41 + uiN un)) (by omega) (by decide)) (f' := va_up s3_ (cxN (co9 + 1) * 41 + uiN un) ((s3_ (cxN (co9 + 1) * 41 + uiN un)) + 1)) (ws' := [((ma 0), .inl (k 0, 4, .inl (fun i => nI (tk i)))), ((ma 1), .inl (k 0, 800, .inl wd)), ((ma 13), .inl (k 1, 36982, .inr (.inl L1))), ((ma 14), .inl (k 0, 4, .inl (fun i => nI (fs i)))), (h0, .inr (8, moL ma (va_up (va_up (va_up iv 14 (nI (un + 1))) 15 (nI ((co9 + 1) + 1))) 16 (nI (fcN (co9 + 1) (fcN co9 (fuN un fl))))) co)), ((ma 15), .inl (k 1, 3690, .inr (.inl (va_up s3_ (cxN (co9 + 1) * 41 + uiN un) ((s3_ (cxN (co9 + 1) * 41 + uiN un)) + 1)))))]) (show vp_updL _ (nI (cxN (co9 + 1) * 41 + uiN un) : Int32).toNatClampNeg _ = _ from vp_updL_eq s3_ (j := (cxN (co9 + 1) * 41 + uiN un)) (by omega) ((s3_ (cxN (co9 + 1) * 41 + uiN un)) + 1)) rfl d_Mo_needCall_83 (fun H locs S => ?_)
  obtain ⟨s4_, he_s4_⟩ : ∃ x9 : Nat → Int64, x9 = va_up s3_ (cxN (co9 + 1) * 41 + uiN un) ((s3_ (cxN (co9 + 1) * 41 + uiN un)) + 1) := ⟨_, rfl⟩
  have e1 : lz s4_ (cxN (co9 + 1)) ≤ 1 := by rw [he_s4_]; exact Nat.le_trans (lz_inc (l1_inc _)) (by rw [d1]; exact Nat.le_refl _)
  have e2 : ∀ x, x ≠ cxN (co9 + 1) → lz s4_ x = lz s2_ x := by rw [he_s4_]; exact fun x hx => by rw [lz_up_ne (by have := uiN_lt un; omega) hx]; exact d2 x hx
  have S : Sw G A s.heap H locs [((ma 0), .inl (k 0, 4, .inl (fun i => nI (tk i)))), ((ma 1), .inl (k 0, 800, .inl wd)), ((ma 13), .inl (k 1, 36982, .inr (.inl L1))), ((ma 14), .inl (k 0, 4, .inl (fun i => nI (fs i)))), (h0, .inr (8, moL ma (va_up (va_up (va_up iv 14 (nI (un + 1))) 15 (nI ((co9 + 1) + 1))) 16 (nI (fcN (co9 + 1) (fcN co9 (fuN un fl))))) co)), ((ma 15), .inl (k 1, 3690, .inr (.inl s4_)))] := by rw [he_s4_]; exact S
  refine lv_aload_n hx hb d_Mo_needCall_84 rfl (lv_at hl 2 rfl) ?_
  refine r_get C K S 4 rfl rfl clOk_Mo 33 (by decide) wf_Mo_64 (v := .ref (ma 15)) rfl d_Mo_needCall_85 ?_
  refine lv_iload hx hb d_Mo_needCall_88 (lv_at hl 0 rfl) ?_
  refine lv_aload_n hx hb d_Mo_needCall_90 rfl (lv_at hl 2 rfl) ?_
  refine lv_iload_n hx hb d_Mo_needCall_91 rfl (lv_at hl 5 rfl) ?_
  refine lv_aload_n hx hb d_Mo_needCall_92 rfl (lv_at hl 2 rfl) ?_
  refine r_get C K S 4 rfl rfl clOk_Mo 1 (by decide) wf_Mo_9 (v := .ref (ma 0)) rfl d_Mo_needCall_93 ?_
  refine lv_iload_n hx hb d_Mo_needCall_96 rfl (lv_at hl 5 rfl) ?_
  refine r_iald C K S 0 rfl (i := nI g9) (show vp_in (nI g9) _ from vp_in_nI (n := g9) (by omega) (by decide)) (v := nI (tk g9)) (by rw [nI_clamp (by omega)]) d_Mo_needCall_97 ?_
  refine r_backi (wi := [(h0, .inr (8, moL ma (va_up (va_up (va_up iv 14 (nI (un + 1))) 15 (nI ((co9 + 1) + 1))) 16 (nI (fcN (co9 + 1) (fcN co9 (fuN un fl))))) co)), ((ma 14), .inl (k 0, 4, .inl (fun i => nI (fs i))))]) (wr := [((ma 0), .inl (k 0, 4, .inl (fun i => nI (tk i)))), ((ma 1), .inl (k 0, 800, .inl wd)), ((ma 13), .inl (k 1, 36982, .inr (.inl L1))), ((ma 15), .inl (k 1, 3690, .inr (.inl s4_)))]) S hA [4, 3] [0, 1, 2, 5] rfl rfl (by decide) (by decide) (va_runV (As := [.int (nI g9), .int (nI (tk g9))]) (rest := [.int (nI (cxN (co9 + 1) * 41)), .ref (ma 15)]) ⟨hx, hb, C.2.2.1, C.2.2.2.1, C.2.2.2.2.1⟩ (g_Mo_unknown l G k h0 _ ma (va_up (va_up (va_up iv 14 (nI (un + 1))) 15 (nI ((co9 + 1) + 1))) 16 (nI (fcN (co9 + 1) (fcN co9 (fuN un fl))))) co fs g9 (tk g9) hg) (k_virt (n := 2) C wc_Mo_unknown rfl rfl wz_Mo wm_Mo_263 wn_Mo_unknown ws_Mo_unknown (by decide +kernel) ⟨(Nat.le_of_ble_eq_true rfl), (Nat.le_of_ble_eq_true rfl)⟩) (pr_nowV K S [4, 3] (by decide) rfl 4 rfl rfl) rfl rfl hl.1 rfl (lv_room (Nat.le_of_ble_eq_true rfl)) d_Mo_needCall_98 ⟨(Nat.le_of_ble_eq_true rfl), (Nat.le_of_ble_eq_true rfl)⟩) (fun r23 u21 H locs hw22 S => ?_)
  have S : Sw G A s.heap _ _ [((ma 0), .inl (k 0, 4, .inl (fun i => nI (tk i)))), ((ma 1), .inl (k 0, 800, .inl wd)), ((ma 13), .inl (k 1, 36982, .inr (.inl L1))), ((ma 15), .inl (k 1, 3690, .inr (.inl s4_))), (h0, .inr (8, moL ma (va_up (va_up (va_up iv 14 (nI (un + 1))) 15 (nI ((co9 + 1) + 1))) 16 (nI (fcN (co9 + 1) (fcN co9 (fuN un fl))))) co)), ((ma 14), .inl (k 0, 4, .inl (fun i => nI (fs i))))] := S
  obtain rfl : r23 = nI (fs g9 + (tk g9)) := hw22
  refine z_iadd (x := nI (cxN (co9 + 1) * 41)) (y := nI (fs g9 + (tk g9))) (v := nI (cxN (co9 + 1) * 41 + (fs g9 + (tk g9)))) hx hb d_Mo_needCall_101 (show _ = nI (cxN (co9 + 1) * 41 + (fs g9 + (tk g9))) from (nI_add (cxN (co9 + 1) * 41) (fs g9 + (tk g9))).trans (congrArg nI (by omega))) ?_
  refine lv_dup2_11 hx hb d_Mo_needCall_102 rfl rfl ?_
  refine r_lald C K S 3 rfl (i := nI (cxN (co9 + 1) * 41 + (fs g9 + (tk g9)))) (show vp_in (nI (cxN (co9 + 1) * 41 + (fs g9 + (tk g9)))) _ from vp_in_nI (n := (cxN (co9 + 1) * 41 + (fs g9 + (tk g9)))) (by omega) (by decide)) (v := s4_ (cxN (co9 + 1) * 41 + (fs g9 + (tk g9)))) (by rw [nI_clamp (by omega)]) d_Mo_needCall_103 ?_
  refine lv_lconst (v := 1) hx hb d_Mo_needCall_104 (by decide) ?_
  refine lv_lsub hx hb d_Mo_needCall_105 ?_
  refine r_last C K S 3 rfl (i := nI (cxN (co9 + 1) * 41 + (fs g9 + (tk g9)))) (x := (s4_ (cxN (co9 + 1) * 41 + (fs g9 + (tk g9)))) - 1) (show vp_in (nI (cxN (co9 + 1) * 41 + (fs g9 + (tk g9)))) _ from vp_in_nI (n := (cxN (co9 + 1) * 41 + (fs g9 + (tk g9)))) (by omega) (by decide)) (f' := va_up s4_ (cxN (co9 + 1) * 41 + (fs g9 + (tk g9))) ((s4_ (cxN (co9 + 1) * 41 + (fs g9 + (tk g9)))) - 1)) (ws' := [((ma 0), .inl (k 0, 4, .inl (fun i => nI (tk i)))), ((ma 1), .inl (k 0, 800, .inl wd)), ((ma 13), .inl (k 1, 36982, .inr (.inl L1))), ((ma 15), .inl (k 1, 3690, .inr (.inl (va_up s4_ (cxN (co9 + 1) * 41 + (fs g9 + (tk g9))) ((s4_ (cxN (co9 + 1) * 41 + (fs g9 + (tk g9)))) - 1))))), (h0, .inr (8, moL ma (va_up (va_up (va_up iv 14 (nI (un + 1))) 15 (nI ((co9 + 1) + 1))) 16 (nI (fcN (co9 + 1) (fcN co9 (fuN un fl))))) co)), ((ma 14), .inl (k 0, 4, .inl (fun i => nI (fs i))))]) (show vp_updL _ (nI (cxN (co9 + 1) * 41 + (fs g9 + (tk g9))) : Int32).toNatClampNeg _ = _ from vp_updL_eq s4_ (j := (cxN (co9 + 1) * 41 + (fs g9 + (tk g9)))) (by omega) ((s4_ (cxN (co9 + 1) * 41 + (fs g9 + (tk g9)))) - 1)) rfl d_Mo_needCall_106 (fun H locs S => ?_)
  obtain ⟨s5_, he_s5_⟩ : ∃ x9 : Nat → Int64, x9 = va_up s4_ (cxN (co9 + 1) * 41 + (fs g9 + (tk g9))) ((s4_ (cxN (co9 + 1) * 41 + (fs g9 + (tk g9)))) - 1) := ⟨_, rfl⟩
  have f1 : lz s5_ (cxN (co9 + 1)) ≤ 2 := by rw [he_s5_]; exact Nat.le_trans (lz_inc (l1_dec _)) (by omega)
  have f2 : ∀ x, x ≠ cxN (co9 + 1) → lz s5_ x = lz s2_ x := by rw [he_s5_]; exact fun x hx => by rw [lz_up_ne (by omega) hx]; exact e2 x hx
  have S : Sw G A s.heap H locs [((ma 0), .inl (k 0, 4, .inl (fun i => nI (tk i)))), ((ma 1), .inl (k 0, 800, .inl wd)), ((ma 13), .inl (k 1, 36982, .inr (.inl L1))), ((ma 15), .inl (k 1, 3690, .inr (.inl s5_))), (h0, .inr (8, moL ma (va_up (va_up (va_up iv 14 (nI (un + 1))) 15 (nI ((co9 + 1) + 1))) 16 (nI (fcN (co9 + 1) (fcN co9 (fuN un fl))))) co)), ((ma 14), .inl (k 0, 4, .inl (fun i => nI (fs i))))] := by rw [he_s5_]; exact S
  refine lv_aload_n hx hb d_Mo_needCall_107 rfl (lv_at hl 2 rfl) ?_
  refine r_get C K S 4 rfl rfl clOk_Mo 33 (by decide) wf_Mo_64 (v := .ref (ma 15)) rfl d_Mo_needCall_108 ?_
  refine lv_iload hx hb d_Mo_needCall_111 (lv_at hl 0 rfl) ?_
  refine lv_aload_n hx hb d_Mo_needCall_113 rfl (lv_at hl 2 rfl) ?_
  refine lv_iload_n hx hb d_Mo_needCall_114 rfl (lv_at hl 5 rfl) ?_
  refine lv_aload_n hx hb d_Mo_needCall_115 rfl (lv_at hl 2 rfl) ?_
  refine r_get C K S 4 rfl rfl clOk_Mo 1 (by decide) wf_Mo_9 (v := .ref (ma 0)) rfl d_Mo_needCall_116 ?_
  refine lv_iload_n hx hb d_Mo_needCall_119 rfl (lv_at hl 5 rfl) ?_
  refine r_iald C K S 0 rfl (i := nI g9) (show vp_in (nI g9) _ from vp_in_nI (n := g9) (by omega) (by decide)) (v := nI (tk g9)) (by rw [nI_clamp (by omega)]) d_Mo_needCall_120 ?_
  refine lv_iconst (v := 2) hx hb d_Mo_needCall_121 (by decide) ?_
  refine z_iadd (x := nI (tk g9)) (y := 2) (v := nI (tk g9 + 2)) hx hb d_Mo_needCall_122 (nI_add (tk g9) 2) ?_
  refine r_backi (wi := [(h0, .inr (8, moL ma (va_up (va_up (va_up iv 14 (nI (un + 1))) 15 (nI ((co9 + 1) + 1))) 16 (nI (fcN (co9 + 1) (fcN co9 (fuN un fl))))) co)), ((ma 14), .inl (k 0, 4, .inl (fun i => nI (fs i))))]) (wr := [((ma 0), .inl (k 0, 4, .inl (fun i => nI (tk i)))), ((ma 1), .inl (k 0, 800, .inl wd)), ((ma 13), .inl (k 1, 36982, .inr (.inl L1))), ((ma 15), .inl (k 1, 3690, .inr (.inl s5_)))]) S hA [4, 5] [0, 1, 2, 3] rfl rfl (by decide) (by decide) (va_runV (As := [.int (nI g9), .int (nI (tk g9 + 2))]) (rest := [.int (nI (cxN (co9 + 1) * 41)), .ref (ma 15)]) ⟨hx, hb, C.2.2.1, C.2.2.2.1, C.2.2.2.2.1⟩ (g_Mo_unknown l G k h0 _ ma (va_up (va_up (va_up iv 14 (nI (un + 1))) 15 (nI ((co9 + 1) + 1))) 16 (nI (fcN (co9 + 1) (fcN co9 (fuN un fl))))) co fs g9 (tk g9 + 2) hg) (k_virt (n := 2) C wc_Mo_unknown rfl rfl wz_Mo wm_Mo_263 wn_Mo_unknown ws_Mo_unknown (by decide +kernel) ⟨(Nat.le_of_ble_eq_true rfl), (Nat.le_of_ble_eq_true rfl)⟩) (pr_nowV K S [4, 5] (by decide) rfl 4 rfl rfl) rfl rfl hl.1 rfl (lv_room (Nat.le_of_ble_eq_true rfl)) d_Mo_needCall_123 ⟨(Nat.le_of_ble_eq_true rfl), (Nat.le_of_ble_eq_true rfl)⟩) (fun r27 u25 H locs hw26 S => ?_)
  have S : Sw G A s.heap _ _ [((ma 0), .inl (k 0, 4, .inl (fun i => nI (tk i)))), ((ma 1), .inl (k 0, 800, .inl wd)), ((ma 13), .inl (k 1, 36982, .inr (.inl L1))), ((ma 15), .inl (k 1, 3690, .inr (.inl s5_))), (h0, .inr (8, moL ma (va_up (va_up (va_up iv 14 (nI (un + 1))) 15 (nI ((co9 + 1) + 1))) 16 (nI (fcN (co9 + 1) (fcN co9 (fuN un fl))))) co)), ((ma 14), .inl (k 0, 4, .inl (fun i => nI (fs i))))] := S
  obtain rfl : r27 = nI (fs g9 + (tk g9 + 2)) := hw26
  refine z_iadd (x := nI (cxN (co9 + 1) * 41)) (y := nI (fs g9 + (tk g9 + 2))) (v := nI (cxN (co9 + 1) * 41 + (fs g9 + (tk g9 + 2)))) hx hb d_Mo_needCall_126 (show _ = nI (cxN (co9 + 1) * 41 + (fs g9 + (tk g9 + 2))) from (nI_add (cxN (co9 + 1) * 41) (fs g9 + (tk g9 + 2))).trans (congrArg nI (by omega))) ?_
  refine lv_dup2_11 hx hb d_Mo_needCall_127 rfl rfl ?_
  refine r_lald C K S 3 rfl (i := nI (cxN (co9 + 1) * 41 + (fs g9 + (tk g9 + 2)))) (show vp_in (nI (cxN (co9 + 1) * 41 + (fs g9 + (tk g9 + 2)))) _ from vp_in_nI (n := (cxN (co9 + 1) * 41 + (fs g9 + (tk g9 + 2)))) (by omega) (by decide)) (v := s5_ (cxN (co9 + 1) * 41 + (fs g9 + (tk g9 + 2)))) (by rw [nI_clamp (by omega)]) d_Mo_needCall_128 ?_
  refine lv_lconst (v := 1) hx hb d_Mo_needCall_129 (by decide) ?_
  refine lv_ladd hx hb d_Mo_needCall_130 ?_
  refine r_last C K S 3 rfl (i := nI (cxN (co9 + 1) * 41 + (fs g9 + (tk g9 + 2)))) (x := (s5_ (cxN (co9 + 1) * 41 + (fs g9 + (tk g9 + 2)))) + 1) (show vp_in (nI (cxN (co9 + 1) * 41 + (fs g9 + (tk g9 + 2)))) _ from vp_in_nI (n := (cxN (co9 + 1) * 41 + (fs g9 + (tk g9 + 2)))) (by omega) (by decide)) (f' := va_up s5_ (cxN (co9 + 1) * 41 + (fs g9 + (tk g9 + 2))) ((s5_ (cxN (co9 + 1) * 41 + (fs g9 + (tk g9 + 2)))) + 1)) (ws' := [((ma 0), .inl (k 0, 4, .inl (fun i => nI (tk i)))), ((ma 1), .inl (k 0, 800, .inl wd)), ((ma 13), .inl (k 1, 36982, .inr (.inl L1))), ((ma 15), .inl (k 1, 3690, .inr (.inl (va_up s5_ (cxN (co9 + 1) * 41 + (fs g9 + (tk g9 + 2))) ((s5_ (cxN (co9 + 1) * 41 + (fs g9 + (tk g9 + 2)))) + 1))))), (h0, .inr (8, moL ma (va_up (va_up (va_up iv 14 (nI (un + 1))) 15 (nI ((co9 + 1) + 1))) 16 (nI (fcN (co9 + 1) (fcN co9 (fuN un fl))))) co)), ((ma 14), .inl (k 0, 4, .inl (fun i => nI (fs i))))]) (show vp_updL _ (nI (cxN (co9 + 1) * 41 + (fs g9 + (tk g9 + 2))) : Int32).toNatClampNeg _ = _ from vp_updL_eq s5_ (j := (cxN (co9 + 1) * 41 + (fs g9 + (tk g9 + 2)))) (by omega) ((s5_ (cxN (co9 + 1) * 41 + (fs g9 + (tk g9 + 2)))) + 1)) rfl d_Mo_needCall_131 (fun H locs S => ?_)
  obtain ⟨s6_, he_s6_⟩ : ∃ x9 : Nat → Int64, x9 = va_up s5_ (cxN (co9 + 1) * 41 + (fs g9 + (tk g9 + 2))) ((s5_ (cxN (co9 + 1) * 41 + (fs g9 + (tk g9 + 2)))) + 1) := ⟨_, rfl⟩
  have g1 : lz s6_ (cxN (co9 + 1)) ≤ 3 := by rw [he_s6_]; exact Nat.le_trans (lz_inc (l1_inc _)) (by omega)
  have g2 : ∀ x, x ≠ cxN (co9 + 1) → lz s6_ x = lz s2_ x := by rw [he_s6_]; exact fun x hx => by rw [lz_up_ne (by omega) hx]; exact f2 x hx
  have S : Sw G A s.heap H locs [((ma 0), .inl (k 0, 4, .inl (fun i => nI (tk i)))), ((ma 1), .inl (k 0, 800, .inl wd)), ((ma 13), .inl (k 1, 36982, .inr (.inl L1))), ((ma 15), .inl (k 1, 3690, .inr (.inl s6_))), (h0, .inr (8, moL ma (va_up (va_up (va_up iv 14 (nI (un + 1))) 15 (nI ((co9 + 1) + 1))) 16 (nI (fcN (co9 + 1) (fcN co9 (fuN un fl))))) co)), ((ma 14), .inl (k 0, 4, .inl (fun i => nI (fs i))))] := by rw [he_s6_]; exact S
  refine lv_aload_n hx hb d_Mo_needCall_132 rfl (lv_at hl 2 rfl) ?_
  refine lv_iload hx hb d_Mo_needCall_133 (lv_at hl 0 rfl) ?_
  refine lv_iload_n hx hb d_Mo_needCall_135 rfl (lv_at hl 3 rfl) ?_
  refine lv_bipush (v := 21) hx hb d_Mo_needCall_136 (by decide) ?_
  refine r_backi (wi := []) (wr := [((ma 0), .inl (k 0, 4, .inl (fun i => nI (tk i)))), ((ma 1), .inl (k 0, 800, .inl wd)), ((ma 13), .inl (k 1, 36982, .inr (.inl L1))), ((ma 15), .inl (k 1, 3690, .inr (.inl s6_))), (h0, .inr (8, moL ma (va_up (va_up (va_up iv 14 (nI (un + 1))) 15 (nI ((co9 + 1) + 1))) 16 (nI (fcN (co9 + 1) (fcN co9 (fuN un fl))))) co)), ((ma 14), .inl (k 0, 4, .inl (fun i => nI (fs i))))]) S hA [] [0, 1, 2, 3, 4, 5] rfl rfl (by decide) (by decide) (va_runS (As := [.int (nI b9), .int 21]) (rest := [.int (nI (cxN (co9 + 1) * 41)), .ref h0]) ⟨hx, hb, C.2.2.1, C.2.2.2.1, C.2.2.2.2.1⟩ (g_Mo_line l G k _ b9 21) (k_stat (n := 2) C wc_Mo_line rfl rfl wz_Mo wm_Mo_211 wt_Mo_line (by decide +kernel) ⟨(Nat.le_of_ble_eq_true rfl), (Nat.le_of_ble_eq_true rfl)⟩) (pr_now K S [] (by decide) rfl) rfl rfl hl.1 rfl (lv_room (Nat.le_of_ble_eq_true rfl)) d_Mo_needCall_138 ⟨(Nat.le_of_ble_eq_true rfl), (Nat.le_of_ble_eq_true rfl)⟩) (fun r31 u29 H locs hw30 S => ?_)
  have S : Sw G A s.heap _ _ [((ma 0), .inl (k 0, 4, .inl (fun i => nI (tk i)))), ((ma 1), .inl (k 0, 800, .inl wd)), ((ma 13), .inl (k 1, 36982, .inr (.inl L1))), ((ma 15), .inl (k 1, 3690, .inr (.inl s6_))), (h0, .inr (8, moL ma (va_up (va_up (va_up iv 14 (nI (un + 1))) 15 (nI ((co9 + 1) + 1))) 16 (nI (fcN (co9 + 1) (fcN co9 (fuN un fl))))) co)), ((ma 14), .inl (k 0, 4, .inl (fun i => nI (fs i))))] := S
  obtain rfl : r31 = nI ((22 * b9 + 21) * 41) := hw30
  refine r_backv (wi := [(h0, .inr (8, moL ma (va_up (va_up (va_up iv 14 (nI (un + 1))) 15 (nI ((co9 + 1) + 1))) 16 (nI (fcN (co9 + 1) (fcN co9 (fuN un fl))))) co)), ((ma 13), .inl (k 1, 36982, .inr (.inl L1))), ((ma 15), .inl (k 1, 3690, .inr (.inl s6_)))]) (wr := [((ma 0), .inl (k 0, 4, .inl (fun i => nI (tk i)))), ((ma 1), .inl (k 0, 800, .inl wd)), ((ma 14), .inl (k 0, 4, .inl (fun i => nI (fs i))))]) S hA [4, 2, 3] [0, 1, 5] rfl rfl (by decide) (by decide) (va_runV (As := [.int (nI (cxN (co9 + 1) * 41)), .int (nI ((22 * b9 + 21) * 41))]) (rest := []) ⟨hx, hb, C.2.2.1, C.2.2.2.1, C.2.2.2.2.1⟩ (g_Mo_take l G k h0 _ (cxN (co9 + 1)) (22 * b9 + 21) ma (va_up (va_up (va_up iv 14 (nI (un + 1))) 15 (nI ((co9 + 1) + 1))) 16 (nI (fcN (co9 + 1) (fcN co9 (fuN un fl))))) co L1 s6_ hc1 (by omega)) (k_virt (n := 2) C wc_Mo_take rfl rfl wz_Mo wm_Mo_205 wn_Mo_take ws_Mo_take (by decide +kernel) ⟨(Nat.le_of_ble_eq_true rfl), (Nat.le_of_ble_eq_true rfl)⟩) (pr_nowV K S [4, 2, 3] (by decide) rfl 4 rfl rfl) rfl rfl hl.1 rfl (lv_room (Nat.le_of_ble_eq_true rfl)) d_Mo_needCall_141 ⟨(Nat.le_of_ble_eq_true rfl), (Nat.le_of_ble_eq_true rfl)⟩) (fun u33 H locs hw34 S => ?_)
  have S : Sw G A s.heap _ _ [((ma 0), .inl (k 0, 4, .inl (fun i => nI (tk i)))), ((ma 1), .inl (k 0, 800, .inl wd)), ((ma 14), .inl (k 0, 4, .inl (fun i => nI (fs i)))), (h0, .inr (8, moL ma (va_up (va_up (va_up iv 14 (nI (un + 1))) 15 (nI ((co9 + 1) + 1))) 16 (nI (fcN (co9 + 1) (fcN co9 (fuN un fl))))) co)), ((ma 13), .inl (k 1, 36982, .inr (.inl L1))), ((ma 15), .inl (k 1, 3690, .inr (.inl (lnT s6_ L1 ((22 * b9 + 21) * 41) ((cxN (co9 + 1)) * 41) 41))))] := S
  obtain ⟨s7_, he_s7_⟩ : ∃ x9 : Nat → Int64, x9 = (lnT s6_ L1 ((22 * b9 + 21) * 41) ((cxN (co9 + 1)) * 41) 41) := ⟨_, rfl⟩
  have i1 : lz s7_ (cxN (co9 + 1)) ≤ 60003 := by rw [he_s7_]; exact Nat.le_trans lz_T (by rw [k2 (22 * b9 + 21) (by omega)]; omega)
  have i2 : ∀ x, x ≠ cxN (co9 + 1) → lz s7_ x = lz s2_ x := by rw [he_s7_]; exact fun x hx => by rw [lz_T_ne hx]; exact g2 x hx
  have S : Sw G A s.heap H locs [((ma 0), .inl (k 0, 4, .inl (fun i => nI (tk i)))), ((ma 1), .inl (k 0, 800, .inl wd)), ((ma 14), .inl (k 0, 4, .inl (fun i => nI (fs i)))), (h0, .inr (8, moL ma (va_up (va_up (va_up iv 14 (nI (un + 1))) 15 (nI ((co9 + 1) + 1))) 16 (nI (fcN (co9 + 1) (fcN co9 (fuN un fl))))) co)), ((ma 13), .inl (k 1, 36982, .inr (.inl L1))), ((ma 15), .inl (k 1, 3690, .inr (.inl s7_)))] := by rw [he_s7_]; exact S
  have hsm2 : smO (co9 + 2) s7_ := smO_s hsm1 i2 (by omega)
  refine lv_aload_n hx hb d_Mo_needCall_144 rfl (lv_at hl 2 rfl) ?_
  refine lv_aload_n hx hb d_Mo_needCall_145 rfl (lv_at hl 2 rfl) ?_
  refine lv_iload_n hx hb d_Mo_needCall_146 rfl (lv_at hl 5 rfl) ?_
  refine lv_aload_n hx hb d_Mo_needCall_147 rfl (lv_at hl 2 rfl) ?_
  refine r_get C K S 3 rfl rfl clOk_Mo 1 (by decide) wf_Mo_9 (v := .ref (ma 0)) rfl d_Mo_needCall_148 ?_
  refine lv_iload_n hx hb d_Mo_needCall_151 rfl (lv_at hl 5 rfl) ?_
  refine r_iald C K S 0 rfl (i := nI g9) (show vp_in (nI g9) _ from vp_in_nI (n := g9) (by omega) (by decide)) (v := nI (tk g9)) (by rw [nI_clamp (by omega)]) d_Mo_needCall_152 ?_
  refine lv_iconst (v := 1) hx hb d_Mo_needCall_153 (by decide) ?_
  refine z_iadd (x := nI (tk g9)) (y := 1) (v := nI (tk g9 + 1)) hx hb d_Mo_needCall_154 (nI_add (tk g9) 1) ?_
  refine r_backi (wi := [(h0, .inr (8, moL ma (va_up (va_up (va_up iv 14 (nI (un + 1))) 15 (nI ((co9 + 1) + 1))) 16 (nI (fcN (co9 + 1) (fcN co9 (fuN un fl))))) co)), ((ma 14), .inl (k 0, 4, .inl (fun i => nI (fs i))))]) (wr := [((ma 0), .inl (k 0, 4, .inl (fun i => nI (tk i)))), ((ma 1), .inl (k 0, 800, .inl wd)), ((ma 13), .inl (k 1, 36982, .inr (.inl L1))), ((ma 15), .inl (k 1, 3690, .inr (.inl s7_)))]) S hA [3, 2] [0, 1, 4, 5] rfl rfl (by decide) (by decide) (va_runV (As := [.int (nI g9), .int (nI (tk g9 + 1))]) (rest := [.ref h0]) ⟨hx, hb, C.2.2.1, C.2.2.2.1, C.2.2.2.2.1⟩ (g_Mo_unknown l G k h0 _ ma (va_up (va_up (va_up iv 14 (nI (un + 1))) 15 (nI ((co9 + 1) + 1))) 16 (nI (fcN (co9 + 1) (fcN co9 (fuN un fl))))) co fs g9 (tk g9 + 1) hg) (k_virt (n := 2) C wc_Mo_unknown rfl rfl wz_Mo wm_Mo_263 wn_Mo_unknown ws_Mo_unknown (by decide +kernel) ⟨(Nat.le_of_ble_eq_true rfl), (Nat.le_of_ble_eq_true rfl)⟩) (pr_nowV K S [3, 2] (by decide) rfl 3 rfl rfl) rfl rfl hl.1 rfl (lv_room (Nat.le_of_ble_eq_true rfl)) d_Mo_needCall_155 ⟨(Nat.le_of_ble_eq_true rfl), (Nat.le_of_ble_eq_true rfl)⟩) (fun r37 u35 H locs hw36 S => ?_)
  have S : Sw G A s.heap _ _ [((ma 0), .inl (k 0, 4, .inl (fun i => nI (tk i)))), ((ma 1), .inl (k 0, 800, .inl wd)), ((ma 13), .inl (k 1, 36982, .inr (.inl L1))), ((ma 15), .inl (k 1, 3690, .inr (.inl s7_))), (h0, .inr (8, moL ma (va_up (va_up (va_up iv 14 (nI (un + 1))) 15 (nI ((co9 + 1) + 1))) 16 (nI (fcN (co9 + 1) (fcN co9 (fuN un fl))))) co)), ((ma 14), .inl (k 0, 4, .inl (fun i => nI (fs i))))] := S
  obtain rfl : r37 = nI (fs g9 + (tk g9 + 1)) := hw36
  refine lv_iload_n hx hb d_Mo_needCall_158 rfl (lv_at hl 3 rfl) ?_
  refine lv_bipush (v := 20) hx hb d_Mo_needCall_159 (by decide) ?_
  refine r_backi (wi := []) (wr := [((ma 0), .inl (k 0, 4, .inl (fun i => nI (tk i)))), ((ma 1), .inl (k 0, 800, .inl wd)), ((ma 13), .inl (k 1, 36982, .inr (.inl L1))), ((ma 15), .inl (k 1, 3690, .inr (.inl s7_))), (h0, .inr (8, moL ma (va_up (va_up (va_up iv 14 (nI (un + 1))) 15 (nI ((co9 + 1) + 1))) 16 (nI (fcN (co9 + 1) (fcN co9 (fuN un fl))))) co)), ((ma 14), .inl (k 0, 4, .inl (fun i => nI (fs i))))]) S hA [] [0, 1, 2, 3, 4, 5] rfl rfl (by decide) (by decide) (va_runS (As := [.int (nI b9), .int 20]) (rest := [.int (nI (fs g9 + (tk g9 + 1))), .ref h0]) ⟨hx, hb, C.2.2.1, C.2.2.2.1, C.2.2.2.2.1⟩ (g_Mo_line l G k _ b9 20) (k_stat (n := 2) C wc_Mo_line rfl rfl wz_Mo wm_Mo_211 wt_Mo_line (by decide +kernel) ⟨(Nat.le_of_ble_eq_true rfl), (Nat.le_of_ble_eq_true rfl)⟩) (pr_now K S [] (by decide) rfl) rfl rfl hl.1 rfl (lv_room (Nat.le_of_ble_eq_true rfl)) d_Mo_needCall_161 ⟨(Nat.le_of_ble_eq_true rfl), (Nat.le_of_ble_eq_true rfl)⟩) (fun r41 u39 H locs hw40 S => ?_)
  have S : Sw G A s.heap _ _ [((ma 0), .inl (k 0, 4, .inl (fun i => nI (tk i)))), ((ma 1), .inl (k 0, 800, .inl wd)), ((ma 13), .inl (k 1, 36982, .inr (.inl L1))), ((ma 15), .inl (k 1, 3690, .inr (.inl s7_))), (h0, .inr (8, moL ma (va_up (va_up (va_up iv 14 (nI (un + 1))) 15 (nI ((co9 + 1) + 1))) 16 (nI (fcN (co9 + 1) (fcN co9 (fuN un fl))))) co)), ((ma 14), .inl (k 0, 4, .inl (fun i => nI (fs i))))] := S
  obtain rfl : r41 = nI ((22 * b9 + 20) * 41) := hw40
  refine r_backv (wi := [(h0, .inr (8, moL ma (va_up (va_up (va_up iv 14 (nI (un + 1))) 15 (nI ((co9 + 1) + 1))) 16 (nI (fcN (co9 + 1) (fcN co9 (fuN un fl))))) co)), ((ma 13), .inl (k 1, 36982, .inr (.inl L1))), ((ma 15), .inl (k 1, 3690, .inr (.inl s7_)))]) (wr := [((ma 0), .inl (k 0, 4, .inl (fun i => nI (tk i)))), ((ma 1), .inl (k 0, 800, .inl wd)), ((ma 14), .inl (k 0, 4, .inl (fun i => nI (fs i))))]) S hA [4, 2, 3] [0, 1, 5] rfl rfl (by decide) (by decide) (va_runV (As := [.int (nI (fs g9 + (tk g9 + 1))), .int (nI ((22 * b9 + 20) * 41))]) (rest := []) ⟨hx, hb, C.2.2.1, C.2.2.2.1, C.2.2.2.2.1⟩ (g_Mo_atLeast l G k h0 _ (fs g9 + (tk g9 + 1)) (22 * b9 + 20) ((co9 + 1) + 1) (fcN (co9 + 1) (fcN co9 (fuN un fl))) ma (va_up iv 14 (nI (un + 1))) co L1 s7_ (by omega) (by omega) (by omega) (hfc _ _ (hfc _ _ hfu))) (k_virt (n := 2) C wc_Mo_atLeast rfl rfl wz_Mo wm_Mo_266 wn_Mo_atLeast ws_Mo_atLeast (by decide +kernel) ⟨(Nat.le_of_ble_eq_true rfl), (Nat.le_of_ble_eq_true rfl)⟩) (pr_nowV K S [4, 2, 3] (by decide) rfl 4 rfl rfl) rfl rfl hl.1 rfl (lv_room (Nat.le_of_ble_eq_true rfl)) d_Mo_needCall_164 ⟨(Nat.le_of_ble_eq_true rfl), (Nat.le_of_ble_eq_true rfl)⟩) (fun s8_ H locs hw43 S => ?_)
  have S : Sw G A s.heap _ _ [((ma 0), .inl (k 0, 4, .inl (fun i => nI (tk i)))), ((ma 1), .inl (k 0, 800, .inl wd)), ((ma 14), .inl (k 0, 4, .inl (fun i => nI (fs i)))), (h0, .inr (8, moL ma (va_up (va_up (va_up iv 14 (nI (un + 1))) 15 (nI (((co9 + 1) + 1) + 1))) 16 (nI (fcN ((co9 + 1) + 1) (fcN (co9 + 1) (fcN co9 (fuN un fl)))))) co)), ((ma 13), .inl (k 1, 36982, .inr (.inl L1))), ((ma 15), .inl (k 1, 3690, .inr (.inl s8_)))] := S
  have hal : lz s8_ (cxN (co9 + 2)) ≤ 1 + lz L1 (22 * b9 + 20) := hw43.2
  rw [k2 (22 * b9 + 20) (by omega)] at hal
  have hsm3 : smO (co9 + 3) s8_ := smO_s hsm2 hw43.1 (by omega)
  refine lv_iconst (v := 0) hx hb d_Mo_needCall_167 (by decide) ?_
  refine lv_istore (lv' := [(6, .int 0), (5, .int (nI (cxN (co9 + 1) * 41))), (4, .int (nI (uiN un))), (0, .ref h0), (1, .int (nI b9)), (2, .int (nI (200 * f9 + p9))), (3, .int (nI g9))]) hx hb d_Mo_needCall_168 hl (by decide) rfl (fun ls hl => ?_)
  have hcx := 0
  have lp : ∀ d9, ∀ (k9 : Nat), ∀ (L9 : Nat → Int64), (tk g9 - k9) < d9 → (k9 ≤ tk g9) → (tn L9 b9 ≤ tn L b9 + k9) → (∀ x, x < 22 * b9 ∨ 22 * b9 + 19 ≤ x → lz L9 x = lz L1 x) → ∀ (H : Heap) (locs : List Loc), Sw G A s.heap H locs [((ma 0), .inl (k 0, 4, .inl (fun i => nI (tk i)))), ((ma 1), .inl (k 0, 800, .inl wd)), ((ma 14), .inl (k 0, 4, .inl (fun i => nI (fs i)))), (h0, .inr (8, moL ma (va_up (va_up (va_up iv 14 (nI (un + 1))) 15 (nI (((co9 + 1) + 1) + 1))) 16 (nI (fcN ((co9 + 1) + 1) (fcN (co9 + 1) (fcN co9 (fuN un fl)))))) co)), ((ma 13), .inl (k 1, 36982, .inr (.inl L9))), ((ma 15), .inl (k 1, 3690, .inr (.inl s8_)))] → ∀ ls : Array Slot, lv_has ls 7 [(6, .int (nI k9)), (5, .int (nI (cxN (co9 + 1) * 41))), (4, .int (nI (uiN un))), (0, .ref h0), (1, .int (nI b9)), (2, .int (nI (200 * f9 + p9))), (3, .int (nI g9))] → W p l e { frames := 2, cells := 0, slots := 0, locals := 46 } s m [Value.ref h0, Value.int (nI b9), Value.int (nI (200 * f9 + p9)), Value.int (nI g9)].toArray below meth c H locs 0 0 (MQ below (va_Qv (fun (u : (Nat → Int64) × (Nat → Int64)) => smO (co9 + 3) u.2 ∧ lz u.1 (22 * b9 + 19) ≤ lz L (22 * b9 + 19) + 1 ∧ tn u.1 b9 ≤ tn L b9 + tk g9 ∧ ∀ x, x < 22 * b9 ∨ 22 * b9 + 20 ≤ x → lz u.1 x = lz L x) (Po G k A (fun u => [(h0, .inr (8, moL ma (va_up (va_up (va_up iv 14 (nI (un + 1))) 15 (nI (co9 + 3))) 16 (nI (fcN (co9 + 2) (fcN (co9 + 1) (fcN co9 (fuN un fl)))))) co)), ((ma 0), .inl (k 0, 4, .inl (fun i => nI (tk i)))), ((ma 1), .inl (k 0, 800, .inl wd)), ((ma 14), .inl (k 0, 4, .inl (fun i => nI (fs i)))), ((ma 13), .inl (k 1, 36982, .inr (.inl u.1))), ((ma 15), .inl (k 1, 3690, .inr (.inl u.2)))])) A) [Value.ref h0, Value.int (nI b9), Value.int (nI (200 * f9 + p9)), Value.int (nI g9)].toArray s 0 0 A) (F0 m 170 ls []) := by
    intro d9
    induction d9 with
    | zero => intro k9 L9 hm; exact absurd hm (Nat.not_lt_zero _)
    | succ d9 ih_lp =>
      intro k9 L9 hm hk ht ho H locs S ls hl
      refine lv_iload hx hb d_Mo_needCall_170 (lv_at hl 0 rfl) ?_
      refine lv_aload_n hx hb d_Mo_needCall_172 rfl (lv_at hl 3 rfl) ?_
      refine r_get C K S 3 rfl rfl clOk_Mo 1 (by decide) wf_Mo_9 (v := .ref (ma 0)) rfl d_Mo_needCall_173 ?_
      refine lv_iload_n hx hb d_Mo_needCall_176 rfl (lv_at hl 6 rfl) ?_
      refine r_iald C K S 0 rfl (i := nI g9) (show vp_in (nI g9) _ from vp_in_nI (n := g9) (by omega) (by decide)) (v := nI (tk g9)) (by rw [nI_clamp (by omega)]) d_Mo_needCall_177 ?_
      refine z_icmp_ge (a := k9) (b := (tk g9)) (tgt := 219) hx hb d_Mo_needCall_178 (by decide) (by omega) (by omega) (fun hc44 => ?_) (fun hc44 => ?_)
      · exact r_vret C K (L9, s8_) ⟨hsm3, by rw [ho _ (by omega)]; exact k1, (show tn L9 b9 ≤ tn L b9 + tk g9 by omega), fun x hx => by rw [ho x (by omega)]; exact k2 x (by omega)⟩ (S.sub [3, 0, 1, 2, 4, 5] (by decide) rfl) d_Mo_needCall_219 (Nat.le_of_ble_eq_true rfl) (Nat.le_of_ble_eq_true rfl)
      · obtain ⟨v9, hv1, hv2⟩ := hvs k9 (by omega)
        refine lv_aload_n hx hb d_Mo_needCall_181 rfl (lv_at hl 3 rfl) ?_
        refine r_get C K S 3 rfl rfl clOk_Mo 27 (by decide) wf_Mo_57 (v := .ref (ma 13)) rfl d_Mo_needCall_182 ?_
        refine lv_iload_n hx hb d_Mo_needCall_185 rfl (lv_at hl 4 rfl) ?_
        refine lv_aload_n hx hb d_Mo_needCall_186 rfl (lv_at hl 3 rfl) ?_
        refine r_get C K S 3 rfl rfl clOk_Mo 2 (by decide) wf_Mo_13 (v := .ref (ma 1)) rfl d_Mo_needCall_187 ?_
        refine lv_iload_n hx hb d_Mo_needCall_190 rfl (lv_at hl 5 rfl) ?_
        refine lv_iconst (v := 2) hx hb d_Mo_needCall_191 (by decide) ?_
        refine z_iadd (x := nI (200 * f9 + p9)) (y := 2) (v := nI (200 * f9 + p9 + 2)) hx hb d_Mo_needCall_192 (nI_add (200 * f9 + p9) 2) ?_
        refine lv_iload hx hb d_Mo_needCall_193 (lv_at hl 0 rfl) ?_
        refine z_iadd (x := nI (200 * f9 + p9 + 2)) (y := nI k9) (v := nI (200 * f9 + p9 + 2 + k9)) hx hb d_Mo_needCall_195 (nI_add (200 * f9 + p9 + 2) k9) ?_
        refine r_iald C K S 1 rfl (i := nI (200 * f9 + p9 + 2 + k9)) (show vp_in (nI (200 * f9 + p9 + 2 + k9)) _ from vp_in_nI (n := (200 * f9 + p9 + 2 + k9)) (by omega) (by decide)) (v := wdF wd f9 (p9 + 2 + k9)) (by rw [nI_clamp (by omega)]; exact (show wd (200 * f9 + p9 + 2 + k9) = wd (200 * f9 + (p9 + 2 + k9)) from congrArg wd (by omega))) d_Mo_needCall_196 ?_
        rw [hv1]
        refine r_backi (wi := []) (wr := [((ma 0), .inl (k 0, 4, .inl (fun i => nI (tk i)))), ((ma 1), .inl (k 0, 800, .inl wd)), ((ma 14), .inl (k 0, 4, .inl (fun i => nI (fs i)))), (h0, .inr (8, moL ma (va_up (va_up (va_up iv 14 (nI (un + 1))) 15 (nI (((co9 + 1) + 1) + 1))) 16 (nI (fcN ((co9 + 1) + 1) (fcN (co9 + 1) (fcN co9 (fuN un fl)))))) co)), ((ma 13), .inl (k 1, 36982, .inr (.inl L9))), ((ma 15), .inl (k 1, 3690, .inr (.inl s8_)))]) S hA [] [0, 1, 2, 3, 4, 5] rfl rfl (by decide) (by decide) (va_runS (As := [.int (nI b9), .int (nI v9)]) (rest := [.ref (ma 13)]) ⟨hx, hb, C.2.2.1, C.2.2.2.1, C.2.2.2.2.1⟩ (g_Mo_line l G k _ b9 v9) (k_stat (n := 2) C wc_Mo_line rfl rfl wz_Mo wm_Mo_211 wt_Mo_line (by decide +kernel) ⟨(Nat.le_of_ble_eq_true rfl), (Nat.le_of_ble_eq_true rfl)⟩) (pr_now K S [] (by decide) rfl) rfl rfl hl.1 rfl (lv_room (Nat.le_of_ble_eq_true rfl)) d_Mo_needCall_197 ⟨(Nat.le_of_ble_eq_true rfl), (Nat.le_of_ble_eq_true rfl)⟩) (fun r47 u45 H locs hw46 S => ?_)
        have S : Sw G A s.heap _ _ [((ma 0), .inl (k 0, 4, .inl (fun i => nI (tk i)))), ((ma 1), .inl (k 0, 800, .inl wd)), ((ma 14), .inl (k 0, 4, .inl (fun i => nI (fs i)))), (h0, .inr (8, moL ma (va_up (va_up (va_up iv 14 (nI (un + 1))) 15 (nI (((co9 + 1) + 1) + 1))) 16 (nI (fcN ((co9 + 1) + 1) (fcN (co9 + 1) (fcN co9 (fuN un fl)))))) co)), ((ma 13), .inl (k 1, 36982, .inr (.inl L9))), ((ma 15), .inl (k 1, 3690, .inr (.inl s8_)))] := S
        obtain rfl : r47 = nI ((22 * b9 + v9) * 41) := hw46
        refine lv_aload_n hx hb d_Mo_needCall_200 rfl (lv_at hl 3 rfl) ?_
        refine lv_iload_n hx hb d_Mo_needCall_201 rfl (lv_at hl 6 rfl) ?_
        refine lv_iload hx hb d_Mo_needCall_202 (lv_at hl 0 rfl) ?_
        refine r_backi (wi := [(h0, .inr (8, moL ma (va_up (va_up (va_up iv 14 (nI (un + 1))) 15 (nI (((co9 + 1) + 1) + 1))) 16 (nI (fcN ((co9 + 1) + 1) (fcN (co9 + 1) (fcN co9 (fuN un fl)))))) co)), ((ma 14), .inl (k 0, 4, .inl (fun i => nI (fs i))))]) (wr := [((ma 0), .inl (k 0, 4, .inl (fun i => nI (tk i)))), ((ma 1), .inl (k 0, 800, .inl wd)), ((ma 13), .inl (k 1, 36982, .inr (.inl L9))), ((ma 15), .inl (k 1, 3690, .inr (.inl s8_)))]) S hA [3, 2] [0, 1, 4, 5] rfl rfl (by decide) (by decide) (va_runV (As := [.int (nI g9), .int (nI k9)]) (rest := [.int (nI ((22 * b9 + v9) * 41)), .ref (ma 13)]) ⟨hx, hb, C.2.2.1, C.2.2.2.1, C.2.2.2.2.1⟩ (g_Mo_unknown l G k h0 _ ma (va_up (va_up (va_up iv 14 (nI (un + 1))) 15 (nI (((co9 + 1) + 1) + 1))) 16 (nI (fcN ((co9 + 1) + 1) (fcN (co9 + 1) (fcN co9 (fuN un fl)))))) co fs g9 k9 hg) (k_virt (n := 2) C wc_Mo_unknown rfl rfl wz_Mo wm_Mo_263 wn_Mo_unknown ws_Mo_unknown (by decide +kernel) ⟨(Nat.le_of_ble_eq_true rfl), (Nat.le_of_ble_eq_true rfl)⟩) (pr_nowV K S [3, 2] (by decide) rfl 3 rfl rfl) rfl rfl hl.1 rfl (lv_room (Nat.le_of_ble_eq_true rfl)) d_Mo_needCall_204 ⟨(Nat.le_of_ble_eq_true rfl), (Nat.le_of_ble_eq_true rfl)⟩) (fun r51 u49 H locs hw50 S => ?_)
        have S : Sw G A s.heap _ _ [((ma 0), .inl (k 0, 4, .inl (fun i => nI (tk i)))), ((ma 1), .inl (k 0, 800, .inl wd)), ((ma 13), .inl (k 1, 36982, .inr (.inl L9))), ((ma 15), .inl (k 1, 3690, .inr (.inl s8_))), (h0, .inr (8, moL ma (va_up (va_up (va_up iv 14 (nI (un + 1))) 15 (nI (((co9 + 1) + 1) + 1))) 16 (nI (fcN ((co9 + 1) + 1) (fcN (co9 + 1) (fcN co9 (fuN un fl)))))) co)), ((ma 14), .inl (k 0, 4, .inl (fun i => nI (fs i))))] := S
        obtain rfl : r51 = nI (fs g9 + k9) := hw50
        refine z_iadd (x := nI ((22 * b9 + v9) * 41)) (y := nI (fs g9 + k9)) (v := nI ((22 * b9 + v9) * 41 + (fs g9 + k9))) hx hb d_Mo_needCall_207 (show _ = nI ((22 * b9 + v9) * 41 + (fs g9 + k9)) from (nI_add ((22 * b9 + v9) * 41) (fs g9 + k9)).trans (congrArg nI (by omega))) ?_
        refine lv_dup2_11 hx hb d_Mo_needCall_208 rfl rfl ?_
        refine r_lald C K S 2 rfl (i := nI ((22 * b9 + v9) * 41 + (fs g9 + k9))) (show vp_in (nI ((22 * b9 + v9) * 41 + (fs g9 + k9))) _ from vp_in_nI (n := ((22 * b9 + v9) * 41 + (fs g9 + k9))) (by omega) (by decide)) (v := L9 ((22 * b9 + v9) * 41 + (fs g9 + k9))) (by rw [nI_clamp (by omega)]) d_Mo_needCall_209 ?_
        refine lv_lconst (v := 1) hx hb d_Mo_needCall_210 (by decide) ?_
        refine lv_ladd hx hb d_Mo_needCall_211 ?_
        refine r_last C K S 2 rfl (i := nI ((22 * b9 + v9) * 41 + (fs g9 + k9))) (x := (L9 ((22 * b9 + v9) * 41 + (fs g9 + k9))) + 1) (show vp_in (nI ((22 * b9 + v9) * 41 + (fs g9 + k9))) _ from vp_in_nI (n := ((22 * b9 + v9) * 41 + (fs g9 + k9))) (by omega) (by decide)) (f' := va_up L9 ((22 * b9 + v9) * 41 + (fs g9 + k9)) ((L9 ((22 * b9 + v9) * 41 + (fs g9 + k9))) + 1)) (ws' := [((ma 0), .inl (k 0, 4, .inl (fun i => nI (tk i)))), ((ma 1), .inl (k 0, 800, .inl wd)), ((ma 13), .inl (k 1, 36982, .inr (.inl (va_up L9 ((22 * b9 + v9) * 41 + (fs g9 + k9)) ((L9 ((22 * b9 + v9) * 41 + (fs g9 + k9))) + 1))))), ((ma 15), .inl (k 1, 3690, .inr (.inl s8_))), (h0, .inr (8, moL ma (va_up (va_up (va_up iv 14 (nI (un + 1))) 15 (nI (((co9 + 1) + 1) + 1))) 16 (nI (fcN ((co9 + 1) + 1) (fcN (co9 + 1) (fcN co9 (fuN un fl)))))) co)), ((ma 14), .inl (k 0, 4, .inl (fun i => nI (fs i))))]) (show vp_updL _ (nI ((22 * b9 + v9) * 41 + (fs g9 + k9)) : Int32).toNatClampNeg _ = _ from vp_updL_eq L9 (j := ((22 * b9 + v9) * 41 + (fs g9 + k9))) (by omega) ((L9 ((22 * b9 + v9) * 41 + (fs g9 + k9))) + 1)) rfl d_Mo_needCall_212 (fun H locs S => ?_)
        obtain ⟨L8, he_L8⟩ : ∃ x9 : Nat → Int64, x9 = va_up L9 ((22 * b9 + v9) * 41 + (fs g9 + k9)) ((L9 ((22 * b9 + v9) * 41 + (fs g9 + k9))) + 1) := ⟨_, rfl⟩
        have j1 : lz L8 (22 * b9 + v9) ≤ lz L9 (22 * b9 + v9) + 1 := by rw [he_L8]; exact lz_inc (l1_inc _)
        have j2 : ∀ x, x ≠ 22 * b9 + v9 → lz L8 x = lz L9 x := by rw [he_L8]; exact fun x hx => lz_up_ne (by omega) hx
        have S : Sw G A s.heap H locs [((ma 0), .inl (k 0, 4, .inl (fun i => nI (tk i)))), ((ma 1), .inl (k 0, 800, .inl wd)), ((ma 13), .inl (k 1, 36982, .inr (.inl L8))), ((ma 15), .inl (k 1, 3690, .inr (.inl s8_))), (h0, .inr (8, moL ma (va_up (va_up (va_up iv 14 (nI (un + 1))) 15 (nI (((co9 + 1) + 1) + 1))) 16 (nI (fcN ((co9 + 1) + 1) (fcN (co9 + 1) (fcN co9 (fuN un fl)))))) co)), ((ma 14), .inl (k 0, 4, .inl (fun i => nI (fs i))))] := by rw [he_L8]; exact S
        have j3 := tn_inc hv2 j2 j1
        refine lv_iinc (v := nI (k9 + 1)) (lv' := [(6, .int (nI (k9 + 1))), (5, .int (nI (cxN (co9 + 1) * 41))), (4, .int (nI (uiN un))), (0, .ref h0), (1, .int (nI b9)), (2, .int (nI (200 * f9 + p9))), (3, .int (nI g9))]) hx hb d_Mo_needCall_213 hl (k := 0) rfl (show nI k9 + Int32.ofInt 1 = nI (k9 + 1) from (nI_add k9 1).trans (congrArg nI (by omega))) (by decide) rfl (fun ls hl => ?_)
        refine lv_goto (tgt := 170) hx hb d_Mo_needCall_216 (by decide) ?_
        exact ih_lp (k9 + 1) L8 (by omega) (by omega) (by omega) (fun x hx => by rw [j2 x (by omega)]; exact ho x hx) _ _ (S.sub [0, 1, 5, 4, 2, 3] (by decide) rfl) ls (lv_sub hl [0, 1, 2, 3, 4, 5, 6] rfl)
  exact lp _ 0 L1 (Nat.lt_succ_self _) (by omega) (by rw [tn_same (fun k9 hk => k2 _ (by omega))]; omega) (fun _ _ => rfl) _ _ (S.sub [0, 1, 2, 3, 4, 5] (by decide) rfl) ls (lv_sub hl [0, 1, 2, 3, 4, 5, 6] rfl)
end
section
/-- how many other variables are named, of the first w -/
def ncN (W : Nat → Int32) (tk : Nat → Nat) (n0 p0 v : Nat) : Nat → Nat
  | 0 => 0
  | w + 1 => ncN W tk n0 p0 v w + (if w ≠ v ∧ nmN W tk (nI w) n0 p0 = true then 1 else 0)
theorem ncN_le {W : Nat → Int32} {tk : Nat → Nat} {n0 p0 v : Nat} : ∀ w, ncN W tk n0 p0 v w ≤ w
  | 0 => Nat.le_refl _
  | w + 1 => by
    rw [ncN]
    have := ncN_le (W := W) (tk := tk) (n0 := n0) (p0 := p0) (v := v) w
    split <;> omega
theorem nc_1 {W : Nat → Int32} {tk : Nat → Nat} {n0 p0 v w : Nat} (h : w ≠ v) (h2 : b01 (nmN W tk (nI w) n0 p0) ≠ 0) : ncN W tk n0 p0 v (w + 1) = ncN W tk n0 p0 v w + 1 := by
  have hb : nmN W tk (nI w) n0 p0 = true := by
    cases hb : nmN W tk (nI w) n0 p0
    · rw [hb] at h2; exact absurd rfl h2
    · rfl
  rw [ncN, if_pos ⟨h, hb⟩]
theorem nc_0 {W : Nat → Int32} {tk : Nat → Nat} {n0 p0 v w : Nat} (h : w = v ∨ b01 (nmN W tk (nI w) n0 p0) = 0) : ncN W tk n0 p0 v (w + 1) = ncN W tk n0 p0 v w := by
  have hn : ¬ (w ≠ v ∧ nmN W tk (nI w) n0 p0 = true) := by
    rintro ⟨a, b⟩
    rcases h with h | h
    · exact a h
    · rw [b] at h; exact absurd h (by decide)
  rw [ncN, if_neg hn, Nat.add_zero]
theorem tn_fin {L : Nat → Int64} {b v X : Nat} (h : ∀ k, k < 19 → k ≠ v → lz L (22 * b + k) ≤ 1) (h2 : lz L (22 * b + v) ≤ X) : tn L b ≤ 19 + X := by
  have e : ns 19 (fun _ => 1) = 19 := by decide
  unfold tn
  rw [← e]
  exact ns_one (j := v) (fun i hi hne => h i hi hne) (by omega)
theorem m_one {L : Nat → Int64} {x j : Nat} (h : lz L x = 0) (hj : j < 41) : lz (va_up L (x * 41 + j) 1) x ≤ 1 := Nat.le_trans (lz_up hj) (by rw [h, l1_1]; exact Nat.le_refl _)
theorem d_Mo_needMatch_0 : decode c_Mo_needMatch 0 = .ok (.sipush 200, 3) := by decide +kernel
theorem d_Mo_needMatch_3 : decode c_Mo_needMatch 3 = .ok (.iload_n 2, 1) := by decide +kernel
theorem d_Mo_needMatch_4 : decode c_Mo_needMatch 4 = .ok (.imul, 1) := by decide +kernel
theorem d_Mo_needMatch_5 : decode c_Mo_needMatch 5 = .ok (.iload_n 3, 1) := by decide +kernel
theorem d_Mo_needMatch_6 : decode c_Mo_needMatch 6 = .ok (.iadd, 1) := by decide +kernel
theorem d_Mo_needMatch_7 : decode c_Mo_needMatch 7 = .ok (.istore 7, 2) := by decide +kernel
theorem d_Mo_needMatch_9 : decode c_Mo_needMatch 9 = .ok (.aload_n 0, 1) := by decide +kernel
theorem d_Mo_needMatch_10 : decode c_Mo_needMatch 10 = .ok (.getfield 13, 3) := by decide +kernel
theorem d_Mo_needMatch_13 : decode c_Mo_needMatch 13 = .ok (.iload 7, 2) := by decide +kernel
theorem d_Mo_needMatch_15 : decode c_Mo_needMatch 15 = .ok (.iconst 1, 1) := by decide +kernel
theorem d_Mo_needMatch_16 : decode c_Mo_needMatch 16 = .ok (.iadd, 1) := by decide +kernel
theorem d_Mo_needMatch_17 : decode c_Mo_needMatch 17 = .ok (.iaload, 1) := by decide +kernel
theorem d_Mo_needMatch_18 : decode c_Mo_needMatch 18 = .ok (.istore 8, 2) := by decide +kernel
theorem d_Mo_needMatch_20 : decode c_Mo_needMatch 20 = .ok (.aload_n 0, 1) := by decide +kernel
theorem d_Mo_needMatch_21 : decode c_Mo_needMatch 21 = .ok (.invokevirtual 260, 3) := by decide +kernel
theorem d_Mo_needMatch_24 : decode c_Mo_needMatch 24 = .ok (.istore 9, 2) := by decide +kernel
theorem d_Mo_needMatch_26 : decode c_Mo_needMatch 26 = .ok (.aload_n 0, 1) := by decide +kernel
theorem d_Mo_needMatch_27 : decode c_Mo_needMatch 27 = .ok (.invokevirtual 260, 3) := by decide +kernel
theorem d_Mo_needMatch_30 : decode c_Mo_needMatch 30 = .ok (.istore 10, 2) := by decide +kernel
theorem d_Mo_needMatch_32 : decode c_Mo_needMatch 32 = .ok (.aload_n 0, 1) := by decide +kernel
theorem d_Mo_needMatch_33 : decode c_Mo_needMatch 33 = .ok (.iload 9, 2) := by decide +kernel
theorem d_Mo_needMatch_35 : decode c_Mo_needMatch 35 = .ok (.iload 6, 2) := by decide +kernel
theorem d_Mo_needMatch_37 : decode c_Mo_needMatch 37 = .ok (.iload 4, 2) := by decide +kernel
theorem d_Mo_needMatch_39 : decode c_Mo_needMatch 39 = .ok (.invokestatic 211, 3) := by decide +kernel
theorem d_Mo_needMatch_42 : decode c_Mo_needMatch 42 = .ok (.invokevirtual 266, 3) := by decide +kernel
theorem d_Mo_needMatch_45 : decode c_Mo_needMatch 45 = .ok (.aload_n 0, 1) := by decide +kernel
theorem d_Mo_needMatch_46 : decode c_Mo_needMatch 46 = .ok (.iload 10, 2) := by decide +kernel
theorem d_Mo_needMatch_48 : decode c_Mo_needMatch 48 = .ok (.iload 5, 2) := by decide +kernel
theorem d_Mo_needMatch_50 : decode c_Mo_needMatch 50 = .ok (.bipush 19, 2) := by decide +kernel
theorem d_Mo_needMatch_52 : decode c_Mo_needMatch 52 = .ok (.invokestatic 211, 3) := by decide +kernel
theorem d_Mo_needMatch_55 : decode c_Mo_needMatch 55 = .ok (.invokevirtual 266, 3) := by decide +kernel
theorem d_Mo_needMatch_58 : decode c_Mo_needMatch 58 = .ok (.aload_n 0, 1) := by decide +kernel
theorem d_Mo_needMatch_59 : decode c_Mo_needMatch 59 = .ok (.invokevirtual 201, 3) := by decide +kernel
theorem d_Mo_needMatch_62 : decode c_Mo_needMatch 62 = .ok (.istore 11, 2) := by decide +kernel
theorem d_Mo_needMatch_64 : decode c_Mo_needMatch 64 = .ok (.aload_n 0, 1) := by decide +kernel
theorem d_Mo_needMatch_65 : decode c_Mo_needMatch 65 = .ok (.getfield 64, 3) := by decide +kernel
theorem d_Mo_needMatch_68 : decode c_Mo_needMatch 68 = .ok (.iload 11, 2) := by decide +kernel
theorem d_Mo_needMatch_70 : decode c_Mo_needMatch 70 = .ok (.iload 10, 2) := by decide +kernel
theorem d_Mo_needMatch_72 : decode c_Mo_needMatch 72 = .ok (.iadd, 1) := by decide +kernel
theorem d_Mo_needMatch_73 : decode c_Mo_needMatch 73 = .ok (.dup2, 1) := by decide +kernel
theorem d_Mo_needMatch_74 : decode c_Mo_needMatch 74 = .ok (.laload, 1) := by decide +kernel
theorem d_Mo_needMatch_75 : decode c_Mo_needMatch 75 = .ok (.lconst 1, 1) := by decide +kernel
theorem d_Mo_needMatch_76 : decode c_Mo_needMatch 76 = .ok (.ladd, 1) := by decide +kernel
theorem d_Mo_needMatch_77 : decode c_Mo_needMatch 77 = .ok (.lastore, 1) := by decide +kernel
theorem d_Mo_needMatch_78 : decode c_Mo_needMatch 78 = .ok (.aload_n 0, 1) := by decide +kernel
theorem d_Mo_needMatch_79 : decode c_Mo_needMatch 79 = .ok (.getfield 64, 3) := by decide +kernel
theorem d_Mo_needMatch_82 : decode c_Mo_needMatch 82 = .ok (.iload 11, 2) := by decide +kernel
theorem d_Mo_needMatch_84 : decode c_Mo_needMatch 84 = .ok (.iload 9, 2) := by decide +kernel
theorem d_Mo_needMatch_86 : decode c_Mo_needMatch 86 = .ok (.iadd, 1) := by decide +kernel
theorem d_Mo_needMatch_87 : decode c_Mo_needMatch 87 = .ok (.dup2, 1) := by decide +kernel
theorem d_Mo_needMatch_88 : decode c_Mo_needMatch 88 = .ok (.laload, 1) := by decide +kernel
theorem d_Mo_needMatch_89 : decode c_Mo_needMatch 89 = .ok (.lconst 1, 1) := by decide +kernel
theorem d_Mo_needMatch_90 : decode c_Mo_needMatch 90 = .ok (.ladd, 1) := by decide +kernel
theorem d_Mo_needMatch_91 : decode c_Mo_needMatch 91 = .ok (.lastore, 1) := by decide +kernel
theorem d_Mo_needMatch_92 : decode c_Mo_needMatch 92 = .ok (.aload_n 0, 1) := by decide +kernel
theorem d_Mo_needMatch_93 : decode c_Mo_needMatch 93 = .ok (.iload 11, 2) := by decide +kernel
theorem d_Mo_needMatch_95 : decode c_Mo_needMatch 95 = .ok (.iload 6, 2) := by decide +kernel
theorem d_Mo_needMatch_97 : decode c_Mo_needMatch 97 = .ok (.bipush 19, 2) := by decide +kernel
theorem d_Mo_needMatch_99 : decode c_Mo_needMatch 99 = .ok (.invokestatic 211, 3) := by decide +kernel
theorem d_Mo_needMatch_102 : decode c_Mo_needMatch 102 = .ok (.invokevirtual 205, 3) := by decide +kernel
theorem d_Mo_needMatch_105 : decode c_Mo_needMatch 105 = .ok (.iconst 0, 1) := by decide +kernel
theorem d_Mo_needMatch_106 : decode c_Mo_needMatch 106 = .ok (.istore 12, 2) := by decide +kernel
theorem d_Mo_needMatch_108 : decode c_Mo_needMatch 108 = .ok (.iload 12, 2) := by decide +kernel
theorem d_Mo_needMatch_110 : decode c_Mo_needMatch 110 = .ok (.iload 4, 2) := by decide +kernel
theorem d_Mo_needMatch_112 : decode c_Mo_needMatch 112 = .ok (.if_icmp .ge 86, 3) := by decide +kernel
theorem d_Mo_needMatch_115 : decode c_Mo_needMatch 115 = .ok (.iload 12, 2) := by decide +kernel
theorem d_Mo_needMatch_117 : decode c_Mo_needMatch 117 = .ok (.iload 8, 2) := by decide +kernel
theorem d_Mo_needMatch_119 : decode c_Mo_needMatch 119 = .ok (.if_icmp .eq 73, 3) := by decide +kernel
theorem d_Mo_needMatch_122 : decode c_Mo_needMatch 122 = .ok (.aload_n 0, 1) := by decide +kernel
theorem d_Mo_needMatch_123 : decode c_Mo_needMatch 123 = .ok (.iload_n 2, 1) := by decide +kernel
theorem d_Mo_needMatch_124 : decode c_Mo_needMatch 124 = .ok (.iload_n 3, 1) := by decide +kernel
theorem d_Mo_needMatch_125 : decode c_Mo_needMatch 125 = .ok (.iconst 2, 1) := by decide +kernel
theorem d_Mo_needMatch_126 : decode c_Mo_needMatch 126 = .ok (.iadd, 1) := by decide +kernel
theorem d_Mo_needMatch_127 : decode c_Mo_needMatch 127 = .ok (.aload_n 0, 1) := by decide +kernel
theorem d_Mo_needMatch_128 : decode c_Mo_needMatch 128 = .ok (.getfield 23, 3) := by decide +kernel
theorem d_Mo_needMatch_131 : decode c_Mo_needMatch 131 = .ok (.iload 7, 2) := by decide +kernel
theorem d_Mo_needMatch_133 : decode c_Mo_needMatch 133 = .ok (.iaload, 1) := by decide +kernel
theorem d_Mo_needMatch_134 : decode c_Mo_needMatch 134 = .ok (.iload 12, 2) := by decide +kernel
theorem d_Mo_needMatch_136 : decode c_Mo_needMatch 136 = .ok (.invokevirtual 269, 3) := by decide +kernel
theorem d_Mo_needMatch_139 : decode c_Mo_needMatch 139 = .ok (.ifCond .ne 6, 3) := by decide +kernel
theorem d_Mo_needMatch_142 : decode c_Mo_needMatch 142 = .ok (.goto 50, 3) := by decide +kernel
theorem d_Mo_needMatch_145 : decode c_Mo_needMatch 145 = .ok (.aload_n 0, 1) := by decide +kernel
theorem d_Mo_needMatch_146 : decode c_Mo_needMatch 146 = .ok (.invokevirtual 260, 3) := by decide +kernel
theorem d_Mo_needMatch_149 : decode c_Mo_needMatch 149 = .ok (.istore 13, 2) := by decide +kernel
theorem d_Mo_needMatch_151 : decode c_Mo_needMatch 151 = .ok (.aload_n 0, 1) := by decide +kernel
theorem d_Mo_needMatch_152 : decode c_Mo_needMatch 152 = .ok (.iload 13, 2) := by decide +kernel
theorem d_Mo_needMatch_154 : decode c_Mo_needMatch 154 = .ok (.iload 5, 2) := by decide +kernel
theorem d_Mo_needMatch_156 : decode c_Mo_needMatch 156 = .ok (.iload 12, 2) := by decide +kernel
theorem d_Mo_needMatch_158 : decode c_Mo_needMatch 158 = .ok (.invokestatic 211, 3) := by decide +kernel
theorem d_Mo_needMatch_161 : decode c_Mo_needMatch 161 = .ok (.invokevirtual 266, 3) := by decide +kernel
theorem d_Mo_needMatch_164 : decode c_Mo_needMatch 164 = .ok (.aload_n 0, 1) := by decide +kernel
theorem d_Mo_needMatch_165 : decode c_Mo_needMatch 165 = .ok (.iload 13, 2) := by decide +kernel
theorem d_Mo_needMatch_167 : decode c_Mo_needMatch 167 = .ok (.iload 6, 2) := by decide +kernel
theorem d_Mo_needMatch_169 : decode c_Mo_needMatch 169 = .ok (.iload 12, 2) := by decide +kernel
theorem d_Mo_needMatch_171 : decode c_Mo_needMatch 171 = .ok (.invokestatic 211, 3) := by decide +kernel
theorem d_Mo_needMatch_174 : decode c_Mo_needMatch 174 = .ok (.invokevirtual 266, 3) := by decide +kernel
theorem d_Mo_needMatch_177 : decode c_Mo_needMatch 177 = .ok (.aload_n 0, 1) := by decide +kernel
theorem d_Mo_needMatch_178 : decode c_Mo_needMatch 178 = .ok (.getfield 57, 3) := by decide +kernel
theorem d_Mo_needMatch_181 : decode c_Mo_needMatch 181 = .ok (.iload_n 1, 1) := by decide +kernel
theorem d_Mo_needMatch_182 : decode c_Mo_needMatch 182 = .ok (.iload 12, 2) := by decide +kernel
theorem d_Mo_needMatch_184 : decode c_Mo_needMatch 184 = .ok (.invokestatic 211, 3) := by decide +kernel
theorem d_Mo_needMatch_187 : decode c_Mo_needMatch 187 = .ok (.iload 13, 2) := by decide +kernel
theorem d_Mo_needMatch_189 : decode c_Mo_needMatch 189 = .ok (.iadd, 1) := by decide +kernel
theorem d_Mo_needMatch_190 : decode c_Mo_needMatch 190 = .ok (.lconst 1, 1) := by decide +kernel
theorem d_Mo_needMatch_191 : decode c_Mo_needMatch 191 = .ok (.lastore, 1) := by decide +kernel
theorem d_Mo_needMatch_192 : decode c_Mo_needMatch 192 = .ok (.iinc 12 1, 3) := by decide +kernel
theorem d_Mo_needMatch_195 : decode c_Mo_needMatch 195 = .ok (.goto (-87), 3) := by decide +kernel
theorem d_Mo_needMatch_198 : decode c_Mo_needMatch 198 = .ok (.aload_n 0, 1) := by decide +kernel
theorem d_Mo_needMatch_199 : decode c_Mo_needMatch 199 = .ok (.iload 6, 2) := by decide +kernel
theorem d_Mo_needMatch_201 : decode c_Mo_needMatch 201 = .ok (.iload 8, 2) := by decide +kernel
theorem d_Mo_needMatch_203 : decode c_Mo_needMatch 203 = .ok (.invokestatic 211, 3) := by decide +kernel
theorem d_Mo_needMatch_206 : decode c_Mo_needMatch 206 = .ok (.iload_n 1, 1) := by decide +kernel
theorem d_Mo_needMatch_207 : decode c_Mo_needMatch 207 = .ok (.iload 8, 2) := by decide +kernel
theorem d_Mo_needMatch_209 : decode c_Mo_needMatch 209 = .ok (.invokestatic 211, 3) := by decide +kernel
theorem d_Mo_needMatch_212 : decode c_Mo_needMatch 212 = .ok (.invokevirtual 218, 3) := by decide +kernel
theorem d_Mo_needMatch_215 : decode c_Mo_needMatch 215 = .ok (.aload_n 0, 1) := by decide +kernel
theorem d_Mo_needMatch_216 : decode c_Mo_needMatch 216 = .ok (.getfield 57, 3) := by decide +kernel
theorem d_Mo_needMatch_219 : decode c_Mo_needMatch 219 = .ok (.iload_n 1, 1) := by decide +kernel
theorem d_Mo_needMatch_220 : decode c_Mo_needMatch 220 = .ok (.iload 8, 2) := by decide +kernel
theorem d_Mo_needMatch_222 : decode c_Mo_needMatch 222 = .ok (.invokestatic 211, 3) := by decide +kernel
theorem d_Mo_needMatch_225 : decode c_Mo_needMatch 225 = .ok (.iload 9, 2) := by decide +kernel
theorem d_Mo_needMatch_227 : decode c_Mo_needMatch 227 = .ok (.iadd, 1) := by decide +kernel
theorem d_Mo_needMatch_228 : decode c_Mo_needMatch 228 = .ok (.dup2, 1) := by decide +kernel
theorem d_Mo_needMatch_229 : decode c_Mo_needMatch 229 = .ok (.laload, 1) := by decide +kernel
theorem d_Mo_needMatch_230 : decode c_Mo_needMatch 230 = .ok (.lconst 1, 1) := by decide +kernel
theorem d_Mo_needMatch_231 : decode c_Mo_needMatch 231 = .ok (.ladd, 1) := by decide +kernel
theorem d_Mo_needMatch_232 : decode c_Mo_needMatch 232 = .ok (.lastore, 1) := by decide +kernel
theorem d_Mo_needMatch_233 : decode c_Mo_needMatch 233 = .ok (.aload_n 0, 1) := by decide +kernel
theorem d_Mo_needMatch_234 : decode c_Mo_needMatch 234 = .ok (.getfield 57, 3) := by decide +kernel
theorem d_Mo_needMatch_237 : decode c_Mo_needMatch 237 = .ok (.iload_n 1, 1) := by decide +kernel
theorem d_Mo_needMatch_238 : decode c_Mo_needMatch 238 = .ok (.bipush 19, 2) := by decide +kernel
theorem d_Mo_needMatch_240 : decode c_Mo_needMatch 240 = .ok (.invokestatic 211, 3) := by decide +kernel
theorem d_Mo_needMatch_243 : decode c_Mo_needMatch 243 = .ok (.iload 10, 2) := by decide +kernel
theorem d_Mo_needMatch_245 : decode c_Mo_needMatch 245 = .ok (.iadd, 1) := by decide +kernel
theorem d_Mo_needMatch_246 : decode c_Mo_needMatch 246 = .ok (.lconst 1, 1) := by decide +kernel
theorem d_Mo_needMatch_247 : decode c_Mo_needMatch 247 = .ok (.lastore, 1) := by decide +kernel
theorem d_Mo_needMatch_248 : decode c_Mo_needMatch 248 = .ok (.return_, 1) := by decide +kernel
set_option maxRecDepth 100000 in
set_option maxHeartbeats 16000000 in
/-- needMatch(b9, f9, p9, kn, eb, gb) -/
theorem g_Mo_needMatch (l : Launch) (G : va_G) (k : Nat → ClassId) (h0 : Nat) (s0 : Nat) (b9 : Nat) (f9 : Nat) (p9 : Nat) (kn : Nat) (eb : Nat) (gb : Nat) (v9 : Nat) (q9 : Nat) (n0 : Nat) (nf : Nat) (un : Nat) (co9 : Nat) (fl : Nat) (ma : Nat → Nat) (iv : Nat → Int32) (co : Int64) (tk : Nat → Nat) (En : Nat → Nat) (wd : Nat → Int32) (L : Nat → Int64) (sm : Nat → Int64) (hbk : b9 < 40) (heb : eb < 40 ∧ b9 < eb) (hgb : gb < 40 ∧ b9 < gb) (hf : f9 < 4) (hp : p9 + 2 ≤ 200) (hkn : kn ≤ 18) (hv : wdF wd f9 (p9 + 1) = nI v9) (hv2 : v9 < kn) (hen : En (200 * f9 + p9) = q9) (hq : q9 ≤ 200) (hnf : nf ≤ 4) (hH : HDn (wdF wd f9) tk nf n0 (p9 + 2) q9) (htk : ∀ g, g < 4 → tk g ≤ 3) (hun : un ≤ 9000) (hco : co9 ≤ 9000) (hflo : flO un co9 fl) (hsm : smO co9 sm) (hz : ∀ k9, k9 < 20 → lz L (22 * b9 + k9) = 0) (hN1 : ∀ k9, k9 < 20 → lz L (22 * eb + k9) ≤ 60000) (hN2 : ∀ k9, k9 < 20 → lz L (22 * gb + k9) ≤ 60000) : CV l y_Mo_needMatch c_Mo_needMatch 14 { frames := 2, cells := 0, slots := 0, locals := 51 } [.ref h0, .int (nI b9), .int (nI f9), .int (nI p9), .int (nI kn), .int (nI eb), .int (nI gb)] G k s0 [(h0, .inr (8, moL ma (va_up (va_up (va_up iv 14 (nI un)) 15 (nI co9)) 16 (nI fl)) co)), ((ma 0), .inl (k 0, 4, .inl (fun i => nI (tk i)))), ((ma 1), .inl (k 0, 800, .inl wd)), ((ma 3), .inl (k 0, 800, .inl (fun i => nI (En i)))), ((ma 13), .inl (k 1, 36982, .inr (.inl L))), ((ma 15), .inl (k 1, 3690, .inr (.inl sm)))] (fun (u : (Nat → Int64) × (Nat → Int64) × Nat) => flO (un + 2 + ncN (wdF wd f9) tk n0 (p9 + 2) v9 kn) (co9 + 3 + 2 * ncN (wdF wd f9) tk n0 (p9 + 2) v9 kn) u.2.2 ∧ smO (co9 + 3 + 2 * ncN (wdF wd f9) tk n0 (p9 + 2) v9 kn) u.2.1 ∧ tn u.1 b9 ≤ lz L (22 * gb + v9) + 20 ∧ lz u.1 (22 * b9 + 19) ≤ 1 ∧ ∀ x, x < 22 * b9 ∨ 22 * b9 + 20 ≤ x → lz u.1 x = lz L x) (fun u => [(h0, .inr (8, moL ma (va_up (va_up (va_up iv 14 (nI (un + 2 + ncN (wdF wd f9) tk n0 (p9 + 2) v9 kn))) 15 (nI (co9 + 3 + 2 * ncN (wdF wd f9) tk n0 (p9 + 2) v9 kn))) 16 (nI u.2.2)) co)), ((ma 0), .inl (k 0, 4, .inl (fun i => nI (tk i)))), ((ma 1), .inl (k 0, 800, .inl wd)), ((ma 3), .inl (k 0, 800, .inl (fun i => nI (En i)))), ((ma 13), .inl (k 1, 36982, .inr (.inl u.1))), ((ma 15), .inl (k 1, 3690, .inr (.inl u.2.1)))]) 0 0 := by
  refine met_start (by decide) (Nat.le_of_ble_eq_true rfl) ?_
  intro p e s m below meth c C K hA hsz S ls hl
  generalize va_A [(h0, .inr (8, moL ma (va_up (va_up (va_up iv 14 (nI un)) 15 (nI co9)) 16 (nI fl)) co)), ((ma 0), .inl (k 0, 4, .inl (fun i => nI (tk i)))), ((ma 1), .inl (k 0, 800, .inl wd)), ((ma 3), .inl (k 0, 800, .inl (fun i => nI (En i)))), ((ma 13), .inl (k 1, 36982, .inr (.inl L))), ((ma 15), .inl (k 1, 3690, .inr (.inl sm)))] s0 = A at hA S ⊢
  have hx := C.1
  have hb := C.2.1
  have hl : lv_has ls 14 [(0, .ref h0), (1, .int (nI b9)), (2, .int (nI f9)), (3, .int (nI p9)), (4, .int (nI kn)), (5, .int (nI eb)), (6, .int (nI gb))] := hl
  have hu0 := uiN_lt un
  have hu1 := uiN_lt (un + 1)
  have hc2 := cxN_lt (co9 + 1 + 1)
  refine lv_sipush (v := 200) hx hb d_Mo_needMatch_0 (by decide) ?_
  refine lv_iload_n hx hb d_Mo_needMatch_3 rfl (lv_at hl 2 rfl) ?_
  refine z_imul (x := 200) (y := nI f9) (v := nI (200 * f9)) hx hb d_Mo_needMatch_4 (pk_mul 200 f9) ?_
  refine lv_iload_n hx hb d_Mo_needMatch_5 rfl (lv_at hl 3 rfl) ?_
  refine z_iadd (x := nI (200 * f9)) (y := nI p9) (v := nI (200 * f9 + p9)) hx hb d_Mo_needMatch_6 (nI_add (200 * f9) p9) ?_
  refine lv_istore (lv' := [(7, .int (nI (200 * f9 + p9))), (0, .ref h0), (1, .int (nI b9)), (2, .int (nI f9)), (3, .int (nI p9)), (4, .int (nI kn)), (5, .int (nI eb)), (6, .int (nI gb))]) hx hb d_Mo_needMatch_7 hl (by decide) rfl (fun ls hl => ?_)
  refine lv_aload_n hx hb d_Mo_needMatch_9 rfl (lv_at hl 1 rfl) ?_
  refine r_get C K S 0 rfl rfl clOk_Mo 2 (by decide) wf_Mo_13 (v := .ref (ma 1)) rfl d_Mo_needMatch_10 ?_
  refine lv_iload hx hb d_Mo_needMatch_13 (lv_at hl 0 rfl) ?_
  refine lv_iconst (v := 1) hx hb d_Mo_needMatch_15 (by decide) ?_
  refine z_iadd (x := nI (200 * f9 + p9)) (y := 1) (v := nI (200 * f9 + p9 + 1)) hx hb d_Mo_needMatch_16 (nI_add (200 * f9 + p9) 1) ?_
  refine r_iald C K S 2 rfl (i := nI (200 * f9 + p9 + 1)) (show vp_in (nI (200 * f9 + p9 + 1)) _ from vp_in_nI (n := (200 * f9 + p9 + 1)) (by omega) (by decide)) (v := wdF wd f9 (p9 + 1)) (by rw [nI_clamp (by omega)]; exact (show wd (200 * f9 + p9 + 1) = wd (200 * f9 + (p9 + 1)) from congrArg wd (by omega))) d_Mo_needMatch_17 ?_
  rw [hv]
  refine lv_istore (lv' := [(8, .int (nI v9)), (7, .int (nI (200 * f9 + p9))), (0, .ref h0), (1, .int (nI b9)), (2, .int (nI f9)), (3, .int (nI p9)), (4, .int (nI kn)), (5, .int (nI eb)), (6, .int (nI gb))]) hx hb d_Mo_needMatch_18 hl (by decide) rfl (fun ls hl => ?_)
  refine lv_aload_n hx hb d_Mo_needMatch_20 rfl (lv_at hl 2 rfl) ?_
  refine r_backi (wi := [(h0, .inr (8, moL ma (va_up (va_up (va_up iv 15 (nI co9)) 14 (nI un)) 16 (nI fl)) co))]) (wr := [((ma 0), .inl (k 0, 4, .inl (fun i => nI (tk i)))), ((ma 1), .inl (k 0, 800, .inl wd)), ((ma 3), .inl (k 0, 800, .inl (fun i => nI (En i)))), ((ma 13), .inl (k 1, 36982, .inr (.inl L))), ((ma 15), .inl (k 1, 3690, .inr (.inl sm)))]) S hA [0] [1, 2, 3, 4, 5] rfl rfl (by decide) (by decide) (va_runV (As := []) (rest := []) ⟨hx, hb, C.2.2.1, C.2.2.2.1, C.2.2.2.2.1⟩ (g_Mo_newUnknown l G k h0 _ un fl ma (va_up iv 15 (nI co9)) co (by omega) (flO_le hflo)) (k_virt (n := 0) C wc_Mo_newUnknown rfl rfl wz_Mo wm_Mo_260 wn_Mo_newUnknown ws_Mo_newUnknown (by decide +kernel) ⟨(Nat.le_of_ble_eq_true rfl), (Nat.le_of_ble_eq_true rfl)⟩) (pr_nowV K S [0] (by decide) rfl 0 rfl rfl) rfl rfl hl.1 rfl (lv_room (Nat.le_of_ble_eq_true rfl)) d_Mo_needMatch_21 ⟨(Nat.le_of_ble_eq_true rfl), (Nat.le_of_ble_eq_true rfl)⟩) (fun r3 u1 H locs hw2 S => ?_)
  have S : Sw G A s.heap _ _ [((ma 0), .inl (k 0, 4, .inl (fun i => nI (tk i)))), ((ma 1), .inl (k 0, 800, .inl wd)), ((ma 3), .inl (k 0, 800, .inl (fun i => nI (En i)))), ((ma 13), .inl (k 1, 36982, .inr (.inl L))), ((ma 15), .inl (k 1, 3690, .inr (.inl sm))), (h0, .inr (8, moL ma (va_up (va_up (va_up iv 15 (nI co9)) 14 (nI (un + 1))) 16 (nI (fuN un fl))) co))] := S
  obtain ⟨hw20, hp4⟩ := hw2
  obtain rfl : r3 = nI (uiN un) := hw20
  have f1 := flO_u hflo
  refine lv_istore (lv' := [(9, .int (nI (uiN un))), (8, .int (nI v9)), (7, .int (nI (200 * f9 + p9))), (0, .ref h0), (1, .int (nI b9)), (2, .int (nI f9)), (3, .int (nI p9)), (4, .int (nI kn)), (5, .int (nI eb)), (6, .int (nI gb))]) hx hb d_Mo_needMatch_24 hl (by decide) rfl (fun ls hl => ?_)
  refine lv_aload_n hx hb d_Mo_needMatch_26 rfl (lv_at hl 3 rfl) ?_
  refine r_backi (wi := [(h0, .inr (8, moL ma (va_up (va_up (va_up iv 15 (nI co9)) 14 (nI (un + 1))) 16 (nI (fuN un fl))) co))]) (wr := [((ma 0), .inl (k 0, 4, .inl (fun i => nI (tk i)))), ((ma 1), .inl (k 0, 800, .inl wd)), ((ma 3), .inl (k 0, 800, .inl (fun i => nI (En i)))), ((ma 13), .inl (k 1, 36982, .inr (.inl L))), ((ma 15), .inl (k 1, 3690, .inr (.inl sm)))]) S hA [5] [0, 1, 2, 3, 4] rfl rfl (by decide) (by decide) (va_runV (As := []) (rest := []) ⟨hx, hb, C.2.2.1, C.2.2.2.1, C.2.2.2.2.1⟩ (g_Mo_newUnknown l G k h0 _ (un + 1) (fuN un fl) ma (va_up iv 15 (nI co9)) co (by omega) (flO_le f1)) (k_virt (n := 0) C wc_Mo_newUnknown rfl rfl wz_Mo wm_Mo_260 wn_Mo_newUnknown ws_Mo_newUnknown (by decide +kernel) ⟨(Nat.le_of_ble_eq_true rfl), (Nat.le_of_ble_eq_true rfl)⟩) (pr_nowV K S [5] (by decide) rfl 5 rfl rfl) rfl rfl hl.1 rfl (lv_room (Nat.le_of_ble_eq_true rfl)) d_Mo_needMatch_27 ⟨(Nat.le_of_ble_eq_true rfl), (Nat.le_of_ble_eq_true rfl)⟩) (fun r7 u5 H locs hw6 S => ?_)
  have S : Sw G A s.heap _ _ [((ma 0), .inl (k 0, 4, .inl (fun i => nI (tk i)))), ((ma 1), .inl (k 0, 800, .inl wd)), ((ma 3), .inl (k 0, 800, .inl (fun i => nI (En i)))), ((ma 13), .inl (k 1, 36982, .inr (.inl L))), ((ma 15), .inl (k 1, 3690, .inr (.inl sm))), (h0, .inr (8, moL ma (va_up (va_up (va_up iv 15 (nI co9)) 14 (nI ((un + 1) + 1))) 16 (nI (fuN (un + 1) (fuN un fl)))) co))] := S
  obtain ⟨hw60, hp8⟩ := hw6
  obtain rfl : r7 = nI (uiN (un + 1)) := hw60
  have f2 := flO_u f1
  refine lv_istore (lv' := [(10, .int (nI (uiN (un + 1)))), (9, .int (nI (uiN un))), (8, .int (nI v9)), (7, .int (nI (200 * f9 + p9))), (0, .ref h0), (1, .int (nI b9)), (2, .int (nI f9)), (3, .int (nI p9)), (4, .int (nI kn)), (5, .int (nI eb)), (6, .int (nI gb))]) hx hb d_Mo_needMatch_30 hl (by decide) rfl (fun ls hl => ?_)
  refine lv_aload_n hx hb d_Mo_needMatch_32 rfl (lv_at hl 4 rfl) ?_
  refine lv_iload hx hb d_Mo_needMatch_33 (lv_at hl 1 rfl) ?_
  refine lv_iload hx hb d_Mo_needMatch_35 (lv_at hl 10 rfl) ?_
  refine lv_iload hx hb d_Mo_needMatch_37 (lv_at hl 8 rfl) ?_
  refine r_backi (wi := []) (wr := [((ma 0), .inl (k 0, 4, .inl (fun i => nI (tk i)))), ((ma 1), .inl (k 0, 800, .inl wd)), ((ma 3), .inl (k 0, 800, .inl (fun i => nI (En i)))), ((ma 13), .inl (k 1, 36982, .inr (.inl L))), ((ma 15), .inl (k 1, 3690, .inr (.inl sm))), (h0, .inr (8, moL ma (va_up (va_up (va_up iv 15 (nI co9)) 14 (nI ((un + 1) + 1))) 16 (nI (fuN (un + 1) (fuN un fl)))) co))]) S hA [] [0, 1, 2, 3, 4, 5] rfl rfl (by decide) (by decide) (va_runS (As := [.int (nI gb), .int (nI kn)]) (rest := [.int (nI (uiN un)), .ref h0]) ⟨hx, hb, C.2.2.1, C.2.2.2.1, C.2.2.2.2.1⟩ (g_Mo_line l G k _ gb kn) (k_stat (n := 2) C wc_Mo_line rfl rfl wz_Mo wm_Mo_211 wt_Mo_line (by decide +kernel) ⟨(Nat.le_of_ble_eq_true rfl), (Nat.le_of_ble_eq_true rfl)⟩) (pr_now K S [] (by decide) rfl) rfl rfl hl.1 rfl (lv_room (Nat.le_of_ble_eq_true rfl)) d_Mo_needMatch_39 ⟨(Nat.le_of_ble_eq_true rfl), (Nat.le_of_ble_eq_true rfl)⟩) (fun r11 u9 H locs hw10 S => ?_)
  have S : Sw G A s.heap _ _ [((ma 0), .inl (k 0, 4, .inl (fun i => nI (tk i)))), ((ma 1), .inl (k 0, 800, .inl wd)), ((ma 3), .inl (k 0, 800, .inl (fun i => nI (En i)))), ((ma 13), .inl (k 1, 36982, .inr (.inl L))), ((ma 15), .inl (k 1, 3690, .inr (.inl sm))), (h0, .inr (8, moL ma (va_up (va_up (va_up iv 15 (nI co9)) 14 (nI ((un + 1) + 1))) 16 (nI (fuN (un + 1) (fuN un fl)))) co))] := S
  obtain rfl : r11 = nI ((22 * gb + kn) * 41) := hw10
  refine r_backv (wi := [(h0, .inr (8, moL ma (va_up (va_up (va_up iv 14 (nI ((un + 1) + 1))) 15 (nI co9)) 16 (nI (fuN (un + 1) (fuN un fl)))) co)), ((ma 13), .inl (k 1, 36982, .inr (.inl L))), ((ma 15), .inl (k 1, 3690, .inr (.inl sm)))]) (wr := [((ma 0), .inl (k 0, 4, .inl (fun i => nI (tk i)))), ((ma 1), .inl (k 0, 800, .inl wd)), ((ma 3), .inl (k 0, 800, .inl (fun i => nI (En i))))]) S hA [5, 3, 4] [0, 1, 2] rfl rfl (by decide) (by decide) (va_runV (As := [.int (nI (uiN un)), .int (nI ((22 * gb + kn) * 41))]) (rest := []) ⟨hx, hb, C.2.2.1, C.2.2.2.1, C.2.2.2.2.1⟩ (g_Mo_atLeast l G k h0 _ (uiN un) (22 * gb + kn) co9 (fuN (un + 1) (fuN un fl)) ma (va_up iv 14 (nI ((un + 1) + 1))) co L sm (by have := uiN_lt (un); have := uiN_lt (un + 1); omega) (by omega) (by omega) (flO_le f2)) (k_virt (n := 2) C wc_Mo_atLeast rfl rfl wz_Mo wm_Mo_266 wn_Mo_atLeast ws_Mo_atLeast (by decide +kernel) ⟨(Nat.le_of_ble_eq_true rfl), (Nat.le_of_ble_eq_true rfl)⟩) (pr_nowV K S [5, 3, 4] (by decide) rfl 5 rfl rfl) rfl rfl hl.1 rfl (lv_room (Nat.le_of_ble_eq_true rfl)) d_Mo_needMatch_42 ⟨(Nat.le_of_ble_eq_true rfl), (Nat.le_of_ble_eq_true rfl)⟩) (fun s1_ H locs hw13 S => ?_)
  have S : Sw G A s.heap _ _ [((ma 0), .inl (k 0, 4, .inl (fun i => nI (tk i)))), ((ma 1), .inl (k 0, 800, .inl wd)), ((ma 3), .inl (k 0, 800, .inl (fun i => nI (En i)))), (h0, .inr (8, moL ma (va_up (va_up (va_up iv 14 (nI ((un + 1) + 1))) 15 (nI (co9 + 1))) 16 (nI (fcN co9 (fuN (un + 1) (fuN un fl))))) co)), ((ma 13), .inl (k 1, 36982, .inr (.inl L))), ((ma 15), .inl (k 1, 3690, .inr (.inl s1_)))] := S
  have f3 := flO_c f2
  have m1 := smO_s hsm hw13.1 (Nat.le_trans hw13.2 (by have := hN2 kn (by omega); omega))
  refine lv_aload_n hx hb d_Mo_needMatch_45 rfl (lv_at hl 4 rfl) ?_
  refine lv_iload hx hb d_Mo_needMatch_46 (lv_at hl 0 rfl) ?_
  refine lv_iload hx hb d_Mo_needMatch_48 (lv_at hl 9 rfl) ?_
  refine lv_bipush (v := 19) hx hb d_Mo_needMatch_50 (by decide) ?_
  refine r_backi (wi := []) (wr := [((ma 0), .inl (k 0, 4, .inl (fun i => nI (tk i)))), ((ma 1), .inl (k 0, 800, .inl wd)), ((ma 3), .inl (k 0, 800, .inl (fun i => nI (En i)))), (h0, .inr (8, moL ma (va_up (va_up (va_up iv 14 (nI ((un + 1) + 1))) 15 (nI (co9 + 1))) 16 (nI (fcN co9 (fuN (un + 1) (fuN un fl))))) co)), ((ma 13), .inl (k 1, 36982, .inr (.inl L))), ((ma 15), .inl (k 1, 3690, .inr (.inl s1_)))]) S hA [] [0, 1, 2, 3, 4, 5] rfl rfl (by decide) (by decide) (va_runS (As := [.int (nI eb), .int 19]) (rest := [.int (nI (uiN (un + 1))), .ref h0]) ⟨hx, hb, C.2.2.1, C.2.2.2.1, C.2.2.2.2.1⟩ (g_Mo_line l G k _ eb 19) (k_stat (n := 2) C wc_Mo_line rfl rfl wz_Mo wm_Mo_211 wt_Mo_line (by decide +kernel) ⟨(Nat.le_of_ble_eq_true rfl), (Nat.le_of_ble_eq_true rfl)⟩) (pr_now K S [] (by decide) rfl) rfl rfl hl.1 rfl (lv_room (Nat.le_of_ble_eq_true rfl)) d_Mo_needMatch_52 ⟨(Nat.le_of_ble_eq_true rfl), (Nat.le_of_ble_eq_true rfl)⟩) (fun r16 u14 H locs hw15 S => ?_)
  have S : Sw G A s.heap _ _ [((ma 0), .inl (k 0, 4, .inl (fun i => nI (tk i)))), ((ma 1), .inl (k 0, 800, .inl wd)), ((ma 3), .inl (k 0, 800, .inl (fun i => nI (En i)))), (h0, .inr (8, moL ma (va_up (va_up (va_up iv 14 (nI ((un + 1) + 1))) 15 (nI (co9 + 1))) 16 (nI (fcN co9 (fuN (un + 1) (fuN un fl))))) co)), ((ma 13), .inl (k 1, 36982, .inr (.inl L))), ((ma 15), .inl (k 1, 3690, .inr (.inl s1_)))] := S
  obtain rfl : r16 = nI ((22 * eb + 19) * 41) := hw15
  refine r_backv (wi := [(h0, .inr (8, moL ma (va_up (va_up (va_up iv 14 (nI ((un + 1) + 1))) 15 (nI (co9 + 1))) 16 (nI (fcN co9 (fuN (un + 1) (fuN un fl))))) co)), ((ma 13), .inl (k 1, 36982, .inr (.inl L))), ((ma 15), .inl (k 1, 3690, .inr (.inl s1_)))]) (wr := [((ma 0), .inl (k 0, 4, .inl (fun i => nI (tk i)))), ((ma 1), .inl (k 0, 800, .inl wd)), ((ma 3), .inl (k 0, 800, .inl (fun i => nI (En i))))]) S hA [3, 4, 5] [0, 1, 2] rfl rfl (by decide) (by decide) (va_runV (As := [.int (nI (uiN (un + 1))), .int (nI ((22 * eb + 19) * 41))]) (rest := []) ⟨hx, hb, C.2.2.1, C.2.2.2.1, C.2.2.2.2.1⟩ (g_Mo_atLeast l G k h0 _ (uiN (un + 1)) (22 * eb + 19) (co9 + 1) (fcN co9 (fuN (un + 1) (fuN un fl))) ma (va_up iv 14 (nI ((un + 1) + 1))) co L s1_ (by have := uiN_lt (un); have := uiN_lt (un + 1); omega) (by omega) (by omega) (flO_le f3)) (k_virt (n := 2) C wc_Mo_atLeast rfl rfl wz_Mo wm_Mo_266 wn_Mo_atLeast ws_Mo_atLeast (by decide +kernel) ⟨(Nat.le_of_ble_eq_true rfl), (Nat.le_of_ble_eq_true rfl)⟩) (pr_nowV K S [3, 4, 5] (by decide) rfl 3 rfl rfl) rfl rfl hl.1 rfl (lv_room (Nat.le_of_ble_eq_true rfl)) d_Mo_needMatch_55 ⟨(Nat.le_of_ble_eq_true rfl), (Nat.le_of_ble_eq_true rfl)⟩) (fun s2_ H locs hw18 S => ?_)
  have S : Sw G A s.heap _ _ [((ma 0), .inl (k 0, 4, .inl (fun i => nI (tk i)))), ((ma 1), .inl (k 0, 800, .inl wd)), ((ma 3), .inl (k 0, 800, .inl (fun i => nI (En i)))), (h0, .inr (8, moL ma (va_up (va_up (va_up iv 14 (nI ((un + 1) + 1))) 15 (nI ((co9 + 1) + 1))) 16 (nI (fcN (co9 + 1) (fcN co9 (fuN (un + 1) (fuN un fl)))))) co)), ((ma 13), .inl (k 1, 36982, .inr (.inl L))), ((ma 15), .inl (k 1, 3690, .inr (.inl s2_)))] := S
  have f4 := flO_c f3
  have m2 := smO_s m1 hw18.1 (Nat.le_trans hw18.2 (by have := hN1 19 (by omega); omega))
  refine lv_aload_n hx hb d_Mo_needMatch_58 rfl (lv_at hl 4 rfl) ?_
  refine r_backi (wi := [(h0, .inr (8, moL ma (va_up (va_up (va_up iv 14 (nI ((un + 1) + 1))) 15 (nI ((co9 + 1) + 1))) 16 (nI (fcN (co9 + 1) (fcN co9 (fuN (un + 1) (fuN un fl)))))) co)), ((ma 15), .inl (k 1, 3690, .inr (.inl s2_)))]) (wr := [((ma 0), .inl (k 0, 4, .inl (fun i => nI (tk i)))), ((ma 1), .inl (k 0, 800, .inl wd)), ((ma 3), .inl (k 0, 800, .inl (fun i => nI (En i)))), ((ma 13), .inl (k 1, 36982, .inr (.inl L)))]) S hA [3, 5] [0, 1, 2, 4] rfl rfl (by decide) (by decide) (va_runV (As := []) (rest := []) ⟨hx, hb, C.2.2.1, C.2.2.2.1, C.2.2.2.2.1⟩ (g_Mo_newCondition l G k h0 _ ((co9 + 1) + 1) (fcN (co9 + 1) (fcN co9 (fuN (un + 1) (fuN un fl)))) ma (va_up iv 14 (nI ((un + 1) + 1))) co s2_ (by omega) (flO_le f4)) (k_virt (n := 0) C wc_Mo_newCondition rfl rfl wz_Mo wm_Mo_201 wn_Mo_newCondition ws_Mo_newCondition (by decide +kernel) ⟨(Nat.le_of_ble_eq_true rfl), (Nat.le_of_ble_eq_true rfl)⟩) (pr_nowV K S [3, 5] (by decide) rfl 3 rfl rfl) rfl rfl hl.1 rfl (lv_room (Nat.le_of_ble_eq_true rfl)) d_Mo_needMatch_59 ⟨(Nat.le_of_ble_eq_true rfl), (Nat.le_of_ble_eq_true rfl)⟩) (fun r21 u19 H locs hw20 S => ?_)
  have S : Sw G A s.heap _ _ [((ma 0), .inl (k 0, 4, .inl (fun i => nI (tk i)))), ((ma 1), .inl (k 0, 800, .inl wd)), ((ma 3), .inl (k 0, 800, .inl (fun i => nI (En i)))), ((ma 13), .inl (k 1, 36982, .inr (.inl L))), (h0, .inr (8, moL ma (va_up (va_up (va_up iv 14 (nI ((un + 1) + 1))) 15 (nI (((co9 + 1) + 1) + 1))) 16 (nI (fcN ((co9 + 1) + 1) (fcN (co9 + 1) (fcN co9 (fuN (un + 1) (fuN un fl))))))) co)), ((ma 15), .inl (k 1, 3690, .inr (.inl (lnC s2_ (cxN ((co9 + 1) + 1) * 41) 41))))] := S
  obtain ⟨hw200, hp22⟩ := hw20
  obtain rfl : r21 = nI (cxN ((co9 + 1) + 1) * 41) := hw200
  have f5 := flO_c f4
  obtain ⟨s3_, he_s3_⟩ : ∃ x9 : Nat → Int64, x9 = (lnC s2_ (cxN ((co9 + 1) + 1) * 41) 41) := ⟨_, rfl⟩
  have a1 : lz s3_ (cxN (co9 + 1 + 1)) = 0 := by rw [he_s3_]; exact lz_C
  have a2 : ∀ x, x ≠ cxN (co9 + 1 + 1) → lz s3_ x = lz s2_ x := by rw [he_s3_]; exact fun x hx => lz_C_ne hx
  have S : Sw G A s.heap H locs [((ma 0), .inl (k 0, 4, .inl (fun i => nI (tk i)))), ((ma 1), .inl (k 0, 800, .inl wd)), ((ma 3), .inl (k 0, 800, .inl (fun i => nI (En i)))), ((ma 13), .inl (k 1, 36982, .inr (.inl L))), (h0, .inr (8, moL ma (va_up (va_up (va_up iv 14 (nI ((un + 1) + 1))) 15 (nI (((co9 + 1) + 1) + 1))) 16 (nI (fcN ((co9 + 1) + 1) (fcN (co9 + 1) (fcN co9 (fuN (un + 1) (fuN un fl))))))) co)), ((ma 15), .inl (k 1, 3690, .inr (.inl s3_)))] := by rw [he_s3_]; exact S
  refine lv_istore (lv' := [(11, .int (nI (cxN ((co9 + 1) + 1) * 41))), (10, .int (nI (uiN (un + 1)))), (9, .int (nI (uiN un))), (8, .int (nI v9)), (7, .int (nI (200 * f9 + p9))), (0, .ref h0), (1, .int (nI b9)), (2, .int (nI f9)), (3, .int (nI p9)), (4, .int (nI kn)), (5, .int (nI eb)), (6, .int (nI gb))]) hx hb d_Mo_needMatch_62 hl (by decide) rfl (fun ls hl => ?_)
  refine lv_aload_n hx hb d_Mo_needMatch_64 rfl (lv_at hl 5 rfl) ?_
  refine r_get C K S 4 rfl rfl clOk_Mo 33 (by decide) wf_Mo_64 (v := .ref (ma 15)) rfl d_Mo_needMatch_65 ?_
  refine lv_iload hx hb d_Mo_needMatch_68 (lv_at hl 0 rfl) ?_
  refine lv_iload hx hb d_Mo_needMatch_70 (lv_at hl 1 rfl) ?_
  refine z_iadd (x := nI (cxN ((co9 + 1) + 1) * 41)) (y := nI (uiN (un + 1))) (v := nI (cxN ((co9 + 1) + 1) * 41 + (uiN (un + 1)))) hx hb d_Mo_needMatch_72 (show _ = nI (cxN ((co9 + 1) + 1) * 41 + (uiN (un + 1))) from (nI_add (cxN ((co9 + 1) + 1) * 41) (uiN (un + 1))).trans (congrArg nI (by omega))) ?_
  refine lv_dup2_11 hx hb d_Mo_needMatch_73 rfl rfl ?_
  refine r_lald C K S 5 rfl (i := nI (cxN ((co9 + 1) + 1) * 41 + (uiN (un + 1)))) (show vp_in (nI (cxN ((co9 + 1) + 1) * 41 + (uiN (un + 1)))) _ from vp_in_nI (n := (cxN ((co9 + 1) + 1) * 41 + (uiN (un + 1)))) (by omega) (by decide)) (v := s3_ (cxN ((co9 + 1) + 1) * 41 + (uiN (un + 1)))) (by rw [nI_clamp (by omega)]) d_Mo_needMatch_74 ?_
  refine lv_lconst (v := 1) hx hb d_Mo_needMatch_75 (by decide) ?_
  refine lv_ladd hx hb d_Mo_needMatch_76 ?_
  refine r_last C K S 5 rfl (i := nI (cxN ((co9 + 1) + 1) * 41 + (uiN (un + 1)))) (x := (s3_ (cxN ((co9 + 1) + 1) * 41 + (uiN (un + 1)))) + 1) (show vp_in (nI (cxN ((co9 + 1) + 1) * 41 + (uiN (un + 1)))) _ from vp_in_nI (n := (cxN ((co9 + 1) + 1) * 41 + (uiN (un + 1)))) (by omega) (by decide)) (f' := va_up s3_ (cxN ((co9 + 1) + 1) * 41 + (uiN (un + 1))) ((s3_ (cxN ((co9 + 1) + 1) * 41 + (uiN (un + 1)))) + 1)) (ws' := [((ma 0), .inl (k 0, 4, .inl (fun i => nI (tk i)))), ((ma 1), .inl (k 0, 800, .inl wd)), ((ma 3), .inl (k 0, 800, .inl (fun i => nI (En i)))), ((ma 13), .inl (k 1, 36982, .inr (.inl L))), (h0, .inr (8, moL ma (va_up (va_up (va_up iv 14 (nI ((un + 1) + 1))) 15 (nI (((co9 + 1) + 1) + 1))) 16 (nI (fcN ((co9 + 1) + 1) (fcN (co9 + 1) (fcN co9 (fuN (un + 1) (fuN un fl))))))) co)), ((ma 15), .inl (k 1, 3690, .inr (.inl (va_up s3_ (cxN ((co9 + 1) + 1) * 41 + (uiN (un + 1))) ((s3_ (cxN ((co9 + 1) + 1) * 41 + (uiN (un + 1)))) + 1)))))]) (show vp_updL _ (nI (cxN ((co9 + 1) + 1) * 41 + (uiN (un + 1))) : Int32).toNatClampNeg _ = _ from vp_updL_eq s3_ (j := (cxN ((co9 + 1) + 1) * 41 + (uiN (un + 1)))) (by omega) ((s3_ (cxN ((co9 + 1) + 1) * 41 + (uiN (un + 1)))) + 1)) rfl d_Mo_needMatch_77 (fun H locs S => ?_)
  obtain ⟨s4_, he_s4_⟩ : ∃ x9 : Nat → Int64, x9 = va_up s3_ (cxN ((co9 + 1) + 1) * 41 + (uiN (un + 1))) ((s3_ (cxN ((co9 + 1) + 1) * 41 + (uiN (un + 1)))) + 1) := ⟨_, rfl⟩
  have b1 : lz s4_ (cxN (co9 + 1 + 1)) ≤ 1 := by rw [he_s4_]; exact Nat.le_trans (lz_inc (l1_inc _)) (by rw [a1]; exact Nat.le_refl _)
  have b2 : ∀ x, x ≠ cxN (co9 + 1 + 1) → lz s4_ x = lz s2_ x := by rw [he_s4_]; exact fun x hx => by rw [lz_up_ne (by have := uiN_lt (un + 1); omega) hx]; exact a2 x hx
  have S : Sw G A s.heap H locs [((ma 0), .inl (k 0, 4, .inl (fun i => nI (tk i)))), ((ma 1), .inl (k 0, 800, .inl wd)), ((ma 3), .inl (k 0, 800, .inl (fun i => nI (En i)))), ((ma 13), .inl (k 1, 36982, .inr (.inl L))), (h0, .inr (8, moL ma (va_up (va_up (va_up iv 14 (nI ((un + 1) + 1))) 15 (nI (((co9 + 1) + 1) + 1))) 16 (nI (fcN ((co9 + 1) + 1) (fcN (co9 + 1) (fcN co9 (fuN (un + 1) (fuN un fl))))))) co)), ((ma 15), .inl (k 1, 3690, .inr (.inl s4_)))] := by rw [he_s4_]; exact S
  refine lv_aload_n hx hb d_Mo_needMatch_78 rfl (lv_at hl 5 rfl) ?_
  refine r_get C K S 4 rfl rfl clOk_Mo 33 (by decide) wf_Mo_64 (v := .ref (ma 15)) rfl d_Mo_needMatch_79 ?_
  refine lv_iload hx hb d_Mo_needMatch_82 (lv_at hl 0 rfl) ?_
  refine lv_iload hx hb d_Mo_needMatch_84 (lv_at hl 2 rfl) ?_
  refine z_iadd (x := nI (cxN ((co9 + 1) + 1) * 41)) (y := nI (uiN un)) (v := nI (cxN ((co9 + 1) + 1) * 41 + uiN un)) hx hb d_Mo_needMatch_86 (nI_add (cxN ((co9 + 1) + 1) * 41) (uiN un)) ?_
  refine lv_dup2_11 hx hb d_Mo_needMatch_87 rfl rfl ?_
  refine r_lald C K S 5 rfl (i := nI (cxN ((co9 + 1) + 1) * 41 + uiN un)) (show vp_in (nI (cxN ((co9 + 1) + 1) * 41 + uiN un)) _ from vp_in_nI (n := (cxN ((co9 + 1) + 1) * 41 + uiN un)) (by omega) (by decide)) (v := s4_ (cxN ((co9 + 1) + 1) * 41 + uiN un)) (by rw [nI_clamp (by omega)]) d_Mo_needMatch_88 ?_
  refine lv_lconst (v := 1) hx hb d_Mo_needMatch_89 (by decide) ?_
  refine lv_ladd hx hb d_Mo_needMatch_90 ?_
  refine r_last C K S 5 rfl (i := nI (cxN ((co9 + 1) + 1) * 41 + uiN un)) (x := (s4_ (cxN ((co9 + 1) + 1) * 41 + uiN un)) + 1) (show vp_in (nI (cxN ((co9 + 1) + 1) * 41 + uiN un)) _ from vp_in_nI (n := (cxN ((co9 + 1) + 1) * 41 + uiN un)) (by omega) (by decide)) (f' := va_up s4_ (cxN ((co9 + 1) + 1) * 41 + uiN un) ((s4_ (cxN ((co9 + 1) + 1) * 41 + uiN un)) + 1)) (ws' := [((ma 0), .inl (k 0, 4, .inl (fun i => nI (tk i)))), ((ma 1), .inl (k 0, 800, .inl wd)), ((ma 3), .inl (k 0, 800, .inl (fun i => nI (En i)))), ((ma 13), .inl (k 1, 36982, .inr (.inl L))), (h0, .inr (8, moL ma (va_up (va_up (va_up iv 14 (nI ((un + 1) + 1))) 15 (nI (((co9 + 1) + 1) + 1))) 16 (nI (fcN ((co9 + 1) + 1) (fcN (co9 + 1) (fcN co9 (fuN (un + 1) (fuN un fl))))))) co)), ((ma 15), .inl (k 1, 3690, .inr (.inl (va_up s4_ (cxN ((co9 + 1) + 1) * 41 + uiN un) ((s4_ (cxN ((co9 + 1) + 1) * 41 + uiN un)) + 1)))))]) (show vp_updL _ (nI (cxN ((co9 + 1) + 1) * 41 + uiN un) : Int32).toNatClampNeg _ = _ from vp_updL_eq s4_ (j := (cxN ((co9 + 1) + 1) * 41 + uiN un)) (by omega) ((s4_ (cxN ((co9 + 1) + 1) * 41 + uiN un)) + 1)) rfl d_Mo_needMatch_91 (fun H locs S => ?_)
  obtain ⟨s5_, he_s5_⟩ : ∃ x9 : Nat → Int64, x9 = va_up s4_ (cxN ((co9 + 1) + 1) * 41 + uiN un) ((s4_ (cxN ((co9 + 1) + 1) * 41 + uiN un)) + 1) := ⟨_, rfl⟩
  have c1 : lz s5_ (cxN (co9 + 1 + 1)) ≤ 2 := by rw [he_s5_]; exact Nat.le_trans (lz_inc (l1_inc _)) (by omega)
  have c2 : ∀ x, x ≠ cxN (co9 + 1 + 1) → lz s5_ x = lz s2_ x := by rw [he_s5_]; exact fun x hx => by rw [lz_up_ne (by have := uiN_lt un; omega) hx]; exact b2 x hx
  have S : Sw G A s.heap H locs [((ma 0), .inl (k 0, 4, .inl (fun i => nI (tk i)))), ((ma 1), .inl (k 0, 800, .inl wd)), ((ma 3), .inl (k 0, 800, .inl (fun i => nI (En i)))), ((ma 13), .inl (k 1, 36982, .inr (.inl L))), (h0, .inr (8, moL ma (va_up (va_up (va_up iv 14 (nI ((un + 1) + 1))) 15 (nI (((co9 + 1) + 1) + 1))) 16 (nI (fcN ((co9 + 1) + 1) (fcN (co9 + 1) (fcN co9 (fuN (un + 1) (fuN un fl))))))) co)), ((ma 15), .inl (k 1, 3690, .inr (.inl s5_)))] := by rw [he_s5_]; exact S
  refine lv_aload_n hx hb d_Mo_needMatch_92 rfl (lv_at hl 5 rfl) ?_
  refine lv_iload hx hb d_Mo_needMatch_93 (lv_at hl 0 rfl) ?_
  refine lv_iload hx hb d_Mo_needMatch_95 (lv_at hl 11 rfl) ?_
  refine lv_bipush (v := 19) hx hb d_Mo_needMatch_97 (by decide) ?_
  refine r_backi (wi := []) (wr := [((ma 0), .inl (k 0, 4, .inl (fun i => nI (tk i)))), ((ma 1), .inl (k 0, 800, .inl wd)), ((ma 3), .inl (k 0, 800, .inl (fun i => nI (En i)))), ((ma 13), .inl (k 1, 36982, .inr (.inl L))), (h0, .inr (8, moL ma (va_up (va_up (va_up iv 14 (nI ((un + 1) + 1))) 15 (nI (((co9 + 1) + 1) + 1))) 16 (nI (fcN ((co9 + 1) + 1) (fcN (co9 + 1) (fcN co9 (fuN (un + 1) (fuN un fl))))))) co)), ((ma 15), .inl (k 1, 3690, .inr (.inl s5_)))]) S hA [] [0, 1, 2, 3, 4, 5] rfl rfl (by decide) (by decide) (va_runS (As := [.int (nI gb), .int 19]) (rest := [.int (nI (cxN ((co9 + 1) + 1) * 41)), .ref h0]) ⟨hx, hb, C.2.2.1, C.2.2.2.1, C.2.2.2.2.1⟩ (g_Mo_line l G k _ gb 19) (k_stat (n := 2) C wc_Mo_line rfl rfl wz_Mo wm_Mo_211 wt_Mo_line (by decide +kernel) ⟨(Nat.le_of_ble_eq_true rfl), (Nat.le_of_ble_eq_true rfl)⟩) (pr_now K S [] (by decide) rfl) rfl rfl hl.1 rfl (lv_room (Nat.le_of_ble_eq_true rfl)) d_Mo_needMatch_99 ⟨(Nat.le_of_ble_eq_true rfl), (Nat.le_of_ble_eq_true rfl)⟩) (fun r25 u23 H locs hw24 S => ?_)
  have S : Sw G A s.heap _ _ [((ma 0), .inl (k 0, 4, .inl (fun i => nI (tk i)))), ((ma 1), .inl (k 0, 800, .inl wd)), ((ma 3), .inl (k 0, 800, .inl (fun i => nI (En i)))), ((ma 13), .inl (k 1, 36982, .inr (.inl L))), (h0, .inr (8, moL ma (va_up (va_up (va_up iv 14 (nI ((un + 1) + 1))) 15 (nI (((co9 + 1) + 1) + 1))) 16 (nI (fcN ((co9 + 1) + 1) (fcN (co9 + 1) (fcN co9 (fuN (un + 1) (fuN un fl))))))) co)), ((ma 15), .inl (k 1, 3690, .inr (.inl s5_)))] := S
  obtain rfl : r25 = nI ((22 * gb + 19) * 41) := hw24
  refine r_backv (wi := [(h0, .inr (8, moL ma (va_up (va_up (va_up iv 14 (nI ((un + 1) + 1))) 15 (nI (((co9 + 1) + 1) + 1))) 16 (nI (fcN ((co9 + 1) + 1) (fcN (co9 + 1) (fcN co9 (fuN (un + 1) (fuN un fl))))))) co)), ((ma 13), .inl (k 1, 36982, .inr (.inl L))), ((ma 15), .inl (k 1, 3690, .inr (.inl s5_)))]) (wr := [((ma 0), .inl (k 0, 4, .inl (fun i => nI (tk i)))), ((ma 1), .inl (k 0, 800, .inl wd)), ((ma 3), .inl (k 0, 800, .inl (fun i => nI (En i))))]) S hA [4, 3, 5] [0, 1, 2] rfl rfl (by decide) (by decide) (va_runV (As := [.int (nI (cxN ((co9 + 1) + 1) * 41)), .int (nI ((22 * gb + 19) * 41))]) (rest := []) ⟨hx, hb, C.2.2.1, C.2.2.2.1, C.2.2.2.2.1⟩ (g_Mo_take l G k h0 _ (cxN ((co9 + 1) + 1)) (22 * gb + 19) ma (va_up (va_up (va_up iv 14 (nI ((un + 1) + 1))) 15 (nI (((co9 + 1) + 1) + 1))) 16 (nI (fcN ((co9 + 1) + 1) (fcN (co9 + 1) (fcN co9 (fuN (un + 1) (fuN un fl))))))) co L s5_ hc2 (by omega)) (k_virt (n := 2) C wc_Mo_take rfl rfl wz_Mo wm_Mo_205 wn_Mo_take ws_Mo_take (by decide +kernel) ⟨(Nat.le_of_ble_eq_true rfl), (Nat.le_of_ble_eq_true rfl)⟩) (pr_nowV K S [4, 3, 5] (by decide) rfl 4 rfl rfl) rfl rfl hl.1 rfl (lv_room (Nat.le_of_ble_eq_true rfl)) d_Mo_needMatch_102 ⟨(Nat.le_of_ble_eq_true rfl), (Nat.le_of_ble_eq_true rfl)⟩) (fun u27 H locs hw28 S => ?_)
  have S : Sw G A s.heap _ _ [((ma 0), .inl (k 0, 4, .inl (fun i => nI (tk i)))), ((ma 1), .inl (k 0, 800, .inl wd)), ((ma 3), .inl (k 0, 800, .inl (fun i => nI (En i)))), (h0, .inr (8, moL ma (va_up (va_up (va_up iv 14 (nI ((un + 1) + 1))) 15 (nI (((co9 + 1) + 1) + 1))) 16 (nI (fcN ((co9 + 1) + 1) (fcN (co9 + 1) (fcN co9 (fuN (un + 1) (fuN un fl))))))) co)), ((ma 13), .inl (k 1, 36982, .inr (.inl L))), ((ma 15), .inl (k 1, 3690, .inr (.inl (lnT s5_ L ((22 * gb + 19) * 41) ((cxN ((co9 + 1) + 1)) * 41) 41))))] := S
  obtain ⟨s6_, he_s6_⟩ : ∃ x9 : Nat → Int64, x9 = (lnT s5_ L ((22 * gb + 19) * 41) ((cxN ((co9 + 1) + 1)) * 41) 41) := ⟨_, rfl⟩
  have d1 : lz s6_ (cxN (co9 + 1 + 1)) ≤ 60002 := by rw [he_s6_]; exact Nat.le_trans lz_T (by have := hN2 19 (by omega); omega)
  have d2 : ∀ x, x ≠ cxN (co9 + 1 + 1) → lz s6_ x = lz s2_ x := by rw [he_s6_]; exact fun x hx => by rw [lz_T_ne hx]; exact c2 x hx
  have S : Sw G A s.heap H locs [((ma 0), .inl (k 0, 4, .inl (fun i => nI (tk i)))), ((ma 1), .inl (k 0, 800, .inl wd)), ((ma 3), .inl (k 0, 800, .inl (fun i => nI (En i)))), (h0, .inr (8, moL ma (va_up (va_up (va_up iv 14 (nI ((un + 1) + 1))) 15 (nI (((co9 + 1) + 1) + 1))) 16 (nI (fcN ((co9 + 1) + 1) (fcN (co9 + 1) (fcN co9 (fuN (un + 1) (fuN un fl))))))) co)), ((ma 13), .inl (k 1, 36982, .inr (.inl L))), ((ma 15), .inl (k 1, 3690, .inr (.inl s6_)))] := by rw [he_s6_]; exact S
  have m3 := smO_s m2 d2 (by omega)
  refine lv_iconst (v := 0) hx hb d_Mo_needMatch_105 (by decide) ?_
  refine lv_istore (lv' := [(12, .int 0), (11, .int (nI (cxN ((co9 + 1) + 1) * 41))), (10, .int (nI (uiN (un + 1)))), (9, .int (nI (uiN un))), (8, .int (nI v9)), (7, .int (nI (200 * f9 + p9))), (0, .ref h0), (1, .int (nI b9)), (2, .int (nI f9)), (3, .int (nI p9)), (4, .int (nI kn)), (5, .int (nI eb)), (6, .int (nI gb))]) hx hb d_Mo_needMatch_106 hl (by decide) rfl (fun ls hl => ?_)
  have lp : ∀ d9, ∀ (w9 : Nat), ∀ (un8 : Nat), ∀ (co8 : Nat), ∀ (fl8 : Nat), ∀ (L9 : Nat → Int64), ∀ (s9 : Nat → Int64), (kn - w9) < d9 → (w9 ≤ kn) → (un8 = un + 2 + ncN (wdF wd f9) tk n0 (p9 + 2) v9 w9) → (co8 = co9 + 3 + 2 * ncN (wdF wd f9) tk n0 (p9 + 2) v9 w9) → (flO un8 co8 fl8) → (smO co8 s9) → (∀ k9, k9 < 20 → lz L9 (22 * b9 + k9) ≤ 1) → (lz L9 (22 * b9 + 19) = 0 ∧ lz L9 (22 * b9 + v9) = 0) → (∀ x, x < 22 * b9 ∨ 22 * b9 + 20 ≤ x → lz L9 x = lz L x) → (∀ k9, w9 ≤ k9 → k9 < 20 → lz L9 (22 * b9 + k9) = 0) → ∀ (H : Heap) (locs : List Loc), Sw G A s.heap H locs [(h0, .inr (8, moL ma (va_up (va_up (va_up iv 14 (nI un8)) 15 (nI co8)) 16 (nI fl8)) co)), ((ma 0), .inl (k 0, 4, .inl (fun i => nI (tk i)))), ((ma 1), .inl (k 0, 800, .inl wd)), ((ma 3), .inl (k 0, 800, .inl (fun i => nI (En i)))), ((ma 13), .inl (k 1, 36982, .inr (.inl L9))), ((ma 15), .inl (k 1, 3690, .inr (.inl s9)))] → ∀ ls : Array Slot, lv_has ls 14 [(12, .int (nI w9)), (11, .int (nI (cxN ((co9 + 1) + 1) * 41))), (10, .int (nI (uiN (un + 1)))), (9, .int (nI (uiN un))), (8, .int (nI v9)), (7, .int (nI (200 * f9 + p9))), (0, .ref h0), (1, .int (nI b9)), (2, .int (nI f9)), (3, .int (nI p9)), (4, .int (nI kn)), (5, .int (nI eb)), (6, .int (nI gb))] → W p l e { frames := 2, cells := 0, slots := 0, locals := 51 } s m [Value.ref h0, Value.int (nI b9), Value.int (nI f9), Value.int (nI p9), Value.int (nI kn), Value.int (nI eb), Value.int (nI gb)].toArray below meth c H locs 0 0 (MQ below (va_Qv (fun (u : (Nat → Int64) × (Nat → Int64) × Nat) => flO (un + 2 + ncN (wdF wd f9) tk n0 (p9 + 2) v9 kn) (co9 + 3 + 2 * ncN (wdF wd f9) tk n0 (p9 + 2) v9 kn) u.2.2 ∧ smO (co9 + 3 + 2 * ncN (wdF wd f9) tk n0 (p9 + 2) v9 kn) u.2.1 ∧ tn u.1 b9 ≤ lz L (22 * gb + v9) + 20 ∧ lz u.1 (22 * b9 + 19) ≤ 1 ∧ ∀ x, x < 22 * b9 ∨ 22 * b9 + 20 ≤ x → lz u.1 x = lz L x) (Po G k A (fun u => [(h0, .inr (8, moL ma (va_up (va_up (va_up iv 14 (nI (un + 2 + ncN (wdF wd f9) tk n0 (p9 + 2) v9 kn))) 15 (nI (co9 + 3 + 2 * ncN (wdF wd f9) tk n0 (p9 + 2) v9 kn))) 16 (nI u.2.2)) co)), ((ma 0), .inl (k 0, 4, .inl (fun i => nI (tk i)))), ((ma 1), .inl (k 0, 800, .inl wd)), ((ma 3), .inl (k 0, 800, .inl (fun i => nI (En i)))), ((ma 13), .inl (k 1, 36982, .inr (.inl u.1))), ((ma 15), .inl (k 1, 3690, .inr (.inl u.2.1)))])) A) [Value.ref h0, Value.int (nI b9), Value.int (nI f9), Value.int (nI p9), Value.int (nI kn), Value.int (nI eb), Value.int (nI gb)].toArray s 0 0 A) (F0 m 108 ls []) := by
    intro d9
    induction d9 with
    | zero => intro w9 un8 co8 fl8 L9 s9 hm; exact absurd hm (Nat.not_lt_zero _)
    | succ d9 ih_lp =>
      intro w9 un8 co8 fl8 L9 s9 hm hw hu8 hc8 hf8 hs8 hL1 hL2 ho hL0 H locs S ls hl
      have hnc := ncN_le (W := (wdF wd f9)) (tk := tk) (n0 := n0) (p0 := p9 + 2) (v := v9) w9
      have hux := uiN_lt un8
      refine lv_iload hx hb d_Mo_needMatch_108 (lv_at hl 0 rfl) ?_
      refine lv_iload hx hb d_Mo_needMatch_110 (lv_at hl 10 rfl) ?_
      refine z_icmp_ge (a := w9) (b := kn) (tgt := 198) hx hb d_Mo_needMatch_112 (by decide) (by omega) (by omega) (fun hc29 => ?_) (fun hc29 => ?_)
      · refine lv_aload_n hx hb d_Mo_needMatch_198 rfl (lv_at hl 6 rfl) ?_
        refine lv_iload hx hb d_Mo_needMatch_199 (lv_at hl 12 rfl) ?_
        refine lv_iload hx hb d_Mo_needMatch_201 (lv_at hl 4 rfl) ?_
        refine r_backi (wi := []) (wr := [(h0, .inr (8, moL ma (va_up (va_up (va_up iv 14 (nI un8)) 15 (nI co8)) 16 (nI fl8)) co)), ((ma 0), .inl (k 0, 4, .inl (fun i => nI (tk i)))), ((ma 1), .inl (k 0, 800, .inl wd)), ((ma 3), .inl (k 0, 800, .inl (fun i => nI (En i)))), ((ma 13), .inl (k 1, 36982, .inr (.inl L9))), ((ma 15), .inl (k 1, 3690, .inr (.inl s9)))]) S hA [] [0, 1, 2, 3, 4, 5] rfl rfl (by decide) (by decide) (va_runS (As := [.int (nI gb), .int (nI v9)]) (rest := [.ref h0]) ⟨hx, hb, C.2.2.1, C.2.2.2.1, C.2.2.2.2.1⟩ (g_Mo_line l G k _ gb v9) (k_stat (n := 2) C wc_Mo_line rfl rfl wz_Mo wm_Mo_211 wt_Mo_line (by decide +kernel) ⟨(Nat.le_of_ble_eq_true rfl), (Nat.le_of_ble_eq_true rfl)⟩) (pr_now K S [] (by decide) rfl) rfl rfl hl.1 rfl (lv_room (Nat.le_of_ble_eq_true rfl)) d_Mo_needMatch_203 ⟨(Nat.le_of_ble_eq_true rfl), (Nat.le_of_ble_eq_true rfl)⟩) (fun r32 u30 H locs hw31 S => ?_)
        have S : Sw G A s.heap _ _ [(h0, .inr (8, moL ma (va_up (va_up (va_up iv 14 (nI un8)) 15 (nI co8)) 16 (nI fl8)) co)), ((ma 0), .inl (k 0, 4, .inl (fun i => nI (tk i)))), ((ma 1), .inl (k 0, 800, .inl wd)), ((ma 3), .inl (k 0, 800, .inl (fun i => nI (En i)))), ((ma 13), .inl (k 1, 36982, .inr (.inl L9))), ((ma 15), .inl (k 1, 3690, .inr (.inl s9)))] := S
        obtain rfl : r32 = nI ((22 * gb + v9) * 41) := hw31
        refine lv_iload_n hx hb d_Mo_needMatch_206 rfl (lv_at hl 7 rfl) ?_
        refine lv_iload hx hb d_Mo_needMatch_207 (lv_at hl 4 rfl) ?_
        refine r_backi (wi := []) (wr := [(h0, .inr (8, moL ma (va_up (va_up (va_up iv 14 (nI un8)) 15 (nI co8)) 16 (nI fl8)) co)), ((ma 0), .inl (k 0, 4, .inl (fun i => nI (tk i)))), ((ma 1), .inl (k 0, 800, .inl wd)), ((ma 3), .inl (k 0, 800, .inl (fun i => nI (En i)))), ((ma 13), .inl (k 1, 36982, .inr (.inl L9))), ((ma 15), .inl (k 1, 3690, .inr (.inl s9)))]) S hA [] [0, 1, 2, 3, 4, 5] rfl rfl (by decide) (by decide) (va_runS (As := [.int (nI b9), .int (nI v9)]) (rest := [.int (nI ((22 * gb + v9) * 41)), .ref h0]) ⟨hx, hb, C.2.2.1, C.2.2.2.1, C.2.2.2.2.1⟩ (g_Mo_line l G k _ b9 v9) (k_stat (n := 2) C wc_Mo_line rfl rfl wz_Mo wm_Mo_211 wt_Mo_line (by decide +kernel) ⟨(Nat.le_of_ble_eq_true rfl), (Nat.le_of_ble_eq_true rfl)⟩) (pr_now K S [] (by decide) rfl) rfl rfl hl.1 rfl (lv_room (Nat.le_of_ble_eq_true rfl)) d_Mo_needMatch_209 ⟨(Nat.le_of_ble_eq_true rfl), (Nat.le_of_ble_eq_true rfl)⟩) (fun r36 u34 H locs hw35 S => ?_)
        have S : Sw G A s.heap _ _ [(h0, .inr (8, moL ma (va_up (va_up (va_up iv 14 (nI un8)) 15 (nI co8)) 16 (nI fl8)) co)), ((ma 0), .inl (k 0, 4, .inl (fun i => nI (tk i)))), ((ma 1), .inl (k 0, 800, .inl wd)), ((ma 3), .inl (k 0, 800, .inl (fun i => nI (En i)))), ((ma 13), .inl (k 1, 36982, .inr (.inl L9))), ((ma 15), .inl (k 1, 3690, .inr (.inl s9)))] := S
        obtain rfl : r36 = nI ((22 * b9 + v9) * 41) := hw35
        refine r_backv (wi := [(h0, .inr (8, moL ma (va_up (va_up (va_up iv 14 (nI un8)) 15 (nI co8)) 16 (nI fl8)) co)), ((ma 13), .inl (k 1, 36982, .inr (.inl L9)))]) (wr := [((ma 0), .inl (k 0, 4, .inl (fun i => nI (tk i)))), ((ma 1), .inl (k 0, 800, .inl wd)), ((ma 3), .inl (k 0, 800, .inl (fun i => nI (En i)))), ((ma 15), .inl (k 1, 3690, .inr (.inl s9)))]) S hA [0, 4] [1, 2, 3, 5] rfl rfl (by decide) (by decide) (va_runV (As := [.int (nI ((22 * gb + v9) * 41)), .int (nI ((22 * b9 + v9) * 41))]) (rest := []) ⟨hx, hb, C.2.2.1, C.2.2.2.1, C.2.2.2.2.1⟩ (g_Mo_copy l G k h0 _ ma (va_up (va_up (va_up iv 14 (nI un8)) 15 (nI co8)) 16 (nI fl8)) co L9 ((22 * gb + v9) * 41) ((22 * b9 + v9) * 41) (by omega) (by omega) (by omega)) (k_virt (n := 2) C wc_Mo_copy rfl rfl wz_Mo wm_Mo_218 wn_Mo_copy ws_Mo_copy (by decide +kernel) ⟨(Nat.le_of_ble_eq_true rfl), (Nat.le_of_ble_eq_true rfl)⟩) (pr_nowV K S [0, 4] (by decide) rfl 0 rfl rfl) rfl rfl hl.1 rfl (lv_room (Nat.le_of_ble_eq_true rfl)) d_Mo_needMatch_212 ⟨(Nat.le_of_ble_eq_true rfl), (Nat.le_of_ble_eq_true rfl)⟩) (fun u38 H locs hw39 S => ?_)
        have S : Sw G A s.heap _ _ [((ma 0), .inl (k 0, 4, .inl (fun i => nI (tk i)))), ((ma 1), .inl (k 0, 800, .inl wd)), ((ma 3), .inl (k 0, 800, .inl (fun i => nI (En i)))), ((ma 15), .inl (k 1, 3690, .inr (.inl s9))), (h0, .inr (8, moL ma (va_up (va_up (va_up iv 14 (nI un8)) 15 (nI co8)) 16 (nI fl8)) co)), ((ma 13), .inl (k 1, 36982, .inr (.inl (lnP L9 ((22 * gb + v9) * 41) ((22 * b9 + v9) * 41) 41))))] := S
        obtain ⟨L7, he_L7⟩ : ∃ x9 : Nat → Int64, x9 = (lnP L9 ((22 * gb + v9) * 41) ((22 * b9 + v9) * 41) 41) := ⟨_, rfl⟩
        have p1 : lz L7 (22 * b9 + v9) = lz L (22 * gb + v9) := by rw [he_L7]; rw [lz_P]; exact ho _ (by omega)
        have p2 : ∀ x, x ≠ 22 * b9 + v9 → lz L7 x = lz L9 x := by rw [he_L7]; exact fun x hx => lz_P_ne hx
        have S : Sw G A s.heap H locs [((ma 0), .inl (k 0, 4, .inl (fun i => nI (tk i)))), ((ma 1), .inl (k 0, 800, .inl wd)), ((ma 3), .inl (k 0, 800, .inl (fun i => nI (En i)))), ((ma 15), .inl (k 1, 3690, .inr (.inl s9))), (h0, .inr (8, moL ma (va_up (va_up (va_up iv 14 (nI un8)) 15 (nI co8)) 16 (nI fl8)) co)), ((ma 13), .inl (k 1, 36982, .inr (.inl L7)))] := by rw [he_L7]; exact S
        refine lv_aload_n hx hb d_Mo_needMatch_215 rfl (lv_at hl 6 rfl) ?_
        refine r_get C K S 4 rfl rfl clOk_Mo 27 (by decide) wf_Mo_57 (v := .ref (ma 13)) rfl d_Mo_needMatch_216 ?_
        refine lv_iload_n hx hb d_Mo_needMatch_219 rfl (lv_at hl 7 rfl) ?_
        refine lv_iload hx hb d_Mo_needMatch_220 (lv_at hl 4 rfl) ?_
        refine r_backi (wi := []) (wr := [((ma 0), .inl (k 0, 4, .inl (fun i => nI (tk i)))), ((ma 1), .inl (k 0, 800, .inl wd)), ((ma 3), .inl (k 0, 800, .inl (fun i => nI (En i)))), ((ma 15), .inl (k 1, 3690, .inr (.inl s9))), (h0, .inr (8, moL ma (va_up (va_up (va_up iv 14 (nI un8)) 15 (nI co8)) 16 (nI fl8)) co)), ((ma 13), .inl (k 1, 36982, .inr (.inl L7)))]) S hA [] [0, 1, 2, 3, 4, 5] rfl rfl (by decide) (by decide) (va_runS (As := [.int (nI b9), .int (nI v9)]) (rest := [.ref (ma 13)]) ⟨hx, hb, C.2.2.1, C.2.2.2.1, C.2.2.2.2.1⟩ (g_Mo_line l G k _ b9 v9) (k_stat (n := 2) C wc_Mo_line rfl rfl wz_Mo wm_Mo_211 wt_Mo_line (by decide +kernel) ⟨(Nat.le_of_ble_eq_true rfl), (Nat.le_of_ble_eq_true rfl)⟩) (pr_now K S [] (by decide) rfl) rfl rfl hl.1 rfl (lv_room (Nat.le_of_ble_eq_true rfl)) d_Mo_needMatch_222 ⟨(Nat.le_of_ble_eq_true rfl), (Nat.le_of_ble_eq_true rfl)⟩) (fun r42 u40 H locs hw41 S => ?_)
        have S : Sw G A s.heap _ _ [((ma 0), .inl (k 0, 4, .inl (fun i => nI (tk i)))), ((ma 1), .inl (k 0, 800, .inl wd)), ((ma 3), .inl (k 0, 800, .inl (fun i => nI (En i)))), ((ma 15), .inl (k 1, 3690, .inr (.inl s9))), (h0, .inr (8, moL ma (va_up (va_up (va_up iv 14 (nI un8)) 15 (nI co8)) 16 (nI fl8)) co)), ((ma 13), .inl (k 1, 36982, .inr (.inl L7)))] := S
        obtain rfl : r42 = nI ((22 * b9 + v9) * 41) := hw41
        refine lv_iload hx hb d_Mo_needMatch_225 (lv_at hl 3 rfl) ?_
        refine z_iadd (x := nI ((22 * b9 + v9) * 41)) (y := nI (uiN un)) (v := nI ((22 * b9 + v9) * 41 + uiN un)) hx hb d_Mo_needMatch_227 (nI_add ((22 * b9 + v9) * 41) (uiN un)) ?_
        refine lv_dup2_11 hx hb d_Mo_needMatch_228 rfl rfl ?_
        refine r_lald C K S 5 rfl (i := nI ((22 * b9 + v9) * 41 + uiN un)) (show vp_in (nI ((22 * b9 + v9) * 41 + uiN un)) _ from vp_in_nI (n := ((22 * b9 + v9) * 41 + uiN un)) (by omega) (by decide)) (v := L7 ((22 * b9 + v9) * 41 + uiN un)) (by rw [nI_clamp (by omega)]) d_Mo_needMatch_229 ?_
        refine lv_lconst (v := 1) hx hb d_Mo_needMatch_230 (by decide) ?_
        refine lv_ladd hx hb d_Mo_needMatch_231 ?_
        refine r_last C K S 5 rfl (i := nI ((22 * b9 + v9) * 41 + uiN un)) (x := (L7 ((22 * b9 + v9) * 41 + uiN un)) + 1) (show vp_in (nI ((22 * b9 + v9) * 41 + uiN un)) _ from vp_in_nI (n := ((22 * b9 + v9) * 41 + uiN un)) (by omega) (by decide)) (f' := va_up L7 ((22 * b9 + v9) * 41 + uiN un) ((L7 ((22 * b9 + v9) * 41 + uiN un)) + 1)) (ws' := [((ma 0), .inl (k 0, 4, .inl (fun i => nI (tk i)))), ((ma 1), .inl (k 0, 800, .inl wd)), ((ma 3), .inl (k 0, 800, .inl (fun i => nI (En i)))), ((ma 15), .inl (k 1, 3690, .inr (.inl s9))), (h0, .inr (8, moL ma (va_up (va_up (va_up iv 14 (nI un8)) 15 (nI co8)) 16 (nI fl8)) co)), ((ma 13), .inl (k 1, 36982, .inr (.inl (va_up L7 ((22 * b9 + v9) * 41 + uiN un) ((L7 ((22 * b9 + v9) * 41 + uiN un)) + 1)))))]) (show vp_updL _ (nI ((22 * b9 + v9) * 41 + uiN un) : Int32).toNatClampNeg _ = _ from vp_updL_eq L7 (j := ((22 * b9 + v9) * 41 + uiN un)) (by omega) ((L7 ((22 * b9 + v9) * 41 + uiN un)) + 1)) rfl d_Mo_needMatch_232 (fun H locs S => ?_)
        obtain ⟨L6, he_L6⟩ : ∃ x9 : Nat → Int64, x9 = va_up L7 ((22 * b9 + v9) * 41 + uiN un) ((L7 ((22 * b9 + v9) * 41 + uiN un)) + 1) := ⟨_, rfl⟩
        have o1 : lz L6 (22 * b9 + v9) ≤ lz L (22 * gb + v9) + 1 := by rw [he_L6]; exact Nat.le_trans (lz_inc (l1_inc _)) (by omega)
        have o2 : ∀ x, x ≠ 22 * b9 + v9 → lz L6 x = lz L9 x := by rw [he_L6]; exact fun x hx => by rw [lz_up_ne (by have := uiN_lt un; omega) hx]; exact p2 x hx
        have S : Sw G A s.heap H locs [((ma 0), .inl (k 0, 4, .inl (fun i => nI (tk i)))), ((ma 1), .inl (k 0, 800, .inl wd)), ((ma 3), .inl (k 0, 800, .inl (fun i => nI (En i)))), ((ma 15), .inl (k 1, 3690, .inr (.inl s9))), (h0, .inr (8, moL ma (va_up (va_up (va_up iv 14 (nI un8)) 15 (nI co8)) 16 (nI fl8)) co)), ((ma 13), .inl (k 1, 36982, .inr (.inl L6)))] := by rw [he_L6]; exact S
        refine lv_aload_n hx hb d_Mo_needMatch_233 rfl (lv_at hl 6 rfl) ?_
        refine r_get C K S 4 rfl rfl clOk_Mo 27 (by decide) wf_Mo_57 (v := .ref (ma 13)) rfl d_Mo_needMatch_234 ?_
        refine lv_iload_n hx hb d_Mo_needMatch_237 rfl (lv_at hl 7 rfl) ?_
        refine lv_bipush (v := 19) hx hb d_Mo_needMatch_238 (by decide) ?_
        refine r_backi (wi := []) (wr := [((ma 0), .inl (k 0, 4, .inl (fun i => nI (tk i)))), ((ma 1), .inl (k 0, 800, .inl wd)), ((ma 3), .inl (k 0, 800, .inl (fun i => nI (En i)))), ((ma 15), .inl (k 1, 3690, .inr (.inl s9))), (h0, .inr (8, moL ma (va_up (va_up (va_up iv 14 (nI un8)) 15 (nI co8)) 16 (nI fl8)) co)), ((ma 13), .inl (k 1, 36982, .inr (.inl L6)))]) S hA [] [0, 1, 2, 3, 4, 5] rfl rfl (by decide) (by decide) (va_runS (As := [.int (nI b9), .int 19]) (rest := [.ref (ma 13)]) ⟨hx, hb, C.2.2.1, C.2.2.2.1, C.2.2.2.2.1⟩ (g_Mo_line l G k _ b9 19) (k_stat (n := 2) C wc_Mo_line rfl rfl wz_Mo wm_Mo_211 wt_Mo_line (by decide +kernel) ⟨(Nat.le_of_ble_eq_true rfl), (Nat.le_of_ble_eq_true rfl)⟩) (pr_now K S [] (by decide) rfl) rfl rfl hl.1 rfl (lv_room (Nat.le_of_ble_eq_true rfl)) d_Mo_needMatch_240 ⟨(Nat.le_of_ble_eq_true rfl), (Nat.le_of_ble_eq_true rfl)⟩) (fun r46 u44 H locs hw45 S => ?_)
        have S : Sw G A s.heap _ _ [((ma 0), .inl (k 0, 4, .inl (fun i => nI (tk i)))), ((ma 1), .inl (k 0, 800, .inl wd)), ((ma 3), .inl (k 0, 800, .inl (fun i => nI (En i)))), ((ma 15), .inl (k 1, 3690, .inr (.inl s9))), (h0, .inr (8, moL ma (va_up (va_up (va_up iv 14 (nI un8)) 15 (nI co8)) 16 (nI fl8)) co)), ((ma 13), .inl (k 1, 36982, .inr (.inl L6)))] := S
        obtain rfl : r46 = nI ((22 * b9 + 19) * 41) := hw45
        refine lv_iload hx hb d_Mo_needMatch_243 (lv_at hl 2 rfl) ?_
        refine z_iadd (x := nI ((22 * b9 + 19) * 41)) (y := nI (uiN (un + 1))) (v := nI ((22 * b9 + 19) * 41 + (uiN (un + 1)))) hx hb d_Mo_needMatch_245 (show _ = nI ((22 * b9 + 19) * 41 + (uiN (un + 1))) from (nI_add ((22 * b9 + 19) * 41) (uiN (un + 1))).trans (congrArg nI (by omega))) ?_
        refine lv_lconst (v := 1) hx hb d_Mo_needMatch_246 (by decide) ?_
        refine r_last C K S 5 rfl (i := nI ((22 * b9 + 19) * 41 + (uiN (un + 1)))) (x := 1) (show vp_in (nI ((22 * b9 + 19) * 41 + (uiN (un + 1)))) _ from vp_in_nI (n := ((22 * b9 + 19) * 41 + (uiN (un + 1)))) (by omega) (by decide)) (f' := va_up L6 ((22 * b9 + 19) * 41 + (uiN (un + 1))) 1) (ws' := [((ma 0), .inl (k 0, 4, .inl (fun i => nI (tk i)))), ((ma 1), .inl (k 0, 800, .inl wd)), ((ma 3), .inl (k 0, 800, .inl (fun i => nI (En i)))), ((ma 15), .inl (k 1, 3690, .inr (.inl s9))), (h0, .inr (8, moL ma (va_up (va_up (va_up iv 14 (nI un8)) 15 (nI co8)) 16 (nI fl8)) co)), ((ma 13), .inl (k 1, 36982, .inr (.inl (va_up L6 ((22 * b9 + 19) * 41 + (uiN (un + 1))) 1))))]) (show vp_updL _ (nI ((22 * b9 + 19) * 41 + (uiN (un + 1))) : Int32).toNatClampNeg _ = _ from vp_updL_eq L6 (j := ((22 * b9 + 19) * 41 + (uiN (un + 1)))) (by omega) 1) rfl d_Mo_needMatch_247 (fun H locs S => ?_)
        obtain ⟨L5, he_L5⟩ : ∃ x9 : Nat → Int64, x9 = va_up L6 ((22 * b9 + 19) * 41 + (uiN (un + 1))) 1 := ⟨_, rfl⟩
        have i1 : lz L5 (22 * b9 + 19) ≤ 1 := by rw [he_L5]; exact m_one (by rw [o2 _ (by omega)]; exact hL2.1) (by have := uiN_lt (un + 1); omega)
        have i2 : ∀ x, x ≠ 22 * b9 + 19 → lz L5 x = lz L6 x := by rw [he_L5]; exact fun x hx => lz_up_ne (by have := uiN_lt (un + 1); omega) hx
        have S : Sw G A s.heap H locs [((ma 0), .inl (k 0, 4, .inl (fun i => nI (tk i)))), ((ma 1), .inl (k 0, 800, .inl wd)), ((ma 3), .inl (k 0, 800, .inl (fun i => nI (En i)))), ((ma 15), .inl (k 1, 3690, .inr (.inl s9))), (h0, .inr (8, moL ma (va_up (va_up (va_up iv 14 (nI un8)) 15 (nI co8)) 16 (nI fl8)) co)), ((ma 13), .inl (k 1, 36982, .inr (.inl L5)))] := by rw [he_L5]; exact S
        have hwk : w9 = kn := by omega
        rw [hwk] at hu8 hc8
        have S : Sw G A s.heap H locs [((ma 0), .inl (k 0, 4, .inl (fun i => nI (tk i)))), ((ma 1), .inl (k 0, 800, .inl wd)), ((ma 3), .inl (k 0, 800, .inl (fun i => nI (En i)))), ((ma 15), .inl (k 1, 3690, .inr (.inl s9))), (h0, .inr (8, moL ma (va_up (va_up (va_up iv 14 (nI (un + 2 + ncN (wdF wd f9) tk n0 (p9 + 2) v9 kn))) 15 (nI (co9 + 3 + 2 * ncN (wdF wd f9) tk n0 (p9 + 2) v9 kn))) 16 (nI fl8)) co)), ((ma 13), .inl (k 1, 36982, .inr (.inl L5)))] := by rw [← hu8, ← hc8]; exact S
        rw [hu8, hc8] at hf8
        rw [hc8] at hs8
        exact r_vret C K (L5, s9, fl8) ⟨hf8, hs8, (show tn L5 b9 ≤ lz L (22 * gb + v9) + 20 from Nat.le_trans (tn_fin (v := v9) (fun k9 hk hne => by rw [i2 _ (by omega), o2 _ (by omega)]; exact hL1 k9 (by omega)) (by rw [i2 _ (by omega)]; exact o1)) (by omega)), i1, fun x hx => by rw [i2 _ (by omega), o2 _ (by omega)]; exact ho x hx⟩ (S.sub [4, 0, 1, 2, 5, 3] (by decide) rfl) d_Mo_needMatch_248 (Nat.le_of_ble_eq_true rfl) (Nat.le_of_ble_eq_true rfl)
      · refine lv_iload hx hb d_Mo_needMatch_115 (lv_at hl 0 rfl) ?_
        refine lv_iload hx hb d_Mo_needMatch_117 (lv_at hl 4 rfl) ?_
        refine z_icmp_eq (a := w9) (b := v9) (tgt := 192) hx hb d_Mo_needMatch_119 (by decide) (by omega) (by omega) (fun hc48 => ?_) (fun hc48 => ?_)
        · refine lv_iinc (v := nI (w9 + 1)) (lv' := [(12, .int (nI (w9 + 1))), (11, .int (nI (cxN ((co9 + 1) + 1) * 41))), (10, .int (nI (uiN (un + 1)))), (9, .int (nI (uiN un))), (8, .int (nI v9)), (7, .int (nI (200 * f9 + p9))), (0, .ref h0), (1, .int (nI b9)), (2, .int (nI f9)), (3, .int (nI p9)), (4, .int (nI kn)), (5, .int (nI eb)), (6, .int (nI gb))]) hx hb d_Mo_needMatch_192 hl (k := 0) rfl (show nI w9 + Int32.ofInt 1 = nI (w9 + 1) from (nI_add w9 1).trans (congrArg nI (by omega))) (by decide) rfl (fun ls hl => ?_)
          refine lv_goto (tgt := 108) hx hb d_Mo_needMatch_195 (by decide) ?_
          exact ih_lp (w9 + 1) un8 co8 fl8 L9 s9 (by omega) (by omega) (by rw [nc_0 (Or.inl (by omega))]; exact hu8) (by rw [nc_0 (Or.inl (by omega))]; exact hc8) hf8 hs8 hL1 hL2 ho (fun k9 h1 h2 => hL0 k9 (by omega) h2) _ _ (S.sub [0, 1, 2, 3, 4, 5] (by decide) rfl) ls (lv_sub hl [0, 1, 2, 3, 4, 5, 6, 7, 8, 9, 10, 11, 12] rfl)
        · refine lv_aload_n hx hb d_Mo_needMatch_122 rfl (lv_at hl 6 rfl) ?_
          refine lv_iload_n hx hb d_Mo_needMatch_123 rfl (lv_at hl 8 rfl) ?_
          refine lv_iload_n hx hb d_Mo_needMatch_124 rfl (lv_at hl 9 rfl) ?_
          refine lv_iconst (v := 2) hx hb d_Mo_needMatch_125 (by decide) ?_
          refine z_iadd (x := nI p9) (y := 2) (v := nI (p9 + 2)) hx hb d_Mo_needMatch_126 (nI_add p9 2) ?_
          refine lv_aload_n hx hb d_Mo_needMatch_127 rfl (lv_at hl 6 rfl) ?_
          refine r_get C K S 0 rfl rfl clOk_Mo 5 (by decide) wf_Mo_23 (v := .ref (ma 3)) rfl d_Mo_needMatch_128 ?_
          refine lv_iload hx hb d_Mo_needMatch_131 (lv_at hl 5 rfl) ?_
          refine r_iald C K S 3 rfl (i := nI (200 * f9 + p9)) (show vp_in (nI (200 * f9 + p9)) _ from vp_in_nI (n := (200 * f9 + p9)) (by omega) (by decide)) (v := nI (En (200 * f9 + p9))) (by rw [nI_clamp (by omega)]) d_Mo_needMatch_133 ?_
          rw [hen]
          refine lv_iload hx hb d_Mo_needMatch_134 (lv_at hl 0 rfl) ?_
          refine r_backi (wi := [(h0, .inr (8, moL ma (va_up (va_up (va_up iv 14 (nI un8)) 15 (nI co8)) 16 (nI fl8)) co)), ((ma 0), .inl (k 0, 4, .inl (fun i => nI (tk i)))), ((ma 1), .inl (k 0, 800, .inl wd))]) (wr := [((ma 3), .inl (k 0, 800, .inl (fun i => nI (En i)))), ((ma 13), .inl (k 1, 36982, .inr (.inl L9))), ((ma 15), .inl (k 1, 3690, .inr (.inl s9)))]) S hA [0, 1, 2] [3, 4, 5] rfl rfl (by decide) (by decide) (va_runV (As := [.int (nI f9), .int (nI (p9 + 2)), .int (nI q9), .int (nI w9)]) (rest := []) ⟨hx, hb, C.2.2.1, C.2.2.2.1, C.2.2.2.2.1⟩ (g_Mo_isNamed l G k h0 _ f9 (p9 + 2) q9 w9 n0 nf ma (va_up (va_up (va_up iv 14 (nI un8)) 15 (nI co8)) 16 (nI fl8)) co tk wd hf hq hnf hH htk) (k_virt (n := 4) C wc_Mo_isNamed rfl rfl wz_Mo wm_Mo_269 wn_Mo_isNamed ws_Mo_isNamed (by decide +kernel) ⟨(Nat.le_of_ble_eq_true rfl), (Nat.le_of_ble_eq_true rfl)⟩) (pr_nowV K S [0, 1, 2] (by decide) rfl 0 rfl rfl) rfl rfl hl.1 rfl (lv_room (Nat.le_of_ble_eq_true rfl)) d_Mo_needMatch_136 ⟨(Nat.le_of_ble_eq_true rfl), (Nat.le_of_ble_eq_true rfl)⟩) (fun r51 u49 H locs hw50 S => ?_)
          have S : Sw G A s.heap _ _ [((ma 3), .inl (k 0, 800, .inl (fun i => nI (En i)))), ((ma 13), .inl (k 1, 36982, .inr (.inl L9))), ((ma 15), .inl (k 1, 3690, .inr (.inl s9))), (h0, .inr (8, moL ma (va_up (va_up (va_up iv 14 (nI un8)) 15 (nI co8)) 16 (nI fl8)) co)), ((ma 0), .inl (k 0, 4, .inl (fun i => nI (tk i)))), ((ma 1), .inl (k 0, 800, .inl wd))] := S
          obtain ⟨hw500, hp52⟩ := hw50
          obtain rfl : r51 = nI (b01 (nmN (wdF wd f9) tk (nI w9) n0 (p9 + 2))) := hw500
          have hb1 := b01_le (nmN (wdF wd f9) tk (nI w9) n0 (p9 + 2))
          refine z_if_ne (a := (b01 (nmN (wdF wd f9) tk (nI w9) n0 (p9 + 2)))) (tgt := 145) hx hb d_Mo_needMatch_139 (by decide) (by omega) (fun hc53 => ?_) (fun hc53 => ?_)
          · refine lv_aload_n hx hb d_Mo_needMatch_145 rfl (lv_at hl 6 rfl) ?_
            refine r_backi (wi := [(h0, .inr (8, moL ma (va_up (va_up (va_up iv 15 (nI co8)) 14 (nI un8)) 16 (nI fl8)) co))]) (wr := [((ma 3), .inl (k 0, 800, .inl (fun i => nI (En i)))), ((ma 13), .inl (k 1, 36982, .inr (.inl L9))), ((ma 15), .inl (k 1, 3690, .inr (.inl s9))), ((ma 0), .inl (k 0, 4, .inl (fun i => nI (tk i)))), ((ma 1), .inl (k 0, 800, .inl wd))]) S hA [3] [0, 1, 2, 4, 5] rfl rfl (by decide) (by decide) (va_runV (As := []) (rest := []) ⟨hx, hb, C.2.2.1, C.2.2.2.1, C.2.2.2.2.1⟩ (g_Mo_newUnknown l G k h0 _ un8 fl8 ma (va_up iv 15 (nI co8)) co (by omega) (flO_le hf8)) (k_virt (n := 0) C wc_Mo_newUnknown rfl rfl wz_Mo wm_Mo_260 wn_Mo_newUnknown ws_Mo_newUnknown (by decide +kernel) ⟨(Nat.le_of_ble_eq_true rfl), (Nat.le_of_ble_eq_true rfl)⟩) (pr_nowV K S [3] (by decide) rfl 3 rfl rfl) rfl rfl hl.1 rfl (lv_room (Nat.le_of_ble_eq_true rfl)) d_Mo_needMatch_146 ⟨(Nat.le_of_ble_eq_true rfl), (Nat.le_of_ble_eq_true rfl)⟩) (fun r56 u54 H locs hw55 S => ?_)
            have S : Sw G A s.heap _ _ [((ma 3), .inl (k 0, 800, .inl (fun i => nI (En i)))), ((ma 13), .inl (k 1, 36982, .inr (.inl L9))), ((ma 15), .inl (k 1, 3690, .inr (.inl s9))), ((ma 0), .inl (k 0, 4, .inl (fun i => nI (tk i)))), ((ma 1), .inl (k 0, 800, .inl wd)), (h0, .inr (8, moL ma (va_up (va_up (va_up iv 15 (nI co8)) 14 (nI (un8 + 1))) 16 (nI (fuN un8 fl8))) co))] := S
            obtain ⟨hw550, hp57⟩ := hw55
            obtain rfl : r56 = nI (uiN un8) := hw550
            have r1 := flO_u hf8
            refine lv_istore (lv' := [(13, .int (nI (uiN un8))), (12, .int (nI w9)), (11, .int (nI (cxN ((co9 + 1) + 1) * 41))), (10, .int (nI (uiN (un + 1)))), (9, .int (nI (uiN un))), (8, .int (nI v9)), (7, .int (nI (200 * f9 + p9))), (0, .ref h0), (1, .int (nI b9)), (2, .int (nI f9)), (3, .int (nI p9)), (4, .int (nI kn)), (5, .int (nI eb)), (6, .int (nI gb))]) hx hb d_Mo_needMatch_149 hl (by decide) rfl (fun ls hl => ?_)
            refine lv_aload_n hx hb d_Mo_needMatch_151 rfl (lv_at hl 7 rfl) ?_
            refine lv_iload hx hb d_Mo_needMatch_152 (lv_at hl 0 rfl) ?_
            refine lv_iload hx hb d_Mo_needMatch_154 (lv_at hl 12 rfl) ?_
            refine lv_iload hx hb d_Mo_needMatch_156 (lv_at hl 1 rfl) ?_
            refine r_backi (wi := []) (wr := [((ma 3), .inl (k 0, 800, .inl (fun i => nI (En i)))), ((ma 13), .inl (k 1, 36982, .inr (.inl L9))), ((ma 15), .inl (k 1, 3690, .inr (.inl s9))), ((ma 0), .inl (k 0, 4, .inl (fun i => nI (tk i)))), ((ma 1), .inl (k 0, 800, .inl wd)), (h0, .inr (8, moL ma (va_up (va_up (va_up iv 15 (nI co8)) 14 (nI (un8 + 1))) 16 (nI (fuN un8 fl8))) co))]) S hA [] [0, 1, 2, 3, 4, 5] rfl rfl (by decide) (by decide) (va_runS (As := [.int (nI eb), .int (nI w9)]) (rest := [.int (nI (uiN un8)), .ref h0]) ⟨hx, hb, C.2.2.1, C.2.2.2.1, C.2.2.2.2.1⟩ (g_Mo_line l G k _ eb w9) (k_stat (n := 2) C wc_Mo_line rfl rfl wz_Mo wm_Mo_211 wt_Mo_line (by decide +kernel) ⟨(Nat.le_of_ble_eq_true rfl), (Nat.le_of_ble_eq_true rfl)⟩) (pr_now K S [] (by decide) rfl) rfl rfl hl.1 rfl (lv_room (Nat.le_of_ble_eq_true rfl)) d_Mo_needMatch_158 ⟨(Nat.le_of_ble_eq_true rfl), (Nat.le_of_ble_eq_true rfl)⟩) (fun r60 u58 H locs hw59 S => ?_)
            have S : Sw G A s.heap _ _ [((ma 3), .inl (k 0, 800, .inl (fun i => nI (En i)))), ((ma 13), .inl (k 1, 36982, .inr (.inl L9))), ((ma 15), .inl (k 1, 3690, .inr (.inl s9))), ((ma 0), .inl (k 0, 4, .inl (fun i => nI (tk i)))), ((ma 1), .inl (k 0, 800, .inl wd)), (h0, .inr (8, moL ma (va_up (va_up (va_up iv 15 (nI co8)) 14 (nI (un8 + 1))) 16 (nI (fuN un8 fl8))) co))] := S
            obtain rfl : r60 = nI ((22 * eb + w9) * 41) := hw59
            refine r_backv (wi := [(h0, .inr (8, moL ma (va_up (va_up (va_up iv 14 (nI (un8 + 1))) 15 (nI co8)) 16 (nI (fuN un8 fl8))) co)), ((ma 13), .inl (k 1, 36982, .inr (.inl L9))), ((ma 15), .inl (k 1, 3690, .inr (.inl s9)))]) (wr := [((ma 3), .inl (k 0, 800, .inl (fun i => nI (En i)))), ((ma 0), .inl (k 0, 4, .inl (fun i => nI (tk i)))), ((ma 1), .inl (k 0, 800, .inl wd))]) S hA [5, 1, 2] [0, 3, 4] rfl rfl (by decide) (by decide) (va_runV (As := [.int (nI (uiN un8)), .int (nI ((22 * eb + w9) * 41))]) (rest := []) ⟨hx, hb, C.2.2.1, C.2.2.2.1, C.2.2.2.2.1⟩ (g_Mo_atLeast l G k h0 _ (uiN un8) (22 * eb + w9) co8 (fuN un8 fl8) ma (va_up iv 14 (nI (un8 + 1))) co L9 s9 (by omega) (by omega) (by omega) (flO_le r1)) (k_virt (n := 2) C wc_Mo_atLeast rfl rfl wz_Mo wm_Mo_266 wn_Mo_atLeast ws_Mo_atLeast (by decide +kernel) ⟨(Nat.le_of_ble_eq_true rfl), (Nat.le_of_ble_eq_true rfl)⟩) (pr_nowV K S [5, 1, 2] (by decide) rfl 5 rfl rfl) rfl rfl hl.1 rfl (lv_room (Nat.le_of_ble_eq_true rfl)) d_Mo_needMatch_161 ⟨(Nat.le_of_ble_eq_true rfl), (Nat.le_of_ble_eq_true rfl)⟩) (fun t1 H locs hw62 S => ?_)
            have S : Sw G A s.heap _ _ [((ma 3), .inl (k 0, 800, .inl (fun i => nI (En i)))), ((ma 0), .inl (k 0, 4, .inl (fun i => nI (tk i)))), ((ma 1), .inl (k 0, 800, .inl wd)), (h0, .inr (8, moL ma (va_up (va_up (va_up iv 14 (nI (un8 + 1))) 15 (nI (co8 + 1))) 16 (nI (fcN co8 (fuN un8 fl8)))) co)), ((ma 13), .inl (k 1, 36982, .inr (.inl L9))), ((ma 15), .inl (k 1, 3690, .inr (.inl t1)))] := S
            have r2 := flO_c r1
            have n1 := smO_s hs8 hw62.1 (Nat.le_trans hw62.2 (by rw [ho _ (by omega)]; have := hN1 w9 (by omega); omega))
            refine lv_aload_n hx hb d_Mo_needMatch_164 rfl (lv_at hl 7 rfl) ?_
            refine lv_iload hx hb d_Mo_needMatch_165 (lv_at hl 0 rfl) ?_
            refine lv_iload hx hb d_Mo_needMatch_167 (lv_at hl 13 rfl) ?_
            refine lv_iload hx hb d_Mo_needMatch_169 (lv_at hl 1 rfl) ?_
            refine r_backi (wi := []) (wr := [((ma 3), .inl (k 0, 800, .inl (fun i => nI (En i)))), ((ma 0), .inl (k 0, 4, .inl (fun i => nI (tk i)))), ((ma 1), .inl (k 0, 800, .inl wd)), (h0, .inr (8, moL ma (va_up (va_up (va_up iv 14 (nI (un8 + 1))) 15 (nI (co8 + 1))) 16 (nI (fcN co8 (fuN un8 fl8)))) co)), ((ma 13), .inl (k 1, 36982, .inr (.inl L9))), ((ma 15), .inl (k 1, 3690, .inr (.inl t1)))]) S hA [] [0, 1, 2, 3, 4, 5] rfl rfl (by decide) (by decide) (va_runS (As := [.int (nI gb), .int (nI w9)]) (rest := [.int (nI (uiN un8)), .ref h0]) ⟨hx, hb, C.2.2.1, C.2.2.2.1, C.2.2.2.2.1⟩ (g_Mo_line l G k _ gb w9) (k_stat (n := 2) C wc_Mo_line rfl rfl wz_Mo wm_Mo_211 wt_Mo_line (by decide +kernel) ⟨(Nat.le_of_ble_eq_true rfl), (Nat.le_of_ble_eq_true rfl)⟩) (pr_now K S [] (by decide) rfl) rfl rfl hl.1 rfl (lv_room (Nat.le_of_ble_eq_true rfl)) d_Mo_needMatch_171 ⟨(Nat.le_of_ble_eq_true rfl), (Nat.le_of_ble_eq_true rfl)⟩) (fun r65 u63 H locs hw64 S => ?_)
            have S : Sw G A s.heap _ _ [((ma 3), .inl (k 0, 800, .inl (fun i => nI (En i)))), ((ma 0), .inl (k 0, 4, .inl (fun i => nI (tk i)))), ((ma 1), .inl (k 0, 800, .inl wd)), (h0, .inr (8, moL ma (va_up (va_up (va_up iv 14 (nI (un8 + 1))) 15 (nI (co8 + 1))) 16 (nI (fcN co8 (fuN un8 fl8)))) co)), ((ma 13), .inl (k 1, 36982, .inr (.inl L9))), ((ma 15), .inl (k 1, 3690, .inr (.inl t1)))] := S
            obtain rfl : r65 = nI ((22 * gb + w9) * 41) := hw64
            refine r_backv (wi := [(h0, .inr (8, moL ma (va_up (va_up (va_up iv 14 (nI (un8 + 1))) 15 (nI (co8 + 1))) 16 (nI (fcN co8 (fuN un8 fl8)))) co)), ((ma 13), .inl (k 1, 36982, .inr (.inl L9))), ((ma 15), .inl (k 1, 3690, .inr (.inl t1)))]) (wr := [((ma 3), .inl (k 0, 800, .inl (fun i => nI (En i)))), ((ma 0), .inl (k 0, 4, .inl (fun i => nI (tk i)))), ((ma 1), .inl (k 0, 800, .inl wd))]) S hA [3, 4, 5] [0, 1, 2] rfl rfl (by decide) (by decide) (va_runV (As := [.int (nI (uiN un8)), .int (nI ((22 * gb + w9) * 41))]) (rest := []) ⟨hx, hb, C.2.2.1, C.2.2.2.1, C.2.2.2.2.1⟩ (g_Mo_atLeast l G k h0 _ (uiN un8) (22 * gb + w9) (co8 + 1) (fcN co8 (fuN un8 fl8)) ma (va_up iv 14 (nI (un8 + 1))) co L9 t1 (by omega) (by omega) (by omega) (flO_le r2)) (k_virt (n := 2) C wc_Mo_atLeast rfl rfl wz_Mo wm_Mo_266 wn_Mo_atLeast ws_Mo_atLeast (by decide +kernel) ⟨(Nat.le_of_ble_eq_true rfl), (Nat.le_of_ble_eq_true rfl)⟩) (pr_nowV K S [3, 4, 5] (by decide) rfl 3 rfl rfl) rfl rfl hl.1 rfl (lv_room (Nat.le_of_ble_eq_true rfl)) d_Mo_needMatch_174 ⟨(Nat.le_of_ble_eq_true rfl), (Nat.le_of_ble_eq_true rfl)⟩) (fun t2 H locs hw67 S => ?_)
            have S : Sw G A s.heap _ _ [((ma 3), .inl (k 0, 800, .inl (fun i => nI (En i)))), ((ma 0), .inl (k 0, 4, .inl (fun i => nI (tk i)))), ((ma 1), .inl (k 0, 800, .inl wd)), (h0, .inr (8, moL ma (va_up (va_up (va_up iv 14 (nI (un8 + 1))) 15 (nI ((co8 + 1) + 1))) 16 (nI (fcN (co8 + 1) (fcN co8 (fuN un8 fl8))))) co)), ((ma 13), .inl (k 1, 36982, .inr (.inl L9))), ((ma 15), .inl (k 1, 3690, .inr (.inl t2)))] := S
            have r3 := flO_c r2
            have n2 := smO_s n1 hw67.1 (Nat.le_trans hw67.2 (by rw [ho _ (by omega)]; have := hN2 w9 (by omega); omega))
            refine lv_aload_n hx hb d_Mo_needMatch_177 rfl (lv_at hl 7 rfl) ?_
            refine r_get C K S 3 rfl rfl clOk_Mo 27 (by decide) wf_Mo_57 (v := .ref (ma 13)) rfl d_Mo_needMatch_178 ?_
            refine lv_iload_n hx hb d_Mo_needMatch_181 rfl (lv_at hl 8 rfl) ?_
            refine lv_iload hx hb d_Mo_needMatch_182 (lv_at hl 1 rfl) ?_
            refine r_backi (wi := []) (wr := [((ma 3), .inl (k 0, 800, .inl (fun i => nI (En i)))), ((ma 0), .inl (k 0, 4, .inl (fun i => nI (tk i)))), ((ma 1), .inl (k 0, 800, .inl wd)), (h0, .inr (8, moL ma (va_up (va_up (va_up iv 14 (nI (un8 + 1))) 15 (nI ((co8 + 1) + 1))) 16 (nI (fcN (co8 + 1) (fcN co8 (fuN un8 fl8))))) co)), ((ma 13), .inl (k 1, 36982, .inr (.inl L9))), ((ma 15), .inl (k 1, 3690, .inr (.inl t2)))]) S hA [] [0, 1, 2, 3, 4, 5] rfl rfl (by decide) (by decide) (va_runS (As := [.int (nI b9), .int (nI w9)]) (rest := [.ref (ma 13)]) ⟨hx, hb, C.2.2.1, C.2.2.2.1, C.2.2.2.2.1⟩ (g_Mo_line l G k _ b9 w9) (k_stat (n := 2) C wc_Mo_line rfl rfl wz_Mo wm_Mo_211 wt_Mo_line (by decide +kernel) ⟨(Nat.le_of_ble_eq_true rfl), (Nat.le_of_ble_eq_true rfl)⟩) (pr_now K S [] (by decide) rfl) rfl rfl hl.1 rfl (lv_room (Nat.le_of_ble_eq_true rfl)) d_Mo_needMatch_184 ⟨(Nat.le_of_ble_eq_true rfl), (Nat.le_of_ble_eq_true rfl)⟩) (fun r70 u68 H locs hw69 S => ?_)
            have S : Sw G A s.heap _ _ [((ma 3), .inl (k 0, 800, .inl (fun i => nI (En i)))), ((ma 0), .inl (k 0, 4, .inl (fun i => nI (tk i)))), ((ma 1), .inl (k 0, 800, .inl wd)), (h0, .inr (8, moL ma (va_up (va_up (va_up iv 14 (nI (un8 + 1))) 15 (nI ((co8 + 1) + 1))) 16 (nI (fcN (co8 + 1) (fcN co8 (fuN un8 fl8))))) co)), ((ma 13), .inl (k 1, 36982, .inr (.inl L9))), ((ma 15), .inl (k 1, 3690, .inr (.inl t2)))] := S
            obtain rfl : r70 = nI ((22 * b9 + w9) * 41) := hw69
            refine lv_iload hx hb d_Mo_needMatch_187 (lv_at hl 0 rfl) ?_
            refine z_iadd (x := nI ((22 * b9 + w9) * 41)) (y := nI (uiN un8)) (v := nI ((22 * b9 + w9) * 41 + uiN un8)) hx hb d_Mo_needMatch_189 (nI_add ((22 * b9 + w9) * 41) (uiN un8)) ?_
            refine lv_lconst (v := 1) hx hb d_Mo_needMatch_190 (by decide) ?_
            refine r_last C K S 4 rfl (i := nI ((22 * b9 + w9) * 41 + uiN un8)) (x := 1) (show vp_in (nI ((22 * b9 + w9) * 41 + uiN un8)) _ from vp_in_nI (n := ((22 * b9 + w9) * 41 + uiN un8)) (by omega) (by decide)) (f' := va_up L9 ((22 * b9 + w9) * 41 + uiN un8) 1) (ws' := [((ma 3), .inl (k 0, 800, .inl (fun i => nI (En i)))), ((ma 0), .inl (k 0, 4, .inl (fun i => nI (tk i)))), ((ma 1), .inl (k 0, 800, .inl wd)), (h0, .inr (8, moL ma (va_up (va_up (va_up iv 14 (nI (un8 + 1))) 15 (nI ((co8 + 1) + 1))) 16 (nI (fcN (co8 + 1) (fcN co8 (fuN un8 fl8))))) co)), ((ma 13), .inl (k 1, 36982, .inr (.inl (va_up L9 ((22 * b9 + w9) * 41 + uiN un8) 1)))), ((ma 15), .inl (k 1, 3690, .inr (.inl t2)))]) (show vp_updL _ (nI ((22 * b9 + w9) * 41 + uiN un8) : Int32).toNatClampNeg _ = _ from vp_updL_eq L9 (j := ((22 * b9 + w9) * 41 + uiN un8)) (by omega) 1) rfl d_Mo_needMatch_191 (fun H locs S => ?_)
            obtain ⟨L8, he_L8⟩ : ∃ x9 : Nat → Int64, x9 = va_up L9 ((22 * b9 + w9) * 41 + uiN un8) 1 := ⟨_, rfl⟩
            have j1 : lz L8 (22 * b9 + w9) ≤ 1 := by rw [he_L8]; exact m_one (hL0 w9 (by omega) (by omega)) (by omega)
            have j2 : ∀ x, x ≠ 22 * b9 + w9 → lz L8 x = lz L9 x := by rw [he_L8]; exact fun x hx => lz_up_ne (by omega) hx
            have S : Sw G A s.heap H locs [((ma 3), .inl (k 0, 800, .inl (fun i => nI (En i)))), ((ma 0), .inl (k 0, 4, .inl (fun i => nI (tk i)))), ((ma 1), .inl (k 0, 800, .inl wd)), (h0, .inr (8, moL ma (va_up (va_up (va_up iv 14 (nI (un8 + 1))) 15 (nI ((co8 + 1) + 1))) 16 (nI (fcN (co8 + 1) (fcN co8 (fuN un8 fl8))))) co)), ((ma 13), .inl (k 1, 36982, .inr (.inl L8))), ((ma 15), .inl (k 1, 3690, .inr (.inl t2)))] := by rw [he_L8]; exact S
            refine lv_iinc (v := nI (w9 + 1)) (lv' := [(12, .int (nI (w9 + 1))), (13, .int (nI (uiN un8))), (11, .int (nI (cxN ((co9 + 1) + 1) * 41))), (10, .int (nI (uiN (un + 1)))), (9, .int (nI (uiN un))), (8, .int (nI v9)), (7, .int (nI (200 * f9 + p9))), (0, .ref h0), (1, .int (nI b9)), (2, .int (nI f9)), (3, .int (nI p9)), (4, .int (nI kn)), (5, .int (nI eb)), (6, .int (nI gb))]) hx hb d_Mo_needMatch_192 hl (k := 1) rfl (show nI w9 + Int32.ofInt 1 = nI (w9 + 1) from (nI_add w9 1).trans (congrArg nI (by omega))) (by decide) rfl (fun ls hl => ?_)
            refine lv_goto (tgt := 108) hx hb d_Mo_needMatch_195 (by decide) ?_
            exact ih_lp (w9 + 1) (un8 + 1) (co8 + 1 + 1) (fcN (co8 + 1) (fcN co8 (fuN un8 fl8))) L8 t2 (by omega) (by omega) (by rw [nc_1 (show w9 ≠ v9 by omega) (show b01 _ ≠ 0 by omega)]; omega) (by rw [nc_1 (show w9 ≠ v9 by omega) (show b01 _ ≠ 0 by omega)]; omega) r3 n2 (fun k9 hk => by by_cases q : k9 = w9; exact q ▸ j1; rw [j2 _ (by omega)]; exact hL1 k9 hk) ⟨by rw [j2 _ (by omega)]; exact hL2.1, by rw [j2 _ (by omega)]; exact hL2.2⟩ (fun x hx => by rw [j2 x (by omega)]; exact ho x hx) (fun k9 h1 h2 => by rw [j2 _ (by omega)]; exact hL0 k9 (by omega) h2) _ _ (S.sub [3, 1, 2, 0, 4, 5] (by decide) rfl) ls (lv_sub hl [0, 2, 3, 4, 5, 6, 7, 8, 9, 10, 11, 12, 13] rfl)
          · refine lv_goto (tgt := 192) hx hb d_Mo_needMatch_142 (by decide) ?_
            refine lv_iinc (v := nI (w9 + 1)) (lv' := [(12, .int (nI (w9 + 1))), (11, .int (nI (cxN ((co9 + 1) + 1) * 41))), (10, .int (nI (uiN (un + 1)))), (9, .int (nI (uiN un))), (8, .int (nI v9)), (7, .int (nI (200 * f9 + p9))), (0, .ref h0), (1, .int (nI b9)), (2, .int (nI f9)), (3, .int (nI p9)), (4, .int (nI kn)), (5, .int (nI eb)), (6, .int (nI gb))]) hx hb d_Mo_needMatch_192 hl (k := 0) rfl (show nI w9 + Int32.ofInt 1 = nI (w9 + 1) from (nI_add w9 1).trans (congrArg nI (by omega))) (by decide) rfl (fun ls hl => ?_)
            refine lv_goto (tgt := 108) hx hb d_Mo_needMatch_195 (by decide) ?_
            exact ih_lp (w9 + 1) un8 co8 fl8 L9 s9 (by omega) (by omega) (by rw [nc_0 (Or.inr (by omega))]; exact hu8) (by rw [nc_0 (Or.inr (by omega))]; exact hc8) hf8 hs8 hL1 hL2 ho (fun k9 h1 h2 => hL0 k9 (by omega) h2) _ _ (S.sub [3, 4, 5, 0, 1, 2] (by decide) rfl) ls (lv_sub hl [0, 1, 2, 3, 4, 5, 6, 7, 8, 9, 10, 11, 12] rfl)
  exact lp _ 0 (un + 1 + 1) (co9 + 1 + 1 + 1) (fcN ((co9 + 1) + 1) (fcN (co9 + 1) (fcN co9 (fuN (un + 1) (fuN un fl))))) L s6_ (Nat.lt_succ_self _) (by omega) rfl rfl f5 m3 (fun k9 hk => by rw [hz k9 hk]; exact Nat.zero_le _) ⟨hz 19 (by omega), hz v9 (by omega)⟩ (fun _ _ => rfl) (fun k9 _ h => hz k9 h) _ _ (S.sub [3, 0, 1, 2, 4, 5] (by decide) rfl) ls (lv_sub hl [0, 1, 2, 3, 4, 5, 6, 7, 8, 9, 10, 11, 12] rfl)
end
