section
theorem d_Mo_firstOf_0 : decode c_Mo_firstOf 0 = .ok (.sipush 200, 3) := by decide +kernel
theorem d_Mo_firstOf_3 : decode c_Mo_firstOf 3 = .ok (.iload_n 1, 1) := by decide +kernel
theorem d_Mo_firstOf_4 : decode c_Mo_firstOf 4 = .ok (.imul, 1) := by decide +kernel
theorem d_Mo_firstOf_5 : decode c_Mo_firstOf 5 = .ok (.iload_n 3, 1) := by decide +kernel
theorem d_Mo_firstOf_6 : decode c_Mo_firstOf 6 = .ok (.iadd, 1) := by decide +kernel
theorem d_Mo_firstOf_7 : decode c_Mo_firstOf 7 = .ok (.istore 5, 2) := by decide +kernel
theorem d_Mo_firstOf_9 : decode c_Mo_firstOf 9 = .ok (.aload_n 0, 1) := by decide +kernel
theorem d_Mo_firstOf_10 : decode c_Mo_firstOf 10 = .ok (.getfield 13, 3) := by decide +kernel
theorem d_Mo_firstOf_13 : decode c_Mo_firstOf 13 = .ok (.iload 5, 2) := by decide +kernel
theorem d_Mo_firstOf_15 : decode c_Mo_firstOf 15 = .ok (.iaload, 1) := by decide +kernel
theorem d_Mo_firstOf_16 : decode c_Mo_firstOf 16 = .ok (.istore 6, 2) := by decide +kernel
theorem d_Mo_firstOf_18 : decode c_Mo_firstOf 18 = .ok (.iload 6, 2) := by decide +kernel
theorem d_Mo_firstOf_20 : decode c_Mo_firstOf 20 = .ok (.iconst 2, 1) := by decide +kernel
theorem d_Mo_firstOf_21 : decode c_Mo_firstOf 21 = .ok (.if_icmp .ne 19, 3) := by decide +kernel
theorem d_Mo_firstOf_24 : decode c_Mo_firstOf 24 = .ok (.aload_n 0, 1) := by decide +kernel
theorem d_Mo_firstOf_25 : decode c_Mo_firstOf 25 = .ok (.iload_n 2, 1) := by decide +kernel
theorem d_Mo_firstOf_26 : decode c_Mo_firstOf 26 = .ok (.bipush 20, 2) := by decide +kernel
theorem d_Mo_firstOf_28 : decode c_Mo_firstOf 28 = .ok (.invokestatic 211, 3) := by decide +kernel
theorem d_Mo_firstOf_31 : decode c_Mo_firstOf 31 = .ok (.iload_n 2, 1) := by decide +kernel
theorem d_Mo_firstOf_32 : decode c_Mo_firstOf 32 = .ok (.bipush 21, 2) := by decide +kernel
theorem d_Mo_firstOf_34 : decode c_Mo_firstOf 34 = .ok (.invokestatic 211, 3) := by decide +kernel
theorem d_Mo_firstOf_37 : decode c_Mo_firstOf 37 = .ok (.invokevirtual 227, 3) := by decide +kernel
theorem d_Mo_firstOf_40 : decode c_Mo_firstOf 40 = .ok (.iload 6, 2) := by decide +kernel
theorem d_Mo_firstOf_42 : decode c_Mo_firstOf 42 = .ok (.iconst 2, 1) := by decide +kernel
theorem d_Mo_firstOf_43 : decode c_Mo_firstOf 43 = .ok (.if_icmp .ne 9, 3) := by decide +kernel
theorem d_Mo_firstOf_46 : decode c_Mo_firstOf 46 = .ok (.iload_n 3, 1) := by decide +kernel
theorem d_Mo_firstOf_47 : decode c_Mo_firstOf 47 = .ok (.iconst 1, 1) := by decide +kernel
theorem d_Mo_firstOf_48 : decode c_Mo_firstOf 48 = .ok (.iadd, 1) := by decide +kernel
theorem d_Mo_firstOf_49 : decode c_Mo_firstOf 49 = .ok (.goto 25, 3) := by decide +kernel
theorem d_Mo_firstOf_52 : decode c_Mo_firstOf 52 = .ok (.iload 6, 2) := by decide +kernel
theorem d_Mo_firstOf_54 : decode c_Mo_firstOf 54 = .ok (.bipush 6, 2) := by decide +kernel
theorem d_Mo_firstOf_56 : decode c_Mo_firstOf 56 = .ok (.if_icmp .ne 15, 3) := by decide +kernel
theorem d_Mo_firstOf_59 : decode c_Mo_firstOf 59 = .ok (.aload_n 0, 1) := by decide +kernel
theorem d_Mo_firstOf_60 : decode c_Mo_firstOf 60 = .ok (.getfield 23, 3) := by decide +kernel
theorem d_Mo_firstOf_63 : decode c_Mo_firstOf 63 = .ok (.iload 5, 2) := by decide +kernel
theorem d_Mo_firstOf_65 : decode c_Mo_firstOf 65 = .ok (.iconst 1, 1) := by decide +kernel
theorem d_Mo_firstOf_66 : decode c_Mo_firstOf 66 = .ok (.iadd, 1) := by decide +kernel
theorem d_Mo_firstOf_67 : decode c_Mo_firstOf 67 = .ok (.iaload, 1) := by decide +kernel
theorem d_Mo_firstOf_68 : decode c_Mo_firstOf 68 = .ok (.goto 6, 3) := by decide +kernel
theorem d_Mo_firstOf_71 : decode c_Mo_firstOf 71 = .ok (.iload_n 3, 1) := by decide +kernel
theorem d_Mo_firstOf_72 : decode c_Mo_firstOf 72 = .ok (.iconst 2, 1) := by decide +kernel
theorem d_Mo_firstOf_73 : decode c_Mo_firstOf 73 = .ok (.iadd, 1) := by decide +kernel
theorem d_Mo_firstOf_74 : decode c_Mo_firstOf 74 = .ok (.istore 7, 2) := by decide +kernel
theorem d_Mo_firstOf_76 : decode c_Mo_firstOf 76 = .ok (.iload 6, 2) := by decide +kernel
theorem d_Mo_firstOf_78 : decode c_Mo_firstOf 78 = .ok (.iconst 2, 1) := by decide +kernel
theorem d_Mo_firstOf_79 : decode c_Mo_firstOf 79 = .ok (.if_icmp .eq 22, 3) := by decide +kernel
theorem d_Mo_firstOf_82 : decode c_Mo_firstOf 82 = .ok (.iload 6, 2) := by decide +kernel
theorem d_Mo_firstOf_84 : decode c_Mo_firstOf 84 = .ok (.iconst 3, 1) := by decide +kernel
theorem d_Mo_firstOf_85 : decode c_Mo_firstOf 85 = .ok (.if_icmp .eq 16, 3) := by decide +kernel
theorem d_Mo_firstOf_88 : decode c_Mo_firstOf 88 = .ok (.iload 6, 2) := by decide +kernel
theorem d_Mo_firstOf_90 : decode c_Mo_firstOf 90 = .ok (.iconst 4, 1) := by decide +kernel
theorem d_Mo_firstOf_91 : decode c_Mo_firstOf 91 = .ok (.if_icmp .eq 10, 3) := by decide +kernel
theorem d_Mo_firstOf_94 : decode c_Mo_firstOf 94 = .ok (.iload 6, 2) := by decide +kernel
theorem d_Mo_firstOf_96 : decode c_Mo_firstOf 96 = .ok (.bipush 6, 2) := by decide +kernel
theorem d_Mo_firstOf_98 : decode c_Mo_firstOf 98 = .ok (.if_icmp .ne 38, 3) := by decide +kernel
theorem d_Mo_firstOf_101 : decode c_Mo_firstOf 101 = .ok (.aload_n 0, 1) := by decide +kernel
theorem d_Mo_firstOf_102 : decode c_Mo_firstOf 102 = .ok (.iload 7, 2) := by decide +kernel
theorem d_Mo_firstOf_104 : decode c_Mo_firstOf 104 = .ok (.iload 6, 2) := by decide +kernel
theorem d_Mo_firstOf_106 : decode c_Mo_firstOf 106 = .ok (.bipush 6, 2) := by decide +kernel
theorem d_Mo_firstOf_108 : decode c_Mo_firstOf 108 = .ok (.if_icmp .ne 10, 3) := by decide +kernel
theorem d_Mo_firstOf_111 : decode c_Mo_firstOf 111 = .ok (.iload 4, 2) := by decide +kernel
theorem d_Mo_firstOf_113 : decode c_Mo_firstOf 113 = .ok (.iconst 1, 1) := by decide +kernel
theorem d_Mo_firstOf_114 : decode c_Mo_firstOf 114 = .ok (.iadd, 1) := by decide +kernel
theorem d_Mo_firstOf_115 : decode c_Mo_firstOf 115 = .ok (.goto 5, 3) := by decide +kernel
theorem d_Mo_firstOf_118 : decode c_Mo_firstOf 118 = .ok (.iload 4, 2) := by decide +kernel
theorem d_Mo_firstOf_120 : decode c_Mo_firstOf 120 = .ok (.iload_n 2, 1) := by decide +kernel
theorem d_Mo_firstOf_121 : decode c_Mo_firstOf 121 = .ok (.bipush 20, 2) := by decide +kernel
theorem d_Mo_firstOf_123 : decode c_Mo_firstOf 123 = .ok (.invokestatic 211, 3) := by decide +kernel
theorem d_Mo_firstOf_126 : decode c_Mo_firstOf 126 = .ok (.iload_n 2, 1) := by decide +kernel
theorem d_Mo_firstOf_127 : decode c_Mo_firstOf 127 = .ok (.bipush 21, 2) := by decide +kernel
theorem d_Mo_firstOf_129 : decode c_Mo_firstOf 129 = .ok (.invokestatic 211, 3) := by decide +kernel
theorem d_Mo_firstOf_132 : decode c_Mo_firstOf 132 = .ok (.invokevirtual 230, 3) := by decide +kernel
theorem d_Mo_firstOf_135 : decode c_Mo_firstOf 135 = .ok (.return_, 1) := by decide +kernel
theorem d_Mo_firstOf_136 : decode c_Mo_firstOf 136 = .ok (.iload 6, 2) := by decide +kernel
theorem d_Mo_firstOf_138 : decode c_Mo_firstOf 138 = .ok (.iconst 5, 1) := by decide +kernel
theorem d_Mo_firstOf_139 : decode c_Mo_firstOf 139 = .ok (.if_icmp .ne 22, 3) := by decide +kernel
theorem d_Mo_firstOf_142 : decode c_Mo_firstOf 142 = .ok (.aload_n 0, 1) := by decide +kernel
theorem d_Mo_firstOf_143 : decode c_Mo_firstOf 143 = .ok (.iload_n 2, 1) := by decide +kernel
theorem d_Mo_firstOf_144 : decode c_Mo_firstOf 144 = .ok (.iload 5, 2) := by decide +kernel
theorem d_Mo_firstOf_146 : decode c_Mo_firstOf 146 = .ok (.aload_n 0, 1) := by decide +kernel
theorem d_Mo_firstOf_147 : decode c_Mo_firstOf 147 = .ok (.getfield 13, 3) := by decide +kernel
theorem d_Mo_firstOf_150 : decode c_Mo_firstOf 150 = .ok (.iload 5, 2) := by decide +kernel
theorem d_Mo_firstOf_152 : decode c_Mo_firstOf 152 = .ok (.iconst 1, 1) := by decide +kernel
theorem d_Mo_firstOf_153 : decode c_Mo_firstOf 153 = .ok (.iadd, 1) := by decide +kernel
theorem d_Mo_firstOf_154 : decode c_Mo_firstOf 154 = .ok (.iaload, 1) := by decide +kernel
theorem d_Mo_firstOf_155 : decode c_Mo_firstOf 155 = .ok (.invokevirtual 234, 3) := by decide +kernel
theorem d_Mo_firstOf_158 : decode c_Mo_firstOf 158 = .ok (.goto 48, 3) := by decide +kernel
theorem d_Mo_firstOf_161 : decode c_Mo_firstOf 161 = .ok (.aload_n 0, 1) := by decide +kernel
theorem d_Mo_firstOf_162 : decode c_Mo_firstOf 162 = .ok (.iload_n 2, 1) := by decide +kernel
theorem d_Mo_firstOf_163 : decode c_Mo_firstOf 163 = .ok (.bipush 21, 2) := by decide +kernel
theorem d_Mo_firstOf_165 : decode c_Mo_firstOf 165 = .ok (.invokestatic 211, 3) := by decide +kernel
theorem d_Mo_firstOf_168 : decode c_Mo_firstOf 168 = .ok (.iload_n 2, 1) := by decide +kernel
theorem d_Mo_firstOf_169 : decode c_Mo_firstOf 169 = .ok (.bipush 19, 2) := by decide +kernel
theorem d_Mo_firstOf_171 : decode c_Mo_firstOf 171 = .ok (.invokestatic 211, 3) := by decide +kernel
theorem d_Mo_firstOf_174 : decode c_Mo_firstOf 174 = .ok (.invokevirtual 218, 3) := by decide +kernel
theorem d_Mo_firstOf_177 : decode c_Mo_firstOf 177 = .ok (.iload 6, 2) := by decide +kernel
theorem d_Mo_firstOf_179 : decode c_Mo_firstOf 179 = .ok (.iconst 1, 1) := by decide +kernel
theorem d_Mo_firstOf_180 : decode c_Mo_firstOf 180 = .ok (.if_icmp .ne 26, 3) := by decide +kernel
theorem d_Mo_firstOf_183 : decode c_Mo_firstOf 183 = .ok (.aload_n 0, 1) := by decide +kernel
theorem d_Mo_firstOf_184 : decode c_Mo_firstOf 184 = .ok (.iload_n 2, 1) := by decide +kernel
theorem d_Mo_firstOf_185 : decode c_Mo_firstOf 185 = .ok (.bipush 20, 2) := by decide +kernel
theorem d_Mo_firstOf_187 : decode c_Mo_firstOf 187 = .ok (.invokestatic 211, 3) := by decide +kernel
theorem d_Mo_firstOf_190 : decode c_Mo_firstOf 190 = .ok (.iload_n 2, 1) := by decide +kernel
theorem d_Mo_firstOf_191 : decode c_Mo_firstOf 191 = .ok (.aload_n 0, 1) := by decide +kernel
theorem d_Mo_firstOf_192 : decode c_Mo_firstOf 192 = .ok (.getfield 13, 3) := by decide +kernel
theorem d_Mo_firstOf_195 : decode c_Mo_firstOf 195 = .ok (.iload 5, 2) := by decide +kernel
theorem d_Mo_firstOf_197 : decode c_Mo_firstOf 197 = .ok (.iconst 1, 1) := by decide +kernel
theorem d_Mo_firstOf_198 : decode c_Mo_firstOf 198 = .ok (.iadd, 1) := by decide +kernel
theorem d_Mo_firstOf_199 : decode c_Mo_firstOf 199 = .ok (.iaload, 1) := by decide +kernel
theorem d_Mo_firstOf_200 : decode c_Mo_firstOf 200 = .ok (.invokestatic 211, 3) := by decide +kernel
theorem d_Mo_firstOf_203 : decode c_Mo_firstOf 203 = .ok (.invokevirtual 218, 3) := by decide +kernel
theorem d_Mo_firstOf_206 : decode c_Mo_firstOf 206 = .ok (.aload_n 0, 1) := by decide +kernel
theorem d_Mo_firstOf_207 : decode c_Mo_firstOf 207 = .ok (.invokevirtual 238, 3) := by decide +kernel
theorem d_Mo_firstOf_210 : decode c_Mo_firstOf 210 = .ok (.return_, 1) := by decide +kernel
set_option maxRecDepth 100000 in
set_option maxHeartbeats 16000000 in
/-- firstOf, kind 2 -/
theorem g_Mo_firstOf_2 (l : Launch) (G : va_G) (k : Nat → ClassId) (h0 : Nat) (s0 : Nat) (f9 : Nat) (b9 : Nat) (p9 : Nat) (kn : Nat) (bk : Nat) (n9 : Nat) (ma : Nat → Nat) (iv : Nat → Int32) (co : Int64) (wd : Nat → Int32) (L : Nat → Int64) (En : Nat → Nat) (NB : Nat → Nat) (NA : Nat → Nat) (NK : Nat → Nat) (NP : Nat → Nat) (hf : f9 < 4) (hbb : b9 < bk) (hbk : bk < 40) (hn : n9 + 1 < 20) (hp : p9 + 1 ≤ 200) (hk : wdF wd f9 p9 = 2) : CV l y_Mo_firstOf c_Mo_firstOf 8 { frames := 3, cells := 0, slots := 0, locals := 71 } [.ref h0, .int (nI f9), .int (nI b9), .int (nI p9), .int (nI kn)] G k s0 [(h0, .inr (8, moL ma (va_up (va_up iv 13 (nI bk)) 17 (nI (n9 + 1))) co)), ((ma 1), .inl (k 0, 800, .inl wd)), ((ma 3), .inl (k 0, 800, .inl (fun i => nI (En i)))), ((ma 13), .inl (k 1, 36982, .inr (.inl L))), ((ma 16), .inl (k 0, 20, .inl (fun i => nI (NB i)))), ((ma 17), .inl (k 0, 20, .inl (fun i => nI (NA i)))), ((ma 18), .inl (k 0, 20, .inl (fun i => nI (NK i)))), ((ma 19), .inl (k 0, 20, .inl (fun i => nI (NP i))))] (fun (u : Nat → Int64) => (∀ k9, k9 < 20 → lz u (22 * bk + k9) = 0) ∧ lz u (22 * bk + 20) = lz L (22 * b9 + 20) ∧ lz u (22 * bk + 21) ≤ lz L (22 * b9 + 21) + lz L (22 * b9 + 20) ∧ ∀ x, (x < 22 * bk ∨ 22 * bk + 22 ≤ x) → x ≠ 22 * b9 + 21 → lz u x = lz L x) (fun u => [(h0, .inr (8, moL ma (va_up (va_up iv 13 (nI (bk + 1))) 17 (nI (n9 + 1 + 1))) co)), ((ma 1), .inl (k 0, 800, .inl wd)), ((ma 3), .inl (k 0, 800, .inl (fun i => nI (En i)))), ((ma 13), .inl (k 1, 36982, .inr (.inl u))), ((ma 16), .inl (k 0, 20, .inl (fun i => nI ((va_up NB (n9 + 1) bk) i)))), ((ma 17), .inl (k 0, 20, .inl (fun i => nI ((va_up NA (n9 + 1) (p9 + 1)) i)))), ((ma 18), .inl (k 0, 20, .inl (fun i => nI ((va_up NK (n9 + 1) (kn)) i)))), ((ma 19), .inl (k 0, 20, .inl (fun i => nI ((va_up NP (n9 + 1) 0) i))))]) 0 0 := by
  refine met_start (by decide) (Nat.le_of_ble_eq_true rfl) ?_
  intro p e s m below meth c C K hA hsz S ls hl
  generalize va_A [(h0, .inr (8, moL ma (va_up (va_up iv 13 (nI bk)) 17 (nI (n9 + 1))) co)), ((ma 1), .inl (k 0, 800, .inl wd)), ((ma 3), .inl (k 0, 800, .inl (fun i => nI (En i)))), ((ma 13), .inl (k 1, 36982, .inr (.inl L))), ((ma 16), .inl (k 0, 20, .inl (fun i => nI (NB i)))), ((ma 17), .inl (k 0, 20, .inl (fun i => nI (NA i)))), ((ma 18), .inl (k 0, 20, .inl (fun i => nI (NK i)))), ((ma 19), .inl (k 0, 20, .inl (fun i => nI (NP i))))] s0 = A at hA S ⊢
  have hx := C.1
  have hb := C.2.1
  have hl : lv_has ls 8 [(0, .ref h0), (1, .int (nI f9)), (2, .int (nI b9)), (3, .int (nI p9)), (4, .int (nI kn))] := hl
  refine lv_sipush (v := 200) hx hb d_Mo_firstOf_0 (by decide) ?_
  refine lv_iload_n hx hb d_Mo_firstOf_3 rfl (lv_at hl 1 rfl) ?_
  refine z_imul (x := 200) (y := nI f9) (v := nI (200 * f9)) hx hb d_Mo_firstOf_4 (pk_mul 200 f9) ?_
  refine lv_iload_n hx hb d_Mo_firstOf_5 rfl (lv_at hl 3 rfl) ?_
  refine z_iadd (x := nI (200 * f9)) (y := nI p9) (v := nI (200 * f9 + p9)) hx hb d_Mo_firstOf_6 (nI_add (200 * f9) p9) ?_
  refine lv_istore (lv' := [(5, .int (nI (200 * f9 + p9))), (0, .ref h0), (1, .int (nI f9)), (2, .int (nI b9)), (3, .int (nI p9)), (4, .int (nI kn))]) hx hb d_Mo_firstOf_7 hl (by decide) rfl (fun ls hl => ?_)
  refine lv_aload_n hx hb d_Mo_firstOf_9 rfl (lv_at hl 1 rfl) ?_
  refine r_get C K S 0 rfl rfl clOk_Mo 2 (by decide) wf_Mo_13 (v := .ref (ma 1)) rfl d_Mo_firstOf_10 ?_
  refine lv_iload hx hb d_Mo_firstOf_13 (lv_at hl 0 rfl) ?_
  refine r_iald C K S 1 rfl (i := nI (200 * f9 + p9)) (show vp_in (nI (200 * f9 + p9)) _ from vp_in_nI (n := (200 * f9 + p9)) (by omega) (by decide)) (v := wdF wd f9 p9) (by rw [nI_clamp (by omega)]; exact (show wd (200 * f9 + p9) = wd (200 * f9 + p9) from congrArg wd (by omega))) d_Mo_firstOf_15 ?_
  refine lv_istore (lv' := [(6, .int (wdF wd f9 p9)), (5, .int (nI (200 * f9 + p9))), (0, .ref h0), (1, .int (nI f9)), (2, .int (nI b9)), (3, .int (nI p9)), (4, .int (nI kn))]) hx hb d_Mo_firstOf_16 hl (by decide) rfl (fun ls hl => ?_)
  refine lv_iload hx hb d_Mo_firstOf_18 (lv_at hl 0 rfl) ?_
  refine lv_iconst (v := 2) hx hb d_Mo_firstOf_20 (by decide) ?_
  refine lv_icmp_ne (tgt := 40) hx hb d_Mo_firstOf_21 (by decide) (fun hq => absurd hk hq) (fun _ => ?_)
  refine lv_aload_n hx hb d_Mo_firstOf_24 rfl (lv_at hl 2 rfl) ?_
  refine lv_iload_n hx hb d_Mo_firstOf_25 rfl (lv_at hl 4 rfl) ?_
  refine lv_bipush (v := 20) hx hb d_Mo_firstOf_26 (by decide) ?_
  refine r_backi (wi := []) (wr := [(h0, .inr (8, moL ma (va_up (va_up iv 13 (nI bk)) 17 (nI (n9 + 1))) co)), ((ma 1), .inl (k 0, 800, .inl wd)), ((ma 3), .inl (k 0, 800, .inl (fun i => nI (En i)))), ((ma 13), .inl (k 1, 36982, .inr (.inl L))), ((ma 16), .inl (k 0, 20, .inl (fun i => nI (NB i)))), ((ma 17), .inl (k 0, 20, .inl (fun i => nI (NA i)))), ((ma 18), .inl (k 0, 20, .inl (fun i => nI (NK i)))), ((ma 19), .inl (k 0, 20, .inl (fun i => nI (NP i))))]) S hA [] [0, 1, 2, 3, 4, 5, 6, 7] rfl rfl (by decide) (by decide) (va_runS (As := [.int (nI b9), .int 20]) (rest := [.ref h0]) ⟨hx, hb, C.2.2.1, C.2.2.2.1, C.2.2.2.2.1⟩ (g_Mo_line l G k _ b9 20) (k_stat (n := 2) C wc_Mo_line rfl rfl wz_Mo wm_Mo_211 wt_Mo_line (by decide +kernel) ⟨(Nat.le_of_ble_eq_true rfl), (Nat.le_of_ble_eq_true rfl)⟩) (pr_now K S [] (by decide) rfl) rfl rfl hl.1 rfl (lv_room (Nat.le_of_ble_eq_true rfl)) d_Mo_firstOf_28 ⟨(Nat.le_of_ble_eq_true rfl), (Nat.le_of_ble_eq_true rfl)⟩) (fun r3 u1 H locs hw2 S => ?_)
  have S : Sw G A s.heap _ _ [(h0, .inr (8, moL ma (va_up (va_up iv 13 (nI bk)) 17 (nI (n9 + 1))) co)), ((ma 1), .inl (k 0, 800, .inl wd)), ((ma 3), .inl (k 0, 800, .inl (fun i => nI (En i)))), ((ma 13), .inl (k 1, 36982, .inr (.inl L))), ((ma 16), .inl (k 0, 20, .inl (fun i => nI (NB i)))), ((ma 17), .inl (k 0, 20, .inl (fun i => nI (NA i)))), ((ma 18), .inl (k 0, 20, .inl (fun i => nI (NK i)))), ((ma 19), .inl (k 0, 20, .inl (fun i => nI (NP i))))] := S
  obtain rfl : r3 = nI ((22 * b9 + 20) * 41) := hw2
  refine lv_iload_n hx hb d_Mo_firstOf_31 rfl (lv_at hl 4 rfl) ?_
  refine lv_bipush (v := 21) hx hb d_Mo_firstOf_32 (by decide) ?_
  refine r_backi (wi := []) (wr := [(h0, .inr (8, moL ma (va_up (va_up iv 13 (nI bk)) 17 (nI (n9 + 1))) co)), ((ma 1), .inl (k 0, 800, .inl wd)), ((ma 3), .inl (k 0, 800, .inl (fun i => nI (En i)))), ((ma 13), .inl (k 1, 36982, .inr (.inl L))), ((ma 16), .inl (k 0, 20, .inl (fun i => nI (NB i)))), ((ma 17), .inl (k 0, 20, .inl (fun i => nI (NA i)))), ((ma 18), .inl (k 0, 20, .inl (fun i => nI (NK i)))), ((ma 19), .inl (k 0, 20, .inl (fun i => nI (NP i))))]) S hA [] [0, 1, 2, 3, 4, 5, 6, 7] rfl rfl (by decide) (by decide) (va_runS (As := [.int (nI b9), .int 21]) (rest := [.int (nI ((22 * b9 + 20) * 41)), .ref h0]) ⟨hx, hb, C.2.2.1, C.2.2.2.1, C.2.2.2.2.1⟩ (g_Mo_line l G k _ b9 21) (k_stat (n := 2) C wc_Mo_line rfl rfl wz_Mo wm_Mo_211 wt_Mo_line (by decide +kernel) ⟨(Nat.le_of_ble_eq_true rfl), (Nat.le_of_ble_eq_true rfl)⟩) (pr_now K S [] (by decide) rfl) rfl rfl hl.1 rfl (lv_room (Nat.le_of_ble_eq_true rfl)) d_Mo_firstOf_34 ⟨(Nat.le_of_ble_eq_true rfl), (Nat.le_of_ble_eq_true rfl)⟩) (fun r7 u5 H locs hw6 S => ?_)
  have S : Sw G A s.heap _ _ [(h0, .inr (8, moL ma (va_up (va_up iv 13 (nI bk)) 17 (nI (n9 + 1))) co)), ((ma 1), .inl (k 0, 800, .inl wd)), ((ma 3), .inl (k 0, 800, .inl (fun i => nI (En i)))), ((ma 13), .inl (k 1, 36982, .inr (.inl L))), ((ma 16), .inl (k 0, 20, .inl (fun i => nI (NB i)))), ((ma 17), .inl (k 0, 20, .inl (fun i => nI (NA i)))), ((ma 18), .inl (k 0, 20, .inl (fun i => nI (NK i)))), ((ma 19), .inl (k 0, 20, .inl (fun i => nI (NP i))))] := S
  obtain rfl : r7 = nI ((22 * b9 + 21) * 41) := hw6
  refine r_backv (wi := [(h0, .inr (8, moL ma (va_up (va_up iv 13 (nI bk)) 17 (nI (n9 + 1))) co)), ((ma 13), .inl (k 1, 36982, .inr (.inl L)))]) (wr := [((ma 1), .inl (k 0, 800, .inl wd)), ((ma 3), .inl (k 0, 800, .inl (fun i => nI (En i)))), ((ma 16), .inl (k 0, 20, .inl (fun i => nI (NB i)))), ((ma 17), .inl (k 0, 20, .inl (fun i => nI (NA i)))), ((ma 18), .inl (k 0, 20, .inl (fun i => nI (NK i)))), ((ma 19), .inl (k 0, 20, .inl (fun i => nI (NP i))))]) S hA [0, 3] [1, 2, 4, 5, 6, 7] rfl rfl (by decide) (by decide) (va_runV (As := [.int (nI ((22 * b9 + 20) * 41)), .int (nI ((22 * b9 + 21) * 41))]) (rest := []) ⟨hx, hb, C.2.2.1, C.2.2.2.1, C.2.2.2.2.1⟩ (g_Mo_add l G k h0 _ ma (va_up (va_up iv 13 (nI bk)) 17 (nI (n9 + 1))) co L ((22 * b9 + 20) * 41) ((22 * b9 + 21) * 41) (by omega) (by omega) (by omega)) (k_virt (n := 2) C wc_Mo_add rfl rfl wz_Mo wm_Mo_227 wn_Mo_add ws_Mo_add (by decide +kernel) ⟨(Nat.le_of_ble_eq_true rfl), (Nat.le_of_ble_eq_true rfl)⟩) (pr_nowV K S [0, 3] (by decide) rfl 0 rfl rfl) rfl rfl hl.1 rfl (lv_room (Nat.le_of_ble_eq_true rfl)) d_Mo_firstOf_37 ⟨(Nat.le_of_ble_eq_true rfl), (Nat.le_of_ble_eq_true rfl)⟩) (fun u9 H locs hw10 S => ?_)
  have S : Sw G A s.heap _ _ [((ma 1), .inl (k 0, 800, .inl wd)), ((ma 3), .inl (k 0, 800, .inl (fun i => nI (En i)))), ((ma 16), .inl (k 0, 20, .inl (fun i => nI (NB i)))), ((ma 17), .inl (k 0, 20, .inl (fun i => nI (NA i)))), ((ma 18), .inl (k 0, 20, .inl (fun i => nI (NK i)))), ((ma 19), .inl (k 0, 20, .inl (fun i => nI (NP i)))), (h0, .inr (8, moL ma (va_up (va_up iv 13 (nI bk)) 17 (nI (n9 + 1))) co)), ((ma 13), .inl (k 1, 36982, .inr (.inl (lnA L ((22 * b9 + 20) * 41) ((22 * b9 + 21) * 41) 41))))] := S
  refine lv_iload hx hb d_Mo_firstOf_40 (lv_at hl 0 rfl) ?_
  refine lv_iconst (v := 2) hx hb d_Mo_firstOf_42 (by decide) ?_
  refine lv_icmp_ne (tgt := 52) hx hb d_Mo_firstOf_43 (by decide) (fun hq => absurd hk hq) (fun _ => ?_)
  refine lv_iload_n hx hb d_Mo_firstOf_46 rfl (lv_at hl 5 rfl) ?_
  refine lv_iconst (v := 1) hx hb d_Mo_firstOf_47 (by decide) ?_
  refine z_iadd (x := nI p9) (y := 1) (v := nI (p9 + 1)) hx hb d_Mo_firstOf_48 (nI_add p9 1) ?_
  refine lv_goto (tgt := 74) hx hb d_Mo_firstOf_49 (by decide) ?_
  refine lv_istore (lv' := [(7, .int (nI (p9 + 1))), (6, .int (wdF wd f9 p9)), (5, .int (nI (200 * f9 + p9))), (0, .ref h0), (1, .int (nI f9)), (2, .int (nI b9)), (3, .int (nI p9)), (4, .int (nI kn))]) hx hb d_Mo_firstOf_74 hl (by decide) rfl (fun ls hl => ?_)
  refine lv_iload hx hb d_Mo_firstOf_76 (lv_at hl 1 rfl) ?_
  refine lv_iconst (v := 2) hx hb d_Mo_firstOf_78 (by decide) ?_
  refine lv_icmp_eq (tgt := 101) hx hb d_Mo_firstOf_79 (by decide) (fun _ => ?_) (fun hq => absurd hk hq)
  refine lv_aload_n hx hb d_Mo_firstOf_101 rfl (lv_at hl 3 rfl) ?_
  refine lv_iload hx hb d_Mo_firstOf_102 (lv_at hl 0 rfl) ?_
  refine lv_iload hx hb d_Mo_firstOf_104 (lv_at hl 1 rfl) ?_
  refine lv_bipush (v := 6) hx hb d_Mo_firstOf_106 (by decide) ?_
  refine lv_icmp_ne (tgt := 118) hx hb d_Mo_firstOf_108 (by decide) (fun _ => ?_) (fun hq => absurd hq (by rw [hk]; decide))
  refine lv_iload hx hb d_Mo_firstOf_118 (lv_at hl 7 rfl) ?_
  refine lv_iload_n hx hb d_Mo_firstOf_120 rfl (lv_at hl 5 rfl) ?_
  refine lv_bipush (v := 20) hx hb d_Mo_firstOf_121 (by decide) ?_
  refine r_backi (wi := []) (wr := [((ma 1), .inl (k 0, 800, .inl wd)), ((ma 3), .inl (k 0, 800, .inl (fun i => nI (En i)))), ((ma 16), .inl (k 0, 20, .inl (fun i => nI (NB i)))), ((ma 17), .inl (k 0, 20, .inl (fun i => nI (NA i)))), ((ma 18), .inl (k 0, 20, .inl (fun i => nI (NK i)))), ((ma 19), .inl (k 0, 20, .inl (fun i => nI (NP i)))), (h0, .inr (8, moL ma (va_up (va_up iv 13 (nI bk)) 17 (nI (n9 + 1))) co)), ((ma 13), .inl (k 1, 36982, .inr (.inl (lnA L ((22 * b9 + 20) * 41) ((22 * b9 + 21) * 41) 41))))]) S hA [] [0, 1, 2, 3, 4, 5, 6, 7] rfl rfl (by decide) (by decide) (va_runS (As := [.int (nI b9), .int 20]) (rest := [.int (nI kn), .int (nI (p9 + 1)), .ref h0]) ⟨hx, hb, C.2.2.1, C.2.2.2.1, C.2.2.2.2.1⟩ (g_Mo_line l G k _ b9 20) (k_stat (n := 2) C wc_Mo_line rfl rfl wz_Mo wm_Mo_211 wt_Mo_line (by decide +kernel) ⟨(Nat.le_of_ble_eq_true rfl), (Nat.le_of_ble_eq_true rfl)⟩) (pr_now K S [] (by decide) rfl) rfl rfl hl.1 rfl (lv_room (Nat.le_of_ble_eq_true rfl)) d_Mo_firstOf_123 ⟨(Nat.le_of_ble_eq_true rfl), (Nat.le_of_ble_eq_true rfl)⟩) (fun r13 u11 H locs hw12 S => ?_)
  have S : Sw G A s.heap _ _ [((ma 1), .inl (k 0, 800, .inl wd)), ((ma 3), .inl (k 0, 800, .inl (fun i => nI (En i)))), ((ma 16), .inl (k 0, 20, .inl (fun i => nI (NB i)))), ((ma 17), .inl (k 0, 20, .inl (fun i => nI (NA i)))), ((ma 18), .inl (k 0, 20, .inl (fun i => nI (NK i)))), ((ma 19), .inl (k 0, 20, .inl (fun i => nI (NP i)))), (h0, .inr (8, moL ma (va_up (va_up iv 13 (nI bk)) 17 (nI (n9 + 1))) co)), ((ma 13), .inl (k 1, 36982, .inr (.inl (lnA L ((22 * b9 + 20) * 41) ((22 * b9 + 21) * 41) 41))))] := S
  obtain rfl : r13 = nI ((22 * b9 + 20) * 41) := hw12
  refine lv_iload_n hx hb d_Mo_firstOf_126 rfl (lv_at hl 5 rfl) ?_
  refine lv_bipush (v := 21) hx hb d_Mo_firstOf_127 (by decide) ?_
  refine r_backi (wi := []) (wr := [((ma 1), .inl (k 0, 800, .inl wd)), ((ma 3), .inl (k 0, 800, .inl (fun i => nI (En i)))), ((ma 16), .inl (k 0, 20, .inl (fun i => nI (NB i)))), ((ma 17), .inl (k 0, 20, .inl (fun i => nI (NA i)))), ((ma 18), .inl (k 0, 20, .inl (fun i => nI (NK i)))), ((ma 19), .inl (k 0, 20, .inl (fun i => nI (NP i)))), (h0, .inr (8, moL ma (va_up (va_up iv 13 (nI bk)) 17 (nI (n9 + 1))) co)), ((ma 13), .inl (k 1, 36982, .inr (.inl (lnA L ((22 * b9 + 20) * 41) ((22 * b9 + 21) * 41) 41))))]) S hA [] [0, 1, 2, 3, 4, 5, 6, 7] rfl rfl (by decide) (by decide) (va_runS (As := [.int (nI b9), .int 21]) (rest := [.int (nI ((22 * b9 + 20) * 41)), .int (nI kn), .int (nI (p9 + 1)), .ref h0]) ⟨hx, hb, C.2.2.1, C.2.2.2.1, C.2.2.2.2.1⟩ (g_Mo_line l G k _ b9 21) (k_stat (n := 2) C wc_Mo_line rfl rfl wz_Mo wm_Mo_211 wt_Mo_line (by decide +kernel) ⟨(Nat.le_of_ble_eq_true rfl), (Nat.le_of_ble_eq_true rfl)⟩) (pr_now K S [] (by decide) rfl) rfl rfl hl.1 rfl (lv_room (Nat.le_of_ble_eq_true rfl)) d_Mo_firstOf_129 ⟨(Nat.le_of_ble_eq_true rfl), (Nat.le_of_ble_eq_true rfl)⟩) (fun r17 u15 H locs hw16 S => ?_)
  have S : Sw G A s.heap _ _ [((ma 1), .inl (k 0, 800, .inl wd)), ((ma 3), .inl (k 0, 800, .inl (fun i => nI (En i)))), ((ma 16), .inl (k 0, 20, .inl (fun i => nI (NB i)))), ((ma 17), .inl (k 0, 20, .inl (fun i => nI (NA i)))), ((ma 18), .inl (k 0, 20, .inl (fun i => nI (NK i)))), ((ma 19), .inl (k 0, 20, .inl (fun i => nI (NP i)))), (h0, .inr (8, moL ma (va_up (va_up iv 13 (nI bk)) 17 (nI (n9 + 1))) co)), ((ma 13), .inl (k 1, 36982, .inr (.inl (lnA L ((22 * b9 + 20) * 41) ((22 * b9 + 21) * 41) 41))))] := S
  obtain rfl : r17 = nI ((22 * b9 + 21) * 41) := hw16
  refine r_backv (wi := [(h0, .inr (8, moL ma (va_up (va_up iv 13 (nI bk)) 17 (nI (n9 + 1))) co)), ((ma 13), .inl (k 1, 36982, .inr (.inl (lnA L ((22 * b9 + 20) * 41) ((22 * b9 + 21) * 41) 41)))), ((ma 16), .inl (k 0, 20, .inl (fun i => nI (NB i)))), ((ma 17), .inl (k 0, 20, .inl (fun i => nI (NA i)))), ((ma 18), .inl (k 0, 20, .inl (fun i => nI (NK i)))), ((ma 19), .inl (k 0, 20, .inl (fun i => nI (NP i))))]) (wr := [((ma 1), .inl (k 0, 800, .inl wd)), ((ma 3), .inl (k 0, 800, .inl (fun i => nI (En i))))]) S hA [6, 7, 2, 3, 4, 5] [0, 1] rfl rfl (by decide) (by decide) (va_runV (As := [.int (nI (p9 + 1)), .int (nI kn), .int (nI ((22 * b9 + 20) * 41)), .int (nI ((22 * b9 + 21) * 41))]) (rest := []) ⟨hx, hb, C.2.2.1, C.2.2.2.1, C.2.2.2.2.1⟩ (g_Mo_openNeed l G k h0 _ (p9 + 1) kn (22 * b9 + 20) (22 * b9 + 21) bk (n9 + 1) ma iv co (lnA L ((22 * b9 + 20) * 41) ((22 * b9 + 21) * 41) 41) NB NA NK NP hbk (by omega) (by omega) hn) (k_virt (n := 4) C wc_Mo_openNeed rfl rfl wz_Mo wm_Mo_230 wn_Mo_openNeed ws_Mo_openNeed (by decide +kernel) ⟨(Nat.le_of_ble_eq_true rfl), (Nat.le_of_ble_eq_true rfl)⟩) (pr_nowV K S [6, 7, 2, 3, 4, 5] (by decide) rfl 6 rfl rfl) rfl rfl hl.1 rfl (lv_room (Nat.le_of_ble_eq_true rfl)) d_Mo_firstOf_132 ⟨(Nat.le_of_ble_eq_true rfl), (Nat.le_of_ble_eq_true rfl)⟩) (fun lu H locs hw19 S => ?_)
  have S : Sw G A s.heap _ _ [((ma 1), .inl (k 0, 800, .inl wd)), ((ma 3), .inl (k 0, 800, .inl (fun i => nI (En i)))), (h0, .inr (8, moL ma (va_up (va_up iv 13 (nI (bk + 1))) 17 (nI ((n9 + 1) + 1))) co)), ((ma 13), .inl (k 1, 36982, .inr (.inl lu))), ((ma 16), .inl (k 0, 20, .inl (fun i => nI ((va_up NB (n9 + 1) bk) i)))), ((ma 17), .inl (k 0, 20, .inl (fun i => nI ((va_up NA (n9 + 1) (p9 + 1)) i)))), ((ma 18), .inl (k 0, 20, .inl (fun i => nI ((va_up NK (n9 + 1) kn) i)))), ((ma 19), .inl (k 0, 20, .inl (fun i => nI ((va_up NP (n9 + 1) 0) i))))] := S
  obtain ⟨o1, o2, o3, o4⟩ := hw19
  exact r_vret C K lu ⟨o1, by rw [o2, lz_A_ne (by omega)], by rw [o3]; exact lz_A, fun x hx hne => by rw [o4 x hx, lz_A_ne hne]⟩ (S.sub [2, 0, 1, 3, 4, 5, 6, 7] (by decide) rfl) d_Mo_firstOf_135 (Nat.le_of_ble_eq_true rfl) (Nat.le_of_ble_eq_true rfl)
set_option maxRecDepth 100000 in
set_option maxHeartbeats 16000000 in
/-- firstOf, kind 3 -/
theorem g_Mo_firstOf_3 (l : Launch) (G : va_G) (k : Nat → ClassId) (h0 : Nat) (s0 : Nat) (f9 : Nat) (b9 : Nat) (p9 : Nat) (kn : Nat) (bk : Nat) (n9 : Nat) (ma : Nat → Nat) (iv : Nat → Int32) (co : Int64) (wd : Nat → Int32) (L : Nat → Int64) (En : Nat → Nat) (NB : Nat → Nat) (NA : Nat → Nat) (NK : Nat → Nat) (NP : Nat → Nat) (hf : f9 < 4) (hbb : b9 < bk) (hbk : bk < 40) (hn : n9 + 1 < 20) (hp : p9 + 2 ≤ 200) (hk : wdF wd f9 p9 = 3) : CV l y_Mo_firstOf c_Mo_firstOf 8 { frames := 3, cells := 0, slots := 0, locals := 71 } [.ref h0, .int (nI f9), .int (nI b9), .int (nI p9), .int (nI kn)] G k s0 [(h0, .inr (8, moL ma (va_up (va_up iv 13 (nI bk)) 17 (nI (n9 + 1))) co)), ((ma 1), .inl (k 0, 800, .inl wd)), ((ma 3), .inl (k 0, 800, .inl (fun i => nI (En i)))), ((ma 13), .inl (k 1, 36982, .inr (.inl L))), ((ma 16), .inl (k 0, 20, .inl (fun i => nI (NB i)))), ((ma 17), .inl (k 0, 20, .inl (fun i => nI (NA i)))), ((ma 18), .inl (k 0, 20, .inl (fun i => nI (NK i)))), ((ma 19), .inl (k 0, 20, .inl (fun i => nI (NP i))))] (fun (u : Nat → Int64) => (∀ k9, k9 < 20 → lz u (22 * bk + k9) = 0) ∧ lz u (22 * bk + 20) = lz L (22 * b9 + 20) ∧ lz u (22 * bk + 21) ≤ lz L (22 * b9 + 21) ∧ ∀ x, (x < 22 * bk ∨ 22 * bk + 22 ≤ x) → lz u x = lz L x) (fun u => [(h0, .inr (8, moL ma (va_up (va_up iv 13 (nI (bk + 1))) 17 (nI (n9 + 1 + 1))) co)), ((ma 1), .inl (k 0, 800, .inl wd)), ((ma 3), .inl (k 0, 800, .inl (fun i => nI (En i)))), ((ma 13), .inl (k 1, 36982, .inr (.inl u))), ((ma 16), .inl (k 0, 20, .inl (fun i => nI ((va_up NB (n9 + 1) bk) i)))), ((ma 17), .inl (k 0, 20, .inl (fun i => nI ((va_up NA (n9 + 1) (p9 + 2)) i)))), ((ma 18), .inl (k 0, 20, .inl (fun i => nI ((va_up NK (n9 + 1) (kn)) i)))), ((ma 19), .inl (k 0, 20, .inl (fun i => nI ((va_up NP (n9 + 1) 0) i))))]) 0 0 := by
  refine met_start (by decide) (Nat.le_of_ble_eq_true rfl) ?_
  intro p e s m below meth c C K hA hsz S ls hl
  generalize va_A [(h0, .inr (8, moL ma (va_up (va_up iv 13 (nI bk)) 17 (nI (n9 + 1))) co)), ((ma 1), .inl (k 0, 800, .inl wd)), ((ma 3), .inl (k 0, 800, .inl (fun i => nI (En i)))), ((ma 13), .inl (k 1, 36982, .inr (.inl L))), ((ma 16), .inl (k 0, 20, .inl (fun i => nI (NB i)))), ((ma 17), .inl (k 0, 20, .inl (fun i => nI (NA i)))), ((ma 18), .inl (k 0, 20, .inl (fun i => nI (NK i)))), ((ma 19), .inl (k 0, 20, .inl (fun i => nI (NP i))))] s0 = A at hA S ⊢
  have hx := C.1
  have hb := C.2.1
  have hl : lv_has ls 8 [(0, .ref h0), (1, .int (nI f9)), (2, .int (nI b9)), (3, .int (nI p9)), (4, .int (nI kn))] := hl
  refine lv_sipush (v := 200) hx hb d_Mo_firstOf_0 (by decide) ?_
  refine lv_iload_n hx hb d_Mo_firstOf_3 rfl (lv_at hl 1 rfl) ?_
  refine z_imul (x := 200) (y := nI f9) (v := nI (200 * f9)) hx hb d_Mo_firstOf_4 (pk_mul 200 f9) ?_
  refine lv_iload_n hx hb d_Mo_firstOf_5 rfl (lv_at hl 3 rfl) ?_
  refine z_iadd (x := nI (200 * f9)) (y := nI p9) (v := nI (200 * f9 + p9)) hx hb d_Mo_firstOf_6 (nI_add (200 * f9) p9) ?_
  refine lv_istore (lv' := [(5, .int (nI (200 * f9 + p9))), (0, .ref h0), (1, .int (nI f9)), (2, .int (nI b9)), (3, .int (nI p9)), (4, .int (nI kn))]) hx hb d_Mo_firstOf_7 hl (by decide) rfl (fun ls hl => ?_)
  refine lv_aload_n hx hb d_Mo_firstOf_9 rfl (lv_at hl 1 rfl) ?_
  refine r_get C K S 0 rfl rfl clOk_Mo 2 (by decide) wf_Mo_13 (v := .ref (ma 1)) rfl d_Mo_firstOf_10 ?_
  refine lv_iload hx hb d_Mo_firstOf_13 (lv_at hl 0 rfl) ?_
  refine r_iald C K S 1 rfl (i := nI (200 * f9 + p9)) (show vp_in (nI (200 * f9 + p9)) _ from vp_in_nI (n := (200 * f9 + p9)) (by omega) (by decide)) (v := wdF wd f9 p9) (by rw [nI_clamp (by omega)]; exact (show wd (200 * f9 + p9) = wd (200 * f9 + p9) from congrArg wd (by omega))) d_Mo_firstOf_15 ?_
  refine lv_istore (lv' := [(6, .int (wdF wd f9 p9)), (5, .int (nI (200 * f9 + p9))), (0, .ref h0), (1, .int (nI f9)), (2, .int (nI b9)), (3, .int (nI p9)), (4, .int (nI kn))]) hx hb d_Mo_firstOf_16 hl (by decide) rfl (fun ls hl => ?_)
  refine lv_iload hx hb d_Mo_firstOf_18 (lv_at hl 0 rfl) ?_
  refine lv_iconst (v := 2) hx hb d_Mo_firstOf_20 (by decide) ?_
  refine lv_icmp_ne (tgt := 40) hx hb d_Mo_firstOf_21 (by decide) (fun _ => ?_) (fun hq => absurd hq (by rw [hk]; decide))
  refine lv_iload hx hb d_Mo_firstOf_40 (lv_at hl 0 rfl) ?_
  refine lv_iconst (v := 2) hx hb d_Mo_firstOf_42 (by decide) ?_
  refine lv_icmp_ne (tgt := 52) hx hb d_Mo_firstOf_43 (by decide) (fun _ => ?_) (fun hq => absurd hq (by rw [hk]; decide))
  refine lv_iload hx hb d_Mo_firstOf_52 (lv_at hl 0 rfl) ?_
  refine lv_bipush (v := 6) hx hb d_Mo_firstOf_54 (by decide) ?_
  refine lv_icmp_ne (tgt := 71) hx hb d_Mo_firstOf_56 (by decide) (fun _ => ?_) (fun hq => absurd hq (by rw [hk]; decide))
  refine lv_iload_n hx hb d_Mo_firstOf_71 rfl (lv_at hl 5 rfl) ?_
  refine lv_iconst (v := 2) hx hb d_Mo_firstOf_72 (by decide) ?_
  refine z_iadd (x := nI p9) (y := 2) (v := nI (p9 + 2)) hx hb d_Mo_firstOf_73 (nI_add p9 2) ?_
  refine lv_istore (lv' := [(7, .int (nI (p9 + 2))), (6, .int (wdF wd f9 p9)), (5, .int (nI (200 * f9 + p9))), (0, .ref h0), (1, .int (nI f9)), (2, .int (nI b9)), (3, .int (nI p9)), (4, .int (nI kn))]) hx hb d_Mo_firstOf_74 hl (by decide) rfl (fun ls hl => ?_)
  refine lv_iload hx hb d_Mo_firstOf_76 (lv_at hl 1 rfl) ?_
  refine lv_iconst (v := 2) hx hb d_Mo_firstOf_78 (by decide) ?_
  refine lv_icmp_eq (tgt := 101) hx hb d_Mo_firstOf_79 (by decide) (fun hq => absurd hq (by rw [hk]; decide)) (fun _ => ?_)
  refine lv_iload hx hb d_Mo_firstOf_82 (lv_at hl 1 rfl) ?_
  refine lv_iconst (v := 3) hx hb d_Mo_firstOf_84 (by decide) ?_
  refine lv_icmp_eq (tgt := 101) hx hb d_Mo_firstOf_85 (by decide) (fun _ => ?_) (fun hq => absurd hk hq)
  refine lv_aload_n hx hb d_Mo_firstOf_101 rfl (lv_at hl 3 rfl) ?_
  refine lv_iload hx hb d_Mo_firstOf_102 (lv_at hl 0 rfl) ?_
  refine lv_iload hx hb d_Mo_firstOf_104 (lv_at hl 1 rfl) ?_
  refine lv_bipush (v := 6) hx hb d_Mo_firstOf_106 (by decide) ?_
  refine lv_icmp_ne (tgt := 118) hx hb d_Mo_firstOf_108 (by decide) (fun _ => ?_) (fun hq => absurd hq (by rw [hk]; decide))
  refine lv_iload hx hb d_Mo_firstOf_118 (lv_at hl 7 rfl) ?_
  refine lv_iload_n hx hb d_Mo_firstOf_120 rfl (lv_at hl 5 rfl) ?_
  refine lv_bipush (v := 20) hx hb d_Mo_firstOf_121 (by decide) ?_
  refine r_backi (wi := []) (wr := [(h0, .inr (8, moL ma (va_up (va_up iv 13 (nI bk)) 17 (nI (n9 + 1))) co)), ((ma 1), .inl (k 0, 800, .inl wd)), ((ma 3), .inl (k 0, 800, .inl (fun i => nI (En i)))), ((ma 13), .inl (k 1, 36982, .inr (.inl L))), ((ma 16), .inl (k 0, 20, .inl (fun i => nI (NB i)))), ((ma 17), .inl (k 0, 20, .inl (fun i => nI (NA i)))), ((ma 18), .inl (k 0, 20, .inl (fun i => nI (NK i)))), ((ma 19), .inl (k 0, 20, .inl (fun i => nI (NP i))))]) S hA [] [0, 1, 2, 3, 4, 5, 6, 7] rfl rfl (by decide) (by decide) (va_runS (As := [.int (nI b9), .int 20]) (rest := [.int (nI kn), .int (nI (p9 + 2)), .ref h0]) ⟨hx, hb, C.2.2.1, C.2.2.2.1, C.2.2.2.2.1⟩ (g_Mo_line l G k _ b9 20) (k_stat (n := 2) C wc_Mo_line rfl rfl wz_Mo wm_Mo_211 wt_Mo_line (by decide +kernel) ⟨(Nat.le_of_ble_eq_true rfl), (Nat.le_of_ble_eq_true rfl)⟩) (pr_now K S [] (by decide) rfl) rfl rfl hl.1 rfl (lv_room (Nat.le_of_ble_eq_true rfl)) d_Mo_firstOf_123 ⟨(Nat.le_of_ble_eq_true rfl), (Nat.le_of_ble_eq_true rfl)⟩) (fun r3 u1 H locs hw2 S => ?_)
  have S : Sw G A s.heap _ _ [(h0, .inr (8, moL ma (va_up (va_up iv 13 (nI bk)) 17 (nI (n9 + 1))) co)), ((ma 1), .inl (k 0, 800, .inl wd)), ((ma 3), .inl (k 0, 800, .inl (fun i => nI (En i)))), ((ma 13), .inl (k 1, 36982, .inr (.inl L))), ((ma 16), .inl (k 0, 20, .inl (fun i => nI (NB i)))), ((ma 17), .inl (k 0, 20, .inl (fun i => nI (NA i)))), ((ma 18), .inl (k 0, 20, .inl (fun i => nI (NK i)))), ((ma 19), .inl (k 0, 20, .inl (fun i => nI (NP i))))] := S
  obtain rfl : r3 = nI ((22 * b9 + 20) * 41) := hw2
  refine lv_iload_n hx hb d_Mo_firstOf_126 rfl (lv_at hl 5 rfl) ?_
  refine lv_bipush (v := 21) hx hb d_Mo_firstOf_127 (by decide) ?_
  refine r_backi (wi := []) (wr := [(h0, .inr (8, moL ma (va_up (va_up iv 13 (nI bk)) 17 (nI (n9 + 1))) co)), ((ma 1), .inl (k 0, 800, .inl wd)), ((ma 3), .inl (k 0, 800, .inl (fun i => nI (En i)))), ((ma 13), .inl (k 1, 36982, .inr (.inl L))), ((ma 16), .inl (k 0, 20, .inl (fun i => nI (NB i)))), ((ma 17), .inl (k 0, 20, .inl (fun i => nI (NA i)))), ((ma 18), .inl (k 0, 20, .inl (fun i => nI (NK i)))), ((ma 19), .inl (k 0, 20, .inl (fun i => nI (NP i))))]) S hA [] [0, 1, 2, 3, 4, 5, 6, 7] rfl rfl (by decide) (by decide) (va_runS (As := [.int (nI b9), .int 21]) (rest := [.int (nI ((22 * b9 + 20) * 41)), .int (nI kn), .int (nI (p9 + 2)), .ref h0]) ⟨hx, hb, C.2.2.1, C.2.2.2.1, C.2.2.2.2.1⟩ (g_Mo_line l G k _ b9 21) (k_stat (n := 2) C wc_Mo_line rfl rfl wz_Mo wm_Mo_211 wt_Mo_line (by decide +kernel) ⟨(Nat.le_of_ble_eq_true rfl), (Nat.le_of_ble_eq_true rfl)⟩) (pr_now K S [] (by decide) rfl) rfl rfl hl.1 rfl (lv_room (Nat.le_of_ble_eq_true rfl)) d_Mo_firstOf_129 ⟨(Nat.le_of_ble_eq_true rfl), (Nat.le_of_ble_eq_true rfl)⟩) (fun r7 u5 H locs hw6 S => ?_)
  have S : Sw G A s.heap _ _ [(h0, .inr (8, moL ma (va_up (va_up iv 13 (nI bk)) 17 (nI (n9 + 1))) co)), ((ma 1), .inl (k 0, 800, .inl wd)), ((ma 3), .inl (k 0, 800, .inl (fun i => nI (En i)))), ((ma 13), .inl (k 1, 36982, .inr (.inl L))), ((ma 16), .inl (k 0, 20, .inl (fun i => nI (NB i)))), ((ma 17), .inl (k 0, 20, .inl (fun i => nI (NA i)))), ((ma 18), .inl (k 0, 20, .inl (fun i => nI (NK i)))), ((ma 19), .inl (k 0, 20, .inl (fun i => nI (NP i))))] := S
  obtain rfl : r7 = nI ((22 * b9 + 21) * 41) := hw6
  refine r_backv (wi := [(h0, .inr (8, moL ma (va_up (va_up iv 13 (nI bk)) 17 (nI (n9 + 1))) co)), ((ma 13), .inl (k 1, 36982, .inr (.inl L))), ((ma 16), .inl (k 0, 20, .inl (fun i => nI (NB i)))), ((ma 17), .inl (k 0, 20, .inl (fun i => nI (NA i)))), ((ma 18), .inl (k 0, 20, .inl (fun i => nI (NK i)))), ((ma 19), .inl (k 0, 20, .inl (fun i => nI (NP i))))]) (wr := [((ma 1), .inl (k 0, 800, .inl wd)), ((ma 3), .inl (k 0, 800, .inl (fun i => nI (En i))))]) S hA [0, 3, 4, 5, 6, 7] [1, 2] rfl rfl (by decide) (by decide) (va_runV (As := [.int (nI (p9 + 2)), .int (nI kn), .int (nI ((22 * b9 + 20) * 41)), .int (nI ((22 * b9 + 21) * 41))]) (rest := []) ⟨hx, hb, C.2.2.1, C.2.2.2.1, C.2.2.2.2.1⟩ (g_Mo_openNeed l G k h0 _ (p9 + 2) kn (22 * b9 + 20) (22 * b9 + 21) bk (n9 + 1) ma iv co L NB NA NK NP hbk (by omega) (by omega) hn) (k_virt (n := 4) C wc_Mo_openNeed rfl rfl wz_Mo wm_Mo_230 wn_Mo_openNeed ws_Mo_openNeed (by decide +kernel) ⟨(Nat.le_of_ble_eq_true rfl), (Nat.le_of_ble_eq_true rfl)⟩) (pr_nowV K S [0, 3, 4, 5, 6, 7] (by decide) rfl 0 rfl rfl) rfl rfl hl.1 rfl (lv_room (Nat.le_of_ble_eq_true rfl)) d_Mo_firstOf_132 ⟨(Nat.le_of_ble_eq_true rfl), (Nat.le_of_ble_eq_true rfl)⟩) (fun lu H locs hw9 S => ?_)
  have S : Sw G A s.heap _ _ [((ma 1), .inl (k 0, 800, .inl wd)), ((ma 3), .inl (k 0, 800, .inl (fun i => nI (En i)))), (h0, .inr (8, moL ma (va_up (va_up iv 13 (nI (bk + 1))) 17 (nI ((n9 + 1) + 1))) co)), ((ma 13), .inl (k 1, 36982, .inr (.inl lu))), ((ma 16), .inl (k 0, 20, .inl (fun i => nI ((va_up NB (n9 + 1) bk) i)))), ((ma 17), .inl (k 0, 20, .inl (fun i => nI ((va_up NA (n9 + 1) (p9 + 2)) i)))), ((ma 18), .inl (k 0, 20, .inl (fun i => nI ((va_up NK (n9 + 1) kn) i)))), ((ma 19), .inl (k 0, 20, .inl (fun i => nI ((va_up NP (n9 + 1) 0) i))))] := S
  obtain ⟨o1, o2, o3, o4⟩ := hw9
  exact r_vret C K lu ⟨o1, o2, Nat.le_of_eq o3, o4⟩ (S.sub [2, 0, 1, 3, 4, 5, 6, 7] (by decide) rfl) d_Mo_firstOf_135 (Nat.le_of_ble_eq_true rfl) (Nat.le_of_ble_eq_true rfl)
set_option maxRecDepth 100000 in
set_option maxHeartbeats 16000000 in
/-- firstOf, kind 4 -/
theorem g_Mo_firstOf_4 (l : Launch) (G : va_G) (k : Nat → ClassId) (h0 : Nat) (s0 : Nat) (f9 : Nat) (b9 : Nat) (p9 : Nat) (kn : Nat) (bk : Nat) (n9 : Nat) (ma : Nat → Nat) (iv : Nat → Int32) (co : Int64) (wd : Nat → Int32) (L : Nat → Int64) (En : Nat → Nat) (NB : Nat → Nat) (NA : Nat → Nat) (NK : Nat → Nat) (NP : Nat → Nat) (hf : f9 < 4) (hbb : b9 < bk) (hbk : bk < 40) (hn : n9 + 1 < 20) (hp : p9 + 2 ≤ 200) (hk : wdF wd f9 p9 = 4) : CV l y_Mo_firstOf c_Mo_firstOf 8 { frames := 3, cells := 0, slots := 0, locals := 71 } [.ref h0, .int (nI f9), .int (nI b9), .int (nI p9), .int (nI kn)] G k s0 [(h0, .inr (8, moL ma (va_up (va_up iv 13 (nI bk)) 17 (nI (n9 + 1))) co)), ((ma 1), .inl (k 0, 800, .inl wd)), ((ma 3), .inl (k 0, 800, .inl (fun i => nI (En i)))), ((ma 13), .inl (k 1, 36982, .inr (.inl L))), ((ma 16), .inl (k 0, 20, .inl (fun i => nI (NB i)))), ((ma 17), .inl (k 0, 20, .inl (fun i => nI (NA i)))), ((ma 18), .inl (k 0, 20, .inl (fun i => nI (NK i)))), ((ma 19), .inl (k 0, 20, .inl (fun i => nI (NP i))))] (fun (u : Nat → Int64) => (∀ k9, k9 < 20 → lz u (22 * bk + k9) = 0) ∧ lz u (22 * bk + 20) = lz L (22 * b9 + 20) ∧ lz u (22 * bk + 21) ≤ lz L (22 * b9 + 21) ∧ ∀ x, (x < 22 * bk ∨ 22 * bk + 22 ≤ x) → lz u x = lz L x) (fun u => [(h0, .inr (8, moL ma (va_up (va_up iv 13 (nI (bk + 1))) 17 (nI (n9 + 1 + 1))) co)), ((ma 1), .inl (k 0, 800, .inl wd)), ((ma 3), .inl (k 0, 800, .inl (fun i => nI (En i)))), ((ma 13), .inl (k 1, 36982, .inr (.inl u))), ((ma 16), .inl (k 0, 20, .inl (fun i => nI ((va_up NB (n9 + 1) bk) i)))), ((ma 17), .inl (k 0, 20, .inl (fun i => nI ((va_up NA (n9 + 1) (p9 + 2)) i)))), ((ma 18), .inl (k 0, 20, .inl (fun i => nI ((va_up NK (n9 + 1) (kn)) i)))), ((ma 19), .inl (k 0, 20, .inl (fun i => nI ((va_up NP (n9 + 1) 0) i))))]) 0 0 := by
  refine met_start (by decide) (Nat.le_of_ble_eq_true rfl) ?_
  intro p e s m below meth c C K hA hsz S ls hl
  generalize va_A [(h0, .inr (8, moL ma (va_up (va_up iv 13 (nI bk)) 17 (nI (n9 + 1))) co)), ((ma 1), .inl (k 0, 800, .inl wd)), ((ma 3), .inl (k 0, 800, .inl (fun i => nI (En i)))), ((ma 13), .inl (k 1, 36982, .inr (.inl L))), ((ma 16), .inl (k 0, 20, .inl (fun i => nI (NB i)))), ((ma 17), .inl (k 0, 20, .inl (fun i => nI (NA i)))), ((ma 18), .inl (k 0, 20, .inl (fun i => nI (NK i)))), ((ma 19), .inl (k 0, 20, .inl (fun i => nI (NP i))))] s0 = A at hA S ⊢
  have hx := C.1
  have hb := C.2.1
  have hl : lv_has ls 8 [(0, .ref h0), (1, .int (nI f9)), (2, .int (nI b9)), (3, .int (nI p9)), (4, .int (nI kn))] := hl
  refine lv_sipush (v := 200) hx hb d_Mo_firstOf_0 (by decide) ?_
  refine lv_iload_n hx hb d_Mo_firstOf_3 rfl (lv_at hl 1 rfl) ?_
  refine z_imul (x := 200) (y := nI f9) (v := nI (200 * f9)) hx hb d_Mo_firstOf_4 (pk_mul 200 f9) ?_
  refine lv_iload_n hx hb d_Mo_firstOf_5 rfl (lv_at hl 3 rfl) ?_
  refine z_iadd (x := nI (200 * f9)) (y := nI p9) (v := nI (200 * f9 + p9)) hx hb d_Mo_firstOf_6 (nI_add (200 * f9) p9) ?_
  refine lv_istore (lv' := [(5, .int (nI (200 * f9 + p9))), (0, .ref h0), (1, .int (nI f9)), (2, .int (nI b9)), (3, .int (nI p9)), (4, .int (nI kn))]) hx hb d_Mo_firstOf_7 hl (by decide) rfl (fun ls hl => ?_)
  refine lv_aload_n hx hb d_Mo_firstOf_9 rfl (lv_at hl 1 rfl) ?_
  refine r_get C K S 0 rfl rfl clOk_Mo 2 (by decide) wf_Mo_13 (v := .ref (ma 1)) rfl d_Mo_firstOf_10 ?_
  refine lv_iload hx hb d_Mo_firstOf_13 (lv_at hl 0 rfl) ?_
  refine r_iald C K S 1 rfl (i := nI (200 * f9 + p9)) (show vp_in (nI (200 * f9 + p9)) _ from vp_in_nI (n := (200 * f9 + p9)) (by omega) (by decide)) (v := wdF wd f9 p9) (by rw [nI_clamp (by omega)]; exact (show wd (200 * f9 + p9) = wd (200 * f9 + p9) from congrArg wd (by omega))) d_Mo_firstOf_15 ?_
  refine lv_istore (lv' := [(6, .int (wdF wd f9 p9)), (5, .int (nI (200 * f9 + p9))), (0, .ref h0), (1, .int (nI f9)), (2, .int (nI b9)), (3, .int (nI p9)), (4, .int (nI kn))]) hx hb d_Mo_firstOf_16 hl (by decide) rfl (fun ls hl => ?_)
  refine lv_iload hx hb d_Mo_firstOf_18 (lv_at hl 0 rfl) ?_
  refine lv_iconst (v := 2) hx hb d_Mo_firstOf_20 (by decide) ?_
  refine lv_icmp_ne (tgt := 40) hx hb d_Mo_firstOf_21 (by decide) (fun _ => ?_) (fun hq => absurd hq (by rw [hk]; decide))
  refine lv_iload hx hb d_Mo_firstOf_40 (lv_at hl 0 rfl) ?_
  refine lv_iconst (v := 2) hx hb d_Mo_firstOf_42 (by decide) ?_
  refine lv_icmp_ne (tgt := 52) hx hb d_Mo_firstOf_43 (by decide) (fun _ => ?_) (fun hq => absurd hq (by rw [hk]; decide))
  refine lv_iload hx hb d_Mo_firstOf_52 (lv_at hl 0 rfl) ?_
  refine lv_bipush (v := 6) hx hb d_Mo_firstOf_54 (by decide) ?_
  refine lv_icmp_ne (tgt := 71) hx hb d_Mo_firstOf_56 (by decide) (fun _ => ?_) (fun hq => absurd hq (by rw [hk]; decide))
  refine lv_iload_n hx hb d_Mo_firstOf_71 rfl (lv_at hl 5 rfl) ?_
  refine lv_iconst (v := 2) hx hb d_Mo_firstOf_72 (by decide) ?_
  refine z_iadd (x := nI p9) (y := 2) (v := nI (p9 + 2)) hx hb d_Mo_firstOf_73 (nI_add p9 2) ?_
  refine lv_istore (lv' := [(7, .int (nI (p9 + 2))), (6, .int (wdF wd f9 p9)), (5, .int (nI (200 * f9 + p9))), (0, .ref h0), (1, .int (nI f9)), (2, .int (nI b9)), (3, .int (nI p9)), (4, .int (nI kn))]) hx hb d_Mo_firstOf_74 hl (by decide) rfl (fun ls hl => ?_)
  refine lv_iload hx hb d_Mo_firstOf_76 (lv_at hl 1 rfl) ?_
  refine lv_iconst (v := 2) hx hb d_Mo_firstOf_78 (by decide) ?_
  refine lv_icmp_eq (tgt := 101) hx hb d_Mo_firstOf_79 (by decide) (fun hq => absurd hq (by rw [hk]; decide)) (fun _ => ?_)
  refine lv_iload hx hb d_Mo_firstOf_82 (lv_at hl 1 rfl) ?_
  refine lv_iconst (v := 3) hx hb d_Mo_firstOf_84 (by decide) ?_
  refine lv_icmp_eq (tgt := 101) hx hb d_Mo_firstOf_85 (by decide) (fun hq => absurd hq (by rw [hk]; decide)) (fun _ => ?_)
  refine lv_iload hx hb d_Mo_firstOf_88 (lv_at hl 1 rfl) ?_
  refine lv_iconst (v := 4) hx hb d_Mo_firstOf_90 (by decide) ?_
  refine lv_icmp_eq (tgt := 101) hx hb d_Mo_firstOf_91 (by decide) (fun _ => ?_) (fun hq => absurd hk hq)
  refine lv_aload_n hx hb d_Mo_firstOf_101 rfl (lv_at hl 3 rfl) ?_
  refine lv_iload hx hb d_Mo_firstOf_102 (lv_at hl 0 rfl) ?_
  refine lv_iload hx hb d_Mo_firstOf_104 (lv_at hl 1 rfl) ?_
  refine lv_bipush (v := 6) hx hb d_Mo_firstOf_106 (by decide) ?_
  refine lv_icmp_ne (tgt := 118) hx hb d_Mo_firstOf_108 (by decide) (fun _ => ?_) (fun hq => absurd hq (by rw [hk]; decide))
  refine lv_iload hx hb d_Mo_firstOf_118 (lv_at hl 7 rfl) ?_
  refine lv_iload_n hx hb d_Mo_firstOf_120 rfl (lv_at hl 5 rfl) ?_
  refine lv_bipush (v := 20) hx hb d_Mo_firstOf_121 (by decide) ?_
  refine r_backi (wi := []) (wr := [(h0, .inr (8, moL ma (va_up (va_up iv 13 (nI bk)) 17 (nI (n9 + 1))) co)), ((ma 1), .inl (k 0, 800, .inl wd)), ((ma 3), .inl (k 0, 800, .inl (fun i => nI (En i)))), ((ma 13), .inl (k 1, 36982, .inr (.inl L))), ((ma 16), .inl (k 0, 20, .inl (fun i => nI (NB i)))), ((ma 17), .inl (k 0, 20, .inl (fun i => nI (NA i)))), ((ma 18), .inl (k 0, 20, .inl (fun i => nI (NK i)))), ((ma 19), .inl (k 0, 20, .inl (fun i => nI (NP i))))]) S hA [] [0, 1, 2, 3, 4, 5, 6, 7] rfl rfl (by decide) (by decide) (va_runS (As := [.int (nI b9), .int 20]) (rest := [.int (nI kn), .int (nI (p9 + 2)), .ref h0]) ⟨hx, hb, C.2.2.1, C.2.2.2.1, C.2.2.2.2.1⟩ (g_Mo_line l G k _ b9 20) (k_stat (n := 2) C wc_Mo_line rfl rfl wz_Mo wm_Mo_211 wt_Mo_line (by decide +kernel) ⟨(Nat.le_of_ble_eq_true rfl), (Nat.le_of_ble_eq_true rfl)⟩) (pr_now K S [] (by decide) rfl) rfl rfl hl.1 rfl (lv_room (Nat.le_of_ble_eq_true rfl)) d_Mo_firstOf_123 ⟨(Nat.le_of_ble_eq_true rfl), (Nat.le_of_ble_eq_true rfl)⟩) (fun r3 u1 H locs hw2 S => ?_)
  have S : Sw G A s.heap _ _ [(h0, .inr (8, moL ma (va_up (va_up iv 13 (nI bk)) 17 (nI (n9 + 1))) co)), ((ma 1), .inl (k 0, 800, .inl wd)), ((ma 3), .inl (k 0, 800, .inl (fun i => nI (En i)))), ((ma 13), .inl (k 1, 36982, .inr (.inl L))), ((ma 16), .inl (k 0, 20, .inl (fun i => nI (NB i)))), ((ma 17), .inl (k 0, 20, .inl (fun i => nI (NA i)))), ((ma 18), .inl (k 0, 20, .inl (fun i => nI (NK i)))), ((ma 19), .inl (k 0, 20, .inl (fun i => nI (NP i))))] := S
  obtain rfl : r3 = nI ((22 * b9 + 20) * 41) := hw2
  refine lv_iload_n hx hb d_Mo_firstOf_126 rfl (lv_at hl 5 rfl) ?_
  refine lv_bipush (v := 21) hx hb d_Mo_firstOf_127 (by decide) ?_
  refine r_backi (wi := []) (wr := [(h0, .inr (8, moL ma (va_up (va_up iv 13 (nI bk)) 17 (nI (n9 + 1))) co)), ((ma 1), .inl (k 0, 800, .inl wd)), ((ma 3), .inl (k 0, 800, .inl (fun i => nI (En i)))), ((ma 13), .inl (k 1, 36982, .inr (.inl L))), ((ma 16), .inl (k 0, 20, .inl (fun i => nI (NB i)))), ((ma 17), .inl (k 0, 20, .inl (fun i => nI (NA i)))), ((ma 18), .inl (k 0, 20, .inl (fun i => nI (NK i)))), ((ma 19), .inl (k 0, 20, .inl (fun i => nI (NP i))))]) S hA [] [0, 1, 2, 3, 4, 5, 6, 7] rfl rfl (by decide) (by decide) (va_runS (As := [.int (nI b9), .int 21]) (rest := [.int (nI ((22 * b9 + 20) * 41)), .int (nI kn), .int (nI (p9 + 2)), .ref h0]) ⟨hx, hb, C.2.2.1, C.2.2.2.1, C.2.2.2.2.1⟩ (g_Mo_line l G k _ b9 21) (k_stat (n := 2) C wc_Mo_line rfl rfl wz_Mo wm_Mo_211 wt_Mo_line (by decide +kernel) ⟨(Nat.le_of_ble_eq_true rfl), (Nat.le_of_ble_eq_true rfl)⟩) (pr_now K S [] (by decide) rfl) rfl rfl hl.1 rfl (lv_room (Nat.le_of_ble_eq_true rfl)) d_Mo_firstOf_129 ⟨(Nat.le_of_ble_eq_true rfl), (Nat.le_of_ble_eq_true rfl)⟩) (fun r7 u5 H locs hw6 S => ?_)
  have S : Sw G A s.heap _ _ [(h0, .inr (8, moL ma (va_up (va_up iv 13 (nI bk)) 17 (nI (n9 + 1))) co)), ((ma 1), .inl (k 0, 800, .inl wd)), ((ma 3), .inl (k 0, 800, .inl (fun i => nI (En i)))), ((ma 13), .inl (k 1, 36982, .inr (.inl L))), ((ma 16), .inl (k 0, 20, .inl (fun i => nI (NB i)))), ((ma 17), .inl (k 0, 20, .inl (fun i => nI (NA i)))), ((ma 18), .inl (k 0, 20, .inl (fun i => nI (NK i)))), ((ma 19), .inl (k 0, 20, .inl (fun i => nI (NP i))))] := S
  obtain rfl : r7 = nI ((22 * b9 + 21) * 41) := hw6
  refine r_backv (wi := [(h0, .inr (8, moL ma (va_up (va_up iv 13 (nI bk)) 17 (nI (n9 + 1))) co)), ((ma 13), .inl (k 1, 36982, .inr (.inl L))), ((ma 16), .inl (k 0, 20, .inl (fun i => nI (NB i)))), ((ma 17), .inl (k 0, 20, .inl (fun i => nI (NA i)))), ((ma 18), .inl (k 0, 20, .inl (fun i => nI (NK i)))), ((ma 19), .inl (k 0, 20, .inl (fun i => nI (NP i))))]) (wr := [((ma 1), .inl (k 0, 800, .inl wd)), ((ma 3), .inl (k 0, 800, .inl (fun i => nI (En i))))]) S hA [0, 3, 4, 5, 6, 7] [1, 2] rfl rfl (by decide) (by decide) (va_runV (As := [.int (nI (p9 + 2)), .int (nI kn), .int (nI ((22 * b9 + 20) * 41)), .int (nI ((22 * b9 + 21) * 41))]) (rest := []) ⟨hx, hb, C.2.2.1, C.2.2.2.1, C.2.2.2.2.1⟩ (g_Mo_openNeed l G k h0 _ (p9 + 2) kn (22 * b9 + 20) (22 * b9 + 21) bk (n9 + 1) ma iv co L NB NA NK NP hbk (by omega) (by omega) hn) (k_virt (n := 4) C wc_Mo_openNeed rfl rfl wz_Mo wm_Mo_230 wn_Mo_openNeed ws_Mo_openNeed (by decide +kernel) ⟨(Nat.le_of_ble_eq_true rfl), (Nat.le_of_ble_eq_true rfl)⟩) (pr_nowV K S [0, 3, 4, 5, 6, 7] (by decide) rfl 0 rfl rfl) rfl rfl hl.1 rfl (lv_room (Nat.le_of_ble_eq_true rfl)) d_Mo_firstOf_132 ⟨(Nat.le_of_ble_eq_true rfl), (Nat.le_of_ble_eq_true rfl)⟩) (fun lu H locs hw9 S => ?_)
  have S : Sw G A s.heap _ _ [((ma 1), .inl (k 0, 800, .inl wd)), ((ma 3), .inl (k 0, 800, .inl (fun i => nI (En i)))), (h0, .inr (8, moL ma (va_up (va_up iv 13 (nI (bk + 1))) 17 (nI ((n9 + 1) + 1))) co)), ((ma 13), .inl (k 1, 36982, .inr (.inl lu))), ((ma 16), .inl (k 0, 20, .inl (fun i => nI ((va_up NB (n9 + 1) bk) i)))), ((ma 17), .inl (k 0, 20, .inl (fun i => nI ((va_up NA (n9 + 1) (p9 + 2)) i)))), ((ma 18), .inl (k 0, 20, .inl (fun i => nI ((va_up NK (n9 + 1) kn) i)))), ((ma 19), .inl (k 0, 20, .inl (fun i => nI ((va_up NP (n9 + 1) 0) i))))] := S
  obtain ⟨o1, o2, o3, o4⟩ := hw9
  exact r_vret C K lu ⟨o1, o2, Nat.le_of_eq o3, o4⟩ (S.sub [2, 0, 1, 3, 4, 5, 6, 7] (by decide) rfl) d_Mo_firstOf_135 (Nat.le_of_ble_eq_true rfl) (Nat.le_of_ble_eq_true rfl)
set_option maxRecDepth 100000 in
set_option maxHeartbeats 16000000 in
/-- firstOf, kind 6 -/
theorem g_Mo_firstOf_6 (l : Launch) (G : va_G) (k : Nat → ClassId) (h0 : Nat) (s0 : Nat) (f9 : Nat) (b9 : Nat) (p9 : Nat) (kn : Nat) (bk : Nat) (n9 : Nat) (m9 : Nat) (ma : Nat → Nat) (iv : Nat → Int32) (co : Int64) (wd : Nat → Int32) (L : Nat → Int64) (En : Nat → Nat) (NB : Nat → Nat) (NA : Nat → Nat) (NK : Nat → Nat) (NP : Nat → Nat) (hf : f9 < 4) (hbb : b9 < bk) (hbk : bk < 40) (hn : n9 + 1 < 20) (hp : p9 + 2 ≤ 200) (hm : En (200 * f9 + p9 + 1) = m9) (hk : wdF wd f9 p9 = 6) : CV l y_Mo_firstOf c_Mo_firstOf 8 { frames := 3, cells := 0, slots := 0, locals := 71 } [.ref h0, .int (nI f9), .int (nI b9), .int (nI p9), .int (nI kn)] G k s0 [(h0, .inr (8, moL ma (va_up (va_up iv 13 (nI bk)) 17 (nI (n9 + 1))) co)), ((ma 1), .inl (k 0, 800, .inl wd)), ((ma 3), .inl (k 0, 800, .inl (fun i => nI (En i)))), ((ma 13), .inl (k 1, 36982, .inr (.inl L))), ((ma 16), .inl (k 0, 20, .inl (fun i => nI (NB i)))), ((ma 17), .inl (k 0, 20, .inl (fun i => nI (NA i)))), ((ma 18), .inl (k 0, 20, .inl (fun i => nI (NK i)))), ((ma 19), .inl (k 0, 20, .inl (fun i => nI (NP i))))] (fun (u : Nat → Int64) => (∀ k9, k9 < 20 → lz u (22 * bk + k9) = 0) ∧ lz u (22 * bk + 20) = lz L (22 * b9 + 20) ∧ lz u (22 * bk + 21) ≤ lz L (22 * b9 + 21) ∧ ∀ x, (x < 22 * bk ∨ 22 * bk + 22 ≤ x) → lz u x = lz L x) (fun u => [(h0, .inr (8, moL ma (va_up (va_up iv 13 (nI (bk + 1))) 17 (nI (n9 + 1 + 1))) co)), ((ma 1), .inl (k 0, 800, .inl wd)), ((ma 3), .inl (k 0, 800, .inl (fun i => nI (En i)))), ((ma 13), .inl (k 1, 36982, .inr (.inl u))), ((ma 16), .inl (k 0, 20, .inl (fun i => nI ((va_up NB (n9 + 1) bk) i)))), ((ma 17), .inl (k 0, 20, .inl (fun i => nI ((va_up NA (n9 + 1) (m9)) i)))), ((ma 18), .inl (k 0, 20, .inl (fun i => nI ((va_up NK (n9 + 1) (kn + 1)) i)))), ((ma 19), .inl (k 0, 20, .inl (fun i => nI ((va_up NP (n9 + 1) 0) i))))]) 0 0 := by
  refine met_start (by decide) (Nat.le_of_ble_eq_true rfl) ?_
  intro p e s m below meth c C K hA hsz S ls hl
  generalize va_A [(h0, .inr (8, moL ma (va_up (va_up iv 13 (nI bk)) 17 (nI (n9 + 1))) co)), ((ma 1), .inl (k 0, 800, .inl wd)), ((ma 3), .inl (k 0, 800, .inl (fun i => nI (En i)))), ((ma 13), .inl (k 1, 36982, .inr (.inl L))), ((ma 16), .inl (k 0, 20, .inl (fun i => nI (NB i)))), ((ma 17), .inl (k 0, 20, .inl (fun i => nI (NA i)))), ((ma 18), .inl (k 0, 20, .inl (fun i => nI (NK i)))), ((ma 19), .inl (k 0, 20, .inl (fun i => nI (NP i))))] s0 = A at hA S ⊢
  have hx := C.1
  have hb := C.2.1
  have hl : lv_has ls 8 [(0, .ref h0), (1, .int (nI f9)), (2, .int (nI b9)), (3, .int (nI p9)), (4, .int (nI kn))] := hl
  refine lv_sipush (v := 200) hx hb d_Mo_firstOf_0 (by decide) ?_
  refine lv_iload_n hx hb d_Mo_firstOf_3 rfl (lv_at hl 1 rfl) ?_
  refine z_imul (x := 200) (y := nI f9) (v := nI (200 * f9)) hx hb d_Mo_firstOf_4 (pk_mul 200 f9) ?_
  refine lv_iload_n hx hb d_Mo_firstOf_5 rfl (lv_at hl 3 rfl) ?_
  refine z_iadd (x := nI (200 * f9)) (y := nI p9) (v := nI (200 * f9 + p9)) hx hb d_Mo_firstOf_6 (nI_add (200 * f9) p9) ?_
  refine lv_istore (lv' := [(5, .int (nI (200 * f9 + p9))), (0, .ref h0), (1, .int (nI f9)), (2, .int (nI b9)), (3, .int (nI p9)), (4, .int (nI kn))]) hx hb d_Mo_firstOf_7 hl (by decide) rfl (fun ls hl => ?_)
  refine lv_aload_n hx hb d_Mo_firstOf_9 rfl (lv_at hl 1 rfl) ?_
  refine r_get C K S 0 rfl rfl clOk_Mo 2 (by decide) wf_Mo_13 (v := .ref (ma 1)) rfl d_Mo_firstOf_10 ?_
  refine lv_iload hx hb d_Mo_firstOf_13 (lv_at hl 0 rfl) ?_
  refine r_iald C K S 1 rfl (i := nI (200 * f9 + p9)) (show vp_in (nI (200 * f9 + p9)) _ from vp_in_nI (n := (200 * f9 + p9)) (by omega) (by decide)) (v := wdF wd f9 p9) (by rw [nI_clamp (by omega)]; exact (show wd (200 * f9 + p9) = wd (200 * f9 + p9) from congrArg wd (by omega))) d_Mo_firstOf_15 ?_
  refine lv_istore (lv' := [(6, .int (wdF wd f9 p9)), (5, .int (nI (200 * f9 + p9))), (0, .ref h0), (1, .int (nI f9)), (2, .int (nI b9)), (3, .int (nI p9)), (4, .int (nI kn))]) hx hb d_Mo_firstOf_16 hl (by decide) rfl (fun ls hl => ?_)
  refine lv_iload hx hb d_Mo_firstOf_18 (lv_at hl 0 rfl) ?_
  refine lv_iconst (v := 2) hx hb d_Mo_firstOf_20 (by decide) ?_
  refine lv_icmp_ne (tgt := 40) hx hb d_Mo_firstOf_21 (by decide) (fun _ => ?_) (fun hq => absurd hq (by rw [hk]; decide))
  refine lv_iload hx hb d_Mo_firstOf_40 (lv_at hl 0 rfl) ?_
  refine lv_iconst (v := 2) hx hb d_Mo_firstOf_42 (by decide) ?_
  refine lv_icmp_ne (tgt := 52) hx hb d_Mo_firstOf_43 (by decide) (fun _ => ?_) (fun hq => absurd hq (by rw [hk]; decide))
  refine lv_iload hx hb d_Mo_firstOf_52 (lv_at hl 0 rfl) ?_
  refine lv_bipush (v := 6) hx hb d_Mo_firstOf_54 (by decide) ?_
  refine lv_icmp_ne (tgt := 71) hx hb d_Mo_firstOf_56 (by decide) (fun hq => absurd hk hq) (fun _ => ?_)
  refine lv_aload_n hx hb d_Mo_firstOf_59 rfl (lv_at hl 2 rfl) ?_
  refine r_get C K S 0 rfl rfl clOk_Mo 5 (by decide) wf_Mo_23 (v := .ref (ma 3)) rfl d_Mo_firstOf_60 ?_
  refine lv_iload hx hb d_Mo_firstOf_63 (lv_at hl 1 rfl) ?_
  refine lv_iconst (v := 1) hx hb d_Mo_firstOf_65 (by decide) ?_
  refine z_iadd (x := nI (200 * f9 + p9)) (y := 1) (v := nI (200 * f9 + p9 + 1)) hx hb d_Mo_firstOf_66 (nI_add (200 * f9 + p9) 1) ?_
  refine r_iald C K S 2 rfl (i := nI (200 * f9 + p9 + 1)) (show vp_in (nI (200 * f9 + p9 + 1)) _ from vp_in_nI (n := (200 * f9 + p9 + 1)) (by omega) (by decide)) (v := nI (En (200 * f9 + p9 + 1))) (by rw [nI_clamp (by omega)]) d_Mo_firstOf_67 ?_
  rw [hm]
  refine lv_goto (tgt := 74) hx hb d_Mo_firstOf_68 (by decide) ?_
  refine lv_istore (lv' := [(7, .int (nI m9)), (6, .int (wdF wd f9 p9)), (5, .int (nI (200 * f9 + p9))), (0, .ref h0), (1, .int (nI f9)), (2, .int (nI b9)), (3, .int (nI p9)), (4, .int (nI kn))]) hx hb d_Mo_firstOf_74 hl (by decide) rfl (fun ls hl => ?_)
  refine lv_iload hx hb d_Mo_firstOf_76 (lv_at hl 1 rfl) ?_
  refine lv_iconst (v := 2) hx hb d_Mo_firstOf_78 (by decide) ?_
  refine lv_icmp_eq (tgt := 101) hx hb d_Mo_firstOf_79 (by decide) (fun hq => absurd hq (by rw [hk]; decide)) (fun _ => ?_)
  refine lv_iload hx hb d_Mo_firstOf_82 (lv_at hl 1 rfl) ?_
  refine lv_iconst (v := 3) hx hb d_Mo_firstOf_84 (by decide) ?_
  refine lv_icmp_eq (tgt := 101) hx hb d_Mo_firstOf_85 (by decide) (fun hq => absurd hq (by rw [hk]; decide)) (fun _ => ?_)
  refine lv_iload hx hb d_Mo_firstOf_88 (lv_at hl 1 rfl) ?_
  refine lv_iconst (v := 4) hx hb d_Mo_firstOf_90 (by decide) ?_
  refine lv_icmp_eq (tgt := 101) hx hb d_Mo_firstOf_91 (by decide) (fun hq => absurd hq (by rw [hk]; decide)) (fun _ => ?_)
  refine lv_iload hx hb d_Mo_firstOf_94 (lv_at hl 1 rfl) ?_
  refine lv_bipush (v := 6) hx hb d_Mo_firstOf_96 (by decide) ?_
  refine lv_icmp_ne (tgt := 136) hx hb d_Mo_firstOf_98 (by decide) (fun hq => absurd hk hq) (fun _ => ?_)
  refine lv_aload_n hx hb d_Mo_firstOf_101 rfl (lv_at hl 3 rfl) ?_
  refine lv_iload hx hb d_Mo_firstOf_102 (lv_at hl 0 rfl) ?_
  refine lv_iload hx hb d_Mo_firstOf_104 (lv_at hl 1 rfl) ?_
  refine lv_bipush (v := 6) hx hb d_Mo_firstOf_106 (by decide) ?_
  refine lv_icmp_ne (tgt := 118) hx hb d_Mo_firstOf_108 (by decide) (fun hq => absurd hk hq) (fun _ => ?_)
  refine lv_iload hx hb d_Mo_firstOf_111 (lv_at hl 7 rfl) ?_
  refine lv_iconst (v := 1) hx hb d_Mo_firstOf_113 (by decide) ?_
  refine z_iadd (x := nI kn) (y := 1) (v := nI (kn + 1)) hx hb d_Mo_firstOf_114 (nI_add kn 1) ?_
  refine lv_goto (tgt := 120) hx hb d_Mo_firstOf_115 (by decide) ?_
  refine lv_iload_n hx hb d_Mo_firstOf_120 rfl (lv_at hl 5 rfl) ?_
  refine lv_bipush (v := 20) hx hb d_Mo_firstOf_121 (by decide) ?_
  refine r_backi (wi := []) (wr := [(h0, .inr (8, moL ma (va_up (va_up iv 13 (nI bk)) 17 (nI (n9 + 1))) co)), ((ma 1), .inl (k 0, 800, .inl wd)), ((ma 3), .inl (k 0, 800, .inl (fun i => nI (En i)))), ((ma 13), .inl (k 1, 36982, .inr (.inl L))), ((ma 16), .inl (k 0, 20, .inl (fun i => nI (NB i)))), ((ma 17), .inl (k 0, 20, .inl (fun i => nI (NA i)))), ((ma 18), .inl (k 0, 20, .inl (fun i => nI (NK i)))), ((ma 19), .inl (k 0, 20, .inl (fun i => nI (NP i))))]) S hA [] [0, 1, 2, 3, 4, 5, 6, 7] rfl rfl (by decide) (by decide) (va_runS (As := [.int (nI b9), .int 20]) (rest := [.int (nI (kn + 1)), .int (nI m9), .ref h0]) ⟨hx, hb, C.2.2.1, C.2.2.2.1, C.2.2.2.2.1⟩ (g_Mo_line l G k _ b9 20) (k_stat (n := 2) C wc_Mo_line rfl rfl wz_Mo wm_Mo_211 wt_Mo_line (by decide +kernel) ⟨(Nat.le_of_ble_eq_true rfl), (Nat.le_of_ble_eq_true rfl)⟩) (pr_now K S [] (by decide) rfl) rfl rfl hl.1 rfl (lv_room (Nat.le_of_ble_eq_true rfl)) d_Mo_firstOf_123 ⟨(Nat.le_of_ble_eq_true rfl), (Nat.le_of_ble_eq_true rfl)⟩) (fun r3 u1 H locs hw2 S => ?_)
  have S : Sw G A s.heap _ _ [(h0, .inr (8, moL ma (va_up (va_up iv 13 (nI bk)) 17 (nI (n9 + 1))) co)), ((ma 1), .inl (k 0, 800, .inl wd)), ((ma 3), .inl (k 0, 800, .inl (fun i => nI (En i)))), ((ma 13), .inl (k 1, 36982, .inr (.inl L))), ((ma 16), .inl (k 0, 20, .inl (fun i => nI (NB i)))), ((ma 17), .inl (k 0, 20, .inl (fun i => nI (NA i)))), ((ma 18), .inl (k 0, 20, .inl (fun i => nI (NK i)))), ((ma 19), .inl (k 0, 20, .inl (fun i => nI (NP i))))] := S
  obtain rfl : r3 = nI ((22 * b9 + 20) * 41) := hw2
  refine lv_iload_n hx hb d_Mo_firstOf_126 rfl (lv_at hl 5 rfl) ?_
  refine lv_bipush (v := 21) hx hb d_Mo_firstOf_127 (by decide) ?_
  refine r_backi (wi := []) (wr := [(h0, .inr (8, moL ma (va_up (va_up iv 13 (nI bk)) 17 (nI (n9 + 1))) co)), ((ma 1), .inl (k 0, 800, .inl wd)), ((ma 3), .inl (k 0, 800, .inl (fun i => nI (En i)))), ((ma 13), .inl (k 1, 36982, .inr (.inl L))), ((ma 16), .inl (k 0, 20, .inl (fun i => nI (NB i)))), ((ma 17), .inl (k 0, 20, .inl (fun i => nI (NA i)))), ((ma 18), .inl (k 0, 20, .inl (fun i => nI (NK i)))), ((ma 19), .inl (k 0, 20, .inl (fun i => nI (NP i))))]) S hA [] [0, 1, 2, 3, 4, 5, 6, 7] rfl rfl (by decide) (by decide) (va_runS (As := [.int (nI b9), .int 21]) (rest := [.int (nI ((22 * b9 + 20) * 41)), .int (nI (kn + 1)), .int (nI m9), .ref h0]) ⟨hx, hb, C.2.2.1, C.2.2.2.1, C.2.2.2.2.1⟩ (g_Mo_line l G k _ b9 21) (k_stat (n := 2) C wc_Mo_line rfl rfl wz_Mo wm_Mo_211 wt_Mo_line (by decide +kernel) ⟨(Nat.le_of_ble_eq_true rfl), (Nat.le_of_ble_eq_true rfl)⟩) (pr_now K S [] (by decide) rfl) rfl rfl hl.1 rfl (lv_room (Nat.le_of_ble_eq_true rfl)) d_Mo_firstOf_129 ⟨(Nat.le_of_ble_eq_true rfl), (Nat.le_of_ble_eq_true rfl)⟩) (fun r7 u5 H locs hw6 S => ?_)
  have S : Sw G A s.heap _ _ [(h0, .inr (8, moL ma (va_up (va_up iv 13 (nI bk)) 17 (nI (n9 + 1))) co)), ((ma 1), .inl (k 0, 800, .inl wd)), ((ma 3), .inl (k 0, 800, .inl (fun i => nI (En i)))), ((ma 13), .inl (k 1, 36982, .inr (.inl L))), ((ma 16), .inl (k 0, 20, .inl (fun i => nI (NB i)))), ((ma 17), .inl (k 0, 20, .inl (fun i => nI (NA i)))), ((ma 18), .inl (k 0, 20, .inl (fun i => nI (NK i)))), ((ma 19), .inl (k 0, 20, .inl (fun i => nI (NP i))))] := S
  obtain rfl : r7 = nI ((22 * b9 + 21) * 41) := hw6
  refine r_backv (wi := [(h0, .inr (8, moL ma (va_up (va_up iv 13 (nI bk)) 17 (nI (n9 + 1))) co)), ((ma 13), .inl (k 1, 36982, .inr (.inl L))), ((ma 16), .inl (k 0, 20, .inl (fun i => nI (NB i)))), ((ma 17), .inl (k 0, 20, .inl (fun i => nI (NA i)))), ((ma 18), .inl (k 0, 20, .inl (fun i => nI (NK i)))), ((ma 19), .inl (k 0, 20, .inl (fun i => nI (NP i))))]) (wr := [((ma 1), .inl (k 0, 800, .inl wd)), ((ma 3), .inl (k 0, 800, .inl (fun i => nI (En i))))]) S hA [0, 3, 4, 5, 6, 7] [1, 2] rfl rfl (by decide) (by decide) (va_runV (As := [.int (nI m9), .int (nI (kn + 1)), .int (nI ((22 * b9 + 20) * 41)), .int (nI ((22 * b9 + 21) * 41))]) (rest := []) ⟨hx, hb, C.2.2.1, C.2.2.2.1, C.2.2.2.2.1⟩ (g_Mo_openNeed l G k h0 _ m9 (kn + 1) (22 * b9 + 20) (22 * b9 + 21) bk (n9 + 1) ma iv co L NB NA NK NP hbk (by omega) (by omega) hn) (k_virt (n := 4) C wc_Mo_openNeed rfl rfl wz_Mo wm_Mo_230 wn_Mo_openNeed ws_Mo_openNeed (by decide +kernel) ⟨(Nat.le_of_ble_eq_true rfl), (Nat.le_of_ble_eq_true rfl)⟩) (pr_nowV K S [0, 3, 4, 5, 6, 7] (by decide) rfl 0 rfl rfl) rfl rfl hl.1 rfl (lv_room (Nat.le_of_ble_eq_true rfl)) d_Mo_firstOf_132 ⟨(Nat.le_of_ble_eq_true rfl), (Nat.le_of_ble_eq_true rfl)⟩) (fun lu H locs hw9 S => ?_)
  have S : Sw G A s.heap _ _ [((ma 1), .inl (k 0, 800, .inl wd)), ((ma 3), .inl (k 0, 800, .inl (fun i => nI (En i)))), (h0, .inr (8, moL ma (va_up (va_up iv 13 (nI (bk + 1))) 17 (nI ((n9 + 1) + 1))) co)), ((ma 13), .inl (k 1, 36982, .inr (.inl lu))), ((ma 16), .inl (k 0, 20, .inl (fun i => nI ((va_up NB (n9 + 1) bk) i)))), ((ma 17), .inl (k 0, 20, .inl (fun i => nI ((va_up NA (n9 + 1) m9) i)))), ((ma 18), .inl (k 0, 20, .inl (fun i => nI ((va_up NK (n9 + 1) (kn + 1)) i)))), ((ma 19), .inl (k 0, 20, .inl (fun i => nI ((va_up NP (n9 + 1) 0) i))))] := S
  obtain ⟨o1, o2, o3, o4⟩ := hw9
  exact r_vret C K lu ⟨o1, o2, Nat.le_of_eq o3, o4⟩ (S.sub [2, 0, 1, 3, 4, 5, 6, 7] (by decide) rfl) d_Mo_firstOf_135 (Nat.le_of_ble_eq_true rfl) (Nat.le_of_ble_eq_true rfl)
set_option maxRecDepth 100000 in
set_option maxHeartbeats 16000000 in
/-- firstOf, kind 0 -/
theorem g_Mo_firstOf_0 (l : Launch) (G : va_G) (k : Nat → ClassId) (h0 : Nat) (s0 : Nat) (f9 : Nat) (b9 : Nat) (p9 : Nat) (kn : Nat) (n9 : Nat) (ma : Nat → Nat) (iv : Nat → Int32) (co : Int64) (wd : Nat → Int32) (L : Nat → Int64) (NB : Nat → Nat) (hf : f9 < 4) (hbk : b9 < 40) (hn : n9 < 20) (hp : p9 + 1 ≤ 200) (hk : wdF wd f9 p9 = 0) : CV l y_Mo_firstOf c_Mo_firstOf 8 { frames := 1, cells := 0, slots := 0, locals := 23 } [.ref h0, .int (nI f9), .int (nI b9), .int (nI p9), .int (nI kn)] G k s0 [(h0, .inr (8, moL ma (va_up iv 17 (nI (n9 + 1))) co)), ((ma 1), .inl (k 0, 800, .inl wd)), ((ma 13), .inl (k 1, 36982, .inr (.inl L))), ((ma 16), .inl (k 0, 20, .inl (fun i => nI (NB i))))] (fun (u : Nat → Int64) => lz u (22 * b9 + 19) = lz L (22 * b9 + 21) ∧ (∀ k9, k9 < 19 → lz u (22 * b9 + k9) = lz L (22 * b9 + k9)) ∧ ∀ x, x < 22 * b9 ∨ 22 * b9 + 20 ≤ x → lz u x = lz L x) (fun u => [(h0, .inr (8, moL ma (va_up (va_up iv 17 (nI n9)) 18 (nI (NB n9))) co)), ((ma 1), .inl (k 0, 800, .inl wd)), ((ma 13), .inl (k 1, 36982, .inr (.inl u))), ((ma 16), .inl (k 0, 20, .inl (fun i => nI (NB i))))]) 0 0 := by
  refine met_start (by decide) (Nat.le_of_ble_eq_true rfl) ?_
  intro p e s m below meth c C K hA hsz S ls hl
  generalize va_A [(h0, .inr (8, moL ma (va_up iv 17 (nI (n9 + 1))) co)), ((ma 1), .inl (k 0, 800, .inl wd)), ((ma 13), .inl (k 1, 36982, .inr (.inl L))), ((ma 16), .inl (k 0, 20, .inl (fun i => nI (NB i))))] s0 = A at hA S ⊢
  have hx := C.1
  have hb := C.2.1
  have hl : lv_has ls 8 [(0, .ref h0), (1, .int (nI f9)), (2, .int (nI b9)), (3, .int (nI p9)), (4, .int (nI kn))] := hl
  refine lv_sipush (v := 200) hx hb d_Mo_firstOf_0 (by decide) ?_
  refine lv_iload_n hx hb d_Mo_firstOf_3 rfl (lv_at hl 1 rfl) ?_
  refine z_imul (x := 200) (y := nI f9) (v := nI (200 * f9)) hx hb d_Mo_firstOf_4 (pk_mul 200 f9) ?_
  refine lv_iload_n hx hb d_Mo_firstOf_5 rfl (lv_at hl 3 rfl) ?_
  refine z_iadd (x := nI (200 * f9)) (y := nI p9) (v := nI (200 * f9 + p9)) hx hb d_Mo_firstOf_6 (nI_add (200 * f9) p9) ?_
  refine lv_istore (lv' := [(5, .int (nI (200 * f9 + p9))), (0, .ref h0), (1, .int (nI f9)), (2, .int (nI b9)), (3, .int (nI p9)), (4, .int (nI kn))]) hx hb d_Mo_firstOf_7 hl (by decide) rfl (fun ls hl => ?_)
  refine lv_aload_n hx hb d_Mo_firstOf_9 rfl (lv_at hl 1 rfl) ?_
  refine r_get C K S 0 rfl rfl clOk_Mo 2 (by decide) wf_Mo_13 (v := .ref (ma 1)) rfl d_Mo_firstOf_10 ?_
  refine lv_iload hx hb d_Mo_firstOf_13 (lv_at hl 0 rfl) ?_
  refine r_iald C K S 1 rfl (i := nI (200 * f9 + p9)) (show vp_in (nI (200 * f9 + p9)) _ from vp_in_nI (n := (200 * f9 + p9)) (by omega) (by decide)) (v := wdF wd f9 p9) (by rw [nI_clamp (by omega)]; exact (show wd (200 * f9 + p9) = wd (200 * f9 + p9) from congrArg wd (by omega))) d_Mo_firstOf_15 ?_
  refine lv_istore (lv' := [(6, .int (wdF wd f9 p9)), (5, .int (nI (200 * f9 + p9))), (0, .ref h0), (1, .int (nI f9)), (2, .int (nI b9)), (3, .int (nI p9)), (4, .int (nI kn))]) hx hb d_Mo_firstOf_16 hl (by decide) rfl (fun ls hl => ?_)
  refine lv_iload hx hb d_Mo_firstOf_18 (lv_at hl 0 rfl) ?_
  refine lv_iconst (v := 2) hx hb d_Mo_firstOf_20 (by decide) ?_
  refine lv_icmp_ne (tgt := 40) hx hb d_Mo_firstOf_21 (by decide) (fun _ => ?_) (fun hq => absurd hq (by rw [hk]; decide))
  refine lv_iload hx hb d_Mo_firstOf_40 (lv_at hl 0 rfl) ?_
  refine lv_iconst (v := 2) hx hb d_Mo_firstOf_42 (by decide) ?_
  refine lv_icmp_ne (tgt := 52) hx hb d_Mo_firstOf_43 (by decide) (fun _ => ?_) (fun hq => absurd hq (by rw [hk]; decide))
  refine lv_iload hx hb d_Mo_firstOf_52 (lv_at hl 0 rfl) ?_
  refine lv_bipush (v := 6) hx hb d_Mo_firstOf_54 (by decide) ?_
  refine lv_icmp_ne (tgt := 71) hx hb d_Mo_firstOf_56 (by decide) (fun _ => ?_) (fun hq => absurd hq (by rw [hk]; decide))
  refine lv_iload_n hx hb d_Mo_firstOf_71 rfl (lv_at hl 5 rfl) ?_
  refine lv_iconst (v := 2) hx hb d_Mo_firstOf_72 (by decide) ?_
  refine z_iadd (x := nI p9) (y := 2) (v := nI (p9 + 2)) hx hb d_Mo_firstOf_73 (nI_add p9 2) ?_
  refine lv_istore (lv' := [(7, .int (nI (p9 + 2))), (6, .int (wdF wd f9 p9)), (5, .int (nI (200 * f9 + p9))), (0, .ref h0), (1, .int (nI f9)), (2, .int (nI b9)), (3, .int (nI p9)), (4, .int (nI kn))]) hx hb d_Mo_firstOf_74 hl (by decide) rfl (fun ls hl => ?_)
  refine lv_iload hx hb d_Mo_firstOf_76 (lv_at hl 1 rfl) ?_
  refine lv_iconst (v := 2) hx hb d_Mo_firstOf_78 (by decide) ?_
  refine lv_icmp_eq (tgt := 101) hx hb d_Mo_firstOf_79 (by decide) (fun hq => absurd hq (by rw [hk]; decide)) (fun _ => ?_)
  refine lv_iload hx hb d_Mo_firstOf_82 (lv_at hl 1 rfl) ?_
  refine lv_iconst (v := 3) hx hb d_Mo_firstOf_84 (by decide) ?_
  refine lv_icmp_eq (tgt := 101) hx hb d_Mo_firstOf_85 (by decide) (fun hq => absurd hq (by rw [hk]; decide)) (fun _ => ?_)
  refine lv_iload hx hb d_Mo_firstOf_88 (lv_at hl 1 rfl) ?_
  refine lv_iconst (v := 4) hx hb d_Mo_firstOf_90 (by decide) ?_
  refine lv_icmp_eq (tgt := 101) hx hb d_Mo_firstOf_91 (by decide) (fun hq => absurd hq (by rw [hk]; decide)) (fun _ => ?_)
  refine lv_iload hx hb d_Mo_firstOf_94 (lv_at hl 1 rfl) ?_
  refine lv_bipush (v := 6) hx hb d_Mo_firstOf_96 (by decide) ?_
  refine lv_icmp_ne (tgt := 136) hx hb d_Mo_firstOf_98 (by decide) (fun _ => ?_) (fun hq => absurd hq (by rw [hk]; decide))
  refine lv_iload hx hb d_Mo_firstOf_136 (lv_at hl 1 rfl) ?_
  refine lv_iconst (v := 5) hx hb d_Mo_firstOf_138 (by decide) ?_
  refine lv_icmp_ne (tgt := 161) hx hb d_Mo_firstOf_139 (by decide) (fun _ => ?_) (fun hq => absurd hq (by rw [hk]; decide))
  refine lv_aload_n hx hb d_Mo_firstOf_161 rfl (lv_at hl 3 rfl) ?_
  refine lv_iload_n hx hb d_Mo_firstOf_162 rfl (lv_at hl 5 rfl) ?_
  refine lv_bipush (v := 21) hx hb d_Mo_firstOf_163 (by decide) ?_
  refine r_backi (wi := []) (wr := [(h0, .inr (8, moL ma (va_up iv 17 (nI (n9 + 1))) co)), ((ma 1), .inl (k 0, 800, .inl wd)), ((ma 13), .inl (k 1, 36982, .inr (.inl L))), ((ma 16), .inl (k 0, 20, .inl (fun i => nI (NB i))))]) S hA [] [0, 1, 2, 3] rfl rfl (by decide) (by decide) (va_runS (As := [.int (nI b9), .int 21]) (rest := [.ref h0]) ⟨hx, hb, C.2.2.1, C.2.2.2.1, C.2.2.2.2.1⟩ (g_Mo_line l G k _ b9 21) (k_stat (n := 2) C wc_Mo_line rfl rfl wz_Mo wm_Mo_211 wt_Mo_line (by decide +kernel) ⟨(Nat.le_of_ble_eq_true rfl), (Nat.le_of_ble_eq_true rfl)⟩) (pr_now K S [] (by decide) rfl) rfl rfl hl.1 rfl (lv_room (Nat.le_of_ble_eq_true rfl)) d_Mo_firstOf_165 ⟨(Nat.le_of_ble_eq_true rfl), (Nat.le_of_ble_eq_true rfl)⟩) (fun r3 u1 H locs hw2 S => ?_)
  have S : Sw G A s.heap _ _ [(h0, .inr (8, moL ma (va_up iv 17 (nI (n9 + 1))) co)), ((ma 1), .inl (k 0, 800, .inl wd)), ((ma 13), .inl (k 1, 36982, .inr (.inl L))), ((ma 16), .inl (k 0, 20, .inl (fun i => nI (NB i))))] := S
  obtain rfl : r3 = nI ((22 * b9 + 21) * 41) := hw2
  refine lv_iload_n hx hb d_Mo_firstOf_168 rfl (lv_at hl 5 rfl) ?_
  refine lv_bipush (v := 19) hx hb d_Mo_firstOf_169 (by decide) ?_
  refine r_backi (wi := []) (wr := [(h0, .inr (8, moL ma (va_up iv 17 (nI (n9 + 1))) co)), ((ma 1), .inl (k 0, 800, .inl wd)), ((ma 13), .inl (k 1, 36982, .inr (.inl L))), ((ma 16), .inl (k 0, 20, .inl (fun i => nI (NB i))))]) S hA [] [0, 1, 2, 3] rfl rfl (by decide) (by decide) (va_runS (As := [.int (nI b9), .int 19]) (rest := [.int (nI ((22 * b9 + 21) * 41)), .ref h0]) ⟨hx, hb, C.2.2.1, C.2.2.2.1, C.2.2.2.2.1⟩ (g_Mo_line l G k _ b9 19) (k_stat (n := 2) C wc_Mo_line rfl rfl wz_Mo wm_Mo_211 wt_Mo_line (by decide +kernel) ⟨(Nat.le_of_ble_eq_true rfl), (Nat.le_of_ble_eq_true rfl)⟩) (pr_now K S [] (by decide) rfl) rfl rfl hl.1 rfl (lv_room (Nat.le_of_ble_eq_true rfl)) d_Mo_firstOf_171 ⟨(Nat.le_of_ble_eq_true rfl), (Nat.le_of_ble_eq_true rfl)⟩) (fun r7 u5 H locs hw6 S => ?_)
  have S : Sw G A s.heap _ _ [(h0, .inr (8, moL ma (va_up iv 17 (nI (n9 + 1))) co)), ((ma 1), .inl (k 0, 800, .inl wd)), ((ma 13), .inl (k 1, 36982, .inr (.inl L))), ((ma 16), .inl (k 0, 20, .inl (fun i => nI (NB i))))] := S
  obtain rfl : r7 = nI ((22 * b9 + 19) * 41) := hw6
  refine r_backv (wi := [(h0, .inr (8, moL ma (va_up iv 17 (nI (n9 + 1))) co)), ((ma 13), .inl (k 1, 36982, .inr (.inl L)))]) (wr := [((ma 1), .inl (k 0, 800, .inl wd)), ((ma 16), .inl (k 0, 20, .inl (fun i => nI (NB i))))]) S hA [0, 2] [1, 3] rfl rfl (by decide) (by decide) (va_runV (As := [.int (nI ((22 * b9 + 21) * 41)), .int (nI ((22 * b9 + 19) * 41))]) (rest := []) ⟨hx, hb, C.2.2.1, C.2.2.2.1, C.2.2.2.2.1⟩ (g_Mo_copy l G k h0 _ ma (va_up iv 17 (nI (n9 + 1))) co L ((22 * b9 + 21) * 41) ((22 * b9 + 19) * 41) (by omega) (by omega) (by omega)) (k_virt (n := 2) C wc_Mo_copy rfl rfl wz_Mo wm_Mo_218 wn_Mo_copy ws_Mo_copy (by decide +kernel) ⟨(Nat.le_of_ble_eq_true rfl), (Nat.le_of_ble_eq_true rfl)⟩) (pr_nowV K S [0, 2] (by decide) rfl 0 rfl rfl) rfl rfl hl.1 rfl (lv_room (Nat.le_of_ble_eq_true rfl)) d_Mo_firstOf_174 ⟨(Nat.le_of_ble_eq_true rfl), (Nat.le_of_ble_eq_true rfl)⟩) (fun u9 H locs hw10 S => ?_)
  have S : Sw G A s.heap _ _ [((ma 1), .inl (k 0, 800, .inl wd)), ((ma 16), .inl (k 0, 20, .inl (fun i => nI (NB i)))), (h0, .inr (8, moL ma (va_up iv 17 (nI (n9 + 1))) co)), ((ma 13), .inl (k 1, 36982, .inr (.inl (lnP L ((22 * b9 + 21) * 41) ((22 * b9 + 19) * 41) 41))))] := S
  refine lv_iload hx hb d_Mo_firstOf_177 (lv_at hl 1 rfl) ?_
  refine lv_iconst (v := 1) hx hb d_Mo_firstOf_179 (by decide) ?_
  refine lv_icmp_ne (tgt := 206) hx hb d_Mo_firstOf_180 (by decide) (fun _ => ?_) (fun hq => absurd hq (by rw [hk]; decide))
  refine lv_aload_n hx hb d_Mo_firstOf_206 rfl (lv_at hl 3 rfl) ?_
  refine r_backv (wi := [(h0, .inr (8, moL ma (va_up iv 17 (nI (n9 + 1))) co)), ((ma 16), .inl (k 0, 20, .inl (fun i => nI (NB i))))]) (wr := [((ma 1), .inl (k 0, 800, .inl wd)), ((ma 13), .inl (k 1, 36982, .inr (.inl (lnP L ((22 * b9 + 21) * 41) ((22 * b9 + 19) * 41) 41))))]) S hA [2, 1] [0, 3] rfl rfl (by decide) (by decide) (va_runV (As := []) (rest := []) ⟨hx, hb, C.2.2.1, C.2.2.2.1, C.2.2.2.2.1⟩ (g_Mo_endNeed l G k h0 _ n9 ma iv co NB hn) (k_virt (n := 0) C wc_Mo_endNeed rfl rfl wz_Mo wm_Mo_238 wn_Mo_endNeed ws_Mo_endNeed (by decide +kernel) ⟨(Nat.le_of_ble_eq_true rfl), (Nat.le_of_ble_eq_true rfl)⟩) (pr_nowV K S [2, 1] (by decide) rfl 2 rfl rfl) rfl rfl hl.1 rfl (lv_room (Nat.le_of_ble_eq_true rfl)) d_Mo_firstOf_207 ⟨(Nat.le_of_ble_eq_true rfl), (Nat.le_of_ble_eq_true rfl)⟩) (fun u11 H locs hw12 S => ?_)
  have S : Sw G A s.heap _ _ [((ma 1), .inl (k 0, 800, .inl wd)), ((ma 13), .inl (k 1, 36982, .inr (.inl (lnP L ((22 * b9 + 21) * 41) ((22 * b9 + 19) * 41) 41)))), (h0, .inr (8, moL ma (va_up (va_up iv 17 (nI n9)) 18 (nI (NB n9))) co)), ((ma 16), .inl (k 0, 20, .inl (fun i => nI (NB i))))] := S
  exact r_vret C K (lnP L ((22 * b9 + 21) * 41) ((22 * b9 + 19) * 41) 41) ⟨lz_P, fun k9 hk => lz_P_ne (by omega), fun x hx => lz_P_ne (by omega)⟩ (S.sub [2, 0, 1, 3] (by decide) rfl) d_Mo_firstOf_210 (Nat.le_of_ble_eq_true rfl) (Nat.le_of_ble_eq_true rfl)
set_option maxRecDepth 100000 in
set_option maxHeartbeats 16000000 in
/-- firstOf, kind 1 -/
theorem g_Mo_firstOf_1 (l : Launch) (G : va_G) (k : Nat → ClassId) (h0 : Nat) (s0 : Nat) (f9 : Nat) (b9 : Nat) (p9 : Nat) (kn : Nat) (n9 : Nat) (v9 : Nat) (ma : Nat → Nat) (iv : Nat → Int32) (co : Int64) (wd : Nat → Int32) (L : Nat → Int64) (NB : Nat → Nat) (hf : f9 < 4) (hbk : b9 < 40) (hn : n9 < 20) (hp : p9 + 2 ≤ 200) (hk : wdF wd f9 p9 = 1) (hv : wdF wd f9 (p9 + 1) = nI v9) (hv2 : v9 < 19) : CV l y_Mo_firstOf c_Mo_firstOf 8 { frames := 1, cells := 0, slots := 0, locals := 23 } [.ref h0, .int (nI f9), .int (nI b9), .int (nI p9), .int (nI kn)] G k s0 [(h0, .inr (8, moL ma (va_up iv 17 (nI (n9 + 1))) co)), ((ma 1), .inl (k 0, 800, .inl wd)), ((ma 13), .inl (k 1, 36982, .inr (.inl L))), ((ma 16), .inl (k 0, 20, .inl (fun i => nI (NB i))))] (fun (u : Nat → Int64) => lz u (22 * b9 + 19) = lz L (22 * b9 + 21) ∧ (lz u (22 * b9 + v9) = lz L (22 * b9 + 20) ∧ ∀ k9, k9 < 19 → k9 ≠ v9 → lz u (22 * b9 + k9) = lz L (22 * b9 + k9)) ∧ ∀ x, x < 22 * b9 ∨ 22 * b9 + 20 ≤ x → lz u x = lz L x) (fun u => [(h0, .inr (8, moL ma (va_up (va_up iv 17 (nI n9)) 18 (nI (NB n9))) co)), ((ma 1), .inl (k 0, 800, .inl wd)), ((ma 13), .inl (k 1, 36982, .inr (.inl u))), ((ma 16), .inl (k 0, 20, .inl (fun i => nI (NB i))))]) 0 0 := by
  refine met_start (by decide) (Nat.le_of_ble_eq_true rfl) ?_
  intro p e s m below meth c C K hA hsz S ls hl
  generalize va_A [(h0, .inr (8, moL ma (va_up iv 17 (nI (n9 + 1))) co)), ((ma 1), .inl (k 0, 800, .inl wd)), ((ma 13), .inl (k 1, 36982, .inr (.inl L))), ((ma 16), .inl (k 0, 20, .inl (fun i => nI (NB i))))] s0 = A at hA S ⊢
  have hx := C.1
  have hb := C.2.1
  have hl : lv_has ls 8 [(0, .ref h0), (1, .int (nI f9)), (2, .int (nI b9)), (3, .int (nI p9)), (4, .int (nI kn))] := hl
  refine lv_sipush (v := 200) hx hb d_Mo_firstOf_0 (by decide) ?_
  refine lv_iload_n hx hb d_Mo_firstOf_3 rfl (lv_at hl 1 rfl) ?_
  refine z_imul (x := 200) (y := nI f9) (v := nI (200 * f9)) hx hb d_Mo_firstOf_4 (pk_mul 200 f9) ?_
  refine lv_iload_n hx hb d_Mo_firstOf_5 rfl (lv_at hl 3 rfl) ?_
  refine z_iadd (x := nI (200 * f9)) (y := nI p9) (v := nI (200 * f9 + p9)) hx hb d_Mo_firstOf_6 (nI_add (200 * f9) p9) ?_
  refine lv_istore (lv' := [(5, .int (nI (200 * f9 + p9))), (0, .ref h0), (1, .int (nI f9)), (2, .int (nI b9)), (3, .int (nI p9)), (4, .int (nI kn))]) hx hb d_Mo_firstOf_7 hl (by decide) rfl (fun ls hl => ?_)
  refine lv_aload_n hx hb d_Mo_firstOf_9 rfl (lv_at hl 1 rfl) ?_
  refine r_get C K S 0 rfl rfl clOk_Mo 2 (by decide) wf_Mo_13 (v := .ref (ma 1)) rfl d_Mo_firstOf_10 ?_
  refine lv_iload hx hb d_Mo_firstOf_13 (lv_at hl 0 rfl) ?_
  refine r_iald C K S 1 rfl (i := nI (200 * f9 + p9)) (show vp_in (nI (200 * f9 + p9)) _ from vp_in_nI (n := (200 * f9 + p9)) (by omega) (by decide)) (v := wdF wd f9 p9) (by rw [nI_clamp (by omega)]; exact (show wd (200 * f9 + p9) = wd (200 * f9 + p9) from congrArg wd (by omega))) d_Mo_firstOf_15 ?_
  refine lv_istore (lv' := [(6, .int (wdF wd f9 p9)), (5, .int (nI (200 * f9 + p9))), (0, .ref h0), (1, .int (nI f9)), (2, .int (nI b9)), (3, .int (nI p9)), (4, .int (nI kn))]) hx hb d_Mo_firstOf_16 hl (by decide) rfl (fun ls hl => ?_)
  refine lv_iload hx hb d_Mo_firstOf_18 (lv_at hl 0 rfl) ?_
  refine lv_iconst (v := 2) hx hb d_Mo_firstOf_20 (by decide) ?_
  refine lv_icmp_ne (tgt := 40) hx hb d_Mo_firstOf_21 (by decide) (fun _ => ?_) (fun hq => absurd hq (by rw [hk]; decide))
  refine lv_iload hx hb d_Mo_firstOf_40 (lv_at hl 0 rfl) ?_
  refine lv_iconst (v := 2) hx hb d_Mo_firstOf_42 (by decide) ?_
  refine lv_icmp_ne (tgt := 52) hx hb d_Mo_firstOf_43 (by decide) (fun _ => ?_) (fun hq => absurd hq (by rw [hk]; decide))
  refine lv_iload hx hb d_Mo_firstOf_52 (lv_at hl 0 rfl) ?_
  refine lv_bipush (v := 6) hx hb d_Mo_firstOf_54 (by decide) ?_
  refine lv_icmp_ne (tgt := 71) hx hb d_Mo_firstOf_56 (by decide) (fun _ => ?_) (fun hq => absurd hq (by rw [hk]; decide))
  refine lv_iload_n hx hb d_Mo_firstOf_71 rfl (lv_at hl 5 rfl) ?_
  refine lv_iconst (v := 2) hx hb d_Mo_firstOf_72 (by decide) ?_
  refine z_iadd (x := nI p9) (y := 2) (v := nI (p9 + 2)) hx hb d_Mo_firstOf_73 (nI_add p9 2) ?_
  refine lv_istore (lv' := [(7, .int (nI (p9 + 2))), (6, .int (wdF wd f9 p9)), (5, .int (nI (200 * f9 + p9))), (0, .ref h0), (1, .int (nI f9)), (2, .int (nI b9)), (3, .int (nI p9)), (4, .int (nI kn))]) hx hb d_Mo_firstOf_74 hl (by decide) rfl (fun ls hl => ?_)
  refine lv_iload hx hb d_Mo_firstOf_76 (lv_at hl 1 rfl) ?_
  refine lv_iconst (v := 2) hx hb d_Mo_firstOf_78 (by decide) ?_
  refine lv_icmp_eq (tgt := 101) hx hb d_Mo_firstOf_79 (by decide) (fun hq => absurd hq (by rw [hk]; decide)) (fun _ => ?_)
  refine lv_iload hx hb d_Mo_firstOf_82 (lv_at hl 1 rfl) ?_
  refine lv_iconst (v := 3) hx hb d_Mo_firstOf_84 (by decide) ?_
  refine lv_icmp_eq (tgt := 101) hx hb d_Mo_firstOf_85 (by decide) (fun hq => absurd hq (by rw [hk]; decide)) (fun _ => ?_)
  refine lv_iload hx hb d_Mo_firstOf_88 (lv_at hl 1 rfl) ?_
  refine lv_iconst (v := 4) hx hb d_Mo_firstOf_90 (by decide) ?_
  refine lv_icmp_eq (tgt := 101) hx hb d_Mo_firstOf_91 (by decide) (fun hq => absurd hq (by rw [hk]; decide)) (fun _ => ?_)
  refine lv_iload hx hb d_Mo_firstOf_94 (lv_at hl 1 rfl) ?_
  refine lv_bipush (v := 6) hx hb d_Mo_firstOf_96 (by decide) ?_
  refine lv_icmp_ne (tgt := 136) hx hb d_Mo_firstOf_98 (by decide) (fun _ => ?_) (fun hq => absurd hq (by rw [hk]; decide))
  refine lv_iload hx hb d_Mo_firstOf_136 (lv_at hl 1 rfl) ?_
  refine lv_iconst (v := 5) hx hb d_Mo_firstOf_138 (by decide) ?_
  refine lv_icmp_ne (tgt := 161) hx hb d_Mo_firstOf_139 (by decide) (fun _ => ?_) (fun hq => absurd hq (by rw [hk]; decide))
  refine lv_aload_n hx hb d_Mo_firstOf_161 rfl (lv_at hl 3 rfl) ?_
  refine lv_iload_n hx hb d_Mo_firstOf_162 rfl (lv_at hl 5 rfl) ?_
  refine lv_bipush (v := 21) hx hb d_Mo_firstOf_163 (by decide) ?_
  refine r_backi (wi := []) (wr := [(h0, .inr (8, moL ma (va_up iv 17 (nI (n9 + 1))) co)), ((ma 1), .inl (k 0, 800, .inl wd)), ((ma 13), .inl (k 1, 36982, .inr (.inl L))), ((ma 16), .inl (k 0, 20, .inl (fun i => nI (NB i))))]) S hA [] [0, 1, 2, 3] rfl rfl (by decide) (by decide) (va_runS (As := [.int (nI b9), .int 21]) (rest := [.ref h0]) ⟨hx, hb, C.2.2.1, C.2.2.2.1, C.2.2.2.2.1⟩ (g_Mo_line l G k _ b9 21) (k_stat (n := 2) C wc_Mo_line rfl rfl wz_Mo wm_Mo_211 wt_Mo_line (by decide +kernel) ⟨(Nat.le_of_ble_eq_true rfl), (Nat.le_of_ble_eq_true rfl)⟩) (pr_now K S [] (by decide) rfl) rfl rfl hl.1 rfl (lv_room (Nat.le_of_ble_eq_true rfl)) d_Mo_firstOf_165 ⟨(Nat.le_of_ble_eq_true rfl), (Nat.le_of_ble_eq_true rfl)⟩) (fun r3 u1 H locs hw2 S => ?_)
  have S : Sw G A s.heap _ _ [(h0, .inr (8, moL ma (va_up iv 17 (nI (n9 + 1))) co)), ((ma 1), .inl (k 0, 800, .inl wd)), ((ma 13), .inl (k 1, 36982, .inr (.inl L))), ((ma 16), .inl (k 0, 20, .inl (fun i => nI (NB i))))] := S
  obtain rfl : r3 = nI ((22 * b9 + 21) * 41) := hw2
  refine lv_iload_n hx hb d_Mo_firstOf_168 rfl (lv_at hl 5 rfl) ?_
  refine lv_bipush (v := 19) hx hb d_Mo_firstOf_169 (by decide) ?_
  refine r_backi (wi := []) (wr := [(h0, .inr (8, moL ma (va_up iv 17 (nI (n9 + 1))) co)), ((ma 1), .inl (k 0, 800, .inl wd)), ((ma 13), .inl (k 1, 36982, .inr (.inl L))), ((ma 16), .inl (k 0, 20, .inl (fun i => nI (NB i))))]) S hA [] [0, 1, 2, 3] rfl rfl (by decide) (by decide) (va_runS (As := [.int (nI b9), .int 19]) (rest := [.int (nI ((22 * b9 + 21) * 41)), .ref h0]) ⟨hx, hb, C.2.2.1, C.2.2.2.1, C.2.2.2.2.1⟩ (g_Mo_line l G k _ b9 19) (k_stat (n := 2) C wc_Mo_line rfl rfl wz_Mo wm_Mo_211 wt_Mo_line (by decide +kernel) ⟨(Nat.le_of_ble_eq_true rfl), (Nat.le_of_ble_eq_true rfl)⟩) (pr_now K S [] (by decide) rfl) rfl rfl hl.1 rfl (lv_room (Nat.le_of_ble_eq_true rfl)) d_Mo_firstOf_171 ⟨(Nat.le_of_ble_eq_true rfl), (Nat.le_of_ble_eq_true rfl)⟩) (fun r7 u5 H locs hw6 S => ?_)
  have S : Sw G A s.heap _ _ [(h0, .inr (8, moL ma (va_up iv 17 (nI (n9 + 1))) co)), ((ma 1), .inl (k 0, 800, .inl wd)), ((ma 13), .inl (k 1, 36982, .inr (.inl L))), ((ma 16), .inl (k 0, 20, .inl (fun i => nI (NB i))))] := S
  obtain rfl : r7 = nI ((22 * b9 + 19) * 41) := hw6
  refine r_backv (wi := [(h0, .inr (8, moL ma (va_up iv 17 (nI (n9 + 1))) co)), ((ma 13), .inl (k 1, 36982, .inr (.inl L)))]) (wr := [((ma 1), .inl (k 0, 800, .inl wd)), ((ma 16), .inl (k 0, 20, .inl (fun i => nI (NB i))))]) S hA [0, 2] [1, 3] rfl rfl (by decide) (by decide) (va_runV (As := [.int (nI ((22 * b9 + 21) * 41)), .int (nI ((22 * b9 + 19) * 41))]) (rest := []) ⟨hx, hb, C.2.2.1, C.2.2.2.1, C.2.2.2.2.1⟩ (g_Mo_copy l G k h0 _ ma (va_up iv 17 (nI (n9 + 1))) co L ((22 * b9 + 21) * 41) ((22 * b9 + 19) * 41) (by omega) (by omega) (by omega)) (k_virt (n := 2) C wc_Mo_copy rfl rfl wz_Mo wm_Mo_218 wn_Mo_copy ws_Mo_copy (by decide +kernel) ⟨(Nat.le_of_ble_eq_true rfl), (Nat.le_of_ble_eq_true rfl)⟩) (pr_nowV K S [0, 2] (by decide) rfl 0 rfl rfl) rfl rfl hl.1 rfl (lv_room (Nat.le_of_ble_eq_true rfl)) d_Mo_firstOf_174 ⟨(Nat.le_of_ble_eq_true rfl), (Nat.le_of_ble_eq_true rfl)⟩) (fun u9 H locs hw10 S => ?_)
  have S : Sw G A s.heap _ _ [((ma 1), .inl (k 0, 800, .inl wd)), ((ma 16), .inl (k 0, 20, .inl (fun i => nI (NB i)))), (h0, .inr (8, moL ma (va_up iv 17 (nI (n9 + 1))) co)), ((ma 13), .inl (k 1, 36982, .inr (.inl (lnP L ((22 * b9 + 21) * 41) ((22 * b9 + 19) * 41) 41))))] := S
  refine lv_iload hx hb d_Mo_firstOf_177 (lv_at hl 1 rfl) ?_
  refine lv_iconst (v := 1) hx hb d_Mo_firstOf_179 (by decide) ?_
  refine lv_icmp_ne (tgt := 206) hx hb d_Mo_firstOf_180 (by decide) (fun hq => absurd hk hq) (fun _ => ?_)
  refine lv_aload_n hx hb d_Mo_firstOf_183 rfl (lv_at hl 3 rfl) ?_
  refine lv_iload_n hx hb d_Mo_firstOf_184 rfl (lv_at hl 5 rfl) ?_
  refine lv_bipush (v := 20) hx hb d_Mo_firstOf_185 (by decide) ?_
  refine r_backi (wi := []) (wr := [((ma 1), .inl (k 0, 800, .inl wd)), ((ma 16), .inl (k 0, 20, .inl (fun i => nI (NB i)))), (h0, .inr (8, moL ma (va_up iv 17 (nI (n9 + 1))) co)), ((ma 13), .inl (k 1, 36982, .inr (.inl (lnP L ((22 * b9 + 21) * 41) ((22 * b9 + 19) * 41) 41))))]) S hA [] [0, 1, 2, 3] rfl rfl (by decide) (by decide) (va_runS (As := [.int (nI b9), .int 20]) (rest := [.ref h0]) ⟨hx, hb, C.2.2.1, C.2.2.2.1, C.2.2.2.2.1⟩ (g_Mo_line l G k _ b9 20) (k_stat (n := 2) C wc_Mo_line rfl rfl wz_Mo wm_Mo_211 wt_Mo_line (by decide +kernel) ⟨(Nat.le_of_ble_eq_true rfl), (Nat.le_of_ble_eq_true rfl)⟩) (pr_now K S [] (by decide) rfl) rfl rfl hl.1 rfl (lv_room (Nat.le_of_ble_eq_true rfl)) d_Mo_firstOf_187 ⟨(Nat.le_of_ble_eq_true rfl), (Nat.le_of_ble_eq_true rfl)⟩) (fun r13 u11 H locs hw12 S => ?_)
  have S : Sw G A s.heap _ _ [((ma 1), .inl (k 0, 800, .inl wd)), ((ma 16), .inl (k 0, 20, .inl (fun i => nI (NB i)))), (h0, .inr (8, moL ma (va_up iv 17 (nI (n9 + 1))) co)), ((ma 13), .inl (k 1, 36982, .inr (.inl (lnP L ((22 * b9 + 21) * 41) ((22 * b9 + 19) * 41) 41))))] := S
  obtain rfl : r13 = nI ((22 * b9 + 20) * 41) := hw12
  refine lv_iload_n hx hb d_Mo_firstOf_190 rfl (lv_at hl 5 rfl) ?_
  refine lv_aload_n hx hb d_Mo_firstOf_191 rfl (lv_at hl 3 rfl) ?_
  refine r_get C K S 2 rfl rfl clOk_Mo 2 (by decide) wf_Mo_13 (v := .ref (ma 1)) rfl d_Mo_firstOf_192 ?_
  refine lv_iload hx hb d_Mo_firstOf_195 (lv_at hl 2 rfl) ?_
  refine lv_iconst (v := 1) hx hb d_Mo_firstOf_197 (by decide) ?_
  refine z_iadd (x := nI (200 * f9 + p9)) (y := 1) (v := nI (200 * f9 + p9 + 1)) hx hb d_Mo_firstOf_198 (nI_add (200 * f9 + p9) 1) ?_
  refine r_iald C K S 0 rfl (i := nI (200 * f9 + p9 + 1)) (show vp_in (nI (200 * f9 + p9 + 1)) _ from vp_in_nI (n := (200 * f9 + p9 + 1)) (by omega) (by decide)) (v := wdF wd f9 (p9 + 1)) (by rw [nI_clamp (by omega)]; exact (show wd (200 * f9 + p9 + 1) = wd (200 * f9 + (p9 + 1)) from congrArg wd (by omega))) d_Mo_firstOf_199 ?_
  rw [hv]
  refine r_backi (wi := []) (wr := [((ma 1), .inl (k 0, 800, .inl wd)), ((ma 16), .inl (k 0, 20, .inl (fun i => nI (NB i)))), (h0, .inr (8, moL ma (va_up iv 17 (nI (n9 + 1))) co)), ((ma 13), .inl (k 1, 36982, .inr (.inl (lnP L ((22 * b9 + 21) * 41) ((22 * b9 + 19) * 41) 41))))]) S hA [] [0, 1, 2, 3] rfl rfl (by decide) (by decide) (va_runS (As := [.int (nI b9), .int (nI v9)]) (rest := [.int (nI ((22 * b9 + 20) * 41)), .ref h0]) ⟨hx, hb, C.2.2.1, C.2.2.2.1, C.2.2.2.2.1⟩ (g_Mo_line l G k _ b9 v9) (k_stat (n := 2) C wc_Mo_line rfl rfl wz_Mo wm_Mo_211 wt_Mo_line (by decide +kernel) ⟨(Nat.le_of_ble_eq_true rfl), (Nat.le_of_ble_eq_true rfl)⟩) (pr_now K S [] (by decide) rfl) rfl rfl hl.1 rfl (lv_room (Nat.le_of_ble_eq_true rfl)) d_Mo_firstOf_200 ⟨(Nat.le_of_ble_eq_true rfl), (Nat.le_of_ble_eq_true rfl)⟩) (fun r17 u15 H locs hw16 S => ?_)
  have S : Sw G A s.heap _ _ [((ma 1), .inl (k 0, 800, .inl wd)), ((ma 16), .inl (k 0, 20, .inl (fun i => nI (NB i)))), (h0, .inr (8, moL ma (va_up iv 17 (nI (n9 + 1))) co)), ((ma 13), .inl (k 1, 36982, .inr (.inl (lnP L ((22 * b9 + 21) * 41) ((22 * b9 + 19) * 41) 41))))] := S
  obtain rfl : r17 = nI ((22 * b9 + v9) * 41) := hw16
  refine r_backv (wi := [(h0, .inr (8, moL ma (va_up iv 17 (nI (n9 + 1))) co)), ((ma 13), .inl (k 1, 36982, .inr (.inl (lnP L ((22 * b9 + 21) * 41) ((22 * b9 + 19) * 41) 41))))]) (wr := [((ma 1), .inl (k 0, 800, .inl wd)), ((ma 16), .inl (k 0, 20, .inl (fun i => nI (NB i))))]) S hA [2, 3] [0, 1] rfl rfl (by decide) (by decide) (va_runV (As := [.int (nI ((22 * b9 + 20) * 41)), .int (nI ((22 * b9 + v9) * 41))]) (rest := []) ⟨hx, hb, C.2.2.1, C.2.2.2.1, C.2.2.2.2.1⟩ (g_Mo_copy l G k h0 _ ma (va_up iv 17 (nI (n9 + 1))) co (lnP L ((22 * b9 + 21) * 41) ((22 * b9 + 19) * 41) 41) ((22 * b9 + 20) * 41) ((22 * b9 + v9) * 41) (by omega) (by omega) (by omega)) (k_virt (n := 2) C wc_Mo_copy rfl rfl wz_Mo wm_Mo_218 wn_Mo_copy ws_Mo_copy (by decide +kernel) ⟨(Nat.le_of_ble_eq_true rfl), (Nat.le_of_ble_eq_true rfl)⟩) (pr_nowV K S [2, 3] (by decide) rfl 2 rfl rfl) rfl rfl hl.1 rfl (lv_room (Nat.le_of_ble_eq_true rfl)) d_Mo_firstOf_203 ⟨(Nat.le_of_ble_eq_true rfl), (Nat.le_of_ble_eq_true rfl)⟩) (fun u19 H locs hw20 S => ?_)
  have S : Sw G A s.heap _ _ [((ma 1), .inl (k 0, 800, .inl wd)), ((ma 16), .inl (k 0, 20, .inl (fun i => nI (NB i)))), (h0, .inr (8, moL ma (va_up iv 17 (nI (n9 + 1))) co)), ((ma 13), .inl (k 1, 36982, .inr (.inl (lnP (lnP L ((22 * b9 + 21) * 41) ((22 * b9 + 19) * 41) 41) ((22 * b9 + 20) * 41) ((22 * b9 + v9) * 41) 41))))] := S
  refine lv_aload_n hx hb d_Mo_firstOf_206 rfl (lv_at hl 3 rfl) ?_
  refine r_backv (wi := [(h0, .inr (8, moL ma (va_up iv 17 (nI (n9 + 1))) co)), ((ma 16), .inl (k 0, 20, .inl (fun i => nI (NB i))))]) (wr := [((ma 1), .inl (k 0, 800, .inl wd)), ((ma 13), .inl (k 1, 36982, .inr (.inl (lnP (lnP L ((22 * b9 + 21) * 41) ((22 * b9 + 19) * 41) 41) ((22 * b9 + 20) * 41) ((22 * b9 + v9) * 41) 41))))]) S hA [2, 1] [0, 3] rfl rfl (by decide) (by decide) (va_runV (As := []) (rest := []) ⟨hx, hb, C.2.2.1, C.2.2.2.1, C.2.2.2.2.1⟩ (g_Mo_endNeed l G k h0 _ n9 ma iv co NB hn) (k_virt (n := 0) C wc_Mo_endNeed rfl rfl wz_Mo wm_Mo_238 wn_Mo_endNeed ws_Mo_endNeed (by decide +kernel) ⟨(Nat.le_of_ble_eq_true rfl), (Nat.le_of_ble_eq_true rfl)⟩) (pr_nowV K S [2, 1] (by decide) rfl 2 rfl rfl) rfl rfl hl.1 rfl (lv_room (Nat.le_of_ble_eq_true rfl)) d_Mo_firstOf_207 ⟨(Nat.le_of_ble_eq_true rfl), (Nat.le_of_ble_eq_true rfl)⟩) (fun u21 H locs hw22 S => ?_)
  have S : Sw G A s.heap _ _ [((ma 1), .inl (k 0, 800, .inl wd)), ((ma 13), .inl (k 1, 36982, .inr (.inl (lnP (lnP L ((22 * b9 + 21) * 41) ((22 * b9 + 19) * 41) 41) ((22 * b9 + 20) * 41) ((22 * b9 + v9) * 41) 41)))), (h0, .inr (8, moL ma (va_up (va_up iv 17 (nI n9)) 18 (nI (NB n9))) co)), ((ma 16), .inl (k 0, 20, .inl (fun i => nI (NB i))))] := S
  exact r_vret C K (lnP (lnP L ((22 * b9 + 21) * 41) ((22 * b9 + 19) * 41) 41) ((22 * b9 + 20) * 41) ((22 * b9 + v9) * 41) 41) ⟨by rw [lz_P_ne (by omega), lz_P], ⟨by rw [lz_P, lz_P_ne (by omega)], fun k9 hk hne => by rw [lz_P_ne (by omega), lz_P_ne (by omega)]⟩, fun x hx => by rw [lz_P_ne (by omega), lz_P_ne (by omega)]⟩ (S.sub [2, 0, 1, 3] (by decide) rfl) d_Mo_firstOf_210 (Nat.le_of_ble_eq_true rfl) (Nat.le_of_ble_eq_true rfl)
set_option maxRecDepth 100000 in
set_option maxHeartbeats 16000000 in
/-- firstOf, a call -/
theorem g_Mo_firstOf_5 (l : Launch) (G : va_G) (k : Nat → ClassId) (h0 : Nat) (s0 : Nat) (f9 : Nat) (b9 : Nat) (p9 : Nat) (kn : Nat) (n9 : Nat) (g9 : Nat) (un : Nat) (co9 : Nat) (fl : Nat) (ma : Nat → Nat) (iv : Nat → Int32) (co : Int64) (tk : Nat → Nat) (fs : Nat → Nat) (wd : Nat → Int32) (L : Nat → Int64) (sm : Nat → Int64) (NB : Nat → Nat) (hf : f9 < 4) (hbk : b9 < 40) (hn : n9 < 20) (hp : p9 + 2 + tk g9 ≤ 200) (hk : wdF wd f9 p9 = 5) (hg1 : wdF wd f9 (p9 + 1) = nI g9) (hg : g9 < 4) (hvs : ∀ k9, k9 < tk g9 → ∃ v, wdF wd f9 (p9 + 2 + k9) = nI v ∧ v < 19) (hfs : fs g9 + tk g9 + 2 < 40) (hun : un ≤ 9000) (hco : co9 ≤ 9000) (hflo : flO un co9 fl) (hsm : smO co9 sm) (hG : lz L (22 * b9 + 20) ≤ 60000) (hD : lz L (22 * b9 + 21) ≤ 60000) : CV l y_Mo_firstOf c_Mo_firstOf 8 { frames := 3, cells := 0, slots := 0, locals := 72 } [.ref h0, .int (nI f9), .int (nI b9), .int (nI p9), .int (nI kn)] G k s0 [(h0, .inr (8, moL ma (va_up (va_up (va_up (va_up iv 14 (nI un)) 15 (nI co9)) 16 (nI fl)) 17 (nI (n9 + 1))) co)), ((ma 0), .inl (k 0, 4, .inl (fun i => nI (tk i)))), ((ma 1), .inl (k 0, 800, .inl wd)), ((ma 14), .inl (k 0, 4, .inl (fun i => nI (fs i)))), ((ma 13), .inl (k 1, 36982, .inr (.inl L))), ((ma 15), .inl (k 1, 3690, .inr (.inl sm))), ((ma 16), .inl (k 0, 20, .inl (fun i => nI (NB i))))] (fun (u : (Nat → Int64) × (Nat → Int64) × Nat) => flO (un + 1) (co9 + 3) u.2.2 ∧ smO (co9 + 3) u.2.1 ∧ lz u.1 (22 * b9 + 19) ≤ lz L (22 * b9 + 19) + 1 ∧ tn u.1 b9 ≤ tn L b9 + tk g9 ∧ ∀ x, x < 22 * b9 ∨ 22 * b9 + 20 ≤ x → lz u.1 x = lz L x) (fun u => [(h0, .inr (8, moL ma (va_up (va_up (va_up (va_up (va_up iv 14 (nI (un + 1))) 15 (nI (co9 + 3))) 16 (nI u.2.2)) 17 (nI n9)) 18 (nI (NB n9))) co)), ((ma 0), .inl (k 0, 4, .inl (fun i => nI (tk i)))), ((ma 1), .inl (k 0, 800, .inl wd)), ((ma 14), .inl (k 0, 4, .inl (fun i => nI (fs i)))), ((ma 13), .inl (k 1, 36982, .inr (.inl u.1))), ((ma 15), .inl (k 1, 3690, .inr (.inl u.2.1))), ((ma 16), .inl (k 0, 20, .inl (fun i => nI (NB i))))]) 0 0 := by
  refine met_start (by decide) (Nat.le_of_ble_eq_true rfl) ?_
  intro p e s m below meth c C K hA hsz S ls hl
  generalize va_A [(h0, .inr (8, moL ma (va_up (va_up (va_up (va_up iv 14 (nI un)) 15 (nI co9)) 16 (nI fl)) 17 (nI (n9 + 1))) co)), ((ma 0), .inl (k 0, 4, .inl (fun i => nI (tk i)))), ((ma 1), .inl (k 0, 800, .inl wd)), ((ma 14), .inl (k 0, 4, .inl (fun i => nI (fs i)))), ((ma 13), .inl (k 1, 36982, .inr (.inl L))), ((ma 15), .inl (k 1, 3690, .inr (.inl sm))), ((ma 16), .inl (k 0, 20, .inl (fun i => nI (NB i))))] s0 = A at hA S ⊢
  have hx := C.1
  have hb := C.2.1
  have hl : lv_has ls 8 [(0, .ref h0), (1, .int (nI f9)), (2, .int (nI b9)), (3, .int (nI p9)), (4, .int (nI kn))] := hl
  refine lv_sipush (v := 200) hx hb d_Mo_firstOf_0 (by decide) ?_
  refine lv_iload_n hx hb d_Mo_firstOf_3 rfl (lv_at hl 1 rfl) ?_
  refine z_imul (x := 200) (y := nI f9) (v := nI (200 * f9)) hx hb d_Mo_firstOf_4 (pk_mul 200 f9) ?_
  refine lv_iload_n hx hb d_Mo_firstOf_5 rfl (lv_at hl 3 rfl) ?_
  refine z_iadd (x := nI (200 * f9)) (y := nI p9) (v := nI (200 * f9 + p9)) hx hb d_Mo_firstOf_6 (nI_add (200 * f9) p9) ?_
  refine lv_istore (lv' := [(5, .int (nI (200 * f9 + p9))), (0, .ref h0), (1, .int (nI f9)), (2, .int (nI b9)), (3, .int (nI p9)), (4, .int (nI kn))]) hx hb d_Mo_firstOf_7 hl (by decide) rfl (fun ls hl => ?_)
  refine lv_aload_n hx hb d_Mo_firstOf_9 rfl (lv_at hl 1 rfl) ?_
  refine r_get C K S 0 rfl rfl clOk_Mo 2 (by decide) wf_Mo_13 (v := .ref (ma 1)) rfl d_Mo_firstOf_10 ?_
  refine lv_iload hx hb d_Mo_firstOf_13 (lv_at hl 0 rfl) ?_
  refine r_iald C K S 2 rfl (i := nI (200 * f9 + p9)) (show vp_in (nI (200 * f9 + p9)) _ from vp_in_nI (n := (200 * f9 + p9)) (by omega) (by decide)) (v := wdF wd f9 p9) (by rw [nI_clamp (by omega)]; exact (show wd (200 * f9 + p9) = wd (200 * f9 + p9) from congrArg wd (by omega))) d_Mo_firstOf_15 ?_
  refine lv_istore (lv' := [(6, .int (wdF wd f9 p9)), (5, .int (nI (200 * f9 + p9))), (0, .ref h0), (1, .int (nI f9)), (2, .int (nI b9)), (3, .int (nI p9)), (4, .int (nI kn))]) hx hb d_Mo_firstOf_16 hl (by decide) rfl (fun ls hl => ?_)
  refine lv_iload hx hb d_Mo_firstOf_18 (lv_at hl 0 rfl) ?_
  refine lv_iconst (v := 2) hx hb d_Mo_firstOf_20 (by decide) ?_
  refine lv_icmp_ne (tgt := 40) hx hb d_Mo_firstOf_21 (by decide) (fun _ => ?_) (fun hq => absurd hq (by rw [hk]; decide))
  refine lv_iload hx hb d_Mo_firstOf_40 (lv_at hl 0 rfl) ?_
  refine lv_iconst (v := 2) hx hb d_Mo_firstOf_42 (by decide) ?_
  refine lv_icmp_ne (tgt := 52) hx hb d_Mo_firstOf_43 (by decide) (fun _ => ?_) (fun hq => absurd hq (by rw [hk]; decide))
  refine lv_iload hx hb d_Mo_firstOf_52 (lv_at hl 0 rfl) ?_
  refine lv_bipush (v := 6) hx hb d_Mo_firstOf_54 (by decide) ?_
  refine lv_icmp_ne (tgt := 71) hx hb d_Mo_firstOf_56 (by decide) (fun _ => ?_) (fun hq => absurd hq (by rw [hk]; decide))
  refine lv_iload_n hx hb d_Mo_firstOf_71 rfl (lv_at hl 5 rfl) ?_
  refine lv_iconst (v := 2) hx hb d_Mo_firstOf_72 (by decide) ?_
  refine z_iadd (x := nI p9) (y := 2) (v := nI (p9 + 2)) hx hb d_Mo_firstOf_73 (nI_add p9 2) ?_
  refine lv_istore (lv' := [(7, .int (nI (p9 + 2))), (6, .int (wdF wd f9 p9)), (5, .int (nI (200 * f9 + p9))), (0, .ref h0), (1, .int (nI f9)), (2, .int (nI b9)), (3, .int (nI p9)), (4, .int (nI kn))]) hx hb d_Mo_firstOf_74 hl (by decide) rfl (fun ls hl => ?_)
  refine lv_iload hx hb d_Mo_firstOf_76 (lv_at hl 1 rfl) ?_
  refine lv_iconst (v := 2) hx hb d_Mo_firstOf_78 (by decide) ?_
  refine lv_icmp_eq (tgt := 101) hx hb d_Mo_firstOf_79 (by decide) (fun hq => absurd hq (by rw [hk]; decide)) (fun _ => ?_)
  refine lv_iload hx hb d_Mo_firstOf_82 (lv_at hl 1 rfl) ?_
  refine lv_iconst (v := 3) hx hb d_Mo_firstOf_84 (by decide) ?_
  refine lv_icmp_eq (tgt := 101) hx hb d_Mo_firstOf_85 (by decide) (fun hq => absurd hq (by rw [hk]; decide)) (fun _ => ?_)
  refine lv_iload hx hb d_Mo_firstOf_88 (lv_at hl 1 rfl) ?_
  refine lv_iconst (v := 4) hx hb d_Mo_firstOf_90 (by decide) ?_
  refine lv_icmp_eq (tgt := 101) hx hb d_Mo_firstOf_91 (by decide) (fun hq => absurd hq (by rw [hk]; decide)) (fun _ => ?_)
  refine lv_iload hx hb d_Mo_firstOf_94 (lv_at hl 1 rfl) ?_
  refine lv_bipush (v := 6) hx hb d_Mo_firstOf_96 (by decide) ?_
  refine lv_icmp_ne (tgt := 136) hx hb d_Mo_firstOf_98 (by decide) (fun _ => ?_) (fun hq => absurd hq (by rw [hk]; decide))
  refine lv_iload hx hb d_Mo_firstOf_136 (lv_at hl 1 rfl) ?_
  refine lv_iconst (v := 5) hx hb d_Mo_firstOf_138 (by decide) ?_
  refine lv_icmp_ne (tgt := 161) hx hb d_Mo_firstOf_139 (by decide) (fun hq => absurd hk hq) (fun _ => ?_)
  refine lv_aload_n hx hb d_Mo_firstOf_142 rfl (lv_at hl 3 rfl) ?_
  refine lv_iload_n hx hb d_Mo_firstOf_143 rfl (lv_at hl 5 rfl) ?_
  refine lv_iload hx hb d_Mo_firstOf_144 (lv_at hl 2 rfl) ?_
  refine lv_aload_n hx hb d_Mo_firstOf_146 rfl (lv_at hl 3 rfl) ?_
  refine r_get C K S 0 rfl rfl clOk_Mo 2 (by decide) wf_Mo_13 (v := .ref (ma 1)) rfl d_Mo_firstOf_147 ?_
  refine lv_iload hx hb d_Mo_firstOf_150 (lv_at hl 2 rfl) ?_
  refine lv_iconst (v := 1) hx hb d_Mo_firstOf_152 (by decide) ?_
  refine z_iadd (x := nI (200 * f9 + p9)) (y := 1) (v := nI (200 * f9 + p9 + 1)) hx hb d_Mo_firstOf_153 (nI_add (200 * f9 + p9) 1) ?_
  refine r_iald C K S 2 rfl (i := nI (200 * f9 + p9 + 1)) (show vp_in (nI (200 * f9 + p9 + 1)) _ from vp_in_nI (n := (200 * f9 + p9 + 1)) (by omega) (by decide)) (v := wdF wd f9 (p9 + 1)) (by rw [nI_clamp (by omega)]; exact (show wd (200 * f9 + p9 + 1) = wd (200 * f9 + (p9 + 1)) from congrArg wd (by omega))) d_Mo_firstOf_154 ?_
  rw [hg1]
  refine r_backv (wi := [(h0, .inr (8, moL ma (va_up (va_up (va_up (va_up iv 17 (nI (n9 + 1))) 14 (nI un)) 15 (nI co9)) 16 (nI fl)) co)), ((ma 0), .inl (k 0, 4, .inl (fun i => nI (tk i)))), ((ma 1), .inl (k 0, 800, .inl wd)), ((ma 14), .inl (k 0, 4, .inl (fun i => nI (fs i)))), ((ma 13), .inl (k 1, 36982, .inr (.inl L))), ((ma 15), .inl (k 1, 3690, .inr (.inl sm)))]) (wr := [((ma 16), .inl (k 0, 20, .inl (fun i => nI (NB i))))]) S hA [0, 1, 2, 3, 4, 5] [6] rfl rfl (by decide) (by decide) (va_runV (As := [.int (nI b9), .int (nI (200 * f9 + p9)), .int (nI g9)]) (rest := []) ⟨hx, hb, C.2.2.1, C.2.2.2.1, C.2.2.2.2.1⟩ (g_Mo_needCall l G k h0 _ b9 f9 p9 g9 un co9 fl ma (va_up iv 17 (nI (n9 + 1))) co tk fs wd L sm hbk hf hp hg hvs hfs hun hco (flO_le hflo) hsm hG hD) (k_virt (n := 3) C wc_Mo_needCall rfl rfl wz_Mo wm_Mo_234 wn_Mo_needCall ws_Mo_needCall (by decide +kernel) ⟨(Nat.le_of_ble_eq_true rfl), (Nat.le_of_ble_eq_true rfl)⟩) (pr_nowV K S [0, 1, 2, 3, 4, 5] (by decide) rfl 0 rfl rfl) rfl rfl hl.1 rfl (lv_room (Nat.le_of_ble_eq_true rfl)) d_Mo_firstOf_155 ⟨(Nat.le_of_ble_eq_true rfl), (Nat.le_of_ble_eq_true rfl)⟩) (fun nu H locs hw1 S => ?_)
  have S : Sw G A s.heap _ _ [((ma 16), .inl (k 0, 20, .inl (fun i => nI (NB i)))), (h0, .inr (8, moL ma (va_up (va_up (va_up (va_up iv 17 (nI (n9 + 1))) 14 (nI (un + 1))) 15 (nI (co9 + 3))) 16 (nI (fcN (co9 + 2) (fcN (co9 + 1) (fcN co9 (fuN un fl)))))) co)), ((ma 0), .inl (k 0, 4, .inl (fun i => nI (tk i)))), ((ma 1), .inl (k 0, 800, .inl wd)), ((ma 14), .inl (k 0, 4, .inl (fun i => nI (fs i)))), ((ma 13), .inl (k 1, 36982, .inr (.inl nu.1))), ((ma 15), .inl (k 1, 3690, .inr (.inl nu.2)))] := S
  have hnu := hw1
  refine lv_goto (tgt := 206) hx hb d_Mo_firstOf_158 (by decide) ?_
  refine lv_aload_n hx hb d_Mo_firstOf_206 rfl (lv_at hl 3 rfl) ?_
  refine r_backv (wi := [(h0, .inr (8, moL ma (va_up (va_up (va_up (va_up iv 14 (nI (un + 1))) 15 (nI (co9 + 3))) 16 (nI (fcN (co9 + 2) (fcN (co9 + 1) (fcN co9 (fuN un fl)))))) 17 (nI (n9 + 1))) co)), ((ma 16), .inl (k 0, 20, .inl (fun i => nI (NB i))))]) (wr := [((ma 0), .inl (k 0, 4, .inl (fun i => nI (tk i)))), ((ma 1), .inl (k 0, 800, .inl wd)), ((ma 14), .inl (k 0, 4, .inl (fun i => nI (fs i)))), ((ma 13), .inl (k 1, 36982, .inr (.inl nu.1))), ((ma 15), .inl (k 1, 3690, .inr (.inl nu.2)))]) S hA [1, 0] [2, 3, 4, 5, 6] rfl rfl (by decide) (by decide) (va_runV (As := []) (rest := []) ⟨hx, hb, C.2.2.1, C.2.2.2.1, C.2.2.2.2.1⟩ (g_Mo_endNeed l G k h0 _ n9 ma (va_up (va_up (va_up iv 14 (nI (un + 1))) 15 (nI (co9 + 3))) 16 (nI (fcN (co9 + 2) (fcN (co9 + 1) (fcN co9 (fuN un fl)))))) co NB hn) (k_virt (n := 0) C wc_Mo_endNeed rfl rfl wz_Mo wm_Mo_238 wn_Mo_endNeed ws_Mo_endNeed (by decide +kernel) ⟨(Nat.le_of_ble_eq_true rfl), (Nat.le_of_ble_eq_true rfl)⟩) (pr_nowV K S [1, 0] (by decide) rfl 1 rfl rfl) rfl rfl hl.1 rfl (lv_room (Nat.le_of_ble_eq_true rfl)) d_Mo_firstOf_207 ⟨(Nat.le_of_ble_eq_true rfl), (Nat.le_of_ble_eq_true rfl)⟩) (fun u2 H locs hw3 S => ?_)
  have S : Sw G A s.heap _ _ [((ma 0), .inl (k 0, 4, .inl (fun i => nI (tk i)))), ((ma 1), .inl (k 0, 800, .inl wd)), ((ma 14), .inl (k 0, 4, .inl (fun i => nI (fs i)))), ((ma 13), .inl (k 1, 36982, .inr (.inl nu.1))), ((ma 15), .inl (k 1, 3690, .inr (.inl nu.2))), (h0, .inr (8, moL ma (va_up (va_up (va_up (va_up (va_up iv 14 (nI (un + 1))) 15 (nI (co9 + 3))) 16 (nI (fcN (co9 + 2) (fcN (co9 + 1) (fcN co9 (fuN un fl)))))) 17 (nI n9)) 18 (nI (NB n9))) co)), ((ma 16), .inl (k 0, 20, .inl (fun i => nI (NB i))))] := S
  exact r_vret C K (nu.1, nu.2, fcN (co9 + 2) (fcN (co9 + 1) (fcN co9 (fuN un fl)))) ⟨flO_c (flO_c (flO_c (flO_u hflo))), hnu⟩ (S.sub [5, 0, 1, 2, 3, 4, 6] (by decide) rfl) d_Mo_firstOf_210 (Nat.le_of_ble_eq_true rfl) (Nat.le_of_ble_eq_true rfl)
theorem d_Mo_secondOf_0 : decode c_Mo_secondOf 0 = .ok (.sipush 200, 3) := by decide +kernel
theorem d_Mo_secondOf_3 : decode c_Mo_secondOf 3 = .ok (.iload_n 1, 1) := by decide +kernel
theorem d_Mo_secondOf_4 : decode c_Mo_secondOf 4 = .ok (.imul, 1) := by decide +kernel
theorem d_Mo_secondOf_5 : decode c_Mo_secondOf 5 = .ok (.iload_n 3, 1) := by decide +kernel
theorem d_Mo_secondOf_6 : decode c_Mo_secondOf 6 = .ok (.iadd, 1) := by decide +kernel
theorem d_Mo_secondOf_7 : decode c_Mo_secondOf 7 = .ok (.istore 5, 2) := by decide +kernel
theorem d_Mo_secondOf_9 : decode c_Mo_secondOf 9 = .ok (.aload_n 0, 1) := by decide +kernel
theorem d_Mo_secondOf_10 : decode c_Mo_secondOf 10 = .ok (.getfield 13, 3) := by decide +kernel
theorem d_Mo_secondOf_13 : decode c_Mo_secondOf 13 = .ok (.iload 5, 2) := by decide +kernel
theorem d_Mo_secondOf_15 : decode c_Mo_secondOf 15 = .ok (.iaload, 1) := by decide +kernel
theorem d_Mo_secondOf_16 : decode c_Mo_secondOf 16 = .ok (.istore 6, 2) := by decide +kernel
theorem d_Mo_secondOf_18 : decode c_Mo_secondOf 18 = .ok (.aload_n 0, 1) := by decide +kernel
theorem d_Mo_secondOf_19 : decode c_Mo_secondOf 19 = .ok (.getfield 79, 3) := by decide +kernel
theorem d_Mo_secondOf_22 : decode c_Mo_secondOf 22 = .ok (.aload_n 0, 1) := by decide +kernel
theorem d_Mo_secondOf_23 : decode c_Mo_secondOf 23 = .ok (.getfield 221, 3) := by decide +kernel
theorem d_Mo_secondOf_26 : decode c_Mo_secondOf 26 = .ok (.iconst 1, 1) := by decide +kernel
theorem d_Mo_secondOf_27 : decode c_Mo_secondOf 27 = .ok (.isub, 1) := by decide +kernel
theorem d_Mo_secondOf_28 : decode c_Mo_secondOf 28 = .ok (.aload_n 0, 1) := by decide +kernel
theorem d_Mo_secondOf_29 : decode c_Mo_secondOf 29 = .ok (.getfield 241, 3) := by decide +kernel
theorem d_Mo_secondOf_32 : decode c_Mo_secondOf 32 = .ok (.iastore, 1) := by decide +kernel
theorem d_Mo_secondOf_33 : decode c_Mo_secondOf 33 = .ok (.iload 6, 2) := by decide +kernel
theorem d_Mo_secondOf_35 : decode c_Mo_secondOf 35 = .ok (.bipush 6, 2) := by decide +kernel
theorem d_Mo_secondOf_37 : decode c_Mo_secondOf 37 = .ok (.if_icmp .ne 33, 3) := by decide +kernel
theorem d_Mo_secondOf_40 : decode c_Mo_secondOf 40 = .ok (.aload_n 0, 1) := by decide +kernel
theorem d_Mo_secondOf_41 : decode c_Mo_secondOf 41 = .ok (.iload_n 3, 1) := by decide +kernel
theorem d_Mo_secondOf_42 : decode c_Mo_secondOf 42 = .ok (.iconst 1, 1) := by decide +kernel
theorem d_Mo_secondOf_43 : decode c_Mo_secondOf 43 = .ok (.iadd, 1) := by decide +kernel
theorem d_Mo_secondOf_44 : decode c_Mo_secondOf 44 = .ok (.iload 4, 2) := by decide +kernel
theorem d_Mo_secondOf_46 : decode c_Mo_secondOf 46 = .ok (.aload_n 0, 1) := by decide +kernel
theorem d_Mo_secondOf_47 : decode c_Mo_secondOf 47 = .ok (.getfield 241, 3) := by decide +kernel
theorem d_Mo_secondOf_50 : decode c_Mo_secondOf 50 = .ok (.iload 4, 2) := by decide +kernel
theorem d_Mo_secondOf_52 : decode c_Mo_secondOf 52 = .ok (.invokestatic 211, 3) := by decide +kernel
theorem d_Mo_secondOf_55 : decode c_Mo_secondOf 55 = .ok (.aload_n 0, 1) := by decide +kernel
theorem d_Mo_secondOf_56 : decode c_Mo_secondOf 56 = .ok (.getfield 241, 3) := by decide +kernel
theorem d_Mo_secondOf_59 : decode c_Mo_secondOf 59 = .ok (.bipush 19, 2) := by decide +kernel
theorem d_Mo_secondOf_61 : decode c_Mo_secondOf 61 = .ok (.invokestatic 211, 3) := by decide +kernel
theorem d_Mo_secondOf_64 : decode c_Mo_secondOf 64 = .ok (.invokevirtual 230, 3) := by decide +kernel
theorem d_Mo_secondOf_67 : decode c_Mo_secondOf 67 = .ok (.goto 87, 3) := by decide +kernel
theorem d_Mo_secondOf_70 : decode c_Mo_secondOf 70 = .ok (.iload 6, 2) := by decide +kernel
theorem d_Mo_secondOf_72 : decode c_Mo_secondOf 72 = .ok (.iconst 3, 1) := by decide +kernel
theorem d_Mo_secondOf_73 : decode c_Mo_secondOf 73 = .ok (.if_icmp .ne 35, 3) := by decide +kernel
theorem d_Mo_secondOf_76 : decode c_Mo_secondOf 76 = .ok (.aload_n 0, 1) := by decide +kernel
theorem d_Mo_secondOf_77 : decode c_Mo_secondOf 77 = .ok (.aload_n 0, 1) := by decide +kernel
theorem d_Mo_secondOf_78 : decode c_Mo_secondOf 78 = .ok (.getfield 23, 3) := by decide +kernel
theorem d_Mo_secondOf_81 : decode c_Mo_secondOf 81 = .ok (.iload 5, 2) := by decide +kernel
theorem d_Mo_secondOf_83 : decode c_Mo_secondOf 83 = .ok (.iconst 2, 1) := by decide +kernel
theorem d_Mo_secondOf_84 : decode c_Mo_secondOf 84 = .ok (.iadd, 1) := by decide +kernel
theorem d_Mo_secondOf_85 : decode c_Mo_secondOf 85 = .ok (.iaload, 1) := by decide +kernel
theorem d_Mo_secondOf_86 : decode c_Mo_secondOf 86 = .ok (.iload 4, 2) := by decide +kernel
theorem d_Mo_secondOf_88 : decode c_Mo_secondOf 88 = .ok (.iconst 1, 1) := by decide +kernel
theorem d_Mo_secondOf_89 : decode c_Mo_secondOf 89 = .ok (.iadd, 1) := by decide +kernel
theorem d_Mo_secondOf_90 : decode c_Mo_secondOf 90 = .ok (.iload_n 2, 1) := by decide +kernel
theorem d_Mo_secondOf_91 : decode c_Mo_secondOf 91 = .ok (.bipush 20, 2) := by decide +kernel
theorem d_Mo_secondOf_93 : decode c_Mo_secondOf 93 = .ok (.invokestatic 211, 3) := by decide +kernel
theorem d_Mo_secondOf_96 : decode c_Mo_secondOf 96 = .ok (.iload_n 2, 1) := by decide +kernel
theorem d_Mo_secondOf_97 : decode c_Mo_secondOf 97 = .ok (.bipush 21, 2) := by decide +kernel
theorem d_Mo_secondOf_99 : decode c_Mo_secondOf 99 = .ok (.invokestatic 211, 3) := by decide +kernel
theorem d_Mo_secondOf_102 : decode c_Mo_secondOf 102 = .ok (.invokevirtual 230, 3) := by decide +kernel
theorem d_Mo_secondOf_105 : decode c_Mo_secondOf 105 = .ok (.goto 49, 3) := by decide +kernel
theorem d_Mo_secondOf_108 : decode c_Mo_secondOf 108 = .ok (.aload_n 0, 1) := by decide +kernel
theorem d_Mo_secondOf_109 : decode c_Mo_secondOf 109 = .ok (.iload_n 2, 1) := by decide +kernel
theorem d_Mo_secondOf_110 : decode c_Mo_secondOf 110 = .ok (.aload_n 0, 1) := by decide +kernel
theorem d_Mo_secondOf_111 : decode c_Mo_secondOf 111 = .ok (.getfield 241, 3) := by decide +kernel
theorem d_Mo_secondOf_114 : decode c_Mo_secondOf 114 = .ok (.invokevirtual 244, 3) := by decide +kernel
theorem d_Mo_secondOf_117 : decode c_Mo_secondOf 117 = .ok (.iload 6, 2) := by decide +kernel
theorem d_Mo_secondOf_119 : decode c_Mo_secondOf 119 = .ok (.iconst 4, 1) := by decide +kernel
theorem d_Mo_secondOf_120 : decode c_Mo_secondOf 120 = .ok (.if_icmp .ne 30, 3) := by decide +kernel
theorem d_Mo_secondOf_123 : decode c_Mo_secondOf 123 = .ok (.aload_n 0, 1) := by decide +kernel
theorem d_Mo_secondOf_124 : decode c_Mo_secondOf 124 = .ok (.getfield 57, 3) := by decide +kernel
theorem d_Mo_secondOf_127 : decode c_Mo_secondOf 127 = .ok (.iload_n 2, 1) := by decide +kernel
theorem d_Mo_secondOf_128 : decode c_Mo_secondOf 128 = .ok (.bipush 19, 2) := by decide +kernel
theorem d_Mo_secondOf_130 : decode c_Mo_secondOf 130 = .ok (.invokestatic 211, 3) := by decide +kernel
theorem d_Mo_secondOf_133 : decode c_Mo_secondOf 133 = .ok (.bipush 40, 2) := by decide +kernel
theorem d_Mo_secondOf_135 : decode c_Mo_secondOf 135 = .ok (.iadd, 1) := by decide +kernel
theorem d_Mo_secondOf_136 : decode c_Mo_secondOf 136 = .ok (.dup2, 1) := by decide +kernel
theorem d_Mo_secondOf_137 : decode c_Mo_secondOf 137 = .ok (.laload, 1) := by decide +kernel
theorem d_Mo_secondOf_138 : decode c_Mo_secondOf 138 = .ok (.aload_n 0, 1) := by decide +kernel
theorem d_Mo_secondOf_139 : decode c_Mo_secondOf 139 = .ok (.getfield 13, 3) := by decide +kernel
theorem d_Mo_secondOf_142 : decode c_Mo_secondOf 142 = .ok (.iload 5, 2) := by decide +kernel
theorem d_Mo_secondOf_144 : decode c_Mo_secondOf 144 = .ok (.iconst 1, 1) := by decide +kernel
theorem d_Mo_secondOf_145 : decode c_Mo_secondOf 145 = .ok (.iadd, 1) := by decide +kernel
theorem d_Mo_secondOf_146 : decode c_Mo_secondOf 146 = .ok (.iaload, 1) := by decide +kernel
theorem d_Mo_secondOf_147 : decode c_Mo_secondOf 147 = .ok (.i2l, 1) := by decide +kernel
theorem d_Mo_secondOf_148 : decode c_Mo_secondOf 148 = .ok (.ladd, 1) := by decide +kernel
theorem d_Mo_secondOf_149 : decode c_Mo_secondOf 149 = .ok (.lastore, 1) := by decide +kernel
theorem d_Mo_secondOf_150 : decode c_Mo_secondOf 150 = .ok (.aload_n 0, 1) := by decide +kernel
theorem d_Mo_secondOf_151 : decode c_Mo_secondOf 151 = .ok (.invokevirtual 238, 3) := by decide +kernel
theorem d_Mo_secondOf_154 : decode c_Mo_secondOf 154 = .ok (.return_, 1) := by decide +kernel
set_option maxRecDepth 100000 in
set_option maxHeartbeats 16000000 in
/-- secondOf, kind 6 -/
theorem g_Mo_secondOf_6 (l : Launch) (G : va_G) (k : Nat → ClassId) (h0 : Nat) (s0 : Nat) (f9 : Nat) (b9 : Nat) (p9 : Nat) (kn : Nat) (bk : Nat) (n9 : Nat) (rd : Nat) (ma : Nat → Nat) (iv : Nat → Int32) (co : Int64) (wd : Nat → Int32) (L : Nat → Int64) (En : Nat → Nat) (NB : Nat → Nat) (NA : Nat → Nat) (NK : Nat → Nat) (NP : Nat → Nat) (NQ : Nat → Nat) (hf : f9 < 4) (hbb : b9 < bk) (hbk : bk < 40) (hn : n9 + 1 < 20) (hp : p9 + 1 ≤ 200) (hkn : kn < 19) (hrd : rd < bk) (hk : wdF wd f9 p9 = 6) : CV l y_Mo_secondOf c_Mo_secondOf 7 { frames := 3, cells := 0, slots := 0, locals := 71 } [.ref h0, .int (nI f9), .int (nI b9), .int (nI p9), .int (nI kn)] G k s0 [(h0, .inr (8, moL ma (va_up (va_up (va_up iv 13 (nI bk)) 17 (nI (n9 + 1))) 18 (nI rd)) co)), ((ma 1), .inl (k 0, 800, .inl wd)), ((ma 3), .inl (k 0, 800, .inl (fun i => nI (En i)))), ((ma 13), .inl (k 1, 36982, .inr (.inl L))), ((ma 16), .inl (k 0, 20, .inl (fun i => nI (NB i)))), ((ma 17), .inl (k 0, 20, .inl (fun i => nI (NA i)))), ((ma 18), .inl (k 0, 20, .inl (fun i => nI (NK i)))), ((ma 19), .inl (k 0, 20, .inl (fun i => nI (NP i)))), ((ma 20), .inl (k 0, 20, .inl (fun i => nI (NQ i))))] (fun (u : Nat → Int64) => (∀ k9, k9 < 20 → lz u (22 * bk + k9) = 0) ∧ lz u (22 * bk + 20) = lz L (22 * rd + kn) ∧ lz u (22 * bk + 21) = lz L (22 * rd + 19) ∧ ∀ x, (x < 22 * bk ∨ 22 * bk + 22 ≤ x) → lz u x = lz L x) (fun u => [(h0, .inr (8, moL ma (va_up (va_up (va_up iv 13 (nI (bk + 1))) 17 (nI (n9 + 1 + 1))) 18 (nI rd)) co)), ((ma 1), .inl (k 0, 800, .inl wd)), ((ma 3), .inl (k 0, 800, .inl (fun i => nI (En i)))), ((ma 13), .inl (k 1, 36982, .inr (.inl u))), ((ma 16), .inl (k 0, 20, .inl (fun i => nI ((va_up NB (n9 + 1) bk) i)))), ((ma 17), .inl (k 0, 20, .inl (fun i => nI ((va_up NA (n9 + 1) (p9 + 1)) i)))), ((ma 18), .inl (k 0, 20, .inl (fun i => nI ((va_up NK (n9 + 1) (kn)) i)))), ((ma 19), .inl (k 0, 20, .inl (fun i => nI ((va_up NP (n9 + 1) 0) i)))), ((ma 20), .inl (k 0, 20, .inl (fun i => nI ((va_up NQ n9 rd) i))))]) 0 0 := by
  refine met_start (by decide) (Nat.le_of_ble_eq_true rfl) ?_
  intro p e s m below meth c C K hA hsz S ls hl
  generalize va_A [(h0, .inr (8, moL ma (va_up (va_up (va_up iv 13 (nI bk)) 17 (nI (n9 + 1))) 18 (nI rd)) co)), ((ma 1), .inl (k 0, 800, .inl wd)), ((ma 3), .inl (k 0, 800, .inl (fun i => nI (En i)))), ((ma 13), .inl (k 1, 36982, .inr (.inl L))), ((ma 16), .inl (k 0, 20, .inl (fun i => nI (NB i)))), ((ma 17), .inl (k 0, 20, .inl (fun i => nI (NA i)))), ((ma 18), .inl (k 0, 20, .inl (fun i => nI (NK i)))), ((ma 19), .inl (k 0, 20, .inl (fun i => nI (NP i)))), ((ma 20), .inl (k 0, 20, .inl (fun i => nI (NQ i))))] s0 = A at hA S ⊢
  have hx := C.1
  have hb := C.2.1
  have hl : lv_has ls 7 [(0, .ref h0), (1, .int (nI f9)), (2, .int (nI b9)), (3, .int (nI p9)), (4, .int (nI kn))] := hl
  refine lv_sipush (v := 200) hx hb d_Mo_secondOf_0 (by decide) ?_
  refine lv_iload_n hx hb d_Mo_secondOf_3 rfl (lv_at hl 1 rfl) ?_
  refine z_imul (x := 200) (y := nI f9) (v := nI (200 * f9)) hx hb d_Mo_secondOf_4 (pk_mul 200 f9) ?_
  refine lv_iload_n hx hb d_Mo_secondOf_5 rfl (lv_at hl 3 rfl) ?_
  refine z_iadd (x := nI (200 * f9)) (y := nI p9) (v := nI (200 * f9 + p9)) hx hb d_Mo_secondOf_6 (nI_add (200 * f9) p9) ?_
  refine lv_istore (lv' := [(5, .int (nI (200 * f9 + p9))), (0, .ref h0), (1, .int (nI f9)), (2, .int (nI b9)), (3, .int (nI p9)), (4, .int (nI kn))]) hx hb d_Mo_secondOf_7 hl (by decide) rfl (fun ls hl => ?_)
  refine lv_aload_n hx hb d_Mo_secondOf_9 rfl (lv_at hl 1 rfl) ?_
  refine r_get C K S 0 rfl rfl clOk_Mo 2 (by decide) wf_Mo_13 (v := .ref (ma 1)) rfl d_Mo_secondOf_10 ?_
  refine lv_iload hx hb d_Mo_secondOf_13 (lv_at hl 0 rfl) ?_
  refine r_iald C K S 1 rfl (i := nI (200 * f9 + p9)) (show vp_in (nI (200 * f9 + p9)) _ from vp_in_nI (n := (200 * f9 + p9)) (by omega) (by decide)) (v := wdF wd f9 p9) (by rw [nI_clamp (by omega)]; exact (show wd (200 * f9 + p9) = wd (200 * f9 + p9) from congrArg wd (by omega))) d_Mo_secondOf_15 ?_
  refine lv_istore (lv' := [(6, .int (wdF wd f9 p9)), (5, .int (nI (200 * f9 + p9))), (0, .ref h0), (1, .int (nI f9)), (2, .int (nI b9)), (3, .int (nI p9)), (4, .int (nI kn))]) hx hb d_Mo_secondOf_16 hl (by decide) rfl (fun ls hl => ?_)
  refine lv_aload_n hx hb d_Mo_secondOf_18 rfl (lv_at hl 2 rfl) ?_
  refine r_get C K S 0 rfl rfl clOk_Mo 39 (by decide) wf_Mo_79 (v := .ref (ma 20)) rfl d_Mo_secondOf_19 ?_
  refine lv_aload_n hx hb d_Mo_secondOf_22 rfl (lv_at hl 2 rfl) ?_
  refine r_get C K S 0 rfl rfl clOk_Mo 34 (by decide) wf_Mo_221 (v := .int (nI (n9 + 1))) rfl d_Mo_secondOf_23 ?_
  refine lv_iconst (v := 1) hx hb d_Mo_secondOf_26 (by decide) ?_
  refine z_isub (x := nI (n9 + 1)) (y := 1) (v := nI (n9 + 1 - 1)) hx hb d_Mo_secondOf_27 (pk_sub (a := (n9 + 1)) (b := 1) (by omega)) ?_
  refine lv_aload_n hx hb d_Mo_secondOf_28 rfl (lv_at hl 2 rfl) ?_
  refine r_get C K S 0 rfl rfl clOk_Mo 40 (by decide) wf_Mo_241 (v := .int (nI rd)) rfl d_Mo_secondOf_29 ?_
  refine r_iast C K S 8 rfl (i := nI (n9 + 1 - 1)) (x := nI rd) (show vp_in (nI (n9 + 1 - 1)) _ from vp_in_nI (n := (n9 + 1 - 1)) (by omega) (by decide)) (f' := fun i => nI (va_up NQ (n9 + 1 - 1) rd i)) (ws' := [(h0, .inr (8, moL ma (va_up (va_up (va_up iv 13 (nI bk)) 17 (nI (n9 + 1))) 18 (nI rd)) co)), ((ma 1), .inl (k 0, 800, .inl wd)), ((ma 3), .inl (k 0, 800, .inl (fun i => nI (En i)))), ((ma 13), .inl (k 1, 36982, .inr (.inl L))), ((ma 16), .inl (k 0, 20, .inl (fun i => nI (NB i)))), ((ma 17), .inl (k 0, 20, .inl (fun i => nI (NA i)))), ((ma 18), .inl (k 0, 20, .inl (fun i => nI (NK i)))), ((ma 19), .inl (k 0, 20, .inl (fun i => nI (NP i)))), ((ma 20), .inl (k 0, 20, .inl (fun i => nI (va_up NQ (n9 + 1 - 1) rd i))))]) (show upd _ (nI (n9 + 1 - 1) : Int32).toNatClampNeg (nI rd) = _ from upd_nI NQ (j := (n9 + 1 - 1)) (by omega) rd) rfl d_Mo_secondOf_32 (fun H locs S => ?_)
  have S : Sw G A s.heap H locs [(h0, .inr (8, moL ma (va_up (va_up (va_up iv 13 (nI bk)) 17 (nI (n9 + 1))) 18 (nI rd)) co)), ((ma 1), .inl (k 0, 800, .inl wd)), ((ma 3), .inl (k 0, 800, .inl (fun i => nI (En i)))), ((ma 13), .inl (k 1, 36982, .inr (.inl L))), ((ma 16), .inl (k 0, 20, .inl (fun i => nI (NB i)))), ((ma 17), .inl (k 0, 20, .inl (fun i => nI (NA i)))), ((ma 18), .inl (k 0, 20, .inl (fun i => nI (NK i)))), ((ma 19), .inl (k 0, 20, .inl (fun i => nI (NP i)))), ((ma 20), .inl (k 0, 20, .inl (fun i => nI ((va_up NQ n9 rd) i))))] := S
  refine lv_iload hx hb d_Mo_secondOf_33 (lv_at hl 0 rfl) ?_
  refine lv_bipush (v := 6) hx hb d_Mo_secondOf_35 (by decide) ?_
  refine lv_icmp_ne (tgt := 70) hx hb d_Mo_secondOf_37 (by decide) (fun hq => absurd hk hq) (fun _ => ?_)
  refine lv_aload_n hx hb d_Mo_secondOf_40 rfl (lv_at hl 2 rfl) ?_
  refine lv_iload_n hx hb d_Mo_secondOf_41 rfl (lv_at hl 5 rfl) ?_
  refine lv_iconst (v := 1) hx hb d_Mo_secondOf_42 (by decide) ?_
  refine z_iadd (x := nI p9) (y := 1) (v := nI (p9 + 1)) hx hb d_Mo_secondOf_43 (nI_add p9 1) ?_
  refine lv_iload hx hb d_Mo_secondOf_44 (lv_at hl 6 rfl) ?_
  refine lv_aload_n hx hb d_Mo_secondOf_46 rfl (lv_at hl 2 rfl) ?_
  refine r_get C K S 0 rfl rfl clOk_Mo 40 (by decide) wf_Mo_241 (v := .int (nI rd)) rfl d_Mo_secondOf_47 ?_
  refine lv_iload hx hb d_Mo_secondOf_50 (lv_at hl 6 rfl) ?_
  refine r_backi (wi := []) (wr := [(h0, .inr (8, moL ma (va_up (va_up (va_up iv 13 (nI bk)) 17 (nI (n9 + 1))) 18 (nI rd)) co)), ((ma 1), .inl (k 0, 800, .inl wd)), ((ma 3), .inl (k 0, 800, .inl (fun i => nI (En i)))), ((ma 13), .inl (k 1, 36982, .inr (.inl L))), ((ma 16), .inl (k 0, 20, .inl (fun i => nI (NB i)))), ((ma 17), .inl (k 0, 20, .inl (fun i => nI (NA i)))), ((ma 18), .inl (k 0, 20, .inl (fun i => nI (NK i)))), ((ma 19), .inl (k 0, 20, .inl (fun i => nI (NP i)))), ((ma 20), .inl (k 0, 20, .inl (fun i => nI ((va_up NQ n9 rd) i))))]) S hA [] [0, 1, 2, 3, 4, 5, 6, 7, 8] rfl rfl (by decide) (by decide) (va_runS (As := [.int (nI rd), .int (nI kn)]) (rest := [.int (nI kn), .int (nI (p9 + 1)), .ref h0]) ⟨hx, hb, C.2.2.1, C.2.2.2.1, C.2.2.2.2.1⟩ (g_Mo_line l G k _ rd kn) (k_stat (n := 2) C wc_Mo_line rfl rfl wz_Mo wm_Mo_211 wt_Mo_line (by decide +kernel) ⟨(Nat.le_of_ble_eq_true rfl), (Nat.le_of_ble_eq_true rfl)⟩) (pr_now K S [] (by decide) rfl) rfl rfl hl.1 rfl (lv_room (Nat.le_of_ble_eq_true rfl)) d_Mo_secondOf_52 ⟨(Nat.le_of_ble_eq_true rfl), (Nat.le_of_ble_eq_true rfl)⟩) (fun r3 u1 H locs hw2 S => ?_)
  have S : Sw G A s.heap _ _ [(h0, .inr (8, moL ma (va_up (va_up (va_up iv 13 (nI bk)) 17 (nI (n9 + 1))) 18 (nI rd)) co)), ((ma 1), .inl (k 0, 800, .inl wd)), ((ma 3), .inl (k 0, 800, .inl (fun i => nI (En i)))), ((ma 13), .inl (k 1, 36982, .inr (.inl L))), ((ma 16), .inl (k 0, 20, .inl (fun i => nI (NB i)))), ((ma 17), .inl (k 0, 20, .inl (fun i => nI (NA i)))), ((ma 18), .inl (k 0, 20, .inl (fun i => nI (NK i)))), ((ma 19), .inl (k 0, 20, .inl (fun i => nI (NP i)))), ((ma 20), .inl (k 0, 20, .inl (fun i => nI ((va_up NQ n9 rd) i))))] := S
  obtain rfl : r3 = nI ((22 * rd + kn) * 41) := hw2
  refine lv_aload_n hx hb d_Mo_secondOf_55 rfl (lv_at hl 2 rfl) ?_
  refine r_get C K S 0 rfl rfl clOk_Mo 40 (by decide) wf_Mo_241 (v := .int (nI rd)) rfl d_Mo_secondOf_56 ?_
  refine lv_bipush (v := 19) hx hb d_Mo_secondOf_59 (by decide) ?_
  refine r_backi (wi := []) (wr := [(h0, .inr (8, moL ma (va_up (va_up (va_up iv 13 (nI bk)) 17 (nI (n9 + 1))) 18 (nI rd)) co)), ((ma 1), .inl (k 0, 800, .inl wd)), ((ma 3), .inl (k 0, 800, .inl (fun i => nI (En i)))), ((ma 13), .inl (k 1, 36982, .inr (.inl L))), ((ma 16), .inl (k 0, 20, .inl (fun i => nI (NB i)))), ((ma 17), .inl (k 0, 20, .inl (fun i => nI (NA i)))), ((ma 18), .inl (k 0, 20, .inl (fun i => nI (NK i)))), ((ma 19), .inl (k 0, 20, .inl (fun i => nI (NP i)))), ((ma 20), .inl (k 0, 20, .inl (fun i => nI ((va_up NQ n9 rd) i))))]) S hA [] [0, 1, 2, 3, 4, 5, 6, 7, 8] rfl rfl (by decide) (by decide) (va_runS (As := [.int (nI rd), .int 19]) (rest := [.int (nI ((22 * rd + kn) * 41)), .int (nI kn), .int (nI (p9 + 1)), .ref h0]) ⟨hx, hb, C.2.2.1, C.2.2.2.1, C.2.2.2.2.1⟩ (g_Mo_line l G k _ rd 19) (k_stat (n := 2) C wc_Mo_line rfl rfl wz_Mo wm_Mo_211 wt_Mo_line (by decide +kernel) ⟨(Nat.le_of_ble_eq_true rfl), (Nat.le_of_ble_eq_true rfl)⟩) (pr_now K S [] (by decide) rfl) rfl rfl hl.1 rfl (lv_room (Nat.le_of_ble_eq_true rfl)) d_Mo_secondOf_61 ⟨(Nat.le_of_ble_eq_true rfl), (Nat.le_of_ble_eq_true rfl)⟩) (fun r7 u5 H locs hw6 S => ?_)
  have S : Sw G A s.heap _ _ [(h0, .inr (8, moL ma (va_up (va_up (va_up iv 13 (nI bk)) 17 (nI (n9 + 1))) 18 (nI rd)) co)), ((ma 1), .inl (k 0, 800, .inl wd)), ((ma 3), .inl (k 0, 800, .inl (fun i => nI (En i)))), ((ma 13), .inl (k 1, 36982, .inr (.inl L))), ((ma 16), .inl (k 0, 20, .inl (fun i => nI (NB i)))), ((ma 17), .inl (k 0, 20, .inl (fun i => nI (NA i)))), ((ma 18), .inl (k 0, 20, .inl (fun i => nI (NK i)))), ((ma 19), .inl (k 0, 20, .inl (fun i => nI (NP i)))), ((ma 20), .inl (k 0, 20, .inl (fun i => nI ((va_up NQ n9 rd) i))))] := S
  obtain rfl : r7 = nI ((22 * rd + 19) * 41) := hw6
  refine r_backv (wi := [(h0, .inr (8, moL ma (va_up (va_up (va_up iv 18 (nI rd)) 13 (nI bk)) 17 (nI (n9 + 1))) co)), ((ma 13), .inl (k 1, 36982, .inr (.inl L))), ((ma 16), .inl (k 0, 20, .inl (fun i => nI (NB i)))), ((ma 17), .inl (k 0, 20, .inl (fun i => nI (NA i)))), ((ma 18), .inl (k 0, 20, .inl (fun i => nI (NK i)))), ((ma 19), .inl (k 0, 20, .inl (fun i => nI (NP i))))]) (wr := [((ma 1), .inl (k 0, 800, .inl wd)), ((ma 3), .inl (k 0, 800, .inl (fun i => nI (En i)))), ((ma 20), .inl (k 0, 20, .inl (fun i => nI ((va_up NQ n9 rd) i))))]) S hA [0, 3, 4, 5, 6, 7] [1, 2, 8] rfl rfl (by decide) (by decide) (va_runV (As := [.int (nI (p9 + 1)), .int (nI kn), .int (nI ((22 * rd + kn) * 41)), .int (nI ((22 * rd + 19) * 41))]) (rest := []) ⟨hx, hb, C.2.2.1, C.2.2.2.1, C.2.2.2.2.1⟩ (g_Mo_openNeed l G k h0 _ (p9 + 1) kn (22 * rd + kn) (22 * rd + 19) bk (n9 + 1) ma (va_up iv 18 (nI rd)) co L NB NA NK NP hbk (by omega) (by omega) hn) (k_virt (n := 4) C wc_Mo_openNeed rfl rfl wz_Mo wm_Mo_230 wn_Mo_openNeed ws_Mo_openNeed (by decide +kernel) ⟨(Nat.le_of_ble_eq_true rfl), (Nat.le_of_ble_eq_true rfl)⟩) (pr_nowV K S [0, 3, 4, 5, 6, 7] (by decide) rfl 0 rfl rfl) rfl rfl hl.1 rfl (lv_room (Nat.le_of_ble_eq_true rfl)) d_Mo_secondOf_64 ⟨(Nat.le_of_ble_eq_true rfl), (Nat.le_of_ble_eq_true rfl)⟩) (fun lu H locs hw9 S => ?_)
  have S : Sw G A s.heap _ _ [((ma 1), .inl (k 0, 800, .inl wd)), ((ma 3), .inl (k 0, 800, .inl (fun i => nI (En i)))), ((ma 20), .inl (k 0, 20, .inl (fun i => nI ((va_up NQ n9 rd) i)))), (h0, .inr (8, moL ma (va_up (va_up (va_up iv 18 (nI rd)) 13 (nI (bk + 1))) 17 (nI ((n9 + 1) + 1))) co)), ((ma 13), .inl (k 1, 36982, .inr (.inl lu))), ((ma 16), .inl (k 0, 20, .inl (fun i => nI ((va_up NB (n9 + 1) bk) i)))), ((ma 17), .inl (k 0, 20, .inl (fun i => nI ((va_up NA (n9 + 1) (p9 + 1)) i)))), ((ma 18), .inl (k 0, 20, .inl (fun i => nI ((va_up NK (n9 + 1) kn) i)))), ((ma 19), .inl (k 0, 20, .inl (fun i => nI ((va_up NP (n9 + 1) 0) i))))] := S
  have hlu := hw9
  refine lv_goto (tgt := 154) hx hb d_Mo_secondOf_67 (by decide) ?_
  exact r_vret C K lu hlu (S.sub [3, 0, 1, 4, 5, 6, 7, 8, 2] (by decide) rfl) d_Mo_secondOf_154 (Nat.le_of_ble_eq_true rfl) (Nat.le_of_ble_eq_true rfl)
set_option maxRecDepth 100000 in
set_option maxHeartbeats 16000000 in
/-- secondOf, kind 3 -/
theorem g_Mo_secondOf_3 (l : Launch) (G : va_G) (k : Nat → ClassId) (h0 : Nat) (s0 : Nat) (f9 : Nat) (b9 : Nat) (p9 : Nat) (kn : Nat) (bk : Nat) (n9 : Nat) (rd : Nat) (m9 : Nat) (ma : Nat → Nat) (iv : Nat → Int32) (co : Int64) (wd : Nat → Int32) (L : Nat → Int64) (En : Nat → Nat) (NB : Nat → Nat) (NA : Nat → Nat) (NK : Nat → Nat) (NP : Nat → Nat) (NQ : Nat → Nat) (hf : f9 < 4) (hbb : b9 < bk) (hbk : bk < 40) (hn : n9 + 1 < 20) (hp : p9 + 3 ≤ 200) (hm : En (200 * f9 + p9 + 2) = m9) (hrd : rd < bk) (hk : wdF wd f9 p9 = 3) : CV l y_Mo_secondOf c_Mo_secondOf 7 { frames := 3, cells := 0, slots := 0, locals := 71 } [.ref h0, .int (nI f9), .int (nI b9), .int (nI p9), .int (nI kn)] G k s0 [(h0, .inr (8, moL ma (va_up (va_up (va_up iv 13 (nI bk)) 17 (nI (n9 + 1))) 18 (nI rd)) co)), ((ma 1), .inl (k 0, 800, .inl wd)), ((ma 3), .inl (k 0, 800, .inl (fun i => nI (En i)))), ((ma 13), .inl (k 1, 36982, .inr (.inl L))), ((ma 16), .inl (k 0, 20, .inl (fun i => nI (NB i)))), ((ma 17), .inl (k 0, 20, .inl (fun i => nI (NA i)))), ((ma 18), .inl (k 0, 20, .inl (fun i => nI (NK i)))), ((ma 19), .inl (k 0, 20, .inl (fun i => nI (NP i)))), ((ma 20), .inl (k 0, 20, .inl (fun i => nI (NQ i))))] (fun (u : Nat → Int64) => (∀ k9, k9 < 20 → lz u (22 * bk + k9) = 0) ∧ lz u (22 * bk + 20) = lz L (22 * b9 + 20) ∧ lz u (22 * bk + 21) = lz L (22 * b9 + 21) ∧ ∀ x, (x < 22 * bk ∨ 22 * bk + 22 ≤ x) → lz u x = lz L x) (fun u => [(h0, .inr (8, moL ma (va_up (va_up (va_up iv 13 (nI (bk + 1))) 17 (nI (n9 + 1 + 1))) 18 (nI rd)) co)), ((ma 1), .inl (k 0, 800, .inl wd)), ((ma 3), .inl (k 0, 800, .inl (fun i => nI (En i)))), ((ma 13), .inl (k 1, 36982, .inr (.inl u))), ((ma 16), .inl (k 0, 20, .inl (fun i => nI ((va_up NB (n9 + 1) bk) i)))), ((ma 17), .inl (k 0, 20, .inl (fun i => nI ((va_up NA (n9 + 1) (m9)) i)))), ((ma 18), .inl (k 0, 20, .inl (fun i => nI ((va_up NK (n9 + 1) (kn + 1)) i)))), ((ma 19), .inl (k 0, 20, .inl (fun i => nI ((va_up NP (n9 + 1) 0) i)))), ((ma 20), .inl (k 0, 20, .inl (fun i => nI ((va_up NQ n9 rd) i))))]) 0 0 := by
  refine met_start (by decide) (Nat.le_of_ble_eq_true rfl) ?_
  intro p e s m below meth c C K hA hsz S ls hl
  generalize va_A [(h0, .inr (8, moL ma (va_up (va_up (va_up iv 13 (nI bk)) 17 (nI (n9 + 1))) 18 (nI rd)) co)), ((ma 1), .inl (k 0, 800, .inl wd)), ((ma 3), .inl (k 0, 800, .inl (fun i => nI (En i)))), ((ma 13), .inl (k 1, 36982, .inr (.inl L))), ((ma 16), .inl (k 0, 20, .inl (fun i => nI (NB i)))), ((ma 17), .inl (k 0, 20, .inl (fun i => nI (NA i)))), ((ma 18), .inl (k 0, 20, .inl (fun i => nI (NK i)))), ((ma 19), .inl (k 0, 20, .inl (fun i => nI (NP i)))), ((ma 20), .inl (k 0, 20, .inl (fun i => nI (NQ i))))] s0 = A at hA S ⊢
  have hx := C.1
  have hb := C.2.1
  have hl : lv_has ls 7 [(0, .ref h0), (1, .int (nI f9)), (2, .int (nI b9)), (3, .int (nI p9)), (4, .int (nI kn))] := hl
  refine lv_sipush (v := 200) hx hb d_Mo_secondOf_0 (by decide) ?_
  refine lv_iload_n hx hb d_Mo_secondOf_3 rfl (lv_at hl 1 rfl) ?_
  refine z_imul (x := 200) (y := nI f9) (v := nI (200 * f9)) hx hb d_Mo_secondOf_4 (pk_mul 200 f9) ?_
  refine lv_iload_n hx hb d_Mo_secondOf_5 rfl (lv_at hl 3 rfl) ?_
  refine z_iadd (x := nI (200 * f9)) (y := nI p9) (v := nI (200 * f9 + p9)) hx hb d_Mo_secondOf_6 (nI_add (200 * f9) p9) ?_
  refine lv_istore (lv' := [(5, .int (nI (200 * f9 + p9))), (0, .ref h0), (1, .int (nI f9)), (2, .int (nI b9)), (3, .int (nI p9)), (4, .int (nI kn))]) hx hb d_Mo_secondOf_7 hl (by decide) rfl (fun ls hl => ?_)
  refine lv_aload_n hx hb d_Mo_secondOf_9 rfl (lv_at hl 1 rfl) ?_
  refine r_get C K S 0 rfl rfl clOk_Mo 2 (by decide) wf_Mo_13 (v := .ref (ma 1)) rfl d_Mo_secondOf_10 ?_
  refine lv_iload hx hb d_Mo_secondOf_13 (lv_at hl 0 rfl) ?_
  refine r_iald C K S 1 rfl (i := nI (200 * f9 + p9)) (show vp_in (nI (200 * f9 + p9)) _ from vp_in_nI (n := (200 * f9 + p9)) (by omega) (by decide)) (v := wdF wd f9 p9) (by rw [nI_clamp (by omega)]; exact (show wd (200 * f9 + p9) = wd (200 * f9 + p9) from congrArg wd (by omega))) d_Mo_secondOf_15 ?_
  refine lv_istore (lv' := [(6, .int (wdF wd f9 p9)), (5, .int (nI (200 * f9 + p9))), (0, .ref h0), (1, .int (nI f9)), (2, .int (nI b9)), (3, .int (nI p9)), (4, .int (nI kn))]) hx hb d_Mo_secondOf_16 hl (by decide) rfl (fun ls hl => ?_)
  refine lv_aload_n hx hb d_Mo_secondOf_18 rfl (lv_at hl 2 rfl) ?_
  refine r_get C K S 0 rfl rfl clOk_Mo 39 (by decide) wf_Mo_79 (v := .ref (ma 20)) rfl d_Mo_secondOf_19 ?_
  refine lv_aload_n hx hb d_Mo_secondOf_22 rfl (lv_at hl 2 rfl) ?_
  refine r_get C K S 0 rfl rfl clOk_Mo 34 (by decide) wf_Mo_221 (v := .int (nI (n9 + 1))) rfl d_Mo_secondOf_23 ?_
  refine lv_iconst (v := 1) hx hb d_Mo_secondOf_26 (by decide) ?_
  refine z_isub (x := nI (n9 + 1)) (y := 1) (v := nI (n9 + 1 - 1)) hx hb d_Mo_secondOf_27 (pk_sub (a := (n9 + 1)) (b := 1) (by omega)) ?_
  refine lv_aload_n hx hb d_Mo_secondOf_28 rfl (lv_at hl 2 rfl) ?_
  refine r_get C K S 0 rfl rfl clOk_Mo 40 (by decide) wf_Mo_241 (v := .int (nI rd)) rfl d_Mo_secondOf_29 ?_
  refine r_iast C K S 8 rfl (i := nI (n9 + 1 - 1)) (x := nI rd) (show vp_in (nI (n9 + 1 - 1)) _ from vp_in_nI (n := (n9 + 1 - 1)) (by omega) (by decide)) (f' := fun i => nI (va_up NQ (n9 + 1 - 1) rd i)) (ws' := [(h0, .inr (8, moL ma (va_up (va_up (va_up iv 13 (nI bk)) 17 (nI (n9 + 1))) 18 (nI rd)) co)), ((ma 1), .inl (k 0, 800, .inl wd)), ((ma 3), .inl (k 0, 800, .inl (fun i => nI (En i)))), ((ma 13), .inl (k 1, 36982, .inr (.inl L))), ((ma 16), .inl (k 0, 20, .inl (fun i => nI (NB i)))), ((ma 17), .inl (k 0, 20, .inl (fun i => nI (NA i)))), ((ma 18), .inl (k 0, 20, .inl (fun i => nI (NK i)))), ((ma 19), .inl (k 0, 20, .inl (fun i => nI (NP i)))), ((ma 20), .inl (k 0, 20, .inl (fun i => nI (va_up NQ (n9 + 1 - 1) rd i))))]) (show upd _ (nI (n9 + 1 - 1) : Int32).toNatClampNeg (nI rd) = _ from upd_nI NQ (j := (n9 + 1 - 1)) (by omega) rd) rfl d_Mo_secondOf_32 (fun H locs S => ?_)
  have S : Sw G A s.heap H locs [(h0, .inr (8, moL ma (va_up (va_up (va_up iv 13 (nI bk)) 17 (nI (n9 + 1))) 18 (nI rd)) co)), ((ma 1), .inl (k 0, 800, .inl wd)), ((ma 3), .inl (k 0, 800, .inl (fun i => nI (En i)))), ((ma 13), .inl (k 1, 36982, .inr (.inl L))), ((ma 16), .inl (k 0, 20, .inl (fun i => nI (NB i)))), ((ma 17), .inl (k 0, 20, .inl (fun i => nI (NA i)))), ((ma 18), .inl (k 0, 20, .inl (fun i => nI (NK i)))), ((ma 19), .inl (k 0, 20, .inl (fun i => nI (NP i)))), ((ma 20), .inl (k 0, 20, .inl (fun i => nI ((va_up NQ n9 rd) i))))] := S
  refine lv_iload hx hb d_Mo_secondOf_33 (lv_at hl 0 rfl) ?_
  refine lv_bipush (v := 6) hx hb d_Mo_secondOf_35 (by decide) ?_
  refine lv_icmp_ne (tgt := 70) hx hb d_Mo_secondOf_37 (by decide) (fun _ => ?_) (fun hq => absurd hq (by rw [hk]; decide))
  refine lv_iload hx hb d_Mo_secondOf_70 (lv_at hl 0 rfl) ?_
  refine lv_iconst (v := 3) hx hb d_Mo_secondOf_72 (by decide) ?_
  refine lv_icmp_ne (tgt := 108) hx hb d_Mo_secondOf_73 (by decide) (fun hq => absurd hk hq) (fun _ => ?_)
  refine lv_aload_n hx hb d_Mo_secondOf_76 rfl (lv_at hl 2 rfl) ?_
  refine lv_aload_n hx hb d_Mo_secondOf_77 rfl (lv_at hl 2 rfl) ?_
  refine r_get C K S 0 rfl rfl clOk_Mo 5 (by decide) wf_Mo_23 (v := .ref (ma 3)) rfl d_Mo_secondOf_78 ?_
  refine lv_iload hx hb d_Mo_secondOf_81 (lv_at hl 1 rfl) ?_
  refine lv_iconst (v := 2) hx hb d_Mo_secondOf_83 (by decide) ?_
  refine z_iadd (x := nI (200 * f9 + p9)) (y := 2) (v := nI (200 * f9 + p9 + 2)) hx hb d_Mo_secondOf_84 (nI_add (200 * f9 + p9) 2) ?_
  refine r_iald C K S 2 rfl (i := nI (200 * f9 + p9 + 2)) (show vp_in (nI (200 * f9 + p9 + 2)) _ from vp_in_nI (n := (200 * f9 + p9 + 2)) (by omega) (by decide)) (v := nI (En (200 * f9 + p9 + 2))) (by rw [nI_clamp (by omega)]) d_Mo_secondOf_85 ?_
  rw [hm]
  refine lv_iload hx hb d_Mo_secondOf_86 (lv_at hl 6 rfl) ?_
  refine lv_iconst (v := 1) hx hb d_Mo_secondOf_88 (by decide) ?_
  refine z_iadd (x := nI kn) (y := 1) (v := nI (kn + 1)) hx hb d_Mo_secondOf_89 (nI_add kn 1) ?_
  refine lv_iload_n hx hb d_Mo_secondOf_90 rfl (lv_at hl 4 rfl) ?_
  refine lv_bipush (v := 20) hx hb d_Mo_secondOf_91 (by decide) ?_
  refine r_backi (wi := []) (wr := [(h0, .inr (8, moL ma (va_up (va_up (va_up iv 13 (nI bk)) 17 (nI (n9 + 1))) 18 (nI rd)) co)), ((ma 1), .inl (k 0, 800, .inl wd)), ((ma 3), .inl (k 0, 800, .inl (fun i => nI (En i)))), ((ma 13), .inl (k 1, 36982, .inr (.inl L))), ((ma 16), .inl (k 0, 20, .inl (fun i => nI (NB i)))), ((ma 17), .inl (k 0, 20, .inl (fun i => nI (NA i)))), ((ma 18), .inl (k 0, 20, .inl (fun i => nI (NK i)))), ((ma 19), .inl (k 0, 20, .inl (fun i => nI (NP i)))), ((ma 20), .inl (k 0, 20, .inl (fun i => nI ((va_up NQ n9 rd) i))))]) S hA [] [0, 1, 2, 3, 4, 5, 6, 7, 8] rfl rfl (by decide) (by decide) (va_runS (As := [.int (nI b9), .int 20]) (rest := [.int (nI (kn + 1)), .int (nI m9), .ref h0]) ⟨hx, hb, C.2.2.1, C.2.2.2.1, C.2.2.2.2.1⟩ (g_Mo_line l G k _ b9 20) (k_stat (n := 2) C wc_Mo_line rfl rfl wz_Mo wm_Mo_211 wt_Mo_line (by decide +kernel) ⟨(Nat.le_of_ble_eq_true rfl), (Nat.le_of_ble_eq_true rfl)⟩) (pr_now K S [] (by decide) rfl) rfl rfl hl.1 rfl (lv_room (Nat.le_of_ble_eq_true rfl)) d_Mo_secondOf_93 ⟨(Nat.le_of_ble_eq_true rfl), (Nat.le_of_ble_eq_true rfl)⟩) (fun r3 u1 H locs hw2 S => ?_)
  have S : Sw G A s.heap _ _ [(h0, .inr (8, moL ma (va_up (va_up (va_up iv 13 (nI bk)) 17 (nI (n9 + 1))) 18 (nI rd)) co)), ((ma 1), .inl (k 0, 800, .inl wd)), ((ma 3), .inl (k 0, 800, .inl (fun i => nI (En i)))), ((ma 13), .inl (k 1, 36982, .inr (.inl L))), ((ma 16), .inl (k 0, 20, .inl (fun i => nI (NB i)))), ((ma 17), .inl (k 0, 20, .inl (fun i => nI (NA i)))), ((ma 18), .inl (k 0, 20, .inl (fun i => nI (NK i)))), ((ma 19), .inl (k 0, 20, .inl (fun i => nI (NP i)))), ((ma 20), .inl (k 0, 20, .inl (fun i => nI ((va_up NQ n9 rd) i))))] := S
  obtain rfl : r3 = nI ((22 * b9 + 20) * 41) := hw2
  refine lv_iload_n hx hb d_Mo_secondOf_96 rfl (lv_at hl 4 rfl) ?_
  refine lv_bipush (v := 21) hx hb d_Mo_secondOf_97 (by decide) ?_
  refine r_backi (wi := []) (wr := [(h0, .inr (8, moL ma (va_up (va_up (va_up iv 13 (nI bk)) 17 (nI (n9 + 1))) 18 (nI rd)) co)), ((ma 1), .inl (k 0, 800, .inl wd)), ((ma 3), .inl (k 0, 800, .inl (fun i => nI (En i)))), ((ma 13), .inl (k 1, 36982, .inr (.inl L))), ((ma 16), .inl (k 0, 20, .inl (fun i => nI (NB i)))), ((ma 17), .inl (k 0, 20, .inl (fun i => nI (NA i)))), ((ma 18), .inl (k 0, 20, .inl (fun i => nI (NK i)))), ((ma 19), .inl (k 0, 20, .inl (fun i => nI (NP i)))), ((ma 20), .inl (k 0, 20, .inl (fun i => nI ((va_up NQ n9 rd) i))))]) S hA [] [0, 1, 2, 3, 4, 5, 6, 7, 8] rfl rfl (by decide) (by decide) (va_runS (As := [.int (nI b9), .int 21]) (rest := [.int (nI ((22 * b9 + 20) * 41)), .int (nI (kn + 1)), .int (nI m9), .ref h0]) ⟨hx, hb, C.2.2.1, C.2.2.2.1, C.2.2.2.2.1⟩ (g_Mo_line l G k _ b9 21) (k_stat (n := 2) C wc_Mo_line rfl rfl wz_Mo wm_Mo_211 wt_Mo_line (by decide +kernel) ⟨(Nat.le_of_ble_eq_true rfl), (Nat.le_of_ble_eq_true rfl)⟩) (pr_now K S [] (by decide) rfl) rfl rfl hl.1 rfl (lv_room (Nat.le_of_ble_eq_true rfl)) d_Mo_secondOf_99 ⟨(Nat.le_of_ble_eq_true rfl), (Nat.le_of_ble_eq_true rfl)⟩) (fun r7 u5 H locs hw6 S => ?_)
  have S : Sw G A s.heap _ _ [(h0, .inr (8, moL ma (va_up (va_up (va_up iv 13 (nI bk)) 17 (nI (n9 + 1))) 18 (nI rd)) co)), ((ma 1), .inl (k 0, 800, .inl wd)), ((ma 3), .inl (k 0, 800, .inl (fun i => nI (En i)))), ((ma 13), .inl (k 1, 36982, .inr (.inl L))), ((ma 16), .inl (k 0, 20, .inl (fun i => nI (NB i)))), ((ma 17), .inl (k 0, 20, .inl (fun i => nI (NA i)))), ((ma 18), .inl (k 0, 20, .inl (fun i => nI (NK i)))), ((ma 19), .inl (k 0, 20, .inl (fun i => nI (NP i)))), ((ma 20), .inl (k 0, 20, .inl (fun i => nI ((va_up NQ n9 rd) i))))] := S
  obtain rfl : r7 = nI ((22 * b9 + 21) * 41) := hw6
  refine r_backv (wi := [(h0, .inr (8, moL ma (va_up (va_up (va_up iv 18 (nI rd)) 13 (nI bk)) 17 (nI (n9 + 1))) co)), ((ma 13), .inl (k 1, 36982, .inr (.inl L))), ((ma 16), .inl (k 0, 20, .inl (fun i => nI (NB i)))), ((ma 17), .inl (k 0, 20, .inl (fun i => nI (NA i)))), ((ma 18), .inl (k 0, 20, .inl (fun i => nI (NK i)))), ((ma 19), .inl (k 0, 20, .inl (fun i => nI (NP i))))]) (wr := [((ma 1), .inl (k 0, 800, .inl wd)), ((ma 3), .inl (k 0, 800, .inl (fun i => nI (En i)))), ((ma 20), .inl (k 0, 20, .inl (fun i => nI ((va_up NQ n9 rd) i))))]) S hA [0, 3, 4, 5, 6, 7] [1, 2, 8] rfl rfl (by decide) (by decide) (va_runV (As := [.int (nI m9), .int (nI (kn + 1)), .int (nI ((22 * b9 + 20) * 41)), .int (nI ((22 * b9 + 21) * 41))]) (rest := []) ⟨hx, hb, C.2.2.1, C.2.2.2.1, C.2.2.2.2.1⟩ (g_Mo_openNeed l G k h0 _ m9 (kn + 1) (22 * b9 + 20) (22 * b9 + 21) bk (n9 + 1) ma (va_up iv 18 (nI rd)) co L NB NA NK NP hbk (by omega) (by omega) hn) (k_virt (n := 4) C wc_Mo_openNeed rfl rfl wz_Mo wm_Mo_230 wn_Mo_openNeed ws_Mo_openNeed (by decide +kernel) ⟨(Nat.le_of_ble_eq_true rfl), (Nat.le_of_ble_eq_true rfl)⟩) (pr_nowV K S [0, 3, 4, 5, 6, 7] (by decide) rfl 0 rfl rfl) rfl rfl hl.1 rfl (lv_room (Nat.le_of_ble_eq_true rfl)) d_Mo_secondOf_102 ⟨(Nat.le_of_ble_eq_true rfl), (Nat.le_of_ble_eq_true rfl)⟩) (fun lu H locs hw9 S => ?_)
  have S : Sw G A s.heap _ _ [((ma 1), .inl (k 0, 800, .inl wd)), ((ma 3), .inl (k 0, 800, .inl (fun i => nI (En i)))), ((ma 20), .inl (k 0, 20, .inl (fun i => nI ((va_up NQ n9 rd) i)))), (h0, .inr (8, moL ma (va_up (va_up (va_up iv 18 (nI rd)) 13 (nI (bk + 1))) 17 (nI ((n9 + 1) + 1))) co)), ((ma 13), .inl (k 1, 36982, .inr (.inl lu))), ((ma 16), .inl (k 0, 20, .inl (fun i => nI ((va_up NB (n9 + 1) bk) i)))), ((ma 17), .inl (k 0, 20, .inl (fun i => nI ((va_up NA (n9 + 1) m9) i)))), ((ma 18), .inl (k 0, 20, .inl (fun i => nI ((va_up NK (n9 + 1) (kn + 1)) i)))), ((ma 19), .inl (k 0, 20, .inl (fun i => nI ((va_up NP (n9 + 1) 0) i))))] := S
  have hlu := hw9
  refine lv_goto (tgt := 154) hx hb d_Mo_secondOf_105 (by decide) ?_
  exact r_vret C K lu hlu (S.sub [3, 0, 1, 4, 5, 6, 7, 8, 2] (by decide) rfl) d_Mo_secondOf_154 (Nat.le_of_ble_eq_true rfl) (Nat.le_of_ble_eq_true rfl)
theorem l1_n {v : Nat} (h : v ≤ 1000) : l1 (lN v) ≤ 1000 := by
  unfold l1
  show (Int64.ofNat v).toInt.natAbs ≤ 1000
  rw [Int64.toInt_ofNat_of_lt (by omega)]
  omega
set_option maxRecDepth 100000 in
set_option maxHeartbeats 16000000 in
/-- secondOf, kind 2 -/
theorem g_Mo_secondOf_2 (l : Launch) (G : va_G) (k : Nat → ClassId) (h0 : Nat) (s0 : Nat) (f9 : Nat) (b9 : Nat) (p9 : Nat) (kn : Nat) (n9 : Nat) (rd : Nat) (ma : Nat → Nat) (iv : Nat → Int32) (co : Int64) (wd : Nat → Int32) (L : Nat → Int64) (NB : Nat → Nat) (NQ : Nat → Nat) (hf : f9 < 4) (hbk : b9 < rd) (hrd : rd < 40) (hn : n9 < 20) (hp : p9 + 1 ≤ 200) (hk : wdF wd f9 p9 = 2) : CV l y_Mo_secondOf c_Mo_secondOf 7 { frames := 2, cells := 0, slots := 0, locals := 46 } [.ref h0, .int (nI f9), .int (nI b9), .int (nI p9), .int (nI kn)] G k s0 [(h0, .inr (8, moL ma (va_up (va_up iv 17 (nI (n9 + 1))) 18 (nI rd)) co)), ((ma 1), .inl (k 0, 800, .inl wd)), ((ma 13), .inl (k 1, 36982, .inr (.inl L))), ((ma 16), .inl (k 0, 20, .inl (fun i => nI (NB i)))), ((ma 20), .inl (k 0, 20, .inl (fun i => nI (NQ i))))] (fun (u : Nat → Int64) => (∀ k9, k9 < 19 → lz u (22 * b9 + k9) = lz L (22 * rd + k9)) ∧ lz u (22 * b9 + 19) ≤ lz L (22 * rd + 19) + 0 ∧ ∀ x, x < 22 * b9 ∨ 22 * b9 + 20 ≤ x → lz u x = lz L x) (fun u => [(h0, .inr (8, moL ma (va_up (va_up iv 17 (nI n9)) 18 (nI (NB n9))) co)), ((ma 1), .inl (k 0, 800, .inl wd)), ((ma 13), .inl (k 1, 36982, .inr (.inl u))), ((ma 16), .inl (k 0, 20, .inl (fun i => nI (NB i)))), ((ma 20), .inl (k 0, 20, .inl (fun i => nI ((va_up NQ n9 rd) i))))]) 0 0 := by
  refine met_start (by decide) (Nat.le_of_ble_eq_true rfl) ?_
  intro p e s m below meth c C K hA hsz S ls hl
  generalize va_A [(h0, .inr (8, moL ma (va_up (va_up iv 17 (nI (n9 + 1))) 18 (nI rd)) co)), ((ma 1), .inl (k 0, 800, .inl wd)), ((ma 13), .inl (k 1, 36982, .inr (.inl L))), ((ma 16), .inl (k 0, 20, .inl (fun i => nI (NB i)))), ((ma 20), .inl (k 0, 20, .inl (fun i => nI (NQ i))))] s0 = A at hA S ⊢
  have hx := C.1
  have hb := C.2.1
  have hl : lv_has ls 7 [(0, .ref h0), (1, .int (nI f9)), (2, .int (nI b9)), (3, .int (nI p9)), (4, .int (nI kn))] := hl
  refine lv_sipush (v := 200) hx hb d_Mo_secondOf_0 (by decide) ?_
  refine lv_iload_n hx hb d_Mo_secondOf_3 rfl (lv_at hl 1 rfl) ?_
  refine z_imul (x := 200) (y := nI f9) (v := nI (200 * f9)) hx hb d_Mo_secondOf_4 (pk_mul 200 f9) ?_
  refine lv_iload_n hx hb d_Mo_secondOf_5 rfl (lv_at hl 3 rfl) ?_
  refine z_iadd (x := nI (200 * f9)) (y := nI p9) (v := nI (200 * f9 + p9)) hx hb d_Mo_secondOf_6 (nI_add (200 * f9) p9) ?_
  refine lv_istore (lv' := [(5, .int (nI (200 * f9 + p9))), (0, .ref h0), (1, .int (nI f9)), (2, .int (nI b9)), (3, .int (nI p9)), (4, .int (nI kn))]) hx hb d_Mo_secondOf_7 hl (by decide) rfl (fun ls hl => ?_)
  refine lv_aload_n hx hb d_Mo_secondOf_9 rfl (lv_at hl 1 rfl) ?_
  refine r_get C K S 0 rfl rfl clOk_Mo 2 (by decide) wf_Mo_13 (v := .ref (ma 1)) rfl d_Mo_secondOf_10 ?_
  refine lv_iload hx hb d_Mo_secondOf_13 (lv_at hl 0 rfl) ?_
  refine r_iald C K S 1 rfl (i := nI (200 * f9 + p9)) (show vp_in (nI (200 * f9 + p9)) _ from vp_in_nI (n := (200 * f9 + p9)) (by omega) (by decide)) (v := wdF wd f9 p9) (by rw [nI_clamp (by omega)]; exact (show wd (200 * f9 + p9) = wd (200 * f9 + p9) from congrArg wd (by omega))) d_Mo_secondOf_15 ?_
  refine lv_istore (lv' := [(6, .int (wdF wd f9 p9)), (5, .int (nI (200 * f9 + p9))), (0, .ref h0), (1, .int (nI f9)), (2, .int (nI b9)), (3, .int (nI p9)), (4, .int (nI kn))]) hx hb d_Mo_secondOf_16 hl (by decide) rfl (fun ls hl => ?_)
  refine lv_aload_n hx hb d_Mo_secondOf_18 rfl (lv_at hl 2 rfl) ?_
  refine r_get C K S 0 rfl rfl clOk_Mo 39 (by decide) wf_Mo_79 (v := .ref (ma 20)) rfl d_Mo_secondOf_19 ?_
  refine lv_aload_n hx hb d_Mo_secondOf_22 rfl (lv_at hl 2 rfl) ?_
  refine r_get C K S 0 rfl rfl clOk_Mo 34 (by decide) wf_Mo_221 (v := .int (nI (n9 + 1))) rfl d_Mo_secondOf_23 ?_
  refine lv_iconst (v := 1) hx hb d_Mo_secondOf_26 (by decide) ?_
  refine z_isub (x := nI (n9 + 1)) (y := 1) (v := nI (n9 + 1 - 1)) hx hb d_Mo_secondOf_27 (pk_sub (a := (n9 + 1)) (b := 1) (by omega)) ?_
  refine lv_aload_n hx hb d_Mo_secondOf_28 rfl (lv_at hl 2 rfl) ?_
  refine r_get C K S 0 rfl rfl clOk_Mo 40 (by decide) wf_Mo_241 (v := .int (nI rd)) rfl d_Mo_secondOf_29 ?_
  refine r_iast C K S 4 rfl (i := nI (n9 + 1 - 1)) (x := nI rd) (show vp_in (nI (n9 + 1 - 1)) _ from vp_in_nI (n := (n9 + 1 - 1)) (by omega) (by decide)) (f' := fun i => nI (va_up NQ (n9 + 1 - 1) rd i)) (ws' := [(h0, .inr (8, moL ma (va_up (va_up iv 17 (nI (n9 + 1))) 18 (nI rd)) co)), ((ma 1), .inl (k 0, 800, .inl wd)), ((ma 13), .inl (k 1, 36982, .inr (.inl L))), ((ma 16), .inl (k 0, 20, .inl (fun i => nI (NB i)))), ((ma 20), .inl (k 0, 20, .inl (fun i => nI (va_up NQ (n9 + 1 - 1) rd i))))]) (show upd _ (nI (n9 + 1 - 1) : Int32).toNatClampNeg (nI rd) = _ from upd_nI NQ (j := (n9 + 1 - 1)) (by omega) rd) rfl d_Mo_secondOf_32 (fun H locs S => ?_)
  have S : Sw G A s.heap H locs [(h0, .inr (8, moL ma (va_up (va_up iv 17 (nI (n9 + 1))) 18 (nI rd)) co)), ((ma 1), .inl (k 0, 800, .inl wd)), ((ma 13), .inl (k 1, 36982, .inr (.inl L))), ((ma 16), .inl (k 0, 20, .inl (fun i => nI (NB i)))), ((ma 20), .inl (k 0, 20, .inl (fun i => nI ((va_up NQ n9 rd) i))))] := S
  refine lv_iload hx hb d_Mo_secondOf_33 (lv_at hl 0 rfl) ?_
  refine lv_bipush (v := 6) hx hb d_Mo_secondOf_35 (by decide) ?_
  refine lv_icmp_ne (tgt := 70) hx hb d_Mo_secondOf_37 (by decide) (fun _ => ?_) (fun hq => absurd hq (by rw [hk]; decide))
  refine lv_iload hx hb d_Mo_secondOf_70 (lv_at hl 0 rfl) ?_
  refine lv_iconst (v := 3) hx hb d_Mo_secondOf_72 (by decide) ?_
  refine lv_icmp_ne (tgt := 108) hx hb d_Mo_secondOf_73 (by decide) (fun _ => ?_) (fun hq => absurd hq (by rw [hk]; decide))
  refine lv_aload_n hx hb d_Mo_secondOf_108 rfl (lv_at hl 2 rfl) ?_
  refine lv_iload_n hx hb d_Mo_secondOf_109 rfl (lv_at hl 4 rfl) ?_
  refine lv_aload_n hx hb d_Mo_secondOf_110 rfl (lv_at hl 2 rfl) ?_
  refine r_get C K S 0 rfl rfl clOk_Mo 40 (by decide) wf_Mo_241 (v := .int (nI rd)) rfl d_Mo_secondOf_111 ?_
  refine r_backv (wi := [(h0, .inr (8, moL ma (va_up (va_up iv 17 (nI (n9 + 1))) 18 (nI rd)) co)), ((ma 13), .inl (k 1, 36982, .inr (.inl L)))]) (wr := [((ma 1), .inl (k 0, 800, .inl wd)), ((ma 16), .inl (k 0, 20, .inl (fun i => nI (NB i)))), ((ma 20), .inl (k 0, 20, .inl (fun i => nI ((va_up NQ n9 rd) i))))]) S hA [0, 2] [1, 3, 4] rfl rfl (by decide) (by decide) (va_runV (As := [.int (nI b9), .int (nI rd)]) (rest := []) ⟨hx, hb, C.2.2.1, C.2.2.2.1, C.2.2.2.2.1⟩ (g_Mo_keepAll l G k h0 _ b9 rd ma (va_up (va_up iv 17 (nI (n9 + 1))) 18 (nI rd)) co L (by omega) (by omega) (by omega)) (k_virt (n := 2) C wc_Mo_keepAll rfl rfl wz_Mo wm_Mo_244 wn_Mo_keepAll ws_Mo_keepAll (by decide +kernel) ⟨(Nat.le_of_ble_eq_true rfl), (Nat.le_of_ble_eq_true rfl)⟩) (pr_nowV K S [0, 2] (by decide) rfl 0 rfl rfl) rfl rfl hl.1 rfl (lv_room (Nat.le_of_ble_eq_true rfl)) d_Mo_secondOf_114 ⟨(Nat.le_of_ble_eq_true rfl), (Nat.le_of_ble_eq_true rfl)⟩) (fun lu H locs hw1 S => ?_)
  have S : Sw G A s.heap _ _ [((ma 1), .inl (k 0, 800, .inl wd)), ((ma 16), .inl (k 0, 20, .inl (fun i => nI (NB i)))), ((ma 20), .inl (k 0, 20, .inl (fun i => nI ((va_up NQ n9 rd) i)))), (h0, .inr (8, moL ma (va_up (va_up iv 17 (nI (n9 + 1))) 18 (nI rd)) co)), ((ma 13), .inl (k 1, 36982, .inr (.inl lu)))] := S
  have hlu := hw1
  refine lv_iload hx hb d_Mo_secondOf_117 (lv_at hl 0 rfl) ?_
  refine lv_iconst (v := 4) hx hb d_Mo_secondOf_119 (by decide) ?_
  refine lv_icmp_ne (tgt := 150) hx hb d_Mo_secondOf_120 (by decide) (fun _ => ?_) (fun hq => absurd hq (by rw [hk]; decide))
  refine lv_aload_n hx hb d_Mo_secondOf_150 rfl (lv_at hl 2 rfl) ?_
  refine r_backv (wi := [(h0, .inr (8, moL ma (va_up (va_up iv 18 (nI rd)) 17 (nI (n9 + 1))) co)), ((ma 16), .inl (k 0, 20, .inl (fun i => nI (NB i))))]) (wr := [((ma 1), .inl (k 0, 800, .inl wd)), ((ma 20), .inl (k 0, 20, .inl (fun i => nI ((va_up NQ n9 rd) i)))), ((ma 13), .inl (k 1, 36982, .inr (.inl lu)))]) S hA [3, 1] [0, 2, 4] rfl rfl (by decide) (by decide) (va_runV (As := []) (rest := []) ⟨hx, hb, C.2.2.1, C.2.2.2.1, C.2.2.2.2.1⟩ (g_Mo_endNeed l G k h0 _ n9 ma (va_up iv 18 (nI rd)) co NB hn) (k_virt (n := 0) C wc_Mo_endNeed rfl rfl wz_Mo wm_Mo_238 wn_Mo_endNeed ws_Mo_endNeed (by decide +kernel) ⟨(Nat.le_of_ble_eq_true rfl), (Nat.le_of_ble_eq_true rfl)⟩) (pr_nowV K S [3, 1] (by decide) rfl 3 rfl rfl) rfl rfl hl.1 rfl (lv_room (Nat.le_of_ble_eq_true rfl)) d_Mo_secondOf_151 ⟨(Nat.le_of_ble_eq_true rfl), (Nat.le_of_ble_eq_true rfl)⟩) (fun u2 H locs hw3 S => ?_)
  have S : Sw G A s.heap _ _ [((ma 1), .inl (k 0, 800, .inl wd)), ((ma 20), .inl (k 0, 20, .inl (fun i => nI ((va_up NQ n9 rd) i)))), ((ma 13), .inl (k 1, 36982, .inr (.inl lu))), (h0, .inr (8, moL ma (va_up (va_up iv 17 (nI n9)) 18 (nI (NB n9))) co)), ((ma 16), .inl (k 0, 20, .inl (fun i => nI (NB i))))] := S
  exact r_vret C K lu ⟨fun k9 hk => hlu.1 k9 (by omega), Nat.le_of_eq (hlu.1 19 (by omega)), hlu.2⟩ (S.sub [3, 0, 2, 4, 1] (by decide) rfl) d_Mo_secondOf_154 (Nat.le_of_ble_eq_true rfl) (Nat.le_of_ble_eq_true rfl)
set_option maxRecDepth 100000 in
set_option maxHeartbeats 16000000 in
/-- secondOf, kind 4 -/
theorem g_Mo_secondOf_4 (l : Launch) (G : va_G) (k : Nat → ClassId) (h0 : Nat) (s0 : Nat) (f9 : Nat) (b9 : Nat) (p9 : Nat) (kn : Nat) (n9 : Nat) (rd : Nat) (v9 : Nat) (ma : Nat → Nat) (iv : Nat → Int32) (co : Int64) (wd : Nat → Int32) (L : Nat → Int64) (NB : Nat → Nat) (NQ : Nat → Nat) (hf : f9 < 4) (hbk : b9 < rd) (hrd : rd < 40) (hn : n9 < 20) (hp : p9 + 2 ≤ 200) (hk : wdF wd f9 p9 = 4) (hv : wdF wd f9 (p9 + 1) = nI v9) (hv2 : v9 ≤ 1000) : CV l y_Mo_secondOf c_Mo_secondOf 7 { frames := 2, cells := 0, slots := 0, locals := 46 } [.ref h0, .int (nI f9), .int (nI b9), .int (nI p9), .int (nI kn)] G k s0 [(h0, .inr (8, moL ma (va_up (va_up iv 17 (nI (n9 + 1))) 18 (nI rd)) co)), ((ma 1), .inl (k 0, 800, .inl wd)), ((ma 13), .inl (k 1, 36982, .inr (.inl L))), ((ma 16), .inl (k 0, 20, .inl (fun i => nI (NB i)))), ((ma 20), .inl (k 0, 20, .inl (fun i => nI (NQ i))))] (fun (u : Nat → Int64) => (∀ k9, k9 < 19 → lz u (22 * b9 + k9) = lz L (22 * rd + k9)) ∧ lz u (22 * b9 + 19) ≤ lz L (22 * rd + 19) + 1000 ∧ ∀ x, x < 22 * b9 ∨ 22 * b9 + 20 ≤ x → lz u x = lz L x) (fun u => [(h0, .inr (8, moL ma (va_up (va_up iv 17 (nI n9)) 18 (nI (NB n9))) co)), ((ma 1), .inl (k 0, 800, .inl wd)), ((ma 13), .inl (k 1, 36982, .inr (.inl u))), ((ma 16), .inl (k 0, 20, .inl (fun i => nI (NB i)))), ((ma 20), .inl (k 0, 20, .inl (fun i => nI ((va_up NQ n9 rd) i))))]) 0 0 := by
  refine met_start (by decide) (Nat.le_of_ble_eq_true rfl) ?_
  intro p e s m below meth c C K hA hsz S ls hl
  generalize va_A [(h0, .inr (8, moL ma (va_up (va_up iv 17 (nI (n9 + 1))) 18 (nI rd)) co)), ((ma 1), .inl (k 0, 800, .inl wd)), ((ma 13), .inl (k 1, 36982, .inr (.inl L))), ((ma 16), .inl (k 0, 20, .inl (fun i => nI (NB i)))), ((ma 20), .inl (k 0, 20, .inl (fun i => nI (NQ i))))] s0 = A at hA S ⊢
  have hx := C.1
  have hb := C.2.1
  have hl : lv_has ls 7 [(0, .ref h0), (1, .int (nI f9)), (2, .int (nI b9)), (3, .int (nI p9)), (4, .int (nI kn))] := hl
  refine lv_sipush (v := 200) hx hb d_Mo_secondOf_0 (by decide) ?_
  refine lv_iload_n hx hb d_Mo_secondOf_3 rfl (lv_at hl 1 rfl) ?_
  refine z_imul (x := 200) (y := nI f9) (v := nI (200 * f9)) hx hb d_Mo_secondOf_4 (pk_mul 200 f9) ?_
  refine lv_iload_n hx hb d_Mo_secondOf_5 rfl (lv_at hl 3 rfl) ?_
  refine z_iadd (x := nI (200 * f9)) (y := nI p9) (v := nI (200 * f9 + p9)) hx hb d_Mo_secondOf_6 (nI_add (200 * f9) p9) ?_
  refine lv_istore (lv' := [(5, .int (nI (200 * f9 + p9))), (0, .ref h0), (1, .int (nI f9)), (2, .int (nI b9)), (3, .int (nI p9)), (4, .int (nI kn))]) hx hb d_Mo_secondOf_7 hl (by decide) rfl (fun ls hl => ?_)
  refine lv_aload_n hx hb d_Mo_secondOf_9 rfl (lv_at hl 1 rfl) ?_
  refine r_get C K S 0 rfl rfl clOk_Mo 2 (by decide) wf_Mo_13 (v := .ref (ma 1)) rfl d_Mo_secondOf_10 ?_
  refine lv_iload hx hb d_Mo_secondOf_13 (lv_at hl 0 rfl) ?_
  refine r_iald C K S 1 rfl (i := nI (200 * f9 + p9)) (show vp_in (nI (200 * f9 + p9)) _ from vp_in_nI (n := (200 * f9 + p9)) (by omega) (by decide)) (v := wdF wd f9 p9) (by rw [nI_clamp (by omega)]; exact (show wd (200 * f9 + p9) = wd (200 * f9 + p9) from congrArg wd (by omega))) d_Mo_secondOf_15 ?_
  refine lv_istore (lv' := [(6, .int (wdF wd f9 p9)), (5, .int (nI (200 * f9 + p9))), (0, .ref h0), (1, .int (nI f9)), (2, .int (nI b9)), (3, .int (nI p9)), (4, .int (nI kn))]) hx hb d_Mo_secondOf_16 hl (by decide) rfl (fun ls hl => ?_)
  refine lv_aload_n hx hb d_Mo_secondOf_18 rfl (lv_at hl 2 rfl) ?_
  refine r_get C K S 0 rfl rfl clOk_Mo 39 (by decide) wf_Mo_79 (v := .ref (ma 20)) rfl d_Mo_secondOf_19 ?_
  refine lv_aload_n hx hb d_Mo_secondOf_22 rfl (lv_at hl 2 rfl) ?_
  refine r_get C K S 0 rfl rfl clOk_Mo 34 (by decide) wf_Mo_221 (v := .int (nI (n9 + 1))) rfl d_Mo_secondOf_23 ?_
  refine lv_iconst (v := 1) hx hb d_Mo_secondOf_26 (by decide) ?_
  refine z_isub (x := nI (n9 + 1)) (y := 1) (v := nI (n9 + 1 - 1)) hx hb d_Mo_secondOf_27 (pk_sub (a := (n9 + 1)) (b := 1) (by omega)) ?_
  refine lv_aload_n hx hb d_Mo_secondOf_28 rfl (lv_at hl 2 rfl) ?_
  refine r_get C K S 0 rfl rfl clOk_Mo 40 (by decide) wf_Mo_241 (v := .int (nI rd)) rfl d_Mo_secondOf_29 ?_
  refine r_iast C K S 4 rfl (i := nI (n9 + 1 - 1)) (x := nI rd) (show vp_in (nI (n9 + 1 - 1)) _ from vp_in_nI (n := (n9 + 1 - 1)) (by omega) (by decide)) (f' := fun i => nI (va_up NQ (n9 + 1 - 1) rd i)) (ws' := [(h0, .inr (8, moL ma (va_up (va_up iv 17 (nI (n9 + 1))) 18 (nI rd)) co)), ((ma 1), .inl (k 0, 800, .inl wd)), ((ma 13), .inl (k 1, 36982, .inr (.inl L))), ((ma 16), .inl (k 0, 20, .inl (fun i => nI (NB i)))), ((ma 20), .inl (k 0, 20, .inl (fun i => nI (va_up NQ (n9 + 1 - 1) rd i))))]) (show upd _ (nI (n9 + 1 - 1) : Int32).toNatClampNeg (nI rd) = _ from upd_nI NQ (j := (n9 + 1 - 1)) (by omega) rd) rfl d_Mo_secondOf_32 (fun H locs S => ?_)
  have S : Sw G A s.heap H locs [(h0, .inr (8, moL ma (va_up (va_up iv 17 (nI (n9 + 1))) 18 (nI rd)) co)), ((ma 1), .inl (k 0, 800, .inl wd)), ((ma 13), .inl (k 1, 36982, .inr (.inl L))), ((ma 16), .inl (k 0, 20, .inl (fun i => nI (NB i)))), ((ma 20), .inl (k 0, 20, .inl (fun i => nI ((va_up NQ n9 rd) i))))] := S
  refine lv_iload hx hb d_Mo_secondOf_33 (lv_at hl 0 rfl) ?_
  refine lv_bipush (v := 6) hx hb d_Mo_secondOf_35 (by decide) ?_
  refine lv_icmp_ne (tgt := 70) hx hb d_Mo_secondOf_37 (by decide) (fun _ => ?_) (fun hq => absurd hq (by rw [hk]; decide))
  refine lv_iload hx hb d_Mo_secondOf_70 (lv_at hl 0 rfl) ?_
  refine lv_iconst (v := 3) hx hb d_Mo_secondOf_72 (by decide) ?_
  refine lv_icmp_ne (tgt := 108) hx hb d_Mo_secondOf_73 (by decide) (fun _ => ?_) (fun hq => absurd hq (by rw [hk]; decide))
  refine lv_aload_n hx hb d_Mo_secondOf_108 rfl (lv_at hl 2 rfl) ?_
  refine lv_iload_n hx hb d_Mo_secondOf_109 rfl (lv_at hl 4 rfl) ?_
  refine lv_aload_n hx hb d_Mo_secondOf_110 rfl (lv_at hl 2 rfl) ?_
  refine r_get C K S 0 rfl rfl clOk_Mo 40 (by decide) wf_Mo_241 (v := .int (nI rd)) rfl d_Mo_secondOf_111 ?_
  refine r_backv (wi := [(h0, .inr (8, moL ma (va_up (va_up iv 17 (nI (n9 + 1))) 18 (nI rd)) co)), ((ma 13), .inl (k 1, 36982, .inr (.inl L)))]) (wr := [((ma 1), .inl (k 0, 800, .inl wd)), ((ma 16), .inl (k 0, 20, .inl (fun i => nI (NB i)))), ((ma 20), .inl (k 0, 20, .inl (fun i => nI ((va_up NQ n9 rd) i))))]) S hA [0, 2] [1, 3, 4] rfl rfl (by decide) (by decide) (va_runV (As := [.int (nI b9), .int (nI rd)]) (rest := []) ⟨hx, hb, C.2.2.1, C.2.2.2.1, C.2.2.2.2.1⟩ (g_Mo_keepAll l G k h0 _ b9 rd ma (va_up (va_up iv 17 (nI (n9 + 1))) 18 (nI rd)) co L (by omega) (by omega) (by omega)) (k_virt (n := 2) C wc_Mo_keepAll rfl rfl wz_Mo wm_Mo_244 wn_Mo_keepAll ws_Mo_keepAll (by decide +kernel) ⟨(Nat.le_of_ble_eq_true rfl), (Nat.le_of_ble_eq_true rfl)⟩) (pr_nowV K S [0, 2] (by decide) rfl 0 rfl rfl) rfl rfl hl.1 rfl (lv_room (Nat.le_of_ble_eq_true rfl)) d_Mo_secondOf_114 ⟨(Nat.le_of_ble_eq_true rfl), (Nat.le_of_ble_eq_true rfl)⟩) (fun lu H locs hw1 S => ?_)
  have S : Sw G A s.heap _ _ [((ma 1), .inl (k 0, 800, .inl wd)), ((ma 16), .inl (k 0, 20, .inl (fun i => nI (NB i)))), ((ma 20), .inl (k 0, 20, .inl (fun i => nI ((va_up NQ n9 rd) i)))), (h0, .inr (8, moL ma (va_up (va_up iv 17 (nI (n9 + 1))) 18 (nI rd)) co)), ((ma 13), .inl (k 1, 36982, .inr (.inl lu)))] := S
  have hlu := hw1
  refine lv_iload hx hb d_Mo_secondOf_117 (lv_at hl 0 rfl) ?_
  refine lv_iconst (v := 4) hx hb d_Mo_secondOf_119 (by decide) ?_
  refine lv_icmp_ne (tgt := 150) hx hb d_Mo_secondOf_120 (by decide) (fun hq => absurd hk hq) (fun _ => ?_)
  refine lv_aload_n hx hb d_Mo_secondOf_123 rfl (lv_at hl 2 rfl) ?_
  refine r_get C K S 3 rfl rfl clOk_Mo 27 (by decide) wf_Mo_57 (v := .ref (ma 13)) rfl d_Mo_secondOf_124 ?_
  refine lv_iload_n hx hb d_Mo_secondOf_127 rfl (lv_at hl 4 rfl) ?_
  refine lv_bipush (v := 19) hx hb d_Mo_secondOf_128 (by decide) ?_
  refine r_backi (wi := []) (wr := [((ma 1), .inl (k 0, 800, .inl wd)), ((ma 16), .inl (k 0, 20, .inl (fun i => nI (NB i)))), ((ma 20), .inl (k 0, 20, .inl (fun i => nI ((va_up NQ n9 rd) i)))), (h0, .inr (8, moL ma (va_up (va_up iv 17 (nI (n9 + 1))) 18 (nI rd)) co)), ((ma 13), .inl (k 1, 36982, .inr (.inl lu)))]) S hA [] [0, 1, 2, 3, 4] rfl rfl (by decide) (by decide) (va_runS (As := [.int (nI b9), .int 19]) (rest := [.ref (ma 13)]) ⟨hx, hb, C.2.2.1, C.2.2.2.1, C.2.2.2.2.1⟩ (g_Mo_line l G k _ b9 19) (k_stat (n := 2) C wc_Mo_line rfl rfl wz_Mo wm_Mo_211 wt_Mo_line (by decide +kernel) ⟨(Nat.le_of_ble_eq_true rfl), (Nat.le_of_ble_eq_true rfl)⟩) (pr_now K S [] (by decide) rfl) rfl rfl hl.1 rfl (lv_room (Nat.le_of_ble_eq_true rfl)) d_Mo_secondOf_130 ⟨(Nat.le_of_ble_eq_true rfl), (Nat.le_of_ble_eq_true rfl)⟩) (fun r4 u2 H locs hw3 S => ?_)
  have S : Sw G A s.heap _ _ [((ma 1), .inl (k 0, 800, .inl wd)), ((ma 16), .inl (k 0, 20, .inl (fun i => nI (NB i)))), ((ma 20), .inl (k 0, 20, .inl (fun i => nI ((va_up NQ n9 rd) i)))), (h0, .inr (8, moL ma (va_up (va_up iv 17 (nI (n9 + 1))) 18 (nI rd)) co)), ((ma 13), .inl (k 1, 36982, .inr (.inl lu)))] := S
  obtain rfl : r4 = nI ((22 * b9 + 19) * 41) := hw3
  refine lv_bipush (v := 40) hx hb d_Mo_secondOf_133 (by decide) ?_
  refine z_iadd (x := nI ((22 * b9 + 19) * 41)) (y := 40) (v := nI ((22 * b9 + 19) * 41 + 40)) hx hb d_Mo_secondOf_135 (nI_add ((22 * b9 + 19) * 41) 40) ?_
  refine lv_dup2_11 hx hb d_Mo_secondOf_136 rfl rfl ?_
  refine r_lald C K S 4 rfl (i := nI ((22 * b9 + 19) * 41 + 40)) (show vp_in (nI ((22 * b9 + 19) * 41 + 40)) _ from vp_in_nI (n := ((22 * b9 + 19) * 41 + 40)) (by omega) (by decide)) (v := lu ((22 * b9 + 19) * 41 + 40)) (by rw [nI_clamp (by omega)]) d_Mo_secondOf_137 ?_
  refine lv_aload_n hx hb d_Mo_secondOf_138 rfl (lv_at hl 2 rfl) ?_
  refine r_get C K S 3 rfl rfl clOk_Mo 2 (by decide) wf_Mo_13 (v := .ref (ma 1)) rfl d_Mo_secondOf_139 ?_
  refine lv_iload hx hb d_Mo_secondOf_142 (lv_at hl 1 rfl) ?_
  refine lv_iconst (v := 1) hx hb d_Mo_secondOf_144 (by decide) ?_
  refine z_iadd (x := nI (200 * f9 + p9)) (y := 1) (v := nI (200 * f9 + p9 + 1)) hx hb d_Mo_secondOf_145 (nI_add (200 * f9 + p9) 1) ?_
  refine r_iald C K S 0 rfl (i := nI (200 * f9 + p9 + 1)) (show vp_in (nI (200 * f9 + p9 + 1)) _ from vp_in_nI (n := (200 * f9 + p9 + 1)) (by omega) (by decide)) (v := wdF wd f9 (p9 + 1)) (by rw [nI_clamp (by omega)]; exact (show wd (200 * f9 + p9 + 1) = wd (200 * f9 + (p9 + 1)) from congrArg wd (by omega))) d_Mo_secondOf_146 ?_
  rw [hv]
  refine lv_i2l (v := lN v9) hx hb d_Mo_secondOf_147 (show (nI v9 : Int32).toInt64 = _ from nI_l (n := v9) (by omega)) ?_
  refine lv_ladd hx hb d_Mo_secondOf_148 ?_
  refine r_last C K S 4 rfl (i := nI ((22 * b9 + 19) * 41 + 40)) (x := (lu ((22 * b9 + 19) * 41 + 40)) + (lN v9)) (show vp_in (nI ((22 * b9 + 19) * 41 + 40)) _ from vp_in_nI (n := ((22 * b9 + 19) * 41 + 40)) (by omega) (by decide)) (f' := va_up lu ((22 * b9 + 19) * 41 + 40) ((lu ((22 * b9 + 19) * 41 + 40)) + (lN v9))) (ws' := [((ma 1), .inl (k 0, 800, .inl wd)), ((ma 16), .inl (k 0, 20, .inl (fun i => nI (NB i)))), ((ma 20), .inl (k 0, 20, .inl (fun i => nI ((va_up NQ n9 rd) i)))), (h0, .inr (8, moL ma (va_up (va_up iv 17 (nI (n9 + 1))) 18 (nI rd)) co)), ((ma 13), .inl (k 1, 36982, .inr (.inl (va_up lu ((22 * b9 + 19) * 41 + 40) ((lu ((22 * b9 + 19) * 41 + 40)) + (lN v9))))))]) (show vp_updL _ (nI ((22 * b9 + 19) * 41 + 40) : Int32).toNatClampNeg _ = _ from vp_updL_eq lu (j := ((22 * b9 + 19) * 41 + 40)) (by omega) ((lu ((22 * b9 + 19) * 41 + 40)) + (lN v9))) rfl d_Mo_secondOf_149 (fun H locs S => ?_)
  obtain ⟨L8, he_L8⟩ : ∃ x9 : Nat → Int64, x9 = va_up lu ((22 * b9 + 19) * 41 + 40) ((lu ((22 * b9 + 19) * 41 + 40)) + (lN v9)) := ⟨_, rfl⟩
  have j1 : lz L8 (22 * b9 + 19) ≤ lz lu (22 * b9 + 19) + 1000 := by rw [he_L8]; exact lz_inc (Nat.le_trans (l1_add _ _) (Nat.add_le_add_left (l1_n hv2) _))
  have j2 : ∀ x, x ≠ 22 * b9 + 19 → lz L8 x = lz lu x := by rw [he_L8]; exact fun x hx => lz_up_ne (by omega) hx
  have S : Sw G A s.heap H locs [((ma 1), .inl (k 0, 800, .inl wd)), ((ma 16), .inl (k 0, 20, .inl (fun i => nI (NB i)))), ((ma 20), .inl (k 0, 20, .inl (fun i => nI ((va_up NQ n9 rd) i)))), (h0, .inr (8, moL ma (va_up (va_up iv 17 (nI (n9 + 1))) 18 (nI rd)) co)), ((ma 13), .inl (k 1, 36982, .inr (.inl L8)))] := by rw [he_L8]; exact S
  refine lv_aload_n hx hb d_Mo_secondOf_150 rfl (lv_at hl 2 rfl) ?_
  refine r_backv (wi := [(h0, .inr (8, moL ma (va_up (va_up iv 18 (nI rd)) 17 (nI (n9 + 1))) co)), ((ma 16), .inl (k 0, 20, .inl (fun i => nI (NB i))))]) (wr := [((ma 1), .inl (k 0, 800, .inl wd)), ((ma 20), .inl (k 0, 20, .inl (fun i => nI ((va_up NQ n9 rd) i)))), ((ma 13), .inl (k 1, 36982, .inr (.inl L8)))]) S hA [3, 1] [0, 2, 4] rfl rfl (by decide) (by decide) (va_runV (As := []) (rest := []) ⟨hx, hb, C.2.2.1, C.2.2.2.1, C.2.2.2.2.1⟩ (g_Mo_endNeed l G k h0 _ n9 ma (va_up iv 18 (nI rd)) co NB hn) (k_virt (n := 0) C wc_Mo_endNeed rfl rfl wz_Mo wm_Mo_238 wn_Mo_endNeed ws_Mo_endNeed (by decide +kernel) ⟨(Nat.le_of_ble_eq_true rfl), (Nat.le_of_ble_eq_true rfl)⟩) (pr_nowV K S [3, 1] (by decide) rfl 3 rfl rfl) rfl rfl hl.1 rfl (lv_room (Nat.le_of_ble_eq_true rfl)) d_Mo_secondOf_151 ⟨(Nat.le_of_ble_eq_true rfl), (Nat.le_of_ble_eq_true rfl)⟩) (fun u6 H locs hw7 S => ?_)
  have S : Sw G A s.heap _ _ [((ma 1), .inl (k 0, 800, .inl wd)), ((ma 20), .inl (k 0, 20, .inl (fun i => nI ((va_up NQ n9 rd) i)))), ((ma 13), .inl (k 1, 36982, .inr (.inl L8))), (h0, .inr (8, moL ma (va_up (va_up iv 17 (nI n9)) 18 (nI (NB n9))) co)), ((ma 16), .inl (k 0, 20, .inl (fun i => nI (NB i))))] := S
  exact r_vret C K L8 ⟨fun k9 hk => by rw [j2 _ (by omega)]; exact hlu.1 k9 (by omega), by have := hlu.1 19 (by omega); omega, fun x hx => by rw [j2 x (by omega)]; exact hlu.2 x hx⟩ (S.sub [3, 0, 2, 4, 1] (by decide) rfl) d_Mo_secondOf_154 (Nat.le_of_ble_eq_true rfl) (Nat.le_of_ble_eq_true rfl)
theorem t_step {L L9 : Nat → Int64} {b9 rd pt t : Nat} (hpt : b9 < pt) (ht : t < 19) (hz : ∀ k9, k9 < 20 → lz L9 (22 * b9 + k9) ≤ lz L (22 * rd + k9) + (if k9 < t then lz L (22 * pt + k9) else 0)) (ho : ∀ x, x < 22 * b9 ∨ 22 * b9 + 20 ≤ x → lz L9 x = lz L x) : ∀ k9, k9 < 20 → lz (lnA L9 ((22 * pt + t) * 41) ((22 * b9 + t) * 41) 41) (22 * b9 + k9) ≤ lz L (22 * rd + k9) + (if k9 < t + 1 then lz L (22 * pt + k9) else 0) := by
  intro k9 hk
  have h1 := hz k9 hk
  by_cases q : k9 = t
  · subst q
    rw [if_neg (Nat.lt_irrefl _)] at h1
    rw [if_pos (Nat.lt_succ_self _)]
    refine Nat.le_trans lz_A ?_
    rw [ho (22 * pt + k9) (by omega)]
    omega
  · rw [lz_A_ne (by omega)]
    by_cases w : k9 < t
    · rw [if_pos w] at h1
      rw [if_pos (by omega)]
      exact h1
    · rw [if_neg w] at h1
      rw [if_neg (by omega)]
      exact h1
theorem d_Mo_thirdOf_0 : decode c_Mo_thirdOf 0 = .ok (.aload_n 0, 1) := by decide +kernel
theorem d_Mo_thirdOf_1 : decode c_Mo_thirdOf 1 = .ok (.getfield 79, 3) := by decide +kernel
theorem d_Mo_thirdOf_4 : decode c_Mo_thirdOf 4 = .ok (.aload_n 0, 1) := by decide +kernel
theorem d_Mo_thirdOf_5 : decode c_Mo_thirdOf 5 = .ok (.getfield 221, 3) := by decide +kernel
theorem d_Mo_thirdOf_8 : decode c_Mo_thirdOf 8 = .ok (.iconst 1, 1) := by decide +kernel
theorem d_Mo_thirdOf_9 : decode c_Mo_thirdOf 9 = .ok (.isub, 1) := by decide +kernel
theorem d_Mo_thirdOf_10 : decode c_Mo_thirdOf 10 = .ok (.iaload, 1) := by decide +kernel
theorem d_Mo_thirdOf_11 : decode c_Mo_thirdOf 11 = .ok (.istore 5, 2) := by decide +kernel
theorem d_Mo_thirdOf_13 : decode c_Mo_thirdOf 13 = .ok (.aload_n 0, 1) := by decide +kernel
theorem d_Mo_thirdOf_14 : decode c_Mo_thirdOf 14 = .ok (.getfield 13, 3) := by decide +kernel
theorem d_Mo_thirdOf_17 : decode c_Mo_thirdOf 17 = .ok (.sipush 200, 3) := by decide +kernel
theorem d_Mo_thirdOf_20 : decode c_Mo_thirdOf 20 = .ok (.iload_n 1, 1) := by decide +kernel
theorem d_Mo_thirdOf_21 : decode c_Mo_thirdOf 21 = .ok (.imul, 1) := by decide +kernel
theorem d_Mo_thirdOf_22 : decode c_Mo_thirdOf 22 = .ok (.iload_n 3, 1) := by decide +kernel
theorem d_Mo_thirdOf_23 : decode c_Mo_thirdOf 23 = .ok (.iadd, 1) := by decide +kernel
theorem d_Mo_thirdOf_24 : decode c_Mo_thirdOf 24 = .ok (.iaload, 1) := by decide +kernel
theorem d_Mo_thirdOf_25 : decode c_Mo_thirdOf 25 = .ok (.iconst 3, 1) := by decide +kernel
theorem d_Mo_thirdOf_26 : decode c_Mo_thirdOf 26 = .ok (.if_icmp .ne 21, 3) := by decide +kernel
theorem d_Mo_thirdOf_29 : decode c_Mo_thirdOf 29 = .ok (.aload_n 0, 1) := by decide +kernel
theorem d_Mo_thirdOf_30 : decode c_Mo_thirdOf 30 = .ok (.iload_n 2, 1) := by decide +kernel
theorem d_Mo_thirdOf_31 : decode c_Mo_thirdOf 31 = .ok (.iload_n 1, 1) := by decide +kernel
theorem d_Mo_thirdOf_32 : decode c_Mo_thirdOf 32 = .ok (.iload_n 3, 1) := by decide +kernel
theorem d_Mo_thirdOf_33 : decode c_Mo_thirdOf 33 = .ok (.iload 4, 2) := by decide +kernel
theorem d_Mo_thirdOf_35 : decode c_Mo_thirdOf 35 = .ok (.iload 5, 2) := by decide +kernel
theorem d_Mo_thirdOf_37 : decode c_Mo_thirdOf 37 = .ok (.aload_n 0, 1) := by decide +kernel
theorem d_Mo_thirdOf_38 : decode c_Mo_thirdOf 38 = .ok (.getfield 241, 3) := by decide +kernel
theorem d_Mo_thirdOf_41 : decode c_Mo_thirdOf 41 = .ok (.invokevirtual 247, 3) := by decide +kernel
theorem d_Mo_thirdOf_44 : decode c_Mo_thirdOf 44 = .ok (.goto 45, 3) := by decide +kernel
theorem d_Mo_thirdOf_47 : decode c_Mo_thirdOf 47 = .ok (.aload_n 0, 1) := by decide +kernel
theorem d_Mo_thirdOf_48 : decode c_Mo_thirdOf 48 = .ok (.iload_n 2, 1) := by decide +kernel
theorem d_Mo_thirdOf_49 : decode c_Mo_thirdOf 49 = .ok (.aload_n 0, 1) := by decide +kernel
theorem d_Mo_thirdOf_50 : decode c_Mo_thirdOf 50 = .ok (.getfield 241, 3) := by decide +kernel
theorem d_Mo_thirdOf_53 : decode c_Mo_thirdOf 53 = .ok (.invokevirtual 244, 3) := by decide +kernel
theorem d_Mo_thirdOf_56 : decode c_Mo_thirdOf 56 = .ok (.iconst 0, 1) := by decide +kernel
theorem d_Mo_thirdOf_57 : decode c_Mo_thirdOf 57 = .ok (.istore 6, 2) := by decide +kernel
theorem d_Mo_thirdOf_59 : decode c_Mo_thirdOf 59 = .ok (.iload 6, 2) := by decide +kernel
theorem d_Mo_thirdOf_61 : decode c_Mo_thirdOf 61 = .ok (.iload 4, 2) := by decide +kernel
theorem d_Mo_thirdOf_63 : decode c_Mo_thirdOf 63 = .ok (.if_icmp .ge 26, 3) := by decide +kernel
theorem d_Mo_thirdOf_66 : decode c_Mo_thirdOf 66 = .ok (.aload_n 0, 1) := by decide +kernel
theorem d_Mo_thirdOf_67 : decode c_Mo_thirdOf 67 = .ok (.iload 5, 2) := by decide +kernel
theorem d_Mo_thirdOf_69 : decode c_Mo_thirdOf 69 = .ok (.iload 6, 2) := by decide +kernel
theorem d_Mo_thirdOf_71 : decode c_Mo_thirdOf 71 = .ok (.invokestatic 211, 3) := by decide +kernel
theorem d_Mo_thirdOf_74 : decode c_Mo_thirdOf 74 = .ok (.iload_n 2, 1) := by decide +kernel
theorem d_Mo_thirdOf_75 : decode c_Mo_thirdOf 75 = .ok (.iload 6, 2) := by decide +kernel
theorem d_Mo_thirdOf_77 : decode c_Mo_thirdOf 77 = .ok (.invokestatic 211, 3) := by decide +kernel
theorem d_Mo_thirdOf_80 : decode c_Mo_thirdOf 80 = .ok (.invokevirtual 227, 3) := by decide +kernel
theorem d_Mo_thirdOf_83 : decode c_Mo_thirdOf 83 = .ok (.iinc 6 1, 3) := by decide +kernel
theorem d_Mo_thirdOf_86 : decode c_Mo_thirdOf 86 = .ok (.goto (-27), 3) := by decide +kernel
theorem d_Mo_thirdOf_89 : decode c_Mo_thirdOf 89 = .ok (.aload_n 0, 1) := by decide +kernel
theorem d_Mo_thirdOf_90 : decode c_Mo_thirdOf 90 = .ok (.invokevirtual 238, 3) := by decide +kernel
theorem d_Mo_thirdOf_93 : decode c_Mo_thirdOf 93 = .ok (.return_, 1) := by decide +kernel
set_option maxRecDepth 100000 in
set_option maxHeartbeats 16000000 in
/-- thirdOf, kind 6 -/
theorem g_Mo_thirdOf_6 (l : Launch) (G : va_G) (k : Nat → ClassId) (h0 : Nat) (s0 : Nat) (f9 : Nat) (b9 : Nat) (p9 : Nat) (kn : Nat) (n9 : Nat) (rd : Nat) (pt : Nat) (ma : Nat → Nat) (iv : Nat → Int32) (co : Int64) (wd : Nat → Int32) (L : Nat → Int64) (NB : Nat → Nat) (NQ : Nat → Nat) (hf : f9 < 4) (hbk : b9 < rd) (hrd : rd < 40) (hpt : pt < 40 ∧ b9 < pt) (hn : n9 < 20) (hp : p9 + 1 ≤ 200) (hkn : kn ≤ 18) (hq : NQ n9 = pt) (hk : wdF wd f9 p9 = 6) : CV l y_Mo_thirdOf c_Mo_thirdOf 7 { frames := 2, cells := 0, slots := 0, locals := 46 } [.ref h0, .int (nI f9), .int (nI b9), .int (nI p9), .int (nI kn)] G k s0 [(h0, .inr (8, moL ma (va_up (va_up iv 17 (nI (n9 + 1))) 18 (nI rd)) co)), ((ma 1), .inl (k 0, 800, .inl wd)), ((ma 13), .inl (k 1, 36982, .inr (.inl L))), ((ma 16), .inl (k 0, 20, .inl (fun i => nI (NB i)))), ((ma 20), .inl (k 0, 20, .inl (fun i => nI (NQ i))))] (fun (u : Nat → Int64) => (∀ k9, k9 < 19 → lz u (22 * b9 + k9) ≤ lz L (22 * rd + k9) + (if k9 < kn then lz L (22 * pt + k9) else 0)) ∧ lz u (22 * b9 + 19) = lz L (22 * rd + 19) ∧ ∀ x, x < 22 * b9 ∨ 22 * b9 + 20 ≤ x → lz u x = lz L x) (fun u => [(h0, .inr (8, moL ma (va_up (va_up iv 17 (nI n9)) 18 (nI (NB n9))) co)), ((ma 1), .inl (k 0, 800, .inl wd)), ((ma 13), .inl (k 1, 36982, .inr (.inl u))), ((ma 16), .inl (k 0, 20, .inl (fun i => nI (NB i)))), ((ma 20), .inl (k 0, 20, .inl (fun i => nI (NQ i))))]) 0 0 := by
  refine met_start (by decide) (Nat.le_of_ble_eq_true rfl) ?_
  intro p e s m below meth c C K hA hsz S ls hl
  generalize va_A [(h0, .inr (8, moL ma (va_up (va_up iv 17 (nI (n9 + 1))) 18 (nI rd)) co)), ((ma 1), .inl (k 0, 800, .inl wd)), ((ma 13), .inl (k 1, 36982, .inr (.inl L))), ((ma 16), .inl (k 0, 20, .inl (fun i => nI (NB i)))), ((ma 20), .inl (k 0, 20, .inl (fun i => nI (NQ i))))] s0 = A at hA S ⊢
  have hx := C.1
  have hb := C.2.1
  have hl : lv_has ls 7 [(0, .ref h0), (1, .int (nI f9)), (2, .int (nI b9)), (3, .int (nI p9)), (4, .int (nI kn))] := hl
  refine lv_aload_n hx hb d_Mo_thirdOf_0 rfl (lv_at hl 0 rfl) ?_
  refine r_get C K S 0 rfl rfl clOk_Mo 39 (by decide) wf_Mo_79 (v := .ref (ma 20)) rfl d_Mo_thirdOf_1 ?_
  refine lv_aload_n hx hb d_Mo_thirdOf_4 rfl (lv_at hl 0 rfl) ?_
  refine r_get C K S 0 rfl rfl clOk_Mo 34 (by decide) wf_Mo_221 (v := .int (nI (n9 + 1))) rfl d_Mo_thirdOf_5 ?_
  refine lv_iconst (v := 1) hx hb d_Mo_thirdOf_8 (by decide) ?_
  refine z_isub (x := nI (n9 + 1)) (y := 1) (v := nI (n9 + 1 - 1)) hx hb d_Mo_thirdOf_9 (pk_sub (a := (n9 + 1)) (b := 1) (by omega)) ?_
  refine r_iald C K S 4 rfl (i := nI (n9 + 1 - 1)) (show vp_in (nI (n9 + 1 - 1)) _ from vp_in_nI (n := (n9 + 1 - 1)) (by omega) (by decide)) (v := nI (NQ (n9 + 1 - 1))) (by rw [nI_clamp (by omega)]) d_Mo_thirdOf_10 ?_
  rw [show NQ (n9 + 1 - 1) = pt from hq]
  refine lv_istore (lv' := [(5, .int (nI pt)), (0, .ref h0), (1, .int (nI f9)), (2, .int (nI b9)), (3, .int (nI p9)), (4, .int (nI kn))]) hx hb d_Mo_thirdOf_11 hl (by decide) rfl (fun ls hl => ?_)
  refine lv_aload_n hx hb d_Mo_thirdOf_13 rfl (lv_at hl 1 rfl) ?_
  refine r_get C K S 0 rfl rfl clOk_Mo 2 (by decide) wf_Mo_13 (v := .ref (ma 1)) rfl d_Mo_thirdOf_14 ?_
  refine lv_sipush (v := 200) hx hb d_Mo_thirdOf_17 (by decide) ?_
  refine lv_iload_n hx hb d_Mo_thirdOf_20 rfl (lv_at hl 2 rfl) ?_
  refine z_imul (x := 200) (y := nI f9) (v := nI (200 * f9)) hx hb d_Mo_thirdOf_21 (pk_mul 200 f9) ?_
  refine lv_iload_n hx hb d_Mo_thirdOf_22 rfl (lv_at hl 4 rfl) ?_
  refine z_iadd (x := nI (200 * f9)) (y := nI p9) (v := nI (200 * f9 + p9)) hx hb d_Mo_thirdOf_23 (nI_add (200 * f9) p9) ?_
  refine r_iald C K S 1 rfl (i := nI (200 * f9 + p9)) (show vp_in (nI (200 * f9 + p9)) _ from vp_in_nI (n := (200 * f9 + p9)) (by omega) (by decide)) (v := wdF wd f9 p9) (by rw [nI_clamp (by omega)]; exact (show wd (200 * f9 + p9) = wd (200 * f9 + p9) from congrArg wd (by omega))) d_Mo_thirdOf_24 ?_
  refine lv_iconst (v := 3) hx hb d_Mo_thirdOf_25 (by decide) ?_
  refine lv_icmp_ne (tgt := 47) hx hb d_Mo_thirdOf_26 (by decide) (fun _ => ?_) (fun hq => absurd hq (by rw [hk]; decide))
  refine lv_aload_n hx hb d_Mo_thirdOf_47 rfl (lv_at hl 1 rfl) ?_
  refine lv_iload_n hx hb d_Mo_thirdOf_48 rfl (lv_at hl 3 rfl) ?_
  refine lv_aload_n hx hb d_Mo_thirdOf_49 rfl (lv_at hl 1 rfl) ?_
  refine r_get C K S 0 rfl rfl clOk_Mo 40 (by decide) wf_Mo_241 (v := .int (nI rd)) rfl d_Mo_thirdOf_50 ?_
  refine r_backv (wi := [(h0, .inr (8, moL ma (va_up (va_up iv 17 (nI (n9 + 1))) 18 (nI rd)) co)), ((ma 13), .inl (k 1, 36982, .inr (.inl L)))]) (wr := [((ma 1), .inl (k 0, 800, .inl wd)), ((ma 16), .inl (k 0, 20, .inl (fun i => nI (NB i)))), ((ma 20), .inl (k 0, 20, .inl (fun i => nI (NQ i))))]) S hA [0, 2] [1, 3, 4] rfl rfl (by decide) (by decide) (va_runV (As := [.int (nI b9), .int (nI rd)]) (rest := []) ⟨hx, hb, C.2.2.1, C.2.2.2.1, C.2.2.2.2.1⟩ (g_Mo_keepAll l G k h0 _ b9 rd ma (va_up (va_up iv 17 (nI (n9 + 1))) 18 (nI rd)) co L (by omega) (by omega) (by omega)) (k_virt (n := 2) C wc_Mo_keepAll rfl rfl wz_Mo wm_Mo_244 wn_Mo_keepAll ws_Mo_keepAll (by decide +kernel) ⟨(Nat.le_of_ble_eq_true rfl), (Nat.le_of_ble_eq_true rfl)⟩) (pr_nowV K S [0, 2] (by decide) rfl 0 rfl rfl) rfl rfl hl.1 rfl (lv_room (Nat.le_of_ble_eq_true rfl)) d_Mo_thirdOf_53 ⟨(Nat.le_of_ble_eq_true rfl), (Nat.le_of_ble_eq_true rfl)⟩) (fun lu H locs hw1 S => ?_)
  have S : Sw G A s.heap _ _ [((ma 1), .inl (k 0, 800, .inl wd)), ((ma 16), .inl (k 0, 20, .inl (fun i => nI (NB i)))), ((ma 20), .inl (k 0, 20, .inl (fun i => nI (NQ i)))), (h0, .inr (8, moL ma (va_up (va_up iv 17 (nI (n9 + 1))) 18 (nI rd)) co)), ((ma 13), .inl (k 1, 36982, .inr (.inl lu)))] := S
  have hlu := hw1
  refine lv_iconst (v := 0) hx hb d_Mo_thirdOf_56 (by decide) ?_
  refine lv_istore (lv' := [(6, .int 0), (5, .int (nI pt)), (0, .ref h0), (1, .int (nI f9)), (2, .int (nI b9)), (3, .int (nI p9)), (4, .int (nI kn))]) hx hb d_Mo_thirdOf_57 hl (by decide) rfl (fun ls hl => ?_)
  have lp : ∀ d9, ∀ (t : Nat), ∀ (L9 : Nat → Int64), (kn - t) < d9 → (t ≤ kn) → (∀ k9, k9 < 20 → lz L9 (22 * b9 + k9) ≤ lz L (22 * rd + k9) + (if k9 < t then lz L (22 * pt + k9) else 0)) → (lz L9 (22 * b9 + 19) = lz L (22 * rd + 19)) → (∀ x, x < 22 * b9 ∨ 22 * b9 + 20 ≤ x → lz L9 x = lz L x) → ∀ (H : Heap) (locs : List Loc), Sw G A s.heap H locs [((ma 1), .inl (k 0, 800, .inl wd)), ((ma 16), .inl (k 0, 20, .inl (fun i => nI (NB i)))), ((ma 20), .inl (k 0, 20, .inl (fun i => nI (NQ i)))), (h0, .inr (8, moL ma (va_up (va_up iv 17 (nI (n9 + 1))) 18 (nI rd)) co)), ((ma 13), .inl (k 1, 36982, .inr (.inl L9)))] → ∀ ls : Array Slot, lv_has ls 7 [(6, .int (nI t)), (5, .int (nI pt)), (0, .ref h0), (1, .int (nI f9)), (2, .int (nI b9)), (3, .int (nI p9)), (4, .int (nI kn))] → W p l e { frames := 2, cells := 0, slots := 0, locals := 46 } s m [Value.ref h0, Value.int (nI f9), Value.int (nI b9), Value.int (nI p9), Value.int (nI kn)].toArray below meth c H locs 0 0 (MQ below (va_Qv (fun (u : Nat → Int64) => (∀ k9, k9 < 19 → lz u (22 * b9 + k9) ≤ lz L (22 * rd + k9) + (if k9 < kn then lz L (22 * pt + k9) else 0)) ∧ lz u (22 * b9 + 19) = lz L (22 * rd + 19) ∧ ∀ x, x < 22 * b9 ∨ 22 * b9 + 20 ≤ x → lz u x = lz L x) (Po G k A (fun u => [(h0, .inr (8, moL ma (va_up (va_up iv 17 (nI n9)) 18 (nI (NB n9))) co)), ((ma 1), .inl (k 0, 800, .inl wd)), ((ma 13), .inl (k 1, 36982, .inr (.inl u))), ((ma 16), .inl (k 0, 20, .inl (fun i => nI (NB i)))), ((ma 20), .inl (k 0, 20, .inl (fun i => nI (NQ i))))])) A) [Value.ref h0, Value.int (nI f9), Value.int (nI b9), Value.int (nI p9), Value.int (nI kn)].toArray s 0 0 A) (F0 m 59 ls []) := by
    intro d9
    induction d9 with
    | zero => intro t L9 hm; exact absurd hm (Nat.not_lt_zero _)
    | succ d9 ih_lp =>
      intro t L9 hm ht hz h19 ho H locs S ls hl
      refine lv_iload hx hb d_Mo_thirdOf_59 (lv_at hl 0 rfl) ?_
      refine lv_iload hx hb d_Mo_thirdOf_61 (lv_at hl 6 rfl) ?_
      refine z_icmp_ge (a := t) (b := kn) (tgt := 89) hx hb d_Mo_thirdOf_63 (by decide) (by omega) (by omega) (fun hc2 => ?_) (fun hc2 => ?_)
      · refine lv_aload_n hx hb d_Mo_thirdOf_89 rfl (lv_at hl 2 rfl) ?_
        refine r_backv (wi := [(h0, .inr (8, moL ma (va_up (va_up iv 18 (nI rd)) 17 (nI (n9 + 1))) co)), ((ma 16), .inl (k 0, 20, .inl (fun i => nI (NB i))))]) (wr := [((ma 1), .inl (k 0, 800, .inl wd)), ((ma 20), .inl (k 0, 20, .inl (fun i => nI (NQ i)))), ((ma 13), .inl (k 1, 36982, .inr (.inl L9)))]) S hA [3, 1] [0, 2, 4] rfl rfl (by decide) (by decide) (va_runV (As := []) (rest := []) ⟨hx, hb, C.2.2.1, C.2.2.2.1, C.2.2.2.2.1⟩ (g_Mo_endNeed l G k h0 _ n9 ma (va_up iv 18 (nI rd)) co NB hn) (k_virt (n := 0) C wc_Mo_endNeed rfl rfl wz_Mo wm_Mo_238 wn_Mo_endNeed ws_Mo_endNeed (by decide +kernel) ⟨(Nat.le_of_ble_eq_true rfl), (Nat.le_of_ble_eq_true rfl)⟩) (pr_nowV K S [3, 1] (by decide) rfl 3 rfl rfl) rfl rfl hl.1 rfl (lv_room (Nat.le_of_ble_eq_true rfl)) d_Mo_thirdOf_90 ⟨(Nat.le_of_ble_eq_true rfl), (Nat.le_of_ble_eq_true rfl)⟩) (fun u3 H locs hw4 S => ?_)
        have S : Sw G A s.heap _ _ [((ma 1), .inl (k 0, 800, .inl wd)), ((ma 20), .inl (k 0, 20, .inl (fun i => nI (NQ i)))), ((ma 13), .inl (k 1, 36982, .inr (.inl L9))), (h0, .inr (8, moL ma (va_up (va_up iv 17 (nI n9)) 18 (nI (NB n9))) co)), ((ma 16), .inl (k 0, 20, .inl (fun i => nI (NB i))))] := S
        exact r_vret C K L9 ⟨fun k9 hk => (show t = kn by omega) ▸ hz k9 (by omega), h19, ho⟩ (S.sub [3, 0, 2, 4, 1] (by decide) rfl) d_Mo_thirdOf_93 (Nat.le_of_ble_eq_true rfl) (Nat.le_of_ble_eq_true rfl)
      · refine lv_aload_n hx hb d_Mo_thirdOf_66 rfl (lv_at hl 2 rfl) ?_
        refine lv_iload hx hb d_Mo_thirdOf_67 (lv_at hl 1 rfl) ?_
        refine lv_iload hx hb d_Mo_thirdOf_69 (lv_at hl 0 rfl) ?_
        refine r_backi (wi := []) (wr := [((ma 1), .inl (k 0, 800, .inl wd)), ((ma 16), .inl (k 0, 20, .inl (fun i => nI (NB i)))), ((ma 20), .inl (k 0, 20, .inl (fun i => nI (NQ i)))), (h0, .inr (8, moL ma (va_up (va_up iv 17 (nI (n9 + 1))) 18 (nI rd)) co)), ((ma 13), .inl (k 1, 36982, .inr (.inl L9)))]) S hA [] [0, 1, 2, 3, 4] rfl rfl (by decide) (by decide) (va_runS (As := [.int (nI pt), .int (nI t)]) (rest := [.ref h0]) ⟨hx, hb, C.2.2.1, C.2.2.2.1, C.2.2.2.2.1⟩ (g_Mo_line l G k _ pt t) (k_stat (n := 2) C wc_Mo_line rfl rfl wz_Mo wm_Mo_211 wt_Mo_line (by decide +kernel) ⟨(Nat.le_of_ble_eq_true rfl), (Nat.le_of_ble_eq_true rfl)⟩) (pr_now K S [] (by decide) rfl) rfl rfl hl.1 rfl (lv_room (Nat.le_of_ble_eq_true rfl)) d_Mo_thirdOf_71 ⟨(Nat.le_of_ble_eq_true rfl), (Nat.le_of_ble_eq_true rfl)⟩) (fun r7 u5 H locs hw6 S => ?_)
        have S : Sw G A s.heap _ _ [((ma 1), .inl (k 0, 800, .inl wd)), ((ma 16), .inl (k 0, 20, .inl (fun i => nI (NB i)))), ((ma 20), .inl (k 0, 20, .inl (fun i => nI (NQ i)))), (h0, .inr (8, moL ma (va_up (va_up iv 17 (nI (n9 + 1))) 18 (nI rd)) co)), ((ma 13), .inl (k 1, 36982, .inr (.inl L9)))] := S
        obtain rfl : r7 = nI ((22 * pt + t) * 41) := hw6
        refine lv_iload_n hx hb d_Mo_thirdOf_74 rfl (lv_at hl 4 rfl) ?_
        refine lv_iload hx hb d_Mo_thirdOf_75 (lv_at hl 0 rfl) ?_
        refine r_backi (wi := []) (wr := [((ma 1), .inl (k 0, 800, .inl wd)), ((ma 16), .inl (k 0, 20, .inl (fun i => nI (NB i)))), ((ma 20), .inl (k 0, 20, .inl (fun i => nI (NQ i)))), (h0, .inr (8, moL ma (va_up (va_up iv 17 (nI (n9 + 1))) 18 (nI rd)) co)), ((ma 13), .inl (k 1, 36982, .inr (.inl L9)))]) S hA [] [0, 1, 2, 3, 4] rfl rfl (by decide) (by decide) (va_runS (As := [.int (nI b9), .int (nI t)]) (rest := [.int (nI ((22 * pt + t) * 41)), .ref h0]) ⟨hx, hb, C.2.2.1, C.2.2.2.1, C.2.2.2.2.1⟩ (g_Mo_line l G k _ b9 t) (k_stat (n := 2) C wc_Mo_line rfl rfl wz_Mo wm_Mo_211 wt_Mo_line (by decide +kernel) ⟨(Nat.le_of_ble_eq_true rfl), (Nat.le_of_ble_eq_true rfl)⟩) (pr_now K S [] (by decide) rfl) rfl rfl hl.1 rfl (lv_room (Nat.le_of_ble_eq_true rfl)) d_Mo_thirdOf_77 ⟨(Nat.le_of_ble_eq_true rfl), (Nat.le_of_ble_eq_true rfl)⟩) (fun r11 u9 H locs hw10 S => ?_)
        have S : Sw G A s.heap _ _ [((ma 1), .inl (k 0, 800, .inl wd)), ((ma 16), .inl (k 0, 20, .inl (fun i => nI (NB i)))), ((ma 20), .inl (k 0, 20, .inl (fun i => nI (NQ i)))), (h0, .inr (8, moL ma (va_up (va_up iv 17 (nI (n9 + 1))) 18 (nI rd)) co)), ((ma 13), .inl (k 1, 36982, .inr (.inl L9)))] := S
        obtain rfl : r11 = nI ((22 * b9 + t) * 41) := hw10
        refine r_backv (wi := [(h0, .inr (8, moL ma (va_up (va_up iv 17 (nI (n9 + 1))) 18 (nI rd)) co)), ((ma 13), .inl (k 1, 36982, .inr (.inl L9)))]) (wr := [((ma 1), .inl (k 0, 800, .inl wd)), ((ma 16), .inl (k 0, 20, .inl (fun i => nI (NB i)))), ((ma 20), .inl (k 0, 20, .inl (fun i => nI (NQ i))))]) S hA [3, 4] [0, 1, 2] rfl rfl (by decide) (by decide) (va_runV (As := [.int (nI ((22 * pt + t) * 41)), .int (nI ((22 * b9 + t) * 41))]) (rest := []) ⟨hx, hb, C.2.2.1, C.2.2.2.1, C.2.2.2.2.1⟩ (g_Mo_add l G k h0 _ ma (va_up (va_up iv 17 (nI (n9 + 1))) 18 (nI rd)) co L9 ((22 * pt + t) * 41) ((22 * b9 + t) * 41) (by omega) (by omega) (by omega)) (k_virt (n := 2) C wc_Mo_add rfl rfl wz_Mo wm_Mo_227 wn_Mo_add ws_Mo_add (by decide +kernel) ⟨(Nat.le_of_ble_eq_true rfl), (Nat.le_of_ble_eq_true rfl)⟩) (pr_nowV K S [3, 4] (by decide) rfl 3 rfl rfl) rfl rfl hl.1 rfl (lv_room (Nat.le_of_ble_eq_true rfl)) d_Mo_thirdOf_80 ⟨(Nat.le_of_ble_eq_true rfl), (Nat.le_of_ble_eq_true rfl)⟩) (fun u13 H locs hw14 S => ?_)
        have S : Sw G A s.heap _ _ [((ma 1), .inl (k 0, 800, .inl wd)), ((ma 16), .inl (k 0, 20, .inl (fun i => nI (NB i)))), ((ma 20), .inl (k 0, 20, .inl (fun i => nI (NQ i)))), (h0, .inr (8, moL ma (va_up (va_up iv 17 (nI (n9 + 1))) 18 (nI rd)) co)), ((ma 13), .inl (k 1, 36982, .inr (.inl (lnA L9 ((22 * pt + t) * 41) ((22 * b9 + t) * 41) 41))))] := S
        refine lv_iinc (v := nI (t + 1)) (lv' := [(6, .int (nI (t + 1))), (5, .int (nI pt)), (0, .ref h0), (1, .int (nI f9)), (2, .int (nI b9)), (3, .int (nI p9)), (4, .int (nI kn))]) hx hb d_Mo_thirdOf_83 hl (k := 0) rfl (show nI t + Int32.ofInt 1 = nI (t + 1) from (nI_add t 1).trans (congrArg nI (by omega))) (by decide) rfl (fun ls hl => ?_)
        refine lv_goto (tgt := 59) hx hb d_Mo_thirdOf_86 (by decide) ?_
        exact ih_lp (t + 1) (lnA L9 ((22 * pt + t) * 41) ((22 * b9 + t) * 41) 41) (by omega) (by omega) (t_step (by omega) (by omega) hz ho) (by rw [lz_A_ne (by omega)]; exact h19) (fun x hx => by rw [lz_A_ne (by omega)]; exact ho x hx) _ _ (S.sub [0, 1, 2, 3, 4] (by decide) rfl) ls (lv_sub hl [0, 1, 2, 3, 4, 5, 6] rfl)
  exact lp _ 0 lu (Nat.lt_succ_self _) (by omega) (fun k9 hk => by rw [if_neg (Nat.not_lt_zero _)]; exact Nat.le_of_eq (hlu.1 k9 hk)) (hlu.1 19 (by omega)) hlu.2 _ _ (S.sub [0, 1, 2, 3, 4] (by decide) rfl) ls (lv_sub hl [0, 1, 2, 3, 4, 5, 6] rfl)
set_option maxRecDepth 100000 in
set_option maxHeartbeats 16000000 in
/-- thirdOf, kind 3 -/
theorem g_Mo_thirdOf_3 (l : Launch) (G : va_G) (k : Nat → ClassId) (h0 : Nat) (s0 : Nat) (f9 : Nat) (b9 : Nat) (p9 : Nat) (kn : Nat) (n9 : Nat) (eb : Nat) (gb : Nat) (v9 : Nat) (q9 : Nat) (n0 : Nat) (nf : Nat) (un : Nat) (co9 : Nat) (fl : Nat) (ma : Nat → Nat) (iv : Nat → Int32) (co : Int64) (tk : Nat → Nat) (En : Nat → Nat) (wd : Nat → Int32) (L : Nat → Int64) (sm : Nat → Int64) (NB : Nat → Nat) (NQ : Nat → Nat) (hf : f9 < 4) (hn : n9 < 20) (hq9 : NQ n9 = eb) (hk : wdF wd f9 p9 = 3) (hbk : b9 < 40) (heb : eb < 40 ∧ b9 < eb) (hgb : gb < 40 ∧ b9 < gb) (hp : p9 + 2 ≤ 200) (hkn : kn ≤ 18) (hv : wdF wd f9 (p9 + 1) = nI v9) (hv2 : v9 < kn) (hen : En (200 * f9 + p9) = q9) (hq : q9 ≤ 200) (hnf : nf ≤ 4) (hH : HDn (wdF wd f9) tk nf n0 (p9 + 2) q9) (htk : ∀ g, g < 4 → tk g ≤ 3) (hun : un ≤ 9000) (hco : co9 ≤ 9000) (hflo : flO un co9 fl) (hsm : smO co9 sm) (hz : ∀ k9, k9 < 20 → lz L (22 * b9 + k9) = 0) (hN1 : ∀ k9, k9 < 20 → lz L (22 * eb + k9) ≤ 60000) (hN2 : ∀ k9, k9 < 20 → lz L (22 * gb + k9) ≤ 60000) : CV l y_Mo_thirdOf c_Mo_thirdOf 7 { frames := 3, cells := 0, slots := 0, locals := 84 } [.ref h0, .int (nI f9), .int (nI b9), .int (nI p9), .int (nI kn)] G k s0 [(h0, .inr (8, moL ma (va_up (va_up (va_up (va_up (va_up iv 14 (nI un)) 15 (nI co9)) 16 (nI fl)) 17 (nI (n9 + 1))) 18 (nI gb)) co)), ((ma 0), .inl (k 0, 4, .inl (fun i => nI (tk i)))), ((ma 1), .inl (k 0, 800, .inl wd)), ((ma 3), .inl (k 0, 800, .inl (fun i => nI (En i)))), ((ma 13), .inl (k 1, 36982, .inr (.inl L))), ((ma 15), .inl (k 1, 3690, .inr (.inl sm))), ((ma 16), .inl (k 0, 20, .inl (fun i => nI (NB i)))), ((ma 20), .inl (k 0, 20, .inl (fun i => nI (NQ i))))] (fun (u : (Nat → Int64) × (Nat → Int64) × Nat) => flO (un + 2 + ncN (wdF wd f9) tk n0 (p9 + 2) v9 kn) (co9 + 3 + 2 * ncN (wdF wd f9) tk n0 (p9 + 2) v9 kn) u.2.2 ∧ smO (co9 + 3 + 2 * ncN (wdF wd f9) tk n0 (p9 + 2) v9 kn) u.2.1 ∧ tn u.1 b9 ≤ lz L (22 * gb + v9) + 20 ∧ lz u.1 (22 * b9 + 19) ≤ 1 ∧ ∀ x, x < 22 * b9 ∨ 22 * b9 + 20 ≤ x → lz u.1 x = lz L x) (fun u => [(h0, .inr (8, moL ma (va_up (va_up (va_up (va_up (va_up iv 14 (nI (un + 2 + ncN (wdF wd f9) tk n0 (p9 + 2) v9 kn))) 15 (nI (co9 + 3 + 2 * ncN (wdF wd f9) tk n0 (p9 + 2) v9 kn))) 16 (nI u.2.2)) 17 (nI n9)) 18 (nI (NB n9))) co)), ((ma 0), .inl (k 0, 4, .inl (fun i => nI (tk i)))), ((ma 1), .inl (k 0, 800, .inl wd)), ((ma 3), .inl (k 0, 800, .inl (fun i => nI (En i)))), ((ma 13), .inl (k 1, 36982, .inr (.inl u.1))), ((ma 15), .inl (k 1, 3690, .inr (.inl u.2.1))), ((ma 16), .inl (k 0, 20, .inl (fun i => nI (NB i)))), ((ma 20), .inl (k 0, 20, .inl (fun i => nI (NQ i))))]) 0 0 := by
  refine met_start (by decide) (Nat.le_of_ble_eq_true rfl) ?_
  intro p e s m below meth c C K hA hsz S ls hl
  generalize va_A [(h0, .inr (8, moL ma (va_up (va_up (va_up (va_up (va_up iv 14 (nI un)) 15 (nI co9)) 16 (nI fl)) 17 (nI (n9 + 1))) 18 (nI gb)) co)), ((ma 0), .inl (k 0, 4, .inl (fun i => nI (tk i)))), ((ma 1), .inl (k 0, 800, .inl wd)), ((ma 3), .inl (k 0, 800, .inl (fun i => nI (En i)))), ((ma 13), .inl (k 1, 36982, .inr (.inl L))), ((ma 15), .inl (k 1, 3690, .inr (.inl sm))), ((ma 16), .inl (k 0, 20, .inl (fun i => nI (NB i)))), ((ma 20), .inl (k 0, 20, .inl (fun i => nI (NQ i))))] s0 = A at hA S ⊢
  have hx := C.1
  have hb := C.2.1
  have hl : lv_has ls 7 [(0, .ref h0), (1, .int (nI f9)), (2, .int (nI b9)), (3, .int (nI p9)), (4, .int (nI kn))] := hl
  refine lv_aload_n hx hb d_Mo_thirdOf_0 rfl (lv_at hl 0 rfl) ?_
  refine r_get C K S 0 rfl rfl clOk_Mo 39 (by decide) wf_Mo_79 (v := .ref (ma 20)) rfl d_Mo_thirdOf_1 ?_
  refine lv_aload_n hx hb d_Mo_thirdOf_4 rfl (lv_at hl 0 rfl) ?_
  refine r_get C K S 0 rfl rfl clOk_Mo 34 (by decide) wf_Mo_221 (v := .int (nI (n9 + 1))) rfl d_Mo_thirdOf_5 ?_
  refine lv_iconst (v := 1) hx hb d_Mo_thirdOf_8 (by decide) ?_
  refine z_isub (x := nI (n9 + 1)) (y := 1) (v := nI (n9 + 1 - 1)) hx hb d_Mo_thirdOf_9 (pk_sub (a := (n9 + 1)) (b := 1) (by omega)) ?_
  refine r_iald C K S 7 rfl (i := nI (n9 + 1 - 1)) (show vp_in (nI (n9 + 1 - 1)) _ from vp_in_nI (n := (n9 + 1 - 1)) (by omega) (by decide)) (v := nI (NQ (n9 + 1 - 1))) (by rw [nI_clamp (by omega)]) d_Mo_thirdOf_10 ?_
  rw [show NQ (n9 + 1 - 1) = eb from hq9]
  refine lv_istore (lv' := [(5, .int (nI eb)), (0, .ref h0), (1, .int (nI f9)), (2, .int (nI b9)), (3, .int (nI p9)), (4, .int (nI kn))]) hx hb d_Mo_thirdOf_11 hl (by decide) rfl (fun ls hl => ?_)
  refine lv_aload_n hx hb d_Mo_thirdOf_13 rfl (lv_at hl 1 rfl) ?_
  refine r_get C K S 0 rfl rfl clOk_Mo 2 (by decide) wf_Mo_13 (v := .ref (ma 1)) rfl d_Mo_thirdOf_14 ?_
  refine lv_sipush (v := 200) hx hb d_Mo_thirdOf_17 (by decide) ?_
  refine lv_iload_n hx hb d_Mo_thirdOf_20 rfl (lv_at hl 2 rfl) ?_
  refine z_imul (x := 200) (y := nI f9) (v := nI (200 * f9)) hx hb d_Mo_thirdOf_21 (pk_mul 200 f9) ?_
  refine lv_iload_n hx hb d_Mo_thirdOf_22 rfl (lv_at hl 4 rfl) ?_
  refine z_iadd (x := nI (200 * f9)) (y := nI p9) (v := nI (200 * f9 + p9)) hx hb d_Mo_thirdOf_23 (nI_add (200 * f9) p9) ?_
  refine r_iald C K S 2 rfl (i := nI (200 * f9 + p9)) (show vp_in (nI (200 * f9 + p9)) _ from vp_in_nI (n := (200 * f9 + p9)) (by omega) (by decide)) (v := wdF wd f9 p9) (by rw [nI_clamp (by omega)]; exact (show wd (200 * f9 + p9) = wd (200 * f9 + p9) from congrArg wd (by omega))) d_Mo_thirdOf_24 ?_
  refine lv_iconst (v := 3) hx hb d_Mo_thirdOf_25 (by decide) ?_
  refine lv_icmp_ne (tgt := 47) hx hb d_Mo_thirdOf_26 (by decide) (fun hq => absurd hk hq) (fun _ => ?_)
  refine lv_aload_n hx hb d_Mo_thirdOf_29 rfl (lv_at hl 1 rfl) ?_
  refine lv_iload_n hx hb d_Mo_thirdOf_30 rfl (lv_at hl 3 rfl) ?_
  refine lv_iload_n hx hb d_Mo_thirdOf_31 rfl (lv_at hl 2 rfl) ?_
  refine lv_iload_n hx hb d_Mo_thirdOf_32 rfl (lv_at hl 4 rfl) ?_
  refine lv_iload hx hb d_Mo_thirdOf_33 (lv_at hl 5 rfl) ?_
  refine lv_iload hx hb d_Mo_thirdOf_35 (lv_at hl 0 rfl) ?_
  refine lv_aload_n hx hb d_Mo_thirdOf_37 rfl (lv_at hl 1 rfl) ?_
  refine r_get C K S 0 rfl rfl clOk_Mo 40 (by decide) wf_Mo_241 (v := .int (nI gb)) rfl d_Mo_thirdOf_38 ?_
  refine r_backv (wi := [(h0, .inr (8, moL ma (va_up (va_up (va_up (va_up (va_up iv 17 (nI (n9 + 1))) 18 (nI gb)) 14 (nI un)) 15 (nI co9)) 16 (nI fl)) co)), ((ma 0), .inl (k 0, 4, .inl (fun i => nI (tk i)))), ((ma 1), .inl (k 0, 800, .inl wd)), ((ma 3), .inl (k 0, 800, .inl (fun i => nI (En i)))), ((ma 13), .inl (k 1, 36982, .inr (.inl L))), ((ma 15), .inl (k 1, 3690, .inr (.inl sm)))]) (wr := [((ma 16), .inl (k 0, 20, .inl (fun i => nI (NB i)))), ((ma 20), .inl (k 0, 20, .inl (fun i => nI (NQ i))))]) S hA [0, 1, 2, 3, 4, 5] [6, 7] rfl rfl (by decide) (by decide) (va_runV (As := [.int (nI b9), .int (nI f9), .int (nI p9), .int (nI kn), .int (nI eb), .int (nI gb)]) (rest := []) ⟨hx, hb, C.2.2.1, C.2.2.2.1, C.2.2.2.2.1⟩ (g_Mo_needMatch l G k h0 _ b9 f9 p9 kn eb gb v9 q9 n0 nf un co9 fl ma (va_up (va_up iv 17 (nI (n9 + 1))) 18 (nI gb)) co tk En wd L sm hbk heb hgb hf hp hkn hv hv2 hen hq hnf hH htk hun hco hflo hsm hz hN1 hN2) (k_virt (n := 6) C wc_Mo_needMatch rfl rfl wz_Mo wm_Mo_247 wn_Mo_needMatch ws_Mo_needMatch (by decide +kernel) ⟨(Nat.le_of_ble_eq_true rfl), (Nat.le_of_ble_eq_true rfl)⟩) (pr_nowV K S [0, 1, 2, 3, 4, 5] (by decide) rfl 0 rfl rfl) rfl rfl hl.1 rfl (lv_room (Nat.le_of_ble_eq_true rfl)) d_Mo_thirdOf_41 ⟨(Nat.le_of_ble_eq_true rfl), (Nat.le_of_ble_eq_true rfl)⟩) (fun nu H locs hw1 S => ?_)
  have S : Sw G A s.heap _ _ [((ma 16), .inl (k 0, 20, .inl (fun i => nI (NB i)))), ((ma 20), .inl (k 0, 20, .inl (fun i => nI (NQ i)))), (h0, .inr (8, moL ma (va_up (va_up (va_up (va_up (va_up iv 17 (nI (n9 + 1))) 18 (nI gb)) 14 (nI (un + 2 + ncN (wdF wd f9) tk n0 (p9 + 2) v9 kn))) 15 (nI (co9 + 3 + 2 * ncN (wdF wd f9) tk n0 (p9 + 2) v9 kn))) 16 (nI nu.2.2)) co)), ((ma 0), .inl (k 0, 4, .inl (fun i => nI (tk i)))), ((ma 1), .inl (k 0, 800, .inl wd)), ((ma 3), .inl (k 0, 800, .inl (fun i => nI (En i)))), ((ma 13), .inl (k 1, 36982, .inr (.inl nu.1))), ((ma 15), .inl (k 1, 3690, .inr (.inl nu.2.1)))] := S
  have hnu := hw1
  refine lv_goto (tgt := 89) hx hb d_Mo_thirdOf_44 (by decide) ?_
  refine lv_aload_n hx hb d_Mo_thirdOf_89 rfl (lv_at hl 1 rfl) ?_
  refine r_backv (wi := [(h0, .inr (8, moL ma (va_up (va_up (va_up (va_up (va_up iv 18 (nI gb)) 14 (nI (un + 2 + ncN (wdF wd f9) tk n0 (p9 + 2) v9 kn))) 15 (nI (co9 + 3 + 2 * ncN (wdF wd f9) tk n0 (p9 + 2) v9 kn))) 16 (nI nu.2.2)) 17 (nI (n9 + 1))) co)), ((ma 16), .inl (k 0, 20, .inl (fun i => nI (NB i))))]) (wr := [((ma 20), .inl (k 0, 20, .inl (fun i => nI (NQ i)))), ((ma 0), .inl (k 0, 4, .inl (fun i => nI (tk i)))), ((ma 1), .inl (k 0, 800, .inl wd)), ((ma 3), .inl (k 0, 800, .inl (fun i => nI (En i)))), ((ma 13), .inl (k 1, 36982, .inr (.inl nu.1))), ((ma 15), .inl (k 1, 3690, .inr (.inl nu.2.1)))]) S hA [2, 0] [1, 3, 4, 5, 6, 7] rfl rfl (by decide) (by decide) (va_runV (As := []) (rest := []) ⟨hx, hb, C.2.2.1, C.2.2.2.1, C.2.2.2.2.1⟩ (g_Mo_endNeed l G k h0 _ n9 ma (va_up (va_up (va_up (va_up iv 18 (nI gb)) 14 (nI (un + 2 + ncN (wdF wd f9) tk n0 (p9 + 2) v9 kn))) 15 (nI (co9 + 3 + 2 * ncN (wdF wd f9) tk n0 (p9 + 2) v9 kn))) 16 (nI nu.2.2)) co NB hn) (k_virt (n := 0) C wc_Mo_endNeed rfl rfl wz_Mo wm_Mo_238 wn_Mo_endNeed ws_Mo_endNeed (by decide +kernel) ⟨(Nat.le_of_ble_eq_true rfl), (Nat.le_of_ble_eq_true rfl)⟩) (pr_nowV K S [2, 0] (by decide) rfl 2 rfl rfl) rfl rfl hl.1 rfl (lv_room (Nat.le_of_ble_eq_true rfl)) d_Mo_thirdOf_90 ⟨(Nat.le_of_ble_eq_true rfl), (Nat.le_of_ble_eq_true rfl)⟩) (fun u2 H locs hw3 S => ?_)
  have S : Sw G A s.heap _ _ [((ma 20), .inl (k 0, 20, .inl (fun i => nI (NQ i)))), ((ma 0), .inl (k 0, 4, .inl (fun i => nI (tk i)))), ((ma 1), .inl (k 0, 800, .inl wd)), ((ma 3), .inl (k 0, 800, .inl (fun i => nI (En i)))), ((ma 13), .inl (k 1, 36982, .inr (.inl nu.1))), ((ma 15), .inl (k 1, 3690, .inr (.inl nu.2.1))), (h0, .inr (8, moL ma (va_up (va_up (va_up (va_up (va_up iv 14 (nI (un + 2 + ncN (wdF wd f9) tk n0 (p9 + 2) v9 kn))) 15 (nI (co9 + 3 + 2 * ncN (wdF wd f9) tk n0 (p9 + 2) v9 kn))) 16 (nI nu.2.2)) 17 (nI n9)) 18 (nI (NB n9))) co)), ((ma 16), .inl (k 0, 20, .inl (fun i => nI (NB i))))] := S
  exact r_vret C K nu hnu (S.sub [6, 1, 2, 3, 4, 5, 7, 0] (by decide) rfl) d_Mo_thirdOf_93 (Nat.le_of_ble_eq_true rfl) (Nat.le_of_ble_eq_true rfl)
end
section
/-! how many unknowns and conditions a body makes; what is known of a node's numbers -/
def ucT (W : Nat → Int32) (tk : Nat → Nat) (E : Nat → Nat) : Nat → Nat → Nat → Nat
  | 0, _, _ => 0
  | fu + 1, kn, p => if W p = 2 then ucT W tk E fu kn (p + 1) else if W p = 4 then ucT W tk E fu kn (p + 2)
    else if W p = 3 then ucT W tk E fu kn (p + 2) + ucT W tk E fu (kn + 1) (E (p + 2)) + (2 + ncN W tk (nd W E fu (p + 2) + nd W E fu (E (p + 2))) (p + 2) (W (p + 1)).toNatClampNeg kn)
    else if W p = 6 then ucT W tk E fu (kn + 1) (E (p + 1)) + ucT W tk E fu kn (p + 1) else if W p = 5 then 1 else 0
def ccT (W : Nat → Int32) (tk : Nat → Nat) (E : Nat → Nat) : Nat → Nat → Nat → Nat
  | 0, _, _ => 0
  | fu + 1, kn, p => if W p = 2 then ccT W tk E fu kn (p + 1) else if W p = 4 then ccT W tk E fu kn (p + 2)
    else if W p = 3 then ccT W tk E fu kn (p + 2) + ccT W tk E fu (kn + 1) (E (p + 2)) + (3 + 2 * ncN W tk (nd W E fu (p + 2) + nd W E fu (E (p + 2))) (p + 2) (W (p + 1)).toNatClampNeg kn)
    else if W p = 6 then ccT W tk E fu (kn + 1) (E (p + 1)) + ccT W tk E fu kn (p + 1) else if W p = 5 then 3 else 0
section CT
variable {W : Nat → Int32} {tk : Nat → Nat} {E : Nat → Nat} {fu kn p : Nat}
theorem ct_01 (h : W p = 0 ∨ W p = 1) : nd W E (fu + 1) p = 1 ∧ ucT W tk E (fu + 1) kn p = 0 ∧ ccT W tk E (fu + 1) kn p = 0 := by
  rcases h with h | h <;> (refine ⟨?_, ?_, ?_⟩ <;> (first | rw [nd] | rw [ucT] | rw [ccT]) <;> simp only [h] <;> rfl)
theorem ct_5 (h : W p = 5) : nd W E (fu + 1) p = 1 ∧ ucT W tk E (fu + 1) kn p = 1 ∧ ccT W tk E (fu + 1) kn p = 3 := by
  refine ⟨?_, ?_, ?_⟩ <;> (first | rw [nd] | rw [ucT] | rw [ccT]) <;> simp only [h] <;> rfl
theorem ct_2 (h : W p = 2) : nd W E (fu + 1) p = nd W E fu (p + 1) + 1 ∧ ucT W tk E (fu + 1) kn p = ucT W tk E fu kn (p + 1) ∧ ccT W tk E (fu + 1) kn p = ccT W tk E fu kn (p + 1) :=
  ⟨by rw [nd, if_pos h], by rw [ucT, if_pos h], by rw [ccT, if_pos h]⟩
theorem ct_4 (h : W p = 4) : nd W E (fu + 1) p = nd W E fu (p + 2) + 1 ∧ ucT W tk E (fu + 1) kn p = ucT W tk E fu kn (p + 2) ∧ ccT W tk E (fu + 1) kn p = ccT W tk E fu kn (p + 2) :=
  ⟨by rw [nd, if_neg (by rw [h]; decide), if_pos h], by rw [ucT, if_neg (by rw [h]; decide), if_pos h], by rw [ccT, if_neg (by rw [h]; decide), if_pos h]⟩
theorem ct_6 (h : W p = 6) : nd W E (fu + 1) p = nd W E fu (p + 1) + nd W E fu (E (p + 1)) + 1 ∧ ucT W tk E (fu + 1) kn p = ucT W tk E fu (kn + 1) (E (p + 1)) + ucT W tk E fu kn (p + 1) ∧ ccT W tk E (fu + 1) kn p = ccT W tk E fu (kn + 1) (E (p + 1)) + ccT W tk E fu kn (p + 1) :=
  ⟨by rw [nd, if_neg (by rw [h]; decide), if_neg (by rw [h]; decide), if_neg (by rw [h]; decide), if_pos h], by rw [ucT, if_neg (by rw [h]; decide), if_neg (by rw [h]; decide), if_neg (by rw [h]; decide), if_pos h], by rw [ccT, if_neg (by rw [h]; decide), if_neg (by rw [h]; decide), if_neg (by rw [h]; decide), if_pos h]⟩
theorem ct_3 {v : Nat} (h : W p = 3) (hv : W (p + 1) = nI v) (hv2 : v < 1000) : nd W E (fu + 1) p = nd W E fu (p + 2) + nd W E fu (E (p + 2)) + 1 ∧ ucT W tk E (fu + 1) kn p = ucT W tk E fu kn (p + 2) + ucT W tk E fu (kn + 1) (E (p + 2)) + (2 + ncN W tk (nd W E fu (p + 2) + nd W E fu (E (p + 2))) (p + 2) v kn) ∧ ccT W tk E (fu + 1) kn p = ccT W tk E fu kn (p + 2) + ccT W tk E fu (kn + 1) (E (p + 2)) + (3 + 2 * ncN W tk (nd W E fu (p + 2) + nd W E fu (E (p + 2))) (p + 2) v kn) := by
  have hc : (nI v).toNatClampNeg = v := nI_clamp (by omega)
  refine ⟨?_, ?_, ?_⟩
  · rw [nd, if_neg (by rw [h]; decide), if_neg (by rw [h]; decide), if_pos h]
  · rw [ucT, if_neg (by rw [h]; decide), if_neg (by rw [h]; decide), if_pos h, hv, hc]
  · rw [ccT, if_neg (by rw [h]; decide), if_neg (by rw [h]; decide), if_pos h, hv, hc]
end CT
theorem nd_pos {W : Nat → Int32} {tk : Nat → Nat} {nf : Nat} {E : Nat → Nat} {fu kn p q : Nat} (h : wf W tk nf E fu kn p q) : 1 ≤ nd W E fu p := by
  cases fu with
  | zero => exact h.elim
  | succ fu =>
    rw [nd]
    split
    · omega
    · split
      · omega
      · split
        · omega
        · split <;> omega
theorem tn_zero {L : Nat → Int64} {b : Nat} (h : ∀ k, k < 19 → lz L (22 * b + k) = 0) : tn L b = 0 := by
  unfold tn
  rw [ns_congr (g := fun _ => 0) h, ns_0]
theorem tn_one {L : Nat → Int64} {b v X : Nat} (h : ∀ k, k < 19 → k ≠ v → lz L (22 * b + k) = 0) (h2 : lz L (22 * b + v) ≤ X) : tn L b ≤ X := by
  have := ns_one (n := 19) (f := fun k => lz L (22 * b + k)) (g := fun _ => 0) (j := v) (d := X) (fun i hi hne => Nat.le_of_eq (h i hi hne)) (by omega)
  rw [ns_0] at this
  unfold tn
  omega
theorem tn_mem {L : Nat → Int64} {b k : Nat} (h : k < 19) : lz L (22 * b + k) ≤ tn L b := ns_mem (f := fun k => lz L (22 * b + k)) h
theorem ns_part {g : Nat → Nat} {k : Nat} : ∀ {n : Nat}, k < n → ns n (fun i => if i < k then g i else 0) + g k ≤ ns n g
  | 0, h => absurd h (Nat.not_lt_zero _)
  | n + 1, h => by
    rw [ns_s, ns_s]
    by_cases q : k = n
    · subst q
      rw [if_neg (Nat.lt_irrefl _)]
      have : ns k (fun i => if i < k then g i else 0) = ns k g := ns_congr (fun i hi => if_pos hi)
      omega
    · have := ns_part (g := g) (k := k) (n := n) (by omega)
      rw [if_neg (show ¬ n < k by omega)]
      omega
/-- the first part's lines and those of the second but the new variable's -/
theorem tn_sum {U M N : Nat → Int64} {b c e kn : Nat} (hk : kn < 19) (h : ∀ k, k < 19 → lz U (22 * b + k) ≤ lz M (22 * c + k) + (if k < kn then lz N (22 * e + k) else 0)) : tn U b + lz N (22 * e + kn) ≤ tn M c + tn N e := by
  have h1 : tn U b ≤ ns 19 (fun k => lz M (22 * c + k) + (if k < kn then lz N (22 * e + k) else 0)) := ns_le h
  rw [ns_add] at h1
  have h2 := ns_part (g := fun k => lz N (22 * e + k)) hk
  unfold tn at *
  omega
end
