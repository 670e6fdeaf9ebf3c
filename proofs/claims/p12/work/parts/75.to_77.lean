section
theorem d_Mo_lay_0 : decode c_Mo_lay 0 = .ok (.aload_n 0, 1) := by decide +kernel
theorem d_Mo_lay_1 : decode c_Mo_lay 1 = .ok (.aload_n 0, 1) := by decide +kernel
theorem d_Mo_lay_2 : decode c_Mo_lay 2 = .ok (.getfield 198, 3) := by decide +kernel
theorem d_Mo_lay_5 : decode c_Mo_lay 5 = .ok (.putfield 333, 3) := by decide +kernel
theorem d_Mo_lay_8 : decode c_Mo_lay 8 = .ok (.aload_n 0, 1) := by decide +kernel
theorem d_Mo_lay_9 : decode c_Mo_lay 9 = .ok (.aload_n 0, 1) := by decide +kernel
theorem d_Mo_lay_10 : decode c_Mo_lay 10 = .ok (.getfield 9, 3) := by decide +kernel
theorem d_Mo_lay_13 : decode c_Mo_lay 13 = .ok (.iload_n 1, 1) := by decide +kernel
theorem d_Mo_lay_14 : decode c_Mo_lay 14 = .ok (.iaload, 1) := by decide +kernel
theorem d_Mo_lay_15 : decode c_Mo_lay 15 = .ok (.iconst 2, 1) := by decide +kernel
theorem d_Mo_lay_16 : decode c_Mo_lay 16 = .ok (.iadd, 1) := by decide +kernel
theorem d_Mo_lay_17 : decode c_Mo_lay 17 = .ok (.putfield 336, 3) := by decide +kernel
theorem d_Mo_lay_20 : decode c_Mo_lay 20 = .ok (.aload_n 0, 1) := by decide +kernel
theorem d_Mo_lay_21 : decode c_Mo_lay 21 = .ok (.sipush 3997, 3) := by decide +kernel
theorem d_Mo_lay_24 : decode c_Mo_lay 24 = .ok (.lconst 1, 1) := by decide +kernel
theorem d_Mo_lay_25 : decode c_Mo_lay 25 = .ok (.invokevirtual 360, 3) := by decide +kernel
theorem d_Mo_lay_28 : decode c_Mo_lay 28 = .ok (.aload_n 0, 1) := by decide +kernel
theorem d_Mo_lay_29 : decode c_Mo_lay 29 = .ok (.iconst (-1), 1) := by decide +kernel
theorem d_Mo_lay_30 : decode c_Mo_lay 30 = .ok (.putfield 364, 3) := by decide +kernel
theorem d_Mo_lay_33 : decode c_Mo_lay 33 = .ok (.iconst 0, 1) := by decide +kernel
theorem d_Mo_lay_34 : decode c_Mo_lay 34 = .ok (.istore_n 2, 1) := by decide +kernel
theorem d_Mo_lay_35 : decode c_Mo_lay 35 = .ok (.iload_n 2, 1) := by decide +kernel
theorem d_Mo_lay_36 : decode c_Mo_lay 36 = .ok (.aload_n 0, 1) := by decide +kernel
theorem d_Mo_lay_37 : decode c_Mo_lay 37 = .ok (.getfield 192, 3) := by decide +kernel
theorem d_Mo_lay_40 : decode c_Mo_lay 40 = .ok (.if_icmp .gt 16, 3) := by decide +kernel
theorem d_Mo_lay_43 : decode c_Mo_lay 43 = .ok (.aload_n 0, 1) := by decide +kernel
theorem d_Mo_lay_44 : decode c_Mo_lay 44 = .ok (.getfield 108, 3) := by decide +kernel
theorem d_Mo_lay_47 : decode c_Mo_lay 47 = .ok (.iload_n 2, 1) := by decide +kernel
theorem d_Mo_lay_48 : decode c_Mo_lay 48 = .ok (.iload_n 2, 1) := by decide +kernel
theorem d_Mo_lay_49 : decode c_Mo_lay 49 = .ok (.iastore, 1) := by decide +kernel
theorem d_Mo_lay_50 : decode c_Mo_lay 50 = .ok (.iinc 2 1, 3) := by decide +kernel
theorem d_Mo_lay_53 : decode c_Mo_lay 53 = .ok (.goto (-18), 3) := by decide +kernel
theorem d_Mo_lay_56 : decode c_Mo_lay 56 = .ok (.iconst 0, 1) := by decide +kernel
theorem d_Mo_lay_57 : decode c_Mo_lay 57 = .ok (.istore_n 2, 1) := by decide +kernel
theorem d_Mo_lay_58 : decode c_Mo_lay 58 = .ok (.iload_n 2, 1) := by decide +kernel
theorem d_Mo_lay_59 : decode c_Mo_lay 59 = .ok (.aload_n 0, 1) := by decide +kernel
theorem d_Mo_lay_60 : decode c_Mo_lay 60 = .ok (.getfield 333, 3) := by decide +kernel
theorem d_Mo_lay_63 : decode c_Mo_lay 63 = .ok (.if_icmp .ge 93, 3) := by decide +kernel
theorem d_Mo_lay_66 : decode c_Mo_lay 66 = .ok (.aload_n 0, 1) := by decide +kernel
theorem d_Mo_lay_67 : decode c_Mo_lay 67 = .ok (.getfield 105, 3) := by decide +kernel
theorem d_Mo_lay_70 : decode c_Mo_lay 70 = .ok (.iload_n 2, 1) := by decide +kernel
theorem d_Mo_lay_71 : decode c_Mo_lay 71 = .ok (.aload_n 0, 1) := by decide +kernel
theorem d_Mo_lay_72 : decode c_Mo_lay 72 = .ok (.getfield 192, 3) := by decide +kernel
theorem d_Mo_lay_75 : decode c_Mo_lay 75 = .ok (.iconst 1, 1) := by decide +kernel
theorem d_Mo_lay_76 : decode c_Mo_lay 76 = .ok (.iadd, 1) := by decide +kernel
theorem d_Mo_lay_77 : decode c_Mo_lay 77 = .ok (.iload_n 2, 1) := by decide +kernel
theorem d_Mo_lay_78 : decode c_Mo_lay 78 = .ok (.iadd, 1) := by decide +kernel
theorem d_Mo_lay_79 : decode c_Mo_lay 79 = .ok (.iastore, 1) := by decide +kernel
theorem d_Mo_lay_80 : decode c_Mo_lay 80 = .ok (.aload_n 0, 1) := by decide +kernel
theorem d_Mo_lay_81 : decode c_Mo_lay 81 = .ok (.iload_n 2, 1) := by decide +kernel
theorem d_Mo_lay_82 : decode c_Mo_lay 82 = .ok (.iconst 0, 1) := by decide +kernel
theorem d_Mo_lay_83 : decode c_Mo_lay 83 = .ok (.invokestatic 328, 3) := by decide +kernel
theorem d_Mo_lay_86 : decode c_Mo_lay 86 = .ok (.lconst 0, 1) := by decide +kernel
theorem d_Mo_lay_87 : decode c_Mo_lay 87 = .ok (.invokevirtual 360, 3) := by decide +kernel
theorem d_Mo_lay_90 : decode c_Mo_lay 90 = .ok (.iconst 0, 1) := by decide +kernel
theorem d_Mo_lay_91 : decode c_Mo_lay 91 = .ok (.istore_n 3, 1) := by decide +kernel
theorem d_Mo_lay_92 : decode c_Mo_lay 92 = .ok (.iload_n 3, 1) := by decide +kernel
theorem d_Mo_lay_93 : decode c_Mo_lay 93 = .ok (.aload_n 0, 1) := by decide +kernel
theorem d_Mo_lay_94 : decode c_Mo_lay 94 = .ok (.getfield 192, 3) := by decide +kernel
theorem d_Mo_lay_97 : decode c_Mo_lay 97 = .ok (.if_icmp .ge 31, 3) := by decide +kernel
theorem d_Mo_lay_100 : decode c_Mo_lay 100 = .ok (.aload_n 0, 1) := by decide +kernel
theorem d_Mo_lay_101 : decode c_Mo_lay 101 = .ok (.iload_n 2, 1) := by decide +kernel
theorem d_Mo_lay_102 : decode c_Mo_lay 102 = .ok (.iload_n 3, 1) := by decide +kernel
theorem d_Mo_lay_103 : decode c_Mo_lay 103 = .ok (.iconst 1, 1) := by decide +kernel
theorem d_Mo_lay_104 : decode c_Mo_lay 104 = .ok (.iadd, 1) := by decide +kernel
theorem d_Mo_lay_105 : decode c_Mo_lay 105 = .ok (.invokestatic 328, 3) := by decide +kernel
theorem d_Mo_lay_108 : decode c_Mo_lay 108 = .ok (.aload_n 0, 1) := by decide +kernel
theorem d_Mo_lay_109 : decode c_Mo_lay 109 = .ok (.getfield 64, 3) := by decide +kernel
theorem d_Mo_lay_112 : decode c_Mo_lay 112 = .ok (.bipush 41, 2) := by decide +kernel
theorem d_Mo_lay_114 : decode c_Mo_lay 114 = .ok (.iload_n 2, 1) := by decide +kernel
theorem d_Mo_lay_115 : decode c_Mo_lay 115 = .ok (.imul, 1) := by decide +kernel
theorem d_Mo_lay_116 : decode c_Mo_lay 116 = .ok (.iload_n 3, 1) := by decide +kernel
theorem d_Mo_lay_117 : decode c_Mo_lay 117 = .ok (.iadd, 1) := by decide +kernel
theorem d_Mo_lay_118 : decode c_Mo_lay 118 = .ok (.laload, 1) := by decide +kernel
theorem d_Mo_lay_119 : decode c_Mo_lay 119 = .ok (.invokevirtual 360, 3) := by decide +kernel
theorem d_Mo_lay_122 : decode c_Mo_lay 122 = .ok (.iinc 3 1, 3) := by decide +kernel
theorem d_Mo_lay_125 : decode c_Mo_lay 125 = .ok (.goto (-33), 3) := by decide +kernel
theorem d_Mo_lay_128 : decode c_Mo_lay 128 = .ok (.aload_n 0, 1) := by decide +kernel
theorem d_Mo_lay_129 : decode c_Mo_lay 129 = .ok (.iload_n 2, 1) := by decide +kernel
theorem d_Mo_lay_130 : decode c_Mo_lay 130 = .ok (.bipush 41, 2) := by decide +kernel
theorem d_Mo_lay_132 : decode c_Mo_lay 132 = .ok (.invokestatic 328, 3) := by decide +kernel
theorem d_Mo_lay_135 : decode c_Mo_lay 135 = .ok (.aload_n 0, 1) := by decide +kernel
theorem d_Mo_lay_136 : decode c_Mo_lay 136 = .ok (.getfield 64, 3) := by decide +kernel
theorem d_Mo_lay_139 : decode c_Mo_lay 139 = .ok (.bipush 41, 2) := by decide +kernel
theorem d_Mo_lay_141 : decode c_Mo_lay 141 = .ok (.iload_n 2, 1) := by decide +kernel
theorem d_Mo_lay_142 : decode c_Mo_lay 142 = .ok (.imul, 1) := by decide +kernel
theorem d_Mo_lay_143 : decode c_Mo_lay 143 = .ok (.bipush 40, 2) := by decide +kernel
theorem d_Mo_lay_145 : decode c_Mo_lay 145 = .ok (.iadd, 1) := by decide +kernel
theorem d_Mo_lay_146 : decode c_Mo_lay 146 = .ok (.laload, 1) := by decide +kernel
theorem d_Mo_lay_147 : decode c_Mo_lay 147 = .ok (.invokevirtual 360, 3) := by decide +kernel
theorem d_Mo_lay_150 : decode c_Mo_lay 150 = .ok (.iinc 2 1, 3) := by decide +kernel
theorem d_Mo_lay_153 : decode c_Mo_lay 153 = .ok (.goto (-95), 3) := by decide +kernel
theorem d_Mo_lay_156 : decode c_Mo_lay 156 = .ok (.iconst 0, 1) := by decide +kernel
theorem d_Mo_lay_157 : decode c_Mo_lay 157 = .ok (.istore_n 2, 1) := by decide +kernel
theorem d_Mo_lay_158 : decode c_Mo_lay 158 = .ok (.iload_n 2, 1) := by decide +kernel
theorem d_Mo_lay_159 : decode c_Mo_lay 159 = .ok (.aload_n 0, 1) := by decide +kernel
theorem d_Mo_lay_160 : decode c_Mo_lay 160 = .ok (.getfield 336, 3) := by decide +kernel
theorem d_Mo_lay_163 : decode c_Mo_lay 163 = .ok (.if_icmp .ge 56, 3) := by decide +kernel
theorem d_Mo_lay_166 : decode c_Mo_lay 166 = .ok (.iconst 0, 1) := by decide +kernel
theorem d_Mo_lay_167 : decode c_Mo_lay 167 = .ok (.istore_n 3, 1) := by decide +kernel
theorem d_Mo_lay_168 : decode c_Mo_lay 168 = .ok (.iload_n 3, 1) := by decide +kernel
theorem d_Mo_lay_169 : decode c_Mo_lay 169 = .ok (.aload_n 0, 1) := by decide +kernel
theorem d_Mo_lay_170 : decode c_Mo_lay 170 = .ok (.getfield 192, 3) := by decide +kernel
theorem d_Mo_lay_173 : decode c_Mo_lay 173 = .ok (.if_icmp .gt 24, 3) := by decide +kernel
theorem d_Mo_lay_176 : decode c_Mo_lay 176 = .ok (.aload_n 0, 1) := by decide +kernel
theorem d_Mo_lay_177 : decode c_Mo_lay 177 = .ok (.aload_n 0, 1) := by decide +kernel
theorem d_Mo_lay_178 : decode c_Mo_lay 178 = .ok (.getfield 333, 3) := by decide +kernel
theorem d_Mo_lay_181 : decode c_Mo_lay 181 = .ok (.iload_n 2, 1) := by decide +kernel
theorem d_Mo_lay_182 : decode c_Mo_lay 182 = .ok (.iadd, 1) := by decide +kernel
theorem d_Mo_lay_183 : decode c_Mo_lay 183 = .ok (.iload_n 3, 1) := by decide +kernel
theorem d_Mo_lay_184 : decode c_Mo_lay 184 = .ok (.invokestatic 328, 3) := by decide +kernel
theorem d_Mo_lay_187 : decode c_Mo_lay 187 = .ok (.lconst 0, 1) := by decide +kernel
theorem d_Mo_lay_188 : decode c_Mo_lay 188 = .ok (.invokevirtual 360, 3) := by decide +kernel
theorem d_Mo_lay_191 : decode c_Mo_lay 191 = .ok (.iinc 3 1, 3) := by decide +kernel
theorem d_Mo_lay_194 : decode c_Mo_lay 194 = .ok (.goto (-26), 3) := by decide +kernel
theorem d_Mo_lay_197 : decode c_Mo_lay 197 = .ok (.aload_n 0, 1) := by decide +kernel
theorem d_Mo_lay_198 : decode c_Mo_lay 198 = .ok (.aload_n 0, 1) := by decide +kernel
theorem d_Mo_lay_199 : decode c_Mo_lay 199 = .ok (.getfield 333, 3) := by decide +kernel
theorem d_Mo_lay_202 : decode c_Mo_lay 202 = .ok (.iload_n 2, 1) := by decide +kernel
theorem d_Mo_lay_203 : decode c_Mo_lay 203 = .ok (.iadd, 1) := by decide +kernel
theorem d_Mo_lay_204 : decode c_Mo_lay 204 = .ok (.bipush 41, 2) := by decide +kernel
theorem d_Mo_lay_206 : decode c_Mo_lay 206 = .ok (.invokestatic 328, 3) := by decide +kernel
theorem d_Mo_lay_209 : decode c_Mo_lay 209 = .ok (.lconst 0, 1) := by decide +kernel
theorem d_Mo_lay_210 : decode c_Mo_lay 210 = .ok (.invokevirtual 360, 3) := by decide +kernel
theorem d_Mo_lay_213 : decode c_Mo_lay 213 = .ok (.iinc 2 1, 3) := by decide +kernel
theorem d_Mo_lay_216 : decode c_Mo_lay 216 = .ok (.goto (-58), 3) := by decide +kernel
theorem d_Mo_lay_219 : decode c_Mo_lay 219 = .ok (.iconst 0, 1) := by decide +kernel
theorem d_Mo_lay_220 : decode c_Mo_lay 220 = .ok (.istore_n 2, 1) := by decide +kernel
theorem d_Mo_lay_221 : decode c_Mo_lay 221 = .ok (.iload_n 2, 1) := by decide +kernel
theorem d_Mo_lay_222 : decode c_Mo_lay 222 = .ok (.aload_n 0, 1) := by decide +kernel
theorem d_Mo_lay_223 : decode c_Mo_lay 223 = .ok (.getfield 9, 3) := by decide +kernel
theorem d_Mo_lay_226 : decode c_Mo_lay 226 = .ok (.iload_n 1, 1) := by decide +kernel
theorem d_Mo_lay_227 : decode c_Mo_lay 227 = .ok (.iaload, 1) := by decide +kernel
theorem d_Mo_lay_228 : decode c_Mo_lay 228 = .ok (.if_icmp .gt 53, 3) := by decide +kernel
theorem d_Mo_lay_231 : decode c_Mo_lay 231 = .ok (.aload_n 0, 1) := by decide +kernel
theorem d_Mo_lay_232 : decode c_Mo_lay 232 = .ok (.aload_n 0, 1) := by decide +kernel
theorem d_Mo_lay_233 : decode c_Mo_lay 233 = .ok (.getfield 333, 3) := by decide +kernel
theorem d_Mo_lay_236 : decode c_Mo_lay 236 = .ok (.aload_n 0, 1) := by decide +kernel
theorem d_Mo_lay_237 : decode c_Mo_lay 237 = .ok (.iload_n 1, 1) := by decide +kernel
theorem d_Mo_lay_238 : decode c_Mo_lay 238 = .ok (.iload_n 2, 1) := by decide +kernel
theorem d_Mo_lay_239 : decode c_Mo_lay 239 = .ok (.invokevirtual 263, 3) := by decide +kernel
theorem d_Mo_lay_242 : decode c_Mo_lay 242 = .ok (.iconst 1, 1) := by decide +kernel
theorem d_Mo_lay_243 : decode c_Mo_lay 243 = .ok (.iadd, 1) := by decide +kernel
theorem d_Mo_lay_244 : decode c_Mo_lay 244 = .ok (.invokestatic 328, 3) := by decide +kernel
theorem d_Mo_lay_247 : decode c_Mo_lay 247 = .ok (.lconst 1, 1) := by decide +kernel
theorem d_Mo_lay_248 : decode c_Mo_lay 248 = .ok (.invokevirtual 360, 3) := by decide +kernel
theorem d_Mo_lay_251 : decode c_Mo_lay 251 = .ok (.aload_n 0, 1) := by decide +kernel
theorem d_Mo_lay_252 : decode c_Mo_lay 252 = .ok (.aload_n 0, 1) := by decide +kernel
theorem d_Mo_lay_253 : decode c_Mo_lay 253 = .ok (.getfield 333, 3) := by decide +kernel
theorem d_Mo_lay_256 : decode c_Mo_lay 256 = .ok (.iconst 1, 1) := by decide +kernel
theorem d_Mo_lay_257 : decode c_Mo_lay 257 = .ok (.iadd, 1) := by decide +kernel
theorem d_Mo_lay_258 : decode c_Mo_lay 258 = .ok (.iload_n 2, 1) := by decide +kernel
theorem d_Mo_lay_259 : decode c_Mo_lay 259 = .ok (.iadd, 1) := by decide +kernel
theorem d_Mo_lay_260 : decode c_Mo_lay 260 = .ok (.aload_n 0, 1) := by decide +kernel
theorem d_Mo_lay_261 : decode c_Mo_lay 261 = .ok (.iload_n 1, 1) := by decide +kernel
theorem d_Mo_lay_262 : decode c_Mo_lay 262 = .ok (.iload_n 2, 1) := by decide +kernel
theorem d_Mo_lay_263 : decode c_Mo_lay 263 = .ok (.invokevirtual 263, 3) := by decide +kernel
theorem d_Mo_lay_266 : decode c_Mo_lay 266 = .ok (.iconst 1, 1) := by decide +kernel
theorem d_Mo_lay_267 : decode c_Mo_lay 267 = .ok (.iadd, 1) := by decide +kernel
theorem d_Mo_lay_268 : decode c_Mo_lay 268 = .ok (.invokestatic 328, 3) := by decide +kernel
theorem d_Mo_lay_271 : decode c_Mo_lay 271 = .ok (.lconst 1, 1) := by decide +kernel
theorem d_Mo_lay_272 : decode c_Mo_lay 272 = .ok (.invokevirtual 360, 3) := by decide +kernel
theorem d_Mo_lay_275 : decode c_Mo_lay 275 = .ok (.iinc 2 1, 3) := by decide +kernel
theorem d_Mo_lay_278 : decode c_Mo_lay 278 = .ok (.goto (-57), 3) := by decide +kernel
theorem d_Mo_lay_281 : decode c_Mo_lay 281 = .ok (.return_, 1) := by decide +kernel
set_option maxRecDepth 100000 in
set_option maxHeartbeats 16000000 in
/-- lay(f9) -/
theorem g_Mo_lay (l : Launch) (G : va_G) (k : Nat → ClassId) (h0 : Nat) (s0 : Nat) (f9 : Nat) (un : Nat) (rows : Nat) (ma : Nat → Nat) (iv : Nat → Int32) (co : Int64) (tk : Nat → Nat) (fs : Nat → Nat) (sm : Nat → Int64) (dg : Nat → Nat) (sz : Nat → Nat) (bl : Nat → Nat) (rn : Nat → Nat) (cn : Nat → Nat) (T : Nat → Int) (hT : tbO dg sz bl T) (hf : f9 < 4) (htk : tk f9 ≤ 3) (hu : un ≤ 40) (hro : rows ≤ 90) (hfs : fs f9 + tk f9 + 1 ≤ un) (hsm : ∀ i, i < 41 * rows → -9223372036854775808 < (sm i).toInt) : CV l y_Mo_lay c_Mo_lay 4 { frames := 2, cells := 0, slots := 0, locals := 42 } [.ref h0, .int (nI f9)] G k s0 [(h0, .inr (8, moL ma (va_up (va_up iv 14 (nI un)) 15 (nI rows)) co)), ((ma 0), .inl (k 0, 4, .inl (fun i => nI (tk i)))), ((ma 14), .inl (k 0, 4, .inl (fun i => nI (fs i)))), ((ma 15), .inl (k 1, 3690, .inr (.inl sm))), ((ma 21), .inl (k 0, 319840, .inl (fun i => nI (dg i)))), ((ma 22), .inl (k 0, 3998, .inl (fun i => nI (sz i)))), ((ma 23), .inl (k 2, 3998, .inl (fun i => nI (bl i)))), ((ma 28), .inl (k 0, 90, .inl (fun i => nI (rn i)))), ((ma 29), .inl (k 0, 41, .inl (fun i => nI (cn i))))] (fun (u : Nat → Nat → Nat) => (∃ T9, tbO (u 0) (u 1) (u 2) T9 ∧ layO un rows 0 (fs f9) (tk f9) (fun i => (sm i).toInt) T9 ∧ T9 3994 = T 3994) ∧ (∀ i, i < rows → u 3 i = un + 1 + i) ∧ ∀ j, j < un + 1 → u 4 j = j) (fun u => [(h0, .inr (8, moL ma (va_up (va_up (va_up (va_up (va_up iv 14 (nI un)) 15 (nI rows)) 24 (nI rows)) 25 (nI (tk f9 + 2))) 28 (-1)) co)), ((ma 0), .inl (k 0, 4, .inl (fun i => nI (tk i)))), ((ma 14), .inl (k 0, 4, .inl (fun i => nI (fs i)))), ((ma 15), .inl (k 1, 3690, .inr (.inl sm))), ((ma 21), .inl (k 0, 319840, .inl (fun i => nI (u 0 i)))), ((ma 22), .inl (k 0, 3998, .inl (fun i => nI (u 1 i)))), ((ma 23), .inl (k 2, 3998, .inl (fun i => nI (u 2 i)))), ((ma 28), .inl (k 0, 90, .inl (fun i => nI (u 3 i)))), ((ma 29), .inl (k 0, 41, .inl (fun i => nI (u 4 i))))]) 0 0 := by
  refine met_start (by decide) (Nat.le_of_ble_eq_true rfl) ?_
  intro p e s m below meth c C K hA hsz S ls hl
  generalize va_A [(h0, .inr (8, moL ma (va_up (va_up iv 14 (nI un)) 15 (nI rows)) co)), ((ma 0), .inl (k 0, 4, .inl (fun i => nI (tk i)))), ((ma 14), .inl (k 0, 4, .inl (fun i => nI (fs i)))), ((ma 15), .inl (k 1, 3690, .inr (.inl sm))), ((ma 21), .inl (k 0, 319840, .inl (fun i => nI (dg i)))), ((ma 22), .inl (k 0, 3998, .inl (fun i => nI (sz i)))), ((ma 23), .inl (k 2, 3998, .inl (fun i => nI (bl i)))), ((ma 28), .inl (k 0, 90, .inl (fun i => nI (rn i)))), ((ma 29), .inl (k 0, 41, .inl (fun i => nI (cn i))))] s0 = A at hA S ⊢
  have hx := C.1
  have hb := C.2.1
  have hl : lv_has ls 4 [(0, .ref h0), (1, .int (nI f9))] := hl
  refine lv_aload_n hx hb d_Mo_lay_0 rfl (lv_at hl 0 rfl) ?_
  refine lv_aload_n hx hb d_Mo_lay_1 rfl (lv_at hl 0 rfl) ?_
  refine r_get C K S 0 rfl rfl clOk_Mo 30 (by decide) wf_Mo_198 (v := .int (nI rows)) rfl d_Mo_lay_2 ?_
  refine r_put C K S 0 rfl rfl clOk_Mo 53 (by decide) wf_Mo_333 rfl (ty := .int) (v := .int (nI rows)) (by decide +kernel) rfl rfl (Nat.le_of_ble_eq_true rfl) (fs' := moL ma (va_up (va_up (va_up iv 14 (nI un)) 15 (nI rows)) 24 (nI rows)) co) (ws' := [(h0, .inr (8, moL ma (va_up (va_up (va_up iv 14 (nI un)) 15 (nI rows)) 24 (nI rows)) co)), ((ma 0), .inl (k 0, 4, .inl (fun i => nI (tk i)))), ((ma 14), .inl (k 0, 4, .inl (fun i => nI (fs i)))), ((ma 15), .inl (k 1, 3690, .inr (.inl sm))), ((ma 21), .inl (k 0, 319840, .inl (fun i => nI (dg i)))), ((ma 22), .inl (k 0, 3998, .inl (fun i => nI (sz i)))), ((ma 23), .inl (k 2, 3998, .inl (fun i => nI (bl i)))), ((ma 28), .inl (k 0, 90, .inl (fun i => nI (rn i)))), ((ma 29), .inl (k 0, 41, .inl (fun i => nI (cn i))))]) rfl rfl d_Mo_lay_5 (fun H locs S => ?_)
  refine lv_aload_n hx hb d_Mo_lay_8 rfl (lv_at hl 0 rfl) ?_
  refine lv_aload_n hx hb d_Mo_lay_9 rfl (lv_at hl 0 rfl) ?_
  refine r_get C K S 0 rfl rfl clOk_Mo 1 (by decide) wf_Mo_9 (v := .ref (ma 0)) rfl d_Mo_lay_10 ?_
  refine lv_iload_n hx hb d_Mo_lay_13 rfl (lv_at hl 1 rfl) ?_
  refine r_iald C K S 1 rfl (i := nI f9) (show vp_in (nI f9) _ from vp_in_nI (n := f9) (by omega) (by decide)) (v := nI (tk f9)) (by rw [nI_clamp (by omega)]) d_Mo_lay_14 ?_
  refine lv_iconst (v := 2) hx hb d_Mo_lay_15 (by decide) ?_
  refine z_iadd (x := nI (tk f9)) (y := 2) (v := nI (tk f9 + 2)) hx hb d_Mo_lay_16 (nI_add (tk f9) 2) ?_
  refine r_put C K S 0 rfl rfl clOk_Mo 54 (by decide) wf_Mo_336 rfl (ty := .int) (v := .int (nI (tk f9 + 2))) (by decide +kernel) rfl rfl (Nat.le_of_ble_eq_true rfl) (fs' := moL ma (va_up (va_up (va_up (va_up iv 14 (nI un)) 15 (nI rows)) 24 (nI rows)) 25 (nI (tk f9 + 2))) co) (ws' := [(h0, .inr (8, moL ma (va_up (va_up (va_up (va_up iv 14 (nI un)) 15 (nI rows)) 24 (nI rows)) 25 (nI (tk f9 + 2))) co)), ((ma 0), .inl (k 0, 4, .inl (fun i => nI (tk i)))), ((ma 14), .inl (k 0, 4, .inl (fun i => nI (fs i)))), ((ma 15), .inl (k 1, 3690, .inr (.inl sm))), ((ma 21), .inl (k 0, 319840, .inl (fun i => nI (dg i)))), ((ma 22), .inl (k 0, 3998, .inl (fun i => nI (sz i)))), ((ma 23), .inl (k 2, 3998, .inl (fun i => nI (bl i)))), ((ma 28), .inl (k 0, 90, .inl (fun i => nI (rn i)))), ((ma 29), .inl (k 0, 41, .inl (fun i => nI (cn i))))]) rfl rfl d_Mo_lay_17 (fun H locs S => ?_)
  refine lv_aload_n hx hb d_Mo_lay_20 rfl (lv_at hl 0 rfl) ?_
  refine lv_sipush (v := 3997) hx hb d_Mo_lay_21 (by decide) ?_
  refine lv_lconst (v := 1) hx hb d_Mo_lay_24 (by decide) ?_
  refine r_backv (wi := [(h0, .inr (8, moL ma (va_up (va_up (va_up (va_up iv 14 (nI un)) 15 (nI rows)) 24 (nI rows)) 25 (nI (tk f9 + 2))) co)), ((ma 21), .inl (k 0, 319840, .inl (fun i => nI (dg i)))), ((ma 22), .inl (k 0, 3998, .inl (fun i => nI (sz i)))), ((ma 23), .inl (k 2, 3998, .inl (fun i => nI (bl i))))]) (wr := [((ma 0), .inl (k 0, 4, .inl (fun i => nI (tk i)))), ((ma 14), .inl (k 0, 4, .inl (fun i => nI (fs i)))), ((ma 15), .inl (k 1, 3690, .inr (.inl sm))), ((ma 28), .inl (k 0, 90, .inl (fun i => nI (rn i)))), ((ma 29), .inl (k 0, 41, .inl (fun i => nI (cn i))))]) S hA [0, 4, 5, 6] [1, 2, 3, 7, 8] rfl rfl (by decide) (by decide) (va_runV (As := [.int 3997, .long 1]) (rest := []) ⟨hx, hb, C.2.2.1, C.2.2.2.1, C.2.2.2.2.1⟩ (g_Mo_putZ l G k h0 _ 3997 1 ma (va_up (va_up (va_up (va_up iv 14 (nI un)) 15 (nI rows)) 24 (nI rows)) 25 (nI (tk f9 + 2))) co dg sz bl T hT (by omega) (by decide)) (k_virt (n := 2) C wc_Mo_put rfl rfl wz_Mo wm_Mo_360 wn_Mo_put ws_Mo_put (by decide +kernel) ⟨(Nat.le_of_ble_eq_true rfl), (Nat.le_of_ble_eq_true rfl)⟩) (pr_nowV K S [0, 4, 5, 6] (by decide) rfl 0 rfl rfl) rfl rfl hl.1 rfl (lv_room (Nat.le_of_ble_eq_true rfl)) d_Mo_lay_25 ⟨(Nat.le_of_ble_eq_true rfl), (Nat.le_of_ble_eq_true rfl)⟩) (fun p1 H locs hw1 S => ?_)
  have S : Sw G A s.heap _ _ [((ma 0), .inl (k 0, 4, .inl (fun i => nI (tk i)))), ((ma 14), .inl (k 0, 4, .inl (fun i => nI (fs i)))), ((ma 15), .inl (k 1, 3690, .inr (.inl sm))), ((ma 28), .inl (k 0, 90, .inl (fun i => nI (rn i)))), ((ma 29), .inl (k 0, 41, .inl (fun i => nI (cn i)))), (h0, .inr (8, moL ma (va_up (va_up (va_up (va_up iv 14 (nI un)) 15 (nI rows)) 24 (nI rows)) 25 (nI (tk f9 + 2))) co)), ((ma 21), .inl (k 0, 319840, .inl (fun i => nI (p1.1 i)))), ((ma 22), .inl (k 0, 3998, .inl (fun i => nI (p1.2.1 i)))), ((ma 23), .inl (k 2, 3998, .inl (fun i => nI (p1.2.2 i))))] := S
  have hT_p1 : tbO p1.1 p1.2.1 p1.2.2 (va_up T 3997 1) := by have h9 := hw1; rw [show (1 : Int64).toInt = 1 from by decide] at h9; exact h9
  refine lv_aload_n hx hb d_Mo_lay_28 rfl (lv_at hl 0 rfl) ?_
  refine lv_iconst (v := (-1)) hx hb d_Mo_lay_29 (by decide) ?_
  refine r_put C K S 5 rfl rfl clOk_Mo 59 (by decide) wf_Mo_364 rfl (ty := .int) (v := .int (-1)) (by decide +kernel) rfl rfl (Nat.le_of_ble_eq_true rfl) (fs' := moL ma (va_up (va_up (va_up (va_up (va_up iv 14 (nI un)) 15 (nI rows)) 24 (nI rows)) 25 (nI (tk f9 + 2))) 28 (-1)) co) (ws' := [((ma 0), .inl (k 0, 4, .inl (fun i => nI (tk i)))), ((ma 14), .inl (k 0, 4, .inl (fun i => nI (fs i)))), ((ma 15), .inl (k 1, 3690, .inr (.inl sm))), ((ma 28), .inl (k 0, 90, .inl (fun i => nI (rn i)))), ((ma 29), .inl (k 0, 41, .inl (fun i => nI (cn i)))), (h0, .inr (8, moL ma (va_up (va_up (va_up (va_up (va_up iv 14 (nI un)) 15 (nI rows)) 24 (nI rows)) 25 (nI (tk f9 + 2))) 28 (-1)) co)), ((ma 21), .inl (k 0, 319840, .inl (fun i => nI (p1.1 i)))), ((ma 22), .inl (k 0, 3998, .inl (fun i => nI (p1.2.1 i)))), ((ma 23), .inl (k 2, 3998, .inl (fun i => nI (p1.2.2 i))))]) rfl rfl d_Mo_lay_30 (fun H locs S => ?_)
  refine lv_iconst (v := 0) hx hb d_Mo_lay_33 (by decide) ?_
  refine lv_istore_n (lv' := [(2, .int 0), (0, .ref h0), (1, .int (nI f9))]) hx hb d_Mo_lay_34 rfl hl (by decide) rfl (fun ls hl => ?_)
  have g94 : va_up T 3997 1 3994 = T 3994 := va_up_ne _ _ (by decide)
  have la : ∀ d9, ∀ (j : Nat), ∀ (cn9 : Nat → Nat), (un + 1 - j) < d9 → (j ≤ un + 1) → (∀ x, x < j → cn9 x = x) → ∀ (H : Heap) (locs : List Loc), Sw G A s.heap H locs [(h0, .inr (8, moL ma (va_up (va_up (va_up (va_up (va_up iv 14 (nI un)) 15 (nI rows)) 24 (nI rows)) 25 (nI (tk f9 + 2))) 28 (-1)) co)), ((ma 0), .inl (k 0, 4, .inl (fun i => nI (tk i)))), ((ma 14), .inl (k 0, 4, .inl (fun i => nI (fs i)))), ((ma 15), .inl (k 1, 3690, .inr (.inl sm))), ((ma 21), .inl (k 0, 319840, .inl (fun i => nI (p1.1 i)))), ((ma 22), .inl (k 0, 3998, .inl (fun i => nI (p1.2.1 i)))), ((ma 23), .inl (k 2, 3998, .inl (fun i => nI (p1.2.2 i)))), ((ma 28), .inl (k 0, 90, .inl (fun i => nI (rn i)))), ((ma 29), .inl (k 0, 41, .inl (fun i => nI (cn9 i))))] → ∀ ls : Array Slot, lv_has ls 4 [(2, .int (nI j)), (1, .int (nI f9)), (0, .ref h0)] → W p l e { frames := 2, cells := 0, slots := 0, locals := 42 } s m [Value.ref h0, Value.int (nI f9)].toArray below meth c H locs 0 0 (MQ below (va_Qv (fun (u : Nat → Nat → Nat) => (∃ T9, tbO (u 0) (u 1) (u 2) T9 ∧ layO un rows 0 (fs f9) (tk f9) (fun i => (sm i).toInt) T9 ∧ T9 3994 = T 3994) ∧ (∀ i, i < rows → u 3 i = un + 1 + i) ∧ ∀ j, j < un + 1 → u 4 j = j) (Po G k A (fun u => [(h0, .inr (8, moL ma (va_up (va_up (va_up (va_up (va_up iv 14 (nI un)) 15 (nI rows)) 24 (nI rows)) 25 (nI (tk f9 + 2))) 28 (-1)) co)), ((ma 0), .inl (k 0, 4, .inl (fun i => nI (tk i)))), ((ma 14), .inl (k 0, 4, .inl (fun i => nI (fs i)))), ((ma 15), .inl (k 1, 3690, .inr (.inl sm))), ((ma 21), .inl (k 0, 319840, .inl (fun i => nI (u 0 i)))), ((ma 22), .inl (k 0, 3998, .inl (fun i => nI (u 1 i)))), ((ma 23), .inl (k 2, 3998, .inl (fun i => nI (u 2 i)))), ((ma 28), .inl (k 0, 90, .inl (fun i => nI (u 3 i)))), ((ma 29), .inl (k 0, 41, .inl (fun i => nI (u 4 i))))])) A) [Value.ref h0, Value.int (nI f9)].toArray s 0 0 A) (F0 m 35 ls []) := by
    intro d9
    induction d9 with
    | zero => intro j cn9 hm; exact absurd hm (Nat.not_lt_zero _)
    | succ d9 ih_la =>
      intro j cn9 hm hj hcn H locs S ls hl
      refine lv_iload_n hx hb d_Mo_lay_35 rfl (lv_at hl 0 rfl) ?_
      refine lv_aload_n hx hb d_Mo_lay_36 rfl (lv_at hl 2 rfl) ?_
      refine r_get C K S 0 rfl rfl clOk_Mo 29 (by decide) wf_Mo_192 (v := .int (nI un)) rfl d_Mo_lay_37 ?_
      refine z_icmp_gt (a := j) (b := un) (tgt := 56) hx hb d_Mo_lay_40 (by decide) (by omega) (by omega) (fun hc2 => ?_) (fun hc2 => ?_)
      · have hcn : ∀ x, x < un + 1 → cn9 x = x := (show j = un + 1 by omega) ▸ hcn
        refine lv_iconst (v := 0) hx hb d_Mo_lay_56 (by decide) ?_
        refine lv_istore_n (lv' := [(2, .int 0), (1, .int (nI f9)), (0, .ref h0)]) hx hb d_Mo_lay_57 rfl hl (by decide) rfl (fun ls hl => ?_)
        have lb : ∀ d9, ∀ (ri : Nat), ∀ (D : Nat → Nat), ∀ (Z : Nat → Nat), ∀ (B : Nat → Nat), ∀ (rn9 : Nat → Nat), ∀ (T9 : Nat → Int), (rows - ri) < d9 → (ri ≤ rows) → (tbO D Z B T9) → (lyB un ri (fun i => (sm i).toInt) T9) → (T9 3994 = T 3994) → (∀ x, x < ri → rn9 x = un + 1 + x) → ∀ (H : Heap) (locs : List Loc), Sw G A s.heap H locs [(h0, .inr (8, moL ma (va_up (va_up (va_up (va_up (va_up iv 14 (nI un)) 15 (nI rows)) 24 (nI rows)) 25 (nI (tk f9 + 2))) 28 (-1)) co)), ((ma 0), .inl (k 0, 4, .inl (fun i => nI (tk i)))), ((ma 14), .inl (k 0, 4, .inl (fun i => nI (fs i)))), ((ma 15), .inl (k 1, 3690, .inr (.inl sm))), ((ma 21), .inl (k 0, 319840, .inl (fun i => nI (D i)))), ((ma 22), .inl (k 0, 3998, .inl (fun i => nI (Z i)))), ((ma 23), .inl (k 2, 3998, .inl (fun i => nI (B i)))), ((ma 28), .inl (k 0, 90, .inl (fun i => nI (rn9 i)))), ((ma 29), .inl (k 0, 41, .inl (fun i => nI (cn9 i))))] → ∀ ls : Array Slot, lv_has ls 4 [(2, .int (nI ri)), (1, .int (nI f9)), (0, .ref h0)] → W p l e { frames := 2, cells := 0, slots := 0, locals := 42 } s m [Value.ref h0, Value.int (nI f9)].toArray below meth c H locs 0 0 (MQ below (va_Qv (fun (u : Nat → Nat → Nat) => (∃ T9, tbO (u 0) (u 1) (u 2) T9 ∧ layO un rows 0 (fs f9) (tk f9) (fun i => (sm i).toInt) T9 ∧ T9 3994 = T 3994) ∧ (∀ i, i < rows → u 3 i = un + 1 + i) ∧ ∀ j, j < un + 1 → u 4 j = j) (Po G k A (fun u => [(h0, .inr (8, moL ma (va_up (va_up (va_up (va_up (va_up iv 14 (nI un)) 15 (nI rows)) 24 (nI rows)) 25 (nI (tk f9 + 2))) 28 (-1)) co)), ((ma 0), .inl (k 0, 4, .inl (fun i => nI (tk i)))), ((ma 14), .inl (k 0, 4, .inl (fun i => nI (fs i)))), ((ma 15), .inl (k 1, 3690, .inr (.inl sm))), ((ma 21), .inl (k 0, 319840, .inl (fun i => nI (u 0 i)))), ((ma 22), .inl (k 0, 3998, .inl (fun i => nI (u 1 i)))), ((ma 23), .inl (k 2, 3998, .inl (fun i => nI (u 2 i)))), ((ma 28), .inl (k 0, 90, .inl (fun i => nI (u 3 i)))), ((ma 29), .inl (k 0, 41, .inl (fun i => nI (u 4 i))))])) A) [Value.ref h0, Value.int (nI f9)].toArray s 0 0 A) (F0 m 58 ls []) := by
          intro d9
          induction d9 with
          | zero => intro ri D Z B rn9 T9 hm; exact absurd hm (Nat.not_lt_zero _)
          | succ d9 ih_lb =>
            intro ri D Z B rn9 T9 hm hri hT2 hB h94 hrn H locs S ls hl
            refine lv_iload_n hx hb d_Mo_lay_58 rfl (lv_at hl 0 rfl) ?_
            refine lv_aload_n hx hb d_Mo_lay_59 rfl (lv_at hl 2 rfl) ?_
            refine r_get C K S 0 rfl rfl clOk_Mo 53 (by decide) wf_Mo_333 (v := .int (nI rows)) rfl d_Mo_lay_60 ?_
            refine z_icmp_ge (a := ri) (b := rows) (tgt := 156) hx hb d_Mo_lay_63 (by decide) (by omega) (by omega) (fun hc3 => ?_) (fun hc3 => ?_)
            · obtain ⟨hB, hrn⟩ : lyB un rows (fun i => (sm i).toInt) T9 ∧ ∀ x, x < rows → rn9 x = un + 1 + x := (show ri = rows by omega) ▸ ⟨hB, hrn⟩
              refine lv_iconst (v := 0) hx hb d_Mo_lay_156 (by decide) ?_
              refine lv_istore_n (lv' := [(2, .int 0), (1, .int (nI f9)), (0, .ref h0)]) hx hb d_Mo_lay_157 rfl hl (by decide) rfl (fun ls hl => ?_)
              have lc : ∀ d9, ∀ (q9 : Nat), ∀ (D4 : Nat → Nat), ∀ (Z4 : Nat → Nat), ∀ (B4 : Nat → Nat), ∀ (T4 : Nat → Int), (tk f9 + 2 - q9) < d9 → (q9 ≤ tk f9 + 2) → (tbO D4 Z4 B4 T4) → (lyB un rows (fun i => (sm i).toInt) T4) → (lyC un rows q9 0 T4) → (T4 3994 = T 3994) → ∀ (H : Heap) (locs : List Loc), Sw G A s.heap H locs [(h0, .inr (8, moL ma (va_up (va_up (va_up (va_up (va_up iv 14 (nI un)) 15 (nI rows)) 24 (nI rows)) 25 (nI (tk f9 + 2))) 28 (-1)) co)), ((ma 0), .inl (k 0, 4, .inl (fun i => nI (tk i)))), ((ma 14), .inl (k 0, 4, .inl (fun i => nI (fs i)))), ((ma 15), .inl (k 1, 3690, .inr (.inl sm))), ((ma 21), .inl (k 0, 319840, .inl (fun i => nI (D4 i)))), ((ma 22), .inl (k 0, 3998, .inl (fun i => nI (Z4 i)))), ((ma 23), .inl (k 2, 3998, .inl (fun i => nI (B4 i)))), ((ma 28), .inl (k 0, 90, .inl (fun i => nI (rn9 i)))), ((ma 29), .inl (k 0, 41, .inl (fun i => nI (cn9 i))))] → ∀ ls : Array Slot, lv_has ls 4 [(2, .int (nI q9)), (1, .int (nI f9)), (0, .ref h0)] → W p l e { frames := 2, cells := 0, slots := 0, locals := 42 } s m [Value.ref h0, Value.int (nI f9)].toArray below meth c H locs 0 0 (MQ below (va_Qv (fun (u : Nat → Nat → Nat) => (∃ T9, tbO (u 0) (u 1) (u 2) T9 ∧ layO un rows 0 (fs f9) (tk f9) (fun i => (sm i).toInt) T9 ∧ T9 3994 = T 3994) ∧ (∀ i, i < rows → u 3 i = un + 1 + i) ∧ ∀ j, j < un + 1 → u 4 j = j) (Po G k A (fun u => [(h0, .inr (8, moL ma (va_up (va_up (va_up (va_up (va_up iv 14 (nI un)) 15 (nI rows)) 24 (nI rows)) 25 (nI (tk f9 + 2))) 28 (-1)) co)), ((ma 0), .inl (k 0, 4, .inl (fun i => nI (tk i)))), ((ma 14), .inl (k 0, 4, .inl (fun i => nI (fs i)))), ((ma 15), .inl (k 1, 3690, .inr (.inl sm))), ((ma 21), .inl (k 0, 319840, .inl (fun i => nI (u 0 i)))), ((ma 22), .inl (k 0, 3998, .inl (fun i => nI (u 1 i)))), ((ma 23), .inl (k 2, 3998, .inl (fun i => nI (u 2 i)))), ((ma 28), .inl (k 0, 90, .inl (fun i => nI (u 3 i)))), ((ma 29), .inl (k 0, 41, .inl (fun i => nI (u 4 i))))])) A) [Value.ref h0, Value.int (nI f9)].toArray s 0 0 A) (F0 m 158 ls []) := by
                intro d9
                induction d9 with
                | zero => intro q9 D4 Z4 B4 T4 hm; exact absurd hm (Nat.not_lt_zero _)
                | succ d9 ih_lc =>
                  intro q9 D4 Z4 B4 T4 hm hq hT4 hB4 hC h944 H locs S ls hl
                  refine lv_iload_n hx hb d_Mo_lay_158 rfl (lv_at hl 0 rfl) ?_
                  refine lv_aload_n hx hb d_Mo_lay_159 rfl (lv_at hl 2 rfl) ?_
                  refine r_get C K S 0 rfl rfl clOk_Mo 54 (by decide) wf_Mo_336 (v := .int (nI (tk f9 + 2))) rfl d_Mo_lay_160 ?_
                  refine z_icmp_ge (a := q9) (b := (tk f9 + 2)) (tgt := 219) hx hb d_Mo_lay_163 (by decide) (by omega) (by omega) (fun hc4 => ?_) (fun hc4 => ?_)
                  · have hC : lyC un rows (tk f9 + 2) 0 T4 := (show q9 = tk f9 + 2 by omega) ▸ hC
                    refine lv_iconst (v := 0) hx hb d_Mo_lay_219 (by decide) ?_
                    refine lv_istore_n (lv' := [(2, .int 0), (1, .int (nI f9)), (0, .ref h0)]) hx hb d_Mo_lay_220 rfl hl (by decide) rfl (fun ls hl => ?_)
                    have ld : ∀ d9, ∀ (k9 : Nat), ∀ (D6 : Nat → Nat), ∀ (Z6 : Nat → Nat), ∀ (B6 : Nat → Nat), ∀ (T6 : Nat → Int), (tk f9 + 1 - k9) < d9 → (k9 ≤ tk f9 + 1) → (tbO D6 Z6 B6 T6) → (lyB un rows (fun i => (sm i).toInt) T6) → (lyD un rows (fs f9) (tk f9) k9 T6) → (T6 3994 = T 3994) → ∀ (H : Heap) (locs : List Loc), Sw G A s.heap H locs [(h0, .inr (8, moL ma (va_up (va_up (va_up (va_up (va_up iv 14 (nI un)) 15 (nI rows)) 24 (nI rows)) 25 (nI (tk f9 + 2))) 28 (-1)) co)), ((ma 0), .inl (k 0, 4, .inl (fun i => nI (tk i)))), ((ma 14), .inl (k 0, 4, .inl (fun i => nI (fs i)))), ((ma 15), .inl (k 1, 3690, .inr (.inl sm))), ((ma 21), .inl (k 0, 319840, .inl (fun i => nI (D6 i)))), ((ma 22), .inl (k 0, 3998, .inl (fun i => nI (Z6 i)))), ((ma 23), .inl (k 2, 3998, .inl (fun i => nI (B6 i)))), ((ma 28), .inl (k 0, 90, .inl (fun i => nI (rn9 i)))), ((ma 29), .inl (k 0, 41, .inl (fun i => nI (cn9 i))))] → ∀ ls : Array Slot, lv_has ls 4 [(2, .int (nI k9)), (1, .int (nI f9)), (0, .ref h0)] → W p l e { frames := 2, cells := 0, slots := 0, locals := 42 } s m [Value.ref h0, Value.int (nI f9)].toArray below meth c H locs 0 0 (MQ below (va_Qv (fun (u : Nat → Nat → Nat) => (∃ T9, tbO (u 0) (u 1) (u 2) T9 ∧ layO un rows 0 (fs f9) (tk f9) (fun i => (sm i).toInt) T9 ∧ T9 3994 = T 3994) ∧ (∀ i, i < rows → u 3 i = un + 1 + i) ∧ ∀ j, j < un + 1 → u 4 j = j) (Po G k A (fun u => [(h0, .inr (8, moL ma (va_up (va_up (va_up (va_up (va_up iv 14 (nI un)) 15 (nI rows)) 24 (nI rows)) 25 (nI (tk f9 + 2))) 28 (-1)) co)), ((ma 0), .inl (k 0, 4, .inl (fun i => nI (tk i)))), ((ma 14), .inl (k 0, 4, .inl (fun i => nI (fs i)))), ((ma 15), .inl (k 1, 3690, .inr (.inl sm))), ((ma 21), .inl (k 0, 319840, .inl (fun i => nI (u 0 i)))), ((ma 22), .inl (k 0, 3998, .inl (fun i => nI (u 1 i)))), ((ma 23), .inl (k 2, 3998, .inl (fun i => nI (u 2 i)))), ((ma 28), .inl (k 0, 90, .inl (fun i => nI (u 3 i)))), ((ma 29), .inl (k 0, 41, .inl (fun i => nI (u 4 i))))])) A) [Value.ref h0, Value.int (nI f9)].toArray s 0 0 A) (F0 m 221 ls []) := by
                      intro d9
                      induction d9 with
                      | zero => intro k9 D6 Z6 B6 T6 hm; exact absurd hm (Nat.not_lt_zero _)
                      | succ d9 ih_ld =>
                        intro k9 D6 Z6 B6 T6 hm hk hT6 hB6 hD6 h946 H locs S ls hl
                        refine lv_iload_n hx hb d_Mo_lay_221 rfl (lv_at hl 0 rfl) ?_
                        refine lv_aload_n hx hb d_Mo_lay_222 rfl (lv_at hl 2 rfl) ?_
                        refine r_get C K S 0 rfl rfl clOk_Mo 1 (by decide) wf_Mo_9 (v := .ref (ma 0)) rfl d_Mo_lay_223 ?_
                        refine lv_iload_n hx hb d_Mo_lay_226 rfl (lv_at hl 1 rfl) ?_
                        refine r_iald C K S 1 rfl (i := nI f9) (show vp_in (nI f9) _ from vp_in_nI (n := f9) (by omega) (by decide)) (v := nI (tk f9)) (by rw [nI_clamp (by omega)]) d_Mo_lay_227 ?_
                        refine z_icmp_gt (a := k9) (b := (tk f9)) (tgt := 281) hx hb d_Mo_lay_228 (by decide) (by omega) (by omega) (fun hc5 => ?_) (fun hc5 => ?_)
                        · exact r_vret C K (uz [D6, Z6, B6, rn9, cn9]) ⟨⟨T6, hT6, ly_done hB6 ((show k9 = tk f9 + 1 by omega) ▸ hD6), h946⟩, hrn, hcn⟩ (S.sub [0, 1, 2, 3, 4, 5, 6, 7, 8] (by decide) rfl) d_Mo_lay_281 (Nat.le_of_ble_eq_true rfl) (Nat.le_of_ble_eq_true rfl)
                        · refine lv_aload_n hx hb d_Mo_lay_231 rfl (lv_at hl 2 rfl) ?_
                          refine lv_aload_n hx hb d_Mo_lay_232 rfl (lv_at hl 2 rfl) ?_
                          refine r_get C K S 0 rfl rfl clOk_Mo 53 (by decide) wf_Mo_333 (v := .int (nI rows)) rfl d_Mo_lay_233 ?_
                          refine lv_aload_n hx hb d_Mo_lay_236 rfl (lv_at hl 2 rfl) ?_
                          refine lv_iload_n hx hb d_Mo_lay_237 rfl (lv_at hl 1 rfl) ?_
                          refine lv_iload_n hx hb d_Mo_lay_238 rfl (lv_at hl 0 rfl) ?_
                          refine r_backi (wi := [(h0, .inr (8, moL ma (va_up (va_up (va_up (va_up (va_up iv 14 (nI un)) 15 (nI rows)) 24 (nI rows)) 25 (nI (tk f9 + 2))) 28 (-1)) co)), ((ma 14), .inl (k 0, 4, .inl (fun i => nI (fs i))))]) (wr := [((ma 0), .inl (k 0, 4, .inl (fun i => nI (tk i)))), ((ma 15), .inl (k 1, 3690, .inr (.inl sm))), ((ma 21), .inl (k 0, 319840, .inl (fun i => nI (D6 i)))), ((ma 22), .inl (k 0, 3998, .inl (fun i => nI (Z6 i)))), ((ma 23), .inl (k 2, 3998, .inl (fun i => nI (B6 i)))), ((ma 28), .inl (k 0, 90, .inl (fun i => nI (rn9 i)))), ((ma 29), .inl (k 0, 41, .inl (fun i => nI (cn9 i))))]) S hA [0, 2] [1, 3, 4, 5, 6, 7, 8] rfl rfl (by decide) (by decide) (va_runV (As := [.int (nI f9), .int (nI k9)]) (rest := [.int (nI rows), .ref h0]) ⟨hx, hb, C.2.2.1, C.2.2.2.1, C.2.2.2.2.1⟩ (g_Mo_unknown l G k h0 _ ma (va_up (va_up (va_up (va_up (va_up iv 14 (nI un)) 15 (nI rows)) 24 (nI rows)) 25 (nI (tk f9 + 2))) 28 (-1)) co fs f9 k9 (by omega)) (k_virt (n := 2) C wc_Mo_unknown rfl rfl wz_Mo wm_Mo_263 wn_Mo_unknown ws_Mo_unknown (by decide +kernel) ⟨(Nat.le_of_ble_eq_true rfl), (Nat.le_of_ble_eq_true rfl)⟩) (pr_nowV K S [0, 2] (by decide) rfl 0 rfl rfl) rfl rfl hl.1 rfl (lv_room (Nat.le_of_ble_eq_true rfl)) d_Mo_lay_239 ⟨(Nat.le_of_ble_eq_true rfl), (Nat.le_of_ble_eq_true rfl)⟩) (fun r8 u6 H locs hw7 S => ?_)
                          have S : Sw G A s.heap _ _ [((ma 0), .inl (k 0, 4, .inl (fun i => nI (tk i)))), ((ma 15), .inl (k 1, 3690, .inr (.inl sm))), ((ma 21), .inl (k 0, 319840, .inl (fun i => nI (D6 i)))), ((ma 22), .inl (k 0, 3998, .inl (fun i => nI (Z6 i)))), ((ma 23), .inl (k 2, 3998, .inl (fun i => nI (B6 i)))), ((ma 28), .inl (k 0, 90, .inl (fun i => nI (rn9 i)))), ((ma 29), .inl (k 0, 41, .inl (fun i => nI (cn9 i)))), (h0, .inr (8, moL ma (va_up (va_up (va_up (va_up (va_up iv 14 (nI un)) 15 (nI rows)) 24 (nI rows)) 25 (nI (tk f9 + 2))) 28 (-1)) co)), ((ma 14), .inl (k 0, 4, .inl (fun i => nI (fs i))))] := S
                          obtain rfl : r8 = nI (fs f9 + k9) := hw7
                          refine lv_iconst (v := 1) hx hb d_Mo_lay_242 (by decide) ?_
                          refine z_iadd (x := nI (fs f9 + k9)) (y := 1) (v := nI (fs f9 + k9 + 1)) hx hb d_Mo_lay_243 (nI_add (fs f9 + k9) 1) ?_
                          refine r_backi (wi := []) (wr := [((ma 0), .inl (k 0, 4, .inl (fun i => nI (tk i)))), ((ma 15), .inl (k 1, 3690, .inr (.inl sm))), ((ma 21), .inl (k 0, 319840, .inl (fun i => nI (D6 i)))), ((ma 22), .inl (k 0, 3998, .inl (fun i => nI (Z6 i)))), ((ma 23), .inl (k 2, 3998, .inl (fun i => nI (B6 i)))), ((ma 28), .inl (k 0, 90, .inl (fun i => nI (rn9 i)))), ((ma 29), .inl (k 0, 41, .inl (fun i => nI (cn9 i)))), (h0, .inr (8, moL ma (va_up (va_up (va_up (va_up (va_up iv 14 (nI un)) 15 (nI rows)) 24 (nI rows)) 25 (nI (tk f9 + 2))) 28 (-1)) co)), ((ma 14), .inl (k 0, 4, .inl (fun i => nI (fs i))))]) S hA [] [0, 1, 2, 3, 4, 5, 6, 7, 8] rfl rfl (by decide) (by decide) (va_runS (As := [.int (nI rows), .int (nI (fs f9 + k9 + 1))]) (rest := [.ref h0]) ⟨hx, hb, C.2.2.1, C.2.2.2.1, C.2.2.2.2.1⟩ (g_Mo_at l G k _ rows (fs f9 + k9 + 1)) (k_stat (n := 2) C wc_Mo_at rfl rfl wz_Mo wm_Mo_328 wt_Mo_at (by decide +kernel) ⟨(Nat.le_of_ble_eq_true rfl), (Nat.le_of_ble_eq_true rfl)⟩) (pr_now K S [] (by decide) rfl) rfl rfl hl.1 rfl (lv_room (Nat.le_of_ble_eq_true rfl)) d_Mo_lay_244 ⟨(Nat.le_of_ble_eq_true rfl), (Nat.le_of_ble_eq_true rfl)⟩) (fun r12 u10 H locs hw11 S => ?_)
                          have S : Sw G A s.heap _ _ [((ma 0), .inl (k 0, 4, .inl (fun i => nI (tk i)))), ((ma 15), .inl (k 1, 3690, .inr (.inl sm))), ((ma 21), .inl (k 0, 319840, .inl (fun i => nI (D6 i)))), ((ma 22), .inl (k 0, 3998, .inl (fun i => nI (Z6 i)))), ((ma 23), .inl (k 2, 3998, .inl (fun i => nI (B6 i)))), ((ma 28), .inl (k 0, 90, .inl (fun i => nI (rn9 i)))), ((ma 29), .inl (k 0, 41, .inl (fun i => nI (cn9 i)))), (h0, .inr (8, moL ma (va_up (va_up (va_up (va_up (va_up iv 14 (nI un)) 15 (nI rows)) 24 (nI rows)) 25 (nI (tk f9 + 2))) 28 (-1)) co)), ((ma 14), .inl (k 0, 4, .inl (fun i => nI (fs i))))] := S
                          obtain rfl : r12 = nI (42 * rows + (fs f9 + k9 + 1)) := hw11
                          refine lv_lconst (v := 1) hx hb d_Mo_lay_247 (by decide) ?_
                          refine r_backv (wi := [(h0, .inr (8, moL ma (va_up (va_up (va_up (va_up (va_up iv 14 (nI un)) 15 (nI rows)) 24 (nI rows)) 25 (nI (tk f9 + 2))) 28 (-1)) co)), ((ma 21), .inl (k 0, 319840, .inl (fun i => nI (D6 i)))), ((ma 22), .inl (k 0, 3998, .inl (fun i => nI (Z6 i)))), ((ma 23), .inl (k 2, 3998, .inl (fun i => nI (B6 i))))]) (wr := [((ma 0), .inl (k 0, 4, .inl (fun i => nI (tk i)))), ((ma 15), .inl (k 1, 3690, .inr (.inl sm))), ((ma 28), .inl (k 0, 90, .inl (fun i => nI (rn9 i)))), ((ma 29), .inl (k 0, 41, .inl (fun i => nI (cn9 i)))), ((ma 14), .inl (k 0, 4, .inl (fun i => nI (fs i))))]) S hA [7, 2, 3, 4] [0, 1, 5, 6, 8] rfl rfl (by decide) (by decide) (va_runV (As := [.int (nI (42 * rows + (fs f9 + k9 + 1))), .long 1]) (rest := []) ⟨hx, hb, C.2.2.1, C.2.2.2.1, C.2.2.2.2.1⟩ (g_Mo_putZ l G k h0 _ (42 * rows + (fs f9 + k9 + 1)) 1 ma (va_up (va_up (va_up (va_up (va_up iv 14 (nI un)) 15 (nI rows)) 24 (nI rows)) 25 (nI (tk f9 + 2))) 28 (-1)) co D6 Z6 B6 T6 hT6 (by omega) (by decide)) (k_virt (n := 2) C wc_Mo_put rfl rfl wz_Mo wm_Mo_360 wn_Mo_put ws_Mo_put (by decide +kernel) ⟨(Nat.le_of_ble_eq_true rfl), (Nat.le_of_ble_eq_true rfl)⟩) (pr_nowV K S [7, 2, 3, 4] (by decide) rfl 7 rfl rfl) rfl rfl hl.1 rfl (lv_room (Nat.le_of_ble_eq_true rfl)) d_Mo_lay_248 ⟨(Nat.le_of_ble_eq_true rfl), (Nat.le_of_ble_eq_true rfl)⟩) (fun p2 H locs hw14 S => ?_)
                          have S : Sw G A s.heap _ _ [((ma 0), .inl (k 0, 4, .inl (fun i => nI (tk i)))), ((ma 15), .inl (k 1, 3690, .inr (.inl sm))), ((ma 28), .inl (k 0, 90, .inl (fun i => nI (rn9 i)))), ((ma 29), .inl (k 0, 41, .inl (fun i => nI (cn9 i)))), ((ma 14), .inl (k 0, 4, .inl (fun i => nI (fs i)))), (h0, .inr (8, moL ma (va_up (va_up (va_up (va_up (va_up iv 14 (nI un)) 15 (nI rows)) 24 (nI rows)) 25 (nI (tk f9 + 2))) 28 (-1)) co)), ((ma 21), .inl (k 0, 319840, .inl (fun i => nI (p2.1 i)))), ((ma 22), .inl (k 0, 3998, .inl (fun i => nI (p2.2.1 i)))), ((ma 23), .inl (k 2, 3998, .inl (fun i => nI (p2.2.2 i))))] := S
                          have hT_p2 : tbO p2.1 p2.2.1 p2.2.2 (va_up T6 (42 * rows + (fs f9 + k9 + 1)) 1) := by have h9 := hw14; rw [show (1 : Int64).toInt = 1 from by decide] at h9; exact h9
                          refine lv_aload_n hx hb d_Mo_lay_251 rfl (lv_at hl 2 rfl) ?_
                          refine lv_aload_n hx hb d_Mo_lay_252 rfl (lv_at hl 2 rfl) ?_
                          refine r_get C K S 5 rfl rfl clOk_Mo 53 (by decide) wf_Mo_333 (v := .int (nI rows)) rfl d_Mo_lay_253 ?_
                          refine lv_iconst (v := 1) hx hb d_Mo_lay_256 (by decide) ?_
                          refine z_iadd (x := nI rows) (y := 1) (v := nI (rows + 1)) hx hb d_Mo_lay_257 (nI_add rows 1) ?_
                          refine lv_iload_n hx hb d_Mo_lay_258 rfl (lv_at hl 0 rfl) ?_
                          refine z_iadd (x := nI (rows + 1)) (y := nI k9) (v := nI (rows + 1 + k9)) hx hb d_Mo_lay_259 (nI_add (rows + 1) k9) ?_
                          refine lv_aload_n hx hb d_Mo_lay_260 rfl (lv_at hl 2 rfl) ?_
                          refine lv_iload_n hx hb d_Mo_lay_261 rfl (lv_at hl 1 rfl) ?_
                          refine lv_iload_n hx hb d_Mo_lay_262 rfl (lv_at hl 0 rfl) ?_
                          refine r_backi (wi := [(h0, .inr (8, moL ma (va_up (va_up (va_up (va_up (va_up iv 14 (nI un)) 15 (nI rows)) 24 (nI rows)) 25 (nI (tk f9 + 2))) 28 (-1)) co)), ((ma 14), .inl (k 0, 4, .inl (fun i => nI (fs i))))]) (wr := [((ma 0), .inl (k 0, 4, .inl (fun i => nI (tk i)))), ((ma 15), .inl (k 1, 3690, .inr (.inl sm))), ((ma 28), .inl (k 0, 90, .inl (fun i => nI (rn9 i)))), ((ma 29), .inl (k 0, 41, .inl (fun i => nI (cn9 i)))), ((ma 21), .inl (k 0, 319840, .inl (fun i => nI (p2.1 i)))), ((ma 22), .inl (k 0, 3998, .inl (fun i => nI (p2.2.1 i)))), ((ma 23), .inl (k 2, 3998, .inl (fun i => nI (p2.2.2 i))))]) S hA [5, 4] [0, 1, 2, 3, 6, 7, 8] rfl rfl (by decide) (by decide) (va_runV (As := [.int (nI f9), .int (nI k9)]) (rest := [.int (nI (rows + 1 + k9)), .ref h0]) ⟨hx, hb, C.2.2.1, C.2.2.2.1, C.2.2.2.2.1⟩ (g_Mo_unknown l G k h0 _ ma (va_up (va_up (va_up (va_up (va_up iv 14 (nI un)) 15 (nI rows)) 24 (nI rows)) 25 (nI (tk f9 + 2))) 28 (-1)) co fs f9 k9 (by omega)) (k_virt (n := 2) C wc_Mo_unknown rfl rfl wz_Mo wm_Mo_263 wn_Mo_unknown ws_Mo_unknown (by decide +kernel) ⟨(Nat.le_of_ble_eq_true rfl), (Nat.le_of_ble_eq_true rfl)⟩) (pr_nowV K S [5, 4] (by decide) rfl 5 rfl rfl) rfl rfl hl.1 rfl (lv_room (Nat.le_of_ble_eq_true rfl)) d_Mo_lay_263 ⟨(Nat.le_of_ble_eq_true rfl), (Nat.le_of_ble_eq_true rfl)⟩) (fun r17 u15 H locs hw16 S => ?_)
                          have S : Sw G A s.heap _ _ [((ma 0), .inl (k 0, 4, .inl (fun i => nI (tk i)))), ((ma 15), .inl (k 1, 3690, .inr (.inl sm))), ((ma 28), .inl (k 0, 90, .inl (fun i => nI (rn9 i)))), ((ma 29), .inl (k 0, 41, .inl (fun i => nI (cn9 i)))), ((ma 21), .inl (k 0, 319840, .inl (fun i => nI (p2.1 i)))), ((ma 22), .inl (k 0, 3998, .inl (fun i => nI (p2.2.1 i)))), ((ma 23), .inl (k 2, 3998, .inl (fun i => nI (p2.2.2 i)))), (h0, .inr (8, moL ma (va_up (va_up (va_up (va_up (va_up iv 14 (nI un)) 15 (nI rows)) 24 (nI rows)) 25 (nI (tk f9 + 2))) 28 (-1)) co)), ((ma 14), .inl (k 0, 4, .inl (fun i => nI (fs i))))] := S
                          obtain rfl : r17 = nI (fs f9 + k9) := hw16
                          refine lv_iconst (v := 1) hx hb d_Mo_lay_266 (by decide) ?_
                          refine z_iadd (x := nI (fs f9 + k9)) (y := 1) (v := nI (fs f9 + k9 + 1)) hx hb d_Mo_lay_267 (nI_add (fs f9 + k9) 1) ?_
                          refine r_backi (wi := []) (wr := [((ma 0), .inl (k 0, 4, .inl (fun i => nI (tk i)))), ((ma 15), .inl (k 1, 3690, .inr (.inl sm))), ((ma 28), .inl (k 0, 90, .inl (fun i => nI (rn9 i)))), ((ma 29), .inl (k 0, 41, .inl (fun i => nI (cn9 i)))), ((ma 21), .inl (k 0, 319840, .inl (fun i => nI (p2.1 i)))), ((ma 22), .inl (k 0, 3998, .inl (fun i => nI (p2.2.1 i)))), ((ma 23), .inl (k 2, 3998, .inl (fun i => nI (p2.2.2 i)))), (h0, .inr (8, moL ma (va_up (va_up (va_up (va_up (va_up iv 14 (nI un)) 15 (nI rows)) 24 (nI rows)) 25 (nI (tk f9 + 2))) 28 (-1)) co)), ((ma 14), .inl (k 0, 4, .inl (fun i => nI (fs i))))]) S hA [] [0, 1, 2, 3, 4, 5, 6, 7, 8] rfl rfl (by decide) (by decide) (va_runS (As := [.int (nI (rows + 1 + k9)), .int (nI (fs f9 + k9 + 1))]) (rest := [.ref h0]) ⟨hx, hb, C.2.2.1, C.2.2.2.1, C.2.2.2.2.1⟩ (g_Mo_at l G k _ (rows + 1 + k9) (fs f9 + k9 + 1)) (k_stat (n := 2) C wc_Mo_at rfl rfl wz_Mo wm_Mo_328 wt_Mo_at (by decide +kernel) ⟨(Nat.le_of_ble_eq_true rfl), (Nat.le_of_ble_eq_true rfl)⟩) (pr_now K S [] (by decide) rfl) rfl rfl hl.1 rfl (lv_room (Nat.le_of_ble_eq_true rfl)) d_Mo_lay_268 ⟨(Nat.le_of_ble_eq_true rfl), (Nat.le_of_ble_eq_true rfl)⟩) (fun r21 u19 H locs hw20 S => ?_)
                          have S : Sw G A s.heap _ _ [((ma 0), .inl (k 0, 4, .inl (fun i => nI (tk i)))), ((ma 15), .inl (k 1, 3690, .inr (.inl sm))), ((ma 28), .inl (k 0, 90, .inl (fun i => nI (rn9 i)))), ((ma 29), .inl (k 0, 41, .inl (fun i => nI (cn9 i)))), ((ma 21), .inl (k 0, 319840, .inl (fun i => nI (p2.1 i)))), ((ma 22), .inl (k 0, 3998, .inl (fun i => nI (p2.2.1 i)))), ((ma 23), .inl (k 2, 3998, .inl (fun i => nI (p2.2.2 i)))), (h0, .inr (8, moL ma (va_up (va_up (va_up (va_up (va_up iv 14 (nI un)) 15 (nI rows)) 24 (nI rows)) 25 (nI (tk f9 + 2))) 28 (-1)) co)), ((ma 14), .inl (k 0, 4, .inl (fun i => nI (fs i))))] := S
                          obtain rfl : r21 = nI (42 * (rows + 1 + k9) + (fs f9 + k9 + 1)) := hw20
                          refine lv_lconst (v := 1) hx hb d_Mo_lay_271 (by decide) ?_
                          refine r_backv (wi := [(h0, .inr (8, moL ma (va_up (va_up (va_up (va_up (va_up iv 14 (nI un)) 15 (nI rows)) 24 (nI rows)) 25 (nI (tk f9 + 2))) 28 (-1)) co)), ((ma 21), .inl (k 0, 319840, .inl (fun i => nI (p2.1 i)))), ((ma 22), .inl (k 0, 3998, .inl (fun i => nI (p2.2.1 i)))), ((ma 23), .inl (k 2, 3998, .inl (fun i => nI (p2.2.2 i))))]) (wr := [((ma 0), .inl (k 0, 4, .inl (fun i => nI (tk i)))), ((ma 15), .inl (k 1, 3690, .inr (.inl sm))), ((ma 28), .inl (k 0, 90, .inl (fun i => nI (rn9 i)))), ((ma 29), .inl (k 0, 41, .inl (fun i => nI (cn9 i)))), ((ma 14), .inl (k 0, 4, .inl (fun i => nI (fs i))))]) S hA [7, 4, 5, 6] [0, 1, 2, 3, 8] rfl rfl (by decide) (by decide) (va_runV (As := [.int (nI (42 * (rows + 1 + k9) + (fs f9 + k9 + 1))), .long 1]) (rest := []) ⟨hx, hb, C.2.2.1, C.2.2.2.1, C.2.2.2.2.1⟩ (g_Mo_putZ l G k h0 _ (42 * (rows + 1 + k9) + (fs f9 + k9 + 1)) 1 ma (va_up (va_up (va_up (va_up (va_up iv 14 (nI un)) 15 (nI rows)) 24 (nI rows)) 25 (nI (tk f9 + 2))) 28 (-1)) co p2.1 p2.2.1 p2.2.2 (va_up T6 (42 * rows + (fs f9 + k9 + 1)) 1) hT_p2 (by omega) (by decide)) (k_virt (n := 2) C wc_Mo_put rfl rfl wz_Mo wm_Mo_360 wn_Mo_put ws_Mo_put (by decide +kernel) ⟨(Nat.le_of_ble_eq_true rfl), (Nat.le_of_ble_eq_true rfl)⟩) (pr_nowV K S [7, 4, 5, 6] (by decide) rfl 7 rfl rfl) rfl rfl hl.1 rfl (lv_room (Nat.le_of_ble_eq_true rfl)) d_Mo_lay_272 ⟨(Nat.le_of_ble_eq_true rfl), (Nat.le_of_ble_eq_true rfl)⟩) (fun p3 H locs hw23 S => ?_)
                          have S : Sw G A s.heap _ _ [((ma 0), .inl (k 0, 4, .inl (fun i => nI (tk i)))), ((ma 15), .inl (k 1, 3690, .inr (.inl sm))), ((ma 28), .inl (k 0, 90, .inl (fun i => nI (rn9 i)))), ((ma 29), .inl (k 0, 41, .inl (fun i => nI (cn9 i)))), ((ma 14), .inl (k 0, 4, .inl (fun i => nI (fs i)))), (h0, .inr (8, moL ma (va_up (va_up (va_up (va_up (va_up iv 14 (nI un)) 15 (nI rows)) 24 (nI rows)) 25 (nI (tk f9 + 2))) 28 (-1)) co)), ((ma 21), .inl (k 0, 319840, .inl (fun i => nI (p3.1 i)))), ((ma 22), .inl (k 0, 3998, .inl (fun i => nI (p3.2.1 i)))), ((ma 23), .inl (k 2, 3998, .inl (fun i => nI (p3.2.2 i))))] := S
                          have hT_p3 : tbO p3.1 p3.2.1 p3.2.2 (va_up (va_up T6 (42 * rows + (fs f9 + k9 + 1)) 1) (42 * (rows + 1 + k9) + (fs f9 + k9 + 1)) 1) := by have h9 := hw23; rw [show (1 : Int64).toInt = 1 from by decide] at h9; exact h9
                          refine lv_iinc (v := nI (k9 + 1)) (lv' := [(2, .int (nI (k9 + 1))), (1, .int (nI f9)), (0, .ref h0)]) hx hb d_Mo_lay_275 hl (k := 0) rfl (show nI k9 + Int32.ofInt 1 = nI (k9 + 1) from (nI_add k9 1).trans (congrArg nI (by omega))) (by decide) rfl (fun ls hl => ?_)
                          refine lv_goto (tgt := 221) hx hb d_Mo_lay_278 (by decide) ?_
                          exact ih_ld (k9 + 1) p3.1 p3.2.1 p3.2.2 (va_up (va_up T6 (42 * rows + (fs f9 + k9 + 1)) 1) (42 * (rows + 1 + k9) + (fs f9 + k9 + 1)) 1) (by omega) (by omega) hT_p3 (lyB_keep (lyB_keep hB6 hu (by omega) (by omega)) hu (by omega) (by omega)) (lyD_s hD6 hu (by omega) hfs) (by rw [va_up_ne _ _ (by omega), va_up_ne _ _ (by omega)]; exact h946) _ _ (S.sub [5, 0, 4, 1, 6, 7, 8, 2, 3] (by decide) rfl) ls (lv_sub hl [0, 1, 2] rfl)
                    exact ld _ 0 D4 Z4 B4 T4 (Nat.lt_succ_self _) (by omega) hT4 hB4 (lyD_0 hC) h944 _ _ (S.sub [0, 1, 2, 3, 4, 5, 6, 7, 8] (by decide) rfl) ls (lv_sub hl [0, 1, 2] rfl)
                  · refine lv_iconst (v := 0) hx hb d_Mo_lay_166 (by decide) ?_
                    refine lv_istore_n (lv' := [(3, .int 0), (2, .int (nI q9)), (1, .int (nI f9)), (0, .ref h0)]) hx hb d_Mo_lay_167 rfl hl (by decide) rfl (fun ls hl => ?_)
                    have lj : ∀ d9, ∀ (j : Nat), ∀ (D5 : Nat → Nat), ∀ (Z5 : Nat → Nat), ∀ (B5 : Nat → Nat), ∀ (T5 : Nat → Int), (un + 1 - j) < d9 → (j ≤ un + 1) → (tbO D5 Z5 B5 T5) → (lyB un rows (fun i => (sm i).toInt) T5) → (lyC un rows q9 j T5) → (T5 3994 = T 3994) → ∀ (H : Heap) (locs : List Loc), Sw G A s.heap H locs [(h0, .inr (8, moL ma (va_up (va_up (va_up (va_up (va_up iv 14 (nI un)) 15 (nI rows)) 24 (nI rows)) 25 (nI (tk f9 + 2))) 28 (-1)) co)), ((ma 0), .inl (k 0, 4, .inl (fun i => nI (tk i)))), ((ma 14), .inl (k 0, 4, .inl (fun i => nI (fs i)))), ((ma 15), .inl (k 1, 3690, .inr (.inl sm))), ((ma 21), .inl (k 0, 319840, .inl (fun i => nI (D5 i)))), ((ma 22), .inl (k 0, 3998, .inl (fun i => nI (Z5 i)))), ((ma 23), .inl (k 2, 3998, .inl (fun i => nI (B5 i)))), ((ma 28), .inl (k 0, 90, .inl (fun i => nI (rn9 i)))), ((ma 29), .inl (k 0, 41, .inl (fun i => nI (cn9 i))))] → ∀ ls : Array Slot, lv_has ls 4 [(3, .int (nI j)), (2, .int (nI q9)), (1, .int (nI f9)), (0, .ref h0)] → W p l e { frames := 2, cells := 0, slots := 0, locals := 42 } s m [Value.ref h0, Value.int (nI f9)].toArray below meth c H locs 0 0 (MQ below (va_Qv (fun (u : Nat → Nat → Nat) => (∃ T9, tbO (u 0) (u 1) (u 2) T9 ∧ layO un rows 0 (fs f9) (tk f9) (fun i => (sm i).toInt) T9 ∧ T9 3994 = T 3994) ∧ (∀ i, i < rows → u 3 i = un + 1 + i) ∧ ∀ j, j < un + 1 → u 4 j = j) (Po G k A (fun u => [(h0, .inr (8, moL ma (va_up (va_up (va_up (va_up (va_up iv 14 (nI un)) 15 (nI rows)) 24 (nI rows)) 25 (nI (tk f9 + 2))) 28 (-1)) co)), ((ma 0), .inl (k 0, 4, .inl (fun i => nI (tk i)))), ((ma 14), .inl (k 0, 4, .inl (fun i => nI (fs i)))), ((ma 15), .inl (k 1, 3690, .inr (.inl sm))), ((ma 21), .inl (k 0, 319840, .inl (fun i => nI (u 0 i)))), ((ma 22), .inl (k 0, 3998, .inl (fun i => nI (u 1 i)))), ((ma 23), .inl (k 2, 3998, .inl (fun i => nI (u 2 i)))), ((ma 28), .inl (k 0, 90, .inl (fun i => nI (u 3 i)))), ((ma 29), .inl (k 0, 41, .inl (fun i => nI (u 4 i))))])) A) [Value.ref h0, Value.int (nI f9)].toArray s 0 0 A) (F0 m 168 ls []) := by
                      intro d9
                      induction d9 with
                      | zero => intro j D5 Z5 B5 T5 hm; exact absurd hm (Nat.not_lt_zero _)
                      | succ d9 ih_lj =>
                        intro j D5 Z5 B5 T5 hm hj hT5 hB5 hC5 h945 H locs S ls hl
                        refine lv_iload_n hx hb d_Mo_lay_168 rfl (lv_at hl 0 rfl) ?_
                        refine lv_aload_n hx hb d_Mo_lay_169 rfl (lv_at hl 3 rfl) ?_
                        refine r_get C K S 0 rfl rfl clOk_Mo 29 (by decide) wf_Mo_192 (v := .int (nI un)) rfl d_Mo_lay_170 ?_
                        refine z_icmp_gt (a := j) (b := un) (tgt := 197) hx hb d_Mo_lay_173 (by decide) (by omega) (by omega) (fun hc24 => ?_) (fun hc24 => ?_)
                        · refine lv_aload_n hx hb d_Mo_lay_197 rfl (lv_at hl 3 rfl) ?_
                          refine lv_aload_n hx hb d_Mo_lay_198 rfl (lv_at hl 3 rfl) ?_
                          refine r_get C K S 0 rfl rfl clOk_Mo 53 (by decide) wf_Mo_333 (v := .int (nI rows)) rfl d_Mo_lay_199 ?_
                          refine lv_iload_n hx hb d_Mo_lay_202 rfl (lv_at hl 1 rfl) ?_
                          refine z_iadd (x := nI rows) (y := nI q9) (v := nI (rows + q9)) hx hb d_Mo_lay_203 (nI_add rows q9) ?_
                          refine lv_bipush (v := 41) hx hb d_Mo_lay_204 (by decide) ?_
                          refine r_backi (wi := []) (wr := [(h0, .inr (8, moL ma (va_up (va_up (va_up (va_up (va_up iv 14 (nI un)) 15 (nI rows)) 24 (nI rows)) 25 (nI (tk f9 + 2))) 28 (-1)) co)), ((ma 0), .inl (k 0, 4, .inl (fun i => nI (tk i)))), ((ma 14), .inl (k 0, 4, .inl (fun i => nI (fs i)))), ((ma 15), .inl (k 1, 3690, .inr (.inl sm))), ((ma 21), .inl (k 0, 319840, .inl (fun i => nI (D5 i)))), ((ma 22), .inl (k 0, 3998, .inl (fun i => nI (Z5 i)))), ((ma 23), .inl (k 2, 3998, .inl (fun i => nI (B5 i)))), ((ma 28), .inl (k 0, 90, .inl (fun i => nI (rn9 i)))), ((ma 29), .inl (k 0, 41, .inl (fun i => nI (cn9 i))))]) S hA [] [0, 1, 2, 3, 4, 5, 6, 7, 8] rfl rfl (by decide) (by decide) (va_runS (As := [.int (nI (rows + q9)), .int 41]) (rest := [.ref h0]) ⟨hx, hb, C.2.2.1, C.2.2.2.1, C.2.2.2.2.1⟩ (g_Mo_at l G k _ (rows + q9) 41) (k_stat (n := 2) C wc_Mo_at rfl rfl wz_Mo wm_Mo_328 wt_Mo_at (by decide +kernel) ⟨(Nat.le_of_ble_eq_true rfl), (Nat.le_of_ble_eq_true rfl)⟩) (pr_now K S [] (by decide) rfl) rfl rfl hl.1 rfl (lv_room (Nat.le_of_ble_eq_true rfl)) d_Mo_lay_206 ⟨(Nat.le_of_ble_eq_true rfl), (Nat.le_of_ble_eq_true rfl)⟩) (fun r27 u25 H locs hw26 S => ?_)
                          have S : Sw G A s.heap _ _ [(h0, .inr (8, moL ma (va_up (va_up (va_up (va_up (va_up iv 14 (nI un)) 15 (nI rows)) 24 (nI rows)) 25 (nI (tk f9 + 2))) 28 (-1)) co)), ((ma 0), .inl (k 0, 4, .inl (fun i => nI (tk i)))), ((ma 14), .inl (k 0, 4, .inl (fun i => nI (fs i)))), ((ma 15), .inl (k 1, 3690, .inr (.inl sm))), ((ma 21), .inl (k 0, 319840, .inl (fun i => nI (D5 i)))), ((ma 22), .inl (k 0, 3998, .inl (fun i => nI (Z5 i)))), ((ma 23), .inl (k 2, 3998, .inl (fun i => nI (B5 i)))), ((ma 28), .inl (k 0, 90, .inl (fun i => nI (rn9 i)))), ((ma 29), .inl (k 0, 41, .inl (fun i => nI (cn9 i))))] := S
                          obtain rfl : r27 = nI (42 * (rows + q9) + 41) := hw26
                          refine lv_lconst (v := 0) hx hb d_Mo_lay_209 (by decide) ?_
                          refine r_backv (wi := [(h0, .inr (8, moL ma (va_up (va_up (va_up (va_up (va_up iv 14 (nI un)) 15 (nI rows)) 24 (nI rows)) 25 (nI (tk f9 + 2))) 28 (-1)) co)), ((ma 21), .inl (k 0, 319840, .inl (fun i => nI (D5 i)))), ((ma 22), .inl (k 0, 3998, .inl (fun i => nI (Z5 i)))), ((ma 23), .inl (k 2, 3998, .inl (fun i => nI (B5 i))))]) (wr := [((ma 0), .inl (k 0, 4, .inl (fun i => nI (tk i)))), ((ma 14), .inl (k 0, 4, .inl (fun i => nI (fs i)))), ((ma 15), .inl (k 1, 3690, .inr (.inl sm))), ((ma 28), .inl (k 0, 90, .inl (fun i => nI (rn9 i)))), ((ma 29), .inl (k 0, 41, .inl (fun i => nI (cn9 i))))]) S hA [0, 4, 5, 6] [1, 2, 3, 7, 8] rfl rfl (by decide) (by decide) (va_runV (As := [.int (nI (42 * (rows + q9) + 41)), .long 0]) (rest := []) ⟨hx, hb, C.2.2.1, C.2.2.2.1, C.2.2.2.2.1⟩ (g_Mo_putZ l G k h0 _ (42 * (rows + q9) + 41) 0 ma (va_up (va_up (va_up (va_up (va_up iv 14 (nI un)) 15 (nI rows)) 24 (nI rows)) 25 (nI (tk f9 + 2))) 28 (-1)) co D5 Z5 B5 T5 hT5 (by omega) (by decide)) (k_virt (n := 2) C wc_Mo_put rfl rfl wz_Mo wm_Mo_360 wn_Mo_put ws_Mo_put (by decide +kernel) ⟨(Nat.le_of_ble_eq_true rfl), (Nat.le_of_ble_eq_true rfl)⟩) (pr_nowV K S [0, 4, 5, 6] (by decide) rfl 0 rfl rfl) rfl rfl hl.1 rfl (lv_room (Nat.le_of_ble_eq_true rfl)) d_Mo_lay_210 ⟨(Nat.le_of_ble_eq_true rfl), (Nat.le_of_ble_eq_true rfl)⟩) (fun p4 H locs hw29 S => ?_)
                          have S : Sw G A s.heap _ _ [((ma 0), .inl (k 0, 4, .inl (fun i => nI (tk i)))), ((ma 14), .inl (k 0, 4, .inl (fun i => nI (fs i)))), ((ma 15), .inl (k 1, 3690, .inr (.inl sm))), ((ma 28), .inl (k 0, 90, .inl (fun i => nI (rn9 i)))), ((ma 29), .inl (k 0, 41, .inl (fun i => nI (cn9 i)))), (h0, .inr (8, moL ma (va_up (va_up (va_up (va_up (va_up iv 14 (nI un)) 15 (nI rows)) 24 (nI rows)) 25 (nI (tk f9 + 2))) 28 (-1)) co)), ((ma 21), .inl (k 0, 319840, .inl (fun i => nI (p4.1 i)))), ((ma 22), .inl (k 0, 3998, .inl (fun i => nI (p4.2.1 i)))), ((ma 23), .inl (k 2, 3998, .inl (fun i => nI (p4.2.2 i))))] := S
                          have hT_p4 : tbO p4.1 p4.2.1 p4.2.2 (va_up T5 (42 * (rows + q9) + 41) 0) := by have h9 := hw29; rw [show (0 : Int64).toInt = 0 from by decide] at h9; exact h9
                          refine lv_iinc (v := nI (q9 + 1)) (lv' := [(2, .int (nI (q9 + 1))), (3, .int (nI j)), (1, .int (nI f9)), (0, .ref h0)]) hx hb d_Mo_lay_213 hl (k := 1) rfl (show nI q9 + Int32.ofInt 1 = nI (q9 + 1) from (nI_add q9 1).trans (congrArg nI (by omega))) (by decide) rfl (fun ls hl => ?_)
                          refine lv_goto (tgt := 158) hx hb d_Mo_lay_216 (by decide) ?_
                          exact ih_lc (q9 + 1) p4.1 p4.2.1 p4.2.2 (va_up T5 (42 * (rows + q9) + 41) 0) (by omega) (by omega) hT_p4 (lyB_keep hB5 hu (by omega) (by omega)) (lyC_n (show lyC un rows q9 (un + 1) _ from (show j = un + 1 by omega) ▸ hC5) hu) (by rw [va_up_ne _ _ (by omega)]; exact h945) _ _ (S.sub [5, 0, 1, 2, 6, 7, 8, 3, 4] (by decide) rfl) ls (lv_sub hl [0, 2, 3] rfl)
                        · refine lv_aload_n hx hb d_Mo_lay_176 rfl (lv_at hl 3 rfl) ?_
                          refine lv_aload_n hx hb d_Mo_lay_177 rfl (lv_at hl 3 rfl) ?_
                          refine r_get C K S 0 rfl rfl clOk_Mo 53 (by decide) wf_Mo_333 (v := .int (nI rows)) rfl d_Mo_lay_178 ?_
                          refine lv_iload_n hx hb d_Mo_lay_181 rfl (lv_at hl 1 rfl) ?_
                          refine z_iadd (x := nI rows) (y := nI q9) (v := nI (rows + q9)) hx hb d_Mo_lay_182 (nI_add rows q9) ?_
                          refine lv_iload_n hx hb d_Mo_lay_183 rfl (lv_at hl 0 rfl) ?_
                          refine r_backi (wi := []) (wr := [(h0, .inr (8, moL ma (va_up (va_up (va_up (va_up (va_up iv 14 (nI un)) 15 (nI rows)) 24 (nI rows)) 25 (nI (tk f9 + 2))) 28 (-1)) co)), ((ma 0), .inl (k 0, 4, .inl (fun i => nI (tk i)))), ((ma 14), .inl (k 0, 4, .inl (fun i => nI (fs i)))), ((ma 15), .inl (k 1, 3690, .inr (.inl sm))), ((ma 21), .inl (k 0, 319840, .inl (fun i => nI (D5 i)))), ((ma 22), .inl (k 0, 3998, .inl (fun i => nI (Z5 i)))), ((ma 23), .inl (k 2, 3998, .inl (fun i => nI (B5 i)))), ((ma 28), .inl (k 0, 90, .inl (fun i => nI (rn9 i)))), ((ma 29), .inl (k 0, 41, .inl (fun i => nI (cn9 i))))]) S hA [] [0, 1, 2, 3, 4, 5, 6, 7, 8] rfl rfl (by decide) (by decide) (va_runS (As := [.int (nI (rows + q9)), .int (nI j)]) (rest := [.ref h0]) ⟨hx, hb, C.2.2.1, C.2.2.2.1, C.2.2.2.2.1⟩ (g_Mo_at l G k _ (rows + q9) j) (k_stat (n := 2) C wc_Mo_at rfl rfl wz_Mo wm_Mo_328 wt_Mo_at (by decide +kernel) ⟨(Nat.le_of_ble_eq_true rfl), (Nat.le_of_ble_eq_true rfl)⟩) (pr_now K S [] (by decide) rfl) rfl rfl hl.1 rfl (lv_room (Nat.le_of_ble_eq_true rfl)) d_Mo_lay_184 ⟨(Nat.le_of_ble_eq_true rfl), (Nat.le_of_ble_eq_true rfl)⟩) (fun r32 u30 H locs hw31 S => ?_)
                          have S : Sw G A s.heap _ _ [(h0, .inr (8, moL ma (va_up (va_up (va_up (va_up (va_up iv 14 (nI un)) 15 (nI rows)) 24 (nI rows)) 25 (nI (tk f9 + 2))) 28 (-1)) co)), ((ma 0), .inl (k 0, 4, .inl (fun i => nI (tk i)))), ((ma 14), .inl (k 0, 4, .inl (fun i => nI (fs i)))), ((ma 15), .inl (k 1, 3690, .inr (.inl sm))), ((ma 21), .inl (k 0, 319840, .inl (fun i => nI (D5 i)))), ((ma 22), .inl (k 0, 3998, .inl (fun i => nI (Z5 i)))), ((ma 23), .inl (k 2, 3998, .inl (fun i => nI (B5 i)))), ((ma 28), .inl (k 0, 90, .inl (fun i => nI (rn9 i)))), ((ma 29), .inl (k 0, 41, .inl (fun i => nI (cn9 i))))] := S
                          obtain rfl : r32 = nI (42 * (rows + q9) + j) := hw31
                          refine lv_lconst (v := 0) hx hb d_Mo_lay_187 (by decide) ?_
                          refine r_backv (wi := [(h0, .inr (8, moL ma (va_up (va_up (va_up (va_up (va_up iv 14 (nI un)) 15 (nI rows)) 24 (nI rows)) 25 (nI (tk f9 + 2))) 28 (-1)) co)), ((ma 21), .inl (k 0, 319840, .inl (fun i => nI (D5 i)))), ((ma 22), .inl (k 0, 3998, .inl (fun i => nI (Z5 i)))), ((ma 23), .inl (k 2, 3998, .inl (fun i => nI (B5 i))))]) (wr := [((ma 0), .inl (k 0, 4, .inl (fun i => nI (tk i)))), ((ma 14), .inl (k 0, 4, .inl (fun i => nI (fs i)))), ((ma 15), .inl (k 1, 3690, .inr (.inl sm))), ((ma 28), .inl (k 0, 90, .inl (fun i => nI (rn9 i)))), ((ma 29), .inl (k 0, 41, .inl (fun i => nI (cn9 i))))]) S hA [0, 4, 5, 6] [1, 2, 3, 7, 8] rfl rfl (by decide) (by decide) (va_runV (As := [.int (nI (42 * (rows + q9) + j)), .long 0]) (rest := []) ⟨hx, hb, C.2.2.1, C.2.2.2.1, C.2.2.2.2.1⟩ (g_Mo_putZ l G k h0 _ (42 * (rows + q9) + j) 0 ma (va_up (va_up (va_up (va_up (va_up iv 14 (nI un)) 15 (nI rows)) 24 (nI rows)) 25 (nI (tk f9 + 2))) 28 (-1)) co D5 Z5 B5 T5 hT5 (by omega) (by decide)) (k_virt (n := 2) C wc_Mo_put rfl rfl wz_Mo wm_Mo_360 wn_Mo_put ws_Mo_put (by decide +kernel) ⟨(Nat.le_of_ble_eq_true rfl), (Nat.le_of_ble_eq_true rfl)⟩) (pr_nowV K S [0, 4, 5, 6] (by decide) rfl 0 rfl rfl) rfl rfl hl.1 rfl (lv_room (Nat.le_of_ble_eq_true rfl)) d_Mo_lay_188 ⟨(Nat.le_of_ble_eq_true rfl), (Nat.le_of_ble_eq_true rfl)⟩) (fun p5 H locs hw34 S => ?_)
                          have S : Sw G A s.heap _ _ [((ma 0), .inl (k 0, 4, .inl (fun i => nI (tk i)))), ((ma 14), .inl (k 0, 4, .inl (fun i => nI (fs i)))), ((ma 15), .inl (k 1, 3690, .inr (.inl sm))), ((ma 28), .inl (k 0, 90, .inl (fun i => nI (rn9 i)))), ((ma 29), .inl (k 0, 41, .inl (fun i => nI (cn9 i)))), (h0, .inr (8, moL ma (va_up (va_up (va_up (va_up (va_up iv 14 (nI un)) 15 (nI rows)) 24 (nI rows)) 25 (nI (tk f9 + 2))) 28 (-1)) co)), ((ma 21), .inl (k 0, 319840, .inl (fun i => nI (p5.1 i)))), ((ma 22), .inl (k 0, 3998, .inl (fun i => nI (p5.2.1 i)))), ((ma 23), .inl (k 2, 3998, .inl (fun i => nI (p5.2.2 i))))] := S
                          have hT_p5 : tbO p5.1 p5.2.1 p5.2.2 (va_up T5 (42 * (rows + q9) + j) 0) := by have h9 := hw34; rw [show (0 : Int64).toInt = 0 from by decide] at h9; exact h9
                          refine lv_iinc (v := nI (j + 1)) (lv' := [(3, .int (nI (j + 1))), (2, .int (nI q9)), (1, .int (nI f9)), (0, .ref h0)]) hx hb d_Mo_lay_191 hl (k := 0) rfl (show nI j + Int32.ofInt 1 = nI (j + 1) from (nI_add j 1).trans (congrArg nI (by omega))) (by decide) rfl (fun ls hl => ?_)
                          refine lv_goto (tgt := 168) hx hb d_Mo_lay_194 (by decide) ?_
                          exact ih_lj (j + 1) p5.1 p5.2.1 p5.2.2 (va_up T5 (42 * (rows + q9) + j) 0) (by omega) (by omega) hT_p5 (lyB_keep hB5 hu (by omega) (by omega)) (lyC_s hC5 hu) (by rw [va_up_ne _ _ (by omega)]; exact h945) _ _ (S.sub [5, 0, 1, 2, 6, 7, 8, 3, 4] (by decide) rfl) ls (lv_sub hl [0, 1, 2, 3] rfl)
                    exact lj _ 0 D4 Z4 B4 T4 (Nat.lt_succ_self _) (by omega) hT4 hB4 hC h944 _ _ (S.sub [0, 1, 2, 3, 4, 5, 6, 7, 8] (by decide) rfl) ls (lv_sub hl [0, 1, 2, 3] rfl)
              exact lc _ 0 D Z B T9 (Nat.lt_succ_self _) (by omega) hT2 hB lyC_0 h94 _ _ (S.sub [0, 1, 2, 3, 4, 5, 6, 7, 8] (by decide) rfl) ls (lv_sub hl [0, 1, 2] rfl)
            · refine lv_aload_n hx hb d_Mo_lay_66 rfl (lv_at hl 2 rfl) ?_
              refine r_get C K S 0 rfl rfl clOk_Mo 55 (by decide) wf_Mo_105 (v := .ref (ma 28)) rfl d_Mo_lay_67 ?_
              refine lv_iload_n hx hb d_Mo_lay_70 rfl (lv_at hl 0 rfl) ?_
              refine lv_aload_n hx hb d_Mo_lay_71 rfl (lv_at hl 2 rfl) ?_
              refine r_get C K S 0 rfl rfl clOk_Mo 29 (by decide) wf_Mo_192 (v := .int (nI un)) rfl d_Mo_lay_72 ?_
              refine lv_iconst (v := 1) hx hb d_Mo_lay_75 (by decide) ?_
              refine z_iadd (x := nI un) (y := 1) (v := nI (un + 1)) hx hb d_Mo_lay_76 (nI_add un 1) ?_
              refine lv_iload_n hx hb d_Mo_lay_77 rfl (lv_at hl 0 rfl) ?_
              refine z_iadd (x := nI (un + 1)) (y := nI ri) (v := nI (un + 1 + ri)) hx hb d_Mo_lay_78 (nI_add (un + 1) ri) ?_
              refine r_iast C K S 7 rfl (i := nI ri) (x := nI (un + 1 + ri)) (show vp_in (nI ri) _ from vp_in_nI (n := ri) (by omega) (by decide)) (f' := fun i => nI (va_up rn9 ri (un + 1 + ri) i)) (ws' := [(h0, .inr (8, moL ma (va_up (va_up (va_up (va_up (va_up iv 14 (nI un)) 15 (nI rows)) 24 (nI rows)) 25 (nI (tk f9 + 2))) 28 (-1)) co)), ((ma 0), .inl (k 0, 4, .inl (fun i => nI (tk i)))), ((ma 14), .inl (k 0, 4, .inl (fun i => nI (fs i)))), ((ma 15), .inl (k 1, 3690, .inr (.inl sm))), ((ma 21), .inl (k 0, 319840, .inl (fun i => nI (D i)))), ((ma 22), .inl (k 0, 3998, .inl (fun i => nI (Z i)))), ((ma 23), .inl (k 2, 3998, .inl (fun i => nI (B i)))), ((ma 28), .inl (k 0, 90, .inl (fun i => nI (va_up rn9 ri (un + 1 + ri) i)))), ((ma 29), .inl (k 0, 41, .inl (fun i => nI (cn9 i))))]) (show upd _ (nI ri : Int32).toNatClampNeg (nI (un + 1 + ri)) = _ from upd_nI rn9 (j := ri) (by omega) (un + 1 + ri)) rfl d_Mo_lay_79 (fun H locs S => ?_)
              refine lv_aload_n hx hb d_Mo_lay_80 rfl (lv_at hl 2 rfl) ?_
              refine lv_iload_n hx hb d_Mo_lay_81 rfl (lv_at hl 0 rfl) ?_
              refine lv_iconst (v := 0) hx hb d_Mo_lay_82 (by decide) ?_
              refine r_backi (wi := []) (wr := [(h0, .inr (8, moL ma (va_up (va_up (va_up (va_up (va_up iv 14 (nI un)) 15 (nI rows)) 24 (nI rows)) 25 (nI (tk f9 + 2))) 28 (-1)) co)), ((ma 0), .inl (k 0, 4, .inl (fun i => nI (tk i)))), ((ma 14), .inl (k 0, 4, .inl (fun i => nI (fs i)))), ((ma 15), .inl (k 1, 3690, .inr (.inl sm))), ((ma 21), .inl (k 0, 319840, .inl (fun i => nI (D i)))), ((ma 22), .inl (k 0, 3998, .inl (fun i => nI (Z i)))), ((ma 23), .inl (k 2, 3998, .inl (fun i => nI (B i)))), ((ma 28), .inl (k 0, 90, .inl (fun i => nI (va_up rn9 ri (un + 1 + ri) i)))), ((ma 29), .inl (k 0, 41, .inl (fun i => nI (cn9 i))))]) S hA [] [0, 1, 2, 3, 4, 5, 6, 7, 8] rfl rfl (by decide) (by decide) (va_runS (As := [.int (nI ri), .int 0]) (rest := [.ref h0]) ⟨hx, hb, C.2.2.1, C.2.2.2.1, C.2.2.2.2.1⟩ (g_Mo_at l G k _ ri 0) (k_stat (n := 2) C wc_Mo_at rfl rfl wz_Mo wm_Mo_328 wt_Mo_at (by decide +kernel) ⟨(Nat.le_of_ble_eq_true rfl), (Nat.le_of_ble_eq_true rfl)⟩) (pr_now K S [] (by decide) rfl) rfl rfl hl.1 rfl (lv_room (Nat.le_of_ble_eq_true rfl)) d_Mo_lay_83 ⟨(Nat.le_of_ble_eq_true rfl), (Nat.le_of_ble_eq_true rfl)⟩) (fun r37 u35 H locs hw36 S => ?_)
              have S : Sw G A s.heap _ _ [(h0, .inr (8, moL ma (va_up (va_up (va_up (va_up (va_up iv 14 (nI un)) 15 (nI rows)) 24 (nI rows)) 25 (nI (tk f9 + 2))) 28 (-1)) co)), ((ma 0), .inl (k 0, 4, .inl (fun i => nI (tk i)))), ((ma 14), .inl (k 0, 4, .inl (fun i => nI (fs i)))), ((ma 15), .inl (k 1, 3690, .inr (.inl sm))), ((ma 21), .inl (k 0, 319840, .inl (fun i => nI (D i)))), ((ma 22), .inl (k 0, 3998, .inl (fun i => nI (Z i)))), ((ma 23), .inl (k 2, 3998, .inl (fun i => nI (B i)))), ((ma 28), .inl (k 0, 90, .inl (fun i => nI (va_up rn9 ri (un + 1 + ri) i)))), ((ma 29), .inl (k 0, 41, .inl (fun i => nI (cn9 i))))] := S
              obtain rfl : r37 = nI (42 * ri + 0) := hw36
              refine lv_lconst (v := 0) hx hb d_Mo_lay_86 (by decide) ?_
              refine r_backv (wi := [(h0, .inr (8, moL ma (va_up (va_up (va_up (va_up (va_up iv 14 (nI un)) 15 (nI rows)) 24 (nI rows)) 25 (nI (tk f9 + 2))) 28 (-1)) co)), ((ma 21), .inl (k 0, 319840, .inl (fun i => nI (D i)))), ((ma 22), .inl (k 0, 3998, .inl (fun i => nI (Z i)))), ((ma 23), .inl (k 2, 3998, .inl (fun i => nI (B i))))]) (wr := [((ma 0), .inl (k 0, 4, .inl (fun i => nI (tk i)))), ((ma 14), .inl (k 0, 4, .inl (fun i => nI (fs i)))), ((ma 15), .inl (k 1, 3690, .inr (.inl sm))), ((ma 28), .inl (k 0, 90, .inl (fun i => nI (va_up rn9 ri (un + 1 + ri) i)))), ((ma 29), .inl (k 0, 41, .inl (fun i => nI (cn9 i))))]) S hA [0, 4, 5, 6] [1, 2, 3, 7, 8] rfl rfl (by decide) (by decide) (va_runV (As := [.int (nI (42 * ri + 0)), .long 0]) (rest := []) ⟨hx, hb, C.2.2.1, C.2.2.2.1, C.2.2.2.2.1⟩ (g_Mo_putZ l G k h0 _ (42 * ri + 0) 0 ma (va_up (va_up (va_up (va_up (va_up iv 14 (nI un)) 15 (nI rows)) 24 (nI rows)) 25 (nI (tk f9 + 2))) 28 (-1)) co D Z B T9 hT2 (by omega) (by decide)) (k_virt (n := 2) C wc_Mo_put rfl rfl wz_Mo wm_Mo_360 wn_Mo_put ws_Mo_put (by decide +kernel) ⟨(Nat.le_of_ble_eq_true rfl), (Nat.le_of_ble_eq_true rfl)⟩) (pr_nowV K S [0, 4, 5, 6] (by decide) rfl 0 rfl rfl) rfl rfl hl.1 rfl (lv_room (Nat.le_of_ble_eq_true rfl)) d_Mo_lay_87 ⟨(Nat.le_of_ble_eq_true rfl), (Nat.le_of_ble_eq_true rfl)⟩) (fun p6 H locs hw39 S => ?_)
              have S : Sw G A s.heap _ _ [((ma 0), .inl (k 0, 4, .inl (fun i => nI (tk i)))), ((ma 14), .inl (k 0, 4, .inl (fun i => nI (fs i)))), ((ma 15), .inl (k 1, 3690, .inr (.inl sm))), ((ma 28), .inl (k 0, 90, .inl (fun i => nI (va_up rn9 ri (un + 1 + ri) i)))), ((ma 29), .inl (k 0, 41, .inl (fun i => nI (cn9 i)))), (h0, .inr (8, moL ma (va_up (va_up (va_up (va_up (va_up iv 14 (nI un)) 15 (nI rows)) 24 (nI rows)) 25 (nI (tk f9 + 2))) 28 (-1)) co)), ((ma 21), .inl (k 0, 319840, .inl (fun i => nI (p6.1 i)))), ((ma 22), .inl (k 0, 3998, .inl (fun i => nI (p6.2.1 i)))), ((ma 23), .inl (k 2, 3998, .inl (fun i => nI (p6.2.2 i))))] := S
              have hT_p6 : tbO p6.1 p6.2.1 p6.2.2 (va_up T9 (42 * ri + 0) 0) := by have h9 := hw39; rw [show (0 : Int64).toInt = 0 from by decide] at h9; exact h9
              refine lv_iconst (v := 0) hx hb d_Mo_lay_90 (by decide) ?_
              refine lv_istore_n (lv' := [(3, .int 0), (2, .int (nI ri)), (1, .int (nI f9)), (0, .ref h0)]) hx hb d_Mo_lay_91 rfl hl (by decide) rfl (fun ls hl => ?_)
              have lj : ∀ d9, ∀ (j : Nat), ∀ (D2 : Nat → Nat), ∀ (Z2 : Nat → Nat), ∀ (B2 : Nat → Nat), ∀ (T8 : Nat → Int), (un - j) < d9 → (j ≤ un) → (tbO D2 Z2 B2 T8) → (lyB un ri (fun i => (sm i).toInt) T8) → (lyR un ri j (fun i => (sm i).toInt) T8) → (T8 3994 = T 3994) → ∀ (H : Heap) (locs : List Loc), Sw G A s.heap H locs [(h0, .inr (8, moL ma (va_up (va_up (va_up (va_up (va_up iv 14 (nI un)) 15 (nI rows)) 24 (nI rows)) 25 (nI (tk f9 + 2))) 28 (-1)) co)), ((ma 0), .inl (k 0, 4, .inl (fun i => nI (tk i)))), ((ma 14), .inl (k 0, 4, .inl (fun i => nI (fs i)))), ((ma 15), .inl (k 1, 3690, .inr (.inl sm))), ((ma 21), .inl (k 0, 319840, .inl (fun i => nI (D2 i)))), ((ma 22), .inl (k 0, 3998, .inl (fun i => nI (Z2 i)))), ((ma 23), .inl (k 2, 3998, .inl (fun i => nI (B2 i)))), ((ma 28), .inl (k 0, 90, .inl (fun i => nI ((va_up rn9 ri (un + 1 + ri)) i)))), ((ma 29), .inl (k 0, 41, .inl (fun i => nI (cn9 i))))] → ∀ ls : Array Slot, lv_has ls 4 [(3, .int (nI j)), (2, .int (nI ri)), (1, .int (nI f9)), (0, .ref h0)] → W p l e { frames := 2, cells := 0, slots := 0, locals := 42 } s m [Value.ref h0, Value.int (nI f9)].toArray below meth c H locs 0 0 (MQ below (va_Qv (fun (u : Nat → Nat → Nat) => (∃ T9, tbO (u 0) (u 1) (u 2) T9 ∧ layO un rows 0 (fs f9) (tk f9) (fun i => (sm i).toInt) T9 ∧ T9 3994 = T 3994) ∧ (∀ i, i < rows → u 3 i = un + 1 + i) ∧ ∀ j, j < un + 1 → u 4 j = j) (Po G k A (fun u => [(h0, .inr (8, moL ma (va_up (va_up (va_up (va_up (va_up iv 14 (nI un)) 15 (nI rows)) 24 (nI rows)) 25 (nI (tk f9 + 2))) 28 (-1)) co)), ((ma 0), .inl (k 0, 4, .inl (fun i => nI (tk i)))), ((ma 14), .inl (k 0, 4, .inl (fun i => nI (fs i)))), ((ma 15), .inl (k 1, 3690, .inr (.inl sm))), ((ma 21), .inl (k 0, 319840, .inl (fun i => nI (u 0 i)))), ((ma 22), .inl (k 0, 3998, .inl (fun i => nI (u 1 i)))), ((ma 23), .inl (k 2, 3998, .inl (fun i => nI (u 2 i)))), ((ma 28), .inl (k 0, 90, .inl (fun i => nI (u 3 i)))), ((ma 29), .inl (k 0, 41, .inl (fun i => nI (u 4 i))))])) A) [Value.ref h0, Value.int (nI f9)].toArray s 0 0 A) (F0 m 92 ls []) := by
                intro d9
                induction d9 with
                | zero => intro j D2 Z2 B2 T8 hm; exact absurd hm (Nat.not_lt_zero _)
                | succ d9 ih_lj =>
                  intro j D2 Z2 B2 T8 hm hj hT3 hB3 hR h943 H locs S ls hl
                  refine lv_iload_n hx hb d_Mo_lay_92 rfl (lv_at hl 0 rfl) ?_
                  refine lv_aload_n hx hb d_Mo_lay_93 rfl (lv_at hl 3 rfl) ?_
                  refine r_get C K S 0 rfl rfl clOk_Mo 29 (by decide) wf_Mo_192 (v := .int (nI un)) rfl d_Mo_lay_94 ?_
                  refine z_icmp_ge (a := j) (b := un) (tgt := 128) hx hb d_Mo_lay_97 (by decide) (by omega) (by omega) (fun hc40 => ?_) (fun hc40 => ?_)
                  · refine lv_aload_n hx hb d_Mo_lay_128 rfl (lv_at hl 3 rfl) ?_
                    refine lv_iload_n hx hb d_Mo_lay_129 rfl (lv_at hl 1 rfl) ?_
                    refine lv_bipush (v := 41) hx hb d_Mo_lay_130 (by decide) ?_
                    refine r_backi (wi := []) (wr := [(h0, .inr (8, moL ma (va_up (va_up (va_up (va_up (va_up iv 14 (nI un)) 15 (nI rows)) 24 (nI rows)) 25 (nI (tk f9 + 2))) 28 (-1)) co)), ((ma 0), .inl (k 0, 4, .inl (fun i => nI (tk i)))), ((ma 14), .inl (k 0, 4, .inl (fun i => nI (fs i)))), ((ma 15), .inl (k 1, 3690, .inr (.inl sm))), ((ma 21), .inl (k 0, 319840, .inl (fun i => nI (D2 i)))), ((ma 22), .inl (k 0, 3998, .inl (fun i => nI (Z2 i)))), ((ma 23), .inl (k 2, 3998, .inl (fun i => nI (B2 i)))), ((ma 28), .inl (k 0, 90, .inl (fun i => nI ((va_up rn9 ri (un + 1 + ri)) i)))), ((ma 29), .inl (k 0, 41, .inl (fun i => nI (cn9 i))))]) S hA [] [0, 1, 2, 3, 4, 5, 6, 7, 8] rfl rfl (by decide) (by decide) (va_runS (As := [.int (nI ri), .int 41]) (rest := [.ref h0]) ⟨hx, hb, C.2.2.1, C.2.2.2.1, C.2.2.2.2.1⟩ (g_Mo_at l G k _ ri 41) (k_stat (n := 2) C wc_Mo_at rfl rfl wz_Mo wm_Mo_328 wt_Mo_at (by decide +kernel) ⟨(Nat.le_of_ble_eq_true rfl), (Nat.le_of_ble_eq_true rfl)⟩) (pr_now K S [] (by decide) rfl) rfl rfl hl.1 rfl (lv_room (Nat.le_of_ble_eq_true rfl)) d_Mo_lay_132 ⟨(Nat.le_of_ble_eq_true rfl), (Nat.le_of_ble_eq_true rfl)⟩) (fun r43 u41 H locs hw42 S => ?_)
                    have S : Sw G A s.heap _ _ [(h0, .inr (8, moL ma (va_up (va_up (va_up (va_up (va_up iv 14 (nI un)) 15 (nI rows)) 24 (nI rows)) 25 (nI (tk f9 + 2))) 28 (-1)) co)), ((ma 0), .inl (k 0, 4, .inl (fun i => nI (tk i)))), ((ma 14), .inl (k 0, 4, .inl (fun i => nI (fs i)))), ((ma 15), .inl (k 1, 3690, .inr (.inl sm))), ((ma 21), .inl (k 0, 319840, .inl (fun i => nI (D2 i)))), ((ma 22), .inl (k 0, 3998, .inl (fun i => nI (Z2 i)))), ((ma 23), .inl (k 2, 3998, .inl (fun i => nI (B2 i)))), ((ma 28), .inl (k 0, 90, .inl (fun i => nI ((va_up rn9 ri (un + 1 + ri)) i)))), ((ma 29), .inl (k 0, 41, .inl (fun i => nI (cn9 i))))] := S
                    obtain rfl : r43 = nI (42 * ri + 41) := hw42
                    refine lv_aload_n hx hb d_Mo_lay_135 rfl (lv_at hl 3 rfl) ?_
                    refine r_get C K S 0 rfl rfl clOk_Mo 33 (by decide) wf_Mo_64 (v := .ref (ma 15)) rfl d_Mo_lay_136 ?_
                    refine lv_bipush (v := 41) hx hb d_Mo_lay_139 (by decide) ?_
                    refine lv_iload_n hx hb d_Mo_lay_141 rfl (lv_at hl 1 rfl) ?_
                    refine z_imul (x := 41) (y := nI ri) (v := nI (41 * ri)) hx hb d_Mo_lay_142 (pk_mul 41 ri) ?_
                    refine lv_bipush (v := 40) hx hb d_Mo_lay_143 (by decide) ?_
                    refine z_iadd (x := nI (41 * ri)) (y := 40) (v := nI (41 * ri + 40)) hx hb d_Mo_lay_145 (nI_add (41 * ri) 40) ?_
                    refine r_lald C K S 3 rfl (i := nI (41 * ri + 40)) (show vp_in (nI (41 * ri + 40)) _ from vp_in_nI (n := (41 * ri + 40)) (by omega) (by decide)) (v := sm (41 * ri + 40)) (by rw [nI_clamp (by omega)]) d_Mo_lay_146 ?_
                    refine r_backv (wi := [(h0, .inr (8, moL ma (va_up (va_up (va_up (va_up (va_up iv 14 (nI un)) 15 (nI rows)) 24 (nI rows)) 25 (nI (tk f9 + 2))) 28 (-1)) co)), ((ma 21), .inl (k 0, 319840, .inl (fun i => nI (D2 i)))), ((ma 22), .inl (k 0, 3998, .inl (fun i => nI (Z2 i)))), ((ma 23), .inl (k 2, 3998, .inl (fun i => nI (B2 i))))]) (wr := [((ma 0), .inl (k 0, 4, .inl (fun i => nI (tk i)))), ((ma 14), .inl (k 0, 4, .inl (fun i => nI (fs i)))), ((ma 15), .inl (k 1, 3690, .inr (.inl sm))), ((ma 28), .inl (k 0, 90, .inl (fun i => nI ((va_up rn9 ri (un + 1 + ri)) i)))), ((ma 29), .inl (k 0, 41, .inl (fun i => nI (cn9 i))))]) S hA [0, 4, 5, 6] [1, 2, 3, 7, 8] rfl rfl (by decide) (by decide) (va_runV (As := [.int (nI (42 * ri + 41)), .long (sm (41 * ri + 40))]) (rest := []) ⟨hx, hb, C.2.2.1, C.2.2.2.1, C.2.2.2.2.1⟩ (g_Mo_putZ l G k h0 _ (42 * ri + 41) (sm (41 * ri + 40)) ma (va_up (va_up (va_up (va_up (va_up iv 14 (nI un)) 15 (nI rows)) 24 (nI rows)) 25 (nI (tk f9 + 2))) 28 (-1)) co D2 Z2 B2 T8 hT3 (by omega) (hsm _ (by omega))) (k_virt (n := 2) C wc_Mo_put rfl rfl wz_Mo wm_Mo_360 wn_Mo_put ws_Mo_put (by decide +kernel) ⟨(Nat.le_of_ble_eq_true rfl), (Nat.le_of_ble_eq_true rfl)⟩) (pr_nowV K S [0, 4, 5, 6] (by decide) rfl 0 rfl rfl) rfl rfl hl.1 rfl (lv_room (Nat.le_of_ble_eq_true rfl)) d_Mo_lay_147 ⟨(Nat.le_of_ble_eq_true rfl), (Nat.le_of_ble_eq_true rfl)⟩) (fun p7 H locs hw45 S => ?_)
                    have S : Sw G A s.heap _ _ [((ma 0), .inl (k 0, 4, .inl (fun i => nI (tk i)))), ((ma 14), .inl (k 0, 4, .inl (fun i => nI (fs i)))), ((ma 15), .inl (k 1, 3690, .inr (.inl sm))), ((ma 28), .inl (k 0, 90, .inl (fun i => nI ((va_up rn9 ri (un + 1 + ri)) i)))), ((ma 29), .inl (k 0, 41, .inl (fun i => nI (cn9 i)))), (h0, .inr (8, moL ma (va_up (va_up (va_up (va_up (va_up iv 14 (nI un)) 15 (nI rows)) 24 (nI rows)) 25 (nI (tk f9 + 2))) 28 (-1)) co)), ((ma 21), .inl (k 0, 319840, .inl (fun i => nI (p7.1 i)))), ((ma 22), .inl (k 0, 3998, .inl (fun i => nI (p7.2.1 i)))), ((ma 23), .inl (k 2, 3998, .inl (fun i => nI (p7.2.2 i))))] := S
                    have hT_p7 : tbO p7.1 p7.2.1 p7.2.2 (va_up T8 (42 * ri + 41) ((sm (41 * ri + 40)).toInt)) := hw45
                    refine lv_iinc (v := nI (ri + 1)) (lv' := [(2, .int (nI (ri + 1))), (3, .int (nI j)), (1, .int (nI f9)), (0, .ref h0)]) hx hb d_Mo_lay_150 hl (k := 1) rfl (show nI ri + Int32.ofInt 1 = nI (ri + 1) from (nI_add ri 1).trans (congrArg nI (by omega))) (by decide) rfl (fun ls hl => ?_)
                    refine lv_goto (tgt := 58) hx hb d_Mo_lay_153 (by decide) ?_
                    exact ih_lb (ri + 1) p7.1 p7.2.1 p7.2.2 (va_up rn9 ri (un + 1 + ri)) (va_up T8 (42 * ri + 41) ((sm (41 * ri + 40)).toInt)) (by omega) (by omega) hT_p7 (lyB_s (sm := (fun i => (sm i).toInt)) hB3 (show lyR un ri un _ _ from (show j = un by omega) ▸ hR) hu (by omega)) (by rw [va_up_ne _ _ (by omega)]; exact h943) (fun x hx => by by_cases q : x = ri; rw [q, va_up_self]; rw [va_up_ne _ _ q]; exact hrn x (by omega)) _ _ (S.sub [5, 0, 1, 2, 6, 7, 8, 3, 4] (by decide) rfl) ls (lv_sub hl [0, 2, 3] rfl)
                  · refine lv_aload_n hx hb d_Mo_lay_100 rfl (lv_at hl 3 rfl) ?_
                    refine lv_iload_n hx hb d_Mo_lay_101 rfl (lv_at hl 1 rfl) ?_
                    refine lv_iload_n hx hb d_Mo_lay_102 rfl (lv_at hl 0 rfl) ?_
                    refine lv_iconst (v := 1) hx hb d_Mo_lay_103 (by decide) ?_
                    refine z_iadd (x := nI j) (y := 1) (v := nI (j + 1)) hx hb d_Mo_lay_104 (nI_add j 1) ?_
                    refine r_backi (wi := []) (wr := [(h0, .inr (8, moL ma (va_up (va_up (va_up (va_up (va_up iv 14 (nI un)) 15 (nI rows)) 24 (nI rows)) 25 (nI (tk f9 + 2))) 28 (-1)) co)), ((ma 0), .inl (k 0, 4, .inl (fun i => nI (tk i)))), ((ma 14), .inl (k 0, 4, .inl (fun i => nI (fs i)))), ((ma 15), .inl (k 1, 3690, .inr (.inl sm))), ((ma 21), .inl (k 0, 319840, .inl (fun i => nI (D2 i)))), ((ma 22), .inl (k 0, 3998, .inl (fun i => nI (Z2 i)))), ((ma 23), .inl (k 2, 3998, .inl (fun i => nI (B2 i)))), ((ma 28), .inl (k 0, 90, .inl (fun i => nI ((va_up rn9 ri (un + 1 + ri)) i)))), ((ma 29), .inl (k 0, 41, .inl (fun i => nI (cn9 i))))]) S hA [] [0, 1, 2, 3, 4, 5, 6, 7, 8] rfl rfl (by decide) (by decide) (va_runS (As := [.int (nI ri), .int (nI (j + 1))]) (rest := [.ref h0]) ⟨hx, hb, C.2.2.1, C.2.2.2.1, C.2.2.2.2.1⟩ (g_Mo_at l G k _ ri (j + 1)) (k_stat (n := 2) C wc_Mo_at rfl rfl wz_Mo wm_Mo_328 wt_Mo_at (by decide +kernel) ⟨(Nat.le_of_ble_eq_true rfl), (Nat.le_of_ble_eq_true rfl)⟩) (pr_now K S [] (by decide) rfl) rfl rfl hl.1 rfl (lv_room (Nat.le_of_ble_eq_true rfl)) d_Mo_lay_105 ⟨(Nat.le_of_ble_eq_true rfl), (Nat.le_of_ble_eq_true rfl)⟩) (fun r48 u46 H locs hw47 S => ?_)
                    have S : Sw G A s.heap _ _ [(h0, .inr (8, moL ma (va_up (va_up (va_up (va_up (va_up iv 14 (nI un)) 15 (nI rows)) 24 (nI rows)) 25 (nI (tk f9 + 2))) 28 (-1)) co)), ((ma 0), .inl (k 0, 4, .inl (fun i => nI (tk i)))), ((ma 14), .inl (k 0, 4, .inl (fun i => nI (fs i)))), ((ma 15), .inl (k 1, 3690, .inr (.inl sm))), ((ma 21), .inl (k 0, 319840, .inl (fun i => nI (D2 i)))), ((ma 22), .inl (k 0, 3998, .inl (fun i => nI (Z2 i)))), ((ma 23), .inl (k 2, 3998, .inl (fun i => nI (B2 i)))), ((ma 28), .inl (k 0, 90, .inl (fun i => nI ((va_up rn9 ri (un + 1 + ri)) i)))), ((ma 29), .inl (k 0, 41, .inl (fun i => nI (cn9 i))))] := S
                    obtain rfl : r48 = nI (42 * ri + (j + 1)) := hw47
                    refine lv_aload_n hx hb d_Mo_lay_108 rfl (lv_at hl 3 rfl) ?_
                    refine r_get C K S 0 rfl rfl clOk_Mo 33 (by decide) wf_Mo_64 (v := .ref (ma 15)) rfl d_Mo_lay_109 ?_
                    refine lv_bipush (v := 41) hx hb d_Mo_lay_112 (by decide) ?_
                    refine lv_iload_n hx hb d_Mo_lay_114 rfl (lv_at hl 1 rfl) ?_
                    refine z_imul (x := 41) (y := nI ri) (v := nI (41 * ri)) hx hb d_Mo_lay_115 (pk_mul 41 ri) ?_
                    refine lv_iload_n hx hb d_Mo_lay_116 rfl (lv_at hl 0 rfl) ?_
                    refine z_iadd (x := nI (41 * ri)) (y := nI j) (v := nI (41 * ri + j)) hx hb d_Mo_lay_117 (nI_add (41 * ri) j) ?_
                    refine r_lald C K S 3 rfl (i := nI (41 * ri + j)) (show vp_in (nI (41 * ri + j)) _ from vp_in_nI (n := (41 * ri + j)) (by omega) (by decide)) (v := sm (41 * ri + j)) (by rw [nI_clamp (by omega)]) d_Mo_lay_118 ?_
                    refine r_backv (wi := [(h0, .inr (8, moL ma (va_up (va_up (va_up (va_up (va_up iv 14 (nI un)) 15 (nI rows)) 24 (nI rows)) 25 (nI (tk f9 + 2))) 28 (-1)) co)), ((ma 21), .inl (k 0, 319840, .inl (fun i => nI (D2 i)))), ((ma 22), .inl (k 0, 3998, .inl (fun i => nI (Z2 i)))), ((ma 23), .inl (k 2, 3998, .inl (fun i => nI (B2 i))))]) (wr := [((ma 0), .inl (k 0, 4, .inl (fun i => nI (tk i)))), ((ma 14), .inl (k 0, 4, .inl (fun i => nI (fs i)))), ((ma 15), .inl (k 1, 3690, .inr (.inl sm))), ((ma 28), .inl (k 0, 90, .inl (fun i => nI ((va_up rn9 ri (un + 1 + ri)) i)))), ((ma 29), .inl (k 0, 41, .inl (fun i => nI (cn9 i))))]) S hA [0, 4, 5, 6] [1, 2, 3, 7, 8] rfl rfl (by decide) (by decide) (va_runV (As := [.int (nI (42 * ri + (j + 1))), .long (sm (41 * ri + j))]) (rest := []) ⟨hx, hb, C.2.2.1, C.2.2.2.1, C.2.2.2.2.1⟩ (g_Mo_putZ l G k h0 _ (42 * ri + (j + 1)) (sm (41 * ri + j)) ma (va_up (va_up (va_up (va_up (va_up iv 14 (nI un)) 15 (nI rows)) 24 (nI rows)) 25 (nI (tk f9 + 2))) 28 (-1)) co D2 Z2 B2 T8 hT3 (by omega) (hsm _ (by omega))) (k_virt (n := 2) C wc_Mo_put rfl rfl wz_Mo wm_Mo_360 wn_Mo_put ws_Mo_put (by decide +kernel) ⟨(Nat.le_of_ble_eq_true rfl), (Nat.le_of_ble_eq_true rfl)⟩) (pr_nowV K S [0, 4, 5, 6] (by decide) rfl 0 rfl rfl) rfl rfl hl.1 rfl (lv_room (Nat.le_of_ble_eq_true rfl)) d_Mo_lay_119 ⟨(Nat.le_of_ble_eq_true rfl), (Nat.le_of_ble_eq_true rfl)⟩) (fun p8 H locs hw50 S => ?_)
                    have S : Sw G A s.heap _ _ [((ma 0), .inl (k 0, 4, .inl (fun i => nI (tk i)))), ((ma 14), .inl (k 0, 4, .inl (fun i => nI (fs i)))), ((ma 15), .inl (k 1, 3690, .inr (.inl sm))), ((ma 28), .inl (k 0, 90, .inl (fun i => nI ((va_up rn9 ri (un + 1 + ri)) i)))), ((ma 29), .inl (k 0, 41, .inl (fun i => nI (cn9 i)))), (h0, .inr (8, moL ma (va_up (va_up (va_up (va_up (va_up iv 14 (nI un)) 15 (nI rows)) 24 (nI rows)) 25 (nI (tk f9 + 2))) 28 (-1)) co)), ((ma 21), .inl (k 0, 319840, .inl (fun i => nI (p8.1 i)))), ((ma 22), .inl (k 0, 3998, .inl (fun i => nI (p8.2.1 i)))), ((ma 23), .inl (k 2, 3998, .inl (fun i => nI (p8.2.2 i))))] := S
                    have hT_p8 : tbO p8.1 p8.2.1 p8.2.2 (va_up T8 (42 * ri + (j + 1)) ((sm (41 * ri + j)).toInt)) := hw50
                    refine lv_iinc (v := nI (j + 1)) (lv' := [(3, .int (nI (j + 1))), (2, .int (nI ri)), (1, .int (nI f9)), (0, .ref h0)]) hx hb d_Mo_lay_122 hl (k := 0) rfl (show nI j + Int32.ofInt 1 = nI (j + 1) from (nI_add j 1).trans (congrArg nI (by omega))) (by decide) rfl (fun ls hl => ?_)
                    refine lv_goto (tgt := 92) hx hb d_Mo_lay_125 (by decide) ?_
                    exact ih_lj (j + 1) p8.1 p8.2.1 p8.2.2 (va_up T8 (42 * ri + (j + 1)) ((sm (41 * ri + j)).toInt)) (by omega) (by omega) hT_p8 (lyB_keep hB3 hu (by omega) (by omega)) (lyR_s (sm := (fun i => (sm i).toInt)) hR) (by rw [va_up_ne _ _ (by omega)]; exact h943) _ _ (S.sub [5, 0, 1, 2, 6, 7, 8, 3, 4] (by decide) rfl) ls (lv_sub hl [0, 1, 2, 3] rfl)
              exact lj _ 0 p6.1 p6.2.1 p6.2.2 (va_up T9 (42 * ri + 0) 0) (Nat.lt_succ_self _) (by omega) hT_p6 (lyB_keep hB hu (by omega) (by omega)) lyR_0 (by rw [va_up_ne _ _ (by omega)]; exact h94) _ _ (S.sub [5, 0, 1, 2, 6, 7, 8, 3, 4] (by decide) rfl) ls (lv_sub hl [0, 1, 2, 3] rfl)
        exact lb _ 0 p1.1 p1.2.1 p1.2.2 rn (va_up T 3997 1) (Nat.lt_succ_self _) (by omega) hT_p1 ⟨va_up_self _ _ _, fun _ h => absurd h (Nat.not_lt_zero _)⟩ g94 (fun _ h => absurd h (Nat.not_lt_zero _)) _ _ (S.sub [0, 1, 2, 3, 4, 5, 6, 7, 8] (by decide) rfl) ls (lv_sub hl [0, 1, 2] rfl)
      · refine lv_aload_n hx hb d_Mo_lay_43 rfl (lv_at hl 2 rfl) ?_
        refine r_get C K S 0 rfl rfl clOk_Mo 56 (by decide) wf_Mo_108 (v := .ref (ma 29)) rfl d_Mo_lay_44 ?_
        refine lv_iload_n hx hb d_Mo_lay_47 rfl (lv_at hl 0 rfl) ?_
        refine lv_iload_n hx hb d_Mo_lay_48 rfl (lv_at hl 0 rfl) ?_
        refine r_iast C K S 8 rfl (i := nI j) (x := nI j) (show vp_in (nI j) _ from vp_in_nI (n := j) (by omega) (by decide)) (f' := fun i => nI (va_up cn9 j j i)) (ws' := [(h0, .inr (8, moL ma (va_up (va_up (va_up (va_up (va_up iv 14 (nI un)) 15 (nI rows)) 24 (nI rows)) 25 (nI (tk f9 + 2))) 28 (-1)) co)), ((ma 0), .inl (k 0, 4, .inl (fun i => nI (tk i)))), ((ma 14), .inl (k 0, 4, .inl (fun i => nI (fs i)))), ((ma 15), .inl (k 1, 3690, .inr (.inl sm))), ((ma 21), .inl (k 0, 319840, .inl (fun i => nI (p1.1 i)))), ((ma 22), .inl (k 0, 3998, .inl (fun i => nI (p1.2.1 i)))), ((ma 23), .inl (k 2, 3998, .inl (fun i => nI (p1.2.2 i)))), ((ma 28), .inl (k 0, 90, .inl (fun i => nI (rn i)))), ((ma 29), .inl (k 0, 41, .inl (fun i => nI (va_up cn9 j j i))))]) (show upd _ (nI j : Int32).toNatClampNeg (nI j) = _ from upd_nI cn9 (j := j) (by omega) j) rfl d_Mo_lay_49 (fun H locs S => ?_)
        refine lv_iinc (v := nI (j + 1)) (lv' := [(2, .int (nI (j + 1))), (1, .int (nI f9)), (0, .ref h0)]) hx hb d_Mo_lay_50 hl (k := 0) rfl (show nI j + Int32.ofInt 1 = nI (j + 1) from (nI_add j 1).trans (congrArg nI (by omega))) (by decide) rfl (fun ls hl => ?_)
        refine lv_goto (tgt := 35) hx hb d_Mo_lay_53 (by decide) ?_
        exact ih_la (j + 1) (va_up cn9 j j) (by omega) (by omega) (fun x hx => by by_cases q : x = j; exact q ▸ va_up_self _ _ _; rw [va_up_ne _ _ q]; exact hcn x (by omega)) _ _ (S.sub [0, 1, 2, 3, 4, 5, 6, 7, 8] (by decide) rfl) ls (lv_sub hl [0, 1, 2] rfl)
  exact la _ 0 cn (Nat.lt_succ_self _) (by omega) (fun _ h => absurd h (Nat.not_lt_zero _)) _ _ (S.sub [5, 0, 1, 2, 6, 7, 8, 3, 4] (by decide) rfl) ls (lv_sub hl [0, 2, 1] rfl)
end
section
theorem tabJ_names {un rows M : Nat} {F : Nat → Nat → Int} {cn rn : Nat → Nat} {T : Nat → Int} (hu : un ≤ 40) (hro : rows ≤ 90) (h : tabJ un rows M F cn rn T) : (∀ j, j ≤ un → cn j < 1000) ∧ (∀ i, i < rows → rn i < 1000) ∧ 0 < T 3997 := by
  obtain ⟨⟨e, h1⟩, -, h3⟩ := h
  exact ⟨fun j hj => by have := h3.2.1 j (by omega); omega, fun i hi => by have := h3.2.2 i hi; omega, h1.2.2.1⟩
theorem tabJ_exF {un rows M r c9 : Nat} {F : Nat → Nat → Int} {cn rn : Nat → Nat} {T : Nat → Int} (hu : un ≤ 40) (hs : c9 ≤ un) (hr : r < M) (h : tabJ un rows M F cn rn T) (hF : ∀ v, dt_nm (un + 2) (F v) ≤ 65535) : exF un M r c9 T := by
  obtain ⟨⟨e, h1⟩, -, -⟩ := h
  exact exF_of hu hs hr h1 hF
theorem gv_some {T : Nat → Int} {rn : Nat → Nat} {c9 rows : Nat} {b : Option Nat} (h : gvO T rn c9 rows b) (he : ∃ i, i < rows ∧ T (42 * i + c9) < 0) : ∃ r, b = some r ∧ r < rows := by
  cases b with
  | none => obtain ⟨i, hi, h2⟩ := he; exact absurd h2 (h i hi)
  | some r => exact ⟨r, rfl, h.1⟩
theorem bd_m {m V n : Nat} (h : m < V ^ n) : V ^ n - (m + 1) < V ^ n - m := by omega
theorem d_Mo_improve_0 : decode c_Mo_improve 0 = .ok (.aload_n 0, 1) := by decide +kernel
theorem d_Mo_improve_1 : decode c_Mo_improve 1 = .ok (.aload_n 0, 1) := by decide +kernel
theorem d_Mo_improve_2 : decode c_Mo_improve 2 = .ok (.getfield 333, 3) := by decide +kernel
theorem d_Mo_improve_5 : decode c_Mo_improve 5 = .ok (.aload_n 0, 1) := by decide +kernel
theorem d_Mo_improve_6 : decode c_Mo_improve 6 = .ok (.getfield 336, 3) := by decide +kernel
theorem d_Mo_improve_9 : decode c_Mo_improve 9 = .ok (.invokevirtual 377, 3) := by decide +kernel
theorem d_Mo_improve_12 : decode c_Mo_improve 12 = .ok (.istore_n 1, 1) := by decide +kernel
theorem d_Mo_improve_13 : decode c_Mo_improve 13 = .ok (.iload_n 1, 1) := by decide +kernel
theorem d_Mo_improve_14 : decode c_Mo_improve 14 = .ok (.ifCond .lt 29, 3) := by decide +kernel
theorem d_Mo_improve_17 : decode c_Mo_improve 17 = .ok (.aload_n 0, 1) := by decide +kernel
theorem d_Mo_improve_18 : decode c_Mo_improve 18 = .ok (.aload_n 0, 1) := by decide +kernel
theorem d_Mo_improve_19 : decode c_Mo_improve 19 = .ok (.iload_n 1, 1) := by decide +kernel
theorem d_Mo_improve_20 : decode c_Mo_improve 20 = .ok (.invokevirtual 380, 3) := by decide +kernel
theorem d_Mo_improve_23 : decode c_Mo_improve 23 = .ok (.iload_n 1, 1) := by decide +kernel
theorem d_Mo_improve_24 : decode c_Mo_improve 24 = .ok (.invokevirtual 374, 3) := by decide +kernel
theorem d_Mo_improve_27 : decode c_Mo_improve 27 = .ok (.aload_n 0, 1) := by decide +kernel
theorem d_Mo_improve_28 : decode c_Mo_improve 28 = .ok (.aload_n 0, 1) := by decide +kernel
theorem d_Mo_improve_29 : decode c_Mo_improve 29 = .ok (.getfield 333, 3) := by decide +kernel
theorem d_Mo_improve_32 : decode c_Mo_improve 32 = .ok (.aload_n 0, 1) := by decide +kernel
theorem d_Mo_improve_33 : decode c_Mo_improve 33 = .ok (.getfield 336, 3) := by decide +kernel
theorem d_Mo_improve_36 : decode c_Mo_improve 36 = .ok (.invokevirtual 377, 3) := by decide +kernel
theorem d_Mo_improve_39 : decode c_Mo_improve 39 = .ok (.istore_n 1, 1) := by decide +kernel
theorem d_Mo_improve_40 : decode c_Mo_improve 40 = .ok (.goto (-27), 3) := by decide +kernel
theorem d_Mo_improve_43 : decode c_Mo_improve 43 = .ok (.return_, 1) := by decide +kernel
set_option maxRecDepth 100000 in
set_option maxHeartbeats 16000000 in
/-- improve() -/
theorem g_Mo_improve (l : Launch) (G : va_G) (k : Nat → ClassId) (h0 : Nat) (s0 : Nat) (un : Nat) (rows : Nat) (aims : Nat) (gn : Nat) (gv : Int32) (ma : Nat → Nat) (iv : Nat → Int32) (co : Int64) (dg : Nat → Nat) (sz : Nat → Nat) (bl : Nat → Nat) (O : Nat → Nat) (T2 : Nat → Nat) (qt : Nat → Nat) (Dv : Nat → Nat) (rn : Nat → Nat) (cn : Nat → Nat) (T : Nat → Int) (F : Nat → Nat → Int) (hT : tbO dg sz bl T) (hI : tabI un rows (rows + aims) F cn rn T) (hro : rows ≤ 90) (ha1 : 1 ≤ aims) (hai : aims ≤ 5) (hu : un ≤ 40) (hg : ∀ j, j ≤ 40 → (nI j = gv ↔ j = gn)) (hF : ∀ v, dt_nm (un + 2) (F v) ≤ 65535) (hF1 : ∀ v, v < un + 1 → ∀ c, c < un + 2 → F v c = if v = c then 1 else 0) (hF2 : ∀ q, q < aims → ∀ c, c < un + 2 → 0 ≤ F (un + 1 + rows + q) c) (dO : ∀ i, i < 170 → O i < 65536) (d2 : ∀ i, i < 170 → T2 i < 65536) (dQ : ∀ i, i < 170 → qt i < 65536) (dD : ∀ i, i < 170 → Dv i < 65536) : CV l y_Mo_improve c_Mo_improve 2 { frames := 6, cells := 0, slots := 0, locals := 217 } [.ref h0] G k s0 [(h0, .inr (8, moL ma (va_up (va_up (va_up (va_up iv 14 (nI un)) 24 (nI rows)) 25 (nI aims)) 28 gv) co)), ((ma 21), .inl (k 0, 319840, .inl (fun i => nI (dg i)))), ((ma 22), .inl (k 0, 3998, .inl (fun i => nI (sz i)))), ((ma 23), .inl (k 2, 3998, .inl (fun i => nI (bl i)))), ((ma 24), .inl (k 0, 170, .inl (fun i => nI (O i)))), ((ma 25), .inl (k 0, 170, .inl (fun i => nI (T2 i)))), ((ma 26), .inl (k 0, 170, .inl (fun i => nI (qt i)))), ((ma 27), .inl (k 0, 170, .inl (fun i => nI (Dv i)))), ((ma 28), .inl (k 0, 90, .inl (fun i => nI (rn i)))), ((ma 29), .inl (k 0, 41, .inl (fun i => nI (cn i))))] (fun (u : (Nat → Nat → Nat) × (Nat → Int32)) => (∃ T9, tbO (u.1 0) (u.1 1) (u.1 2) T9 ∧ tabI un rows (rows + aims) F (u.1 8) (u.1 7) T9 ∧ T9 3994 = T 3994) ∧ (∀ i, i < 170 → u.1 3 i < 65536) ∧ (∀ i, i < 170 → u.1 4 i < 65536) ∧ (∀ i, i < 170 → u.1 5 i < 65536) ∧ (∀ i, i < 170 → u.1 6 i < 65536)) (fun u => [(h0, .inr (8, moL ma (va_up (va_up (va_up (va_up (va_up (va_up (va_up (va_up (va_up iv 14 (nI un)) 24 (nI rows)) 25 (nI aims)) 28 gv) 19 (u.2 0)) 20 (u.2 1)) 21 (u.2 2)) 22 (u.2 3)) 23 (u.2 4)) co)), ((ma 21), .inl (k 0, 319840, .inl (fun i => nI (u.1 0 i)))), ((ma 22), .inl (k 0, 3998, .inl (fun i => nI (u.1 1 i)))), ((ma 23), .inl (k 2, 3998, .inl (fun i => nI (u.1 2 i)))), ((ma 24), .inl (k 0, 170, .inl (fun i => nI (u.1 3 i)))), ((ma 25), .inl (k 0, 170, .inl (fun i => nI (u.1 4 i)))), ((ma 26), .inl (k 0, 170, .inl (fun i => nI (u.1 5 i)))), ((ma 27), .inl (k 0, 170, .inl (fun i => nI (u.1 6 i)))), ((ma 28), .inl (k 0, 90, .inl (fun i => nI (u.1 7 i)))), ((ma 29), .inl (k 0, 41, .inl (fun i => nI (u.1 8 i))))]) 0 0 := by
  refine met_start (by decide) (Nat.le_of_ble_eq_true rfl) ?_
  intro p e s m below meth c C K hA hsz S ls hl
  generalize va_A [(h0, .inr (8, moL ma (va_up (va_up (va_up (va_up iv 14 (nI un)) 24 (nI rows)) 25 (nI aims)) 28 gv) co)), ((ma 21), .inl (k 0, 319840, .inl (fun i => nI (dg i)))), ((ma 22), .inl (k 0, 3998, .inl (fun i => nI (sz i)))), ((ma 23), .inl (k 2, 3998, .inl (fun i => nI (bl i)))), ((ma 24), .inl (k 0, 170, .inl (fun i => nI (O i)))), ((ma 25), .inl (k 0, 170, .inl (fun i => nI (T2 i)))), ((ma 26), .inl (k 0, 170, .inl (fun i => nI (qt i)))), ((ma 27), .inl (k 0, 170, .inl (fun i => nI (Dv i)))), ((ma 28), .inl (k 0, 90, .inl (fun i => nI (rn i)))), ((ma 29), .inl (k 0, 41, .inl (fun i => nI (cn i))))] s0 = A at hA S ⊢
  have hx := C.1
  have hb := C.2.1
  have hl : lv_has ls 2 [(0, .ref h0)] := hl
  refine lv_aload_n hx hb d_Mo_improve_0 rfl (lv_at hl 0 rfl) ?_
  refine lv_aload_n hx hb d_Mo_improve_1 rfl (lv_at hl 0 rfl) ?_
  refine r_get C K S 0 rfl rfl clOk_Mo 53 (by decide) wf_Mo_333 (v := .int (nI rows)) rfl d_Mo_improve_2 ?_
  refine lv_aload_n hx hb d_Mo_improve_5 rfl (lv_at hl 0 rfl) ?_
  refine r_get C K S 0 rfl rfl clOk_Mo 54 (by decide) wf_Mo_336 (v := .int (nI aims)) rfl d_Mo_improve_6 ?_
  refine r_backi (wi := [(h0, .inr (8, moL ma (va_up (va_up (va_up (va_up iv 24 (nI rows)) 25 (nI aims)) 14 (nI un)) 28 gv) co)), ((ma 22), .inl (k 0, 3998, .inl (fun i => nI (sz i)))), ((ma 23), .inl (k 2, 3998, .inl (fun i => nI (bl i)))), ((ma 29), .inl (k 0, 41, .inl (fun i => nI (cn i))))]) (wr := [((ma 21), .inl (k 0, 319840, .inl (fun i => nI (dg i)))), ((ma 24), .inl (k 0, 170, .inl (fun i => nI (O i)))), ((ma 25), .inl (k 0, 170, .inl (fun i => nI (T2 i)))), ((ma 26), .inl (k 0, 170, .inl (fun i => nI (qt i)))), ((ma 27), .inl (k 0, 170, .inl (fun i => nI (Dv i)))), ((ma 28), .inl (k 0, 90, .inl (fun i => nI (rn i))))]) S hA [0, 2, 3, 9] [1, 4, 5, 6, 7, 8] rfl rfl (by decide) (by decide) (va_runV (As := [.int (nI rows), .int (nI aims)]) (rest := []) ⟨hx, hb, C.2.2.1, C.2.2.2.1, C.2.2.2.2.1⟩ (g_Mo_coming l G k h0 _ rows aims un gn gv ma (va_up (va_up iv 24 (nI rows)) 25 (nI aims)) co dg sz bl cn T hT (by omega) (by omega) hu hg (tabJ_names hu hro hI.1).1) (k_virt (n := 2) C wc_Mo_coming rfl rfl wz_Mo wm_Mo_377 wn_Mo_coming ws_Mo_coming (by decide +kernel) ⟨(Nat.le_of_ble_eq_true rfl), (Nat.le_of_ble_eq_true rfl)⟩) (pr_nowV K S [0, 2, 3, 9] (by decide) rfl 0 rfl rfl) rfl rfl hl.1 rfl (lv_room (Nat.le_of_ble_eq_true rfl)) d_Mo_improve_9 ⟨(Nat.le_of_ble_eq_true rfl), (Nat.le_of_ble_eq_true rfl)⟩) (fun r2 c0 H locs hw1 S => ?_)
  have S : Sw G A s.heap _ _ [((ma 21), .inl (k 0, 319840, .inl (fun i => nI (dg i)))), ((ma 24), .inl (k 0, 170, .inl (fun i => nI (O i)))), ((ma 25), .inl (k 0, 170, .inl (fun i => nI (T2 i)))), ((ma 26), .inl (k 0, 170, .inl (fun i => nI (qt i)))), ((ma 27), .inl (k 0, 170, .inl (fun i => nI (Dv i)))), ((ma 28), .inl (k 0, 90, .inl (fun i => nI (rn i)))), (h0, .inr (8, moL ma (va_up (va_up (va_up (va_up iv 24 (nI rows)) 25 (nI aims)) 14 (nI un)) 28 gv) co)), ((ma 22), .inl (k 0, 3998, .inl (fun i => nI (sz i)))), ((ma 23), .inl (k 2, 3998, .inl (fun i => nI (bl i)))), ((ma 29), .inl (k 0, 41, .inl (fun i => nI (cn i))))] := S
  obtain ⟨hw10, hc0⟩ := hw1
  obtain rfl : r2 = bI c0 := hw10
  refine lv_istore_n (lv' := [(1, .int (bI c0)), (0, .ref h0)]) hx hb d_Mo_improve_12 rfl hl (by decide) rfl (fun ls hl => ?_)
  have lp : ∀ d9, ∀ (m9 : Nat), ∀ (D : Nat → Nat), ∀ (Z : Nat → Nat), ∀ (B : Nat → Nat), ∀ (O9 : Nat → Nat), ∀ (T9a : Nat → Nat), ∀ (Q9 : Nat → Nat), ∀ (V9 : Nat → Nat), ∀ (RN : Nat → Nat), ∀ (CN : Nat → Nat), ∀ (w : Nat → Int32), ∀ (T9 : Nat → Int), ∀ (b9 : Option Nat), ((un + 1 + rows) ^ (un + 1) - m9) < d9 → (tbO D Z B T9) → (tabI un rows (rows + aims) F CN RN T9) → (sxRun (un + 1) F rows aims (un + 1 + rows) gn (un + 1 + rows) m9 CN RN) → (cmO T9 CN rows aims gn (un + 1) b9) → (T9 3994 = T 3994) → (∀ i, i < 170 → O9 i < 65536) → (∀ i, i < 170 → T9a i < 65536) → (∀ i, i < 170 → Q9 i < 65536) → (∀ i, i < 170 → V9 i < 65536) → ∀ (H : Heap) (locs : List Loc), Sw G A s.heap H locs [(h0, .inr (8, moL ma (va_up (va_up (va_up (va_up (va_up (va_up (va_up (va_up (va_up iv 14 (nI un)) 24 (nI rows)) 25 (nI aims)) 28 gv) 19 (w 0)) 20 (w 1)) 21 (w 2)) 22 (w 3)) 23 (w 4)) co)), ((ma 21), .inl (k 0, 319840, .inl (fun i => nI (D i)))), ((ma 22), .inl (k 0, 3998, .inl (fun i => nI (Z i)))), ((ma 23), .inl (k 2, 3998, .inl (fun i => nI (B i)))), ((ma 24), .inl (k 0, 170, .inl (fun i => nI (O9 i)))), ((ma 25), .inl (k 0, 170, .inl (fun i => nI (T9a i)))), ((ma 26), .inl (k 0, 170, .inl (fun i => nI (Q9 i)))), ((ma 27), .inl (k 0, 170, .inl (fun i => nI (V9 i)))), ((ma 28), .inl (k 0, 90, .inl (fun i => nI (RN i)))), ((ma 29), .inl (k 0, 41, .inl (fun i => nI (CN i))))] → ∀ ls : Array Slot, lv_has ls 2 [(1, .int (bI b9)), (0, .ref h0)] → W p l e { frames := 6, cells := 0, slots := 0, locals := 217 } s m [Value.ref h0].toArray below meth c H locs 0 0 (MQ below (va_Qv (fun (u : (Nat → Nat → Nat) × (Nat → Int32)) => (∃ T9, tbO (u.1 0) (u.1 1) (u.1 2) T9 ∧ tabI un rows (rows + aims) F (u.1 8) (u.1 7) T9 ∧ T9 3994 = T 3994) ∧ (∀ i, i < 170 → u.1 3 i < 65536) ∧ (∀ i, i < 170 → u.1 4 i < 65536) ∧ (∀ i, i < 170 → u.1 5 i < 65536) ∧ (∀ i, i < 170 → u.1 6 i < 65536)) (Po G k A (fun u => [(h0, .inr (8, moL ma (va_up (va_up (va_up (va_up (va_up (va_up (va_up (va_up (va_up iv 14 (nI un)) 24 (nI rows)) 25 (nI aims)) 28 gv) 19 (u.2 0)) 20 (u.2 1)) 21 (u.2 2)) 22 (u.2 3)) 23 (u.2 4)) co)), ((ma 21), .inl (k 0, 319840, .inl (fun i => nI (u.1 0 i)))), ((ma 22), .inl (k 0, 3998, .inl (fun i => nI (u.1 1 i)))), ((ma 23), .inl (k 2, 3998, .inl (fun i => nI (u.1 2 i)))), ((ma 24), .inl (k 0, 170, .inl (fun i => nI (u.1 3 i)))), ((ma 25), .inl (k 0, 170, .inl (fun i => nI (u.1 4 i)))), ((ma 26), .inl (k 0, 170, .inl (fun i => nI (u.1 5 i)))), ((ma 27), .inl (k 0, 170, .inl (fun i => nI (u.1 6 i)))), ((ma 28), .inl (k 0, 90, .inl (fun i => nI (u.1 7 i)))), ((ma 29), .inl (k 0, 41, .inl (fun i => nI (u.1 8 i))))])) A) [Value.ref h0].toArray s 0 0 A) (F0 m 13 ls []) := by
    intro d9
    induction d9 with
    | zero => intro m9 D Z B O9 T9a Q9 V9 RN CN w T9 b9 hm; exact absurd hm (Nat.not_lt_zero _)
    | succ d9 ih_lp =>
      intro m9 D Z B O9 T9a Q9 V9 RN CN w T9 b9 hm hT2 hI2 hrun hC h94 e1 e2 e3 e4 H locs S ls hl
      refine lv_iload_n hx hb d_Mo_improve_13 rfl (lv_at hl 0 rfl) ?_
      cases b9 with
      | none =>
        have hl : lv_has ls 2 [(1, .int (-1)), (0, .ref h0)] := hl
        refine lv_if_lt (tgt := 43) hx hb d_Mo_improve_14 (by decide) (fun _ => ?_) (fun hq => absurd (by decide) hq)
        exact r_vret C K (uz [D, Z, B, O9, T9a, Q9, V9, RN, CN], w) ⟨⟨T9, hT2, hI2, h94⟩, e1, e2, e3, e4⟩ (S.sub [0, 1, 2, 3, 4, 5, 6, 7, 8, 9] (by decide) rfl) d_Mo_improve_43 (Nat.le_of_ble_eq_true rfl) (Nat.le_of_ble_eq_true rfl)
      | some sb =>
        have hl : lv_has ls 2 [(1, .int (nI sb)), (0, .ref h0)] := hl
        have hsb := hC.1
        have hlt := sxRun_lt hrun
        have hgi := tabI_gives (by omega) hI2 hF1 hF2 hC
        have hnm := tabJ_names hu hro hI2.1
        refine z_if_lt (a := sb) (tgt := 43) hx hb d_Mo_improve_14 (by decide) (by omega) ?_
        refine lv_aload_n hx hb d_Mo_improve_17 rfl (lv_at hl 1 rfl) ?_
        refine lv_aload_n hx hb d_Mo_improve_18 rfl (lv_at hl 1 rfl) ?_
        refine lv_iload_n hx hb d_Mo_improve_19 rfl (lv_at hl 0 rfl) ?_
        refine r_backi (wi := [(h0, .inr (8, moL ma (va_up (va_up (va_up (va_up (va_up (va_up (va_up (va_up (va_up iv 14 (nI un)) 25 (nI aims)) 28 gv) 19 (w 0)) 20 (w 1)) 21 (w 2)) 22 (w 3)) 23 (w 4)) 24 (nI rows)) co)), ((ma 21), .inl (k 0, 319840, .inl (fun i => nI (D i)))), ((ma 22), .inl (k 0, 3998, .inl (fun i => nI (Z i)))), ((ma 23), .inl (k 2, 3998, .inl (fun i => nI (B i)))), ((ma 24), .inl (k 0, 170, .inl (fun i => nI (O9 i)))), ((ma 25), .inl (k 0, 170, .inl (fun i => nI (T9a i)))), ((ma 28), .inl (k 0, 90, .inl (fun i => nI (RN i))))]) (wr := [((ma 26), .inl (k 0, 170, .inl (fun i => nI (Q9 i)))), ((ma 27), .inl (k 0, 170, .inl (fun i => nI (V9 i)))), ((ma 29), .inl (k 0, 41, .inl (fun i => nI (CN i))))]) S hA [0, 1, 2, 3, 4, 5, 8] [6, 7, 9] rfl rfl (by decide) (by decide) (va_runV (As := [.int (nI sb)]) (rest := [.ref h0]) ⟨hx, hb, C.2.2.1, C.2.2.2.1, C.2.2.2.2.1⟩ (g_Mo_giving l G k h0 _ sb rows ma (va_up (va_up (va_up (va_up (va_up (va_up (va_up (va_up iv 14 (nI un)) 25 (nI aims)) 28 gv) 19 (w 0)) 20 (w 1)) 21 (w 2)) 22 (w 3)) 23 (w 4)) co D Z B O9 T9a RN T9 hT2 (by omega) hro hI2.2 hnm.2.1 e1 e2) (k_virt (n := 1) C wc_Mo_giving rfl rfl wz_Mo wm_Mo_380 wn_Mo_giving ws_Mo_giving (by decide +kernel) ⟨(Nat.le_of_ble_eq_true rfl), (Nat.le_of_ble_eq_true rfl)⟩) (pr_nowV K S [0, 1, 2, 3, 4, 5, 8] (by decide) rfl 0 rfl rfl) rfl rfl hl.1 rfl (lv_room (Nat.le_of_ble_eq_true rfl)) d_Mo_improve_20 ⟨(Nat.le_of_ble_eq_true rfl), (Nat.le_of_ble_eq_true rfl)⟩) (fun r4 gu H locs hw3 S => ?_)
        have S : Sw G A s.heap _ _ [((ma 26), .inl (k 0, 170, .inl (fun i => nI (Q9 i)))), ((ma 27), .inl (k 0, 170, .inl (fun i => nI (V9 i)))), ((ma 29), .inl (k 0, 41, .inl (fun i => nI (CN i)))), (h0, .inr (8, moL ma (va_up (va_up (va_up (va_up (va_up (va_up (va_up (va_up (va_up iv 14 (nI un)) 25 (nI aims)) 28 gv) 21 (w 2)) 22 (w 3)) 23 (w 4)) 24 (nI rows)) 19 (gu.2.1 0)) 20 (gu.2.1 1)) co)), ((ma 21), .inl (k 0, 319840, .inl (fun i => nI (D i)))), ((ma 22), .inl (k 0, 3998, .inl (fun i => nI (Z i)))), ((ma 23), .inl (k 2, 3998, .inl (fun i => nI (B i)))), ((ma 24), .inl (k 0, 170, .inl (fun i => nI (gu.1 0 i)))), ((ma 25), .inl (k 0, 170, .inl (fun i => nI (gu.1 1 i)))), ((ma 28), .inl (k 0, 90, .inl (fun i => nI (RN i))))] := S
        obtain ⟨hw30, hgu⟩ := hw3
        obtain rfl : r4 = bI gu.2.2 := hw30
        obtain ⟨r9, hge, hr9⟩ := gv_some hgu.1 hgi
        rw [show bI gu.2.2 = nI r9 from congrArg bI hge]
        have hgv : gvO T9 RN sb rows (some r9) := hge ▸ hgu.1
        refine lv_iload_n hx hb d_Mo_improve_23 rfl (lv_at hl 0 rfl) ?_
        refine r_backv (wi := [(h0, .inr (8, moL ma (va_up (va_up (va_up (va_up (va_up (va_up (va_up (va_up (va_up iv 28 gv) 21 (w 2)) 22 (w 3)) 23 (w 4)) 19 (gu.2.1 0)) 20 (gu.2.1 1)) 14 (nI un)) 24 (nI rows)) 25 (nI aims)) co)), ((ma 21), .inl (k 0, 319840, .inl (fun i => nI (D i)))), ((ma 22), .inl (k 0, 3998, .inl (fun i => nI (Z i)))), ((ma 23), .inl (k 2, 3998, .inl (fun i => nI (B i)))), ((ma 24), .inl (k 0, 170, .inl (fun i => nI (gu.1 0 i)))), ((ma 25), .inl (k 0, 170, .inl (fun i => nI (gu.1 1 i)))), ((ma 26), .inl (k 0, 170, .inl (fun i => nI (Q9 i)))), ((ma 27), .inl (k 0, 170, .inl (fun i => nI (V9 i)))), ((ma 28), .inl (k 0, 90, .inl (fun i => nI (RN i)))), ((ma 29), .inl (k 0, 41, .inl (fun i => nI (CN i))))]) (wr := []) S hA [3, 4, 5, 6, 7, 8, 0, 1, 9, 2] [] rfl rfl (by decide) (by decide) (va_runV (As := [.int (nI r9), .int (nI sb)]) (rest := []) ⟨hx, hb, C.2.2.1, C.2.2.2.1, C.2.2.2.2.1⟩ (g_Mo_exchange l G k h0 _ r9 sb un rows aims ma (va_up (va_up (va_up (va_up (va_up (va_up iv 28 gv) 21 (w 2)) 22 (w 3)) 23 (w 4)) 19 (gu.2.1 0)) 20 (gu.2.1 1)) co D Z B (gu.1 0) (gu.1 1) Q9 V9 RN CN T9 hT2 hr9 hro hai (by omega) hu hnm.2.2 (tabJ_exF hu (by omega) (by omega) hI2.1 hF) hgu.2.1 hgu.2.2 e3 e4) (k_virt (n := 2) C wc_Mo_exchange rfl rfl wz_Mo wm_Mo_374 wn_Mo_exchange ws_Mo_exchange (by decide +kernel) ⟨(Nat.le_of_ble_eq_true rfl), (Nat.le_of_ble_eq_true rfl)⟩) (pr_nowV K S [3, 4, 5, 6, 7, 8, 0, 1, 9, 2] (by decide) rfl 3 rfl rfl) rfl rfl hl.1 rfl (lv_room (Nat.le_of_ble_eq_true rfl)) d_Mo_improve_24 ⟨(Nat.le_of_ble_eq_true rfl), (Nat.le_of_ble_eq_true rfl)⟩) (fun xu H locs hw5 S => ?_)
        have S : Sw G A s.heap _ _ [(h0, .inr (8, moL ma (va_up (va_up (va_up (va_up (va_up (va_up (va_up (va_up (va_up iv 28 gv) 14 (nI un)) 24 (nI rows)) 25 (nI aims)) 19 (xu.2 0)) 20 (xu.2 1)) 21 (xu.2 2)) 22 (xu.2 3)) 23 (xu.2 4)) co)), ((ma 21), .inl (k 0, 319840, .inl (fun i => nI (xu.1 0 i)))), ((ma 22), .inl (k 0, 3998, .inl (fun i => nI (xu.1 1 i)))), ((ma 23), .inl (k 2, 3998, .inl (fun i => nI (xu.1 2 i)))), ((ma 24), .inl (k 0, 170, .inl (fun i => nI (xu.1 3 i)))), ((ma 25), .inl (k 0, 170, .inl (fun i => nI (xu.1 4 i)))), ((ma 26), .inl (k 0, 170, .inl (fun i => nI (xu.1 5 i)))), ((ma 27), .inl (k 0, 170, .inl (fun i => nI (xu.1 6 i)))), ((ma 28), .inl (k 0, 90, .inl (fun i => nI ((va_up RN r9 (CN sb)) i)))), ((ma 29), .inl (k 0, 41, .inl (fun i => nI ((va_up CN sb (RN r9)) i))))] := S
        obtain ⟨⟨W9, hW1, hW2⟩, a1, a2, a3, a4⟩ := hw5
        have hI3 := tabI_next hu (by omega) hr9 (by omega) hI2 hgv hW2
        have hrun3 := tabI_run (K := aims) (A := un + 1 + rows) (gone := gn) (from9 := rows) hu (by omega) hr9 (by omega) hI2 hgv hC (fun q hq => ⟨by omega, by unfold nmR; rw [if_neg (by omega)]; omega⟩) hW2 hrun
        refine lv_aload_n hx hb d_Mo_improve_27 rfl (lv_at hl 1 rfl) ?_
        refine lv_aload_n hx hb d_Mo_improve_28 rfl (lv_at hl 1 rfl) ?_
        refine r_get C K S 0 rfl rfl clOk_Mo 53 (by decide) wf_Mo_333 (v := .int (nI rows)) rfl d_Mo_improve_29 ?_
        refine lv_aload_n hx hb d_Mo_improve_32 rfl (lv_at hl 1 rfl) ?_
        refine r_get C K S 0 rfl rfl clOk_Mo 54 (by decide) wf_Mo_336 (v := .int (nI aims)) rfl d_Mo_improve_33 ?_
        refine r_backi (wi := [(h0, .inr (8, moL ma (va_up (va_up (va_up (va_up (va_up (va_up (va_up (va_up (va_up iv 24 (nI rows)) 25 (nI aims)) 19 (xu.2 0)) 20 (xu.2 1)) 21 (xu.2 2)) 22 (xu.2 3)) 23 (xu.2 4)) 14 (nI un)) 28 gv) co)), ((ma 22), .inl (k 0, 3998, .inl (fun i => nI (xu.1 1 i)))), ((ma 23), .inl (k 2, 3998, .inl (fun i => nI (xu.1 2 i)))), ((ma 29), .inl (k 0, 41, .inl (fun i => nI ((va_up CN sb (RN r9)) i))))]) (wr := [((ma 21), .inl (k 0, 319840, .inl (fun i => nI (xu.1 0 i)))), ((ma 24), .inl (k 0, 170, .inl (fun i => nI (xu.1 3 i)))), ((ma 25), .inl (k 0, 170, .inl (fun i => nI (xu.1 4 i)))), ((ma 26), .inl (k 0, 170, .inl (fun i => nI (xu.1 5 i)))), ((ma 27), .inl (k 0, 170, .inl (fun i => nI (xu.1 6 i)))), ((ma 28), .inl (k 0, 90, .inl (fun i => nI ((va_up RN r9 (CN sb)) i))))]) S hA [0, 2, 3, 9] [1, 4, 5, 6, 7, 8] rfl rfl (by decide) (by decide) (va_runV (As := [.int (nI rows), .int (nI aims)]) (rest := []) ⟨hx, hb, C.2.2.1, C.2.2.2.1, C.2.2.2.2.1⟩ (g_Mo_coming l G k h0 _ rows aims un gn gv ma (va_up (va_up (va_up (va_up (va_up (va_up (va_up iv 24 (nI rows)) 25 (nI aims)) 19 (xu.2 0)) 20 (xu.2 1)) 21 (xu.2 2)) 22 (xu.2 3)) 23 (xu.2 4)) co (xu.1 0) (xu.1 1) (xu.1 2) (va_up CN sb (RN r9)) W9 hW1 (by omega) (by omega) hu hg (tabJ_names hu hro hI3.1).1) (k_virt (n := 2) C wc_Mo_coming rfl rfl wz_Mo wm_Mo_377 wn_Mo_coming ws_Mo_coming (by decide +kernel) ⟨(Nat.le_of_ble_eq_true rfl), (Nat.le_of_ble_eq_true rfl)⟩) (pr_nowV K S [0, 2, 3, 9] (by decide) rfl 0 rfl rfl) rfl rfl hl.1 rfl (lv_room (Nat.le_of_ble_eq_true rfl)) d_Mo_improve_36 ⟨(Nat.le_of_ble_eq_true rfl), (Nat.le_of_ble_eq_true rfl)⟩) (fun r7 cb H locs hw6 S => ?_)
        have S : Sw G A s.heap _ _ [((ma 21), .inl (k 0, 319840, .inl (fun i => nI (xu.1 0 i)))), ((ma 24), .inl (k 0, 170, .inl (fun i => nI (xu.1 3 i)))), ((ma 25), .inl (k 0, 170, .inl (fun i => nI (xu.1 4 i)))), ((ma 26), .inl (k 0, 170, .inl (fun i => nI (xu.1 5 i)))), ((ma 27), .inl (k 0, 170, .inl (fun i => nI (xu.1 6 i)))), ((ma 28), .inl (k 0, 90, .inl (fun i => nI ((va_up RN r9 (CN sb)) i)))), (h0, .inr (8, moL ma (va_up (va_up (va_up (va_up (va_up (va_up (va_up (va_up (va_up iv 24 (nI rows)) 25 (nI aims)) 19 (xu.2 0)) 20 (xu.2 1)) 21 (xu.2 2)) 22 (xu.2 3)) 23 (xu.2 4)) 14 (nI un)) 28 gv) co)), ((ma 22), .inl (k 0, 3998, .inl (fun i => nI ((xu.1 1) i)))), ((ma 23), .inl (k 2, 3998, .inl (fun i => nI ((xu.1 2) i)))), ((ma 29), .inl (k 0, 41, .inl (fun i => nI ((va_up CN sb (RN r9)) i))))] := S
        obtain ⟨hw60, hcb⟩ := hw6
        obtain rfl : r7 = bI cb := hw60
        refine lv_istore_n (lv' := [(1, .int (bI cb)), (0, .ref h0)]) hx hb d_Mo_improve_39 rfl hl (by decide) rfl (fun ls hl => ?_)
        refine lv_goto (tgt := 13) hx hb d_Mo_improve_40 (by decide) ?_
        exact ih_lp (m9 + 1) (xu.1 0) (xu.1 1) (xu.1 2) (xu.1 3) (xu.1 4) (xu.1 5) (xu.1 6) (va_up RN r9 (CN sb)) (va_up CN sb (RN r9)) xu.2 W9 cb (by have := bd_m hlt; omega) hW1 hI3 hrun3 hcb (by rw [hW2.2.2.2.2.2 3994 (by omega) (by omega)]; exact h94) a1 a2 a3 a4 _ _ (S.sub [6, 0, 7, 8, 1, 2, 3, 4, 5, 9] (by decide) rfl) ls (lv_sub hl [0, 1] rfl)
  exact lp _ 0 dg sz bl O T2 qt Dv rn cn (fun j => iv (19 + j)) T c0 (Nat.lt_succ_self _) hT hI (tabI_start (by omega) hI) hc0 rfl dO d2 dQ dD _ _ (S.sub [6, 0, 7, 8, 1, 2, 3, 4, 5, 9] (by decide) rfl) ls (lv_sub hl [0, 1] rfl)
end
section
/-- the worst condition of the first k9 -/
def woO (z : Nat → Int) (k9 : Nat) : Option Nat → Prop
  | none => ∀ i, i < k9 → ¬ z (41 * i + 40) < 0
  | some r => r < k9 ∧ z (41 * r + 40) < 0 ∧ ∀ i, i < k9 → z (41 * r + 40) ≤ z (41 * i + 40)
theorem woO_no {z : Nat → Int} {k9 : Nat} {b : Option Nat} (h : woO z k9 b) (hk : ¬ z (41 * k9 + 40) < 0) : woO z (k9 + 1) b := by
  cases b with
  | none =>
    intro i hi
    by_cases q : i = k9
    · subst q; exact hk
    · exact h i (by omega)
  | some r =>
    refine ⟨by have := h.1; omega, h.2.1, fun i hi => ?_⟩
    by_cases q : i = k9
    · subst q; have := h.2.1; omega
    · exact h.2.2 i (by omega)
theorem woO_first {z : Nat → Int} {k9 : Nat} (h : woO z k9 none) (hk : z (41 * k9 + 40) < 0) : woO z (k9 + 1) (some k9) := by
  refine ⟨by omega, hk, fun i hi => ?_⟩
  by_cases q : i = k9
  · subst q; exact Int.le_refl _
  · have := h i (by omega); omega
theorem woO_new {z : Nat → Int} {k9 r : Nat} (h : woO z k9 (some r)) (hk : z (41 * k9 + 40) < 0) (hl : z (41 * k9 + 40) < z (41 * r + 40)) : woO z (k9 + 1) (some k9) := by
  refine ⟨by omega, hk, fun i hi => ?_⟩
  by_cases q : i = k9
  · subst q; exact Int.le_refl _
  · have := h.2.2 i (by omega); omega
theorem woO_old {z : Nat → Int} {k9 r : Nat} (h : woO z k9 (some r)) (hl : ¬ z (41 * k9 + 40) < z (41 * r + 40)) : woO z (k9 + 1) (some r) := by
  refine ⟨by have := h.1; omega, h.2.1, fun i hi => ?_⟩
  by_cases q : i = k9
  · subst q; omega
  · exact h.2.2 i (by omega)
theorem lz_lt {a b : Int64} : a < b ↔ a.toInt < b.toInt := Int64.lt_iff_toInt_lt
theorem lcg_nlt {a b : Int64} (h : 0 ≤ lg_cmp a b) : ¬ a.toInt < b.toInt := fun q => absurd (lz_lt.mpr q) (Int64.not_lt.mpr ((lg_cmp_ge _ _).mp h))
theorem lcg_lt {a b : Int64} (h : ¬ 0 ≤ lg_cmp a b) : a.toInt < b.toInt := lz_lt.mp (Int64.not_le.mp (fun q => h ((lg_cmp_ge _ _).mpr q)))
/-- column 0 is 1 in the first k9 rows -/
def lyE (un rows fst tk k9 : Nat) (sm T : Nat → Int) : Prop := T 3997 = 1 ∧ (∀ i, i < rows → T (42 * i) = (if i < k9 then 1 else 0) ∧ (∀ j, j < un → T (42 * i + (j + 1)) = sm (41 * i + j)) ∧ T (42 * i + 41) = sm (41 * i + 40)) ∧ ∀ q, q < tk + 2 → ∀ j, isC un j → T (42 * (rows + q) + j) = if q = 0 then (if fst + 1 ≤ j ∧ j ≤ fst + tk + 1 ∧ j ≤ un then 1 else 0) else if j = fst + q then 1 else 0
theorem lyE_0 {un rows fst tk : Nat} {sm T : Nat → Int} (h : layO un rows 0 fst tk sm T) : lyE un rows fst tk 0 sm T := ⟨h.1, fun i hi => ⟨by rw [if_neg (Nat.not_lt_zero _)]; exact (h.2.1 i hi).1, (h.2.1 i hi).2⟩, h.2.2⟩
theorem lyE_1 {un rows fst tk : Nat} {sm T : Nat → Int} (h : lyE un rows fst tk rows sm T) : layO un rows 1 fst tk sm T := ⟨h.1, fun i hi => ⟨by have := (h.2.1 i hi).1; rw [if_pos hi] at this; exact this, (h.2.1 i hi).2⟩, h.2.2⟩
theorem lyE_s {un rows fst tk k9 : Nat} {sm T : Nat → Int} (hu : un ≤ 40) (hro : rows ≤ 90) (hk : k9 < rows) (h : lyE un rows fst tk k9 sm T) : lyE un rows fst tk (k9 + 1) sm (va_up T (42 * k9 + 0) 1) := by
  refine ⟨by rw [va_up_ne _ _ (by omega)]; exact h.1, fun i hi => ?_, fun q hq j hj => ?_⟩
  · obtain ⟨a, b, c⟩ := h.2.1 i hi
    refine ⟨?_, fun j hj => by rw [va_up_ne _ _ (by omega)]; exact b j hj, by rw [va_up_ne _ _ (by omega)]; exact c⟩
    by_cases q : i = k9
    · subst q
      rw [show 42 * i = 42 * i + 0 from rfl, va_up_self, if_pos (by omega)]
    · rw [va_up_ne _ _ (by omega), a]
      by_cases w : i < k9
      · rw [if_pos w, if_pos (by omega)]
      · rw [if_neg w, if_neg (by omega)]
  · rw [va_up_ne _ _ (by omega)]
    exact h.2.2 q hq j hj
theorem sxN_1 {f : Nat → Int} (h : sxN 1 f) : f 0 < 0 := by
  obtain ⟨q, a, -, c⟩ := h
  obtain rfl : q = 0 := by omega
  exact c
theorem gone99 : ∀ j, j ≤ 40 → (nI j = (-1 : Int32) ↔ j = 99) := by
  intro j hj
  constructor
  · intro q
    have h1 : (nI j).toNatClampNeg = j := nI_clamp (by omega)
    rw [q] at h1
    have h2 : (-1 : Int32).toNatClampNeg = 0 := by decide
    have h3 : j = 0 := by omega
    subst h3
    exact absurd q (by decide)
  · intro q; omega
theorem gone_s {j sb : Nat} (hj : j ≤ 40) (hs : sb ≤ 40) : nI j = nI sb ↔ j = sb := by
  constructor
  · intro q
    have h1 : (nI j).toNatClampNeg = j := nI_clamp (by omega)
    rw [q, nI_clamp (by omega)] at h1
    exact h1.symm
  · intro q; rw [q]
theorem gone0 {j : Nat} (hj : j ≤ 40) : nI j = (0 : Int32) ↔ j = 0 := gone_s (sb := 0) hj (by omega)
theorem d_Mo_reach_0 : decode c_Mo_reach 0 = .ok (.iconst (-1), 1) := by decide +kernel
theorem d_Mo_reach_1 : decode c_Mo_reach 1 = .ok (.istore_n 1, 1) := by decide +kernel
theorem d_Mo_reach_2 : decode c_Mo_reach 2 = .ok (.iconst 0, 1) := by decide +kernel
theorem d_Mo_reach_3 : decode c_Mo_reach 3 = .ok (.istore_n 2, 1) := by decide +kernel
theorem d_Mo_reach_4 : decode c_Mo_reach 4 = .ok (.iload_n 2, 1) := by decide +kernel
theorem d_Mo_reach_5 : decode c_Mo_reach 5 = .ok (.aload_n 0, 1) := by decide +kernel
theorem d_Mo_reach_6 : decode c_Mo_reach 6 = .ok (.getfield 333, 3) := by decide +kernel
theorem d_Mo_reach_9 : decode c_Mo_reach 9 = .ok (.if_icmp .ge 60, 3) := by decide +kernel
theorem d_Mo_reach_12 : decode c_Mo_reach 12 = .ok (.aload_n 0, 1) := by decide +kernel
theorem d_Mo_reach_13 : decode c_Mo_reach 13 = .ok (.getfield 64, 3) := by decide +kernel
theorem d_Mo_reach_16 : decode c_Mo_reach 16 = .ok (.bipush 41, 2) := by decide +kernel
theorem d_Mo_reach_18 : decode c_Mo_reach 18 = .ok (.iload_n 2, 1) := by decide +kernel
theorem d_Mo_reach_19 : decode c_Mo_reach 19 = .ok (.imul, 1) := by decide +kernel
theorem d_Mo_reach_20 : decode c_Mo_reach 20 = .ok (.bipush 40, 2) := by decide +kernel
theorem d_Mo_reach_22 : decode c_Mo_reach 22 = .ok (.iadd, 1) := by decide +kernel
theorem d_Mo_reach_23 : decode c_Mo_reach 23 = .ok (.laload, 1) := by decide +kernel
theorem d_Mo_reach_24 : decode c_Mo_reach 24 = .ok (.lconst 0, 1) := by decide +kernel
theorem d_Mo_reach_25 : decode c_Mo_reach 25 = .ok (.lcmp, 1) := by decide +kernel
theorem d_Mo_reach_26 : decode c_Mo_reach 26 = .ok (.ifCond .ge 37, 3) := by decide +kernel
theorem d_Mo_reach_29 : decode c_Mo_reach 29 = .ok (.iload_n 1, 1) := by decide +kernel
theorem d_Mo_reach_30 : decode c_Mo_reach 30 = .ok (.ifCond .lt 31, 3) := by decide +kernel
theorem d_Mo_reach_33 : decode c_Mo_reach 33 = .ok (.aload_n 0, 1) := by decide +kernel
theorem d_Mo_reach_34 : decode c_Mo_reach 34 = .ok (.getfield 64, 3) := by decide +kernel
theorem d_Mo_reach_37 : decode c_Mo_reach 37 = .ok (.bipush 41, 2) := by decide +kernel
theorem d_Mo_reach_39 : decode c_Mo_reach 39 = .ok (.iload_n 2, 1) := by decide +kernel
theorem d_Mo_reach_40 : decode c_Mo_reach 40 = .ok (.imul, 1) := by decide +kernel
theorem d_Mo_reach_41 : decode c_Mo_reach 41 = .ok (.bipush 40, 2) := by decide +kernel
theorem d_Mo_reach_43 : decode c_Mo_reach 43 = .ok (.iadd, 1) := by decide +kernel
theorem d_Mo_reach_44 : decode c_Mo_reach 44 = .ok (.laload, 1) := by decide +kernel
theorem d_Mo_reach_45 : decode c_Mo_reach 45 = .ok (.aload_n 0, 1) := by decide +kernel
theorem d_Mo_reach_46 : decode c_Mo_reach 46 = .ok (.getfield 64, 3) := by decide +kernel
theorem d_Mo_reach_49 : decode c_Mo_reach 49 = .ok (.bipush 41, 2) := by decide +kernel
theorem d_Mo_reach_51 : decode c_Mo_reach 51 = .ok (.iload_n 1, 1) := by decide +kernel
theorem d_Mo_reach_52 : decode c_Mo_reach 52 = .ok (.imul, 1) := by decide +kernel
theorem d_Mo_reach_53 : decode c_Mo_reach 53 = .ok (.bipush 40, 2) := by decide +kernel
theorem d_Mo_reach_55 : decode c_Mo_reach 55 = .ok (.iadd, 1) := by decide +kernel
theorem d_Mo_reach_56 : decode c_Mo_reach 56 = .ok (.laload, 1) := by decide +kernel
theorem d_Mo_reach_57 : decode c_Mo_reach 57 = .ok (.lcmp, 1) := by decide +kernel
theorem d_Mo_reach_58 : decode c_Mo_reach 58 = .ok (.ifCond .ge 5, 3) := by decide +kernel
theorem d_Mo_reach_61 : decode c_Mo_reach 61 = .ok (.iload_n 2, 1) := by decide +kernel
theorem d_Mo_reach_62 : decode c_Mo_reach 62 = .ok (.istore_n 1, 1) := by decide +kernel
theorem d_Mo_reach_63 : decode c_Mo_reach 63 = .ok (.iinc 2 1, 3) := by decide +kernel
theorem d_Mo_reach_66 : decode c_Mo_reach 66 = .ok (.goto (-62), 3) := by decide +kernel
theorem d_Mo_reach_69 : decode c_Mo_reach 69 = .ok (.iload_n 1, 1) := by decide +kernel
theorem d_Mo_reach_70 : decode c_Mo_reach 70 = .ok (.ifCond .ge 10, 3) := by decide +kernel
theorem d_Mo_reach_73 : decode c_Mo_reach 73 = .ok (.aload_n 0, 1) := by decide +kernel
theorem d_Mo_reach_74 : decode c_Mo_reach 74 = .ok (.iconst 0, 1) := by decide +kernel
theorem d_Mo_reach_75 : decode c_Mo_reach 75 = .ok (.putfield 364, 3) := by decide +kernel
theorem d_Mo_reach_78 : decode c_Mo_reach 78 = .ok (.iconst 1, 1) := by decide +kernel
theorem d_Mo_reach_79 : decode c_Mo_reach 79 = .ok (.ireturn, 1) := by decide +kernel
theorem d_Mo_reach_80 : decode c_Mo_reach 80 = .ok (.iconst 0, 1) := by decide +kernel
theorem d_Mo_reach_81 : decode c_Mo_reach 81 = .ok (.istore_n 2, 1) := by decide +kernel
theorem d_Mo_reach_82 : decode c_Mo_reach 82 = .ok (.iload_n 2, 1) := by decide +kernel
theorem d_Mo_reach_83 : decode c_Mo_reach 83 = .ok (.aload_n 0, 1) := by decide +kernel
theorem d_Mo_reach_84 : decode c_Mo_reach 84 = .ok (.getfield 333, 3) := by decide +kernel
theorem d_Mo_reach_87 : decode c_Mo_reach 87 = .ok (.if_icmp .ge 19, 3) := by decide +kernel
theorem d_Mo_reach_90 : decode c_Mo_reach 90 = .ok (.aload_n 0, 1) := by decide +kernel
theorem d_Mo_reach_91 : decode c_Mo_reach 91 = .ok (.iload_n 2, 1) := by decide +kernel
theorem d_Mo_reach_92 : decode c_Mo_reach 92 = .ok (.iconst 0, 1) := by decide +kernel
theorem d_Mo_reach_93 : decode c_Mo_reach 93 = .ok (.invokestatic 328, 3) := by decide +kernel
theorem d_Mo_reach_96 : decode c_Mo_reach 96 = .ok (.lconst 1, 1) := by decide +kernel
theorem d_Mo_reach_97 : decode c_Mo_reach 97 = .ok (.invokevirtual 360, 3) := by decide +kernel
theorem d_Mo_reach_100 : decode c_Mo_reach 100 = .ok (.iinc 2 1, 3) := by decide +kernel
theorem d_Mo_reach_103 : decode c_Mo_reach 103 = .ok (.goto (-21), 3) := by decide +kernel
theorem d_Mo_reach_106 : decode c_Mo_reach 106 = .ok (.aload_n 0, 1) := by decide +kernel
theorem d_Mo_reach_107 : decode c_Mo_reach 107 = .ok (.iload_n 1, 1) := by decide +kernel
theorem d_Mo_reach_108 : decode c_Mo_reach 108 = .ok (.iconst 0, 1) := by decide +kernel
theorem d_Mo_reach_109 : decode c_Mo_reach 109 = .ok (.invokevirtual 374, 3) := by decide +kernel
theorem d_Mo_reach_112 : decode c_Mo_reach 112 = .ok (.iload_n 1, 1) := by decide +kernel
theorem d_Mo_reach_113 : decode c_Mo_reach 113 = .ok (.istore_n 2, 1) := by decide +kernel
theorem d_Mo_reach_114 : decode c_Mo_reach 114 = .ok (.iload_n 2, 1) := by decide +kernel
theorem d_Mo_reach_115 : decode c_Mo_reach 115 = .ok (.ifCond .lt 46, 3) := by decide +kernel
theorem d_Mo_reach_118 : decode c_Mo_reach 118 = .ok (.aload_n 0, 1) := by decide +kernel
theorem d_Mo_reach_119 : decode c_Mo_reach 119 = .ok (.iload_n 2, 1) := by decide +kernel
theorem d_Mo_reach_120 : decode c_Mo_reach 120 = .ok (.iconst 1, 1) := by decide +kernel
theorem d_Mo_reach_121 : decode c_Mo_reach 121 = .ok (.invokevirtual 377, 3) := by decide +kernel
theorem d_Mo_reach_124 : decode c_Mo_reach 124 = .ok (.istore_n 3, 1) := by decide +kernel
theorem d_Mo_reach_125 : decode c_Mo_reach 125 = .ok (.iload_n 3, 1) := by decide +kernel
theorem d_Mo_reach_126 : decode c_Mo_reach 126 = .ok (.ifCond .ge 5, 3) := by decide +kernel
theorem d_Mo_reach_129 : decode c_Mo_reach 129 = .ok (.iconst 0, 1) := by decide +kernel
theorem d_Mo_reach_130 : decode c_Mo_reach 130 = .ok (.ireturn, 1) := by decide +kernel
theorem d_Mo_reach_131 : decode c_Mo_reach 131 = .ok (.aload_n 0, 1) := by decide +kernel
theorem d_Mo_reach_132 : decode c_Mo_reach 132 = .ok (.iload_n 3, 1) := by decide +kernel
theorem d_Mo_reach_133 : decode c_Mo_reach 133 = .ok (.invokevirtual 380, 3) := by decide +kernel
theorem d_Mo_reach_136 : decode c_Mo_reach 136 = .ok (.istore 4, 2) := by decide +kernel
theorem d_Mo_reach_138 : decode c_Mo_reach 138 = .ok (.aload_n 0, 1) := by decide +kernel
theorem d_Mo_reach_139 : decode c_Mo_reach 139 = .ok (.iload 4, 2) := by decide +kernel
theorem d_Mo_reach_141 : decode c_Mo_reach 141 = .ok (.iload_n 3, 1) := by decide +kernel
theorem d_Mo_reach_142 : decode c_Mo_reach 142 = .ok (.invokevirtual 374, 3) := by decide +kernel
theorem d_Mo_reach_145 : decode c_Mo_reach 145 = .ok (.iload 4, 2) := by decide +kernel
theorem d_Mo_reach_147 : decode c_Mo_reach 147 = .ok (.iload_n 2, 1) := by decide +kernel
theorem d_Mo_reach_148 : decode c_Mo_reach 148 = .ok (.if_icmp .ne 10, 3) := by decide +kernel
theorem d_Mo_reach_151 : decode c_Mo_reach 151 = .ok (.iconst (-1), 1) := by decide +kernel
theorem d_Mo_reach_152 : decode c_Mo_reach 152 = .ok (.istore_n 2, 1) := by decide +kernel
theorem d_Mo_reach_153 : decode c_Mo_reach 153 = .ok (.aload_n 0, 1) := by decide +kernel
theorem d_Mo_reach_154 : decode c_Mo_reach 154 = .ok (.iload_n 3, 1) := by decide +kernel
theorem d_Mo_reach_155 : decode c_Mo_reach 155 = .ok (.putfield 364, 3) := by decide +kernel
theorem d_Mo_reach_158 : decode c_Mo_reach 158 = .ok (.goto (-44), 3) := by decide +kernel
theorem d_Mo_reach_161 : decode c_Mo_reach 161 = .ok (.iconst 1, 1) := by decide +kernel
theorem d_Mo_reach_162 : decode c_Mo_reach 162 = .ok (.ireturn, 1) := by decide +kernel
set_option maxRecDepth 100000 in
set_option maxHeartbeats 16000000 in
/-- reach() -/
theorem g_Mo_reach (l : Launch) (G : va_G) (k : Nat → ClassId) (h0 : Nat) (s0 : Nat) (un : Nat) (rows : Nat) (fst : Nat) (tk9 : Nat) (ma : Nat → Nat) (iv : Nat → Int32) (co : Int64) (sm : Nat → Int64) (dg : Nat → Nat) (sz : Nat → Nat) (bl : Nat → Nat) (O : Nat → Nat) (T2 : Nat → Nat) (qt : Nat → Nat) (Dv : Nat → Nat) (rn : Nat → Nat) (cn : Nat → Nat) (T : Nat → Int) (hT : tbO dg sz bl T) (hL : layO un rows 0 fst tk9 (fun i => (sm i).toInt) T) (hro : rows ≤ 90) (htk : tk9 ≤ 3) (hu : un ≤ 40) (hfs : fst + tk9 + 1 ≤ un) (hcn : ∀ j, j < un + 1 → cn j = j) (hrn : ∀ i, i < rows → rn i = un + 1 + i) (hsm : ∀ i, i < rows → dt_nm 41 (fun j => (sm (41 * i + j)).toInt) ≤ 65000) (dO : ∀ i, i < 170 → O i < 65536) (d2 : ∀ i, i < 170 → T2 i < 65536) (dQ : ∀ i, i < 170 → qt i < 65536) (dD : ∀ i, i < 170 → Dv i < 65536) : CI l y_Mo_reach c_Mo_reach 5 .boolean { frames := 6, cells := 0, slots := 0, locals := 217 } [.ref h0] G k s0 [(h0, .inr (8, moL ma (va_up (va_up (va_up (va_up iv 14 (nI un)) 24 (nI rows)) 25 (nI (tk9 + 2))) 28 (-1)) co)), ((ma 15), .inl (k 1, 3690, .inr (.inl sm))), ((ma 21), .inl (k 0, 319840, .inl (fun i => nI (dg i)))), ((ma 22), .inl (k 0, 3998, .inl (fun i => nI (sz i)))), ((ma 23), .inl (k 2, 3998, .inl (fun i => nI (bl i)))), ((ma 24), .inl (k 0, 170, .inl (fun i => nI (O i)))), ((ma 25), .inl (k 0, 170, .inl (fun i => nI (T2 i)))), ((ma 26), .inl (k 0, 170, .inl (fun i => nI (qt i)))), ((ma 27), .inl (k 0, 170, .inl (fun i => nI (Dv i)))), ((ma 28), .inl (k 0, 90, .inl (fun i => nI (rn i)))), ((ma 29), .inl (k 0, 41, .inl (fun i => nI (cn i))))] (fun (r : Int32) (u : (Nat → Nat → Nat) × (Nat → Int32) × Int32 × Nat) => r = nI u.2.2.2 ∧ u.2.2.2 ≤ 1 ∧ (∃ T9, tbO (u.1 0) (u.1 1) (u.1 2) T9 ∧ T9 3994 = T 3994 ∧ (u.2.2.2 = 1 → ∃ h9 gn, h9 ≤ 1 ∧ tabI un rows (rows + (tk9 + 2)) (rfF un rows h9 fst tk9 (fun i => (sm i).toInt)) (u.1 8) (u.1 7) T9 ∧ ∀ j, j ≤ 40 → (nI j = u.2.2.1 ↔ j = gn))) ∧ (∀ i, i < 170 → u.1 3 i < 65536) ∧ (∀ i, i < 170 → u.1 4 i < 65536) ∧ (∀ i, i < 170 → u.1 5 i < 65536) ∧ (∀ i, i < 170 → u.1 6 i < 65536)) (fun u => [(h0, .inr (8, moL ma (va_up (va_up (va_up (va_up (va_up (va_up (va_up (va_up (va_up iv 14 (nI un)) 24 (nI rows)) 25 (nI (tk9 + 2))) 28 u.2.2.1) 19 (u.2.1 0)) 20 (u.2.1 1)) 21 (u.2.1 2)) 22 (u.2.1 3)) 23 (u.2.1 4)) co)), ((ma 15), .inl (k 1, 3690, .inr (.inl sm))), ((ma 21), .inl (k 0, 319840, .inl (fun i => nI (u.1 0 i)))), ((ma 22), .inl (k 0, 3998, .inl (fun i => nI (u.1 1 i)))), ((ma 23), .inl (k 2, 3998, .inl (fun i => nI (u.1 2 i)))), ((ma 24), .inl (k 0, 170, .inl (fun i => nI (u.1 3 i)))), ((ma 25), .inl (k 0, 170, .inl (fun i => nI (u.1 4 i)))), ((ma 26), .inl (k 0, 170, .inl (fun i => nI (u.1 5 i)))), ((ma 27), .inl (k 0, 170, .inl (fun i => nI (u.1 6 i)))), ((ma 28), .inl (k 0, 90, .inl (fun i => nI (u.1 7 i)))), ((ma 29), .inl (k 0, 41, .inl (fun i => nI (u.1 8 i))))]) 0 0 := by
  refine met_start (by decide) (Nat.le_of_ble_eq_true rfl) ?_
  intro p e s m below meth c C K hA hsz S ls hl
  generalize va_A [(h0, .inr (8, moL ma (va_up (va_up (va_up (va_up iv 14 (nI un)) 24 (nI rows)) 25 (nI (tk9 + 2))) 28 (-1)) co)), ((ma 15), .inl (k 1, 3690, .inr (.inl sm))), ((ma 21), .inl (k 0, 319840, .inl (fun i => nI (dg i)))), ((ma 22), .inl (k 0, 3998, .inl (fun i => nI (sz i)))), ((ma 23), .inl (k 2, 3998, .inl (fun i => nI (bl i)))), ((ma 24), .inl (k 0, 170, .inl (fun i => nI (O i)))), ((ma 25), .inl (k 0, 170, .inl (fun i => nI (T2 i)))), ((ma 26), .inl (k 0, 170, .inl (fun i => nI (qt i)))), ((ma 27), .inl (k 0, 170, .inl (fun i => nI (Dv i)))), ((ma 28), .inl (k 0, 90, .inl (fun i => nI (rn i)))), ((ma 29), .inl (k 0, 41, .inl (fun i => nI (cn i))))] s0 = A at hA S ⊢
  have hx := C.1
  have hb := C.2.1
  have hl : lv_has ls 5 [(0, .ref h0)] := hl
  refine lv_iconst (v := (-1)) hx hb d_Mo_reach_0 (by decide) ?_
  refine lv_istore_n (lv' := [(1, .int (-1)), (0, .ref h0)]) hx hb d_Mo_reach_1 rfl hl (by decide) rfl (fun ls hl => ?_)
  refine lv_iconst (v := 0) hx hb d_Mo_reach_2 (by decide) ?_
  refine lv_istore_n (lv' := [(2, .int 0), (1, .int (-1)), (0, .ref h0)]) hx hb d_Mo_reach_3 rfl hl (by decide) rfl (fun ls hl => ?_)
  have lp : ∀ d9, ∀ (ri : Nat), ∀ (b9 : Option Nat), (rows - ri) < d9 → (ri ≤ rows) → (woO (fun i => (sm i).toInt) ri b9) → ∀ (H : Heap) (locs : List Loc), Sw G A s.heap H locs [(h0, .inr (8, moL ma (va_up (va_up (va_up (va_up iv 14 (nI un)) 24 (nI rows)) 25 (nI (tk9 + 2))) 28 (-1)) co)), ((ma 15), .inl (k 1, 3690, .inr (.inl sm))), ((ma 21), .inl (k 0, 319840, .inl (fun i => nI (dg i)))), ((ma 22), .inl (k 0, 3998, .inl (fun i => nI (sz i)))), ((ma 23), .inl (k 2, 3998, .inl (fun i => nI (bl i)))), ((ma 24), .inl (k 0, 170, .inl (fun i => nI (O i)))), ((ma 25), .inl (k 0, 170, .inl (fun i => nI (T2 i)))), ((ma 26), .inl (k 0, 170, .inl (fun i => nI (qt i)))), ((ma 27), .inl (k 0, 170, .inl (fun i => nI (Dv i)))), ((ma 28), .inl (k 0, 90, .inl (fun i => nI (rn i)))), ((ma 29), .inl (k 0, 41, .inl (fun i => nI (cn i))))] → ∀ ls : Array Slot, lv_has ls 5 [(2, .int (nI ri)), (1, .int (bI b9)), (0, .ref h0)] → W p l e { frames := 6, cells := 0, slots := 0, locals := 217 } s m [Value.ref h0].toArray below meth c H locs 0 0 (MQ below (va_Qi (fun (r : Int32) (u : (Nat → Nat → Nat) × (Nat → Int32) × Int32 × Nat) => r = nI u.2.2.2 ∧ u.2.2.2 ≤ 1 ∧ (∃ T9, tbO (u.1 0) (u.1 1) (u.1 2) T9 ∧ T9 3994 = T 3994 ∧ (u.2.2.2 = 1 → ∃ h9 gn, h9 ≤ 1 ∧ tabI un rows (rows + (tk9 + 2)) (rfF un rows h9 fst tk9 (fun i => (sm i).toInt)) (u.1 8) (u.1 7) T9 ∧ ∀ j, j ≤ 40 → (nI j = u.2.2.1 ↔ j = gn))) ∧ (∀ i, i < 170 → u.1 3 i < 65536) ∧ (∀ i, i < 170 → u.1 4 i < 65536) ∧ (∀ i, i < 170 → u.1 5 i < 65536) ∧ (∀ i, i < 170 → u.1 6 i < 65536)) (Po G k A (fun u => [(h0, .inr (8, moL ma (va_up (va_up (va_up (va_up (va_up (va_up (va_up (va_up (va_up iv 14 (nI un)) 24 (nI rows)) 25 (nI (tk9 + 2))) 28 u.2.2.1) 19 (u.2.1 0)) 20 (u.2.1 1)) 21 (u.2.1 2)) 22 (u.2.1 3)) 23 (u.2.1 4)) co)), ((ma 15), .inl (k 1, 3690, .inr (.inl sm))), ((ma 21), .inl (k 0, 319840, .inl (fun i => nI (u.1 0 i)))), ((ma 22), .inl (k 0, 3998, .inl (fun i => nI (u.1 1 i)))), ((ma 23), .inl (k 2, 3998, .inl (fun i => nI (u.1 2 i)))), ((ma 24), .inl (k 0, 170, .inl (fun i => nI (u.1 3 i)))), ((ma 25), .inl (k 0, 170, .inl (fun i => nI (u.1 4 i)))), ((ma 26), .inl (k 0, 170, .inl (fun i => nI (u.1 5 i)))), ((ma 27), .inl (k 0, 170, .inl (fun i => nI (u.1 6 i)))), ((ma 28), .inl (k 0, 90, .inl (fun i => nI (u.1 7 i)))), ((ma 29), .inl (k 0, 41, .inl (fun i => nI (u.1 8 i))))])) A) [Value.ref h0].toArray s 0 0 A) (F0 m 4 ls []) := by
    intro d9
    induction d9 with
    | zero => intro ri b9 hm; exact absurd hm (Nat.not_lt_zero _)
    | succ d9 ih_lp =>
      intro ri b9 hm hri hB H locs S ls hl
      refine lv_iload_n hx hb d_Mo_reach_4 rfl (lv_at hl 0 rfl) ?_
      refine lv_aload_n hx hb d_Mo_reach_5 rfl (lv_at hl 2 rfl) ?_
      refine r_get C K S 0 rfl rfl clOk_Mo 53 (by decide) wf_Mo_333 (v := .int (nI rows)) rfl d_Mo_reach_6 ?_
      refine z_icmp_ge (a := ri) (b := rows) (tgt := 69) hx hb d_Mo_reach_9 (by decide) (by omega) (by omega) (fun hc1 => ?_) (fun hc1 => ?_)
      · have hB : woO (fun i => (sm i).toInt) rows b9 := (show ri = rows by omega) ▸ hB
        cases b9 with
        | none =>
          have hl : lv_has ls 5 [(2, .int (nI ri)), (1, .int (-1)), (0, .ref h0)] := hl
          refine lv_iload_n hx hb d_Mo_reach_69 rfl (lv_at hl 1 rfl) ?_
          refine lv_if_ge (tgt := 80) hx hb d_Mo_reach_70 (by decide) (fun hq => absurd hq (by decide)) (fun _ => ?_)
          refine lv_aload_n hx hb d_Mo_reach_73 rfl (lv_at hl 2 rfl) ?_
          refine lv_iconst (v := 0) hx hb d_Mo_reach_74 (by decide) ?_
          refine r_put C K S 0 rfl rfl clOk_Mo 59 (by decide) wf_Mo_364 rfl (ty := .int) (v := .int 0) (by decide +kernel) rfl rfl (Nat.le_of_ble_eq_true rfl) (fs' := moL ma (va_up (va_up (va_up (va_up iv 14 (nI un)) 24 (nI rows)) 25 (nI (tk9 + 2))) 28 0) co) (ws' := [(h0, .inr (8, moL ma (va_up (va_up (va_up (va_up iv 14 (nI un)) 24 (nI rows)) 25 (nI (tk9 + 2))) 28 0) co)), ((ma 15), .inl (k 1, 3690, .inr (.inl sm))), ((ma 21), .inl (k 0, 319840, .inl (fun i => nI (dg i)))), ((ma 22), .inl (k 0, 3998, .inl (fun i => nI (sz i)))), ((ma 23), .inl (k 2, 3998, .inl (fun i => nI (bl i)))), ((ma 24), .inl (k 0, 170, .inl (fun i => nI (O i)))), ((ma 25), .inl (k 0, 170, .inl (fun i => nI (T2 i)))), ((ma 26), .inl (k 0, 170, .inl (fun i => nI (qt i)))), ((ma 27), .inl (k 0, 170, .inl (fun i => nI (Dv i)))), ((ma 28), .inl (k 0, 90, .inl (fun i => nI (rn i)))), ((ma 29), .inl (k 0, 41, .inl (fun i => nI (cn i))))]) rfl rfl d_Mo_reach_75 (fun H locs S => ?_)
          refine lv_iconst (v := 1) hx hb d_Mo_reach_78 (by decide) ?_
          exact r_iret C K rfl (uz [dg, sz, bl, O, T2, qt, Dv, rn, cn], (fun j => iv (19 + j)), 0, 1) ⟨rfl, Nat.le_refl 1, ⟨T, hT, rfl, fun _ => ⟨0, 0, by omega, ⟨tabJ_first hu hfs hL hcn hrn, fun i hi => by rw [(hL.2.1 i hi).2.2]; have := hB i hi; omega⟩, fun j hj => gone0 hj⟩⟩, dO, d2, dQ, dD⟩ (S.sub [0, 1, 2, 3, 4, 5, 6, 7, 8, 9, 10] (by decide) rfl) d_Mo_reach_79 (Nat.le_of_ble_eq_true rfl) (Nat.le_of_ble_eq_true rfl)
        | some wr =>
          have hl : lv_has ls 5 [(2, .int (nI ri)), (1, .int (nI wr)), (0, .ref h0)] := hl
          have q1 := hB.1
          refine lv_iload_n hx hb d_Mo_reach_69 rfl (lv_at hl 1 rfl) ?_
          refine z_if_ge (a := wr) (tgt := 80) hx hb d_Mo_reach_70 (by decide) (by omega) ?_
          refine lv_iconst (v := 0) hx hb d_Mo_reach_80 (by decide) ?_
          refine lv_istore_n (lv' := [(2, .int 0), (1, .int (nI wr)), (0, .ref h0)]) hx hb d_Mo_reach_81 rfl hl (by decide) rfl (fun ls hl => ?_)
          have lq : ∀ d9, ∀ (ri : Nat), ∀ (D : Nat → Nat), ∀ (Z : Nat → Nat), ∀ (B : Nat → Nat), ∀ (T8 : Nat → Int), (rows - ri) < d9 → (ri ≤ rows) → (tbO D Z B T8) → (lyE un rows fst tk9 ri (fun i => (sm i).toInt) T8) → (T8 3994 = T 3994) → ∀ (H : Heap) (locs : List Loc), Sw G A s.heap H locs [(h0, .inr (8, moL ma (va_up (va_up (va_up (va_up iv 14 (nI un)) 24 (nI rows)) 25 (nI (tk9 + 2))) 28 (-1)) co)), ((ma 15), .inl (k 1, 3690, .inr (.inl sm))), ((ma 21), .inl (k 0, 319840, .inl (fun i => nI (D i)))), ((ma 22), .inl (k 0, 3998, .inl (fun i => nI (Z i)))), ((ma 23), .inl (k 2, 3998, .inl (fun i => nI (B i)))), ((ma 24), .inl (k 0, 170, .inl (fun i => nI (O i)))), ((ma 25), .inl (k 0, 170, .inl (fun i => nI (T2 i)))), ((ma 26), .inl (k 0, 170, .inl (fun i => nI (qt i)))), ((ma 27), .inl (k 0, 170, .inl (fun i => nI (Dv i)))), ((ma 28), .inl (k 0, 90, .inl (fun i => nI (rn i)))), ((ma 29), .inl (k 0, 41, .inl (fun i => nI (cn i))))] → ∀ ls : Array Slot, lv_has ls 5 [(2, .int (nI ri)), (1, .int (nI wr)), (0, .ref h0)] → W p l e { frames := 6, cells := 0, slots := 0, locals := 217 } s m [Value.ref h0].toArray below meth c H locs 0 0 (MQ below (va_Qi (fun (r : Int32) (u : (Nat → Nat → Nat) × (Nat → Int32) × Int32 × Nat) => r = nI u.2.2.2 ∧ u.2.2.2 ≤ 1 ∧ (∃ T9, tbO (u.1 0) (u.1 1) (u.1 2) T9 ∧ T9 3994 = T 3994 ∧ (u.2.2.2 = 1 → ∃ h9 gn, h9 ≤ 1 ∧ tabI un rows (rows + (tk9 + 2)) (rfF un rows h9 fst tk9 (fun i => (sm i).toInt)) (u.1 8) (u.1 7) T9 ∧ ∀ j, j ≤ 40 → (nI j = u.2.2.1 ↔ j = gn))) ∧ (∀ i, i < 170 → u.1 3 i < 65536) ∧ (∀ i, i < 170 → u.1 4 i < 65536) ∧ (∀ i, i < 170 → u.1 5 i < 65536) ∧ (∀ i, i < 170 → u.1 6 i < 65536)) (Po G k A (fun u => [(h0, .inr (8, moL ma (va_up (va_up (va_up (va_up (va_up (va_up (va_up (va_up (va_up iv 14 (nI un)) 24 (nI rows)) 25 (nI (tk9 + 2))) 28 u.2.2.1) 19 (u.2.1 0)) 20 (u.2.1 1)) 21 (u.2.1 2)) 22 (u.2.1 3)) 23 (u.2.1 4)) co)), ((ma 15), .inl (k 1, 3690, .inr (.inl sm))), ((ma 21), .inl (k 0, 319840, .inl (fun i => nI (u.1 0 i)))), ((ma 22), .inl (k 0, 3998, .inl (fun i => nI (u.1 1 i)))), ((ma 23), .inl (k 2, 3998, .inl (fun i => nI (u.1 2 i)))), ((ma 24), .inl (k 0, 170, .inl (fun i => nI (u.1 3 i)))), ((ma 25), .inl (k 0, 170, .inl (fun i => nI (u.1 4 i)))), ((ma 26), .inl (k 0, 170, .inl (fun i => nI (u.1 5 i)))), ((ma 27), .inl (k 0, 170, .inl (fun i => nI (u.1 6 i)))), ((ma 28), .inl (k 0, 90, .inl (fun i => nI (u.1 7 i)))), ((ma 29), .inl (k 0, 41, .inl (fun i => nI (u.1 8 i))))])) A) [Value.ref h0].toArray s 0 0 A) (F0 m 82 ls []) := by
            intro d9
            induction d9 with
            | zero => intro ri D Z B T8 hm; exact absurd hm (Nat.not_lt_zero _)
            | succ d9 ih_lq =>
              intro ri D Z B T8 hm hri hT3 hE h94 H locs S ls hl
              refine lv_iload_n hx hb d_Mo_reach_82 rfl (lv_at hl 0 rfl) ?_
              refine lv_aload_n hx hb d_Mo_reach_83 rfl (lv_at hl 2 rfl) ?_
              refine r_get C K S 0 rfl rfl clOk_Mo 53 (by decide) wf_Mo_333 (v := .int (nI rows)) rfl d_Mo_reach_84 ?_
              refine z_icmp_ge (a := ri) (b := rows) (tgt := 106) hx hb d_Mo_reach_87 (by decide) (by omega) (by omega) (fun hc2 => ?_) (fun hc2 => ?_)
              · have hL1 : layO un rows 1 fst tk9 (fun i => (sm i).toInt) T8 := lyE_1 ((show ri = rows by omega) ▸ hE)
                refine lv_aload_n hx hb d_Mo_reach_106 rfl (lv_at hl 2 rfl) ?_
                refine lv_iload_n hx hb d_Mo_reach_107 rfl (lv_at hl 1 rfl) ?_
                refine lv_iconst (v := 0) hx hb d_Mo_reach_108 (by decide) ?_
                have hJ := tabJ_first hu hfs hL1 hcn hrn
                have hFF : ∀ v, dt_nm (un + 2) (rfF un rows 1 fst tk9 (fun i => (sm i).toInt) v) ≤ 65535 := fun v => rfF_nm (sm := fun i => (sm i).toInt) hu (by omega) hsm v
                refine r_backv (wi := [(h0, .inr (8, moL ma (va_up (va_up (va_up (va_up iv 28 (-1)) 14 (nI un)) 24 (nI rows)) 25 (nI (tk9 + 2))) co)), ((ma 21), .inl (k 0, 319840, .inl (fun i => nI (D i)))), ((ma 22), .inl (k 0, 3998, .inl (fun i => nI (Z i)))), ((ma 23), .inl (k 2, 3998, .inl (fun i => nI (B i)))), ((ma 24), .inl (k 0, 170, .inl (fun i => nI (O i)))), ((ma 25), .inl (k 0, 170, .inl (fun i => nI (T2 i)))), ((ma 26), .inl (k 0, 170, .inl (fun i => nI (qt i)))), ((ma 27), .inl (k 0, 170, .inl (fun i => nI (Dv i)))), ((ma 28), .inl (k 0, 90, .inl (fun i => nI (rn i)))), ((ma 29), .inl (k 0, 41, .inl (fun i => nI (cn i))))]) (wr := [((ma 15), .inl (k 1, 3690, .inr (.inl sm)))]) S hA [0, 2, 3, 4, 5, 6, 7, 8, 9, 10] [1] rfl rfl (by decide) (by decide) (va_runV (As := [.int (nI wr), .int 0]) (rest := []) ⟨hx, hb, C.2.2.1, C.2.2.2.1, C.2.2.2.2.1⟩ (g_Mo_exchange l G k h0 _ wr 0 un rows (tk9 + 2) ma (va_up iv 28 (-1)) co D Z B O T2 qt Dv rn cn T8 hT3 q1 hro (by omega) (by omega) hu (by rw [hL1.1]; decide) (tabJ_exF hu (by omega) (by omega) hJ hFF) dO d2 dQ dD) (k_virt (n := 2) C wc_Mo_exchange rfl rfl wz_Mo wm_Mo_374 wn_Mo_exchange ws_Mo_exchange (by decide +kernel) ⟨(Nat.le_of_ble_eq_true rfl), (Nat.le_of_ble_eq_true rfl)⟩) (pr_nowV K S [0, 2, 3, 4, 5, 6, 7, 8, 9, 10] (by decide) rfl 0 rfl rfl) rfl rfl hl.1 rfl (lv_room (Nat.le_of_ble_eq_true rfl)) d_Mo_reach_109 ⟨(Nat.le_of_ble_eq_true rfl), (Nat.le_of_ble_eq_true rfl)⟩) (fun xu H locs hw3 S => ?_)
                have S : Sw G A s.heap _ _ [((ma 15), .inl (k 1, 3690, .inr (.inl sm))), (h0, .inr (8, moL ma (va_up (va_up (va_up (va_up (va_up (va_up (va_up (va_up (va_up iv 28 (-1)) 14 (nI un)) 24 (nI rows)) 25 (nI (tk9 + 2))) 19 (xu.2 0)) 20 (xu.2 1)) 21 (xu.2 2)) 22 (xu.2 3)) 23 (xu.2 4)) co)), ((ma 21), .inl (k 0, 319840, .inl (fun i => nI (xu.1 0 i)))), ((ma 22), .inl (k 0, 3998, .inl (fun i => nI (xu.1 1 i)))), ((ma 23), .inl (k 2, 3998, .inl (fun i => nI (xu.1 2 i)))), ((ma 24), .inl (k 0, 170, .inl (fun i => nI (xu.1 3 i)))), ((ma 25), .inl (k 0, 170, .inl (fun i => nI (xu.1 4 i)))), ((ma 26), .inl (k 0, 170, .inl (fun i => nI (xu.1 5 i)))), ((ma 27), .inl (k 0, 170, .inl (fun i => nI (xu.1 6 i)))), ((ma 28), .inl (k 0, 90, .inl (fun i => nI ((va_up rn wr (cn 0)) i)))), ((ma 29), .inl (k 0, 41, .inl (fun i => nI ((va_up cn 0 (rn wr)) i))))] := S
                obtain ⟨⟨W9, hW1, hW2⟩, a1, a2, a3, a4⟩ := hw3
                have hI0 := tabI_enter hu q1 (by omega) hJ hL1.1 (fun i hi => (hL1.2.1 i hi).1) ⟨by rw [(hL1.2.1 wr q1).2.2]; exact hB.2.1, fun i hi => by rw [(hL1.2.1 wr q1).2.2, (hL1.2.1 i hi).2.2]; exact hB.2.2 i hi⟩ hW2
                refine lv_iload_n hx hb d_Mo_reach_112 rfl (lv_at hl 1 rfl) ?_
                refine lv_istore_n (lv' := [(2, .int (nI wr)), (1, .int (nI wr)), (0, .ref h0)]) hx hb d_Mo_reach_113 rfl hl (by decide) rfl (fun ls hl => ?_)
                have lr : ∀ d9, ∀ (m9 : Nat), ∀ (D : Nat → Nat), ∀ (Z : Nat → Nat), ∀ (B : Nat → Nat), ∀ (O9 : Nat → Nat), ∀ (T9a : Nat → Nat), ∀ (Q9 : Nat → Nat), ∀ (V9 : Nat → Nat), ∀ (RN : Nat → Nat), ∀ (CN : Nat → Nat), ∀ (w : Nat → Int32), ∀ (T9 : Nat → Int), ((un + 1 + rows) ^ (un + 1) - m9) < d9 → (tbO D Z B T9) → (tabI un rows (rows + (tk9 + 2)) (rfF un rows 1 fst tk9 (fun i => (sm i).toInt)) CN RN T9) → (sxRun (un + 1) (rfF un rows 1 fst tk9 (fun i => (sm i).toInt)) rows 1 0 99 (un + 1 + rows) m9 CN RN) → (RN wr = 0) → (T9 3994 = T 3994) → (∀ i, i < 170 → O9 i < 65536) → (∀ i, i < 170 → T9a i < 65536) → (∀ i, i < 170 → Q9 i < 65536) → (∀ i, i < 170 → V9 i < 65536) → ∀ (H : Heap) (locs : List Loc), Sw G A s.heap H locs [(h0, .inr (8, moL ma (va_up (va_up (va_up (va_up (va_up (va_up (va_up (va_up (va_up iv 14 (nI un)) 24 (nI rows)) 25 (nI (tk9 + 2))) 28 (-1)) 19 (w 0)) 20 (w 1)) 21 (w 2)) 22 (w 3)) 23 (w 4)) co)), ((ma 15), .inl (k 1, 3690, .inr (.inl sm))), ((ma 21), .inl (k 0, 319840, .inl (fun i => nI (D i)))), ((ma 22), .inl (k 0, 3998, .inl (fun i => nI (Z i)))), ((ma 23), .inl (k 2, 3998, .inl (fun i => nI (B i)))), ((ma 24), .inl (k 0, 170, .inl (fun i => nI (O9 i)))), ((ma 25), .inl (k 0, 170, .inl (fun i => nI (T9a i)))), ((ma 26), .inl (k 0, 170, .inl (fun i => nI (Q9 i)))), ((ma 27), .inl (k 0, 170, .inl (fun i => nI (V9 i)))), ((ma 28), .inl (k 0, 90, .inl (fun i => nI (RN i)))), ((ma 29), .inl (k 0, 41, .inl (fun i => nI (CN i))))] → ∀ ls : Array Slot, lv_has ls 5 [(2, .int (nI wr)), (1, .int (nI wr)), (0, .ref h0)] → W p l e { frames := 6, cells := 0, slots := 0, locals := 217 } s m [Value.ref h0].toArray below meth c H locs 0 0 (MQ below (va_Qi (fun (r : Int32) (u : (Nat → Nat → Nat) × (Nat → Int32) × Int32 × Nat) => r = nI u.2.2.2 ∧ u.2.2.2 ≤ 1 ∧ (∃ T9, tbO (u.1 0) (u.1 1) (u.1 2) T9 ∧ T9 3994 = T 3994 ∧ (u.2.2.2 = 1 → ∃ h9 gn, h9 ≤ 1 ∧ tabI un rows (rows + (tk9 + 2)) (rfF un rows h9 fst tk9 (fun i => (sm i).toInt)) (u.1 8) (u.1 7) T9 ∧ ∀ j, j ≤ 40 → (nI j = u.2.2.1 ↔ j = gn))) ∧ (∀ i, i < 170 → u.1 3 i < 65536) ∧ (∀ i, i < 170 → u.1 4 i < 65536) ∧ (∀ i, i < 170 → u.1 5 i < 65536) ∧ (∀ i, i < 170 → u.1 6 i < 65536)) (Po G k A (fun u => [(h0, .inr (8, moL ma (va_up (va_up (va_up (va_up (va_up (va_up (va_up (va_up (va_up iv 14 (nI un)) 24 (nI rows)) 25 (nI (tk9 + 2))) 28 u.2.2.1) 19 (u.2.1 0)) 20 (u.2.1 1)) 21 (u.2.1 2)) 22 (u.2.1 3)) 23 (u.2.1 4)) co)), ((ma 15), .inl (k 1, 3690, .inr (.inl sm))), ((ma 21), .inl (k 0, 319840, .inl (fun i => nI (u.1 0 i)))), ((ma 22), .inl (k 0, 3998, .inl (fun i => nI (u.1 1 i)))), ((ma 23), .inl (k 2, 3998, .inl (fun i => nI (u.1 2 i)))), ((ma 24), .inl (k 0, 170, .inl (fun i => nI (u.1 3 i)))), ((ma 25), .inl (k 0, 170, .inl (fun i => nI (u.1 4 i)))), ((ma 26), .inl (k 0, 170, .inl (fun i => nI (u.1 5 i)))), ((ma 27), .inl (k 0, 170, .inl (fun i => nI (u.1 6 i)))), ((ma 28), .inl (k 0, 90, .inl (fun i => nI (u.1 7 i)))), ((ma 29), .inl (k 0, 41, .inl (fun i => nI (u.1 8 i))))])) A) [Value.ref h0].toArray s 0 0 A) (F0 m 114 ls []) := by
                  intro d9
                  induction d9 with
                  | zero => intro m9 D Z B O9 T9a Q9 V9 RN CN w T9 hm; exact absurd hm (Nat.not_lt_zero _)
                  | succ d9 ih_lr =>
                    intro m9 D Z B O9 T9a Q9 V9 RN CN w T9 hm hT2 hI2 hrun hz0 h942 e1 e2 e3 e4 H locs S ls hl
                    refine lv_iload_n hx hb d_Mo_reach_114 rfl (lv_at hl 0 rfl) ?_
                    refine z_if_lt (a := wr) (tgt := 161) hx hb d_Mo_reach_115 (by decide) (by omega) ?_
                    refine lv_aload_n hx hb d_Mo_reach_118 rfl (lv_at hl 2 rfl) ?_
                    refine lv_iload_n hx hb d_Mo_reach_119 rfl (lv_at hl 0 rfl) ?_
                    refine lv_iconst (v := 1) hx hb d_Mo_reach_120 (by decide) ?_
                    refine r_backi (wi := [(h0, .inr (8, moL ma (va_up (va_up (va_up (va_up (va_up (va_up (va_up (va_up (va_up iv 24 (nI rows)) 25 (nI (tk9 + 2))) 19 (w 0)) 20 (w 1)) 21 (w 2)) 22 (w 3)) 23 (w 4)) 14 (nI un)) 28 (-1)) co)), ((ma 22), .inl (k 0, 3998, .inl (fun i => nI (Z i)))), ((ma 23), .inl (k 2, 3998, .inl (fun i => nI (B i)))), ((ma 29), .inl (k 0, 41, .inl (fun i => nI (CN i))))]) (wr := [((ma 15), .inl (k 1, 3690, .inr (.inl sm))), ((ma 21), .inl (k 0, 319840, .inl (fun i => nI (D i)))), ((ma 24), .inl (k 0, 170, .inl (fun i => nI (O9 i)))), ((ma 25), .inl (k 0, 170, .inl (fun i => nI (T9a i)))), ((ma 26), .inl (k 0, 170, .inl (fun i => nI (Q9 i)))), ((ma 27), .inl (k 0, 170, .inl (fun i => nI (V9 i)))), ((ma 28), .inl (k 0, 90, .inl (fun i => nI (RN i))))]) S hA [0, 3, 4, 10] [1, 2, 5, 6, 7, 8, 9] rfl rfl (by decide) (by decide) (va_runV (As := [.int (nI wr), .int 1]) (rest := []) ⟨hx, hb, C.2.2.1, C.2.2.2.1, C.2.2.2.2.1⟩ (g_Mo_coming l G k h0 _ wr 1 un 99 (-1) ma (va_up (va_up (va_up (va_up (va_up (va_up (va_up iv 24 (nI rows)) 25 (nI (tk9 + 2))) 19 (w 0)) 20 (w 1)) 21 (w 2)) 22 (w 3)) 23 (w 4)) co D Z B CN T9 hT2 (by omega) (by omega) hu gone99 (tabJ_names hu hro hI2.1).1) (k_virt (n := 2) C wc_Mo_coming rfl rfl wz_Mo wm_Mo_377 wn_Mo_coming ws_Mo_coming (by decide +kernel) ⟨(Nat.le_of_ble_eq_true rfl), (Nat.le_of_ble_eq_true rfl)⟩) (pr_nowV K S [0, 3, 4, 10] (by decide) rfl 0 rfl rfl) rfl rfl hl.1 rfl (lv_room (Nat.le_of_ble_eq_true rfl)) d_Mo_reach_121 ⟨(Nat.le_of_ble_eq_true rfl), (Nat.le_of_ble_eq_true rfl)⟩) (fun r5 cb H locs hw4 S => ?_)
                    have S : Sw G A s.heap _ _ [((ma 15), .inl (k 1, 3690, .inr (.inl sm))), ((ma 21), .inl (k 0, 319840, .inl (fun i => nI (D i)))), ((ma 24), .inl (k 0, 170, .inl (fun i => nI (O9 i)))), ((ma 25), .inl (k 0, 170, .inl (fun i => nI (T9a i)))), ((ma 26), .inl (k 0, 170, .inl (fun i => nI (Q9 i)))), ((ma 27), .inl (k 0, 170, .inl (fun i => nI (V9 i)))), ((ma 28), .inl (k 0, 90, .inl (fun i => nI (RN i)))), (h0, .inr (8, moL ma (va_up (va_up (va_up (va_up (va_up (va_up (va_up (va_up (va_up iv 24 (nI rows)) 25 (nI (tk9 + 2))) 19 (w 0)) 20 (w 1)) 21 (w 2)) 22 (w 3)) 23 (w 4)) 14 (nI un)) 28 (-1)) co)), ((ma 22), .inl (k 0, 3998, .inl (fun i => nI (Z i)))), ((ma 23), .inl (k 2, 3998, .inl (fun i => nI (B i)))), ((ma 29), .inl (k 0, 41, .inl (fun i => nI (CN i))))] := S
                    obtain ⟨hw40, hcb⟩ := hw4
                    obtain rfl : r5 = bI cb := hw40
                    refine lv_istore_n (lv' := [(3, .int (bI cb)), (2, .int (nI wr)), (1, .int (nI wr)), (0, .ref h0)]) hx hb d_Mo_reach_124 rfl hl (by decide) rfl (fun ls hl => ?_)
                    cases hcq : cb with
                    | none =>
                      rw [hcq] at hcb hl
                      have hl : lv_has ls 5 [(3, .int (-1)), (2, .int (nI wr)), (1, .int (nI wr)), (0, .ref h0)] := hl
                      refine lv_iload_n hx hb d_Mo_reach_125 rfl (lv_at hl 0 rfl) ?_
                      refine lv_if_ge (tgt := 131) hx hb d_Mo_reach_126 (by decide) (fun hq => absurd hq (by decide)) (fun _ => ?_)
                      refine lv_iconst (v := 0) hx hb d_Mo_reach_129 (by decide) ?_
                      exact r_iret C K rfl (uz [D, Z, B, O9, T9a, Q9, V9, RN, CN], w, (-1), 0) ⟨rfl, Nat.zero_le 1, ⟨T9, hT2, h942, fun q => absurd (show 0 = 1 from q) (by decide)⟩, e1, e2, e3, e4⟩ (S.sub [7, 0, 1, 8, 9, 2, 3, 4, 5, 6, 10] (by decide) rfl) d_Mo_reach_130 (Nat.le_of_ble_eq_true rfl) (Nat.le_of_ble_eq_true rfl)
                    | some sb =>
                      rw [hcq] at hcb hl
                      have hl : lv_has ls 5 [(3, .int (nI sb)), (2, .int (nI wr)), (1, .int (nI wr)), (0, .ref h0)] := hl
                      have hsb := hcb.1
                      have hlt := sxRun_lt hrun
                      have hng : T9 (42 * wr + sb) < 0 := sxN_1 hcb.2.2.1
                      have hnm := tabJ_names hu hro hI2.1
                      refine lv_iload_n hx hb d_Mo_reach_125 rfl (lv_at hl 0 rfl) ?_
                      refine z_if_ge (a := sb) (tgt := 131) hx hb d_Mo_reach_126 (by decide) (by omega) ?_
                      refine lv_aload_n hx hb d_Mo_reach_131 rfl (lv_at hl 3 rfl) ?_
                      refine lv_iload_n hx hb d_Mo_reach_132 rfl (lv_at hl 0 rfl) ?_
                      refine r_backi (wi := [(h0, .inr (8, moL ma (va_up (va_up (va_up (va_up (va_up (va_up (va_up (va_up (va_up iv 25 (nI (tk9 + 2))) 19 (w 0)) 20 (w 1)) 21 (w 2)) 22 (w 3)) 23 (w 4)) 14 (nI un)) 28 (-1)) 24 (nI rows)) co)), ((ma 21), .inl (k 0, 319840, .inl (fun i => nI (D i)))), ((ma 22), .inl (k 0, 3998, .inl (fun i => nI (Z i)))), ((ma 23), .inl (k 2, 3998, .inl (fun i => nI (B i)))), ((ma 24), .inl (k 0, 170, .inl (fun i => nI (O9 i)))), ((ma 25), .inl (k 0, 170, .inl (fun i => nI (T9a i)))), ((ma 28), .inl (k 0, 90, .inl (fun i => nI (RN i))))]) (wr := [((ma 15), .inl (k 1, 3690, .inr (.inl sm))), ((ma 26), .inl (k 0, 170, .inl (fun i => nI (Q9 i)))), ((ma 27), .inl (k 0, 170, .inl (fun i => nI (V9 i)))), ((ma 29), .inl (k 0, 41, .inl (fun i => nI (CN i))))]) S hA [7, 1, 8, 9, 2, 3, 6] [0, 4, 5, 10] rfl rfl (by decide) (by decide) (va_runV (As := [.int (nI sb)]) (rest := []) ⟨hx, hb, C.2.2.1, C.2.2.2.1, C.2.2.2.2.1⟩ (g_Mo_giving l G k h0 _ sb rows ma (va_up (va_up (va_up (va_up (va_up (va_up (va_up (va_up iv 25 (nI (tk9 + 2))) 19 (w 0)) 20 (w 1)) 21 (w 2)) 22 (w 3)) 23 (w 4)) 14 (nI un)) 28 (-1)) co D Z B O9 T9a RN T9 hT2 (by omega) hro hI2.2 hnm.2.1 e1 e2) (k_virt (n := 1) C wc_Mo_giving rfl rfl wz_Mo wm_Mo_380 wn_Mo_giving ws_Mo_giving (by decide +kernel) ⟨(Nat.le_of_ble_eq_true rfl), (Nat.le_of_ble_eq_true rfl)⟩) (pr_nowV K S [7, 1, 8, 9, 2, 3, 6] (by decide) rfl 7 rfl rfl) rfl rfl hl.1 rfl (lv_room (Nat.le_of_ble_eq_true rfl)) d_Mo_reach_133 ⟨(Nat.le_of_ble_eq_true rfl), (Nat.le_of_ble_eq_true rfl)⟩) (fun r7 gu H locs hw6 S => ?_)
                      have S : Sw G A s.heap _ _ [((ma 15), .inl (k 1, 3690, .inr (.inl sm))), ((ma 26), .inl (k 0, 170, .inl (fun i => nI (Q9 i)))), ((ma 27), .inl (k 0, 170, .inl (fun i => nI (V9 i)))), ((ma 29), .inl (k 0, 41, .inl (fun i => nI (CN i)))), (h0, .inr (8, moL ma (va_up (va_up (va_up (va_up (va_up (va_up (va_up (va_up (va_up iv 25 (nI (tk9 + 2))) 21 (w 2)) 22 (w 3)) 23 (w 4)) 14 (nI un)) 28 (-1)) 24 (nI rows)) 19 (gu.2.1 0)) 20 (gu.2.1 1)) co)), ((ma 21), .inl (k 0, 319840, .inl (fun i => nI (D i)))), ((ma 22), .inl (k 0, 3998, .inl (fun i => nI (Z i)))), ((ma 23), .inl (k 2, 3998, .inl (fun i => nI (B i)))), ((ma 24), .inl (k 0, 170, .inl (fun i => nI (gu.1 0 i)))), ((ma 25), .inl (k 0, 170, .inl (fun i => nI (gu.1 1 i)))), ((ma 28), .inl (k 0, 90, .inl (fun i => nI (RN i))))] := S
                      obtain ⟨hw60, hgu⟩ := hw6
                      obtain rfl : r7 = bI gu.2.2 := hw60
                      obtain ⟨r9, hge, hr9⟩ := gv_some hgu.1 ⟨wr, q1, hng⟩
                      rw [show bI gu.2.2 = nI r9 from congrArg bI hge]
                      have hgv : gvO T9 RN sb rows (some r9) := hge ▸ hgu.1
                      refine lv_istore (lv' := [(4, .int (nI r9)), (3, .int (nI sb)), (2, .int (nI wr)), (1, .int (nI wr)), (0, .ref h0)]) hx hb d_Mo_reach_136 hl (by decide) rfl (fun ls hl => ?_)
                      refine lv_aload_n hx hb d_Mo_reach_138 rfl (lv_at hl 4 rfl) ?_
                      refine lv_iload hx hb d_Mo_reach_139 (lv_at hl 0 rfl) ?_
                      refine lv_iload_n hx hb d_Mo_reach_141 rfl (lv_at hl 1 rfl) ?_
                      refine r_backv (wi := [(h0, .inr (8, moL ma (va_up (va_up (va_up (va_up (va_up (va_up (va_up (va_up (va_up iv 21 (w 2)) 22 (w 3)) 23 (w 4)) 28 (-1)) 19 (gu.2.1 0)) 20 (gu.2.1 1)) 14 (nI un)) 24 (nI rows)) 25 (nI (tk9 + 2))) co)), ((ma 21), .inl (k 0, 319840, .inl (fun i => nI (D i)))), ((ma 22), .inl (k 0, 3998, .inl (fun i => nI (Z i)))), ((ma 23), .inl (k 2, 3998, .inl (fun i => nI (B i)))), ((ma 24), .inl (k 0, 170, .inl (fun i => nI (gu.1 0 i)))), ((ma 25), .inl (k 0, 170, .inl (fun i => nI (gu.1 1 i)))), ((ma 26), .inl (k 0, 170, .inl (fun i => nI (Q9 i)))), ((ma 27), .inl (k 0, 170, .inl (fun i => nI (V9 i)))), ((ma 28), .inl (k 0, 90, .inl (fun i => nI (RN i)))), ((ma 29), .inl (k 0, 41, .inl (fun i => nI (CN i))))]) (wr := [((ma 15), .inl (k 1, 3690, .inr (.inl sm)))]) S hA [4, 5, 6, 7, 8, 9, 1, 2, 10, 3] [0] rfl rfl (by decide) (by decide) (va_runV (As := [.int (nI r9), .int (nI sb)]) (rest := []) ⟨hx, hb, C.2.2.1, C.2.2.2.1, C.2.2.2.2.1⟩ (g_Mo_exchange l G k h0 _ r9 sb un rows (tk9 + 2) ma (va_up (va_up (va_up (va_up (va_up (va_up iv 21 (w 2)) 22 (w 3)) 23 (w 4)) 28 (-1)) 19 (gu.2.1 0)) 20 (gu.2.1 1)) co D Z B (gu.1 0) (gu.1 1) Q9 V9 RN CN T9 hT2 hr9 hro (by omega) (by omega) hu hnm.2.2 (tabJ_exF hu (by omega) (by omega) hI2.1 hFF) hgu.2.1 hgu.2.2 e3 e4) (k_virt (n := 2) C wc_Mo_exchange rfl rfl wz_Mo wm_Mo_374 wn_Mo_exchange ws_Mo_exchange (by decide +kernel) ⟨(Nat.le_of_ble_eq_true rfl), (Nat.le_of_ble_eq_true rfl)⟩) (pr_nowV K S [4, 5, 6, 7, 8, 9, 1, 2, 10, 3] (by decide) rfl 4 rfl rfl) rfl rfl hl.1 rfl (lv_room (Nat.le_of_ble_eq_true rfl)) d_Mo_reach_142 ⟨(Nat.le_of_ble_eq_true rfl), (Nat.le_of_ble_eq_true rfl)⟩) (fun yu H locs hw8 S => ?_)
                      have S : Sw G A s.heap _ _ [((ma 15), .inl (k 1, 3690, .inr (.inl sm))), (h0, .inr (8, moL ma (va_up (va_up (va_up (va_up (va_up (va_up (va_up (va_up (va_up iv 28 (-1)) 14 (nI un)) 24 (nI rows)) 25 (nI (tk9 + 2))) 19 (yu.2 0)) 20 (yu.2 1)) 21 (yu.2 2)) 22 (yu.2 3)) 23 (yu.2 4)) co)), ((ma 21), .inl (k 0, 319840, .inl (fun i => nI (yu.1 0 i)))), ((ma 22), .inl (k 0, 3998, .inl (fun i => nI (yu.1 1 i)))), ((ma 23), .inl (k 2, 3998, .inl (fun i => nI (yu.1 2 i)))), ((ma 24), .inl (k 0, 170, .inl (fun i => nI (yu.1 3 i)))), ((ma 25), .inl (k 0, 170, .inl (fun i => nI (yu.1 4 i)))), ((ma 26), .inl (k 0, 170, .inl (fun i => nI (yu.1 5 i)))), ((ma 27), .inl (k 0, 170, .inl (fun i => nI (yu.1 6 i)))), ((ma 28), .inl (k 0, 90, .inl (fun i => nI ((va_up RN r9 (CN sb)) i)))), ((ma 29), .inl (k 0, 41, .inl (fun i => nI ((va_up CN sb (RN r9)) i))))] := S
                      obtain ⟨⟨W8, hV1, hV2⟩, b1, b2, b3, b4⟩ := hw8
                      have hI3 := tabI_next hu (by omega) hr9 (by omega) hI2 hgv hV2
                      have hrun3 := tabI_run (K := 1) (A := 0) (gone := 99) (from9 := wr) hu (by omega) hr9 (by omega) hI2 hgv hcb (fun q hq => ⟨by omega, by unfold nmR; rw [if_pos (by omega), show wr + q = wr by omega, hz0]; omega⟩) hV2 hrun
                      have h95 : W8 3994 = T 3994 := by rw [hV2.2.2.2.2.2 3994 (by omega) (by omega)]; exact h942
                      refine lv_iload hx hb d_Mo_reach_145 (lv_at hl 0 rfl) ?_
                      refine lv_iload_n hx hb d_Mo_reach_147 rfl (lv_at hl 2 rfl) ?_
                      refine z_icmp_ne (a := r9) (b := wr) (tgt := 158) hx hb d_Mo_reach_148 (by decide) (by omega) (by omega) (fun hc9 => ?_) (fun hc9 => ?_)
                      · refine lv_goto (tgt := 114) hx hb d_Mo_reach_158 (by decide) ?_
                        exact ih_lr (m9 + 1) (yu.1 0) (yu.1 1) (yu.1 2) (yu.1 3) (yu.1 4) (yu.1 5) (yu.1 6) (va_up RN r9 (CN sb)) (va_up CN sb (RN r9)) yu.2 W8 (by have := bd_m hlt; omega) hV1 hI3 hrun3 (by rw [va_up_ne _ _ (by omega)]; exact hz0) h95 b1 b2 b3 b4 _ _ (S.sub [1, 0, 2, 3, 4, 5, 6, 7, 8, 9, 10] (by decide) rfl) ls (lv_sub hl [2, 3, 4] rfl)
                      · refine lv_iconst (v := (-1)) hx hb d_Mo_reach_151 (by decide) ?_
                        refine lv_istore_n (lv' := [(2, .int (-1)), (4, .int (nI r9)), (3, .int (nI sb)), (1, .int (nI wr)), (0, .ref h0)]) hx hb d_Mo_reach_152 rfl hl (by decide) rfl (fun ls hl => ?_)
                        refine lv_aload_n hx hb d_Mo_reach_153 rfl (lv_at hl 4 rfl) ?_
                        refine lv_iload_n hx hb d_Mo_reach_154 rfl (lv_at hl 2 rfl) ?_
                        refine r_put C K S 1 rfl rfl clOk_Mo 59 (by decide) wf_Mo_364 rfl (ty := .int) (v := .int (nI sb)) (by decide +kernel) rfl rfl (Nat.le_of_ble_eq_true rfl) (fs' := moL ma (va_up (va_up (va_up (va_up (va_up (va_up (va_up (va_up (va_up iv 14 (nI un)) 24 (nI rows)) 25 (nI (tk9 + 2))) 19 (yu.2 0)) 20 (yu.2 1)) 21 (yu.2 2)) 22 (yu.2 3)) 23 (yu.2 4)) 28 (nI sb)) co) (ws' := [((ma 15), .inl (k 1, 3690, .inr (.inl sm))), (h0, .inr (8, moL ma (va_up (va_up (va_up (va_up (va_up (va_up (va_up (va_up (va_up iv 14 (nI un)) 24 (nI rows)) 25 (nI (tk9 + 2))) 19 (yu.2 0)) 20 (yu.2 1)) 21 (yu.2 2)) 22 (yu.2 3)) 23 (yu.2 4)) 28 (nI sb)) co)), ((ma 21), .inl (k 0, 319840, .inl (fun i => nI (yu.1 0 i)))), ((ma 22), .inl (k 0, 3998, .inl (fun i => nI (yu.1 1 i)))), ((ma 23), .inl (k 2, 3998, .inl (fun i => nI (yu.1 2 i)))), ((ma 24), .inl (k 0, 170, .inl (fun i => nI (yu.1 3 i)))), ((ma 25), .inl (k 0, 170, .inl (fun i => nI (yu.1 4 i)))), ((ma 26), .inl (k 0, 170, .inl (fun i => nI (yu.1 5 i)))), ((ma 27), .inl (k 0, 170, .inl (fun i => nI (yu.1 6 i)))), ((ma 28), .inl (k 0, 90, .inl (fun i => nI ((va_up RN r9 (CN sb)) i)))), ((ma 29), .inl (k 0, 41, .inl (fun i => nI ((va_up CN sb (RN r9)) i))))]) rfl rfl d_Mo_reach_155 (fun H locs S => ?_)
                        refine lv_goto (tgt := 114) hx hb d_Mo_reach_158 (by decide) ?_
                        refine lv_iload_n hx hb d_Mo_reach_114 rfl (lv_at hl 0 rfl) ?_
                        refine lv_if_lt (tgt := 161) hx hb d_Mo_reach_115 (by decide) (fun _ => ?_) (fun hq => absurd (by decide) hq)
                        refine lv_iconst (v := 1) hx hb d_Mo_reach_161 (by decide) ?_
                        exact r_iret C K rfl (uz [yu.1 0, yu.1 1, yu.1 2, yu.1 3, yu.1 4, yu.1 5, yu.1 6, va_up RN r9 (CN sb), va_up CN sb (RN r9)], yu.2, nI sb, 1) ⟨rfl, Nat.le_refl 1, ⟨W8, hV1, h95, fun _ => ⟨1, sb, by omega, hI3, fun j hj => gone_s hj (by omega)⟩⟩, b1, b2, b3, b4⟩ (S.sub [1, 0, 2, 3, 4, 5, 6, 7, 8, 9, 10] (by decide) rfl) d_Mo_reach_162 (Nat.le_of_ble_eq_true rfl) (Nat.le_of_ble_eq_true rfl)
                exact lr _ 0 (xu.1 0) (xu.1 1) (xu.1 2) (xu.1 3) (xu.1 4) (xu.1 5) (xu.1 6) (va_up rn wr (cn 0)) (va_up cn 0 (rn wr)) xu.2 W9 (Nat.lt_succ_self _) hW1 hI0 (tabI_start (by omega) hI0) (by rw [va_up_self]; exact hcn 0 (by omega)) (by rw [hW2.2.2.2.2.2 3994 (by omega) (by omega)]; exact h94) a1 a2 a3 a4 _ _ (S.sub [1, 0, 2, 3, 4, 5, 6, 7, 8, 9, 10] (by decide) rfl) ls (lv_sub hl [0, 1, 2] rfl)
              · refine lv_aload_n hx hb d_Mo_reach_90 rfl (lv_at hl 2 rfl) ?_
                refine lv_iload_n hx hb d_Mo_reach_91 rfl (lv_at hl 0 rfl) ?_
                refine lv_iconst (v := 0) hx hb d_Mo_reach_92 (by decide) ?_
                refine r_backi (wi := []) (wr := [(h0, .inr (8, moL ma (va_up (va_up (va_up (va_up iv 14 (nI un)) 24 (nI rows)) 25 (nI (tk9 + 2))) 28 (-1)) co)), ((ma 15), .inl (k 1, 3690, .inr (.inl sm))), ((ma 21), .inl (k 0, 319840, .inl (fun i => nI (D i)))), ((ma 22), .inl (k 0, 3998, .inl (fun i => nI (Z i)))), ((ma 23), .inl (k 2, 3998, .inl (fun i => nI (B i)))), ((ma 24), .inl (k 0, 170, .inl (fun i => nI (O i)))), ((ma 25), .inl (k 0, 170, .inl (fun i => nI (T2 i)))), ((ma 26), .inl (k 0, 170, .inl (fun i => nI (qt i)))), ((ma 27), .inl (k 0, 170, .inl (fun i => nI (Dv i)))), ((ma 28), .inl (k 0, 90, .inl (fun i => nI (rn i)))), ((ma 29), .inl (k 0, 41, .inl (fun i => nI (cn i))))]) S hA [] [0, 1, 2, 3, 4, 5, 6, 7, 8, 9, 10] rfl rfl (by decide) (by decide) (va_runS (As := [.int (nI ri), .int 0]) (rest := [.ref h0]) ⟨hx, hb, C.2.2.1, C.2.2.2.1, C.2.2.2.2.1⟩ (g_Mo_at l G k _ ri 0) (k_stat (n := 2) C wc_Mo_at rfl rfl wz_Mo wm_Mo_328 wt_Mo_at (by decide +kernel) ⟨(Nat.le_of_ble_eq_true rfl), (Nat.le_of_ble_eq_true rfl)⟩) (pr_now K S [] (by decide) rfl) rfl rfl hl.1 rfl (lv_room (Nat.le_of_ble_eq_true rfl)) d_Mo_reach_93 ⟨(Nat.le_of_ble_eq_true rfl), (Nat.le_of_ble_eq_true rfl)⟩) (fun r12 u10 H locs hw11 S => ?_)
                have S : Sw G A s.heap _ _ [(h0, .inr (8, moL ma (va_up (va_up (va_up (va_up iv 14 (nI un)) 24 (nI rows)) 25 (nI (tk9 + 2))) 28 (-1)) co)), ((ma 15), .inl (k 1, 3690, .inr (.inl sm))), ((ma 21), .inl (k 0, 319840, .inl (fun i => nI (D i)))), ((ma 22), .inl (k 0, 3998, .inl (fun i => nI (Z i)))), ((ma 23), .inl (k 2, 3998, .inl (fun i => nI (B i)))), ((ma 24), .inl (k 0, 170, .inl (fun i => nI (O i)))), ((ma 25), .inl (k 0, 170, .inl (fun i => nI (T2 i)))), ((ma 26), .inl (k 0, 170, .inl (fun i => nI (qt i)))), ((ma 27), .inl (k 0, 170, .inl (fun i => nI (Dv i)))), ((ma 28), .inl (k 0, 90, .inl (fun i => nI (rn i)))), ((ma 29), .inl (k 0, 41, .inl (fun i => nI (cn i))))] := S
                obtain rfl : r12 = nI (42 * ri + 0) := hw11
                refine lv_lconst (v := 1) hx hb d_Mo_reach_96 (by decide) ?_
                refine r_backv (wi := [(h0, .inr (8, moL ma (va_up (va_up (va_up (va_up iv 14 (nI un)) 24 (nI rows)) 25 (nI (tk9 + 2))) 28 (-1)) co)), ((ma 21), .inl (k 0, 319840, .inl (fun i => nI (D i)))), ((ma 22), .inl (k 0, 3998, .inl (fun i => nI (Z i)))), ((ma 23), .inl (k 2, 3998, .inl (fun i => nI (B i))))]) (wr := [((ma 15), .inl (k 1, 3690, .inr (.inl sm))), ((ma 24), .inl (k 0, 170, .inl (fun i => nI (O i)))), ((ma 25), .inl (k 0, 170, .inl (fun i => nI (T2 i)))), ((ma 26), .inl (k 0, 170, .inl (fun i => nI (qt i)))), ((ma 27), .inl (k 0, 170, .inl (fun i => nI (Dv i)))), ((ma 28), .inl (k 0, 90, .inl (fun i => nI (rn i)))), ((ma 29), .inl (k 0, 41, .inl (fun i => nI (cn i))))]) S hA [0, 2, 3, 4] [1, 5, 6, 7, 8, 9, 10] rfl rfl (by decide) (by decide) (va_runV (As := [.int (nI (42 * ri + 0)), .long 1]) (rest := []) ⟨hx, hb, C.2.2.1, C.2.2.2.1, C.2.2.2.2.1⟩ (g_Mo_putZ l G k h0 _ (42 * ri + 0) 1 ma (va_up (va_up (va_up (va_up iv 14 (nI un)) 24 (nI rows)) 25 (nI (tk9 + 2))) 28 (-1)) co D Z B T8 hT3 (by omega) (by decide)) (k_virt (n := 2) C wc_Mo_put rfl rfl wz_Mo wm_Mo_360 wn_Mo_put ws_Mo_put (by decide +kernel) ⟨(Nat.le_of_ble_eq_true rfl), (Nat.le_of_ble_eq_true rfl)⟩) (pr_nowV K S [0, 2, 3, 4] (by decide) rfl 0 rfl rfl) rfl rfl hl.1 rfl (lv_room (Nat.le_of_ble_eq_true rfl)) d_Mo_reach_97 ⟨(Nat.le_of_ble_eq_true rfl), (Nat.le_of_ble_eq_true rfl)⟩) (fun p9 H locs hw14 S => ?_)
                have S : Sw G A s.heap _ _ [((ma 15), .inl (k 1, 3690, .inr (.inl sm))), ((ma 24), .inl (k 0, 170, .inl (fun i => nI (O i)))), ((ma 25), .inl (k 0, 170, .inl (fun i => nI (T2 i)))), ((ma 26), .inl (k 0, 170, .inl (fun i => nI (qt i)))), ((ma 27), .inl (k 0, 170, .inl (fun i => nI (Dv i)))), ((ma 28), .inl (k 0, 90, .inl (fun i => nI (rn i)))), ((ma 29), .inl (k 0, 41, .inl (fun i => nI (cn i)))), (h0, .inr (8, moL ma (va_up (va_up (va_up (va_up iv 14 (nI un)) 24 (nI rows)) 25 (nI (tk9 + 2))) 28 (-1)) co)), ((ma 21), .inl (k 0, 319840, .inl (fun i => nI (p9.1 i)))), ((ma 22), .inl (k 0, 3998, .inl (fun i => nI (p9.2.1 i)))), ((ma 23), .inl (k 2, 3998, .inl (fun i => nI (p9.2.2 i))))] := S
                have hT_p9 : tbO p9.1 p9.2.1 p9.2.2 (va_up T8 (42 * ri + 0) 1) := by have h9 := hw14; rw [show (1 : Int64).toInt = 1 from by decide] at h9; exact h9
                refine lv_iinc (v := nI (ri + 1)) (lv' := [(2, .int (nI (ri + 1))), (1, .int (nI wr)), (0, .ref h0)]) hx hb d_Mo_reach_100 hl (k := 0) rfl (show nI ri + Int32.ofInt 1 = nI (ri + 1) from (nI_add ri 1).trans (congrArg nI (by omega))) (by decide) rfl (fun ls hl => ?_)
                refine lv_goto (tgt := 82) hx hb d_Mo_reach_103 (by decide) ?_
                exact ih_lq (ri + 1) p9.1 p9.2.1 p9.2.2 (va_up T8 (42 * ri + 0) 1) (by omega) (by omega) hT_p9 (lyE_s hu hro (by omega) hE) (by rw [va_up_ne _ _ (by omega)]; exact h94) _ _ (S.sub [7, 0, 8, 9, 10, 1, 2, 3, 4, 5, 6] (by decide) rfl) ls (lv_sub hl [0, 1, 2] rfl)
          exact lq _ 0 dg sz bl T (Nat.lt_succ_self _) (by omega) hT (lyE_0 hL) rfl _ _ (S.sub [0, 1, 2, 3, 4, 5, 6, 7, 8, 9, 10] (by decide) rfl) ls (lv_sub hl [0, 1, 2] rfl)
      · refine lv_aload_n hx hb d_Mo_reach_12 rfl (lv_at hl 2 rfl) ?_
        refine r_get C K S 0 rfl rfl clOk_Mo 33 (by decide) wf_Mo_64 (v := .ref (ma 15)) rfl d_Mo_reach_13 ?_
        refine lv_bipush (v := 41) hx hb d_Mo_reach_16 (by decide) ?_
        refine lv_iload_n hx hb d_Mo_reach_18 rfl (lv_at hl 0 rfl) ?_
        refine z_imul (x := 41) (y := nI ri) (v := nI (41 * ri)) hx hb d_Mo_reach_19 (pk_mul 41 ri) ?_
        refine lv_bipush (v := 40) hx hb d_Mo_reach_20 (by decide) ?_
        refine z_iadd (x := nI (41 * ri)) (y := 40) (v := nI (41 * ri + 40)) hx hb d_Mo_reach_22 (nI_add (41 * ri) 40) ?_
        refine r_lald C K S 1 rfl (i := nI (41 * ri + 40)) (show vp_in (nI (41 * ri + 40)) _ from vp_in_nI (n := (41 * ri + 40)) (by omega) (by decide)) (v := sm (41 * ri + 40)) (by rw [nI_clamp (by omega)]) d_Mo_reach_23 ?_
        refine lv_lconst (v := 0) hx hb d_Mo_reach_24 (by decide) ?_
        refine W.lcmp hx hb d_Mo_reach_25 ?_
        refine lv_if_ge (tgt := 63) hx hb d_Mo_reach_26 (by decide) (fun hc15 => ?_) (fun hc15 => ?_)
        · refine lv_iinc (v := nI (ri + 1)) (lv' := [(2, .int (nI (ri + 1))), (1, .int (bI b9)), (0, .ref h0)]) hx hb d_Mo_reach_63 hl (k := 0) rfl (show nI ri + Int32.ofInt 1 = nI (ri + 1) from (nI_add ri 1).trans (congrArg nI (by omega))) (by decide) rfl (fun ls hl => ?_)
          refine lv_goto (tgt := 4) hx hb d_Mo_reach_66 (by decide) ?_
          exact ih_lp (ri + 1) b9 (by omega) (by omega) (woO_no (z := (fun i => (sm i).toInt)) hB (lcg_nlt hc15)) _ _ (S.sub [0, 1, 2, 3, 4, 5, 6, 7, 8, 9, 10] (by decide) rfl) ls (lv_sub hl [0, 1, 2] rfl)
        · cases b9 with
          | none =>
            have hl : lv_has ls 5 [(2, .int (nI ri)), (1, .int (-1)), (0, .ref h0)] := hl
            refine lv_iload_n hx hb d_Mo_reach_29 rfl (lv_at hl 1 rfl) ?_
            refine lv_if_lt (tgt := 61) hx hb d_Mo_reach_30 (by decide) (fun _ => ?_) (fun hq => absurd (by decide) hq)
            refine lv_iload_n hx hb d_Mo_reach_61 rfl (lv_at hl 0 rfl) ?_
            refine lv_istore_n (lv' := [(1, .int (nI ri)), (2, .int (nI ri)), (0, .ref h0)]) hx hb d_Mo_reach_62 rfl hl (by decide) rfl (fun ls hl => ?_)
            refine lv_iinc (v := nI (ri + 1)) (lv' := [(2, .int (nI (ri + 1))), (1, .int (nI ri)), (0, .ref h0)]) hx hb d_Mo_reach_63 hl (k := 1) rfl (show nI ri + Int32.ofInt 1 = nI (ri + 1) from (nI_add ri 1).trans (congrArg nI (by omega))) (by decide) rfl (fun ls hl => ?_)
            refine lv_goto (tgt := 4) hx hb d_Mo_reach_66 (by decide) ?_
            exact ih_lp (ri + 1) (some ri) (by omega) (by omega) (woO_first (z := (fun i => (sm i).toInt)) hB (lcg_lt hc15)) _ _ (S.sub [0, 1, 2, 3, 4, 5, 6, 7, 8, 9, 10] (by decide) rfl) ls (lv_sub hl [0, 1, 2] rfl)
          | some wr =>
            have hl : lv_has ls 5 [(2, .int (nI ri)), (1, .int (nI wr)), (0, .ref h0)] := hl
            have q1 := hB.1
            refine lv_iload_n hx hb d_Mo_reach_29 rfl (lv_at hl 1 rfl) ?_
            refine z_if_lt (a := wr) (tgt := 61) hx hb d_Mo_reach_30 (by decide) (by omega) ?_
            refine lv_aload_n hx hb d_Mo_reach_33 rfl (lv_at hl 2 rfl) ?_
            refine r_get C K S 0 rfl rfl clOk_Mo 33 (by decide) wf_Mo_64 (v := .ref (ma 15)) rfl d_Mo_reach_34 ?_
            refine lv_bipush (v := 41) hx hb d_Mo_reach_37 (by decide) ?_
            refine lv_iload_n hx hb d_Mo_reach_39 rfl (lv_at hl 0 rfl) ?_
            refine z_imul (x := 41) (y := nI ri) (v := nI (41 * ri)) hx hb d_Mo_reach_40 (pk_mul 41 ri) ?_
            refine lv_bipush (v := 40) hx hb d_Mo_reach_41 (by decide) ?_
            refine z_iadd (x := nI (41 * ri)) (y := 40) (v := nI (41 * ri + 40)) hx hb d_Mo_reach_43 (nI_add (41 * ri) 40) ?_
            refine r_lald C K S 1 rfl (i := nI (41 * ri + 40)) (show vp_in (nI (41 * ri + 40)) _ from vp_in_nI (n := (41 * ri + 40)) (by omega) (by decide)) (v := sm (41 * ri + 40)) (by rw [nI_clamp (by omega)]) d_Mo_reach_44 ?_
            refine lv_aload_n hx hb d_Mo_reach_45 rfl (lv_at hl 2 rfl) ?_
            refine r_get C K S 0 rfl rfl clOk_Mo 33 (by decide) wf_Mo_64 (v := .ref (ma 15)) rfl d_Mo_reach_46 ?_
            refine lv_bipush (v := 41) hx hb d_Mo_reach_49 (by decide) ?_
            refine lv_iload_n hx hb d_Mo_reach_51 rfl (lv_at hl 1 rfl) ?_
            refine z_imul (x := 41) (y := nI wr) (v := nI (41 * wr)) hx hb d_Mo_reach_52 (pk_mul 41 wr) ?_
            refine lv_bipush (v := 40) hx hb d_Mo_reach_53 (by decide) ?_
            refine z_iadd (x := nI (41 * wr)) (y := 40) (v := nI (41 * wr + 40)) hx hb d_Mo_reach_55 (nI_add (41 * wr) 40) ?_
            refine r_lald C K S 1 rfl (i := nI (41 * wr + 40)) (show vp_in (nI (41 * wr + 40)) _ from vp_in_nI (n := (41 * wr + 40)) (by omega) (by decide)) (v := sm (41 * wr + 40)) (by rw [nI_clamp (by omega)]) d_Mo_reach_56 ?_
            refine W.lcmp hx hb d_Mo_reach_57 ?_
            refine lv_if_ge (tgt := 63) hx hb d_Mo_reach_58 (by decide) (fun hc16 => ?_) (fun hc16 => ?_)
            · refine lv_iinc (v := nI (ri + 1)) (lv' := [(2, .int (nI (ri + 1))), (1, .int (nI wr)), (0, .ref h0)]) hx hb d_Mo_reach_63 hl (k := 0) rfl (show nI ri + Int32.ofInt 1 = nI (ri + 1) from (nI_add ri 1).trans (congrArg nI (by omega))) (by decide) rfl (fun ls hl => ?_)
              refine lv_goto (tgt := 4) hx hb d_Mo_reach_66 (by decide) ?_
              exact ih_lp (ri + 1) (some wr) (by omega) (by omega) (woO_old (z := (fun i => (sm i).toInt)) hB (lcg_nlt hc16)) _ _ (S.sub [0, 1, 2, 3, 4, 5, 6, 7, 8, 9, 10] (by decide) rfl) ls (lv_sub hl [0, 1, 2] rfl)
            · refine lv_iload_n hx hb d_Mo_reach_61 rfl (lv_at hl 0 rfl) ?_
              refine lv_istore_n (lv' := [(1, .int (nI ri)), (2, .int (nI ri)), (0, .ref h0)]) hx hb d_Mo_reach_62 rfl hl (by decide) rfl (fun ls hl => ?_)
              refine lv_iinc (v := nI (ri + 1)) (lv' := [(2, .int (nI (ri + 1))), (1, .int (nI ri)), (0, .ref h0)]) hx hb d_Mo_reach_63 hl (k := 1) rfl (show nI ri + Int32.ofInt 1 = nI (ri + 1) from (nI_add ri 1).trans (congrArg nI (by omega))) (by decide) rfl (fun ls hl => ?_)
              refine lv_goto (tgt := 4) hx hb d_Mo_reach_66 (by decide) ?_
              exact ih_lp (ri + 1) (some ri) (by omega) (by omega) (woO_new (z := (fun i => (sm i).toInt)) hB (lcg_lt hc15) (lcg_lt hc16)) _ _ (S.sub [0, 1, 2, 3, 4, 5, 6, 7, 8, 9, 10] (by decide) rfl) ls (lv_sub hl [0, 1, 2] rfl)
  exact lp _ 0 none (Nat.lt_succ_self _) (by omega) (fun _ h => absurd h (Nat.not_lt_zero _)) _ _ (S.sub [0, 1, 2, 3, 4, 5, 6, 7, 8, 9, 10] (by decide) rfl) ls (lv_sub hl [0, 1, 2] rfl)
end
