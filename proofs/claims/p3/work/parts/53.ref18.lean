theorem lsub2 (a b c : Nat) : lN a - lN b - lN c = lN a - lN (b + c) := by
  rw [← lN_add]
  simp only [Int64.sub_eq_add_neg, Int64.neg_add, Int64.add_assoc]
theorem dg_shape {O Dv : Nat → Nat} {k9 n : Nat} (hn : 2 ≤ n) (hn8 : n ≤ 80) (hk : k9 + n ≤ 168) (dO : ∀ i, i < 170 → O i < 65536) (dD : ∀ i, i < 170 → Dv i < 65536) : ∃ P w z, 0 < P ∧ w < P ∧ z < P ∧ vl 65536 Dv n = (Dv (n - 1) * 65536 + Dv (n - 2)) * P + w ∧ vl 65536 (fun i => O (k9 + i)) (n + 1) = ((O (k9 + n) * 65536 + O (k9 + n - 1)) * 65536 + O (k9 + n - 2)) * P + z := by
  obtain ⟨m, rfl⟩ : ∃ m, n = m + 2 := ⟨n - 2, by omega⟩
  refine ⟨65536 ^ m, vl 65536 Dv m, vl 65536 (fun i => O (k9 + i)) m, Nat.pow_pos (by decide), vl_lt m (fun i hi => dD i (by omega)), vl_lt m (fun i hi => dO _ (by omega)), ?_, ?_⟩
  · rw [vl_s, vl_s, show m + 2 - 1 = m + 1 from rfl, show m + 2 - 2 = m from rfl, Nat.pow_succ, Nat.add_mul, Nat.mul_comm (65536 ^ m) 65536, ← Nat.mul_assoc]
    omega
  · rw [vl_s, vl_s, vl_s, show k9 + (m + 2) - 1 = k9 + (m + 1) from rfl, show k9 + (m + 2) - 2 = k9 + m from rfl]
    have e1 : O (k9 + (m + 1)) * 65536 ^ (m + 1) = O (k9 + (m + 1)) * 65536 * 65536 ^ m := by rw [Nat.pow_succ, Nat.mul_comm (65536 ^ m), ← Nat.mul_assoc]
    have e2 : O (k9 + (m + 2)) * 65536 ^ (m + 2) = O (k9 + (m + 2)) * 65536 * 65536 * 65536 ^ m := by rw [Nat.pow_succ, Nat.pow_succ, Nat.mul_assoc (65536 ^ m), Nat.mul_comm (65536 ^ m), ← Nat.mul_assoc, ← Nat.mul_assoc]
    rw [e1, e2, Nat.add_mul, Nat.add_mul, Nat.add_mul]
    omega
theorem d_Mo_digit_0 : decode c_Mo_digit 0 = .ok (.aload_n 0, 1) := by decide +kernel
theorem d_Mo_digit_1 : decode c_Mo_digit 1 = .ok (.getfield 93, 3) := by decide +kernel
theorem d_Mo_digit_4 : decode c_Mo_digit 4 = .ok (.iload_n 1, 1) := by decide +kernel
theorem d_Mo_digit_5 : decode c_Mo_digit 5 = .ok (.iload_n 2, 1) := by decide +kernel
theorem d_Mo_digit_6 : decode c_Mo_digit 6 = .ok (.iadd, 1) := by decide +kernel
theorem d_Mo_digit_7 : decode c_Mo_digit 7 = .ok (.iaload, 1) := by decide +kernel
theorem d_Mo_digit_8 : decode c_Mo_digit 8 = .ok (.i2l, 1) := by decide +kernel
theorem d_Mo_digit_9 : decode c_Mo_digit 9 = .ok (.bipush 16, 2) := by decide +kernel
theorem d_Mo_digit_11 : decode c_Mo_digit 11 = .ok (.lshl, 1) := by decide +kernel
theorem d_Mo_digit_12 : decode c_Mo_digit 12 = .ok (.aload_n 0, 1) := by decide +kernel
theorem d_Mo_digit_13 : decode c_Mo_digit 13 = .ok (.getfield 93, 3) := by decide +kernel
theorem d_Mo_digit_16 : decode c_Mo_digit 16 = .ok (.iload_n 1, 1) := by decide +kernel
theorem d_Mo_digit_17 : decode c_Mo_digit 17 = .ok (.iload_n 2, 1) := by decide +kernel
theorem d_Mo_digit_18 : decode c_Mo_digit 18 = .ok (.iadd, 1) := by decide +kernel
theorem d_Mo_digit_19 : decode c_Mo_digit 19 = .ok (.iconst 1, 1) := by decide +kernel
theorem d_Mo_digit_20 : decode c_Mo_digit 20 = .ok (.isub, 1) := by decide +kernel
theorem d_Mo_digit_21 : decode c_Mo_digit 21 = .ok (.iaload, 1) := by decide +kernel
theorem d_Mo_digit_22 : decode c_Mo_digit 22 = .ok (.i2l, 1) := by decide +kernel
theorem d_Mo_digit_23 : decode c_Mo_digit 23 = .ok (.lor, 1) := by decide +kernel
theorem d_Mo_digit_24 : decode c_Mo_digit 24 = .ok (.lstore_n 3, 1) := by decide +kernel
theorem d_Mo_digit_25 : decode c_Mo_digit 25 = .ok (.lload_n 3, 1) := by decide +kernel
theorem d_Mo_digit_26 : decode c_Mo_digit 26 = .ok (.aload_n 0, 1) := by decide +kernel
theorem d_Mo_digit_27 : decode c_Mo_digit 27 = .ok (.getfield 102, 3) := by decide +kernel
theorem d_Mo_digit_30 : decode c_Mo_digit 30 = .ok (.iload_n 2, 1) := by decide +kernel
theorem d_Mo_digit_31 : decode c_Mo_digit 31 = .ok (.iconst 1, 1) := by decide +kernel
theorem d_Mo_digit_32 : decode c_Mo_digit 32 = .ok (.isub, 1) := by decide +kernel
theorem d_Mo_digit_33 : decode c_Mo_digit 33 = .ok (.iaload, 1) := by decide +kernel
theorem d_Mo_digit_34 : decode c_Mo_digit 34 = .ok (.i2l, 1) := by decide +kernel
theorem d_Mo_digit_35 : decode c_Mo_digit 35 = .ok (.ldiv, 1) := by decide +kernel
theorem d_Mo_digit_36 : decode c_Mo_digit 36 = .ok (.lstore 5, 2) := by decide +kernel
theorem d_Mo_digit_38 : decode c_Mo_digit 38 = .ok (.lload 5, 2) := by decide +kernel
theorem d_Mo_digit_40 : decode c_Mo_digit 40 = .ok (.ldc2_w 276, 3) := by decide +kernel
theorem d_Mo_digit_43 : decode c_Mo_digit 43 = .ok (.lcmp, 1) := by decide +kernel
theorem d_Mo_digit_44 : decode c_Mo_digit 44 = .ok (.ifCond .le 8, 3) := by decide +kernel
theorem d_Mo_digit_47 : decode c_Mo_digit 47 = .ok (.ldc2_w 276, 3) := by decide +kernel
theorem d_Mo_digit_50 : decode c_Mo_digit 50 = .ok (.lstore 5, 2) := by decide +kernel
theorem d_Mo_digit_52 : decode c_Mo_digit 52 = .ok (.iload_n 2, 1) := by decide +kernel
theorem d_Mo_digit_53 : decode c_Mo_digit 53 = .ok (.iconst 1, 1) := by decide +kernel
theorem d_Mo_digit_54 : decode c_Mo_digit 54 = .ok (.if_icmp .le 78, 3) := by decide +kernel
theorem d_Mo_digit_57 : decode c_Mo_digit 57 = .ok (.lload 5, 2) := by decide +kernel
theorem d_Mo_digit_59 : decode c_Mo_digit 59 = .ok (.aload_n 0, 1) := by decide +kernel
theorem d_Mo_digit_60 : decode c_Mo_digit 60 = .ok (.getfield 102, 3) := by decide +kernel
theorem d_Mo_digit_63 : decode c_Mo_digit 63 = .ok (.iload_n 2, 1) := by decide +kernel
theorem d_Mo_digit_64 : decode c_Mo_digit 64 = .ok (.iconst 2, 1) := by decide +kernel
theorem d_Mo_digit_65 : decode c_Mo_digit 65 = .ok (.isub, 1) := by decide +kernel
theorem d_Mo_digit_66 : decode c_Mo_digit 66 = .ok (.iaload, 1) := by decide +kernel
theorem d_Mo_digit_67 : decode c_Mo_digit 67 = .ok (.i2l, 1) := by decide +kernel
theorem d_Mo_digit_68 : decode c_Mo_digit 68 = .ok (.lmul, 1) := by decide +kernel
theorem d_Mo_digit_69 : decode c_Mo_digit 69 = .ok (.lload_n 3, 1) := by decide +kernel
theorem d_Mo_digit_70 : decode c_Mo_digit 70 = .ok (.lload 5, 2) := by decide +kernel
theorem d_Mo_digit_72 : decode c_Mo_digit 72 = .ok (.aload_n 0, 1) := by decide +kernel
theorem d_Mo_digit_73 : decode c_Mo_digit 73 = .ok (.getfield 102, 3) := by decide +kernel
theorem d_Mo_digit_76 : decode c_Mo_digit 76 = .ok (.iload_n 2, 1) := by decide +kernel
theorem d_Mo_digit_77 : decode c_Mo_digit 77 = .ok (.iconst 1, 1) := by decide +kernel
theorem d_Mo_digit_78 : decode c_Mo_digit 78 = .ok (.isub, 1) := by decide +kernel
theorem d_Mo_digit_79 : decode c_Mo_digit 79 = .ok (.iaload, 1) := by decide +kernel
theorem d_Mo_digit_80 : decode c_Mo_digit 80 = .ok (.i2l, 1) := by decide +kernel
theorem d_Mo_digit_81 : decode c_Mo_digit 81 = .ok (.lmul, 1) := by decide +kernel
theorem d_Mo_digit_82 : decode c_Mo_digit 82 = .ok (.lsub, 1) := by decide +kernel
theorem d_Mo_digit_83 : decode c_Mo_digit 83 = .ok (.bipush 16, 2) := by decide +kernel
theorem d_Mo_digit_85 : decode c_Mo_digit 85 = .ok (.lshl, 1) := by decide +kernel
theorem d_Mo_digit_86 : decode c_Mo_digit 86 = .ok (.aload_n 0, 1) := by decide +kernel
theorem d_Mo_digit_87 : decode c_Mo_digit 87 = .ok (.getfield 93, 3) := by decide +kernel
theorem d_Mo_digit_90 : decode c_Mo_digit 90 = .ok (.iload_n 1, 1) := by decide +kernel
theorem d_Mo_digit_91 : decode c_Mo_digit 91 = .ok (.iload_n 2, 1) := by decide +kernel
theorem d_Mo_digit_92 : decode c_Mo_digit 92 = .ok (.iadd, 1) := by decide +kernel
theorem d_Mo_digit_93 : decode c_Mo_digit 93 = .ok (.iconst 2, 1) := by decide +kernel
theorem d_Mo_digit_94 : decode c_Mo_digit 94 = .ok (.isub, 1) := by decide +kernel
theorem d_Mo_digit_95 : decode c_Mo_digit 95 = .ok (.iaload, 1) := by decide +kernel
theorem d_Mo_digit_96 : decode c_Mo_digit 96 = .ok (.i2l, 1) := by decide +kernel
theorem d_Mo_digit_97 : decode c_Mo_digit 97 = .ok (.lor, 1) := by decide +kernel
theorem d_Mo_digit_98 : decode c_Mo_digit 98 = .ok (.lcmp, 1) := by decide +kernel
theorem d_Mo_digit_99 : decode c_Mo_digit 99 = .ok (.ifCond .le 33, 3) := by decide +kernel
theorem d_Mo_digit_102 : decode c_Mo_digit 102 = .ok (.lload_n 3, 1) := by decide +kernel
theorem d_Mo_digit_103 : decode c_Mo_digit 103 = .ok (.lload 5, 2) := by decide +kernel
theorem d_Mo_digit_105 : decode c_Mo_digit 105 = .ok (.aload_n 0, 1) := by decide +kernel
theorem d_Mo_digit_106 : decode c_Mo_digit 106 = .ok (.getfield 102, 3) := by decide +kernel
theorem d_Mo_digit_109 : decode c_Mo_digit 109 = .ok (.iload_n 2, 1) := by decide +kernel
theorem d_Mo_digit_110 : decode c_Mo_digit 110 = .ok (.iconst 1, 1) := by decide +kernel
theorem d_Mo_digit_111 : decode c_Mo_digit 111 = .ok (.isub, 1) := by decide +kernel
theorem d_Mo_digit_112 : decode c_Mo_digit 112 = .ok (.iaload, 1) := by decide +kernel
theorem d_Mo_digit_113 : decode c_Mo_digit 113 = .ok (.i2l, 1) := by decide +kernel
theorem d_Mo_digit_114 : decode c_Mo_digit 114 = .ok (.lmul, 1) := by decide +kernel
theorem d_Mo_digit_115 : decode c_Mo_digit 115 = .ok (.lsub, 1) := by decide +kernel
theorem d_Mo_digit_116 : decode c_Mo_digit 116 = .ok (.ldc2_w 326, 3) := by decide +kernel
theorem d_Mo_digit_119 : decode c_Mo_digit 119 = .ok (.lcmp, 1) := by decide +kernel
theorem d_Mo_digit_120 : decode c_Mo_digit 120 = .ok (.ifCond .ge 12, 3) := by decide +kernel
theorem d_Mo_digit_123 : decode c_Mo_digit 123 = .ok (.lload 5, 2) := by decide +kernel
theorem d_Mo_digit_125 : decode c_Mo_digit 125 = .ok (.lconst 1, 1) := by decide +kernel
theorem d_Mo_digit_126 : decode c_Mo_digit 126 = .ok (.lsub, 1) := by decide +kernel
theorem d_Mo_digit_127 : decode c_Mo_digit 127 = .ok (.lstore 5, 2) := by decide +kernel
theorem d_Mo_digit_129 : decode c_Mo_digit 129 = .ok (.goto (-77), 3) := by decide +kernel
theorem d_Mo_digit_132 : decode c_Mo_digit 132 = .ok (.lconst 0, 1) := by decide +kernel
theorem d_Mo_digit_133 : decode c_Mo_digit 133 = .ok (.lstore 7, 2) := by decide +kernel
theorem d_Mo_digit_135 : decode c_Mo_digit 135 = .ok (.iconst 0, 1) := by decide +kernel
theorem d_Mo_digit_136 : decode c_Mo_digit 136 = .ok (.istore 9, 2) := by decide +kernel
theorem d_Mo_digit_138 : decode c_Mo_digit 138 = .ok (.iload 9, 2) := by decide +kernel
theorem d_Mo_digit_140 : decode c_Mo_digit 140 = .ok (.iload_n 2, 1) := by decide +kernel
theorem d_Mo_digit_141 : decode c_Mo_digit 141 = .ok (.if_icmp .ge 60, 3) := by decide +kernel
theorem d_Mo_digit_144 : decode c_Mo_digit 144 = .ok (.aload_n 0, 1) := by decide +kernel
theorem d_Mo_digit_145 : decode c_Mo_digit 145 = .ok (.getfield 93, 3) := by decide +kernel
theorem d_Mo_digit_148 : decode c_Mo_digit 148 = .ok (.iload_n 1, 1) := by decide +kernel
theorem d_Mo_digit_149 : decode c_Mo_digit 149 = .ok (.iload 9, 2) := by decide +kernel
theorem d_Mo_digit_151 : decode c_Mo_digit 151 = .ok (.iadd, 1) := by decide +kernel
theorem d_Mo_digit_152 : decode c_Mo_digit 152 = .ok (.iaload, 1) := by decide +kernel
theorem d_Mo_digit_153 : decode c_Mo_digit 153 = .ok (.i2l, 1) := by decide +kernel
theorem d_Mo_digit_154 : decode c_Mo_digit 154 = .ok (.lload 5, 2) := by decide +kernel
theorem d_Mo_digit_156 : decode c_Mo_digit 156 = .ok (.aload_n 0, 1) := by decide +kernel
theorem d_Mo_digit_157 : decode c_Mo_digit 157 = .ok (.getfield 102, 3) := by decide +kernel
theorem d_Mo_digit_160 : decode c_Mo_digit 160 = .ok (.iload 9, 2) := by decide +kernel
theorem d_Mo_digit_162 : decode c_Mo_digit 162 = .ok (.iaload, 1) := by decide +kernel
theorem d_Mo_digit_163 : decode c_Mo_digit 163 = .ok (.i2l, 1) := by decide +kernel
theorem d_Mo_digit_164 : decode c_Mo_digit 164 = .ok (.lmul, 1) := by decide +kernel
theorem d_Mo_digit_165 : decode c_Mo_digit 165 = .ok (.lsub, 1) := by decide +kernel
theorem d_Mo_digit_166 : decode c_Mo_digit 166 = .ok (.lload 7, 2) := by decide +kernel
theorem d_Mo_digit_168 : decode c_Mo_digit 168 = .ok (.lsub, 1) := by decide +kernel
theorem d_Mo_digit_169 : decode c_Mo_digit 169 = .ok (.lstore 10, 2) := by decide +kernel
theorem d_Mo_digit_171 : decode c_Mo_digit 171 = .ok (.aload_n 0, 1) := by decide +kernel
theorem d_Mo_digit_172 : decode c_Mo_digit 172 = .ok (.getfield 93, 3) := by decide +kernel
theorem d_Mo_digit_175 : decode c_Mo_digit 175 = .ok (.iload_n 1, 1) := by decide +kernel
theorem d_Mo_digit_176 : decode c_Mo_digit 176 = .ok (.iload 9, 2) := by decide +kernel
theorem d_Mo_digit_178 : decode c_Mo_digit 178 = .ok (.iadd, 1) := by decide +kernel
theorem d_Mo_digit_179 : decode c_Mo_digit 179 = .ok (.lload 10, 2) := by decide +kernel
theorem d_Mo_digit_181 : decode c_Mo_digit 181 = .ok (.ldc2_w 276, 3) := by decide +kernel
theorem d_Mo_digit_184 : decode c_Mo_digit 184 = .ok (.land, 1) := by decide +kernel
theorem d_Mo_digit_185 : decode c_Mo_digit 185 = .ok (.l2i, 1) := by decide +kernel
theorem d_Mo_digit_186 : decode c_Mo_digit 186 = .ok (.iastore, 1) := by decide +kernel
theorem d_Mo_digit_187 : decode c_Mo_digit 187 = .ok (.lload 10, 2) := by decide +kernel
theorem d_Mo_digit_189 : decode c_Mo_digit 189 = .ok (.bipush 16, 2) := by decide +kernel
theorem d_Mo_digit_191 : decode c_Mo_digit 191 = .ok (.lshr, 1) := by decide +kernel
theorem d_Mo_digit_192 : decode c_Mo_digit 192 = .ok (.lneg, 1) := by decide +kernel
theorem d_Mo_digit_193 : decode c_Mo_digit 193 = .ok (.lstore 7, 2) := by decide +kernel
theorem d_Mo_digit_195 : decode c_Mo_digit 195 = .ok (.iinc 9 1, 3) := by decide +kernel
theorem d_Mo_digit_198 : decode c_Mo_digit 198 = .ok (.goto (-60), 3) := by decide +kernel
theorem d_Mo_digit_201 : decode c_Mo_digit 201 = .ok (.aload_n 0, 1) := by decide +kernel
theorem d_Mo_digit_202 : decode c_Mo_digit 202 = .ok (.getfield 93, 3) := by decide +kernel
theorem d_Mo_digit_205 : decode c_Mo_digit 205 = .ok (.iload_n 1, 1) := by decide +kernel
theorem d_Mo_digit_206 : decode c_Mo_digit 206 = .ok (.iload_n 2, 1) := by decide +kernel
theorem d_Mo_digit_207 : decode c_Mo_digit 207 = .ok (.iadd, 1) := by decide +kernel
theorem d_Mo_digit_208 : decode c_Mo_digit 208 = .ok (.iaload, 1) := by decide +kernel
theorem d_Mo_digit_209 : decode c_Mo_digit 209 = .ok (.i2l, 1) := by decide +kernel
theorem d_Mo_digit_210 : decode c_Mo_digit 210 = .ok (.lload 7, 2) := by decide +kernel
theorem d_Mo_digit_212 : decode c_Mo_digit 212 = .ok (.lsub, 1) := by decide +kernel
theorem d_Mo_digit_213 : decode c_Mo_digit 213 = .ok (.lstore 9, 2) := by decide +kernel
theorem d_Mo_digit_215 : decode c_Mo_digit 215 = .ok (.aload_n 0, 1) := by decide +kernel
theorem d_Mo_digit_216 : decode c_Mo_digit 216 = .ok (.getfield 93, 3) := by decide +kernel
theorem d_Mo_digit_219 : decode c_Mo_digit 219 = .ok (.iload_n 1, 1) := by decide +kernel
theorem d_Mo_digit_220 : decode c_Mo_digit 220 = .ok (.iload_n 2, 1) := by decide +kernel
theorem d_Mo_digit_221 : decode c_Mo_digit 221 = .ok (.iadd, 1) := by decide +kernel
theorem d_Mo_digit_222 : decode c_Mo_digit 222 = .ok (.lload 9, 2) := by decide +kernel
theorem d_Mo_digit_224 : decode c_Mo_digit 224 = .ok (.ldc2_w 276, 3) := by decide +kernel
theorem d_Mo_digit_227 : decode c_Mo_digit 227 = .ok (.land, 1) := by decide +kernel
theorem d_Mo_digit_228 : decode c_Mo_digit 228 = .ok (.l2i, 1) := by decide +kernel
theorem d_Mo_digit_229 : decode c_Mo_digit 229 = .ok (.iastore, 1) := by decide +kernel
theorem d_Mo_digit_230 : decode c_Mo_digit 230 = .ok (.lload 9, 2) := by decide +kernel
theorem d_Mo_digit_232 : decode c_Mo_digit 232 = .ok (.lconst 0, 1) := by decide +kernel
theorem d_Mo_digit_233 : decode c_Mo_digit 233 = .ok (.lcmp, 1) := by decide +kernel
theorem d_Mo_digit_234 : decode c_Mo_digit 234 = .ok (.ifCond .lt 7, 3) := by decide +kernel
theorem d_Mo_digit_237 : decode c_Mo_digit 237 = .ok (.lload 5, 2) := by decide +kernel
theorem d_Mo_digit_239 : decode c_Mo_digit 239 = .ok (.l2i, 1) := by decide +kernel
theorem d_Mo_digit_240 : decode c_Mo_digit 240 = .ok (.ireturn, 1) := by decide +kernel
theorem d_Mo_digit_241 : decode c_Mo_digit 241 = .ok (.iconst 0, 1) := by decide +kernel
theorem d_Mo_digit_242 : decode c_Mo_digit 242 = .ok (.istore 11, 2) := by decide +kernel
theorem d_Mo_digit_244 : decode c_Mo_digit 244 = .ok (.iconst 0, 1) := by decide +kernel
theorem d_Mo_digit_245 : decode c_Mo_digit 245 = .ok (.istore 12, 2) := by decide +kernel
theorem d_Mo_digit_247 : decode c_Mo_digit 247 = .ok (.iload 12, 2) := by decide +kernel
theorem d_Mo_digit_249 : decode c_Mo_digit 249 = .ok (.iload_n 2, 1) := by decide +kernel
theorem d_Mo_digit_250 : decode c_Mo_digit 250 = .ok (.if_icmp .ge 53, 3) := by decide +kernel
theorem d_Mo_digit_253 : decode c_Mo_digit 253 = .ok (.aload_n 0, 1) := by decide +kernel
theorem d_Mo_digit_254 : decode c_Mo_digit 254 = .ok (.getfield 93, 3) := by decide +kernel
theorem d_Mo_digit_257 : decode c_Mo_digit 257 = .ok (.iload_n 1, 1) := by decide +kernel
theorem d_Mo_digit_258 : decode c_Mo_digit 258 = .ok (.iload 12, 2) := by decide +kernel
theorem d_Mo_digit_260 : decode c_Mo_digit 260 = .ok (.iadd, 1) := by decide +kernel
theorem d_Mo_digit_261 : decode c_Mo_digit 261 = .ok (.iaload, 1) := by decide +kernel
theorem d_Mo_digit_262 : decode c_Mo_digit 262 = .ok (.aload_n 0, 1) := by decide +kernel
theorem d_Mo_digit_263 : decode c_Mo_digit 263 = .ok (.getfield 102, 3) := by decide +kernel
theorem d_Mo_digit_266 : decode c_Mo_digit 266 = .ok (.iload 12, 2) := by decide +kernel
theorem d_Mo_digit_268 : decode c_Mo_digit 268 = .ok (.iaload, 1) := by decide +kernel
theorem d_Mo_digit_269 : decode c_Mo_digit 269 = .ok (.iadd, 1) := by decide +kernel
theorem d_Mo_digit_270 : decode c_Mo_digit 270 = .ok (.iload 11, 2) := by decide +kernel
theorem d_Mo_digit_272 : decode c_Mo_digit 272 = .ok (.iadd, 1) := by decide +kernel
theorem d_Mo_digit_273 : decode c_Mo_digit 273 = .ok (.istore 13, 2) := by decide +kernel
theorem d_Mo_digit_275 : decode c_Mo_digit 275 = .ok (.aload_n 0, 1) := by decide +kernel
theorem d_Mo_digit_276 : decode c_Mo_digit 276 = .ok (.getfield 93, 3) := by decide +kernel
theorem d_Mo_digit_279 : decode c_Mo_digit 279 = .ok (.iload_n 1, 1) := by decide +kernel
theorem d_Mo_digit_280 : decode c_Mo_digit 280 = .ok (.iload 12, 2) := by decide +kernel
theorem d_Mo_digit_282 : decode c_Mo_digit 282 = .ok (.iadd, 1) := by decide +kernel
theorem d_Mo_digit_283 : decode c_Mo_digit 283 = .ok (.iload 13, 2) := by decide +kernel
theorem d_Mo_digit_285 : decode c_Mo_digit 285 = .ok (.ldc_w 312, 3) := by decide +kernel
theorem d_Mo_digit_288 : decode c_Mo_digit 288 = .ok (.iand, 1) := by decide +kernel
theorem d_Mo_digit_289 : decode c_Mo_digit 289 = .ok (.iastore, 1) := by decide +kernel
theorem d_Mo_digit_290 : decode c_Mo_digit 290 = .ok (.iload 13, 2) := by decide +kernel
theorem d_Mo_digit_292 : decode c_Mo_digit 292 = .ok (.bipush 16, 2) := by decide +kernel
theorem d_Mo_digit_294 : decode c_Mo_digit 294 = .ok (.ishr, 1) := by decide +kernel
theorem d_Mo_digit_295 : decode c_Mo_digit 295 = .ok (.istore 11, 2) := by decide +kernel
theorem d_Mo_digit_297 : decode c_Mo_digit 297 = .ok (.iinc 12 1, 3) := by decide +kernel
theorem d_Mo_digit_300 : decode c_Mo_digit 300 = .ok (.goto (-53), 3) := by decide +kernel
theorem d_Mo_digit_303 : decode c_Mo_digit 303 = .ok (.aload_n 0, 1) := by decide +kernel
theorem d_Mo_digit_304 : decode c_Mo_digit 304 = .ok (.getfield 93, 3) := by decide +kernel
theorem d_Mo_digit_307 : decode c_Mo_digit 307 = .ok (.iload_n 1, 1) := by decide +kernel
theorem d_Mo_digit_308 : decode c_Mo_digit 308 = .ok (.iload_n 2, 1) := by decide +kernel
theorem d_Mo_digit_309 : decode c_Mo_digit 309 = .ok (.iadd, 1) := by decide +kernel
theorem d_Mo_digit_310 : decode c_Mo_digit 310 = .ok (.aload_n 0, 1) := by decide +kernel
theorem d_Mo_digit_311 : decode c_Mo_digit 311 = .ok (.getfield 93, 3) := by decide +kernel
theorem d_Mo_digit_314 : decode c_Mo_digit 314 = .ok (.iload_n 1, 1) := by decide +kernel
theorem d_Mo_digit_315 : decode c_Mo_digit 315 = .ok (.iload_n 2, 1) := by decide +kernel
theorem d_Mo_digit_316 : decode c_Mo_digit 316 = .ok (.iadd, 1) := by decide +kernel
theorem d_Mo_digit_317 : decode c_Mo_digit 317 = .ok (.iaload, 1) := by decide +kernel
theorem d_Mo_digit_318 : decode c_Mo_digit 318 = .ok (.iload 11, 2) := by decide +kernel
theorem d_Mo_digit_320 : decode c_Mo_digit 320 = .ok (.iadd, 1) := by decide +kernel
theorem d_Mo_digit_321 : decode c_Mo_digit 321 = .ok (.ldc_w 312, 3) := by decide +kernel
theorem d_Mo_digit_324 : decode c_Mo_digit 324 = .ok (.iand, 1) := by decide +kernel
theorem d_Mo_digit_325 : decode c_Mo_digit 325 = .ok (.iastore, 1) := by decide +kernel
theorem d_Mo_digit_326 : decode c_Mo_digit 326 = .ok (.lload 5, 2) := by decide +kernel
theorem d_Mo_digit_328 : decode c_Mo_digit 328 = .ok (.l2i, 1) := by decide +kernel
theorem d_Mo_digit_329 : decode c_Mo_digit 329 = .ok (.iconst 1, 1) := by decide +kernel
theorem d_Mo_digit_330 : decode c_Mo_digit 330 = .ok (.isub, 1) := by decide +kernel
theorem d_Mo_digit_331 : decode c_Mo_digit 331 = .ok (.ireturn, 1) := by decide +kernel
set_option maxRecDepth 100000 in
set_option maxHeartbeats 16000000 in
/-- digit(k9, n) -/
theorem g_Mo_digit (l : Launch) (G : va_G) (k : Nat → ClassId) (h0 s0 k9 n : Nat) (ma : Nat → Nat) (iv : Nat → Int32) (co : Int64) (O Dv : Nat → Nat) (hn1 : 1 ≤ n) (hn : n ≤ 80) (hk : k9 + n ≤ 168) (dO : ∀ i, i < 170 → O i < 65536) (dD : ∀ i, i < 170 → Dv i < 65536) (hv : 0 < Dv (n - 1)) (hR : vl 65536 (fun i => O (k9 + i)) (n + 1) < 65536 * vl 65536 Dv n) : CI l y_Mo_digit c_Mo_digit 14 .int { frames := 0, cells := 0, slots := 0, locals := 0 } [.ref h0, .int (nI k9), .int (nI n)] G k s0 [(h0, .inr (8, moL ma iv co)), ((ma 24), .inl (k 0, 170, .inl (fun i => nI (O i)))), ((ma 27), .inl (k 0, 170, .inl (fun i => nI (Dv i))))] (fun (r : Int32) (U : Nat → Nat) => r = nI (vl 65536 (fun i => O (k9 + i)) (n + 1) / vl 65536 Dv n) ∧ vl 65536 (fun i => U (k9 + i)) (n + 1) = vl 65536 (fun i => O (k9 + i)) (n + 1) % vl 65536 Dv n ∧ (∀ i, i < 170 → U i < 65536) ∧ ∀ i, i < k9 ∨ k9 + n < i → U i = O i) (fun U => [(h0, .inr (8, moL ma iv co)), ((ma 24), .inl (k 0, 170, .inl (fun i => nI (U i)))), ((ma 27), .inl (k 0, 170, .inl (fun i => nI (Dv i))))]) 0 0 := by
  refine met_start (by decide) (Nat.le_of_ble_eq_true rfl) ?_
  intro p e s m below meth c C K hA hsz S ls hl
  generalize va_A [(h0, .inr (8, moL ma iv co)), ((ma 24), .inl (k 0, 170, .inl (fun i => nI (O i)))), ((ma 27), .inl (k 0, 170, .inl (fun i => nI (Dv i))))] s0 = A at hA S ⊢
  have hx := C.1
  have hb := C.2.1
  have hl : lv_has ls 14 [(0, .ref h0), (1, .int (nI k9)), (2, .int (nI n))] := hl
  have b1 := dO (k9 + n) (by omega)
  have b2 := dO (k9 + n - 1) (by omega)
  have b3 := dD (n - 1) (by omega)
  have b4 := dD (n - 2) (by omega)
  have b5 := dO (k9 + n - 2) (by omega)
  have fin : ∀ q9, vl 65536 (fun i => O (k9 + i)) (n + 1) / vl 65536 Dv n ≤ q9 → q9 ≤ 65535 → q9 * vl 65536 Dv n ≤ vl 65536 (fun i => O (k9 + i)) (n + 1) + vl 65536 Dv n → ∀ ls : Array Slot, lv_has ls 14 [(5, .long (lN q9)), (3, .long (lN (O (k9 + n) * 65536 + O (k9 + n - 1)))), (0, .ref h0), (1, .int (nI k9)), (2, .int (nI n))] → ∀ (H : Heap) (locs : List Loc), Sw G A s.heap H locs [(h0, .inr (8, moL ma iv co)), ((ma 24), .inl (k 0, 170, .inl (fun i => nI (O i)))), ((ma 27), .inl (k 0, 170, .inl (fun i => nI (Dv i))))] → W p l e { frames := 0, cells := 0, slots := 0, locals := 0 } s m [Value.ref h0, Value.int (nI k9), Value.int (nI n)].toArray below meth c H locs 0 0 (MQ below (va_Qi (fun (r : Int32) (U : Nat → Nat) => r = nI (vl 65536 (fun i => O (k9 + i)) (n + 1) / vl 65536 Dv n) ∧ vl 65536 (fun i => U (k9 + i)) (n + 1) = vl 65536 (fun i => O (k9 + i)) (n + 1) % vl 65536 Dv n ∧ (∀ i, i < 170 → U i < 65536) ∧ ∀ i, i < k9 ∨ k9 + n < i → U i = O i) (Po G k A (fun U => [(h0, .inr (8, moL ma iv co)), ((ma 24), .inl (k 0, 170, .inl (fun i => nI (U i)))), ((ma 27), .inl (k 0, 170, .inl (fun i => nI (Dv i))))])) A) [Value.ref h0, Value.int (nI k9), Value.int (nI n)].toArray s 0 0 A) (F0 m 132 ls []) := by
    intro q9 f1 f2 f3 ls hl H locs S
    have hV : 0 < vl 65536 Dv n := Nat.pos_of_ne_zero (fun e9 => by rw [e9] at hR; omega)
    have kq := kn_one hV f1 f3
    have hVl := vl_lt (B := 65536) (g := Dv) n (fun i hi => dD i (by omega))
    have hRs : vl 65536 (fun i => O (k9 + i)) (n + 1) = vl 65536 (fun i => O (k9 + i)) n + O (k9 + n) * 65536 ^ n := rfl
    have hdm := Nat.div_add_mod (vl 65536 (fun i => O (k9 + i)) (n + 1)) (vl 65536 Dv n)
    have hml := Nat.mod_lt (vl 65536 (fun i => O (k9 + i)) (n + 1)) hV
    have back : ∀ (U : Nat → Nat) (b9 : Nat), vl 65536 (fun i => U (k9 + i)) n + q9 * vl 65536 Dv n = vl 65536 (fun i => O (k9 + i)) n + b9 * 65536 ^ n → b9 ≤ q9 → O (k9 + n) < b9 → U (k9 + n) = O (k9 + n) + 65536 - b9 → (∀ i, i < 170 → U i < 65536) → (∀ i, i < k9 ∨ k9 + n < i → U i = O i) → ∀ d t, t + d = n → ∀ (X : Nat → Nat) (c9 : Nat), (vl 65536 (fun i => X (k9 + i)) t + c9 * 65536 ^ t = vl 65536 (fun i => U (k9 + i)) t + vl 65536 Dv t ∧ c9 ≤ 1 ∧ (∀ i, i < 170 → X i < 65536) ∧ ∀ i, i < k9 ∨ k9 + t ≤ i → X i = U i) → ∀ (H : Heap) (locs : List Loc), Sw G A s.heap H locs [(h0, .inr (8, moL ma iv co)), ((ma 24), .inl (k 0, 170, .inl (fun i => nI (X i)))), ((ma 27), .inl (k 0, 170, .inl (fun i => nI (Dv i))))] → ∀ ls : Array Slot, lv_has ls 14 [(12, .int (nI t)), (11, .int (nI c9)), (5, .long (lN q9)), (0, .ref h0), (1, .int (nI k9)), (2, .int (nI n))] → W p l e { frames := 0, cells := 0, slots := 0, locals := 0 } s m [Value.ref h0, Value.int (nI k9), Value.int (nI n)].toArray below meth c H locs 0 0 (MQ below (va_Qi (fun (r : Int32) (U : Nat → Nat) => r = nI (vl 65536 (fun i => O (k9 + i)) (n + 1) / vl 65536 Dv n) ∧ vl 65536 (fun i => U (k9 + i)) (n + 1) = vl 65536 (fun i => O (k9 + i)) (n + 1) % vl 65536 Dv n ∧ (∀ i, i < 170 → U i < 65536) ∧ ∀ i, i < k9 ∨ k9 + n < i → U i = O i) (Po G k A (fun U => [(h0, .inr (8, moL ma iv co)), ((ma 24), .inl (k 0, 170, .inl (fun i => nI (U i)))), ((ma 27), .inl (k 0, 170, .inl (fun i => nI (Dv i))))])) A) [Value.ref h0, Value.int (nI k9), Value.int (nI n)].toArray s 0 0 A) (F0 m 247 ls []) := by
      intro U b9 u1 u2 u3 u4 u5 u6 d
      induction d with
      | zero =>
        intro t ht X c9 hI H locs S ls hl
        obtain rfl : n = t := by omega
        have xt : X (k9 + n) = O (k9 + n) + 65536 - b9 := (hI.2.2.2 (k9 + n) (Or.inr (Nat.le_refl _))).trans u4
        have hc := hI.2.1
        have hX := vl_lt (B := 65536) (g := (fun i => X (k9 + i))) n (fun i hi => hI.2.2.1 (k9 + i) (by omega))
        have hq : q9 = vl 65536 (fun i => O (k9 + i)) (n + 1) / vl 65536 Dv n + 1 := by
          rcases kq with y | y
          · exfalso
            have e1 : q9 * vl 65536 Dv n ≤ vl 65536 (fun i => O (k9 + i)) (n + 1) := by rw [y]; exact Nat.div_mul_le_self _ _
            have hU := vl_lt (B := 65536) (g := (fun i => U (k9 + i))) n (fun i hi => u5 (k9 + i) (by omega))
            have e2 : (O (k9 + n) + 1) * 65536 ^ n ≤ b9 * 65536 ^ n := Nat.mul_le_mul_right _ u3
            rw [Nat.add_mul, Nat.one_mul] at e2
            omega
          · exact y
        have e1 : q9 * vl 65536 Dv n = vl 65536 Dv n * (vl 65536 (fun i => O (k9 + i)) (n + 1) / vl 65536 Dv n) + vl 65536 Dv n := by rw [hq, Nat.add_mul, Nat.one_mul, Nat.mul_comm]
        have e0 : vl 65536 (fun i => X (k9 + i)) n + c9 * 65536 ^ n + O (k9 + n) * 65536 ^ n = vl 65536 (fun i => O (k9 + i)) (n + 1) % vl 65536 Dv n + b9 * 65536 ^ n := by have := hI.1; omega
        have e2 : b9 = O (k9 + n) + c9 := by
          rcases Nat.lt_or_ge b9 (O (k9 + n) + c9) with y | y
          · exfalso
            have e3 : (b9 + 1) * 65536 ^ n ≤ (O (k9 + n) + c9) * 65536 ^ n := Nat.mul_le_mul_right _ y
            rw [Nat.add_mul, Nat.one_mul, Nat.add_mul] at e3
            omega
          · rcases Nat.lt_or_ge (O (k9 + n) + c9) b9 with y2 | y2
            · exfalso
              have e3 : (O (k9 + n) + c9 + 1) * 65536 ^ n ≤ b9 * 65536 ^ n := Nat.mul_le_mul_right _ y2
              rw [Nat.add_mul, Nat.one_mul, Nat.add_mul] at e3
              omega
            · omega
        have e4 : vl 65536 (fun i => X (k9 + i)) n = vl 65536 (fun i => O (k9 + i)) (n + 1) % vl 65536 Dv n := by rw [e2, Nat.add_mul] at e0; omega
        refine lv_iload hx hb d_Mo_digit_247 (lv_at hl 0 rfl) ?_
        refine lv_iload_n hx hb d_Mo_digit_249 rfl (lv_at hl 5 rfl) ?_
        refine lv_icmp_ge (tgt := 303) hx hb d_Mo_digit_250 (by decide) (fun _ => ?_) (fun hq => absurd (nI_le (Nat.le_refl _) (by omega)) hq)
        refine lv_aload_n hx hb d_Mo_digit_303 rfl (lv_at hl 3 rfl) ?_
        refine r_get C K S 0 rfl rfl clOk_Mo 44 (by decide) wf_Mo_93 (v := .ref (ma 24)) rfl d_Mo_digit_304 ?_
        refine lv_iload_n hx hb d_Mo_digit_307 rfl (lv_at hl 4 rfl) ?_
        refine lv_iload_n hx hb d_Mo_digit_308 rfl (lv_at hl 5 rfl) ?_
        refine lv_iadd hx hb d_Mo_digit_309 ?_
        rw [nI_add]
        refine lv_aload_n hx hb d_Mo_digit_310 rfl (lv_at hl 3 rfl) ?_
        refine r_get C K S 0 rfl rfl clOk_Mo 44 (by decide) wf_Mo_93 (v := .ref (ma 24)) rfl d_Mo_digit_311 ?_
        refine lv_iload_n hx hb d_Mo_digit_314 rfl (lv_at hl 4 rfl) ?_
        refine lv_iload_n hx hb d_Mo_digit_315 rfl (lv_at hl 5 rfl) ?_
        refine lv_iadd hx hb d_Mo_digit_316 ?_
        rw [nI_add]
        refine r_iald C K S 1 rfl (i := nI (k9 + n)) (vp_in_nI (by omega) (by decide)) (v := (nI (O (k9 + n) + 65536 - b9))) (by rw [nI_clamp (by omega), xt]) d_Mo_digit_317 ?_
        refine lv_iload hx hb d_Mo_digit_318 (lv_at hl 1 rfl) ?_
        refine lv_iadd hx hb d_Mo_digit_320 ?_
        rw [nI_add]
        refine lv_ldcw (v := 65535) hx hb C.2.2.2.1 (C.2.2.2.2.1 _ wk_Mo_312) d_Mo_digit_321 ?_
        refine lv_iand hx hb d_Mo_digit_324 ?_
        rw [nx_mod]
        refine r_iast C K S 1 rfl (i := nI (k9 + n)) (x := nI ((O (k9 + n) + 65536 - b9 + c9) % 65536)) (vp_in_nI (by omega) (by decide)) (f' := fun i => nI (va_up X (k9 + n) ((O (k9 + n) + 65536 - b9 + c9) % 65536) i)) (ws' := [(h0, .inr (8, moL ma iv co)), ((ma 24), .inl (k 0, 170, .inl (fun i => nI (va_up X (k9 + n) ((O (k9 + n) + 65536 - b9 + c9) % 65536) i)))), ((ma 27), .inl (k 0, 170, .inl (fun i => nI (Dv i))))]) (upd_nI X (by omega) _) rfl d_Mo_digit_325 (fun H locs S => ?_)
        refine lv_lload hx hb d_Mo_digit_326 (lv_at hl 2 rfl) ?_
        refine lv_l2i (v := (nI q9)) hx hb d_Mo_digit_328 (lN_i q9) ?_
        refine lv_iconst (v := 1) hx hb d_Mo_digit_329 (by decide) ?_
        refine lv_isub hx hb d_Mo_digit_330 ?_
        rw [show nI q9 - 1 = nI (q9 - 1) from pk_sub (a := q9) (b := 1) (by omega)]
        have et : ((O (k9 + n) + 65536 - b9 + c9) % 65536) = 0 := by omega
        refine r_iret C K rfl (va_up X (k9 + n) ((O (k9 + n) + 65536 - b9 + c9) % 65536)) ⟨by rw [hq, Nat.add_sub_cancel], ?_, ?_, ?_⟩ (S.sub [0, 1, 2] (by decide) rfl) d_Mo_digit_331 (Nat.le_of_ble_eq_true rfl) (Nat.le_of_ble_eq_true rfl)
        · rw [et, vl_s, va_up_self, Nat.zero_mul, Nat.add_zero, vl_congr (h := (fun i => X (k9 + i))) n (fun i hi => va_up_ne X _ (by omega))]
          exact e4
        · intro i hi
          by_cases y : i = k9 + n
          · rw [y, va_up_self]; omega
          · rw [va_up_ne X _ y]; exact hI.2.2.1 i hi
        · intro i hi
          rw [va_up_ne X _ (by omega), hI.2.2.2 i (by omega)]
          exact u6 i hi
      | succ d ih =>
        intro t ht X c9 hI H locs S ls hl
        have hc := hI.2.1
        have d1 := u5 (k9 + t) (by omega)
        have d2 := dD t (by omega)
        have xt : X (k9 + t) = U (k9 + t) := hI.2.2.2 _ (Or.inr (Nat.le_refl _))
        refine lv_iload hx hb d_Mo_digit_247 (lv_at hl 0 rfl) ?_
        refine lv_iload_n hx hb d_Mo_digit_249 rfl (lv_at hl 5 rfl) ?_
        refine lv_icmp_ge (tgt := 303) hx hb d_Mo_digit_250 (by decide) (fun hq => absurd hq (nI_ge (by omega) (by omega))) (fun _ => ?_)
        refine lv_aload_n hx hb d_Mo_digit_253 rfl (lv_at hl 3 rfl) ?_
        refine r_get C K S 0 rfl rfl clOk_Mo 44 (by decide) wf_Mo_93 (v := .ref (ma 24)) rfl d_Mo_digit_254 ?_
        refine lv_iload_n hx hb d_Mo_digit_257 rfl (lv_at hl 4 rfl) ?_
        refine lv_iload hx hb d_Mo_digit_258 (lv_at hl 0 rfl) ?_
        refine lv_iadd hx hb d_Mo_digit_260 ?_
        rw [nI_add]
        refine r_iald C K S 1 rfl (i := nI (k9 + t)) (vp_in_nI (by omega) (by decide)) (v := (nI (U (k9 + t)))) (by rw [nI_clamp (by omega), xt]) d_Mo_digit_261 ?_
        refine lv_aload_n hx hb d_Mo_digit_262 rfl (lv_at hl 3 rfl) ?_
        refine r_get C K S 0 rfl rfl clOk_Mo 47 (by decide) wf_Mo_102 (v := .ref (ma 27)) rfl d_Mo_digit_263 ?_
        refine lv_iload hx hb d_Mo_digit_266 (lv_at hl 0 rfl) ?_
        refine r_iald C K S 2 rfl (i := (nI t)) (vp_in_nI (by omega) (by decide)) (v := (nI (Dv t))) (by rw [nI_clamp (by omega)]) d_Mo_digit_268 ?_
        refine lv_iadd hx hb d_Mo_digit_269 ?_
        rw [nI_add]
        refine lv_iload hx hb d_Mo_digit_270 (lv_at hl 1 rfl) ?_
        refine lv_iadd hx hb d_Mo_digit_272 ?_
        rw [nI_add]
        refine lv_istore (lv' := [(13, .int (nI (U (k9 + t) + Dv t + c9))), (12, .int (nI t)), (11, .int (nI c9)), (5, .long (lN q9)), (0, .ref h0), (1, .int (nI k9)), (2, .int (nI n))]) hx hb d_Mo_digit_273 hl (by decide) rfl (fun ls hl => ?_)
        refine lv_aload_n hx hb d_Mo_digit_275 rfl (lv_at hl 4 rfl) ?_
        refine r_get C K S 0 rfl rfl clOk_Mo 44 (by decide) wf_Mo_93 (v := .ref (ma 24)) rfl d_Mo_digit_276 ?_
        refine lv_iload_n hx hb d_Mo_digit_279 rfl (lv_at hl 5 rfl) ?_
        refine lv_iload hx hb d_Mo_digit_280 (lv_at hl 1 rfl) ?_
        refine lv_iadd hx hb d_Mo_digit_282 ?_
        rw [nI_add]
        refine lv_iload hx hb d_Mo_digit_283 (lv_at hl 0 rfl) ?_
        refine lv_ldcw (v := 65535) hx hb C.2.2.2.1 (C.2.2.2.2.1 _ wk_Mo_312) d_Mo_digit_285 ?_
        refine lv_iand hx hb d_Mo_digit_288 ?_
        rw [nx_mod]
        refine r_iast C K S 1 rfl (i := nI (k9 + t)) (x := nI ((U (k9 + t) + Dv t + c9) % 65536)) (vp_in_nI (by omega) (by decide)) (f' := fun i => nI (va_up X (k9 + t) ((U (k9 + t) + Dv t + c9) % 65536) i)) (ws' := [(h0, .inr (8, moL ma iv co)), ((ma 24), .inl (k 0, 170, .inl (fun i => nI (va_up X (k9 + t) ((U (k9 + t) + Dv t + c9) % 65536) i)))), ((ma 27), .inl (k 0, 170, .inl (fun i => nI (Dv i))))]) (upd_nI X (by omega) _) rfl d_Mo_digit_289 (fun H locs S => ?_)
        refine lv_iload hx hb d_Mo_digit_290 (lv_at hl 0 rfl) ?_
        refine lv_bipush (v := 16) hx hb d_Mo_digit_292 (by decide) ?_
        refine lv_ishr hx hb d_Mo_digit_294 ?_
        rw [show nI (U (k9 + t) + Dv t + c9) >>> ((16 : Int32) &&& 31) = nI ((U (k9 + t) + Dv t + c9) / 65536) from pk_shrN (by omega) _ 16 (by decide)]
        refine lv_istore (lv' := [(11, .int (nI ((U (k9 + t) + Dv t + c9) / 65536))), (13, .int (nI (U (k9 + t) + Dv t + c9))), (12, .int (nI t)), (5, .long (lN q9)), (0, .ref h0), (1, .int (nI k9)), (2, .int (nI n))]) hx hb d_Mo_digit_295 hl (by decide) rfl (fun ls hl => ?_)
        refine lv_iinc (v := nI (t + 1)) (lv' := [(12, .int (nI (t + 1))), (11, .int (nI ((U (k9 + t) + Dv t + c9) / 65536))), (13, .int (nI (U (k9 + t) + Dv t + c9))), (5, .long (lN q9)), (0, .ref h0), (1, .int (nI k9)), (2, .int (nI n))]) hx hb d_Mo_digit_297 hl (k := 2) rfl (nI_1 t) (by decide) rfl (fun ls hl => ?_)
        refine lv_goto (tgt := 247) hx hb d_Mo_digit_300 (by decide) ?_
        refine ih (t + 1) (by omega) (va_up X (k9 + t) ((U (k9 + t) + Dv t + c9) % 65536)) ((U (k9 + t) + Dv t + c9) / 65536) ⟨?_, by omega, ?_, ?_⟩ _ _ S ls (lv_sub hl [0, 1, 3, 4, 5, 6] rfl)
        · rw [vl_s, vl_s, vl_s, va_up_self, vl_congr (h := (fun i => X (k9 + i))) t (fun i hi => va_up_ne X _ (by omega)), Nat.pow_succ]
          have e1 := hI.1
          have e2 := Nat.mod_add_div (U (k9 + t) + Dv t + c9) 65536
          have e3 : ((U (k9 + t) + Dv t + c9) % 65536 + 65536 * ((U (k9 + t) + Dv t + c9) / 65536)) * 65536 ^ t = (U (k9 + t) + Dv t + c9) * 65536 ^ t := by rw [e2]
          rw [Nat.add_mul, Nat.add_mul, Nat.add_mul] at e3
          have e4 : (U (k9 + t) + Dv t + c9) / 65536 * (65536 ^ t * 65536) = 65536 * ((U (k9 + t) + Dv t + c9) / 65536) * 65536 ^ t := by rw [Nat.mul_comm (65536 ^ t), ← Nat.mul_assoc, Nat.mul_comm ((U (k9 + t) + Dv t + c9) / 65536)]
          rw [e4]
          omega
        · intro i hi
          by_cases y : i = k9 + t
          · rw [y, va_up_self]; exact Nat.mod_lt _ (by decide)
          · rw [va_up_ne X _ y]; exact hI.2.2.1 i hi
        · intro i hi
          rw [va_up_ne X _ (by omega)]
          exact hI.2.2.2 i (by omega)
    have off : ∀ d t, t + d = n → ∀ (U : Nat → Nat) (b9 : Nat), (vl 65536 (fun i => U (k9 + i)) t + q9 * vl 65536 Dv t = vl 65536 (fun i => O (k9 + i)) t + b9 * 65536 ^ t ∧ b9 ≤ q9 ∧ (∀ i, i < 170 → U i < 65536) ∧ ∀ i, i < k9 ∨ k9 + t ≤ i → U i = O i) → ∀ (H : Heap) (locs : List Loc), Sw G A s.heap H locs [(h0, .inr (8, moL ma iv co)), ((ma 24), .inl (k 0, 170, .inl (fun i => nI (U i)))), ((ma 27), .inl (k 0, 170, .inl (fun i => nI (Dv i))))] → ∀ ls : Array Slot, lv_has ls 14 [(9, .int (nI t)), (7, .long (lN b9)), (5, .long (lN q9)), (3, .long (lN (O (k9 + n) * 65536 + O (k9 + n - 1)))), (0, .ref h0), (1, .int (nI k9)), (2, .int (nI n))] → W p l e { frames := 0, cells := 0, slots := 0, locals := 0 } s m [Value.ref h0, Value.int (nI k9), Value.int (nI n)].toArray below meth c H locs 0 0 (MQ below (va_Qi (fun (r : Int32) (U : Nat → Nat) => r = nI (vl 65536 (fun i => O (k9 + i)) (n + 1) / vl 65536 Dv n) ∧ vl 65536 (fun i => U (k9 + i)) (n + 1) = vl 65536 (fun i => O (k9 + i)) (n + 1) % vl 65536 Dv n ∧ (∀ i, i < 170 → U i < 65536) ∧ ∀ i, i < k9 ∨ k9 + n < i → U i = O i) (Po G k A (fun U => [(h0, .inr (8, moL ma iv co)), ((ma 24), .inl (k 0, 170, .inl (fun i => nI (U i)))), ((ma 27), .inl (k 0, 170, .inl (fun i => nI (Dv i))))])) A) [Value.ref h0, Value.int (nI k9), Value.int (nI n)].toArray s 0 0 A) (F0 m 138 ls []) := by
      intro d
      induction d with
      | zero =>
        intro t ht U b9 hI H locs S ls hl
        obtain rfl : n = t := by omega
        have ut : U (k9 + n) = O (k9 + n) := hI.2.2.2 _ (Or.inr (Nat.le_refl _))
        have hb9 := hI.2.1
        have hs := bw_spec (o := O (k9 + n)) (t := b9) b1
        refine lv_iload hx hb d_Mo_digit_138 (lv_at hl 0 rfl) ?_
        refine lv_iload_n hx hb d_Mo_digit_140 rfl (lv_at hl 6 rfl) ?_
        refine lv_icmp_ge (tgt := 201) hx hb d_Mo_digit_141 (by decide) (fun _ => ?_) (fun hq => absurd (nI_le (Nat.le_refl _) (by omega)) hq)
        refine lv_aload_n hx hb d_Mo_digit_201 rfl (lv_at hl 4 rfl) ?_
        refine r_get C K S 0 rfl rfl clOk_Mo 44 (by decide) wf_Mo_93 (v := .ref (ma 24)) rfl d_Mo_digit_202 ?_
        refine lv_iload_n hx hb d_Mo_digit_205 rfl (lv_at hl 5 rfl) ?_
        refine lv_iload_n hx hb d_Mo_digit_206 rfl (lv_at hl 6 rfl) ?_
        refine lv_iadd hx hb d_Mo_digit_207 ?_
        rw [nI_add]
        refine r_iald C K S 1 rfl (i := nI (k9 + n)) (vp_in_nI (by omega) (by decide)) (v := (nI (O (k9 + n)))) (by rw [nI_clamp (by omega), ut]) d_Mo_digit_208 ?_
        refine lv_i2l (v := (lN (O (k9 + n)))) hx hb d_Mo_digit_209 (nI_l (by omega)) ?_
        refine lv_lload hx hb d_Mo_digit_210 (lv_at hl 1 rfl) ?_
        refine lv_lsub hx hb d_Mo_digit_212 ?_
        refine lv_lstore (lv' := [(9, .long ((lN (O (k9 + n))) - (lN b9))), (7, .long (lN b9)), (5, .long (lN q9)), (3, .long (lN (O (k9 + n) * 65536 + O (k9 + n - 1)))), (0, .ref h0), (1, .int (nI k9)), (2, .int (nI n))]) hx hb d_Mo_digit_213 hl (by decide) rfl (fun ls hl => ?_)
        refine lv_aload_n hx hb d_Mo_digit_215 rfl (lv_at hl 4 rfl) ?_
        refine r_get C K S 0 rfl rfl clOk_Mo 44 (by decide) wf_Mo_93 (v := .ref (ma 24)) rfl d_Mo_digit_216 ?_
        refine lv_iload_n hx hb d_Mo_digit_219 rfl (lv_at hl 5 rfl) ?_
        refine lv_iload_n hx hb d_Mo_digit_220 rfl (lv_at hl 6 rfl) ?_
        refine lv_iadd hx hb d_Mo_digit_221 ?_
        rw [nI_add]
        refine lv_lload hx hb d_Mo_digit_222 (lv_at hl 0 rfl) ?_
        refine lv_ldc2 (v := 65535) hx hb C.2.2.2.1 (C.2.2.2.2.1 _ wk_Mo_276) d_Mo_digit_224 ?_
        refine lv_land hx hb d_Mo_digit_227 ?_
        rw [bw_and b1 (by omega)]
        refine lv_l2i (v := (nI (O (k9 + n) + bw (O (k9 + n)) b9 * 65536 - b9))) hx hb d_Mo_digit_228 (lN_i _) ?_
        refine r_iast C K S 1 rfl (i := nI (k9 + n)) (x := (nI (O (k9 + n) + bw (O (k9 + n)) b9 * 65536 - b9))) (vp_in_nI (by omega) (by decide)) (f' := fun i => nI (va_up U (k9 + n) (O (k9 + n) + bw (O (k9 + n)) b9 * 65536 - b9) i)) (ws' := [(h0, .inr (8, moL ma iv co)), ((ma 24), .inl (k 0, 170, .inl (fun i => nI (va_up U (k9 + n) (O (k9 + n) + bw (O (k9 + n)) b9 * 65536 - b9) i)))), ((ma 27), .inl (k 0, 170, .inl (fun i => nI (Dv i))))]) (upd_nI U (by omega) _) rfl d_Mo_digit_229 (fun H locs S => ?_)
        refine lv_lload hx hb d_Mo_digit_230 (lv_at hl 0 rfl) ?_
        refine lv_lconst (v := 0) hx hb d_Mo_digit_232 (by decide) ?_
        refine W.lcmp hx hb d_Mo_digit_233 ?_
        have sg : (lN (O (k9 + n)) - lN b9 < 0) ↔ O (k9 + n) < b9 := by
          rw [Int64.lt_iff_toInt_lt, bw_toInt b1 (by omega)]
          show _ < (0 : Int) ↔ _
          omega
        have dU : ∀ i, i < 170 → va_up U (k9 + n) (O (k9 + n) + bw (O (k9 + n)) b9 * 65536 - b9) i < 65536 := fun i hi => by
          by_cases y : i = k9 + n
          · rw [y, va_up_self]; exact hs.2
          · rw [va_up_ne U _ y]; exact hI.2.2.1 i hi
        have cU : vl 65536 (fun i => va_up U (k9 + n) (O (k9 + n) + bw (O (k9 + n)) b9 * 65536 - b9) (k9 + i)) n = vl 65536 (fun i => U (k9 + i)) n := vl_congr n (fun i hi => va_up_ne U _ (by omega))
        refine lv_if_lt (tgt := 241) hx hb d_Mo_digit_234 (by decide) (fun hg => ?_) (fun hg => ?_)
        · refine lv_iconst (v := 0) hx hb d_Mo_digit_241 (by decide) ?_
          refine lv_istore (lv' := [(11, .int 0), (9, .long ((lN (O (k9 + n))) - (lN b9))), (7, .long (lN b9)), (5, .long (lN q9)), (3, .long (lN (O (k9 + n) * 65536 + O (k9 + n - 1)))), (0, .ref h0), (1, .int (nI k9)), (2, .int (nI n))]) hx hb d_Mo_digit_242 hl (by decide) rfl (fun ls hl => ?_)
          refine lv_iconst (v := 0) hx hb d_Mo_digit_244 (by decide) ?_
          refine lv_istore (lv' := [(12, .int 0), (11, .int 0), (9, .long ((lN (O (k9 + n))) - (lN b9))), (7, .long (lN b9)), (5, .long (lN q9)), (3, .long (lN (O (k9 + n) * 65536 + O (k9 + n - 1)))), (0, .ref h0), (1, .int (nI k9)), (2, .int (nI n))]) hx hb d_Mo_digit_245 hl (by decide) rfl (fun ls hl => ?_)
          have hlt := sg.mp ((lg_cmp_lt _ _).mp hg)
          have hbw : bw (O (k9 + n)) b9 = 1 := by unfold bw; omega
          exact back (va_up U (k9 + n) (O (k9 + n) + bw (O (k9 + n)) b9 * 65536 - b9)) b9 (by rw [cU]; exact hI.1) hb9 hlt (by rw [va_up_self, hbw]) dU (fun i hi => by rw [va_up_ne U _ (by omega)]; exact hI.2.2.2 i (by omega)) n 0 (by omega) _ 0 ⟨by simp [vl], by omega, dU, fun _ _ => rfl⟩ _ _ S ls (lv_sub hl [0, 1, 4, 6, 7, 8] rfl)
        · have hge : b9 ≤ O (k9 + n) := Nat.le_of_not_lt (fun y => hg ((lg_cmp_lt _ _).mpr (sg.mpr y)))
          have hbw : bw (O (k9 + n)) b9 = 0 := by unfold bw; omega
          have e1 : b9 * 65536 ^ n ≤ O (k9 + n) * 65536 ^ n := Nat.mul_le_mul_right _ hge
          have e0 := hI.1
          have e2 : (O (k9 + n) - b9) * 65536 ^ n + b9 * 65536 ^ n = O (k9 + n) * 65536 ^ n := by rw [← Nat.add_mul, Nat.sub_add_cancel hge]
          have hq : q9 = vl 65536 (fun i => O (k9 + i)) (n + 1) / vl 65536 Dv n := by
            have e3 : q9 ≤ vl 65536 (fun i => O (k9 + i)) (n + 1) / vl 65536 Dv n := (Nat.le_div_iff_mul_le hV).mpr (by omega)
            omega
          have e5 : q9 * vl 65536 Dv n = vl 65536 Dv n * (vl 65536 (fun i => O (k9 + i)) (n + 1) / vl 65536 Dv n) := by rw [hq, Nat.mul_comm]
          refine lv_lload hx hb d_Mo_digit_237 (lv_at hl 2 rfl) ?_
          refine lv_l2i (v := (nI q9)) hx hb d_Mo_digit_239 (lN_i q9) ?_
          refine r_iret C K rfl (va_up U (k9 + n) (O (k9 + n) + bw (O (k9 + n)) b9 * 65536 - b9)) ⟨by rw [hq], ?_, dU, fun i hi => by rw [va_up_ne U _ (by omega)]; exact hI.2.2.2 i (by omega)⟩ (S.sub [0, 1, 2] (by decide) rfl) d_Mo_digit_240 (Nat.le_of_ble_eq_true rfl) (Nat.le_of_ble_eq_true rfl)
          rw [vl_s, va_up_self, cU, hbw, Nat.zero_mul, Nat.add_zero]
          omega
      | succ d ih =>
        intro t ht U b9 hI H locs S ls hl
        have hb9 := hI.2.1
        have d1 := dO (k9 + t) (by omega)
        have d2 := dD t (by omega)
        have ut : U (k9 + t) = O (k9 + t) := hI.2.2.2 _ (Or.inr (Nat.le_refl _))
        have hm : q9 * Dv t ≤ q9 * 65535 := Nat.mul_le_mul_left _ (by omega)
        have hs := bw_spec (o := O (k9 + t)) (t := (q9 * Dv t + b9)) d1
        refine lv_iload hx hb d_Mo_digit_138 (lv_at hl 0 rfl) ?_
        refine lv_iload_n hx hb d_Mo_digit_140 rfl (lv_at hl 6 rfl) ?_
        refine lv_icmp_ge (tgt := 201) hx hb d_Mo_digit_141 (by decide) (fun hq => absurd hq (nI_ge (by omega) (by omega))) (fun _ => ?_)
        refine lv_aload_n hx hb d_Mo_digit_144 rfl (lv_at hl 4 rfl) ?_
        refine r_get C K S 0 rfl rfl clOk_Mo 44 (by decide) wf_Mo_93 (v := .ref (ma 24)) rfl d_Mo_digit_145 ?_
        refine lv_iload_n hx hb d_Mo_digit_148 rfl (lv_at hl 5 rfl) ?_
        refine lv_iload hx hb d_Mo_digit_149 (lv_at hl 0 rfl) ?_
        refine lv_iadd hx hb d_Mo_digit_151 ?_
        rw [nI_add]
        refine r_iald C K S 1 rfl (i := nI (k9 + t)) (vp_in_nI (by omega) (by decide)) (v := (nI (O (k9 + t)))) (by rw [nI_clamp (by omega), ut]) d_Mo_digit_152 ?_
        refine lv_i2l (v := (lN (O (k9 + t)))) hx hb d_Mo_digit_153 (nI_l (by omega)) ?_
        refine lv_lload hx hb d_Mo_digit_154 (lv_at hl 2 rfl) ?_
        refine lv_aload_n hx hb d_Mo_digit_156 rfl (lv_at hl 4 rfl) ?_
        refine r_get C K S 0 rfl rfl clOk_Mo 47 (by decide) wf_Mo_102 (v := .ref (ma 27)) rfl d_Mo_digit_157 ?_
        refine lv_iload hx hb d_Mo_digit_160 (lv_at hl 0 rfl) ?_
        refine r_iald C K S 2 rfl (i := (nI t)) (vp_in_nI (by omega) (by decide)) (v := (nI (Dv t))) (by rw [nI_clamp (by omega)]) d_Mo_digit_162 ?_
        refine lv_i2l (v := (lN (Dv t))) hx hb d_Mo_digit_163 (nI_l (by omega)) ?_
        refine lv_lmul hx hb d_Mo_digit_164 ?_
        rw [lN_mul]
        refine lv_lsub hx hb d_Mo_digit_165 ?_
        refine lv_lload hx hb d_Mo_digit_166 (lv_at hl 1 rfl) ?_
        refine lv_lsub hx hb d_Mo_digit_168 ?_
        rw [show lN (O (k9 + t)) - lN (q9 * Dv t) - lN b9 = lN (O (k9 + t)) - lN (q9 * Dv t + b9) from lsub2 _ _ _]
        refine lv_lstore (lv' := [(10, .long (lN (O (k9 + t)) - lN (q9 * Dv t + b9))), (9, .int (nI t)), (7, .long (lN b9)), (5, .long (lN q9)), (3, .long (lN (O (k9 + n) * 65536 + O (k9 + n - 1)))), (0, .ref h0), (1, .int (nI k9)), (2, .int (nI n))]) hx hb d_Mo_digit_169 hl (by decide) rfl (fun ls hl => ?_)
        refine lv_aload_n hx hb d_Mo_digit_171 rfl (lv_at hl 5 rfl) ?_
        refine r_get C K S 0 rfl rfl clOk_Mo 44 (by decide) wf_Mo_93 (v := .ref (ma 24)) rfl d_Mo_digit_172 ?_
        refine lv_iload_n hx hb d_Mo_digit_175 rfl (lv_at hl 6 rfl) ?_
        refine lv_iload hx hb d_Mo_digit_176 (lv_at hl 1 rfl) ?_
        refine lv_iadd hx hb d_Mo_digit_178 ?_
        rw [nI_add]
        refine lv_lload hx hb d_Mo_digit_179 (lv_at hl 0 rfl) ?_
        refine lv_ldc2 (v := 65535) hx hb C.2.2.2.1 (C.2.2.2.2.1 _ wk_Mo_276) d_Mo_digit_181 ?_
        refine lv_land hx hb d_Mo_digit_184 ?_
        rw [bw_and d1 (by omega)]
        refine lv_l2i (v := (nI (O (k9 + t) + bw (O (k9 + t)) (q9 * Dv t + b9) * 65536 - (q9 * Dv t + b9)))) hx hb d_Mo_digit_185 (lN_i _) ?_
        refine r_iast C K S 1 rfl (i := nI (k9 + t)) (x := (nI (O (k9 + t) + bw (O (k9 + t)) (q9 * Dv t + b9) * 65536 - (q9 * Dv t + b9)))) (vp_in_nI (by omega) (by decide)) (f' := fun i => nI (va_up U (k9 + t) (O (k9 + t) + bw (O (k9 + t)) (q9 * Dv t + b9) * 65536 - (q9 * Dv t + b9)) i)) (ws' := [(h0, .inr (8, moL ma iv co)), ((ma 24), .inl (k 0, 170, .inl (fun i => nI (va_up U (k9 + t) (O (k9 + t) + bw (O (k9 + t)) (q9 * Dv t + b9) * 65536 - (q9 * Dv t + b9)) i)))), ((ma 27), .inl (k 0, 170, .inl (fun i => nI (Dv i))))]) (upd_nI U (by omega) _) rfl d_Mo_digit_186 (fun H locs S => ?_)
        refine lv_lload hx hb d_Mo_digit_187 (lv_at hl 0 rfl) ?_
        refine lv_bipush (v := 16) hx hb d_Mo_digit_189 (by decide) ?_
        refine lv_lshr (v := ((lN (O (k9 + t)) - lN (q9 * Dv t + b9)) >>> ((16 : Int32).toInt64 &&& 63))) hx hb d_Mo_digit_191 rfl ?_
        refine lv_lneg hx hb d_Mo_digit_192 ?_
        rw [bw_shr d1 (by omega) (by decide)]
        refine lv_lstore (lv' := [(7, .long (lN (bw (O (k9 + t)) (q9 * Dv t + b9)))), (10, .long (lN (O (k9 + t)) - lN (q9 * Dv t + b9))), (9, .int (nI t)), (5, .long (lN q9)), (3, .long (lN (O (k9 + n) * 65536 + O (k9 + n - 1)))), (0, .ref h0), (1, .int (nI k9)), (2, .int (nI n))]) hx hb d_Mo_digit_193 hl (by decide) rfl (fun ls hl => ?_)
        refine lv_iinc (v := nI (t + 1)) (lv' := [(9, .int (nI (t + 1))), (7, .long (lN (bw (O (k9 + t)) (q9 * Dv t + b9)))), (10, .long (lN (O (k9 + t)) - lN (q9 * Dv t + b9))), (5, .long (lN q9)), (3, .long (lN (O (k9 + n) * 65536 + O (k9 + n - 1)))), (0, .ref h0), (1, .int (nI k9)), (2, .int (nI n))]) hx hb d_Mo_digit_195 hl (k := 2) rfl (nI_1 t) (by decide) rfl (fun ls hl => ?_)
        refine lv_goto (tgt := 138) hx hb d_Mo_digit_198 (by decide) ?_
        refine ih (t + 1) (by omega) (va_up U (k9 + t) (O (k9 + t) + bw (O (k9 + t)) (q9 * Dv t + b9) * 65536 - (q9 * Dv t + b9))) (bw (O (k9 + t)) (q9 * Dv t + b9)) ⟨?_, bw_le (by omega), ?_, ?_⟩ _ _ S ls (lv_sub hl [0, 1, 3, 4, 5, 6, 7] rfl)
        · rw [vl_s, vl_s, vl_s, va_up_self, vl_congr (h := (fun i => U (k9 + i))) t (fun i hi => va_up_ne U _ (by omega))]
          exact bw_step (O := (fun i => O (k9 + i))) d1 hI.1 (Dv t)
        · intro i hi
          by_cases y : i = k9 + t
          · rw [y, va_up_self]; exact hs.2
          · rw [va_up_ne U _ y]; exact hI.2.2.1 i hi
        · intro i hi
          rw [va_up_ne U _ (by omega)]
          exact hI.2.2.2 i (by omega)
    refine lv_lconst (v := 0) hx hb d_Mo_digit_132 (by decide) ?_
    refine lv_lstore (lv' := [(7, .long 0), (5, .long (lN q9)), (3, .long (lN (O (k9 + n) * 65536 + O (k9 + n - 1)))), (0, .ref h0), (1, .int (nI k9)), (2, .int (nI n))]) hx hb d_Mo_digit_133 hl (by decide) rfl (fun ls hl => ?_)
    refine lv_iconst (v := 0) hx hb d_Mo_digit_135 (by decide) ?_
    refine lv_istore (lv' := [(9, .int 0), (7, .long 0), (5, .long (lN q9)), (3, .long (lN (O (k9 + n) * 65536 + O (k9 + n - 1)))), (0, .ref h0), (1, .int (nI k9)), (2, .int (nI n))]) hx hb d_Mo_digit_136 hl (by decide) rfl (fun ls hl => ?_)
    exact off n 0 (by omega) O 0 ⟨by simp [vl], by omega, dO, fun _ _ => rfl⟩ _ _ S ls (lv_sub hl [0, 1, 2, 3, 4, 5, 6] rfl)
  have hN1 : n ≤ 1 → vl 65536 Dv n = Dv (n - 1) ∧ vl 65536 (fun i => O (k9 + i)) (n + 1) = (O (k9 + n) * 65536 + O (k9 + n - 1)) := fun h => by
    obtain rfl : n = 1 := by omega
    refine ⟨?_, ?_⟩
    · simp [vl]
    · simp [vl, Nat.add_comm]
  have guess : ∀ q9, vl 65536 (fun i => O (k9 + i)) (n + 1) / vl 65536 Dv n ≤ q9 → q9 ≤ 65535 → q9 * Dv (n - 1) ≤ (O (k9 + n) * 65536 + O (k9 + n - 1)) → ∀ ls : Array Slot, lv_has ls 14 [(5, .long (lN q9)), (3, .long (lN (O (k9 + n) * 65536 + O (k9 + n - 1)))), (0, .ref h0), (1, .int (nI k9)), (2, .int (nI n))] → ∀ (H : Heap) (locs : List Loc), Sw G A s.heap H locs [(h0, .inr (8, moL ma iv co)), ((ma 24), .inl (k 0, 170, .inl (fun i => nI (O i)))), ((ma 27), .inl (k 0, 170, .inl (fun i => nI (Dv i))))] → W p l e { frames := 0, cells := 0, slots := 0, locals := 0 } s m [Value.ref h0, Value.int (nI k9), Value.int (nI n)].toArray below meth c H locs 0 0 (MQ below (va_Qi (fun (r : Int32) (U : Nat → Nat) => r = nI (vl 65536 (fun i => O (k9 + i)) (n + 1) / vl 65536 Dv n) ∧ vl 65536 (fun i => U (k9 + i)) (n + 1) = vl 65536 (fun i => O (k9 + i)) (n + 1) % vl 65536 Dv n ∧ (∀ i, i < 170 → U i < 65536) ∧ ∀ i, i < k9 ∨ k9 + n < i → U i = O i) (Po G k A (fun U => [(h0, .inr (8, moL ma iv co)), ((ma 24), .inl (k 0, 170, .inl (fun i => nI (U i)))), ((ma 27), .inl (k 0, 170, .inl (fun i => nI (Dv i))))])) A) [Value.ref h0, Value.int (nI k9), Value.int (nI n)].toArray s 0 0 A) (F0 m 52 ls []) := by
    intro q9
    induction q9 with
    | zero =>
      intro g1 g2 g3 ls hl H locs S
      refine lv_iload_n hx hb d_Mo_digit_52 rfl (lv_at hl 4 rfl) ?_
      refine lv_iconst (v := 1) hx hb d_Mo_digit_53 (by decide) ?_
      refine lv_icmp_le (tgt := 132) hx hb d_Mo_digit_54 (by decide) (fun hg => ?_) (fun hg => ?_)
      · have h9 := hN1 ((nI_leI (a := n) (b := 1) (by omega) (by omega)).mp hg)
        have e3 := congrArg (fun y => 0 * y) h9.1
        have e3 : 0 * vl 65536 Dv n = 0 * Dv (n - 1) := e3
        have e4 := h9.2
        exact fin 0 g1 g2 (by omega) ls hl _ _ S
      have n2 : 2 ≤ n := Nat.lt_of_not_le (fun z => hg ((nI_leI (a := n) (b := 1) (by omega) (by omega)).mpr z))
      obtain ⟨P, w, z, s1, s2, s3, s4, s5⟩ := dg_shape n2 hn hk dO dD
      have m1 : 0 * Dv (n - 2) ≤ 65535 * 65535 := Nat.mul_le_mul g2 (by omega)
      have m2 : 0 * (Dv (n - 1) * 65536 + Dv (n - 2)) = 0 * Dv (n - 1) * 65536 + 0 * Dv (n - 2) := by rw [Nat.mul_add, ← Nat.mul_assoc]
      refine lv_lload hx hb d_Mo_digit_57 (lv_at hl 0 rfl) ?_
      refine lv_aload_n hx hb d_Mo_digit_59 rfl (lv_at hl 2 rfl) ?_
      refine r_get C K S 0 rfl rfl clOk_Mo 47 (by decide) wf_Mo_102 (v := .ref (ma 27)) rfl d_Mo_digit_60 ?_
      refine lv_iload_n hx hb d_Mo_digit_63 rfl (lv_at hl 4 rfl) ?_
      refine lv_iconst (v := 2) hx hb d_Mo_digit_64 (by decide) ?_
      refine lv_isub hx hb d_Mo_digit_65 ?_
      rw [show nI (n) - 2 = nI (n - 2) from pk_sub (a := n) (b := 2) (by omega)]
      refine r_iald C K S 2 rfl (i := nI (n - 2)) (vp_in_nI (by omega) (by decide)) (v := (nI (Dv (n - 2)))) (by rw [nI_clamp (by omega)]) d_Mo_digit_66 ?_
      refine lv_i2l (v := (lN (Dv (n - 2)))) hx hb d_Mo_digit_67 (nI_l (by omega)) ?_
      refine lv_lmul hx hb d_Mo_digit_68 ?_
      rw [lN_mul]
      refine lv_lload_n hx hb d_Mo_digit_69 rfl (lv_at hl 1 rfl) ?_
      refine lv_lload hx hb d_Mo_digit_70 (lv_at hl 0 rfl) ?_
      refine lv_aload_n hx hb d_Mo_digit_72 rfl (lv_at hl 2 rfl) ?_
      refine r_get C K S 0 rfl rfl clOk_Mo 47 (by decide) wf_Mo_102 (v := .ref (ma 27)) rfl d_Mo_digit_73 ?_
      refine lv_iload_n hx hb d_Mo_digit_76 rfl (lv_at hl 4 rfl) ?_
      refine lv_iconst (v := 1) hx hb d_Mo_digit_77 (by decide) ?_
      refine lv_isub hx hb d_Mo_digit_78 ?_
      rw [show nI (n) - 1 = nI (n - 1) from pk_sub (a := n) (b := 1) (by omega)]
      refine r_iald C K S 2 rfl (i := nI (n - 1)) (vp_in_nI (by omega) (by decide)) (v := (nI (Dv (n - 1)))) (by rw [nI_clamp (by omega)]) d_Mo_digit_79 ?_
      refine lv_i2l (v := (lN (Dv (n - 1)))) hx hb d_Mo_digit_80 (nI_l (by omega)) ?_
      refine lv_lmul hx hb d_Mo_digit_81 ?_
      rw [lN_mul]
      refine lv_lsub hx hb d_Mo_digit_82 ?_
      rw [lN_sub g3]
      refine lv_bipush (v := 16) hx hb d_Mo_digit_83 (by decide) ?_
      refine lv_lshl (v := (lN (((O (k9 + n) * 65536 + O (k9 + n - 1)) - 0 * Dv (n - 1)) * 65536))) hx hb d_Mo_digit_85 (g_shl (k := 16) (p := 65536) (by decide) (by decide) (by decide) (by omega)) ?_
      refine lv_aload_n hx hb d_Mo_digit_86 rfl (lv_at hl 2 rfl) ?_
      refine r_get C K S 0 rfl rfl clOk_Mo 44 (by decide) wf_Mo_93 (v := .ref (ma 24)) rfl d_Mo_digit_87 ?_
      refine lv_iload_n hx hb d_Mo_digit_90 rfl (lv_at hl 3 rfl) ?_
      refine lv_iload_n hx hb d_Mo_digit_91 rfl (lv_at hl 4 rfl) ?_
      refine lv_iadd hx hb d_Mo_digit_92 ?_
      rw [nI_add]
      refine lv_iconst (v := 2) hx hb d_Mo_digit_93 (by decide) ?_
      refine lv_isub hx hb d_Mo_digit_94 ?_
      rw [show nI (k9 + n) - 2 = nI (k9 + n - 2) from pk_sub (a := k9 + n) (b := 2) (by omega)]
      refine r_iald C K S 1 rfl (i := nI (k9 + n - 2)) (vp_in_nI (by omega) (by decide)) (v := (nI (O (k9 + n - 2)))) (by rw [nI_clamp (by omega)]) d_Mo_digit_95 ?_
      refine lv_i2l (v := (lN (O (k9 + n - 2)))) hx hb d_Mo_digit_96 (nI_l (by omega)) ?_
      refine lv_lor hx hb d_Mo_digit_97 ?_
      rw [show lN (((O (k9 + n) * 65536 + O (k9 + n - 1)) - 0 * Dv (n - 1)) * 65536) ||| lN (O (k9 + n - 2)) = lN (((O (k9 + n) * 65536 + O (k9 + n - 1)) - 0 * Dv (n - 1)) * 65536 + O (k9 + n - 2)) from g_or (k := 16) (p := 65536) (by decide) (by omega) (by omega)]
      refine W.lcmp hx hb d_Mo_digit_98 ?_
      refine lv_if_le (tgt := 132) hx hb d_Mo_digit_99 (by decide) (fun hc => ?_) (fun hc => ?_)
      · have h8 : 0 * Dv (n - 2) ≤ (((O (k9 + n) * 65536 + O (k9 + n - 1)) - 0 * Dv (n - 1)) * 65536 + O (k9 + n - 2)) := (pk_lLE (by omega) (by omega)).mp ((lg_cmp_le _ _).mp hc)
        exact fin 0 g1 g2 (by rw [s4, s5]; exact kn_upper hv s2 (by omega) (by omega)) ls hl _ _ S
      have h8 : ¬ 0 * Dv (n - 2) ≤ (((O (k9 + n) * 65536 + O (k9 + n - 1)) - 0 * Dv (n - 1)) * 65536 + O (k9 + n - 2)) := fun y => hc ((lg_cmp_le _ _).mpr ((pk_lLE (by omega) (by omega)).mpr y))
      exact absurd (by rw [Nat.zero_mul]; exact Nat.zero_le _) h8
    | succ q9 ih =>
      intro g1 g2 g3 ls hl H locs S
      refine lv_iload_n hx hb d_Mo_digit_52 rfl (lv_at hl 4 rfl) ?_
      refine lv_iconst (v := 1) hx hb d_Mo_digit_53 (by decide) ?_
      refine lv_icmp_le (tgt := 132) hx hb d_Mo_digit_54 (by decide) (fun hg => ?_) (fun hg => ?_)
      · have h9 := hN1 ((nI_leI (a := n) (b := 1) (by omega) (by omega)).mp hg)
        have e3 := congrArg (fun y => (q9 + 1) * y) h9.1
        have e3 : (q9 + 1) * vl 65536 Dv n = (q9 + 1) * Dv (n - 1) := e3
        have e4 := h9.2
        exact fin (q9 + 1) g1 g2 (by omega) ls hl _ _ S
      have n2 : 2 ≤ n := Nat.lt_of_not_le (fun z => hg ((nI_leI (a := n) (b := 1) (by omega) (by omega)).mpr z))
      obtain ⟨P, w, z, s1, s2, s3, s4, s5⟩ := dg_shape n2 hn hk dO dD
      have m1 : (q9 + 1) * Dv (n - 2) ≤ 65535 * 65535 := Nat.mul_le_mul g2 (by omega)
      have m2 : (q9 + 1) * (Dv (n - 1) * 65536 + Dv (n - 2)) = (q9 + 1) * Dv (n - 1) * 65536 + (q9 + 1) * Dv (n - 2) := by rw [Nat.mul_add, ← Nat.mul_assoc]
      refine lv_lload hx hb d_Mo_digit_57 (lv_at hl 0 rfl) ?_
      refine lv_aload_n hx hb d_Mo_digit_59 rfl (lv_at hl 2 rfl) ?_
      refine r_get C K S 0 rfl rfl clOk_Mo 47 (by decide) wf_Mo_102 (v := .ref (ma 27)) rfl d_Mo_digit_60 ?_
      refine lv_iload_n hx hb d_Mo_digit_63 rfl (lv_at hl 4 rfl) ?_
      refine lv_iconst (v := 2) hx hb d_Mo_digit_64 (by decide) ?_
      refine lv_isub hx hb d_Mo_digit_65 ?_
      rw [show nI (n) - 2 = nI (n - 2) from pk_sub (a := n) (b := 2) (by omega)]
      refine r_iald C K S 2 rfl (i := nI (n - 2)) (vp_in_nI (by omega) (by decide)) (v := (nI (Dv (n - 2)))) (by rw [nI_clamp (by omega)]) d_Mo_digit_66 ?_
      refine lv_i2l (v := (lN (Dv (n - 2)))) hx hb d_Mo_digit_67 (nI_l (by omega)) ?_
      refine lv_lmul hx hb d_Mo_digit_68 ?_
      rw [lN_mul]
      refine lv_lload_n hx hb d_Mo_digit_69 rfl (lv_at hl 1 rfl) ?_
      refine lv_lload hx hb d_Mo_digit_70 (lv_at hl 0 rfl) ?_
      refine lv_aload_n hx hb d_Mo_digit_72 rfl (lv_at hl 2 rfl) ?_
      refine r_get C K S 0 rfl rfl clOk_Mo 47 (by decide) wf_Mo_102 (v := .ref (ma 27)) rfl d_Mo_digit_73 ?_
      refine lv_iload_n hx hb d_Mo_digit_76 rfl (lv_at hl 4 rfl) ?_
      refine lv_iconst (v := 1) hx hb d_Mo_digit_77 (by decide) ?_
      refine lv_isub hx hb d_Mo_digit_78 ?_
      rw [show nI (n) - 1 = nI (n - 1) from pk_sub (a := n) (b := 1) (by omega)]
      refine r_iald C K S 2 rfl (i := nI (n - 1)) (vp_in_nI (by omega) (by decide)) (v := (nI (Dv (n - 1)))) (by rw [nI_clamp (by omega)]) d_Mo_digit_79 ?_
      refine lv_i2l (v := (lN (Dv (n - 1)))) hx hb d_Mo_digit_80 (nI_l (by omega)) ?_
      refine lv_lmul hx hb d_Mo_digit_81 ?_
      rw [lN_mul]
      refine lv_lsub hx hb d_Mo_digit_82 ?_
      rw [lN_sub g3]
      refine lv_bipush (v := 16) hx hb d_Mo_digit_83 (by decide) ?_
      refine lv_lshl (v := (lN (((O (k9 + n) * 65536 + O (k9 + n - 1)) - (q9 + 1) * Dv (n - 1)) * 65536))) hx hb d_Mo_digit_85 (g_shl (k := 16) (p := 65536) (by decide) (by decide) (by decide) (by omega)) ?_
      refine lv_aload_n hx hb d_Mo_digit_86 rfl (lv_at hl 2 rfl) ?_
      refine r_get C K S 0 rfl rfl clOk_Mo 44 (by decide) wf_Mo_93 (v := .ref (ma 24)) rfl d_Mo_digit_87 ?_
      refine lv_iload_n hx hb d_Mo_digit_90 rfl (lv_at hl 3 rfl) ?_
      refine lv_iload_n hx hb d_Mo_digit_91 rfl (lv_at hl 4 rfl) ?_
      refine lv_iadd hx hb d_Mo_digit_92 ?_
      rw [nI_add]
      refine lv_iconst (v := 2) hx hb d_Mo_digit_93 (by decide) ?_
      refine lv_isub hx hb d_Mo_digit_94 ?_
      rw [show nI (k9 + n) - 2 = nI (k9 + n - 2) from pk_sub (a := k9 + n) (b := 2) (by omega)]
      refine r_iald C K S 1 rfl (i := nI (k9 + n - 2)) (vp_in_nI (by omega) (by decide)) (v := (nI (O (k9 + n - 2)))) (by rw [nI_clamp (by omega)]) d_Mo_digit_95 ?_
      refine lv_i2l (v := (lN (O (k9 + n - 2)))) hx hb d_Mo_digit_96 (nI_l (by omega)) ?_
      refine lv_lor hx hb d_Mo_digit_97 ?_
      rw [show lN (((O (k9 + n) * 65536 + O (k9 + n - 1)) - (q9 + 1) * Dv (n - 1)) * 65536) ||| lN (O (k9 + n - 2)) = lN (((O (k9 + n) * 65536 + O (k9 + n - 1)) - (q9 + 1) * Dv (n - 1)) * 65536 + O (k9 + n - 2)) from g_or (k := 16) (p := 65536) (by decide) (by omega) (by omega)]
      refine W.lcmp hx hb d_Mo_digit_98 ?_
      refine lv_if_le (tgt := 132) hx hb d_Mo_digit_99 (by decide) (fun hc => ?_) (fun hc => ?_)
      · have h8 : (q9 + 1) * Dv (n - 2) ≤ (((O (k9 + n) * 65536 + O (k9 + n - 1)) - (q9 + 1) * Dv (n - 1)) * 65536 + O (k9 + n - 2)) := (pk_lLE (by omega) (by omega)).mp ((lg_cmp_le _ _).mp hc)
        exact fin (q9 + 1) g1 g2 (by rw [s4, s5]; exact kn_upper hv s2 (by omega) (by omega)) ls hl _ _ S
      have h8 : ¬ (q9 + 1) * Dv (n - 2) ≤ (((O (k9 + n) * 65536 + O (k9 + n - 1)) - (q9 + 1) * Dv (n - 1)) * 65536 + O (k9 + n - 2)) := fun y => hc ((lg_cmp_le _ _).mpr ((pk_lLE (by omega) (by omega)).mpr y))
      refine lv_lload_n hx hb d_Mo_digit_102 rfl (lv_at hl 1 rfl) ?_
      refine lv_lload hx hb d_Mo_digit_103 (lv_at hl 0 rfl) ?_
      refine lv_aload_n hx hb d_Mo_digit_105 rfl (lv_at hl 2 rfl) ?_
      refine r_get C K S 0 rfl rfl clOk_Mo 47 (by decide) wf_Mo_102 (v := .ref (ma 27)) rfl d_Mo_digit_106 ?_
      refine lv_iload_n hx hb d_Mo_digit_109 rfl (lv_at hl 4 rfl) ?_
      refine lv_iconst (v := 1) hx hb d_Mo_digit_110 (by decide) ?_
      refine lv_isub hx hb d_Mo_digit_111 ?_
      rw [show nI (n) - 1 = nI (n - 1) from pk_sub (a := n) (b := 1) (by omega)]
      refine r_iald C K S 2 rfl (i := nI (n - 1)) (vp_in_nI (by omega) (by decide)) (v := (nI (Dv (n - 1)))) (by rw [nI_clamp (by omega)]) d_Mo_digit_112 ?_
      refine lv_i2l (v := (lN (Dv (n - 1)))) hx hb d_Mo_digit_113 (nI_l (by omega)) ?_
      refine lv_lmul hx hb d_Mo_digit_114 ?_
      rw [lN_mul]
      refine lv_lsub hx hb d_Mo_digit_115 ?_
      rw [lN_sub g3]
      refine lv_ldc2 (v := 65536) hx hb C.2.2.2.1 (C.2.2.2.2.1 _ wk_Mo_326) d_Mo_digit_116 ?_
      refine W.lcmp hx hb d_Mo_digit_119 ?_
      refine lv_if_ge (tgt := 132) hx hb d_Mo_digit_120 (by decide) (fun hd => ?_) (fun hd => ?_)
      · have h7 : 65536 ≤ ((O (k9 + n) * 65536 + O (k9 + n - 1)) - (q9 + 1) * Dv (n - 1)) := (pk_lLE (a := 65536) (by omega) (by omega)).mp ((lg_cmp_ge _ _).mp hd)
        exact absurd (by omega) h8
      refine lv_lload hx hb d_Mo_digit_123 (lv_at hl 0 rfl) ?_
      refine lv_lconst (v := 1) hx hb d_Mo_digit_125 (by decide) ?_
      refine lv_lsub hx hb d_Mo_digit_126 ?_
      rw [show lN (q9 + 1) - 1 = lN q9 from lN_sub (a := q9 + 1) (b := 1) (by omega)]
      refine lv_lstore (lv' := [(5, .long (lN q9)), (3, .long (lN (O (k9 + n) * 65536 + O (k9 + n - 1)))), (0, .ref h0), (1, .int (nI k9)), (2, .int (nI n))]) hx hb d_Mo_digit_127 hl (by decide) rfl (fun ls hl => ?_)
      refine lv_goto (tgt := 52) hx hb d_Mo_digit_129 (by decide) ?_
      have h6 : vl 65536 (fun i => O (k9 + i)) (n + 1) / vl 65536 Dv n < q9 + 1 := by rw [s4, s5]; exact kn_down s1 s3 (by omega)
      have h5 : q9 * Dv (n - 1) ≤ (q9 + 1) * Dv (n - 1) := Nat.mul_le_mul_right _ (by omega)
      exact ih (by omega) (by omega) (by omega) ls (lv_sub hl [0, 1, 2, 3, 4] rfl) _ _ S
  refine lv_aload_n hx hb d_Mo_digit_0 rfl (lv_at hl 0 rfl) ?_
  refine r_get C K S 0 rfl rfl clOk_Mo 44 (by decide) wf_Mo_93 (v := .ref (ma 24)) rfl d_Mo_digit_1 ?_
  refine lv_iload_n hx hb d_Mo_digit_4 rfl (lv_at hl 1 rfl) ?_
  refine lv_iload_n hx hb d_Mo_digit_5 rfl (lv_at hl 2 rfl) ?_
  refine lv_iadd hx hb d_Mo_digit_6 ?_
  rw [nI_add]
  refine r_iald C K S 1 rfl (i := nI (k9 + n)) (vp_in_nI (by omega) (by decide)) (v := (nI (O (k9 + n)))) (by rw [nI_clamp (by omega)]) d_Mo_digit_7 ?_
  refine lv_i2l (v := (lN (O (k9 + n)))) hx hb d_Mo_digit_8 (nI_l (by omega)) ?_
  refine lv_bipush (v := 16) hx hb d_Mo_digit_9 (by decide) ?_
  refine lv_lshl (v := (lN (O (k9 + n) * 65536))) hx hb d_Mo_digit_11 (g_shl (k := 16) (p := 65536) (by decide) (by decide) (by decide) (by omega)) ?_
  refine lv_aload_n hx hb d_Mo_digit_12 rfl (lv_at hl 0 rfl) ?_
  refine r_get C K S 0 rfl rfl clOk_Mo 44 (by decide) wf_Mo_93 (v := .ref (ma 24)) rfl d_Mo_digit_13 ?_
  refine lv_iload_n hx hb d_Mo_digit_16 rfl (lv_at hl 1 rfl) ?_
  refine lv_iload_n hx hb d_Mo_digit_17 rfl (lv_at hl 2 rfl) ?_
  refine lv_iadd hx hb d_Mo_digit_18 ?_
  rw [nI_add]
  refine lv_iconst (v := 1) hx hb d_Mo_digit_19 (by decide) ?_
  refine lv_isub hx hb d_Mo_digit_20 ?_
  rw [show nI (k9 + n) - 1 = nI (k9 + n - 1) from pk_sub (a := k9 + n) (b := 1) (by omega)]
  refine r_iald C K S 1 rfl (i := nI (k9 + n - 1)) (vp_in_nI (by omega) (by decide)) (v := (nI (O (k9 + n - 1)))) (by rw [nI_clamp (by omega)]) d_Mo_digit_21 ?_
  refine lv_i2l (v := (lN (O (k9 + n - 1)))) hx hb d_Mo_digit_22 (nI_l (by omega)) ?_
  refine lv_lor hx hb d_Mo_digit_23 ?_
  rw [show lN (O (k9 + n) * 65536) ||| lN (O (k9 + n - 1)) = lN (O (k9 + n) * 65536 + O (k9 + n - 1)) from g_or (k := 16) (p := 65536) (by decide) (by omega) (by omega)]
  refine lv_lstore_n (lv' := [(3, .long (lN (O (k9 + n) * 65536 + O (k9 + n - 1)))), (0, .ref h0), (1, .int (nI k9)), (2, .int (nI n))]) hx hb d_Mo_digit_24 rfl hl (by decide) rfl (fun ls hl => ?_)
  refine lv_lload_n hx hb d_Mo_digit_25 rfl (lv_at hl 0 rfl) ?_
  refine lv_aload_n hx hb d_Mo_digit_26 rfl (lv_at hl 1 rfl) ?_
  refine r_get C K S 0 rfl rfl clOk_Mo 47 (by decide) wf_Mo_102 (v := .ref (ma 27)) rfl d_Mo_digit_27 ?_
  refine lv_iload_n hx hb d_Mo_digit_30 rfl (lv_at hl 3 rfl) ?_
  refine lv_iconst (v := 1) hx hb d_Mo_digit_31 (by decide) ?_
  refine lv_isub hx hb d_Mo_digit_32 ?_
  rw [show nI (n) - 1 = nI (n - 1) from pk_sub (a := n) (b := 1) (by omega)]
  refine r_iald C K S 2 rfl (i := nI (n - 1)) (vp_in_nI (by omega) (by decide)) (v := (nI (Dv (n - 1)))) (by rw [nI_clamp (by omega)]) d_Mo_digit_33 ?_
  refine lv_i2l (v := (lN (Dv (n - 1)))) hx hb d_Mo_digit_34 (nI_l (by omega)) ?_
  refine lv_ldiv hx hb d_Mo_digit_35 (fun e9 => by have := (pk_lEQ (a := Dv (n - 1)) (b := 0) (by omega) (by omega)).mp e9; omega) ?_
  rw [pk_lDiv (a := (O (k9 + n) * 65536 + O (k9 + n - 1))) (b := Dv (n - 1)) (by omega) hv (by omega)]
  refine lv_lstore (lv' := [(5, .long (lN ((O (k9 + n) * 65536 + O (k9 + n - 1)) / Dv (n - 1)))), (3, .long (lN (O (k9 + n) * 65536 + O (k9 + n - 1)))), (0, .ref h0), (1, .int (nI k9)), (2, .int (nI n))]) hx hb d_Mo_digit_36 hl (by decide) rfl (fun ls hl => ?_)
  refine lv_lload hx hb d_Mo_digit_38 (lv_at hl 0 rfl) ?_
  refine lv_ldc2 (v := 65535) hx hb C.2.2.2.1 (C.2.2.2.2.1 _ wk_Mo_276) d_Mo_digit_40 ?_
  refine W.lcmp hx hb d_Mo_digit_43 ?_
  have hQ : vl 65536 (fun i => O (k9 + i)) (n + 1) / vl 65536 Dv n ≤ (O (k9 + n) * 65536 + O (k9 + n - 1)) / Dv (n - 1) := by
    by_cases h : n ≤ 1
    · rw [(hN1 h).1, (hN1 h).2]; exact Nat.le_refl _
    · obtain ⟨P, w, z, s1, s2, s3, s4, s5⟩ := dg_shape (by omega) hn hk dO dD
      rw [s4, s5]
      exact kn_lower0 hv s1 (by decide) b5 s3
  have hdl := Nat.div_le_self (O (k9 + n) * 65536 + O (k9 + n - 1)) (Dv (n - 1))
  have hQ2 : vl 65536 (fun i => O (k9 + i)) (n + 1) / vl 65536 Dv n ≤ 65535 := by
    have : vl 65536 (fun i => O (k9 + i)) (n + 1) / vl 65536 Dv n < 65536 := (Nat.div_lt_iff_lt_mul (Nat.pos_of_ne_zero (fun e9 => by rw [e9] at hR; omega))).mpr hR
    omega
  have hm := Nat.div_mul_le_self (O (k9 + n) * 65536 + O (k9 + n - 1)) (Dv (n - 1))
  refine lv_if_le (tgt := 52) hx hb d_Mo_digit_44 (by decide) (fun hg => ?_) (fun hg => ?_)
  · have h5 : (O (k9 + n) * 65536 + O (k9 + n - 1)) / Dv (n - 1) ≤ 65535 := (pk_lLE (a := (O (k9 + n) * 65536 + O (k9 + n - 1)) / Dv (n - 1)) (b := 65535) (by omega) (by omega)).mp ((lg_cmp_le _ _).mp hg)
    exact guess _ hQ h5 hm ls (lv_sub hl [0, 1, 2, 3, 4] rfl) _ _ S
  · refine lv_ldc2 (v := 65535) hx hb C.2.2.2.1 (C.2.2.2.2.1 _ wk_Mo_276) d_Mo_digit_47 ?_
    refine lv_lstore (lv' := [(5, .long 65535), (3, .long (lN (O (k9 + n) * 65536 + O (k9 + n - 1)))), (0, .ref h0), (1, .int (nI k9)), (2, .int (nI n))]) hx hb d_Mo_digit_50 hl (by decide) rfl (fun ls hl => ?_)
    have h5 : ¬ (O (k9 + n) * 65536 + O (k9 + n - 1)) / Dv (n - 1) ≤ 65535 := fun z => hg ((lg_cmp_le _ _).mpr ((pk_lLE (a := (O (k9 + n) * 65536 + O (k9 + n - 1)) / Dv (n - 1)) (b := 65535) (by omega) (by omega)).mpr z))
    have h6 : 65535 * Dv (n - 1) ≤ (O (k9 + n) * 65536 + O (k9 + n - 1)) / Dv (n - 1) * Dv (n - 1) := Nat.mul_le_mul_right _ (by omega)
    exact guess 65535 hQ2 (by omega) (by omega) ls (lv_sub hl [0, 1, 2, 3, 4] rfl) _ _ S
