section
/-! THE CLAIM OUT OF ONE WALK OF THE LAW'S BODY. Your part is whole_start (and what it stands on); all else here is the same for every law, but numbers. -/
def R_law : String := "PotentialBenchLaw"
def lw_P (b : Addr) (xs : List Int32) (args : Array Value) (s : State) : Prop := args = #[.ref b] ∧ s.IntsAt b xs ∧ xs.length ≤ 3072 ∧ (Jvm.Cond.and given_1 narrow_1).before args s = true
def lw_Q (_ : Array Value) (s : State) (o : Outcome) (t : State) : Prop := o = .returned (some (.int 1)) ∧ Framed s o t [] 600000 7302250
def lw_Z (below : List Frame) (a : Array Value) (s : State) : State → Prop := fun t => ∃ o, t.status = .running ∧ Ended t below o ∧ lw_Q a s o t
/-- the law's own end, with 1 on the stack, nothing written that was there before, its room as the claim has it -/
theorem lw_ret {p : Program} {l : Launch} {e : Env} {s : State} {m : MethodId} {below : List Frame} {meth : Method} {c : Code} {b : Nat} (hx : p.tables.exec = Jvm.exec) (hb : c.code = code) (hr : meth.sig.returnType = ret) (hlocks : meth.locks = false) {pc : Nat} {H : Heap} {ls : Array Slot} (hdg : decode code pc = .ok (.ireturn, 1)) : W p l e room_1 s m #[Value.ref b] below meth c H [] 600000 7302250 (lw_Z below #[Value.ref b] s) (F0 m pc ls [.int 1]) := by
  intro T hT X
  obtain ⟨fs, hret, hrun, hended, hW, hframe⟩ := X.leave (v := some (.int 1)) (hlocks := hlocks) (fun h => by rw [hr] at h; cases h)
  have hmeth' : T.vm.method? m = some meth := X.method'
  refine ⟨T.setFrames fs, ?_, .returned (some (.int 1)), hrun, hended, rfl, ⟨_, rfl⟩, hW, hframe⟩
  jvm_step X.here [X.here.top, hx, hb, hdg, hmeth', hr, ret, narrow_b1]
  (try refine ⟨rfl, ?_⟩); (try refine ⟨rfl, ?_⟩)
  first | (intro acts; rw [hret _ acts rfl rfl rfl]) | rw [hret _ _ rfl rfl rfl]
  exact Steps.refl _
/-- what holds at the law's entry: the machine, the code, the tables' words (any of lw_tbl by 'hts w (by decide +kernel)'), the script of L ints xs at the cell b, what the Statement gives of the start (any of its parts by flat_of_before) -/
def lw_At (p : Program) (s : State) (m : MethodId) (meth : Method) (c : Code) (b L : Nat) (xs : Nat → Int32) : Prop :=
  p.tables.exec = Jvm.exec ∧ c.code = code ∧ meth.sig.returnType = ret ∧ c.maxLocals = 4 ∧ s.vm.findClass R_law = some m.cls ∧ (∀ w ∈ lw_tbl, w.before #[Value.ref b] s = true) ∧ va_X b L xs s s.heap ∧ b < s.heap.size ∧ meth.locks = false ∧ (Jvm.Cond.and given_1 narrow_1).before #[Value.ref b] s = true
theorem d_La_law_0 : decode code 0 = .ok (.new 7, 3) := by decide +kernel
theorem d_La_law_3 : decode code 3 = .ok (.dup, 1) := by decide +kernel
theorem d_La_law_4 : decode code 4 = .ok (.invokespecial 9, 3) := by decide +kernel
theorem d_La_law_7 : decode code 7 = .ok (.astore_n 1, 1) := by decide +kernel
theorem d_La_law_8 : decode code 8 = .ok (.new 10, 3) := by decide +kernel
theorem d_La_law_11 : decode code 11 = .ok (.dup, 1) := by decide +kernel
theorem d_La_law_12 : decode code 12 = .ok (.invokespecial 12, 3) := by decide +kernel
theorem d_La_law_15 : decode code 15 = .ok (.astore_n 2, 1) := by decide +kernel
theorem d_La_law_16 : decode code 16 = .ok (.iconst 0, 1) := by decide +kernel
theorem d_La_law_17 : decode code 17 = .ok (.istore_n 3, 1) := by decide +kernel
theorem d_La_law_18 : decode code 18 = .ok (.iload_n 3, 1) := by decide +kernel
theorem d_La_law_19 : decode code 19 = .ok (.aload_n 0, 1) := by decide +kernel
theorem d_La_law_20 : decode code 20 = .ok (.arraylength, 1) := by decide +kernel
theorem d_La_law_21 : decode code 21 = .ok (.bipush 6, 2) := by decide +kernel
theorem d_La_law_23 : decode code 23 = .ok (.isub, 1) := by decide +kernel
theorem d_La_law_24 : decode code 24 = .ok (.if_icmp .gt 451, 3) := by decide +kernel
theorem d_La_law_27 : decode code 27 = .ok (.aload_n 0, 1) := by decide +kernel
theorem d_La_law_28 : decode code 28 = .ok (.iload_n 3, 1) := by decide +kernel
theorem d_La_law_29 : decode code 29 = .ok (.iaload, 1) := by decide +kernel
theorem d_La_law_30 : decode code 30 = .ok (.bipush 15, 2) := by decide +kernel
theorem d_La_law_32 : decode code 32 = .ok (.iand, 1) := by decide +kernel
theorem d_La_law_33 : decode code 33 = .ok (.tableswitch 436 0 12 #[67, 90, 123, 156, 169, 182, 235, 248, 261, 274, 297, 320, 353], 67) := by decide +kernel
theorem d_La_law_100 : decode code 100 = .ok (.aload_n 1, 1) := by decide +kernel
theorem d_La_law_101 : decode code 101 = .ok (.aload_n 0, 1) := by decide +kernel
theorem d_La_law_102 : decode code 102 = .ok (.iload_n 3, 1) := by decide +kernel
theorem d_La_law_103 : decode code 103 = .ok (.iconst 1, 1) := by decide +kernel
theorem d_La_law_104 : decode code 104 = .ok (.iadd, 1) := by decide +kernel
theorem d_La_law_105 : decode code 105 = .ok (.iaload, 1) := by decide +kernel
theorem d_La_law_106 : decode code 106 = .ok (.invokevirtual 13, 3) := by decide +kernel
theorem d_La_law_109 : decode code 109 = .ok (.pop, 1) := by decide +kernel
theorem d_La_law_110 : decode code 110 = .ok (.aload_n 2, 1) := by decide +kernel
theorem d_La_law_111 : decode code 111 = .ok (.aload_n 0, 1) := by decide +kernel
theorem d_La_law_112 : decode code 112 = .ok (.iload_n 3, 1) := by decide +kernel
theorem d_La_law_113 : decode code 113 = .ok (.iconst 1, 1) := by decide +kernel
theorem d_La_law_114 : decode code 114 = .ok (.iadd, 1) := by decide +kernel
theorem d_La_law_115 : decode code 115 = .ok (.iaload, 1) := by decide +kernel
theorem d_La_law_116 : decode code 116 = .ok (.invokevirtual 17, 3) := by decide +kernel
theorem d_La_law_119 : decode code 119 = .ok (.pop, 1) := by decide +kernel
theorem d_La_law_120 : decode code 120 = .ok (.goto 349, 3) := by decide +kernel
theorem d_La_law_123 : decode code 123 = .ok (.aload_n 1, 1) := by decide +kernel
theorem d_La_law_124 : decode code 124 = .ok (.aload_n 0, 1) := by decide +kernel
theorem d_La_law_125 : decode code 125 = .ok (.iload_n 3, 1) := by decide +kernel
theorem d_La_law_126 : decode code 126 = .ok (.iconst 1, 1) := by decide +kernel
theorem d_La_law_127 : decode code 127 = .ok (.iadd, 1) := by decide +kernel
theorem d_La_law_128 : decode code 128 = .ok (.iaload, 1) := by decide +kernel
theorem d_La_law_129 : decode code 129 = .ok (.aload_n 0, 1) := by decide +kernel
theorem d_La_law_130 : decode code 130 = .ok (.iload_n 3, 1) := by decide +kernel
theorem d_La_law_131 : decode code 131 = .ok (.iconst 2, 1) := by decide +kernel
theorem d_La_law_132 : decode code 132 = .ok (.iadd, 1) := by decide +kernel
theorem d_La_law_133 : decode code 133 = .ok (.iaload, 1) := by decide +kernel
theorem d_La_law_134 : decode code 134 = .ok (.invokevirtual 18, 3) := by decide +kernel
theorem d_La_law_137 : decode code 137 = .ok (.pop, 1) := by decide +kernel
theorem d_La_law_138 : decode code 138 = .ok (.aload_n 2, 1) := by decide +kernel
theorem d_La_law_139 : decode code 139 = .ok (.aload_n 0, 1) := by decide +kernel
theorem d_La_law_140 : decode code 140 = .ok (.iload_n 3, 1) := by decide +kernel
theorem d_La_law_141 : decode code 141 = .ok (.iconst 1, 1) := by decide +kernel
theorem d_La_law_142 : decode code 142 = .ok (.iadd, 1) := by decide +kernel
theorem d_La_law_143 : decode code 143 = .ok (.iaload, 1) := by decide +kernel
theorem d_La_law_144 : decode code 144 = .ok (.aload_n 0, 1) := by decide +kernel
theorem d_La_law_145 : decode code 145 = .ok (.iload_n 3, 1) := by decide +kernel
theorem d_La_law_146 : decode code 146 = .ok (.iconst 2, 1) := by decide +kernel
theorem d_La_law_147 : decode code 147 = .ok (.iadd, 1) := by decide +kernel
theorem d_La_law_148 : decode code 148 = .ok (.iaload, 1) := by decide +kernel
theorem d_La_law_149 : decode code 149 = .ok (.invokevirtual 22, 3) := by decide +kernel
theorem d_La_law_152 : decode code 152 = .ok (.pop, 1) := by decide +kernel
theorem d_La_law_153 : decode code 153 = .ok (.goto 316, 3) := by decide +kernel
theorem d_La_law_156 : decode code 156 = .ok (.aload_n 1, 1) := by decide +kernel
theorem d_La_law_157 : decode code 157 = .ok (.aload_n 0, 1) := by decide +kernel
theorem d_La_law_158 : decode code 158 = .ok (.iload_n 3, 1) := by decide +kernel
theorem d_La_law_159 : decode code 159 = .ok (.iconst 1, 1) := by decide +kernel
theorem d_La_law_160 : decode code 160 = .ok (.iadd, 1) := by decide +kernel
theorem d_La_law_161 : decode code 161 = .ok (.iaload, 1) := by decide +kernel
theorem d_La_law_162 : decode code 162 = .ok (.aload_n 0, 1) := by decide +kernel
theorem d_La_law_163 : decode code 163 = .ok (.iload_n 3, 1) := by decide +kernel
theorem d_La_law_164 : decode code 164 = .ok (.iconst 2, 1) := by decide +kernel
theorem d_La_law_165 : decode code 165 = .ok (.iadd, 1) := by decide +kernel
theorem d_La_law_166 : decode code 166 = .ok (.iaload, 1) := by decide +kernel
theorem d_La_law_167 : decode code 167 = .ok (.invokevirtual 23, 3) := by decide +kernel
theorem d_La_law_170 : decode code 170 = .ok (.pop, 1) := by decide +kernel
theorem d_La_law_171 : decode code 171 = .ok (.aload_n 2, 1) := by decide +kernel
theorem d_La_law_172 : decode code 172 = .ok (.aload_n 0, 1) := by decide +kernel
theorem d_La_law_173 : decode code 173 = .ok (.iload_n 3, 1) := by decide +kernel
theorem d_La_law_174 : decode code 174 = .ok (.iconst 1, 1) := by decide +kernel
theorem d_La_law_175 : decode code 175 = .ok (.iadd, 1) := by decide +kernel
theorem d_La_law_176 : decode code 176 = .ok (.iaload, 1) := by decide +kernel
theorem d_La_law_177 : decode code 177 = .ok (.aload_n 0, 1) := by decide +kernel
theorem d_La_law_178 : decode code 178 = .ok (.iload_n 3, 1) := by decide +kernel
theorem d_La_law_179 : decode code 179 = .ok (.iconst 2, 1) := by decide +kernel
theorem d_La_law_180 : decode code 180 = .ok (.iadd, 1) := by decide +kernel
theorem d_La_law_181 : decode code 181 = .ok (.iaload, 1) := by decide +kernel
theorem d_La_law_182 : decode code 182 = .ok (.invokevirtual 27, 3) := by decide +kernel
theorem d_La_law_185 : decode code 185 = .ok (.pop, 1) := by decide +kernel
theorem d_La_law_186 : decode code 186 = .ok (.goto 283, 3) := by decide +kernel
theorem d_La_law_189 : decode code 189 = .ok (.aload_n 1, 1) := by decide +kernel
theorem d_La_law_190 : decode code 190 = .ok (.invokevirtual 28, 3) := by decide +kernel
theorem d_La_law_193 : decode code 193 = .ok (.pop, 1) := by decide +kernel
theorem d_La_law_194 : decode code 194 = .ok (.aload_n 2, 1) := by decide +kernel
theorem d_La_law_195 : decode code 195 = .ok (.invokevirtual 32, 3) := by decide +kernel
theorem d_La_law_198 : decode code 198 = .ok (.pop, 1) := by decide +kernel
theorem d_La_law_199 : decode code 199 = .ok (.goto 270, 3) := by decide +kernel
theorem d_La_law_202 : decode code 202 = .ok (.aload_n 1, 1) := by decide +kernel
theorem d_La_law_203 : decode code 203 = .ok (.invokevirtual 33, 3) := by decide +kernel
theorem d_La_law_206 : decode code 206 = .ok (.pop, 1) := by decide +kernel
theorem d_La_law_207 : decode code 207 = .ok (.aload_n 2, 1) := by decide +kernel
theorem d_La_law_208 : decode code 208 = .ok (.invokevirtual 36, 3) := by decide +kernel
theorem d_La_law_211 : decode code 211 = .ok (.pop, 1) := by decide +kernel
theorem d_La_law_212 : decode code 212 = .ok (.goto 257, 3) := by decide +kernel
theorem d_La_law_215 : decode code 215 = .ok (.aload_n 1, 1) := by decide +kernel
theorem d_La_law_216 : decode code 216 = .ok (.aload_n 0, 1) := by decide +kernel
theorem d_La_law_217 : decode code 217 = .ok (.iload_n 3, 1) := by decide +kernel
theorem d_La_law_218 : decode code 218 = .ok (.iconst 1, 1) := by decide +kernel
theorem d_La_law_219 : decode code 219 = .ok (.iadd, 1) := by decide +kernel
theorem d_La_law_220 : decode code 220 = .ok (.iaload, 1) := by decide +kernel
theorem d_La_law_221 : decode code 221 = .ok (.aload_n 0, 1) := by decide +kernel
theorem d_La_law_222 : decode code 222 = .ok (.iload_n 3, 1) := by decide +kernel
theorem d_La_law_223 : decode code 223 = .ok (.iconst 2, 1) := by decide +kernel
theorem d_La_law_224 : decode code 224 = .ok (.iadd, 1) := by decide +kernel
theorem d_La_law_225 : decode code 225 = .ok (.iaload, 1) := by decide +kernel
theorem d_La_law_226 : decode code 226 = .ok (.aload_n 0, 1) := by decide +kernel
theorem d_La_law_227 : decode code 227 = .ok (.iload_n 3, 1) := by decide +kernel
theorem d_La_law_228 : decode code 228 = .ok (.iconst 3, 1) := by decide +kernel
theorem d_La_law_229 : decode code 229 = .ok (.iadd, 1) := by decide +kernel
theorem d_La_law_230 : decode code 230 = .ok (.iaload, 1) := by decide +kernel
theorem d_La_law_231 : decode code 231 = .ok (.aload_n 0, 1) := by decide +kernel
theorem d_La_law_232 : decode code 232 = .ok (.iload_n 3, 1) := by decide +kernel
theorem d_La_law_233 : decode code 233 = .ok (.iconst 4, 1) := by decide +kernel
theorem d_La_law_234 : decode code 234 = .ok (.iadd, 1) := by decide +kernel
theorem d_La_law_235 : decode code 235 = .ok (.iaload, 1) := by decide +kernel
theorem d_La_law_236 : decode code 236 = .ok (.invokevirtual 37, 3) := by decide +kernel
theorem d_La_law_239 : decode code 239 = .ok (.pop, 1) := by decide +kernel
theorem d_La_law_240 : decode code 240 = .ok (.aload_n 2, 1) := by decide +kernel
theorem d_La_law_241 : decode code 241 = .ok (.aload_n 0, 1) := by decide +kernel
theorem d_La_law_242 : decode code 242 = .ok (.iload_n 3, 1) := by decide +kernel
theorem d_La_law_243 : decode code 243 = .ok (.iconst 1, 1) := by decide +kernel
theorem d_La_law_244 : decode code 244 = .ok (.iadd, 1) := by decide +kernel
theorem d_La_law_245 : decode code 245 = .ok (.iaload, 1) := by decide +kernel
theorem d_La_law_246 : decode code 246 = .ok (.aload_n 0, 1) := by decide +kernel
theorem d_La_law_247 : decode code 247 = .ok (.iload_n 3, 1) := by decide +kernel
theorem d_La_law_248 : decode code 248 = .ok (.iconst 2, 1) := by decide +kernel
theorem d_La_law_249 : decode code 249 = .ok (.iadd, 1) := by decide +kernel
theorem d_La_law_250 : decode code 250 = .ok (.iaload, 1) := by decide +kernel
theorem d_La_law_251 : decode code 251 = .ok (.aload_n 0, 1) := by decide +kernel
theorem d_La_law_252 : decode code 252 = .ok (.iload_n 3, 1) := by decide +kernel
theorem d_La_law_253 : decode code 253 = .ok (.iconst 3, 1) := by decide +kernel
theorem d_La_law_254 : decode code 254 = .ok (.iadd, 1) := by decide +kernel
theorem d_La_law_255 : decode code 255 = .ok (.iaload, 1) := by decide +kernel
theorem d_La_law_256 : decode code 256 = .ok (.aload_n 0, 1) := by decide +kernel
theorem d_La_law_257 : decode code 257 = .ok (.iload_n 3, 1) := by decide +kernel
theorem d_La_law_258 : decode code 258 = .ok (.iconst 4, 1) := by decide +kernel
theorem d_La_law_259 : decode code 259 = .ok (.iadd, 1) := by decide +kernel
theorem d_La_law_260 : decode code 260 = .ok (.iaload, 1) := by decide +kernel
theorem d_La_law_261 : decode code 261 = .ok (.invokevirtual 41, 3) := by decide +kernel
theorem d_La_law_264 : decode code 264 = .ok (.pop, 1) := by decide +kernel
theorem d_La_law_265 : decode code 265 = .ok (.goto 204, 3) := by decide +kernel
theorem d_La_law_268 : decode code 268 = .ok (.aload_n 1, 1) := by decide +kernel
theorem d_La_law_269 : decode code 269 = .ok (.invokevirtual 42, 3) := by decide +kernel
theorem d_La_law_272 : decode code 272 = .ok (.pop2, 1) := by decide +kernel
theorem d_La_law_273 : decode code 273 = .ok (.aload_n 2, 1) := by decide +kernel
theorem d_La_law_274 : decode code 274 = .ok (.invokevirtual 46, 3) := by decide +kernel
theorem d_La_law_277 : decode code 277 = .ok (.pop2, 1) := by decide +kernel
theorem d_La_law_278 : decode code 278 = .ok (.goto 191, 3) := by decide +kernel
theorem d_La_law_281 : decode code 281 = .ok (.aload_n 1, 1) := by decide +kernel
theorem d_La_law_282 : decode code 282 = .ok (.invokevirtual 47, 3) := by decide +kernel
theorem d_La_law_285 : decode code 285 = .ok (.pop, 1) := by decide +kernel
theorem d_La_law_286 : decode code 286 = .ok (.aload_n 2, 1) := by decide +kernel
theorem d_La_law_287 : decode code 287 = .ok (.invokevirtual 50, 3) := by decide +kernel
theorem d_La_law_290 : decode code 290 = .ok (.pop, 1) := by decide +kernel
theorem d_La_law_291 : decode code 291 = .ok (.goto 178, 3) := by decide +kernel
theorem d_La_law_294 : decode code 294 = .ok (.aload_n 1, 1) := by decide +kernel
theorem d_La_law_295 : decode code 295 = .ok (.invokevirtual 51, 3) := by decide +kernel
theorem d_La_law_298 : decode code 298 = .ok (.pop, 1) := by decide +kernel
theorem d_La_law_299 : decode code 299 = .ok (.aload_n 2, 1) := by decide +kernel
theorem d_La_law_300 : decode code 300 = .ok (.invokevirtual 54, 3) := by decide +kernel
theorem d_La_law_303 : decode code 303 = .ok (.pop, 1) := by decide +kernel
theorem d_La_law_304 : decode code 304 = .ok (.goto 165, 3) := by decide +kernel
theorem d_La_law_307 : decode code 307 = .ok (.aload_n 1, 1) := by decide +kernel
theorem d_La_law_308 : decode code 308 = .ok (.aload_n 0, 1) := by decide +kernel
theorem d_La_law_309 : decode code 309 = .ok (.iload_n 3, 1) := by decide +kernel
theorem d_La_law_310 : decode code 310 = .ok (.iconst 1, 1) := by decide +kernel
theorem d_La_law_311 : decode code 311 = .ok (.iadd, 1) := by decide +kernel
theorem d_La_law_312 : decode code 312 = .ok (.iaload, 1) := by decide +kernel
theorem d_La_law_313 : decode code 313 = .ok (.invokevirtual 55, 3) := by decide +kernel
theorem d_La_law_316 : decode code 316 = .ok (.pop, 1) := by decide +kernel
theorem d_La_law_317 : decode code 317 = .ok (.aload_n 2, 1) := by decide +kernel
theorem d_La_law_318 : decode code 318 = .ok (.aload_n 0, 1) := by decide +kernel
theorem d_La_law_319 : decode code 319 = .ok (.iload_n 3, 1) := by decide +kernel
theorem d_La_law_320 : decode code 320 = .ok (.iconst 1, 1) := by decide +kernel
theorem d_La_law_321 : decode code 321 = .ok (.iadd, 1) := by decide +kernel
theorem d_La_law_322 : decode code 322 = .ok (.iaload, 1) := by decide +kernel
theorem d_La_law_323 : decode code 323 = .ok (.invokevirtual 58, 3) := by decide +kernel
theorem d_La_law_326 : decode code 326 = .ok (.pop, 1) := by decide +kernel
theorem d_La_law_327 : decode code 327 = .ok (.goto 142, 3) := by decide +kernel
theorem d_La_law_330 : decode code 330 = .ok (.aload_n 1, 1) := by decide +kernel
theorem d_La_law_331 : decode code 331 = .ok (.aload_n 0, 1) := by decide +kernel
theorem d_La_law_332 : decode code 332 = .ok (.iload_n 3, 1) := by decide +kernel
theorem d_La_law_333 : decode code 333 = .ok (.iconst 1, 1) := by decide +kernel
theorem d_La_law_334 : decode code 334 = .ok (.iadd, 1) := by decide +kernel
theorem d_La_law_335 : decode code 335 = .ok (.iaload, 1) := by decide +kernel
theorem d_La_law_336 : decode code 336 = .ok (.invokevirtual 59, 3) := by decide +kernel
theorem d_La_law_339 : decode code 339 = .ok (.aload_n 2, 1) := by decide +kernel
theorem d_La_law_340 : decode code 340 = .ok (.aload_n 0, 1) := by decide +kernel
theorem d_La_law_341 : decode code 341 = .ok (.iload_n 3, 1) := by decide +kernel
theorem d_La_law_342 : decode code 342 = .ok (.iconst 1, 1) := by decide +kernel
theorem d_La_law_343 : decode code 343 = .ok (.iadd, 1) := by decide +kernel
theorem d_La_law_344 : decode code 344 = .ok (.iaload, 1) := by decide +kernel
theorem d_La_law_345 : decode code 345 = .ok (.invokevirtual 62, 3) := by decide +kernel
theorem d_La_law_348 : decode code 348 = .ok (.if_icmp .eq 121, 3) := by decide +kernel
theorem d_La_law_351 : decode code 351 = .ok (.iconst 0, 1) := by decide +kernel
theorem d_La_law_352 : decode code 352 = .ok (.ireturn, 1) := by decide +kernel
theorem d_La_law_353 : decode code 353 = .ok (.aload_n 1, 1) := by decide +kernel
theorem d_La_law_354 : decode code 354 = .ok (.aload_n 0, 1) := by decide +kernel
theorem d_La_law_355 : decode code 355 = .ok (.iload_n 3, 1) := by decide +kernel
theorem d_La_law_356 : decode code 356 = .ok (.iconst 1, 1) := by decide +kernel
theorem d_La_law_357 : decode code 357 = .ok (.iadd, 1) := by decide +kernel
theorem d_La_law_358 : decode code 358 = .ok (.iaload, 1) := by decide +kernel
theorem d_La_law_359 : decode code 359 = .ok (.aload_n 0, 1) := by decide +kernel
theorem d_La_law_360 : decode code 360 = .ok (.iload_n 3, 1) := by decide +kernel
theorem d_La_law_361 : decode code 361 = .ok (.iconst 2, 1) := by decide +kernel
theorem d_La_law_362 : decode code 362 = .ok (.iadd, 1) := by decide +kernel
theorem d_La_law_363 : decode code 363 = .ok (.iaload, 1) := by decide +kernel
theorem d_La_law_364 : decode code 364 = .ok (.invokevirtual 63, 3) := by decide +kernel
theorem d_La_law_367 : decode code 367 = .ok (.pop2, 1) := by decide +kernel
theorem d_La_law_368 : decode code 368 = .ok (.aload_n 2, 1) := by decide +kernel
theorem d_La_law_369 : decode code 369 = .ok (.aload_n 0, 1) := by decide +kernel
theorem d_La_law_370 : decode code 370 = .ok (.iload_n 3, 1) := by decide +kernel
theorem d_La_law_371 : decode code 371 = .ok (.iconst 1, 1) := by decide +kernel
theorem d_La_law_372 : decode code 372 = .ok (.iadd, 1) := by decide +kernel
theorem d_La_law_373 : decode code 373 = .ok (.iaload, 1) := by decide +kernel
theorem d_La_law_374 : decode code 374 = .ok (.aload_n 0, 1) := by decide +kernel
theorem d_La_law_375 : decode code 375 = .ok (.iload_n 3, 1) := by decide +kernel
theorem d_La_law_376 : decode code 376 = .ok (.iconst 2, 1) := by decide +kernel
theorem d_La_law_377 : decode code 377 = .ok (.iadd, 1) := by decide +kernel
theorem d_La_law_378 : decode code 378 = .ok (.iaload, 1) := by decide +kernel
theorem d_La_law_379 : decode code 379 = .ok (.invokevirtual 67, 3) := by decide +kernel
theorem d_La_law_382 : decode code 382 = .ok (.pop2, 1) := by decide +kernel
theorem d_La_law_383 : decode code 383 = .ok (.goto 86, 3) := by decide +kernel
theorem d_La_law_386 : decode code 386 = .ok (.aload_n 1, 1) := by decide +kernel
theorem d_La_law_387 : decode code 387 = .ok (.aload_n 0, 1) := by decide +kernel
theorem d_La_law_388 : decode code 388 = .ok (.iload_n 3, 1) := by decide +kernel
theorem d_La_law_389 : decode code 389 = .ok (.iconst 1, 1) := by decide +kernel
theorem d_La_law_390 : decode code 390 = .ok (.iadd, 1) := by decide +kernel
theorem d_La_law_391 : decode code 391 = .ok (.iaload, 1) := by decide +kernel
theorem d_La_law_392 : decode code 392 = .ok (.aload_n 0, 1) := by decide +kernel
theorem d_La_law_393 : decode code 393 = .ok (.iload_n 3, 1) := by decide +kernel
theorem d_La_law_394 : decode code 394 = .ok (.iconst 2, 1) := by decide +kernel
theorem d_La_law_395 : decode code 395 = .ok (.iadd, 1) := by decide +kernel
theorem d_La_law_396 : decode code 396 = .ok (.iaload, 1) := by decide +kernel
theorem d_La_law_397 : decode code 397 = .ok (.aload_n 0, 1) := by decide +kernel
theorem d_La_law_398 : decode code 398 = .ok (.iload_n 3, 1) := by decide +kernel
theorem d_La_law_399 : decode code 399 = .ok (.iconst 3, 1) := by decide +kernel
theorem d_La_law_400 : decode code 400 = .ok (.iadd, 1) := by decide +kernel
theorem d_La_law_401 : decode code 401 = .ok (.iaload, 1) := by decide +kernel
theorem d_La_law_402 : decode code 402 = .ok (.aload_n 0, 1) := by decide +kernel
theorem d_La_law_403 : decode code 403 = .ok (.iload_n 3, 1) := by decide +kernel
theorem d_La_law_404 : decode code 404 = .ok (.iconst 4, 1) := by decide +kernel
theorem d_La_law_405 : decode code 405 = .ok (.iadd, 1) := by decide +kernel
theorem d_La_law_406 : decode code 406 = .ok (.iaload, 1) := by decide +kernel
theorem d_La_law_407 : decode code 407 = .ok (.i2l, 1) := by decide +kernel
theorem d_La_law_408 : decode code 408 = .ok (.bipush 32, 2) := by decide +kernel
theorem d_La_law_410 : decode code 410 = .ok (.lshl, 1) := by decide +kernel
theorem d_La_law_411 : decode code 411 = .ok (.aload_n 0, 1) := by decide +kernel
theorem d_La_law_412 : decode code 412 = .ok (.iload_n 3, 1) := by decide +kernel
theorem d_La_law_413 : decode code 413 = .ok (.iconst 5, 1) := by decide +kernel
theorem d_La_law_414 : decode code 414 = .ok (.iadd, 1) := by decide +kernel
theorem d_La_law_415 : decode code 415 = .ok (.iaload, 1) := by decide +kernel
theorem d_La_law_416 : decode code 416 = .ok (.i2l, 1) := by decide +kernel
theorem d_La_law_417 : decode code 417 = .ok (.ldc2_w 68, 3) := by decide +kernel
theorem d_La_law_420 : decode code 420 = .ok (.land, 1) := by decide +kernel
theorem d_La_law_421 : decode code 421 = .ok (.lor, 1) := by decide +kernel
theorem d_La_law_422 : decode code 422 = .ok (.invokevirtual 70, 3) := by decide +kernel
theorem d_La_law_425 : decode code 425 = .ok (.pop, 1) := by decide +kernel
theorem d_La_law_426 : decode code 426 = .ok (.aload_n 2, 1) := by decide +kernel
theorem d_La_law_427 : decode code 427 = .ok (.aload_n 0, 1) := by decide +kernel
theorem d_La_law_428 : decode code 428 = .ok (.iload_n 3, 1) := by decide +kernel
theorem d_La_law_429 : decode code 429 = .ok (.iconst 1, 1) := by decide +kernel
theorem d_La_law_430 : decode code 430 = .ok (.iadd, 1) := by decide +kernel
theorem d_La_law_431 : decode code 431 = .ok (.iaload, 1) := by decide +kernel
theorem d_La_law_432 : decode code 432 = .ok (.aload_n 0, 1) := by decide +kernel
theorem d_La_law_433 : decode code 433 = .ok (.iload_n 3, 1) := by decide +kernel
theorem d_La_law_434 : decode code 434 = .ok (.iconst 2, 1) := by decide +kernel
theorem d_La_law_435 : decode code 435 = .ok (.iadd, 1) := by decide +kernel
theorem d_La_law_436 : decode code 436 = .ok (.iaload, 1) := by decide +kernel
theorem d_La_law_437 : decode code 437 = .ok (.aload_n 0, 1) := by decide +kernel
theorem d_La_law_438 : decode code 438 = .ok (.iload_n 3, 1) := by decide +kernel
theorem d_La_law_439 : decode code 439 = .ok (.iconst 3, 1) := by decide +kernel
theorem d_La_law_440 : decode code 440 = .ok (.iadd, 1) := by decide +kernel
theorem d_La_law_441 : decode code 441 = .ok (.iaload, 1) := by decide +kernel
theorem d_La_law_442 : decode code 442 = .ok (.aload_n 0, 1) := by decide +kernel
theorem d_La_law_443 : decode code 443 = .ok (.iload_n 3, 1) := by decide +kernel
theorem d_La_law_444 : decode code 444 = .ok (.iconst 4, 1) := by decide +kernel
theorem d_La_law_445 : decode code 445 = .ok (.iadd, 1) := by decide +kernel
theorem d_La_law_446 : decode code 446 = .ok (.iaload, 1) := by decide +kernel
theorem d_La_law_447 : decode code 447 = .ok (.i2l, 1) := by decide +kernel
theorem d_La_law_448 : decode code 448 = .ok (.bipush 32, 2) := by decide +kernel
theorem d_La_law_450 : decode code 450 = .ok (.lshl, 1) := by decide +kernel
theorem d_La_law_451 : decode code 451 = .ok (.aload_n 0, 1) := by decide +kernel
theorem d_La_law_452 : decode code 452 = .ok (.iload_n 3, 1) := by decide +kernel
theorem d_La_law_453 : decode code 453 = .ok (.iconst 5, 1) := by decide +kernel
theorem d_La_law_454 : decode code 454 = .ok (.iadd, 1) := by decide +kernel
theorem d_La_law_455 : decode code 455 = .ok (.iaload, 1) := by decide +kernel
theorem d_La_law_456 : decode code 456 = .ok (.i2l, 1) := by decide +kernel
theorem d_La_law_457 : decode code 457 = .ok (.ldc2_w 68, 3) := by decide +kernel
theorem d_La_law_460 : decode code 460 = .ok (.land, 1) := by decide +kernel
theorem d_La_law_461 : decode code 461 = .ok (.lor, 1) := by decide +kernel
theorem d_La_law_462 : decode code 462 = .ok (.invokevirtual 74, 3) := by decide +kernel
theorem d_La_law_465 : decode code 465 = .ok (.pop, 1) := by decide +kernel
theorem d_La_law_466 : decode code 466 = .ok (.goto 3, 3) := by decide +kernel
theorem d_La_law_469 : decode code 469 = .ok (.iinc 3 6, 3) := by decide +kernel
theorem d_La_law_472 : decode code 472 = .ok (.goto (-454), 3) := by decide +kernel
theorem d_La_law_475 : decode code 475 = .ok (.iconst 1, 1) := by decide +kernel
theorem d_La_law_476 : decode code 476 = .ok (.ireturn, 1) := by decide +kernel
end
section
/-- behind the two calls: the next six -/
def lwN (p : Program) (l : Launch) (e : Env) (s : State) (m : MethodId) (below : List Frame) (meth : Method) (c : Code) (G : va_G) (k : Nat → ClassId) (b : Nat) (A : Nat → Prop) (pb mo t : Nat) : Prop :=
  ∀ (nf : Nat) (tk ct : Nat → Nat) (wd : Nat → Int32) (wp : Int32) (cz9 : Int64) (gv9 : Int32) (sp9 : Nat) (tl : Option (Nat × Nat)) (p9 : Nat) (W9 M9 : va_W) (H : Heap) (locs : List Loc) (cells slots : Nat) (ls : Array Slot), cwO k pb nf tk ct wd wp cz9 gv9 sp9 tl p9 W9 → rwO k mo nf tk ct wd wp cz9 gv9 sp9 tl M9 → cells + p9 ≤ 368979 → slots + 2 * p9 ≤ 1141464 → Sw G A s.heap H locs ([] ++ (W9 ++ M9)) → lv_has ls 4 [(3, .int (nI (6 * t))), (2, .ref mo), (1, .ref pb), (0, .ref b)] → W p l e room_1 s m #[Value.ref b] below meth c H locs cells slots (lw_Z below #[Value.ref b] s) (F0 m 469 ls [])
set_option maxRecDepth 100000 in
set_option maxHeartbeats 4000000 in
theorem law_c0 {p : Program} {l : Launch} {e : Env} {s : State} {m : MethodId} {below : List Frame} {meth : Method} {c : Code} {G : va_G} {k : Nat → ClassId} {b L : Nat} {xs : Nat → Int32} {A : Nat → Prop} (C : Cx p s m #[Value.ref b] meth c code "PotentialBenchLaw" 4 ret meth.name) (K : Kn G k s) (hX : va_X b L xs s s.heap) (hbl : b < s.heap.size) (hA : ∀ q, s.heap.size ≤ q → A q) (hA2 : ∀ q, A q → s.heap.size ≤ q) {pb mo nf : Nat} {tk ct : Nat → Nat} {wd : Nat → Int32} {wp : Int32} {cz9 : Int64} {gv9 : Int32} {sp9 : Nat} {tl : Option (Nat × Nat)} {p9 : Nat} {W9 M9 : va_W} {H : Heap} {locs : List Loc} {cells slots : Nat} (hW : cwO k pb nf tk ct wd wp cz9 gv9 sp9 tl p9 W9) (hM : rwO k mo nf tk ct wd wp cz9 gv9 sp9 tl M9) (hc : cells + p9 ≤ 368979) (hs : slots + 2 * p9 ≤ 1141464) (S : Sw G A s.heap H locs ([] ++ (W9 ++ M9))) (hL : L ≤ 3072) {t : Nat} (ht : 6 * t + 6 ≤ L) (ls : Array Slot) (hl : lv_has ls 4 [(3, .int (nI (6 * t))), (2, .ref mo), (1, .ref pb), (0, .ref b)]) (next : lwN p l e s m below meth c G k b A pb mo t) : W p l e room_1 s m #[Value.ref b] below meth c H locs cells slots (lw_Z below #[Value.ref b] s) (F0 m 100 ls []) := by
  have hx := C.1
  have hb := C.2.1
  have hbA : ¬ A b := fun h => absurd (hA2 b h) (Nat.not_le.mpr hbl)
  refine lv_aload_n hx hb d_La_law_100 rfl (lv_at hl 2 rfl) ?_
  refine lv_aload_n hx hb d_La_law_101 rfl (lv_at hl 3 rfl) ?_
  refine lv_iload_n hx hb d_La_law_102 rfl (lv_at hl 0 rfl) ?_
  refine lv_iconst (v := 1) hx hb d_La_law_103 (by decide) ?_
  refine z_iadd (v := nI (6 * t + 1)) hx hb d_La_law_104 (nI_add (6 * t) 1) ?_
  refine va_sld hx hb hX hbl hbA S.2.2 (i := nI (6 * t + 1)) (vp_in_nI (by omega) (by omega)) d_La_law_105 ?_
  obtain ⟨nf2, tk2, ct2, wd2, wp2, cz2, gv2, sp2, tl2, r2, hC, hR⟩ := b_function (l := l) (G := G) hW hM (xs (nI (6 * t + 1)).toNatClampNeg)
  obtain ⟨fs1, he1⟩ := cw_mem hW M9
  obtain ⟨rm1, hr1, hr2, hr3, hr4, hC⟩ := hC H.size (allSl H)
  refine q_backP (X := []) (wi := []) (wr := []) (pl := W9 ++ M9) (wo := fun _ => []) (pl1 := fun (u : va_W × Nat × Int32) => u.1 ++ M9) S hA [] [] rfl rfl (by decide) (by decide) (va_runV (As := [.int (xs (nI (6 * t + 1)).toNatClampNeg)]) (rest := []) ⟨hx, hb, C.2.2.1, C.2.2.2.1, C.2.2.2.2.1⟩ (cg_as (wi := []) M9 hC) (k_virt (n := 1) C wc_PB_function rfl rfl wz_PB wm_La_13 wn_PB_function ws_PB_function (by decide +kernel) ⟨(show rm1.frames + 1 ≤ 2048 by omega), (show 8 + (_ + 11) + rm1.locals ≤ 84000 by omega)⟩) (pr_nowVGP K S [] (by decide) rfl he1 rfl) rfl rfl hl.1 rfl (lv_room (Nat.le_of_ble_eq_true rfl)) d_La_law_106 ⟨(show cells + rm1.cells ≤ 600000 by omega), (show slots + rm1.slots ≤ 7302250 by omega)⟩) (fun u1 H locs hw1 S => ?_)
  obtain ⟨hW1, hp1, hrP⟩ := hw1
  have S : Sw G A s.heap H locs ([] ++ (u1.1 ++ M9)) := S
  show W p l e _ s m _ below meth c H locs _ _ _ (F0 m 109 ls [.int u1.2.2])
  refine lv_pop hx hb d_La_law_109 rfl ?_
  refine lv_aload_n hx hb d_La_law_110 rfl (lv_at hl 1 rfl) ?_
  refine lv_aload_n hx hb d_La_law_111 rfl (lv_at hl 3 rfl) ?_
  refine lv_iload_n hx hb d_La_law_112 rfl (lv_at hl 0 rfl) ?_
  refine lv_iconst (v := 1) hx hb d_La_law_113 (by decide) ?_
  refine z_iadd (v := nI (6 * t + 1)) hx hb d_La_law_114 (nI_add (6 * t) 1) ?_
  refine va_sld hx hb hX hbl hbA S.2.2 (i := nI (6 * t + 1)) (vp_in_nI (by omega) (by omega)) d_La_law_115 ?_
  obtain ⟨fs2, he2⟩ := rw_mem hM u1.1
  obtain ⟨rm2, hg1, hg2, hg3, hg4, hR⟩ := hR H.size (allSl H)
  refine q_backP (X := []) (wi := []) (wr := []) (pl := u1.1 ++ M9) (wo := fun _ => []) (pl1 := fun (u : va_W × Int32) => u1.1 ++ u.1) S hA [] [] rfl rfl (by decide) (by decide) (va_runV (As := [.int (xs (nI (6 * t + 1)).toNatClampNeg)]) (rest := []) ⟨hx, hb, C.2.2.1, C.2.2.2.1, C.2.2.2.2.1⟩ (cg_sa (wi := []) u1.1 hR) (k_virt (n := 1) C wc_Mo_function hg3 hg4 wz_Mo wm_La_17 wn_Mo_function ws_Mo_function (by decide +kernel) ⟨(show rm2.frames + 1 ≤ 2048 by omega), (show 8 + (_ + 11) + rm2.locals ≤ 84000 by omega)⟩) (pr_nowVGP K S [] (by decide) rfl he2 rfl) rfl rfl hl.1 rfl (lv_room (Nat.le_of_ble_eq_true rfl)) d_La_law_116 ⟨(show cells + (p9 - u1.2.1) + 0 ≤ 600000 by omega), (show slots + 2 * (p9 - u1.2.1) + 0 ≤ 7302250 by omega)⟩) (fun u2 H locs hw2 S => ?_)
  obtain ⟨hM1, hrM⟩ := hw2
  have S : Sw G A s.heap H locs ([] ++ (u1.1 ++ u2.1)) := S
  show W p l e _ s m _ below meth c H locs _ _ _ (F0 m 119 ls [.int u2.2])
  refine lv_pop hx hb d_La_law_119 rfl ?_
  refine lv_goto (tgt := 469) hx hb d_La_law_120 (by decide) ?_
  exact next _ _ _ _ _ _ _ _ _ _ _ _ _ _ _ _ ls hW1 hM1 (by show cells + (p9 - u1.2.1) + 0 + u1.2.1 ≤ 368979; omega) (by show slots + 2 * (p9 - u1.2.1) + 0 + 2 * u1.2.1 ≤ 1141464; omega) S hl
set_option maxRecDepth 100000 in
set_option maxHeartbeats 4000000 in
theorem law_c1 {p : Program} {l : Launch} {e : Env} {s : State} {m : MethodId} {below : List Frame} {meth : Method} {c : Code} {G : va_G} {k : Nat → ClassId} {b L : Nat} {xs : Nat → Int32} {A : Nat → Prop} (C : Cx p s m #[Value.ref b] meth c code "PotentialBenchLaw" 4 ret meth.name) (K : Kn G k s) (hX : va_X b L xs s s.heap) (hbl : b < s.heap.size) (hA : ∀ q, s.heap.size ≤ q → A q) (hA2 : ∀ q, A q → s.heap.size ≤ q) {pb mo nf : Nat} {tk ct : Nat → Nat} {wd : Nat → Int32} {wp : Int32} {cz9 : Int64} {gv9 : Int32} {sp9 : Nat} {tl : Option (Nat × Nat)} {p9 : Nat} {W9 M9 : va_W} {H : Heap} {locs : List Loc} {cells slots : Nat} (hW : cwO k pb nf tk ct wd wp cz9 gv9 sp9 tl p9 W9) (hM : rwO k mo nf tk ct wd wp cz9 gv9 sp9 tl M9) (hc : cells + p9 ≤ 368979) (hs : slots + 2 * p9 ≤ 1141464) (S : Sw G A s.heap H locs ([] ++ (W9 ++ M9))) (hL : L ≤ 3072) {t : Nat} (ht : 6 * t + 6 ≤ L) (ls : Array Slot) (hl : lv_has ls 4 [(3, .int (nI (6 * t))), (2, .ref mo), (1, .ref pb), (0, .ref b)]) (next : lwN p l e s m below meth c G k b A pb mo t) : W p l e room_1 s m #[Value.ref b] below meth c H locs cells slots (lw_Z below #[Value.ref b] s) (F0 m 123 ls []) := by
  have hx := C.1
  have hb := C.2.1
  have hbA : ¬ A b := fun h => absurd (hA2 b h) (Nat.not_le.mpr hbl)
  refine lv_aload_n hx hb d_La_law_123 rfl (lv_at hl 2 rfl) ?_
  refine lv_aload_n hx hb d_La_law_124 rfl (lv_at hl 3 rfl) ?_
  refine lv_iload_n hx hb d_La_law_125 rfl (lv_at hl 0 rfl) ?_
  refine lv_iconst (v := 1) hx hb d_La_law_126 (by decide) ?_
  refine z_iadd (v := nI (6 * t + 1)) hx hb d_La_law_127 (nI_add (6 * t) 1) ?_
  refine va_sld hx hb hX hbl hbA S.2.2 (i := nI (6 * t + 1)) (vp_in_nI (by omega) (by omega)) d_La_law_128 ?_
  refine lv_aload_n hx hb d_La_law_129 rfl (lv_at hl 3 rfl) ?_
  refine lv_iload_n hx hb d_La_law_130 rfl (lv_at hl 0 rfl) ?_
  refine lv_iconst (v := 2) hx hb d_La_law_131 (by decide) ?_
  refine z_iadd (v := nI (6 * t + 2)) hx hb d_La_law_132 (nI_add (6 * t) 2) ?_
  refine va_sld hx hb hX hbl hbA S.2.2 (i := nI (6 * t + 2)) (vp_in_nI (by omega) (by omega)) d_La_law_133 ?_
  obtain ⟨nf2, tk2, ct2, wd2, wp2, cz2, gv2, sp2, tl2, r2, hC, hR⟩ := b_word (l := l) (G := G) hW hM (xs (nI (6 * t + 1)).toNatClampNeg) (xs (nI (6 * t + 2)).toNatClampNeg)
  obtain ⟨fs1, he1⟩ := cw_mem hW M9
  obtain ⟨rm1, hr1, hr2, hr3, hr4, hC⟩ := hC H.size (allSl H)
  refine q_backP (X := []) (wi := []) (wr := []) (pl := W9 ++ M9) (wo := fun _ => []) (pl1 := fun (u : va_W × Nat × Int32) => u.1 ++ M9) S hA [] [] rfl rfl (by decide) (by decide) (va_runV (As := [.int (xs (nI (6 * t + 1)).toNatClampNeg), .int (xs (nI (6 * t + 2)).toNatClampNeg)]) (rest := []) ⟨hx, hb, C.2.2.1, C.2.2.2.1, C.2.2.2.2.1⟩ (cg_as (wi := []) M9 hC) (k_virt (n := 2) C wc_PB_word rfl rfl wz_PB wm_La_18 wn_PB_word ws_PB_word (by decide +kernel) ⟨(show rm1.frames + 1 ≤ 2048 by omega), (show 8 + (_ + 11) + rm1.locals ≤ 84000 by omega)⟩) (pr_nowVGP K S [] (by decide) rfl he1 rfl) rfl rfl hl.1 rfl (lv_room (Nat.le_of_ble_eq_true rfl)) d_La_law_134 ⟨(show cells + rm1.cells ≤ 600000 by omega), (show slots + rm1.slots ≤ 7302250 by omega)⟩) (fun u1 H locs hw1 S => ?_)
  obtain ⟨hW1, hp1, hrP⟩ := hw1
  have S : Sw G A s.heap H locs ([] ++ (u1.1 ++ M9)) := S
  show W p l e _ s m _ below meth c H locs _ _ _ (F0 m 137 ls [.int u1.2.2])
  refine lv_pop hx hb d_La_law_137 rfl ?_
  refine lv_aload_n hx hb d_La_law_138 rfl (lv_at hl 1 rfl) ?_
  refine lv_aload_n hx hb d_La_law_139 rfl (lv_at hl 3 rfl) ?_
  refine lv_iload_n hx hb d_La_law_140 rfl (lv_at hl 0 rfl) ?_
  refine lv_iconst (v := 1) hx hb d_La_law_141 (by decide) ?_
  refine z_iadd (v := nI (6 * t + 1)) hx hb d_La_law_142 (nI_add (6 * t) 1) ?_
  refine va_sld hx hb hX hbl hbA S.2.2 (i := nI (6 * t + 1)) (vp_in_nI (by omega) (by omega)) d_La_law_143 ?_
  refine lv_aload_n hx hb d_La_law_144 rfl (lv_at hl 3 rfl) ?_
  refine lv_iload_n hx hb d_La_law_145 rfl (lv_at hl 0 rfl) ?_
  refine lv_iconst (v := 2) hx hb d_La_law_146 (by decide) ?_
  refine z_iadd (v := nI (6 * t + 2)) hx hb d_La_law_147 (nI_add (6 * t) 2) ?_
  refine va_sld hx hb hX hbl hbA S.2.2 (i := nI (6 * t + 2)) (vp_in_nI (by omega) (by omega)) d_La_law_148 ?_
  obtain ⟨fs2, he2⟩ := rw_mem hM u1.1
  obtain ⟨rm2, hg1, hg2, hg3, hg4, hR⟩ := hR H.size (allSl H)
  refine q_backP (X := []) (wi := []) (wr := []) (pl := u1.1 ++ M9) (wo := fun _ => []) (pl1 := fun (u : va_W × Int32) => u1.1 ++ u.1) S hA [] [] rfl rfl (by decide) (by decide) (va_runV (As := [.int (xs (nI (6 * t + 1)).toNatClampNeg), .int (xs (nI (6 * t + 2)).toNatClampNeg)]) (rest := []) ⟨hx, hb, C.2.2.1, C.2.2.2.1, C.2.2.2.2.1⟩ (cg_sa (wi := []) u1.1 hR) (k_virt (n := 2) C wc_Mo_word hg3 hg4 wz_Mo wm_La_22 wn_Mo_word ws_Mo_word (by decide +kernel) ⟨(show rm2.frames + 1 ≤ 2048 by omega), (show 8 + (_ + 11) + rm2.locals ≤ 84000 by omega)⟩) (pr_nowVGP K S [] (by decide) rfl he2 rfl) rfl rfl hl.1 rfl (lv_room (Nat.le_of_ble_eq_true rfl)) d_La_law_149 ⟨(show cells + (p9 - u1.2.1) + 0 ≤ 600000 by omega), (show slots + 2 * (p9 - u1.2.1) + 0 ≤ 7302250 by omega)⟩) (fun u2 H locs hw2 S => ?_)
  obtain ⟨hM1, hrM⟩ := hw2
  have S : Sw G A s.heap H locs ([] ++ (u1.1 ++ u2.1)) := S
  show W p l e _ s m _ below meth c H locs _ _ _ (F0 m 152 ls [.int u2.2])
  refine lv_pop hx hb d_La_law_152 rfl ?_
  refine lv_goto (tgt := 469) hx hb d_La_law_153 (by decide) ?_
  exact next _ _ _ _ _ _ _ _ _ _ _ _ _ _ _ _ ls hW1 hM1 (by show cells + (p9 - u1.2.1) + 0 + u1.2.1 ≤ 368979; omega) (by show slots + 2 * (p9 - u1.2.1) + 0 + 2 * u1.2.1 ≤ 1141464; omega) S hl
set_option maxRecDepth 100000 in
set_option maxHeartbeats 4000000 in
theorem law_c2 {p : Program} {l : Launch} {e : Env} {s : State} {m : MethodId} {below : List Frame} {meth : Method} {c : Code} {G : va_G} {k : Nat → ClassId} {b L : Nat} {xs : Nat → Int32} {A : Nat → Prop} (C : Cx p s m #[Value.ref b] meth c code "PotentialBenchLaw" 4 ret meth.name) (K : Kn G k s) (hX : va_X b L xs s s.heap) (hbl : b < s.heap.size) (hA : ∀ q, s.heap.size ≤ q → A q) (hA2 : ∀ q, A q → s.heap.size ≤ q) {pb mo nf : Nat} {tk ct : Nat → Nat} {wd : Nat → Int32} {wp : Int32} {cz9 : Int64} {gv9 : Int32} {sp9 : Nat} {tl : Option (Nat × Nat)} {p9 : Nat} {W9 M9 : va_W} {H : Heap} {locs : List Loc} {cells slots : Nat} (hW : cwO k pb nf tk ct wd wp cz9 gv9 sp9 tl p9 W9) (hM : rwO k mo nf tk ct wd wp cz9 gv9 sp9 tl M9) (hc : cells + p9 ≤ 368979) (hs : slots + 2 * p9 ≤ 1141464) (S : Sw G A s.heap H locs ([] ++ (W9 ++ M9))) (hL : L ≤ 3072) {t : Nat} (ht : 6 * t + 6 ≤ L) (ls : Array Slot) (hl : lv_has ls 4 [(3, .int (nI (6 * t))), (2, .ref mo), (1, .ref pb), (0, .ref b)]) (next : lwN p l e s m below meth c G k b A pb mo t) : W p l e room_1 s m #[Value.ref b] below meth c H locs cells slots (lw_Z below #[Value.ref b] s) (F0 m 156 ls []) := by
  have hx := C.1
  have hb := C.2.1
  have hbA : ¬ A b := fun h => absurd (hA2 b h) (Nat.not_le.mpr hbl)
  refine lv_aload_n hx hb d_La_law_156 rfl (lv_at hl 2 rfl) ?_
  refine lv_aload_n hx hb d_La_law_157 rfl (lv_at hl 3 rfl) ?_
  refine lv_iload_n hx hb d_La_law_158 rfl (lv_at hl 0 rfl) ?_
  refine lv_iconst (v := 1) hx hb d_La_law_159 (by decide) ?_
  refine z_iadd (v := nI (6 * t + 1)) hx hb d_La_law_160 (nI_add (6 * t) 1) ?_
  refine va_sld hx hb hX hbl hbA S.2.2 (i := nI (6 * t + 1)) (vp_in_nI (by omega) (by omega)) d_La_law_161 ?_
  refine lv_aload_n hx hb d_La_law_162 rfl (lv_at hl 3 rfl) ?_
  refine lv_iload_n hx hb d_La_law_163 rfl (lv_at hl 0 rfl) ?_
  refine lv_iconst (v := 2) hx hb d_La_law_164 (by decide) ?_
  refine z_iadd (v := nI (6 * t + 2)) hx hb d_La_law_165 (nI_add (6 * t) 2) ?_
  refine va_sld hx hb hX hbl hbA S.2.2 (i := nI (6 * t + 2)) (vp_in_nI (by omega) (by omega)) d_La_law_166 ?_
  obtain ⟨nf2, tk2, ct2, wd2, wp2, cz2, gv2, sp2, tl2, r2, hC, hR⟩ := b_cut (l := l) (G := G) hW hM (xs (nI (6 * t + 1)).toNatClampNeg) (xs (nI (6 * t + 2)).toNatClampNeg)
  obtain ⟨fs1, he1⟩ := cw_mem hW M9
  obtain ⟨rm1, hr1, hr2, hr3, hr4, hC⟩ := hC H.size (allSl H)
  refine q_backP (X := []) (wi := []) (wr := []) (pl := W9 ++ M9) (wo := fun _ => []) (pl1 := fun (u : va_W × Nat × Int32) => u.1 ++ M9) S hA [] [] rfl rfl (by decide) (by decide) (va_runV (As := [.int (xs (nI (6 * t + 1)).toNatClampNeg), .int (xs (nI (6 * t + 2)).toNatClampNeg)]) (rest := []) ⟨hx, hb, C.2.2.1, C.2.2.2.1, C.2.2.2.2.1⟩ (cg_as (wi := []) M9 hC) (k_virt (n := 2) C wc_PB_cut rfl rfl wz_PB wm_La_23 wn_PB_cut ws_PB_cut (by decide +kernel) ⟨(show rm1.frames + 1 ≤ 2048 by omega), (show 8 + (_ + 11) + rm1.locals ≤ 84000 by omega)⟩) (pr_nowVGP K S [] (by decide) rfl he1 rfl) rfl rfl hl.1 rfl (lv_room (Nat.le_of_ble_eq_true rfl)) d_La_law_167 ⟨(show cells + rm1.cells ≤ 600000 by omega), (show slots + rm1.slots ≤ 7302250 by omega)⟩) (fun u1 H locs hw1 S => ?_)
  obtain ⟨hW1, hp1, hrP⟩ := hw1
  have S : Sw G A s.heap H locs ([] ++ (u1.1 ++ M9)) := S
  show W p l e _ s m _ below meth c H locs _ _ _ (F0 m 170 ls [.int u1.2.2])
  refine lv_pop hx hb d_La_law_170 rfl ?_
  refine lv_aload_n hx hb d_La_law_171 rfl (lv_at hl 1 rfl) ?_
  refine lv_aload_n hx hb d_La_law_172 rfl (lv_at hl 3 rfl) ?_
  refine lv_iload_n hx hb d_La_law_173 rfl (lv_at hl 0 rfl) ?_
  refine lv_iconst (v := 1) hx hb d_La_law_174 (by decide) ?_
  refine z_iadd (v := nI (6 * t + 1)) hx hb d_La_law_175 (nI_add (6 * t) 1) ?_
  refine va_sld hx hb hX hbl hbA S.2.2 (i := nI (6 * t + 1)) (vp_in_nI (by omega) (by omega)) d_La_law_176 ?_
  refine lv_aload_n hx hb d_La_law_177 rfl (lv_at hl 3 rfl) ?_
  refine lv_iload_n hx hb d_La_law_178 rfl (lv_at hl 0 rfl) ?_
  refine lv_iconst (v := 2) hx hb d_La_law_179 (by decide) ?_
  refine z_iadd (v := nI (6 * t + 2)) hx hb d_La_law_180 (nI_add (6 * t) 2) ?_
  refine va_sld hx hb hX hbl hbA S.2.2 (i := nI (6 * t + 2)) (vp_in_nI (by omega) (by omega)) d_La_law_181 ?_
  obtain ⟨fs2, he2⟩ := rw_mem hM u1.1
  obtain ⟨rm2, hg1, hg2, hg3, hg4, hR⟩ := hR H.size (allSl H)
  refine q_backP (X := []) (wi := []) (wr := []) (pl := u1.1 ++ M9) (wo := fun _ => []) (pl1 := fun (u : va_W × Int32) => u1.1 ++ u.1) S hA [] [] rfl rfl (by decide) (by decide) (va_runV (As := [.int (xs (nI (6 * t + 1)).toNatClampNeg), .int (xs (nI (6 * t + 2)).toNatClampNeg)]) (rest := []) ⟨hx, hb, C.2.2.1, C.2.2.2.1, C.2.2.2.2.1⟩ (cg_sa (wi := []) u1.1 hR) (k_virt (n := 2) C wc_Mo_cut hg3 hg4 wz_Mo wm_La_27 wn_Mo_cut ws_Mo_cut (by decide +kernel) ⟨(show rm2.frames + 1 ≤ 2048 by omega), (show 8 + (_ + 11) + rm2.locals ≤ 84000 by omega)⟩) (pr_nowVGP K S [] (by decide) rfl he2 rfl) rfl rfl hl.1 rfl (lv_room (Nat.le_of_ble_eq_true rfl)) d_La_law_182 ⟨(show cells + (p9 - u1.2.1) + 0 ≤ 600000 by omega), (show slots + 2 * (p9 - u1.2.1) + 0 ≤ 7302250 by omega)⟩) (fun u2 H locs hw2 S => ?_)
  obtain ⟨hM1, hrM⟩ := hw2
  have S : Sw G A s.heap H locs ([] ++ (u1.1 ++ u2.1)) := S
  show W p l e _ s m _ below meth c H locs _ _ _ (F0 m 185 ls [.int u2.2])
  refine lv_pop hx hb d_La_law_185 rfl ?_
  refine lv_goto (tgt := 469) hx hb d_La_law_186 (by decide) ?_
  exact next _ _ _ _ _ _ _ _ _ _ _ _ _ _ _ _ ls hW1 hM1 (by show cells + (p9 - u1.2.1) + 0 + u1.2.1 ≤ 368979; omega) (by show slots + 2 * (p9 - u1.2.1) + 0 + 2 * u1.2.1 ≤ 1141464; omega) S hl
set_option maxRecDepth 100000 in
set_option maxHeartbeats 4000000 in
theorem law_c3 {p : Program} {l : Launch} {e : Env} {s : State} {m : MethodId} {below : List Frame} {meth : Method} {c : Code} {G : va_G} {k : Nat → ClassId} {b L : Nat} {xs : Nat → Int32} {A : Nat → Prop} (C : Cx p s m #[Value.ref b] meth c code "PotentialBenchLaw" 4 ret meth.name) (K : Kn G k s) (hX : va_X b L xs s s.heap) (hbl : b < s.heap.size) (hA : ∀ q, s.heap.size ≤ q → A q) (hA2 : ∀ q, A q → s.heap.size ≤ q) {pb mo nf : Nat} {tk ct : Nat → Nat} {wd : Nat → Int32} {wp : Int32} {cz9 : Int64} {gv9 : Int32} {sp9 : Nat} {tl : Option (Nat × Nat)} {p9 : Nat} {W9 M9 : va_W} {H : Heap} {locs : List Loc} {cells slots : Nat} (hW : cwO k pb nf tk ct wd wp cz9 gv9 sp9 tl p9 W9) (hM : rwO k mo nf tk ct wd wp cz9 gv9 sp9 tl M9) (hc : cells + p9 ≤ 368979) (hs : slots + 2 * p9 ≤ 1141464) (S : Sw G A s.heap H locs ([] ++ (W9 ++ M9))) (hL : L ≤ 3072) {t : Nat} (ht : 6 * t + 6 ≤ L) (ls : Array Slot) (hl : lv_has ls 4 [(3, .int (nI (6 * t))), (2, .ref mo), (1, .ref pb), (0, .ref b)]) (next : lwN p l e s m below meth c G k b A pb mo t) : W p l e room_1 s m #[Value.ref b] below meth c H locs cells slots (lw_Z below #[Value.ref b] s) (F0 m 189 ls []) := by
  have hx := C.1
  have hb := C.2.1
  have hbA : ¬ A b := fun h => absurd (hA2 b h) (Nat.not_le.mpr hbl)
  refine lv_aload_n hx hb d_La_law_189 rfl (lv_at hl 2 rfl) ?_
  obtain ⟨nf2, tk2, ct2, wd2, wp2, cz2, gv2, sp2, tl2, r2, hC, hR⟩ := b_look (l := l) (G := G) hW hM 
  obtain ⟨fs1, he1⟩ := cw_mem hW M9
  obtain ⟨rm1, hr1, hr2, hr3, hr4, hC⟩ := hC H.size (allSl H)
  refine q_backP (X := []) (wi := []) (wr := []) (pl := W9 ++ M9) (wo := fun _ => []) (pl1 := fun (u : va_W × Nat × Int32) => u.1 ++ M9) S hA [] [] rfl rfl (by decide) (by decide) (va_runV (As := []) (rest := []) ⟨hx, hb, C.2.2.1, C.2.2.2.1, C.2.2.2.2.1⟩ (cg_as (wi := []) M9 hC) (k_virt (n := 0) C wc_PB_look rfl rfl wz_PB wm_La_28 wn_PB_look ws_PB_look (by decide +kernel) ⟨(show rm1.frames + 1 ≤ 2048 by omega), (show 8 + (_ + 11) + rm1.locals ≤ 84000 by omega)⟩) (pr_nowVGP K S [] (by decide) rfl he1 rfl) rfl rfl hl.1 rfl (lv_room (Nat.le_of_ble_eq_true rfl)) d_La_law_190 ⟨(show cells + rm1.cells ≤ 600000 by omega), (show slots + rm1.slots ≤ 7302250 by omega)⟩) (fun u1 H locs hw1 S => ?_)
  obtain ⟨hW1, hp1, hrP⟩ := hw1
  have S : Sw G A s.heap H locs ([] ++ (u1.1 ++ M9)) := S
  show W p l e _ s m _ below meth c H locs _ _ _ (F0 m 193 ls [.int u1.2.2])
  refine lv_pop hx hb d_La_law_193 rfl ?_
  refine lv_aload_n hx hb d_La_law_194 rfl (lv_at hl 1 rfl) ?_
  obtain ⟨fs2, he2⟩ := rw_mem hM u1.1
  obtain ⟨rm2, hg1, hg2, hg3, hg4, hR⟩ := hR H.size (allSl H)
  refine q_backP (X := []) (wi := []) (wr := []) (pl := u1.1 ++ M9) (wo := fun _ => []) (pl1 := fun (u : va_W × Int32) => u1.1 ++ u.1) S hA [] [] rfl rfl (by decide) (by decide) (va_runV (As := []) (rest := []) ⟨hx, hb, C.2.2.1, C.2.2.2.1, C.2.2.2.2.1⟩ (cg_sa (wi := []) u1.1 hR) (k_virt (n := 0) C wc_Mo_look hg3 hg4 wz_Mo wm_La_32 wn_Mo_look ws_Mo_look (by decide +kernel) ⟨(show rm2.frames + 1 ≤ 2048 by omega), (show 8 + (_ + 11) + rm2.locals ≤ 84000 by omega)⟩) (pr_nowVGP K S [] (by decide) rfl he2 rfl) rfl rfl hl.1 rfl (lv_room (Nat.le_of_ble_eq_true rfl)) d_La_law_195 ⟨(show cells + (p9 - u1.2.1) + 0 ≤ 600000 by omega), (show slots + 2 * (p9 - u1.2.1) + 0 ≤ 7302250 by omega)⟩) (fun u2 H locs hw2 S => ?_)
  obtain ⟨hM1, hrM⟩ := hw2
  have S : Sw G A s.heap H locs ([] ++ (u1.1 ++ u2.1)) := S
  show W p l e _ s m _ below meth c H locs _ _ _ (F0 m 198 ls [.int u2.2])
  refine lv_pop hx hb d_La_law_198 rfl ?_
  refine lv_goto (tgt := 469) hx hb d_La_law_199 (by decide) ?_
  exact next _ _ _ _ _ _ _ _ _ _ _ _ _ _ _ _ ls hW1 hM1 (by show cells + (p9 - u1.2.1) + 0 + u1.2.1 ≤ 368979; omega) (by show slots + 2 * (p9 - u1.2.1) + 0 + 2 * u1.2.1 ≤ 1141464; omega) S hl
set_option maxRecDepth 100000 in
set_option maxHeartbeats 4000000 in
theorem law_c4 {p : Program} {l : Launch} {e : Env} {s : State} {m : MethodId} {below : List Frame} {meth : Method} {c : Code} {G : va_G} {k : Nat → ClassId} {b L : Nat} {xs : Nat → Int32} {A : Nat → Prop} (C : Cx p s m #[Value.ref b] meth c code "PotentialBenchLaw" 4 ret meth.name) (K : Kn G k s) (hX : va_X b L xs s s.heap) (hbl : b < s.heap.size) (hA : ∀ q, s.heap.size ≤ q → A q) (hA2 : ∀ q, A q → s.heap.size ≤ q) {pb mo nf : Nat} {tk ct : Nat → Nat} {wd : Nat → Int32} {wp : Int32} {cz9 : Int64} {gv9 : Int32} {sp9 : Nat} {tl : Option (Nat × Nat)} {p9 : Nat} {W9 M9 : va_W} {H : Heap} {locs : List Loc} {cells slots : Nat} (hW : cwO k pb nf tk ct wd wp cz9 gv9 sp9 tl p9 W9) (hM : rwO k mo nf tk ct wd wp cz9 gv9 sp9 tl M9) (hc : cells + p9 ≤ 368979) (hs : slots + 2 * p9 ≤ 1141464) (S : Sw G A s.heap H locs ([] ++ (W9 ++ M9))) (hL : L ≤ 3072) {t : Nat} (ht : 6 * t + 6 ≤ L) (ls : Array Slot) (hl : lv_has ls 4 [(3, .int (nI (6 * t))), (2, .ref mo), (1, .ref pb), (0, .ref b)]) (next : lwN p l e s m below meth c G k b A pb mo t) : W p l e room_1 s m #[Value.ref b] below meth c H locs cells slots (lw_Z below #[Value.ref b] s) (F0 m 202 ls []) := by
  have hx := C.1
  have hb := C.2.1
  have hbA : ¬ A b := fun h => absurd (hA2 b h) (Nat.not_le.mpr hbl)
  refine lv_aload_n hx hb d_La_law_202 rfl (lv_at hl 2 rfl) ?_
  obtain ⟨nf2, tk2, ct2, wd2, wp2, cz2, gv2, sp2, tl2, r2, hC, hR⟩ := b_place (l := l) (G := G) hW hM 
  obtain ⟨fs1, he1⟩ := cw_mem hW M9
  obtain ⟨rm1, hr1, hr2, hr3, hr4, hC⟩ := hC H.size (allSl H)
  refine q_backP (X := []) (wi := []) (wr := []) (pl := W9 ++ M9) (wo := fun _ => []) (pl1 := fun (u : va_W × Nat × Int32) => u.1 ++ M9) S hA [] [] rfl rfl (by decide) (by decide) (va_runV (As := []) (rest := []) ⟨hx, hb, C.2.2.1, C.2.2.2.1, C.2.2.2.2.1⟩ (cg_as (wi := []) M9 hC) (k_virt (n := 0) C wc_PB_place rfl rfl wz_PB wm_La_33 wn_PB_place ws_PB_place (by decide +kernel) ⟨(show rm1.frames + 1 ≤ 2048 by omega), (show 8 + (_ + 11) + rm1.locals ≤ 84000 by omega)⟩) (pr_nowVGP K S [] (by decide) rfl he1 rfl) rfl rfl hl.1 rfl (lv_room (Nat.le_of_ble_eq_true rfl)) d_La_law_203 ⟨(show cells + rm1.cells ≤ 600000 by omega), (show slots + rm1.slots ≤ 7302250 by omega)⟩) (fun u1 H locs hw1 S => ?_)
  obtain ⟨hW1, hp1, hrP⟩ := hw1
  have S : Sw G A s.heap H locs ([] ++ (u1.1 ++ M9)) := S
  show W p l e _ s m _ below meth c H locs _ _ _ (F0 m 206 ls [.int u1.2.2])
  refine lv_pop hx hb d_La_law_206 rfl ?_
  refine lv_aload_n hx hb d_La_law_207 rfl (lv_at hl 1 rfl) ?_
  obtain ⟨fs2, he2⟩ := rw_mem hM u1.1
  obtain ⟨rm2, hg1, hg2, hg3, hg4, hR⟩ := hR H.size (allSl H)
  refine q_backP (X := []) (wi := []) (wr := []) (pl := u1.1 ++ M9) (wo := fun _ => []) (pl1 := fun (u : va_W × Int32) => u1.1 ++ u.1) S hA [] [] rfl rfl (by decide) (by decide) (va_runV (As := []) (rest := []) ⟨hx, hb, C.2.2.1, C.2.2.2.1, C.2.2.2.2.1⟩ (cg_sa (wi := []) u1.1 hR) (k_virt (n := 0) C wc_Mo_place hg3 hg4 wz_Mo wm_La_36 wn_Mo_place ws_Mo_place (by decide +kernel) ⟨(show rm2.frames + 1 ≤ 2048 by omega), (show 8 + (_ + 11) + rm2.locals ≤ 84000 by omega)⟩) (pr_nowVGP K S [] (by decide) rfl he2 rfl) rfl rfl hl.1 rfl (lv_room (Nat.le_of_ble_eq_true rfl)) d_La_law_208 ⟨(show cells + (p9 - u1.2.1) + 0 ≤ 600000 by omega), (show slots + 2 * (p9 - u1.2.1) + 0 ≤ 7302250 by omega)⟩) (fun u2 H locs hw2 S => ?_)
  obtain ⟨hM1, hrM⟩ := hw2
  have S : Sw G A s.heap H locs ([] ++ (u1.1 ++ u2.1)) := S
  show W p l e _ s m _ below meth c H locs _ _ _ (F0 m 211 ls [.int u2.2])
  refine lv_pop hx hb d_La_law_211 rfl ?_
  refine lv_goto (tgt := 469) hx hb d_La_law_212 (by decide) ?_
  exact next _ _ _ _ _ _ _ _ _ _ _ _ _ _ _ _ ls hW1 hM1 (by show cells + (p9 - u1.2.1) + 0 + u1.2.1 ≤ 368979; omega) (by show slots + 2 * (p9 - u1.2.1) + 0 + 2 * u1.2.1 ≤ 1141464; omega) S hl
set_option maxRecDepth 100000 in
set_option maxHeartbeats 4000000 in
theorem law_c5 {p : Program} {l : Launch} {e : Env} {s : State} {m : MethodId} {below : List Frame} {meth : Method} {c : Code} {G : va_G} {k : Nat → ClassId} {b L : Nat} {xs : Nat → Int32} {A : Nat → Prop} (C : Cx p s m #[Value.ref b] meth c code "PotentialBenchLaw" 4 ret meth.name) (K : Kn G k s) (hX : va_X b L xs s s.heap) (hbl : b < s.heap.size) (hA : ∀ q, s.heap.size ≤ q → A q) (hA2 : ∀ q, A q → s.heap.size ≤ q) {pb mo nf : Nat} {tk ct : Nat → Nat} {wd : Nat → Int32} {wp : Int32} {cz9 : Int64} {gv9 : Int32} {sp9 : Nat} {tl : Option (Nat × Nat)} {p9 : Nat} {W9 M9 : va_W} {H : Heap} {locs : List Loc} {cells slots : Nat} (hW : cwO k pb nf tk ct wd wp cz9 gv9 sp9 tl p9 W9) (hM : rwO k mo nf tk ct wd wp cz9 gv9 sp9 tl M9) (hc : cells + p9 ≤ 368979) (hs : slots + 2 * p9 ≤ 1141464) (S : Sw G A s.heap H locs ([] ++ (W9 ++ M9))) (hL : L ≤ 3072) {t : Nat} (ht : 6 * t + 6 ≤ L) (ls : Array Slot) (hl : lv_has ls 4 [(3, .int (nI (6 * t))), (2, .ref mo), (1, .ref pb), (0, .ref b)]) (next : lwN p l e s m below meth c G k b A pb mo t) : W p l e room_1 s m #[Value.ref b] below meth c H locs cells slots (lw_Z below #[Value.ref b] s) (F0 m 215 ls []) := by
  have hx := C.1
  have hb := C.2.1
  have hbA : ¬ A b := fun h => absurd (hA2 b h) (Nat.not_le.mpr hbl)
  refine lv_aload_n hx hb d_La_law_215 rfl (lv_at hl 2 rfl) ?_
  refine lv_aload_n hx hb d_La_law_216 rfl (lv_at hl 3 rfl) ?_
  refine lv_iload_n hx hb d_La_law_217 rfl (lv_at hl 0 rfl) ?_
  refine lv_iconst (v := 1) hx hb d_La_law_218 (by decide) ?_
  refine z_iadd (v := nI (6 * t + 1)) hx hb d_La_law_219 (nI_add (6 * t) 1) ?_
  refine va_sld hx hb hX hbl hbA S.2.2 (i := nI (6 * t + 1)) (vp_in_nI (by omega) (by omega)) d_La_law_220 ?_
  refine lv_aload_n hx hb d_La_law_221 rfl (lv_at hl 3 rfl) ?_
  refine lv_iload_n hx hb d_La_law_222 rfl (lv_at hl 0 rfl) ?_
  refine lv_iconst (v := 2) hx hb d_La_law_223 (by decide) ?_
  refine z_iadd (v := nI (6 * t + 2)) hx hb d_La_law_224 (nI_add (6 * t) 2) ?_
  refine va_sld hx hb hX hbl hbA S.2.2 (i := nI (6 * t + 2)) (vp_in_nI (by omega) (by omega)) d_La_law_225 ?_
  refine lv_aload_n hx hb d_La_law_226 rfl (lv_at hl 3 rfl) ?_
  refine lv_iload_n hx hb d_La_law_227 rfl (lv_at hl 0 rfl) ?_
  refine lv_iconst (v := 3) hx hb d_La_law_228 (by decide) ?_
  refine z_iadd (v := nI (6 * t + 3)) hx hb d_La_law_229 (nI_add (6 * t) 3) ?_
  refine va_sld hx hb hX hbl hbA S.2.2 (i := nI (6 * t + 3)) (vp_in_nI (by omega) (by omega)) d_La_law_230 ?_
  refine lv_aload_n hx hb d_La_law_231 rfl (lv_at hl 3 rfl) ?_
  refine lv_iload_n hx hb d_La_law_232 rfl (lv_at hl 0 rfl) ?_
  refine lv_iconst (v := 4) hx hb d_La_law_233 (by decide) ?_
  refine z_iadd (v := nI (6 * t + 4)) hx hb d_La_law_234 (nI_add (6 * t) 4) ?_
  refine va_sld hx hb hX hbl hbA S.2.2 (i := nI (6 * t + 4)) (vp_in_nI (by omega) (by omega)) d_La_law_235 ?_
  obtain ⟨nf2, tk2, ct2, wd2, wp2, cz2, gv2, sp2, tl2, r2, hC, hR⟩ := b_run (l := l) (G := G) hW hM (xs (nI (6 * t + 1)).toNatClampNeg) (xs (nI (6 * t + 2)).toNatClampNeg) (xs (nI (6 * t + 3)).toNatClampNeg) (xs (nI (6 * t + 4)).toNatClampNeg)
  obtain ⟨fs1, he1⟩ := cw_mem hW M9
  obtain ⟨rm1, hr1, hr2, hr3, hr4, hC⟩ := hC H.size (allSl H)
  refine q_backP (X := []) (wi := []) (wr := []) (pl := W9 ++ M9) (wo := fun _ => []) (pl1 := fun (u : va_W × Nat × Int32) => u.1 ++ M9) S hA [] [] rfl rfl (by decide) (by decide) (va_runV (As := [.int (xs (nI (6 * t + 1)).toNatClampNeg), .int (xs (nI (6 * t + 2)).toNatClampNeg), .int (xs (nI (6 * t + 3)).toNatClampNeg), .int (xs (nI (6 * t + 4)).toNatClampNeg)]) (rest := []) ⟨hx, hb, C.2.2.1, C.2.2.2.1, C.2.2.2.2.1⟩ (cg_as (wi := []) M9 hC) (k_virt (n := 4) C wc_PB_run rfl rfl wz_PB wm_La_37 wn_PB_run ws_PB_run (by decide +kernel) ⟨(show rm1.frames + 1 ≤ 2048 by omega), (show 8 + (_ + 11) + rm1.locals ≤ 84000 by omega)⟩) (pr_nowVGP K S [] (by decide) rfl he1 rfl) rfl rfl hl.1 rfl (lv_room (Nat.le_of_ble_eq_true rfl)) d_La_law_236 ⟨(show cells + rm1.cells ≤ 600000 by omega), (show slots + rm1.slots ≤ 7302250 by omega)⟩) (fun u1 H locs hw1 S => ?_)
  obtain ⟨hW1, hp1, hrP⟩ := hw1
  have S : Sw G A s.heap H locs ([] ++ (u1.1 ++ M9)) := S
  show W p l e _ s m _ below meth c H locs _ _ _ (F0 m 239 ls [.int u1.2.2])
  refine lv_pop hx hb d_La_law_239 rfl ?_
  refine lv_aload_n hx hb d_La_law_240 rfl (lv_at hl 1 rfl) ?_
  refine lv_aload_n hx hb d_La_law_241 rfl (lv_at hl 3 rfl) ?_
  refine lv_iload_n hx hb d_La_law_242 rfl (lv_at hl 0 rfl) ?_
  refine lv_iconst (v := 1) hx hb d_La_law_243 (by decide) ?_
  refine z_iadd (v := nI (6 * t + 1)) hx hb d_La_law_244 (nI_add (6 * t) 1) ?_
  refine va_sld hx hb hX hbl hbA S.2.2 (i := nI (6 * t + 1)) (vp_in_nI (by omega) (by omega)) d_La_law_245 ?_
  refine lv_aload_n hx hb d_La_law_246 rfl (lv_at hl 3 rfl) ?_
  refine lv_iload_n hx hb d_La_law_247 rfl (lv_at hl 0 rfl) ?_
  refine lv_iconst (v := 2) hx hb d_La_law_248 (by decide) ?_
  refine z_iadd (v := nI (6 * t + 2)) hx hb d_La_law_249 (nI_add (6 * t) 2) ?_
  refine va_sld hx hb hX hbl hbA S.2.2 (i := nI (6 * t + 2)) (vp_in_nI (by omega) (by omega)) d_La_law_250 ?_
  refine lv_aload_n hx hb d_La_law_251 rfl (lv_at hl 3 rfl) ?_
  refine lv_iload_n hx hb d_La_law_252 rfl (lv_at hl 0 rfl) ?_
  refine lv_iconst (v := 3) hx hb d_La_law_253 (by decide) ?_
  refine z_iadd (v := nI (6 * t + 3)) hx hb d_La_law_254 (nI_add (6 * t) 3) ?_
  refine va_sld hx hb hX hbl hbA S.2.2 (i := nI (6 * t + 3)) (vp_in_nI (by omega) (by omega)) d_La_law_255 ?_
  refine lv_aload_n hx hb d_La_law_256 rfl (lv_at hl 3 rfl) ?_
  refine lv_iload_n hx hb d_La_law_257 rfl (lv_at hl 0 rfl) ?_
  refine lv_iconst (v := 4) hx hb d_La_law_258 (by decide) ?_
  refine z_iadd (v := nI (6 * t + 4)) hx hb d_La_law_259 (nI_add (6 * t) 4) ?_
  refine va_sld hx hb hX hbl hbA S.2.2 (i := nI (6 * t + 4)) (vp_in_nI (by omega) (by omega)) d_La_law_260 ?_
  obtain ⟨fs2, he2⟩ := rw_mem hM u1.1
  obtain ⟨rm2, hg1, hg2, hg3, hg4, hR⟩ := hR H.size (allSl H)
  refine q_backP (X := []) (wi := []) (wr := []) (pl := u1.1 ++ M9) (wo := fun _ => []) (pl1 := fun (u : va_W × Int32) => u1.1 ++ u.1) S hA [] [] rfl rfl (by decide) (by decide) (va_runV (As := [.int (xs (nI (6 * t + 1)).toNatClampNeg), .int (xs (nI (6 * t + 2)).toNatClampNeg), .int (xs (nI (6 * t + 3)).toNatClampNeg), .int (xs (nI (6 * t + 4)).toNatClampNeg)]) (rest := []) ⟨hx, hb, C.2.2.1, C.2.2.2.1, C.2.2.2.2.1⟩ (cg_sa (wi := []) u1.1 hR) (k_virt (n := 4) C wc_Mo_run hg3 hg4 wz_Mo wm_La_41 wn_Mo_run ws_Mo_run (by decide +kernel) ⟨(show rm2.frames + 1 ≤ 2048 by omega), (show 8 + (_ + 11) + rm2.locals ≤ 84000 by omega)⟩) (pr_nowVGP K S [] (by decide) rfl he2 rfl) rfl rfl hl.1 rfl (lv_room (Nat.le_of_ble_eq_true rfl)) d_La_law_261 ⟨(show cells + (p9 - u1.2.1) + 0 ≤ 600000 by omega), (show slots + 2 * (p9 - u1.2.1) + 0 ≤ 7302250 by omega)⟩) (fun u2 H locs hw2 S => ?_)
  obtain ⟨hM1, hrM⟩ := hw2
  have S : Sw G A s.heap H locs ([] ++ (u1.1 ++ u2.1)) := S
  show W p l e _ s m _ below meth c H locs _ _ _ (F0 m 264 ls [.int u2.2])
  refine lv_pop hx hb d_La_law_264 rfl ?_
  refine lv_goto (tgt := 469) hx hb d_La_law_265 (by decide) ?_
  exact next _ _ _ _ _ _ _ _ _ _ _ _ _ _ _ _ ls hW1 hM1 (by show cells + (p9 - u1.2.1) + 0 + u1.2.1 ≤ 368979; omega) (by show slots + 2 * (p9 - u1.2.1) + 0 + 2 * u1.2.1 ≤ 1141464; omega) S hl
set_option maxRecDepth 100000 in
set_option maxHeartbeats 4000000 in
theorem law_c6 {p : Program} {l : Launch} {e : Env} {s : State} {m : MethodId} {below : List Frame} {meth : Method} {c : Code} {G : va_G} {k : Nat → ClassId} {b L : Nat} {xs : Nat → Int32} {A : Nat → Prop} (C : Cx p s m #[Value.ref b] meth c code "PotentialBenchLaw" 4 ret meth.name) (K : Kn G k s) (hX : va_X b L xs s s.heap) (hbl : b < s.heap.size) (hA : ∀ q, s.heap.size ≤ q → A q) (hA2 : ∀ q, A q → s.heap.size ≤ q) {pb mo nf : Nat} {tk ct : Nat → Nat} {wd : Nat → Int32} {wp : Int32} {cz9 : Int64} {gv9 : Int32} {sp9 : Nat} {tl : Option (Nat × Nat)} {p9 : Nat} {W9 M9 : va_W} {H : Heap} {locs : List Loc} {cells slots : Nat} (hW : cwO k pb nf tk ct wd wp cz9 gv9 sp9 tl p9 W9) (hM : rwO k mo nf tk ct wd wp cz9 gv9 sp9 tl M9) (hc : cells + p9 ≤ 368979) (hs : slots + 2 * p9 ≤ 1141464) (S : Sw G A s.heap H locs ([] ++ (W9 ++ M9))) (hL : L ≤ 3072) {t : Nat} (ht : 6 * t + 6 ≤ L) (ls : Array Slot) (hl : lv_has ls 4 [(3, .int (nI (6 * t))), (2, .ref mo), (1, .ref pb), (0, .ref b)]) (next : lwN p l e s m below meth c G k b A pb mo t) : W p l e room_1 s m #[Value.ref b] below meth c H locs cells slots (lw_Z below #[Value.ref b] s) (F0 m 268 ls []) := by
  have hx := C.1
  have hb := C.2.1
  have hbA : ¬ A b := fun h => absurd (hA2 b h) (Nat.not_le.mpr hbl)
  refine lv_aload_n hx hb d_La_law_268 rfl (lv_at hl 2 rfl) ?_
  obtain ⟨nf2, tk2, ct2, wd2, wp2, cz2, gv2, sp2, tl2, r2, hC, hR⟩ := b_cost (l := l) (G := G) hW hM 
  obtain ⟨fs1, he1⟩ := cw_mem hW M9
  obtain ⟨rm1, hr1, hr2, hr3, hr4, hC⟩ := hC H.size (allSl H)
  refine q_backP (X := []) (wi := []) (wr := []) (pl := W9 ++ M9) (wo := fun _ => []) (pl1 := fun (u : va_W × Nat × Int64) => u.1 ++ M9) S hA [] [] rfl rfl (by decide) (by decide) (va_runV (As := []) (rest := []) ⟨hx, hb, C.2.2.1, C.2.2.2.1, C.2.2.2.2.1⟩ (cg_as (wi := []) M9 hC) (k_virt (n := 0) C wc_PB_cost rfl rfl wz_PB wm_La_42 wn_PB_cost ws_PB_cost (by decide +kernel) ⟨(show rm1.frames + 1 ≤ 2048 by omega), (show 8 + (_ + 11) + rm1.locals ≤ 84000 by omega)⟩) (pr_nowVGP K S [] (by decide) rfl he1 rfl) rfl rfl hl.1 rfl (lv_room (Nat.le_of_ble_eq_true rfl)) d_La_law_269 ⟨(show cells + rm1.cells ≤ 600000 by omega), (show slots + rm1.slots ≤ 7302250 by omega)⟩) (fun u1 H locs hw1 S => ?_)
  obtain ⟨hW1, hp1, hrP⟩ := hw1
  have S : Sw G A s.heap H locs ([] ++ (u1.1 ++ M9)) := S
  show W p l e _ s m _ below meth c H locs _ _ _ (F0 m 272 ls [.long u1.2.2])
  refine lv_pop2_2 hx hb d_La_law_272 rfl ?_
  refine lv_aload_n hx hb d_La_law_273 rfl (lv_at hl 1 rfl) ?_
  obtain ⟨fs2, he2⟩ := rw_mem hM u1.1
  obtain ⟨rm2, hg1, hg2, hg3, hg4, hR⟩ := hR H.size (allSl H)
  refine q_backP (X := []) (wi := []) (wr := []) (pl := u1.1 ++ M9) (wo := fun _ => []) (pl1 := fun (u : va_W × Int64) => u1.1 ++ u.1) S hA [] [] rfl rfl (by decide) (by decide) (va_runV (As := []) (rest := []) ⟨hx, hb, C.2.2.1, C.2.2.2.1, C.2.2.2.2.1⟩ (cg_sa (wi := []) u1.1 hR) (k_virt (n := 0) C wc_Mo_cost hg3 hg4 wz_Mo wm_La_46 wn_Mo_cost ws_Mo_cost (by decide +kernel) ⟨(show rm2.frames + 1 ≤ 2048 by omega), (show 8 + (_ + 11) + rm2.locals ≤ 84000 by omega)⟩) (pr_nowVGP K S [] (by decide) rfl he2 rfl) rfl rfl hl.1 rfl (lv_room (Nat.le_of_ble_eq_true rfl)) d_La_law_274 ⟨(show cells + (p9 - u1.2.1) + 0 ≤ 600000 by omega), (show slots + 2 * (p9 - u1.2.1) + 0 ≤ 7302250 by omega)⟩) (fun u2 H locs hw2 S => ?_)
  obtain ⟨hM1, hrM⟩ := hw2
  have S : Sw G A s.heap H locs ([] ++ (u1.1 ++ u2.1)) := S
  show W p l e _ s m _ below meth c H locs _ _ _ (F0 m 277 ls [.long u2.2])
  refine lv_pop2_2 hx hb d_La_law_277 rfl ?_
  refine lv_goto (tgt := 469) hx hb d_La_law_278 (by decide) ?_
  exact next _ _ _ _ _ _ _ _ _ _ _ _ _ _ _ _ ls hW1 hM1 (by show cells + (p9 - u1.2.1) + 0 + u1.2.1 ≤ 368979; omega) (by show slots + 2 * (p9 - u1.2.1) + 0 + 2 * u1.2.1 ≤ 1141464; omega) S hl
set_option maxRecDepth 100000 in
set_option maxHeartbeats 4000000 in
theorem law_c7 {p : Program} {l : Launch} {e : Env} {s : State} {m : MethodId} {below : List Frame} {meth : Method} {c : Code} {G : va_G} {k : Nat → ClassId} {b L : Nat} {xs : Nat → Int32} {A : Nat → Prop} (C : Cx p s m #[Value.ref b] meth c code "PotentialBenchLaw" 4 ret meth.name) (K : Kn G k s) (hX : va_X b L xs s s.heap) (hbl : b < s.heap.size) (hA : ∀ q, s.heap.size ≤ q → A q) (hA2 : ∀ q, A q → s.heap.size ≤ q) {pb mo nf : Nat} {tk ct : Nat → Nat} {wd : Nat → Int32} {wp : Int32} {cz9 : Int64} {gv9 : Int32} {sp9 : Nat} {tl : Option (Nat × Nat)} {p9 : Nat} {W9 M9 : va_W} {H : Heap} {locs : List Loc} {cells slots : Nat} (hW : cwO k pb nf tk ct wd wp cz9 gv9 sp9 tl p9 W9) (hM : rwO k mo nf tk ct wd wp cz9 gv9 sp9 tl M9) (hc : cells + p9 ≤ 368979) (hs : slots + 2 * p9 ≤ 1141464) (S : Sw G A s.heap H locs ([] ++ (W9 ++ M9))) (hL : L ≤ 3072) {t : Nat} (ht : 6 * t + 6 ≤ L) (ls : Array Slot) (hl : lv_has ls 4 [(3, .int (nI (6 * t))), (2, .ref mo), (1, .ref pb), (0, .ref b)]) (next : lwN p l e s m below meth c G k b A pb mo t) : W p l e room_1 s m #[Value.ref b] below meth c H locs cells slots (lw_Z below #[Value.ref b] s) (F0 m 281 ls []) := by
  have hx := C.1
  have hb := C.2.1
  have hbA : ¬ A b := fun h => absurd (hA2 b h) (Nat.not_le.mpr hbl)
  refine lv_aload_n hx hb d_La_law_281 rfl (lv_at hl 2 rfl) ?_
  obtain ⟨nf2, tk2, ct2, wd2, wp2, cz2, gv2, sp2, tl2, r2, hC, hR⟩ := b_given (l := l) (G := G) hW hM 
  obtain ⟨fs1, he1⟩ := cw_mem hW M9
  obtain ⟨rm1, hr1, hr2, hr3, hr4, hC⟩ := hC H.size (allSl H)
  refine q_backP (X := []) (wi := []) (wr := []) (pl := W9 ++ M9) (wo := fun _ => []) (pl1 := fun (u : va_W × Nat × Int32) => u.1 ++ M9) S hA [] [] rfl rfl (by decide) (by decide) (va_runV (As := []) (rest := []) ⟨hx, hb, C.2.2.1, C.2.2.2.1, C.2.2.2.2.1⟩ (cg_as (wi := []) M9 hC) (k_virt (n := 0) C wc_PB_given rfl rfl wz_PB wm_La_47 wn_PB_given ws_PB_given (by decide +kernel) ⟨(show rm1.frames + 1 ≤ 2048 by omega), (show 8 + (_ + 11) + rm1.locals ≤ 84000 by omega)⟩) (pr_nowVGP K S [] (by decide) rfl he1 rfl) rfl rfl hl.1 rfl (lv_room (Nat.le_of_ble_eq_true rfl)) d_La_law_282 ⟨(show cells + rm1.cells ≤ 600000 by omega), (show slots + rm1.slots ≤ 7302250 by omega)⟩) (fun u1 H locs hw1 S => ?_)
  obtain ⟨hW1, hp1, hrP⟩ := hw1
  have S : Sw G A s.heap H locs ([] ++ (u1.1 ++ M9)) := S
  show W p l e _ s m _ below meth c H locs _ _ _ (F0 m 285 ls [.int u1.2.2])
  refine lv_pop hx hb d_La_law_285 rfl ?_
  refine lv_aload_n hx hb d_La_law_286 rfl (lv_at hl 1 rfl) ?_
  obtain ⟨fs2, he2⟩ := rw_mem hM u1.1
  obtain ⟨rm2, hg1, hg2, hg3, hg4, hR⟩ := hR H.size (allSl H)
  refine q_backP (X := []) (wi := []) (wr := []) (pl := u1.1 ++ M9) (wo := fun _ => []) (pl1 := fun (u : va_W × Int32) => u1.1 ++ u.1) S hA [] [] rfl rfl (by decide) (by decide) (va_runV (As := []) (rest := []) ⟨hx, hb, C.2.2.1, C.2.2.2.1, C.2.2.2.2.1⟩ (cg_sa (wi := []) u1.1 hR) (k_virt (n := 0) C wc_Mo_given hg3 hg4 wz_Mo wm_La_50 wn_Mo_given ws_Mo_given (by decide +kernel) ⟨(show rm2.frames + 1 ≤ 2048 by omega), (show 8 + (_ + 11) + rm2.locals ≤ 84000 by omega)⟩) (pr_nowVGP K S [] (by decide) rfl he2 rfl) rfl rfl hl.1 rfl (lv_room (Nat.le_of_ble_eq_true rfl)) d_La_law_287 ⟨(show cells + (p9 - u1.2.1) + 0 ≤ 600000 by omega), (show slots + 2 * (p9 - u1.2.1) + 0 ≤ 7302250 by omega)⟩) (fun u2 H locs hw2 S => ?_)
  obtain ⟨hM1, hrM⟩ := hw2
  have S : Sw G A s.heap H locs ([] ++ (u1.1 ++ u2.1)) := S
  show W p l e _ s m _ below meth c H locs _ _ _ (F0 m 290 ls [.int u2.2])
  refine lv_pop hx hb d_La_law_290 rfl ?_
  refine lv_goto (tgt := 469) hx hb d_La_law_291 (by decide) ?_
  exact next _ _ _ _ _ _ _ _ _ _ _ _ _ _ _ _ ls hW1 hM1 (by show cells + (p9 - u1.2.1) + 0 + u1.2.1 ≤ 368979; omega) (by show slots + 2 * (p9 - u1.2.1) + 0 + 2 * u1.2.1 ≤ 1141464; omega) S hl
set_option maxRecDepth 100000 in
set_option maxHeartbeats 4000000 in
theorem law_c8 {p : Program} {l : Launch} {e : Env} {s : State} {m : MethodId} {below : List Frame} {meth : Method} {c : Code} {G : va_G} {k : Nat → ClassId} {b L : Nat} {xs : Nat → Int32} {A : Nat → Prop} (C : Cx p s m #[Value.ref b] meth c code "PotentialBenchLaw" 4 ret meth.name) (K : Kn G k s) (hX : va_X b L xs s s.heap) (hbl : b < s.heap.size) (hA : ∀ q, s.heap.size ≤ q → A q) (hA2 : ∀ q, A q → s.heap.size ≤ q) {pb mo nf : Nat} {tk ct : Nat → Nat} {wd : Nat → Int32} {wp : Int32} {cz9 : Int64} {gv9 : Int32} {sp9 : Nat} {tl : Option (Nat × Nat)} {p9 : Nat} {W9 M9 : va_W} {H : Heap} {locs : List Loc} {cells slots : Nat} (hW : cwO k pb nf tk ct wd wp cz9 gv9 sp9 tl p9 W9) (hM : rwO k mo nf tk ct wd wp cz9 gv9 sp9 tl M9) (hc : cells + p9 ≤ 368979) (hs : slots + 2 * p9 ≤ 1141464) (S : Sw G A s.heap H locs ([] ++ (W9 ++ M9))) (hL : L ≤ 3072) {t : Nat} (ht : 6 * t + 6 ≤ L) (ls : Array Slot) (hl : lv_has ls 4 [(3, .int (nI (6 * t))), (2, .ref mo), (1, .ref pb), (0, .ref b)]) (next : lwN p l e s m below meth c G k b A pb mo t) : W p l e room_1 s m #[Value.ref b] below meth c H locs cells slots (lw_Z below #[Value.ref b] s) (F0 m 294 ls []) := by
  have hx := C.1
  have hb := C.2.1
  have hbA : ¬ A b := fun h => absurd (hA2 b h) (Nat.not_le.mpr hbl)
  refine lv_aload_n hx hb d_La_law_294 rfl (lv_at hl 2 rfl) ?_
  obtain ⟨nf2, tk2, ct2, wd2, wp2, cz2, gv2, sp2, tl2, r2, hC, hR⟩ := b_steps (l := l) (G := G) hW hM 
  obtain ⟨fs1, he1⟩ := cw_mem hW M9
  obtain ⟨rm1, hr1, hr2, hr3, hr4, hC⟩ := hC H.size (allSl H)
  refine q_backP (X := []) (wi := []) (wr := []) (pl := W9 ++ M9) (wo := fun _ => []) (pl1 := fun (u : va_W × Nat × Int32) => u.1 ++ M9) S hA [] [] rfl rfl (by decide) (by decide) (va_runV (As := []) (rest := []) ⟨hx, hb, C.2.2.1, C.2.2.2.1, C.2.2.2.2.1⟩ (cg_as (wi := []) M9 hC) (k_virt (n := 0) C wc_PB_steps rfl rfl wz_PB wm_La_51 wn_PB_steps ws_PB_steps (by decide +kernel) ⟨(show rm1.frames + 1 ≤ 2048 by omega), (show 8 + (_ + 11) + rm1.locals ≤ 84000 by omega)⟩) (pr_nowVGP K S [] (by decide) rfl he1 rfl) rfl rfl hl.1 rfl (lv_room (Nat.le_of_ble_eq_true rfl)) d_La_law_295 ⟨(show cells + rm1.cells ≤ 600000 by omega), (show slots + rm1.slots ≤ 7302250 by omega)⟩) (fun u1 H locs hw1 S => ?_)
  obtain ⟨hW1, hp1, hrP⟩ := hw1
  have S : Sw G A s.heap H locs ([] ++ (u1.1 ++ M9)) := S
  show W p l e _ s m _ below meth c H locs _ _ _ (F0 m 298 ls [.int u1.2.2])
  refine lv_pop hx hb d_La_law_298 rfl ?_
  refine lv_aload_n hx hb d_La_law_299 rfl (lv_at hl 1 rfl) ?_
  obtain ⟨fs2, he2⟩ := rw_mem hM u1.1
  obtain ⟨rm2, hg1, hg2, hg3, hg4, hR⟩ := hR H.size (allSl H)
  refine q_backP (X := []) (wi := []) (wr := []) (pl := u1.1 ++ M9) (wo := fun _ => []) (pl1 := fun (u : va_W × Int32) => u1.1 ++ u.1) S hA [] [] rfl rfl (by decide) (by decide) (va_runV (As := []) (rest := []) ⟨hx, hb, C.2.2.1, C.2.2.2.1, C.2.2.2.2.1⟩ (cg_sa (wi := []) u1.1 hR) (k_virt (n := 0) C wc_Mo_steps hg3 hg4 wz_Mo wm_La_54 wn_Mo_steps ws_Mo_steps (by decide +kernel) ⟨(show rm2.frames + 1 ≤ 2048 by omega), (show 8 + (_ + 11) + rm2.locals ≤ 84000 by omega)⟩) (pr_nowVGP K S [] (by decide) rfl he2 rfl) rfl rfl hl.1 rfl (lv_room (Nat.le_of_ble_eq_true rfl)) d_La_law_300 ⟨(show cells + (p9 - u1.2.1) + 0 ≤ 600000 by omega), (show slots + 2 * (p9 - u1.2.1) + 0 ≤ 7302250 by omega)⟩) (fun u2 H locs hw2 S => ?_)
  obtain ⟨hM1, hrM⟩ := hw2
  have S : Sw G A s.heap H locs ([] ++ (u1.1 ++ u2.1)) := S
  show W p l e _ s m _ below meth c H locs _ _ _ (F0 m 303 ls [.int u2.2])
  refine lv_pop hx hb d_La_law_303 rfl ?_
  refine lv_goto (tgt := 469) hx hb d_La_law_304 (by decide) ?_
  exact next _ _ _ _ _ _ _ _ _ _ _ _ _ _ _ _ ls hW1 hM1 (by show cells + (p9 - u1.2.1) + 0 + u1.2.1 ≤ 368979; omega) (by show slots + 2 * (p9 - u1.2.1) + 0 + 2 * u1.2.1 ≤ 1141464; omega) S hl
set_option maxRecDepth 100000 in
set_option maxHeartbeats 4000000 in
theorem law_c9 {p : Program} {l : Launch} {e : Env} {s : State} {m : MethodId} {below : List Frame} {meth : Method} {c : Code} {G : va_G} {k : Nat → ClassId} {b L : Nat} {xs : Nat → Int32} {A : Nat → Prop} (C : Cx p s m #[Value.ref b] meth c code "PotentialBenchLaw" 4 ret meth.name) (K : Kn G k s) (hX : va_X b L xs s s.heap) (hbl : b < s.heap.size) (hA : ∀ q, s.heap.size ≤ q → A q) (hA2 : ∀ q, A q → s.heap.size ≤ q) {pb mo nf : Nat} {tk ct : Nat → Nat} {wd : Nat → Int32} {wp : Int32} {cz9 : Int64} {gv9 : Int32} {sp9 : Nat} {tl : Option (Nat × Nat)} {p9 : Nat} {W9 M9 : va_W} {H : Heap} {locs : List Loc} {cells slots : Nat} (hW : cwO k pb nf tk ct wd wp cz9 gv9 sp9 tl p9 W9) (hM : rwO k mo nf tk ct wd wp cz9 gv9 sp9 tl M9) (hc : cells + p9 ≤ 368979) (hs : slots + 2 * p9 ≤ 1141464) (S : Sw G A s.heap H locs ([] ++ (W9 ++ M9))) (hL : L ≤ 3072) {t : Nat} (ht : 6 * t + 6 ≤ L) (ls : Array Slot) (hl : lv_has ls 4 [(3, .int (nI (6 * t))), (2, .ref mo), (1, .ref pb), (0, .ref b)]) (next : lwN p l e s m below meth c G k b A pb mo t) : W p l e room_1 s m #[Value.ref b] below meth c H locs cells slots (lw_Z below #[Value.ref b] s) (F0 m 307 ls []) := by
  have hx := C.1
  have hb := C.2.1
  have hbA : ¬ A b := fun h => absurd (hA2 b h) (Nat.not_le.mpr hbl)
  refine lv_aload_n hx hb d_La_law_307 rfl (lv_at hl 2 rfl) ?_
  refine lv_aload_n hx hb d_La_law_308 rfl (lv_at hl 3 rfl) ?_
  refine lv_iload_n hx hb d_La_law_309 rfl (lv_at hl 0 rfl) ?_
  refine lv_iconst (v := 1) hx hb d_La_law_310 (by decide) ?_
  refine z_iadd (v := nI (6 * t + 1)) hx hb d_La_law_311 (nI_add (6 * t) 1) ?_
  refine va_sld hx hb hX hbl hbA S.2.2 (i := nI (6 * t + 1)) (vp_in_nI (by omega) (by omega)) d_La_law_312 ?_
  obtain ⟨tl2, hC, hR⟩ := b_bound (l := l) (G := G) hW hM (xs (nI (6 * t + 1)).toNatClampNeg)
  obtain ⟨fs1, he1⟩ := cw_mem hW M9
  obtain ⟨rm1, hr1, hr2, hr3, hr4, hC⟩ := hC H.size (allSl H)
  refine q_backP (X := []) (wi := []) (wr := []) (pl := W9 ++ M9) (wo := fun _ => []) (pl1 := fun (u : va_W × Nat × Int32) => u.1 ++ M9) S hA [] [] rfl rfl (by decide) (by decide) (va_runV (As := [.int (xs (nI (6 * t + 1)).toNatClampNeg)]) (rest := []) ⟨hx, hb, C.2.2.1, C.2.2.2.1, C.2.2.2.2.1⟩ (cg_as (wi := []) M9 hC) (k_virt (n := 1) C wc_PB_bound rfl rfl wz_PB wm_La_55 wn_PB_bound ws_PB_bound (by decide +kernel) ⟨(show rm1.frames + 1 ≤ 2048 by omega), (show 8 + (_ + 11) + rm1.locals ≤ 84000 by omega)⟩) (pr_nowVGP K S [] (by decide) rfl he1 rfl) rfl rfl hl.1 rfl (lv_room (Nat.le_of_ble_eq_true rfl)) d_La_law_313 ⟨(show cells + rm1.cells ≤ 600000 by omega), (show slots + rm1.slots ≤ 7302250 by omega)⟩) (fun u1 H locs hw1 S => ?_)
  obtain ⟨hW1, hp1⟩ := hw1
  have S : Sw G A s.heap H locs ([] ++ (u1.1 ++ M9)) := S
  show W p l e _ s m _ below meth c H locs _ _ _ (F0 m 316 ls [.int u1.2.2])
  refine lv_pop hx hb d_La_law_316 rfl ?_
  refine lv_aload_n hx hb d_La_law_317 rfl (lv_at hl 1 rfl) ?_
  refine lv_aload_n hx hb d_La_law_318 rfl (lv_at hl 3 rfl) ?_
  refine lv_iload_n hx hb d_La_law_319 rfl (lv_at hl 0 rfl) ?_
  refine lv_iconst (v := 1) hx hb d_La_law_320 (by decide) ?_
  refine z_iadd (v := nI (6 * t + 1)) hx hb d_La_law_321 (nI_add (6 * t) 1) ?_
  refine va_sld hx hb hX hbl hbA S.2.2 (i := nI (6 * t + 1)) (vp_in_nI (by omega) (by omega)) d_La_law_322 ?_
  obtain ⟨fs2, he2⟩ := rw_mem hM u1.1
  obtain ⟨rm2, hg1, hg2, hg3, hg4, hR⟩ := hR H.size (allSl H)
  refine q_backP (X := []) (wi := []) (wr := []) (pl := u1.1 ++ M9) (wo := fun _ => []) (pl1 := fun (u : va_W × Int32) => u1.1 ++ u.1) S hA [] [] rfl rfl (by decide) (by decide) (va_runV (As := [.int (xs (nI (6 * t + 1)).toNatClampNeg)]) (rest := []) ⟨hx, hb, C.2.2.1, C.2.2.2.1, C.2.2.2.2.1⟩ (cg_sa (wi := []) u1.1 hR) (k_virt (n := 1) C wc_Mo_bound hg3 hg4 wz_Mo wm_La_58 wn_Mo_bound ws_Mo_bound (by decide +kernel) ⟨(show rm2.frames + 1 ≤ 2048 by omega), (show 8 + (_ + 11) + rm2.locals ≤ 84000 by omega)⟩) (pr_nowVGP K S [] (by decide) rfl he2 rfl) rfl rfl hl.1 rfl (lv_room (Nat.le_of_ble_eq_true rfl)) d_La_law_323 ⟨(show cells + (p9 - u1.2.1) + 0 ≤ 600000 by omega), (show slots + 2 * (p9 - u1.2.1) + 0 ≤ 7302250 by omega)⟩) (fun u2 H locs hw2 S => ?_)
  obtain ⟨hM1, hrM⟩ := hw2
  have S : Sw G A s.heap H locs ([] ++ (u1.1 ++ u2.1)) := S
  show W p l e _ s m _ below meth c H locs _ _ _ (F0 m 326 ls [.int u2.2])
  refine lv_pop hx hb d_La_law_326 rfl ?_
  refine lv_goto (tgt := 469) hx hb d_La_law_327 (by decide) ?_
  exact next _ _ _ _ _ _ _ _ _ _ _ _ _ _ _ _ ls hW1 hM1 (by show cells + (p9 - u1.2.1) + 0 + u1.2.1 ≤ 368979; omega) (by show slots + 2 * (p9 - u1.2.1) + 0 + 2 * u1.2.1 ≤ 1141464; omega) S hl
set_option maxRecDepth 100000 in
set_option maxHeartbeats 4000000 in
theorem law_c10 {p : Program} {l : Launch} {e : Env} {s : State} {m : MethodId} {below : List Frame} {meth : Method} {c : Code} {G : va_G} {k : Nat → ClassId} {b L : Nat} {xs : Nat → Int32} {A : Nat → Prop} (C : Cx p s m #[Value.ref b] meth c code "PotentialBenchLaw" 4 ret meth.name) (K : Kn G k s) (hX : va_X b L xs s s.heap) (hbl : b < s.heap.size) (hA : ∀ q, s.heap.size ≤ q → A q) (hA2 : ∀ q, A q → s.heap.size ≤ q) {pb mo nf : Nat} {tk ct : Nat → Nat} {wd : Nat → Int32} {wp : Int32} {cz9 : Int64} {gv9 : Int32} {sp9 : Nat} {tl : Option (Nat × Nat)} {p9 : Nat} {W9 M9 : va_W} {H : Heap} {locs : List Loc} {cells slots : Nat} (hW : cwO k pb nf tk ct wd wp cz9 gv9 sp9 tl p9 W9) (hM : rwO k mo nf tk ct wd wp cz9 gv9 sp9 tl M9) (hc : cells + p9 ≤ 368979) (hs : slots + 2 * p9 ≤ 1141464) (S : Sw G A s.heap H locs ([] ++ (W9 ++ M9))) (hL : L ≤ 3072) {t : Nat} (ht : 6 * t + 6 ≤ L) (ls : Array Slot) (hl : lv_has ls 4 [(3, .int (nI (6 * t))), (2, .ref mo), (1, .ref pb), (0, .ref b)]) (next : lwN p l e s m below meth c G k b A pb mo t) : W p l e room_1 s m #[Value.ref b] below meth c H locs cells slots (lw_Z below #[Value.ref b] s) (F0 m 330 ls []) := by
  have hx := C.1
  have hb := C.2.1
  have hbA : ¬ A b := fun h => absurd (hA2 b h) (Nat.not_le.mpr hbl)
  refine lv_aload_n hx hb d_La_law_330 rfl (lv_at hl 2 rfl) ?_
  refine lv_aload_n hx hb d_La_law_331 rfl (lv_at hl 3 rfl) ?_
  refine lv_iload_n hx hb d_La_law_332 rfl (lv_at hl 0 rfl) ?_
  refine lv_iconst (v := 1) hx hb d_La_law_333 (by decide) ?_
  refine z_iadd (v := nI (6 * t + 1)) hx hb d_La_law_334 (nI_add (6 * t) 1) ?_
  refine va_sld hx hb hX hbl hbA S.2.2 (i := nI (6 * t + 1)) (vp_in_nI (by omega) (by omega)) d_La_law_335 ?_
  obtain ⟨nf2, tk2, ct2, wd2, wp2, cz2, gv2, sp2, tl2, r2, hC, hR⟩ := b_told (l := l) (G := G) hW hM (xs (nI (6 * t + 1)).toNatClampNeg)
  obtain ⟨fs1, he1⟩ := cw_mem hW M9
  obtain ⟨rm1, hr1, hr2, hr3, hr4, hC⟩ := hC H.size (allSl H)
  refine q_backP (X := []) (wi := []) (wr := []) (pl := W9 ++ M9) (wo := fun _ => []) (pl1 := fun (u : va_W × Nat × Int32) => u.1 ++ M9) S hA [] [] rfl rfl (by decide) (by decide) (va_runV (As := [.int (xs (nI (6 * t + 1)).toNatClampNeg)]) (rest := []) ⟨hx, hb, C.2.2.1, C.2.2.2.1, C.2.2.2.2.1⟩ (cg_as (wi := []) M9 hC) (k_virt (n := 1) C wc_PB_told rfl rfl wz_PB wm_La_59 wn_PB_told ws_PB_told (by decide +kernel) ⟨(show rm1.frames + 1 ≤ 2048 by omega), (show 8 + (_ + 11) + rm1.locals ≤ 84000 by omega)⟩) (pr_nowVGP K S [] (by decide) rfl he1 rfl) rfl rfl hl.1 rfl (lv_room (Nat.le_of_ble_eq_true rfl)) d_La_law_336 ⟨(show cells + rm1.cells ≤ 600000 by omega), (show slots + rm1.slots ≤ 7302250 by omega)⟩) (fun u1 H locs hw1 S => ?_)
  obtain ⟨hW1, hp1, hrP⟩ := hw1
  have S : Sw G A s.heap H locs ([] ++ (u1.1 ++ M9)) := S
  show W p l e _ s m _ below meth c H locs _ _ _ (F0 m 339 ls [.int u1.2.2])
  refine lv_aload_n hx hb d_La_law_339 rfl (lv_at hl 1 rfl) ?_
  refine lv_aload_n hx hb d_La_law_340 rfl (lv_at hl 3 rfl) ?_
  refine lv_iload_n hx hb d_La_law_341 rfl (lv_at hl 0 rfl) ?_
  refine lv_iconst (v := 1) hx hb d_La_law_342 (by decide) ?_
  refine z_iadd (v := nI (6 * t + 1)) hx hb d_La_law_343 (nI_add (6 * t) 1) ?_
  refine va_sld hx hb hX hbl hbA S.2.2 (i := nI (6 * t + 1)) (vp_in_nI (by omega) (by omega)) d_La_law_344 ?_
  obtain ⟨fs2, he2⟩ := rw_mem hM u1.1
  obtain ⟨rm2, hg1, hg2, hg3, hg4, hR⟩ := hR H.size (allSl H)
  refine q_backP (X := []) (wi := []) (wr := []) (pl := u1.1 ++ M9) (wo := fun _ => []) (pl1 := fun (u : va_W × Int32) => u1.1 ++ u.1) S hA [] [] rfl rfl (by decide) (by decide) (va_runV (As := [.int (xs (nI (6 * t + 1)).toNatClampNeg)]) (rest := [.int u1.2.2]) ⟨hx, hb, C.2.2.1, C.2.2.2.1, C.2.2.2.2.1⟩ (cg_sa (wi := []) u1.1 hR) (k_virt (n := 1) C wc_Mo_told hg3 hg4 wz_Mo wm_La_62 wn_Mo_told ws_Mo_told (by decide +kernel) ⟨(show rm2.frames + 1 ≤ 2048 by omega), (show 8 + (_ + 11) + rm2.locals ≤ 84000 by omega)⟩) (pr_nowVGP K S [] (by decide) rfl he2 rfl) rfl rfl hl.1 rfl (lv_room (Nat.le_of_ble_eq_true rfl)) d_La_law_345 ⟨(show cells + (p9 - u1.2.1) + 0 ≤ 600000 by omega), (show slots + 2 * (p9 - u1.2.1) + 0 ≤ 7302250 by omega)⟩) (fun u2 H locs hw2 S => ?_)
  obtain ⟨hM1, hrM⟩ := hw2
  have S : Sw G A s.heap H locs ([] ++ (u1.1 ++ u2.1)) := S
  show W p l e _ s m _ below meth c H locs _ _ _ (F0 m 348 ls [.int u2.2, .int u1.2.2])
  refine lv_icmp_eq (tgt := 469) hx hb d_La_law_348 (by decide) (fun _ => ?_) (fun hq => absurd (hrP.trans hrM.symm) hq)
  exact next _ _ _ _ _ _ _ _ _ _ _ _ _ _ _ _ ls hW1 hM1 (by show cells + (p9 - u1.2.1) + 0 + u1.2.1 ≤ 368979; omega) (by show slots + 2 * (p9 - u1.2.1) + 0 + 2 * u1.2.1 ≤ 1141464; omega) S hl
set_option maxRecDepth 100000 in
set_option maxHeartbeats 4000000 in
theorem law_c11 {p : Program} {l : Launch} {e : Env} {s : State} {m : MethodId} {below : List Frame} {meth : Method} {c : Code} {G : va_G} {k : Nat → ClassId} {b L : Nat} {xs : Nat → Int32} {A : Nat → Prop} (C : Cx p s m #[Value.ref b] meth c code "PotentialBenchLaw" 4 ret meth.name) (K : Kn G k s) (hX : va_X b L xs s s.heap) (hbl : b < s.heap.size) (hA : ∀ q, s.heap.size ≤ q → A q) (hA2 : ∀ q, A q → s.heap.size ≤ q) {pb mo nf : Nat} {tk ct : Nat → Nat} {wd : Nat → Int32} {wp : Int32} {cz9 : Int64} {gv9 : Int32} {sp9 : Nat} {tl : Option (Nat × Nat)} {p9 : Nat} {W9 M9 : va_W} {H : Heap} {locs : List Loc} {cells slots : Nat} (hW : cwO k pb nf tk ct wd wp cz9 gv9 sp9 tl p9 W9) (hM : rwO k mo nf tk ct wd wp cz9 gv9 sp9 tl M9) (hc : cells + p9 ≤ 368979) (hs : slots + 2 * p9 ≤ 1141464) (S : Sw G A s.heap H locs ([] ++ (W9 ++ M9))) (hL : L ≤ 3072) {t : Nat} (ht : 6 * t + 6 ≤ L) (ls : Array Slot) (hl : lv_has ls 4 [(3, .int (nI (6 * t))), (2, .ref mo), (1, .ref pb), (0, .ref b)]) (next : lwN p l e s m below meth c G k b A pb mo t) : W p l e room_1 s m #[Value.ref b] below meth c H locs cells slots (lw_Z below #[Value.ref b] s) (F0 m 353 ls []) := by
  have hx := C.1
  have hb := C.2.1
  have hbA : ¬ A b := fun h => absurd (hA2 b h) (Nat.not_le.mpr hbl)
  refine lv_aload_n hx hb d_La_law_353 rfl (lv_at hl 2 rfl) ?_
  refine lv_aload_n hx hb d_La_law_354 rfl (lv_at hl 3 rfl) ?_
  refine lv_iload_n hx hb d_La_law_355 rfl (lv_at hl 0 rfl) ?_
  refine lv_iconst (v := 1) hx hb d_La_law_356 (by decide) ?_
  refine z_iadd (v := nI (6 * t + 1)) hx hb d_La_law_357 (nI_add (6 * t) 1) ?_
  refine va_sld hx hb hX hbl hbA S.2.2 (i := nI (6 * t + 1)) (vp_in_nI (by omega) (by omega)) d_La_law_358 ?_
  refine lv_aload_n hx hb d_La_law_359 rfl (lv_at hl 3 rfl) ?_
  refine lv_iload_n hx hb d_La_law_360 rfl (lv_at hl 0 rfl) ?_
  refine lv_iconst (v := 2) hx hb d_La_law_361 (by decide) ?_
  refine z_iadd (v := nI (6 * t + 2)) hx hb d_La_law_362 (nI_add (6 * t) 2) ?_
  refine va_sld hx hb hX hbl hbA S.2.2 (i := nI (6 * t + 2)) (vp_in_nI (by omega) (by omega)) d_La_law_363 ?_
  obtain ⟨hC, hR⟩ := b_scaled (l := l) (G := G) hW hM (xs (nI (6 * t + 1)).toNatClampNeg) (xs (nI (6 * t + 2)).toNatClampNeg)
  obtain ⟨fs1, he1⟩ := cw_mem hW M9
  obtain ⟨rm1, hr1, hr2, hr3, hr4, hC⟩ := hC H.size (allSl H)
  refine q_backP (X := []) (wi := []) (wr := []) (pl := W9 ++ M9) (wo := fun _ => []) (pl1 := fun (u : va_W × Nat × Int64) => u.1 ++ M9) S hA [] [] rfl rfl (by decide) (by decide) (va_runV (As := [.int (xs (nI (6 * t + 1)).toNatClampNeg), .int (xs (nI (6 * t + 2)).toNatClampNeg)]) (rest := []) ⟨hx, hb, C.2.2.1, C.2.2.2.1, C.2.2.2.2.1⟩ (cg_as (wi := []) M9 hC) (k_virt (n := 2) C wc_PB_scaled rfl rfl wz_PB wm_La_63 wn_PB_scaled ws_PB_scaled (by decide +kernel) ⟨(show rm1.frames + 1 ≤ 2048 by omega), (show 8 + (_ + 11) + rm1.locals ≤ 84000 by omega)⟩) (pr_nowVGP K S [] (by decide) rfl he1 rfl) rfl rfl hl.1 rfl (lv_room (Nat.le_of_ble_eq_true rfl)) d_La_law_364 ⟨(show cells + rm1.cells ≤ 600000 by omega), (show slots + rm1.slots ≤ 7302250 by omega)⟩) (fun u1 H locs hw1 S => ?_)
  obtain ⟨hW1, hp1⟩ := hw1
  have S : Sw G A s.heap H locs ([] ++ (u1.1 ++ M9)) := S
  show W p l e _ s m _ below meth c H locs _ _ _ (F0 m 367 ls [.long u1.2.2])
  refine lv_pop2_2 hx hb d_La_law_367 rfl ?_
  refine lv_aload_n hx hb d_La_law_368 rfl (lv_at hl 1 rfl) ?_
  refine lv_aload_n hx hb d_La_law_369 rfl (lv_at hl 3 rfl) ?_
  refine lv_iload_n hx hb d_La_law_370 rfl (lv_at hl 0 rfl) ?_
  refine lv_iconst (v := 1) hx hb d_La_law_371 (by decide) ?_
  refine z_iadd (v := nI (6 * t + 1)) hx hb d_La_law_372 (nI_add (6 * t) 1) ?_
  refine va_sld hx hb hX hbl hbA S.2.2 (i := nI (6 * t + 1)) (vp_in_nI (by omega) (by omega)) d_La_law_373 ?_
  refine lv_aload_n hx hb d_La_law_374 rfl (lv_at hl 3 rfl) ?_
  refine lv_iload_n hx hb d_La_law_375 rfl (lv_at hl 0 rfl) ?_
  refine lv_iconst (v := 2) hx hb d_La_law_376 (by decide) ?_
  refine z_iadd (v := nI (6 * t + 2)) hx hb d_La_law_377 (nI_add (6 * t) 2) ?_
  refine va_sld hx hb hX hbl hbA S.2.2 (i := nI (6 * t + 2)) (vp_in_nI (by omega) (by omega)) d_La_law_378 ?_
  obtain ⟨fs2, he2⟩ := rw_mem hM u1.1
  obtain ⟨rm2, hg1, hg2, hg3, hg4, hR⟩ := hR H.size (allSl H)
  refine q_backP (X := []) (wi := []) (wr := []) (pl := u1.1 ++ M9) (wo := fun _ => []) (pl1 := fun (u : va_W × Int64) => u1.1 ++ u.1) S hA [] [] rfl rfl (by decide) (by decide) (va_runV (As := [.int (xs (nI (6 * t + 1)).toNatClampNeg), .int (xs (nI (6 * t + 2)).toNatClampNeg)]) (rest := []) ⟨hx, hb, C.2.2.1, C.2.2.2.1, C.2.2.2.2.1⟩ (cg_sa (wi := []) u1.1 hR) (k_virt (n := 2) C wc_Mo_scaled hg3 hg4 wz_Mo wm_La_67 wn_Mo_scaled ws_Mo_scaled (by decide +kernel) ⟨(show rm2.frames + 1 ≤ 2048 by omega), (show 8 + (_ + 11) + rm2.locals ≤ 84000 by omega)⟩) (pr_nowVGP K S [] (by decide) rfl he2 rfl) rfl rfl hl.1 rfl (lv_room (Nat.le_of_ble_eq_true rfl)) d_La_law_379 ⟨(show cells + (p9 - u1.2.1) + 0 ≤ 600000 by omega), (show slots + 2 * (p9 - u1.2.1) + 0 ≤ 7302250 by omega)⟩) (fun u2 H locs hw2 S => ?_)
  obtain ⟨hM1, hrM⟩ := hw2
  have S : Sw G A s.heap H locs ([] ++ (u1.1 ++ u2.1)) := S
  show W p l e _ s m _ below meth c H locs _ _ _ (F0 m 382 ls [.long u2.2])
  refine lv_pop2_2 hx hb d_La_law_382 rfl ?_
  refine lv_goto (tgt := 469) hx hb d_La_law_383 (by decide) ?_
  exact next _ _ _ _ _ _ _ _ _ _ _ _ _ _ _ _ ls hW1 hM1 (by show cells + (p9 - u1.2.1) + 0 + u1.2.1 ≤ 368979; omega) (by show slots + 2 * (p9 - u1.2.1) + 0 + 2 * u1.2.1 ≤ 1141464; omega) S hl
set_option maxRecDepth 100000 in
set_option maxHeartbeats 4000000 in
theorem law_c12 {p : Program} {l : Launch} {e : Env} {s : State} {m : MethodId} {below : List Frame} {meth : Method} {c : Code} {G : va_G} {k : Nat → ClassId} {b L : Nat} {xs : Nat → Int32} {A : Nat → Prop} (C : Cx p s m #[Value.ref b] meth c code "PotentialBenchLaw" 4 ret meth.name) (K : Kn G k s) (hX : va_X b L xs s s.heap) (hbl : b < s.heap.size) (hA : ∀ q, s.heap.size ≤ q → A q) (hA2 : ∀ q, A q → s.heap.size ≤ q) {pb mo nf : Nat} {tk ct : Nat → Nat} {wd : Nat → Int32} {wp : Int32} {cz9 : Int64} {gv9 : Int32} {sp9 : Nat} {tl : Option (Nat × Nat)} {p9 : Nat} {W9 M9 : va_W} {H : Heap} {locs : List Loc} {cells slots : Nat} (hW : cwO k pb nf tk ct wd wp cz9 gv9 sp9 tl p9 W9) (hM : rwO k mo nf tk ct wd wp cz9 gv9 sp9 tl M9) (hc : cells + p9 ≤ 368979) (hs : slots + 2 * p9 ≤ 1141464) (S : Sw G A s.heap H locs ([] ++ (W9 ++ M9))) (hL : L ≤ 3072) {t : Nat} (ht : 6 * t + 6 ≤ L) (ls : Array Slot) (hl : lv_has ls 4 [(3, .int (nI (6 * t))), (2, .ref mo), (1, .ref pb), (0, .ref b)]) (next : lwN p l e s m below meth c G k b A pb mo t) : W p l e room_1 s m #[Value.ref b] below meth c H locs cells slots (lw_Z below #[Value.ref b] s) (F0 m 386 ls []) := by
  have hx := C.1
  have hb := C.2.1
  have hbA : ¬ A b := fun h => absurd (hA2 b h) (Nat.not_le.mpr hbl)
  refine lv_aload_n hx hb d_La_law_386 rfl (lv_at hl 2 rfl) ?_
  refine lv_aload_n hx hb d_La_law_387 rfl (lv_at hl 3 rfl) ?_
  refine lv_iload_n hx hb d_La_law_388 rfl (lv_at hl 0 rfl) ?_
  refine lv_iconst (v := 1) hx hb d_La_law_389 (by decide) ?_
  refine z_iadd (v := nI (6 * t + 1)) hx hb d_La_law_390 (nI_add (6 * t) 1) ?_
  refine va_sld hx hb hX hbl hbA S.2.2 (i := nI (6 * t + 1)) (vp_in_nI (by omega) (by omega)) d_La_law_391 ?_
  refine lv_aload_n hx hb d_La_law_392 rfl (lv_at hl 3 rfl) ?_
  refine lv_iload_n hx hb d_La_law_393 rfl (lv_at hl 0 rfl) ?_
  refine lv_iconst (v := 2) hx hb d_La_law_394 (by decide) ?_
  refine z_iadd (v := nI (6 * t + 2)) hx hb d_La_law_395 (nI_add (6 * t) 2) ?_
  refine va_sld hx hb hX hbl hbA S.2.2 (i := nI (6 * t + 2)) (vp_in_nI (by omega) (by omega)) d_La_law_396 ?_
  refine lv_aload_n hx hb d_La_law_397 rfl (lv_at hl 3 rfl) ?_
  refine lv_iload_n hx hb d_La_law_398 rfl (lv_at hl 0 rfl) ?_
  refine lv_iconst (v := 3) hx hb d_La_law_399 (by decide) ?_
  refine z_iadd (v := nI (6 * t + 3)) hx hb d_La_law_400 (nI_add (6 * t) 3) ?_
  refine va_sld hx hb hX hbl hbA S.2.2 (i := nI (6 * t + 3)) (vp_in_nI (by omega) (by omega)) d_La_law_401 ?_
  refine lv_aload_n hx hb d_La_law_402 rfl (lv_at hl 3 rfl) ?_
  refine lv_iload_n hx hb d_La_law_403 rfl (lv_at hl 0 rfl) ?_
  refine lv_iconst (v := 4) hx hb d_La_law_404 (by decide) ?_
  refine z_iadd (v := nI (6 * t + 4)) hx hb d_La_law_405 (nI_add (6 * t) 4) ?_
  refine va_sld hx hb hX hbl hbA S.2.2 (i := nI (6 * t + 4)) (vp_in_nI (by omega) (by omega)) d_La_law_406 ?_
  refine lv_i2l (v := _) hx hb d_La_law_407 rfl ?_
  refine lv_topl (fun n1 _ => ?_)
  refine lv_bipush (v := 32) hx hb d_La_law_408 (by decide) ?_
  refine lv_lshl (v := _) hx hb d_La_law_410 rfl ?_
  refine lv_topl (fun n2 _ => ?_)
  refine lv_aload_n hx hb d_La_law_411 rfl (lv_at hl 3 rfl) ?_
  refine lv_iload_n hx hb d_La_law_412 rfl (lv_at hl 0 rfl) ?_
  refine lv_iconst (v := 5) hx hb d_La_law_413 (by decide) ?_
  refine z_iadd (v := nI (6 * t + 5)) hx hb d_La_law_414 (nI_add (6 * t) 5) ?_
  refine va_sld hx hb hX hbl hbA S.2.2 (i := nI (6 * t + 5)) (vp_in_nI (by omega) (by omega)) d_La_law_415 ?_
  refine lv_i2l (v := _) hx hb d_La_law_416 rfl ?_
  refine lv_topl (fun n3 _ => ?_)
  refine lv_ldc2 (v := 4294967295) hx hb C.2.2.2.1 (C.2.2.2.2.1 _ wk_La_68) d_La_law_417 ?_
  refine lv_land hx hb d_La_law_420 ?_
  refine lv_topl (fun n4 _ => ?_)
  refine lv_lor hx hb d_La_law_421 ?_
  refine lv_topl (fun n5 _ => ?_)
  have hCR := fun (xm : Int64) => b_covers (l := l) (G := G) hW hM (xs (nI (6 * t + 1)).toNatClampNeg) (xs (nI (6 * t + 2)).toNatClampNeg) (xs (nI (6 * t + 3)).toNatClampNeg) n5 xm
  obtain ⟨hC, -⟩ := hCR 0
  obtain ⟨fs1, he1⟩ := cw_mem hW M9
  obtain ⟨rm1, hr1, hr2, hr3, hr4, hC⟩ := hC H.size (allSl H)
  refine q_backP (X := []) (wi := []) (wr := []) (pl := W9 ++ M9) (wo := fun _ => []) (pl1 := fun (u : va_W × Nat × Int32) => u.1 ++ M9) S hA [] [] rfl rfl (by decide) (by decide) (va_runV (As := [.int (xs (nI (6 * t + 1)).toNatClampNeg), .int (xs (nI (6 * t + 2)).toNatClampNeg), .int (xs (nI (6 * t + 3)).toNatClampNeg), .long n5]) (rest := []) ⟨hx, hb, C.2.2.1, C.2.2.2.1, C.2.2.2.2.1⟩ (cg_as (wi := []) M9 hC) (k_virt (n := 4) C wc_PB_covers rfl rfl wz_PB wm_La_70 wn_PB_covers ws_PB_covers (by decide +kernel) ⟨(show rm1.frames + 1 ≤ 2048 by omega), (show 8 + (_ + 11) + rm1.locals ≤ 84000 by omega)⟩) (pr_nowVGP K S [] (by decide) rfl he1 rfl) rfl rfl hl.1 rfl (lv_room (Nat.le_of_ble_eq_true rfl)) d_La_law_422 ⟨(show cells + rm1.cells ≤ 600000 by omega), (show slots + rm1.slots ≤ 7302250 by omega)⟩) (fun u1 H locs hw1 S => ?_)
  obtain ⟨hW1, hp1⟩ := hw1
  have S : Sw G A s.heap H locs ([] ++ (u1.1 ++ M9)) := S
  show W p l e _ s m _ below meth c H locs _ _ _ (F0 m 425 ls [.int u1.2.2])
  refine lv_pop hx hb d_La_law_425 rfl ?_
  refine lv_aload_n hx hb d_La_law_426 rfl (lv_at hl 1 rfl) ?_
  refine lv_aload_n hx hb d_La_law_427 rfl (lv_at hl 3 rfl) ?_
  refine lv_iload_n hx hb d_La_law_428 rfl (lv_at hl 0 rfl) ?_
  refine lv_iconst (v := 1) hx hb d_La_law_429 (by decide) ?_
  refine z_iadd (v := nI (6 * t + 1)) hx hb d_La_law_430 (nI_add (6 * t) 1) ?_
  refine va_sld hx hb hX hbl hbA S.2.2 (i := nI (6 * t + 1)) (vp_in_nI (by omega) (by omega)) d_La_law_431 ?_
  refine lv_aload_n hx hb d_La_law_432 rfl (lv_at hl 3 rfl) ?_
  refine lv_iload_n hx hb d_La_law_433 rfl (lv_at hl 0 rfl) ?_
  refine lv_iconst (v := 2) hx hb d_La_law_434 (by decide) ?_
  refine z_iadd (v := nI (6 * t + 2)) hx hb d_La_law_435 (nI_add (6 * t) 2) ?_
  refine va_sld hx hb hX hbl hbA S.2.2 (i := nI (6 * t + 2)) (vp_in_nI (by omega) (by omega)) d_La_law_436 ?_
  refine lv_aload_n hx hb d_La_law_437 rfl (lv_at hl 3 rfl) ?_
  refine lv_iload_n hx hb d_La_law_438 rfl (lv_at hl 0 rfl) ?_
  refine lv_iconst (v := 3) hx hb d_La_law_439 (by decide) ?_
  refine z_iadd (v := nI (6 * t + 3)) hx hb d_La_law_440 (nI_add (6 * t) 3) ?_
  refine va_sld hx hb hX hbl hbA S.2.2 (i := nI (6 * t + 3)) (vp_in_nI (by omega) (by omega)) d_La_law_441 ?_
  refine lv_aload_n hx hb d_La_law_442 rfl (lv_at hl 3 rfl) ?_
  refine lv_iload_n hx hb d_La_law_443 rfl (lv_at hl 0 rfl) ?_
  refine lv_iconst (v := 4) hx hb d_La_law_444 (by decide) ?_
  refine z_iadd (v := nI (6 * t + 4)) hx hb d_La_law_445 (nI_add (6 * t) 4) ?_
  refine va_sld hx hb hX hbl hbA S.2.2 (i := nI (6 * t + 4)) (vp_in_nI (by omega) (by omega)) d_La_law_446 ?_
  refine lv_i2l (v := _) hx hb d_La_law_447 rfl ?_
  refine lv_topl (fun n6 _ => ?_)
  refine lv_bipush (v := 32) hx hb d_La_law_448 (by decide) ?_
  refine lv_lshl (v := _) hx hb d_La_law_450 rfl ?_
  refine lv_topl (fun n7 _ => ?_)
  refine lv_aload_n hx hb d_La_law_451 rfl (lv_at hl 3 rfl) ?_
  refine lv_iload_n hx hb d_La_law_452 rfl (lv_at hl 0 rfl) ?_
  refine lv_iconst (v := 5) hx hb d_La_law_453 (by decide) ?_
  refine z_iadd (v := nI (6 * t + 5)) hx hb d_La_law_454 (nI_add (6 * t) 5) ?_
  refine va_sld hx hb hX hbl hbA S.2.2 (i := nI (6 * t + 5)) (vp_in_nI (by omega) (by omega)) d_La_law_455 ?_
  refine lv_i2l (v := _) hx hb d_La_law_456 rfl ?_
  refine lv_topl (fun n8 _ => ?_)
  refine lv_ldc2 (v := 4294967295) hx hb C.2.2.2.1 (C.2.2.2.2.1 _ wk_La_68) d_La_law_457 ?_
  refine lv_land hx hb d_La_law_460 ?_
  refine lv_topl (fun n9 _ => ?_)
  refine lv_lor hx hb d_La_law_461 ?_
  refine lv_topl (fun n10 _ => ?_)
  obtain ⟨-, hR⟩ := hCR n10
  obtain ⟨fs2, he2⟩ := rw_mem hM u1.1
  obtain ⟨rm2, hg1, hg2, hg3, hg4, hR⟩ := hR H.size (allSl H)
  refine q_backP (X := []) (wi := []) (wr := []) (pl := u1.1 ++ M9) (wo := fun _ => []) (pl1 := fun (u : va_W × Int32) => u1.1 ++ u.1) S hA [] [] rfl rfl (by decide) (by decide) (va_runV (As := [.int (xs (nI (6 * t + 1)).toNatClampNeg), .int (xs (nI (6 * t + 2)).toNatClampNeg), .int (xs (nI (6 * t + 3)).toNatClampNeg), .long n10]) (rest := []) ⟨hx, hb, C.2.2.1, C.2.2.2.1, C.2.2.2.2.1⟩ (cg_sa (wi := []) u1.1 hR) (k_virt (n := 4) C wc_Mo_covers hg3 hg4 wz_Mo wm_La_74 wn_Mo_covers ws_Mo_covers (by decide +kernel) ⟨(show rm2.frames + 1 ≤ 2048 by omega), (show 8 + (_ + 11) + rm2.locals ≤ 84000 by omega)⟩) (pr_nowVGP K S [] (by decide) rfl he2 rfl) rfl rfl hl.1 rfl (lv_room (Nat.le_of_ble_eq_true rfl)) d_La_law_462 ⟨(show cells + (p9 - u1.2.1) + 0 ≤ 600000 by omega), (show slots + 2 * (p9 - u1.2.1) + 0 ≤ 7302250 by omega)⟩) (fun u2 H locs hw2 S => ?_)
  obtain ⟨hM1, hrM⟩ := hw2
  have S : Sw G A s.heap H locs ([] ++ (u1.1 ++ u2.1)) := S
  show W p l e _ s m _ below meth c H locs _ _ _ (F0 m 465 ls [.int u2.2])
  refine lv_pop hx hb d_La_law_465 rfl ?_
  refine lv_goto (tgt := 469) hx hb d_La_law_466 (by decide) ?_
  exact next _ _ _ _ _ _ _ _ _ _ _ _ _ _ _ _ ls hW1 hM1 (by show cells + (p9 - u1.2.1) + 0 + u1.2.1 ≤ 368979; omega) (by show slots + 2 * (p9 - u1.2.1) + 0 + 2 * u1.2.1 ≤ 1141464; omega) S hl
end
section
set_option maxRecDepth 100000 in
set_option maxHeartbeats 4000000 in
/-- what the tables say at the law's entry -/
theorem kn_start {s : State} {args : Array Value} (hts : ∀ w ∈ lw_tbl, w.before args s = true) : ∃ (G : va_G) (k : Nat → ClassId), Kn G k s := by
  have hg : ∀ w ∈ gt, w.before args s = true := fun w h => hts w (gt_law w h)
  obtain ⟨c0, i0, h0⟩ := u_known (C := R_PB) (T := T_PB) (N := 9) (n := 9) hg in_PB (hg _ wi_PB)
  obtain ⟨c1, i1, h1⟩ := u_known (C := R_So) (T := T_So) (N := 14) (n := 14) hg in_So (hg _ wi_So)
  obtain ⟨c2, i2, h2⟩ := u_known (C := R_Wh) (T := T_Wh) (N := 3) (n := 3) hg in_Wh (hg _ wi_Wh)
  obtain ⟨c3, i3, h3⟩ := u_known (C := R_Be) (T := T_Be) (N := 8) (n := 8) hg in_Be (hg _ wi_Be)
  obtain ⟨c4, i4, h4⟩ := u_known (C := R_Bo) (T := T_Bo) (N := 9) (n := 9) hg in_Bo (hg _ wi_Bo)
  obtain ⟨c5, i5, h5⟩ := u_known (C := R_Re) (T := T_Re) (N := 5) (n := 5) hg in_Re (hg _ wi_Re)
  obtain ⟨c6, i6, h6⟩ := u_known (C := R_Ru) (T := T_Ru) (N := 12) (n := 12) hg in_Ru (hg _ wi_Ru)
  obtain ⟨c7, i7, h7⟩ := u_known (C := R_Ne) (T := T_Ne) (N := 12) (n := 12) hg in_Ne (hg _ wi_Ne)
  obtain ⟨c8, i8, h8⟩ := u_known (C := R_Mo) (T := T_Mo) (N := 61) (n := 61) hg in_Mo (hg _ wi_Mo)
  obtain ⟨a0, ka0, x0, f0, e0, g0⟩ := Cond.arrayClass_spec (hg _ wa_int)
  obtain ⟨a1, ka1, x1, f1, e1, g1⟩ := Cond.arrayClass_spec (hg _ wa_long)
  obtain ⟨a2, ka2, x2, f2, e2, g2⟩ := Cond.arrayClass_spec (hg _ wa_boolean)
  have hB : va_AO "PotentialBench$Body" s := va_AO.of (hts _ (List.mem_append_right _ xa_Bo))
  have hW : va_AO "PotentialBench$Whole" s := va_AO.of (hts _ (List.mem_append_right _ xa_Wh))
  have hM : ao_I s := hts _ (List.mem_append_right _ xa_I)
  obtain ⟨x3, a3, ka3, p3, -, q3, r3, t3⟩ := Cond.arrayOver_spec hB
  obtain ⟨x4, a4, ka4, p4, -, q4, r4, t4⟩ := Cond.arrayOver_spec hW
  obtain ⟨x5, a5, ka5, p5, -, q5, r5, t5⟩ := arrayOverA_spec hM
  refine ⟨(fun j => match j with | 0 => c0 | 1 => c1 | 2 => c2 | 3 => c3 | 4 => c4 | 5 => c5 | 6 => c6 | 7 => c7 | _ => c8, fun j => match j with | 0 => i0 | 1 => i1 | 2 => i2 | 3 => i3 | 4 => i4 | 5 => i5 | 6 => i6 | 7 => i7 | _ => i8), fun j => match j with | 0 => a0 | 1 => a1 | 2 => a2 | 3 => a3 | 4 => a4 | _ => a5, ⟨?_, ?_⟩, fun w hw ho => va_Nw.of (nx_tab ho) (hts w (List.mem_append_right _ hw)), hB, hW, hM⟩
  · intro j q hq
    match j, hq with
    | 0, hq => cases hq; exact h0
    | 1, hq => cases hq; exact h1
    | 2, hq => cases hq; exact h2
    | 3, hq => cases hq; exact h3
    | 4, hq => cases hq; exact h4
    | 5, hq => cases hq; exact h5
    | 6, hq => cases hq; exact h6
    | 7, hq => cases hq; exact h7
    | 8, hq => cases hq; exact h8
    | j + 9, hq => simp [cls] at hq
  · intro j q hq
    match j, hq with
    | 0, hq => cases hq; exact ⟨fun n z => ⟨(fun k h => by cases h), ka0, e0, x0, g0⟩, f0⟩
    | 1, hq => cases hq; exact ⟨fun n z => ⟨(fun k h => by cases h), ka1, e1, x1, g1⟩, f1⟩
    | 2, hq => cases hq; exact ⟨fun n z => ⟨(fun k h => by cases h), ka2, e2, x2, g2⟩, f2⟩
    | 3, hq => cases hq; exact ⟨fun n z => ⟨(fun k h => by cases h), ka3, q3, x3, r3⟩, ka3, x3, q3, r3, p3, t3⟩
    | 4, hq => cases hq; exact ⟨fun n z => ⟨(fun k h => by cases h), ka4, q4, x4, r4⟩, ka4, x4, q4, r4, p4, t4⟩
    | 5, hq => cases hq; exact ⟨fun n z => ⟨(fun k h => by cases h), ka5, q5, x5, r5⟩, t5⟩
    | j + 6, hq => simp [tyl] at hq
theorem law_lt : ∀ L, L < 6 → Int32.ofNat L - 6 < 0 := by decide
theorem law_sub {L : Nat} (h : 6 ≤ L) : Int32.ofNat L - 6 = nI (L - 6) := by
  have e : nI (L - 6) + nI 6 = nI L := by rw [nI_add, Nat.sub_add_cancel h]
  show nI L - nI 6 = nI (L - 6)
  rw [← e, Int32.add_sub_cancel]
set_option maxRecDepth 100000 in
set_option maxHeartbeats 4000000 in
theorem law_exit {p : Program} {l : Launch} {e : Env} {s : State} {m : MethodId} {below : List Frame} {meth : Method} {c : Code} {G : va_G} {k : Nat → ClassId} {b L : Nat} {xs : Nat → Int32} {A : Nat → Prop} (C : Cx p s m #[Value.ref b] meth c code "PotentialBenchLaw" 4 ret meth.name) (K : Kn G k s) (hX : va_X b L xs s s.heap) (hbl : b < s.heap.size) (hA : ∀ q, s.heap.size ≤ q → A q) (hA2 : ∀ q, A q → s.heap.size ≤ q) {pb mo : Nat} {H : Heap} {locs : List Loc} {cells slots : Nat} {ws : va_W} (S : Sw G A s.heap H locs ws) (hc : cells ≤ 600000) (hs : slots ≤ 7302250) (ls : Array Slot) : W p l e room_1 s m #[Value.ref b] below meth c H locs cells slots (lw_Z below #[Value.ref b] s) (F0 m 475 ls []) := by
  have hx := C.1
  have hb := C.2.1
  have hbA : ¬ A b := fun h => absurd (hA2 b h) (Nat.not_le.mpr hbl)
  refine lv_iconst (v := 1) hx hb d_La_law_475 (by decide) ?_
  refine va_forget (fun q hq => hA2 _ (S.2.2.2.2 q hq)) ?_
  refine W.widen (k := 600000) (n := 7302250) hc hs ?_
  exact lw_ret hx hb C.2.2.2.2.2.1 C.2.2.2.2.2.2.1 d_La_law_476
set_option maxRecDepth 100000 in
set_option maxHeartbeats 4000000 in
theorem law_loop {p : Program} {l : Launch} {e : Env} {s : State} {m : MethodId} {below : List Frame} {meth : Method} {c : Code} {G : va_G} {k : Nat → ClassId} {b L : Nat} {xs : Nat → Int32} {A : Nat → Prop} (C : Cx p s m #[Value.ref b] meth c code "PotentialBenchLaw" 4 ret meth.name) (K : Kn G k s) (hX : va_X b L xs s s.heap) (hbl : b < s.heap.size) (hA : ∀ q, s.heap.size ≤ q → A q) (hA2 : ∀ q, A q → s.heap.size ≤ q) (hL : L ≤ 3072) {pb mo : Nat} : ∀ (d t : Nat), 512 - t = d → 6 * t ≤ L → ∀ (nf : Nat) (tk ct : Nat → Nat) (wd : Nat → Int32) (wp : Int32) (cz9 : Int64) (gv9 : Int32) (sp9 : Nat) (tl : Option (Nat × Nat)) (p9 : Nat) (W9 M9 : va_W) (H : Heap) (locs : List Loc) (cells slots : Nat) (ls : Array Slot), cwO k pb nf tk ct wd wp cz9 gv9 sp9 tl p9 W9 → rwO k mo nf tk ct wd wp cz9 gv9 sp9 tl M9 → cells + p9 ≤ 368979 → slots + 2 * p9 ≤ 1141464 → Sw G A s.heap H locs ([] ++ (W9 ++ M9)) → lv_has ls 4 [(3, .int (nI (6 * t))), (2, .ref mo), (1, .ref pb), (0, .ref b)] → W p l e room_1 s m #[Value.ref b] below meth c H locs cells slots (lw_Z below #[Value.ref b] s) (F0 m 18 ls []) := by
  have hx := C.1
  have hb := C.2.1
  have hbA : ¬ A b := fun h => absurd (hA2 b h) (Nat.not_le.mpr hbl)
  intro d
  induction d with
  | zero =>
    intro t hd hle nf tk ct wd wp cz9 gv9 sp9 tl p9 W9 M9 H locs cells slots ls hW hM hc hs S hl
    refine lv_iload_n hx hb d_La_law_18 rfl (lv_at hl 0 rfl) ?_
    refine lv_aload_n hx hb d_La_law_19 rfl (lv_at hl 3 rfl) ?_
    refine va_slen hx hb hX hbl hbA S.2.2 d_La_law_20 ?_
    refine lv_bipush (v := 6) hx hb d_La_law_21 (by decide) ?_
    refine z_isub (v := nI (L - 6)) hx hb d_La_law_23 (law_sub (by omega)) ?_
    refine z_icmp_gt (tgt := 475) hx hb d_La_law_24 (by decide) (by omega) (by omega) (fun _ => ?_) (fun hq => absurd hq (by omega))
    exact law_exit C K hX hbl hA hA2 (pb := pb) (mo := mo) S (by omega) (by omega) ls
  | succ d ih =>
    intro t hd hle nf tk ct wd wp cz9 gv9 sp9 tl p9 W9 M9 H locs cells slots ls hW hM hc hs S hl
    have next : 6 * t + 6 ≤ L → lwN p l e s m below meth c G k b A pb mo t := by
      intro ht nf tk ct wd wp cz9 gv9 sp9 tl p9 W9 M9 H locs cells slots ls hW hM hc hs S hl
      refine lv_iinc (v := nI (6 * (t + 1))) (lv' := [(3, .int (nI (6 * (t + 1)))), (2, .ref mo), (1, .ref pb), (0, .ref b)]) hx hb d_La_law_469 hl (k := 0) rfl (show nI (6 * t) + nI 6 = nI (6 * (t + 1)) from nI_add _ _) (by decide) rfl (fun ls hl => ?_)
      refine lv_goto (tgt := 18) hx hb d_La_law_472 (by decide) ?_
      exact ih (t + 1) (by omega) (by omega) nf tk ct wd wp cz9 gv9 sp9 tl p9 W9 M9 H locs cells slots ls hW hM hc hs S hl
    refine lv_iload_n hx hb d_La_law_18 rfl (lv_at hl 0 rfl) ?_
    refine lv_aload_n hx hb d_La_law_19 rfl (lv_at hl 3 rfl) ?_
    refine va_slen hx hb hX hbl hbA S.2.2 d_La_law_20 ?_
    refine lv_bipush (v := 6) hx hb d_La_law_21 (by decide) ?_
    rcases Nat.lt_or_ge L 6 with h6 | h6
    · obtain rfl : t = 0 := by omega
      refine lv_isub hx hb d_La_law_23 ?_
      refine lv_icmp_gt (tgt := 475) hx hb d_La_law_24 (by decide) (fun _ => ?_) (fun hq => absurd (law_lt L h6) hq)
      exact law_exit C K hX hbl hA hA2 (pb := pb) (mo := mo) S (by omega) (by omega) ls
    · refine z_isub (v := nI (L - 6)) hx hb d_La_law_23 (law_sub h6) ?_
      refine z_icmp_gt (tgt := 475) hx hb d_La_law_24 (by decide) (by omega) (by omega) (fun _ => ?_) (fun hq => ?_)
      · exact law_exit C K hX hbl hA hA2 (pb := pb) (mo := mo) S (by omega) (by omega) ls
      · have ht : 6 * t + 6 ≤ L := by omega
        have next := next ht
        refine lv_aload_n hx hb d_La_law_27 rfl (lv_at hl 3 rfl) ?_
        refine lv_iload_n hx hb d_La_law_28 rfl (lv_at hl 0 rfl) ?_
        refine va_sld hx hb hX hbl hbA S.2.2 (i := nI (6 * t)) (vp_in_nI (by omega) (by omega)) d_La_law_29 ?_
        refine lv_bipush (v := 15) hx hb d_La_law_30 (by decide) ?_
        refine lv_iand hx hb d_La_law_32 ?_
        obtain ⟨j, hj, ej⟩ := pk_andE (xs (nI (6 * t)).toNatClampNeg) (m := 15) 4 (by decide)
        rw [ej]
        have hj : j < 16 := hj
        rcases (show j = 0 ∨ j = 1 ∨ j = 2 ∨ j = 3 ∨ j = 4 ∨ j = 5 ∨ j = 6 ∨ j = 7 ∨ j = 8 ∨ j = 9 ∨ j = 10 ∨ j = 11 ∨ j = 12 ∨ j = 13 ∨ j = 14 ∨ j = 15 by omega) with rfl | rfl | rfl | rfl | rfl | rfl | rfl | rfl | rfl | rfl | rfl | rfl | rfl | rfl | rfl | rfl
        · refine lv_tableIn (tgt := 100) (off := 67) hx hb d_La_law_33 (by decide) (by decide) (by decide) (by decide) ?_
          exact law_c0 C K hX hbl hA hA2 hW hM hc hs S hL ht ls hl next
        · refine lv_tableIn (tgt := 123) (off := 90) hx hb d_La_law_33 (by decide) (by decide) (by decide) (by decide) ?_
          exact law_c1 C K hX hbl hA hA2 hW hM hc hs S hL ht ls hl next
        · refine lv_tableIn (tgt := 156) (off := 123) hx hb d_La_law_33 (by decide) (by decide) (by decide) (by decide) ?_
          exact law_c2 C K hX hbl hA hA2 hW hM hc hs S hL ht ls hl next
        · refine lv_tableIn (tgt := 189) (off := 156) hx hb d_La_law_33 (by decide) (by decide) (by decide) (by decide) ?_
          exact law_c3 C K hX hbl hA hA2 hW hM hc hs S hL ht ls hl next
        · refine lv_tableIn (tgt := 202) (off := 169) hx hb d_La_law_33 (by decide) (by decide) (by decide) (by decide) ?_
          exact law_c4 C K hX hbl hA hA2 hW hM hc hs S hL ht ls hl next
        · refine lv_tableIn (tgt := 215) (off := 182) hx hb d_La_law_33 (by decide) (by decide) (by decide) (by decide) ?_
          exact law_c5 C K hX hbl hA hA2 hW hM hc hs S hL ht ls hl next
        · refine lv_tableIn (tgt := 268) (off := 235) hx hb d_La_law_33 (by decide) (by decide) (by decide) (by decide) ?_
          exact law_c6 C K hX hbl hA hA2 hW hM hc hs S hL ht ls hl next
        · refine lv_tableIn (tgt := 281) (off := 248) hx hb d_La_law_33 (by decide) (by decide) (by decide) (by decide) ?_
          exact law_c7 C K hX hbl hA hA2 hW hM hc hs S hL ht ls hl next
        · refine lv_tableIn (tgt := 294) (off := 261) hx hb d_La_law_33 (by decide) (by decide) (by decide) (by decide) ?_
          exact law_c8 C K hX hbl hA hA2 hW hM hc hs S hL ht ls hl next
        · refine lv_tableIn (tgt := 307) (off := 274) hx hb d_La_law_33 (by decide) (by decide) (by decide) (by decide) ?_
          exact law_c9 C K hX hbl hA hA2 hW hM hc hs S hL ht ls hl next
        · refine lv_tableIn (tgt := 330) (off := 297) hx hb d_La_law_33 (by decide) (by decide) (by decide) (by decide) ?_
          exact law_c10 C K hX hbl hA hA2 hW hM hc hs S hL ht ls hl next
        · refine lv_tableIn (tgt := 353) (off := 320) hx hb d_La_law_33 (by decide) (by decide) (by decide) (by decide) ?_
          exact law_c11 C K hX hbl hA hA2 hW hM hc hs S hL ht ls hl next
        · refine lv_tableIn (tgt := 386) (off := 353) hx hb d_La_law_33 (by decide) (by decide) (by decide) (by decide) ?_
          exact law_c12 C K hX hbl hA hA2 hW hM hc hs S hL ht ls hl next
        · refine lv_tableOut (tgt := 469) hx hb d_La_law_33 (Or.inr (by decide)) (by decide) ?_
          exact next _ _ _ _ _ _ _ _ _ _ _ _ _ _ _ _ ls hW hM hc hs S hl
        · refine lv_tableOut (tgt := 469) hx hb d_La_law_33 (Or.inr (by decide)) (by decide) ?_
          exact next _ _ _ _ _ _ _ _ _ _ _ _ _ _ _ _ ls hW hM hc hs S hl
        · refine lv_tableOut (tgt := 469) hx hb d_La_law_33 (Or.inr (by decide)) (by decide) ?_
          exact next _ _ _ _ _ _ _ _ _ _ _ _ _ _ _ _ ls hW hM hc hs S hl
theorem sw_perm {G : va_G} {A : Nat → Prop} {H0 H : Heap} {locs : List Loc} {ws ws2 : va_W} (h : ws.Perm ws2) (S : Sw G A H0 H locs ws) : Sw G A H0 H locs ws2 := ⟨vaP_perm h S.1, vaD_perm h S.2.1, S.2.2⟩
set_option maxRecDepth 100000 in
set_option maxHeartbeats 4000000 in
/-- THE LAW, from its entry -/
theorem whole_start {p : Program} {e : Env} {s : State} {m : MethodId} {below : List Frame} {meth : Method} {c : Code} (l : Launch) {b L : Nat} {xs : Nat → Int32} (hL : L ≤ 3072) (C0 : lw_At p s m meth c b L xs) : W p l e room_1 s m #[Value.ref b] below meth c s.heap [] 0 0 (lw_Z below #[Value.ref b] s) (entryFrame m ([Value.ref b] : List Value).toArray 4) := by
  obtain ⟨hx, hb, hr, hml, hown, hts, hX, hbl, hlocks, hgv⟩ := id C0
  obtain ⟨G, k, K⟩ := kn_start hts
  have C : Cx p s m #[Value.ref b] meth c code "PotentialBenchLaw" 4 ret meth.name := ⟨hx, hb, hml, hown, fun w h => hts w (gt_law w h), hr, hlocks, rfl⟩
  obtain ⟨A, hA, hA2⟩ : ∃ A : Nat → Prop, (∀ q, s.heap.size ≤ q → A q) ∧ ∀ q, A q → s.heap.size ≤ q := ⟨fun q => s.heap.size ≤ q, fun _ h => h, fun _ h => h⟩
  have hbA : ¬ A b := fun h => absurd (hA2 b h) (Nat.not_le.mpr hbl)
  have S : Sw G A s.heap s.heap [] [] := ⟨fun k q h => by simp at h, ⟨fun i j p q h => by simp at h, fun k q h => by simp at h⟩, va_S.rf⟩
  have hl := lv_entry ([.ref b]) (n := 4) (Nat.le_of_ble_eq_true rfl)
  rw [lg_entry_eq]
  generalize (lg_sl ([.ref b]) ++ List.replicate (4 - (lg_sl ([.ref b])).length) Slot.unset).toArray = ls at hl ⊢
  have hl : lv_has ls 4 [(0, .ref b)] := hl
  refine r_new C K S hA 0 rfl clOk_PB wl_La_7 wi_PB wz_PB t_PB k_PB (fs := [.null, .null, .null, .null, .null, .null, .int 0, .int 0, .int 0]) df_PB (Nat.le_of_ble_eq_true rfl) (Nat.le_of_ble_eq_true rfl) d_La_law_0 (fun q1 H S => ?_)
  have S : Sw G A s.heap _ _ [(q1, .inr (0, [.null, .null, .null, .null, .null, .null, .int 0, .int 0, .int 0]))] := S
  refine lv_dup hx hb d_La_law_3 rfl ?_
  refine q_back0 (wi := [(q1, .inr (0, [.null, .null, .null, .null, .null, .null, .int 0, .int 0, .int 0]))]) (wr := []) S hA [0] [] rfl rfl (by decide) (by decide) (va_runI (As := []) (rest := [.ref q1]) ⟨hx, hb, C.2.2.1, C.2.2.2.1, C.2.2.2.2.1⟩ (w_PB_init l G k q1 _ _) (k_ctor (n := 0) C wc_PB_init rfl rfl wz_PB wm_La_9 wn_PB_init rfl (by decide +kernel) ⟨(Nat.le_of_ble_eq_true rfl), (Nat.le_of_ble_eq_true rfl)⟩) (pr_nowG K S [0] (by decide) rfl) rfl rfl hl.1 rfl (lv_room (Nat.le_of_ble_eq_true rfl)) d_La_law_4 ⟨(Nat.le_of_ble_eq_true rfl), (Nat.le_of_ble_eq_true rfl)⟩) (fun u1 H locs hw1 S => ?_)
  obtain ⟨hW, hp⟩ := hw1
  have S : Sw G A s.heap H locs u1.1 := S
  show W p l e _ s m _ below meth c H locs _ _ _ (F0 m 7 ls [.ref q1])
  refine lv_astore_n (lv' := [(1, .ref q1), (0, .ref b)]) hx hb d_La_law_7 rfl hl (by decide) rfl (fun ls hl => ?_)
  refine r_new C K S hA 8 rfl clOk_Mo wl_La_10 wi_Mo wz_Mo t_Mo k_Mo (fs := [.int 0, .null, .null, .null, .int 0, .null, .null, .null, .null, .int 0, .long 0, .int 0, .int 0, .null, .null, .null, .null, .null, .int 0, .null, .int 0, .int 0, .int 0, .int 0, .int 0, .int 0, .int 0, .null, .int 0, .int 0, .int 0, .int 0, .null, .null, .int 0, .null, .null, .null, .null, .null, .int 0, .null, .null, .null, .null, .null, .null, .null, .int 0, .int 0, .int 0, .int 0, .int 0, .int 0, .int 0, .null, .null, .int 0, .int 0, .int 0, .int 0]) df_Mo (Nat.le_of_ble_eq_true rfl) (Nat.le_of_ble_eq_true rfl) d_La_law_8 (fun q2 H S => ?_)
  have S : Sw G A s.heap H locs ([(q2, .inr (8, [.int 0, .null, .null, .null, .int 0, .null, .null, .null, .null, .int 0, .long 0, .int 0, .int 0, .null, .null, .null, .null, .null, .int 0, .null, .int 0, .int 0, .int 0, .int 0, .int 0, .int 0, .int 0, .null, .int 0, .int 0, .int 0, .int 0, .null, .null, .int 0, .null, .null, .null, .null, .null, .int 0, .null, .null, .null, .null, .null, .null, .null, .int 0, .int 0, .int 0, .int 0, .int 0, .int 0, .int 0, .null, .null, .int 0, .int 0, .int 0, .int 0]))] ++ u1.1) := sw_perm List.perm_append_comm S
  refine lv_dup hx hb d_La_law_11 rfl ?_
  refine q_backP (X := [(q2, .inr (8, [.int 0, .null, .null, .null, .int 0, .null, .null, .null, .null, .int 0, .long 0, .int 0, .int 0, .null, .null, .null, .null, .null, .int 0, .null, .int 0, .int 0, .int 0, .int 0, .int 0, .int 0, .int 0, .null, .int 0, .int 0, .int 0, .int 0, .null, .null, .int 0, .null, .null, .null, .null, .null, .int 0, .null, .null, .null, .null, .null, .null, .null, .int 0, .int 0, .int 0, .int 0, .int 0, .int 0, .int 0, .null, .null, .int 0, .int 0, .int 0, .int 0]))]) (wi := [(q2, .inr (8, [.int 0, .null, .null, .null, .int 0, .null, .null, .null, .null, .int 0, .long 0, .int 0, .int 0, .null, .null, .null, .null, .null, .int 0, .null, .int 0, .int 0, .int 0, .int 0, .int 0, .int 0, .int 0, .null, .int 0, .int 0, .int 0, .int 0, .null, .null, .int 0, .null, .null, .null, .null, .null, .int 0, .null, .null, .null, .null, .null, .null, .null, .int 0, .int 0, .int 0, .int 0, .int 0, .int 0, .int 0, .null, .null, .int 0, .int 0, .int 0, .int 0]))]) (wr := []) (pl := u1.1) (wo := fun u => u) (pl1 := fun _ => u1.1) S hA [0] [] rfl rfl (by decide) (by decide) (va_runI (As := []) (rest := [.ref q2]) ⟨hx, hb, C.2.2.1, C.2.2.2.1, C.2.2.2.2.1⟩ (cg_frame u1.1 (v_Mo_init l G k q2 _ _)) (k_ctor (n := 0) C wc_Mo_init rfl rfl wz_Mo wm_La_12 wn_Mo_init rfl (by decide +kernel) ⟨(Nat.le_of_ble_eq_true rfl), (Nat.le_of_ble_eq_true rfl)⟩) (pr_nowGP K S [0] (by decide) rfl) rfl rfl hl.1 rfl (lv_room (Nat.le_of_ble_eq_true rfl)) d_La_law_12 ⟨(Nat.le_of_ble_eq_true rfl), (Nat.le_of_ble_eq_true rfl)⟩) (fun u2 H locs hM S => ?_)
  have S : Sw G A s.heap H locs (u2 ++ u1.1) := S
  have S : Sw G A s.heap H locs (u1.1 ++ u2) := sw_perm List.perm_append_comm S
  have S : Sw G A s.heap H locs ([] ++ (u1.1 ++ u2)) := S
  show W p l e _ s m _ below meth c H locs _ _ _ (F0 m 15 ls [.ref q2])
  refine lv_astore_n (lv' := [(2, .ref q2), (1, .ref q1), (0, .ref b)]) hx hb d_La_law_15 rfl hl (by decide) rfl (fun ls hl => ?_)
  refine lv_iconst (v := 0) hx hb d_La_law_16 (by decide) ?_
  refine lv_istore_n (lv' := [(3, .int 0), (2, .ref q2), (1, .ref q1), (0, .ref b)]) hx hb d_La_law_17 rfl hl (by decide) rfl (fun ls hl => ?_)
  exact law_loop C K hX hbl hA hA2 hL (pb := q1) (mo := q2) 512 0 rfl (by omega) _ _ _ _ _ _ _ _ _ _ _ _ _ _ _ _ ls hW hM (by show 0 + 1 + 509 + 1 + 30 + u1.2 ≤ 368979; omega) (by show 0 + 9 + 26027 + 61 + 378491 + 2 * u1.2 ≤ 1141464; omega) S hl
end
