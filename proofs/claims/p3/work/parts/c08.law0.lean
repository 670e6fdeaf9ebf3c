/-! THE CLAIM OUT OF ONE WALK OF THE LAW'S BODY. Your part is whole_start (and what it stands on); all else here is the same for every law, but numbers. -/
def R_law : String := "PotentialBenchLaw"
def lw_P (b : Addr) (xs : List Int32) (args : Array Value) (s : State) : Prop := args = #[.ref b] ∧ s.IntsAt b xs ∧ xs.length ≤ 3072 ∧ (Jvm.Cond.and given_1 narrow_1).before args s = true
def lw_Q (_ : Array Value) (s : State) (o : Outcome) (t : State) : Prop := o = .returned (some (.int 1)) ∧ Framed s o t [] 600000 7302250
def lw_Z (below : List Frame) (a : Array Value) (s : State) : State → Prop := fun t => ∃ o, t.status = .running ∧ Ended t below o ∧ lw_Q a s o t
/-- the law's own end, with 1 on the stack, nothing written that was there before, its room as the claim has it -/
theorem lw_ret {p : Program} {l : Launch} {e : Env} {s : State} {m : MethodId} {below : List Frame} {meth : Method} {c : Code} {b : Nat} (hx : p.tables.exec = Jvm.exec) (hb : c.code = code) (hr : meth.sig.returnType = ret) (hlocks : meth.locks = false) {pc : Nat} {H : Heap} {ls : Array Slot} (hdg : decode code pc = .ok (.ireturn, 1)) : W p l e room_1 s m #[Value.ref b] below meth c H [] 600000 7302250 (lw_Z below #[Value.ref b] s) (F0 m pc ls [.int 1]) := by
  intro T hT X
  obtain ⟨fs, hret, hrun, hended, hW, hframe⟩ := X.leave (v := some (.int 1)) (hlocks := hlocks) (fun h => by rw [hr] at h; cases h)
  have hmeth' : T.vm.method? m = some meth := X.method'
  refine ⟨T.setFrames fs, ?_, .returned (some (.int 1)), hrun, hended, rfl, ⟨_, rfl⟩, hW, hframe⟩
  jvm_step X.here [X.here.top, hx, hb, hdg, hmeth', hr, ret, narrow_b1]
  (try refine ⟨rfl, ?_⟩); (try refine ⟨rfl, ?_⟩)
  first | (intro acts; rw [hret _ acts rfl rfl rfl]) | rw [hret _ _ rfl rfl rfl]
  exact Steps.refl _
/-- what holds at the law's entry: the machine, the code, the tables' words (any of lw_tbl by 'hts w (by decide +kernel)'), the script of L ints xs at the cell b, what the Statement gives of the start (any of its parts by flat_of_before) -/
def lw_At (p : Program) (s : State) (m : MethodId) (meth : Method) (c : Code) (b L : Nat) (xs : Nat → Int32) : Prop :=
  p.tables.exec = Jvm.exec ∧ c.code = code ∧ meth.sig.returnType = ret ∧ c.maxLocals = 4 ∧ s.vm.findClass R_law = some m.cls ∧ (∀ w ∈ lw_tbl, w.before #[Value.ref b] s = true) ∧ va_X b L xs s s.heap ∧ b < s.heap.size ∧ meth.locks = false ∧ (Jvm.Cond.and given_1 narrow_1).before #[Value.ref b] s = true
theorem d_La_law_0 : decode code 0 = .ok (.new 7, 3) := by decide +kernel
theorem d_La_law_3 : decode code 3 = .ok (.dup, 1) := by decide +kernel
theorem d_La_law_4 : decode code 4 = .ok (.invokespecial 9, 3) := by decide +kernel
theorem d_La_law_7 : decode code 7 = .ok (.astore_n 1, 1) := by decide +kernel
theorem d_La_law_8 : decode code 8 = .ok (.new 10, 3) := by decide +kernel
theorem d_La_law_11 : decode code 11 = .ok (.dup, 1) := by decide +kernel
theorem d_La_law_12 : decode code 12 = .ok (.invokespecial 12, 3) := by decide +kernel
theorem d_La_law_15 : decode code 15 = .ok (.astore_n 2, 1) := by decide +kernel
theorem d_La_law_16 : decode code 16 = .ok (.iconst 0, 1) := by decide +kernel
theorem d_La_law_17 : decode code 17 = .ok (.istore_n 3, 1) := by decide +kernel
theorem d_La_law_18 : decode code 18 = .ok (.iload_n 3, 1) := by decide +kernel
theorem d_La_law_19 : decode code 19 = .ok (.aload_n 0, 1) := by decide +kernel
theorem d_La_law_20 : decode code 20 = .ok (.arraylength, 1) := by decide +kernel
theorem d_La_law_21 : decode code 21 = .ok (.bipush 6, 2) := by decide +kernel
theorem d_La_law_23 : decode code 23 = .ok (.isub, 1) := by decide +kernel
theorem d_La_law_24 : decode code 24 = .ok (.if_icmp .gt 451, 3) := by decide +kernel
theorem d_La_law_27 : decode code 27 = .ok (.aload_n 0, 1) := by decide +kernel
theorem d_La_law_28 : decode code 28 = .ok (.iload_n 3, 1) := by decide +kernel
theorem d_La_law_29 : decode code 29 = .ok (.iaload, 1) := by decide +kernel
theorem d_La_law_30 : decode code 30 = .ok (.bipush 15, 2) := by decide +kernel
theorem d_La_law_32 : decode code 32 = .ok (.iand, 1) := by decide +kernel
theorem d_La_law_33 : decode code 33 = .ok (.tableswitch 436 0 12 #[67, 90, 123, 156, 169, 182, 235, 248, 261, 274, 297, 320, 353], 67) := by decide +kernel
theorem d_La_law_100 : decode code 100 = .ok (.aload_n 1, 1) := by decide +kernel
theorem d_La_law_101 : decode code 101 = .ok (.aload_n 0, 1) := by decide +kernel
theorem d_La_law_102 : decode code 102 = .ok (.iload_n 3, 1) := by decide +kernel
theorem d_La_law_103 : decode code 103 = .ok (.iconst 1, 1) := by decide +kernel
theorem d_La_law_104 : decode code 104 = .ok (.iadd, 1) := by decide +kernel
theorem d_La_law_105 : decode code 105 = .ok (.iaload, 1) := by decide +kernel
theorem d_La_law_106 : decode code 106 = .ok (.invokevirtual 13, 3) := by decide +kernel
theorem d_La_law_109 : decode code 109 = .ok (.pop, 1) := by decide +kernel
theorem d_La_law_110 : decode code 110 = .ok (.aload_n 2, 1) := by decide +kernel
theorem d_La_law_111 : decode code 111 = .ok (.aload_n 0, 1) := by decide +kernel
theorem d_La_law_112 : decode code 112 = .ok (.iload_n 3, 1) := by decide +kernel
theorem d_La_law_113 : decode code 113 = .ok (.iconst 1, 1) := by decide +kernel
theorem d_La_law_114 : decode code 114 = .ok (.iadd, 1) := by decide +kernel
theorem d_La_law_115 : decode code 115 = .ok (.iaload, 1) := by decide +kernel
theorem d_La_law_116 : decode code 116 = .ok (.invokevirtual 17, 3) := by decide +kernel
theorem d_La_law_119 : decode code 119 = .ok (.pop, 1) := by decide +kernel
theorem d_La_law_120 : decode code 120 = .ok (.goto 349, 3) := by decide +kernel
theorem d_La_law_123 : decode code 123 = .ok (.aload_n 1, 1) := by decide +kernel
theorem d_La_law_124 : decode code 124 = .ok (.aload_n 0, 1) := by decide +kernel
theorem d_La_law_125 : decode code 125 = .ok (.iload_n 3, 1) := by decide +kernel
theorem d_La_law_126 : decode code 126 = .ok (.iconst 1, 1) := by decide +kernel
theorem d_La_law_127 : decode code 127 = .ok (.iadd, 1) := by decide +kernel
theorem d_La_law_128 : decode code 128 = .ok (.iaload, 1) := by decide +kernel
theorem d_La_law_129 : decode code 129 = .ok (.aload_n 0, 1) := by decide +kernel
theorem d_La_law_130 : decode code 130 = .ok (.iload_n 3, 1) := by decide +kernel
theorem d_La_law_131 : decode code 131 = .ok (.iconst 2, 1) := by decide +kernel
theorem d_La_law_132 : decode code 132 = .ok (.iadd, 1) := by decide +kernel
theorem d_La_law_133 : decode code 133 = .ok (.iaload, 1) := by decide +kernel
theorem d_La_law_134 : decode code 134 = .ok (.invokevirtual 18, 3) := by decide +kernel
theorem d_La_law_137 : decode code 137 = .ok (.aload_n 2, 1) := by decide +kernel
theorem d_La_law_138 : decode code 138 = .ok (.aload_n 0, 1) := by decide +kernel
theorem d_La_law_139 : decode code 139 = .ok (.iload_n 3, 1) := by decide +kernel
theorem d_La_law_140 : decode code 140 = .ok (.iconst 1, 1) := by decide +kernel
theorem d_La_law_141 : decode code 141 = .ok (.iadd, 1) := by decide +kernel
theorem d_La_law_142 : decode code 142 = .ok (.iaload, 1) := by decide +kernel
theorem d_La_law_143 : decode code 143 = .ok (.aload_n 0, 1) := by decide +kernel
theorem d_La_law_144 : decode code 144 = .ok (.iload_n 3, 1) := by decide +kernel
theorem d_La_law_145 : decode code 145 = .ok (.iconst 2, 1) := by decide +kernel
theorem d_La_law_146 : decode code 146 = .ok (.iadd, 1) := by decide +kernel
theorem d_La_law_147 : decode code 147 = .ok (.iaload, 1) := by decide +kernel
theorem d_La_law_148 : decode code 148 = .ok (.invokevirtual 22, 3) := by decide +kernel
theorem d_La_law_151 : decode code 151 = .ok (.if_icmp .eq 318, 3) := by decide +kernel
theorem d_La_law_154 : decode code 154 = .ok (.iconst 0, 1) := by decide +kernel
theorem d_La_law_155 : decode code 155 = .ok (.ireturn, 1) := by decide +kernel
theorem d_La_law_156 : decode code 156 = .ok (.aload_n 1, 1) := by decide +kernel
theorem d_La_law_157 : decode code 157 = .ok (.aload_n 0, 1) := by decide +kernel
theorem d_La_law_158 : decode code 158 = .ok (.iload_n 3, 1) := by decide +kernel
theorem d_La_law_159 : decode code 159 = .ok (.iconst 1, 1) := by decide +kernel
theorem d_La_law_160 : decode code 160 = .ok (.iadd, 1) := by decide +kernel
theorem d_La_law_161 : decode code 161 = .ok (.iaload, 1) := by decide +kernel
theorem d_La_law_162 : decode code 162 = .ok (.aload_n 0, 1) := by decide +kernel
theorem d_La_law_163 : decode code 163 = .ok (.iload_n 3, 1) := by decide +kernel
theorem d_La_law_164 : decode code 164 = .ok (.iconst 2, 1) := by decide +kernel
theorem d_La_law_165 : decode code 165 = .ok (.iadd, 1) := by decide +kernel
theorem d_La_law_166 : decode code 166 = .ok (.iaload, 1) := by decide +kernel
theorem d_La_law_167 : decode code 167 = .ok (.invokevirtual 23, 3) := by decide +kernel
theorem d_La_law_170 : decode code 170 = .ok (.pop, 1) := by decide +kernel
theorem d_La_law_171 : decode code 171 = .ok (.aload_n 2, 1) := by decide +kernel
theorem d_La_law_172 : decode code 172 = .ok (.aload_n 0, 1) := by decide +kernel
theorem d_La_law_173 : decode code 173 = .ok (.iload_n 3, 1) := by decide +kernel
theorem d_La_law_174 : decode code 174 = .ok (.iconst 1, 1) := by decide +kernel
theorem d_La_law_175 : decode code 175 = .ok (.iadd, 1) := by decide +kernel
theorem d_La_law_176 : decode code 176 = .ok (.iaload, 1) := by decide +kernel
theorem d_La_law_177 : decode code 177 = .ok (.aload_n 0, 1) := by decide +kernel
theorem d_La_law_178 : decode code 178 = .ok (.iload_n 3, 1) := by decide +kernel
theorem d_La_law_179 : decode code 179 = .ok (.iconst 2, 1) := by decide +kernel
theorem d_La_law_180 : decode code 180 = .ok (.iadd, 1) := by decide +kernel
theorem d_La_law_181 : decode code 181 = .ok (.iaload, 1) := by decide +kernel
theorem d_La_law_182 : decode code 182 = .ok (.invokevirtual 27, 3) := by decide +kernel
theorem d_La_law_185 : decode code 185 = .ok (.pop, 1) := by decide +kernel
theorem d_La_law_186 : decode code 186 = .ok (.goto 283, 3) := by decide +kernel
theorem d_La_law_189 : decode code 189 = .ok (.aload_n 1, 1) := by decide +kernel
theorem d_La_law_190 : decode code 190 = .ok (.invokevirtual 28, 3) := by decide +kernel
theorem d_La_law_193 : decode code 193 = .ok (.pop, 1) := by decide +kernel
theorem d_La_law_194 : decode code 194 = .ok (.aload_n 2, 1) := by decide +kernel
theorem d_La_law_195 : decode code 195 = .ok (.invokevirtual 32, 3) := by decide +kernel
theorem d_La_law_198 : decode code 198 = .ok (.pop, 1) := by decide +kernel
theorem d_La_law_199 : decode code 199 = .ok (.goto 270, 3) := by decide +kernel
theorem d_La_law_202 : decode code 202 = .ok (.aload_n 1, 1) := by decide +kernel
theorem d_La_law_203 : decode code 203 = .ok (.invokevirtual 33, 3) := by decide +kernel
theorem d_La_law_206 : decode code 206 = .ok (.pop, 1) := by decide +kernel
theorem d_La_law_207 : decode code 207 = .ok (.aload_n 2, 1) := by decide +kernel
theorem d_La_law_208 : decode code 208 = .ok (.invokevirtual 36, 3) := by decide +kernel
theorem d_La_law_211 : decode code 211 = .ok (.pop, 1) := by decide +kernel
theorem d_La_law_212 : decode code 212 = .ok (.goto 257, 3) := by decide +kernel
theorem d_La_law_215 : decode code 215 = .ok (.aload_n 1, 1) := by decide +kernel
theorem d_La_law_216 : decode code 216 = .ok (.aload_n 0, 1) := by decide +kernel
theorem d_La_law_217 : decode code 217 = .ok (.iload_n 3, 1) := by decide +kernel
theorem d_La_law_218 : decode code 218 = .ok (.iconst 1, 1) := by decide +kernel
theorem d_La_law_219 : decode code 219 = .ok (.iadd, 1) := by decide +kernel
theorem d_La_law_220 : decode code 220 = .ok (.iaload, 1) := by decide +kernel
theorem d_La_law_221 : decode code 221 = .ok (.aload_n 0, 1) := by decide +kernel
theorem d_La_law_222 : decode code 222 = .ok (.iload_n 3, 1) := by decide +kernel
theorem d_La_law_223 : decode code 223 = .ok (.iconst 2, 1) := by decide +kernel
theorem d_La_law_224 : decode code 224 = .ok (.iadd, 1) := by decide +kernel
theorem d_La_law_225 : decode code 225 = .ok (.iaload, 1) := by decide +kernel
theorem d_La_law_226 : decode code 226 = .ok (.aload_n 0, 1) := by decide +kernel
theorem d_La_law_227 : decode code 227 = .ok (.iload_n 3, 1) := by decide +kernel
theorem d_La_law_228 : decode code 228 = .ok (.iconst 3, 1) := by decide +kernel
theorem d_La_law_229 : decode code 229 = .ok (.iadd, 1) := by decide +kernel
theorem d_La_law_230 : decode code 230 = .ok (.iaload, 1) := by decide +kernel
theorem d_La_law_231 : decode code 231 = .ok (.aload_n 0, 1) := by decide +kernel
theorem d_La_law_232 : decode code 232 = .ok (.iload_n 3, 1) := by decide +kernel
theorem d_La_law_233 : decode code 233 = .ok (.iconst 4, 1) := by decide +kernel
theorem d_La_law_234 : decode code 234 = .ok (.iadd, 1) := by decide +kernel
theorem d_La_law_235 : decode code 235 = .ok (.iaload, 1) := by decide +kernel
theorem d_La_law_236 : decode code 236 = .ok (.invokevirtual 37, 3) := by decide +kernel
theorem d_La_law_239 : decode code 239 = .ok (.pop, 1) := by decide +kernel
theorem d_La_law_240 : decode code 240 = .ok (.aload_n 2, 1) := by decide +kernel
theorem d_La_law_241 : decode code 241 = .ok (.aload_n 0, 1) := by decide +kernel
theorem d_La_law_242 : decode code 242 = .ok (.iload_n 3, 1) := by decide +kernel
theorem d_La_law_243 : decode code 243 = .ok (.iconst 1, 1) := by decide +kernel
theorem d_La_law_244 : decode code 244 = .ok (.iadd, 1) := by decide +kernel
theorem d_La_law_245 : decode code 245 = .ok (.iaload, 1) := by decide +kernel
theorem d_La_law_246 : decode code 246 = .ok (.aload_n 0, 1) := by decide +kernel
theorem d_La_law_247 : decode code 247 = .ok (.iload_n 3, 1) := by decide +kernel
theorem d_La_law_248 : decode code 248 = .ok (.iconst 2, 1) := by decide +kernel
theorem d_La_law_249 : decode code 249 = .ok (.iadd, 1) := by decide +kernel
theorem d_La_law_250 : decode code 250 = .ok (.iaload, 1) := by decide +kernel
theorem d_La_law_251 : decode code 251 = .ok (.aload_n 0, 1) := by decide +kernel
theorem d_La_law_252 : decode code 252 = .ok (.iload_n 3, 1) := by decide +kernel
theorem d_La_law_253 : decode code 253 = .ok (.iconst 3, 1) := by decide +kernel
theorem d_La_law_254 : decode code 254 = .ok (.iadd, 1) := by decide +kernel
theorem d_La_law_255 : decode code 255 = .ok (.iaload, 1) := by decide +kernel
theorem d_La_law_256 : decode code 256 = .ok (.aload_n 0, 1) := by decide +kernel
theorem d_La_law_257 : decode code 257 = .ok (.iload_n 3, 1) := by decide +kernel
theorem d_La_law_258 : decode code 258 = .ok (.iconst 4, 1) := by decide +kernel
theorem d_La_law_259 : decode code 259 = .ok (.iadd, 1) := by decide +kernel
theorem d_La_law_260 : decode code 260 = .ok (.iaload, 1) := by decide +kernel
theorem d_La_law_261 : decode code 261 = .ok (.invokevirtual 41, 3) := by decide +kernel
theorem d_La_law_264 : decode code 264 = .ok (.pop, 1) := by decide +kernel
theorem d_La_law_265 : decode code 265 = .ok (.goto 204, 3) := by decide +kernel
theorem d_La_law_268 : decode code 268 = .ok (.aload_n 1, 1) := by decide +kernel
theorem d_La_law_269 : decode code 269 = .ok (.invokevirtual 42, 3) := by decide +kernel
theorem d_La_law_272 : decode code 272 = .ok (.pop2, 1) := by decide +kernel
theorem d_La_law_273 : decode code 273 = .ok (.aload_n 2, 1) := by decide +kernel
theorem d_La_law_274 : decode code 274 = .ok (.invokevirtual 46, 3) := by decide +kernel
theorem d_La_law_277 : decode code 277 = .ok (.pop2, 1) := by decide +kernel
theorem d_La_law_278 : decode code 278 = .ok (.goto 191, 3) := by decide +kernel
theorem d_La_law_281 : decode code 281 = .ok (.aload_n 1, 1) := by decide +kernel
theorem d_La_law_282 : decode code 282 = .ok (.invokevirtual 47, 3) := by decide +kernel
theorem d_La_law_285 : decode code 285 = .ok (.pop, 1) := by decide +kernel
theorem d_La_law_286 : decode code 286 = .ok (.aload_n 2, 1) := by decide +kernel
theorem d_La_law_287 : decode code 287 = .ok (.invokevirtual 50, 3) := by decide +kernel
theorem d_La_law_290 : decode code 290 = .ok (.pop, 1) := by decide +kernel
theorem d_La_law_291 : decode code 291 = .ok (.goto 178, 3) := by decide +kernel
theorem d_La_law_294 : decode code 294 = .ok (.aload_n 1, 1) := by decide +kernel
theorem d_La_law_295 : decode code 295 = .ok (.invokevirtual 51, 3) := by decide +kernel
theorem d_La_law_298 : decode code 298 = .ok (.pop, 1) := by decide +kernel
theorem d_La_law_299 : decode code 299 = .ok (.aload_n 2, 1) := by decide +kernel
theorem d_La_law_300 : decode code 300 = .ok (.invokevirtual 54, 3) := by decide +kernel
theorem d_La_law_303 : decode code 303 = .ok (.pop, 1) := by decide +kernel
theorem d_La_law_304 : decode code 304 = .ok (.goto 165, 3) := by decide +kernel
theorem d_La_law_307 : decode code 307 = .ok (.aload_n 1, 1) := by decide +kernel
theorem d_La_law_308 : decode code 308 = .ok (.aload_n 0, 1) := by decide +kernel
theorem d_La_law_309 : decode code 309 = .ok (.iload_n 3, 1) := by decide +kernel
theorem d_La_law_310 : decode code 310 = .ok (.iconst 1, 1) := by decide +kernel
theorem d_La_law_311 : decode code 311 = .ok (.iadd, 1) := by decide +kernel
theorem d_La_law_312 : decode code 312 = .ok (.iaload, 1) := by decide +kernel
theorem d_La_law_313 : decode code 313 = .ok (.invokevirtual 55, 3) := by decide +kernel
theorem d_La_law_316 : decode code 316 = .ok (.pop, 1) := by decide +kernel
theorem d_La_law_317 : decode code 317 = .ok (.aload_n 2, 1) := by decide +kernel
theorem d_La_law_318 : decode code 318 = .ok (.aload_n 0, 1) := by decide +kernel
theorem d_La_law_319 : decode code 319 = .ok (.iload_n 3, 1) := by decide +kernel
theorem d_La_law_320 : decode code 320 = .ok (.iconst 1, 1) := by decide +kernel
theorem d_La_law_321 : decode code 321 = .ok (.iadd, 1) := by decide +kernel
theorem d_La_law_322 : decode code 322 = .ok (.iaload, 1) := by decide +kernel
theorem d_La_law_323 : decode code 323 = .ok (.invokevirtual 58, 3) := by decide +kernel
theorem d_La_law_326 : decode code 326 = .ok (.pop, 1) := by decide +kernel
theorem d_La_law_327 : decode code 327 = .ok (.goto 142, 3) := by decide +kernel
theorem d_La_law_330 : decode code 330 = .ok (.aload_n 1, 1) := by decide +kernel
theorem d_La_law_331 : decode code 331 = .ok (.aload_n 0, 1) := by decide +kernel
theorem d_La_law_332 : decode code 332 = .ok (.iload_n 3, 1) := by decide +kernel
theorem d_La_law_333 : decode code 333 = .ok (.iconst 1, 1) := by decide +kernel
theorem d_La_law_334 : decode code 334 = .ok (.iadd, 1) := by decide +kernel
theorem d_La_law_335 : decode code 335 = .ok (.iaload, 1) := by decide +kernel
theorem d_La_law_336 : decode code 336 = .ok (.invokevirtual 59, 3) := by decide +kernel
theorem d_La_law_339 : decode code 339 = .ok (.pop, 1) := by decide +kernel
theorem d_La_law_340 : decode code 340 = .ok (.aload_n 2, 1) := by decide +kernel
theorem d_La_law_341 : decode code 341 = .ok (.aload_n 0, 1) := by decide +kernel
theorem d_La_law_342 : decode code 342 = .ok (.iload_n 3, 1) := by decide +kernel
theorem d_La_law_343 : decode code 343 = .ok (.iconst 1, 1) := by decide +kernel
theorem d_La_law_344 : decode code 344 = .ok (.iadd, 1) := by decide +kernel
theorem d_La_law_345 : decode code 345 = .ok (.iaload, 1) := by decide +kernel
theorem d_La_law_346 : decode code 346 = .ok (.invokevirtual 62, 3) := by decide +kernel
theorem d_La_law_349 : decode code 349 = .ok (.pop, 1) := by decide +kernel
theorem d_La_law_350 : decode code 350 = .ok (.goto 119, 3) := by decide +kernel
theorem d_La_law_353 : decode code 353 = .ok (.aload_n 1, 1) := by decide +kernel
theorem d_La_law_354 : decode code 354 = .ok (.aload_n 0, 1) := by decide +kernel
theorem d_La_law_355 : decode code 355 = .ok (.iload_n 3, 1) := by decide +kernel
theorem d_La_law_356 : decode code 356 = .ok (.iconst 1, 1) := by decide +kernel
theorem d_La_law_357 : decode code 357 = .ok (.iadd, 1) := by decide +kernel
theorem d_La_law_358 : decode code 358 = .ok (.iaload, 1) := by decide +kernel
theorem d_La_law_359 : decode code 359 = .ok (.aload_n 0, 1) := by decide +kernel
theorem d_La_law_360 : decode code 360 = .ok (.iload_n 3, 1) := by decide +kernel
theorem d_La_law_361 : decode code 361 = .ok (.iconst 2, 1) := by decide +kernel
theorem d_La_law_362 : decode code 362 = .ok (.iadd, 1) := by decide +kernel
theorem d_La_law_363 : decode code 363 = .ok (.iaload, 1) := by decide +kernel
theorem d_La_law_364 : decode code 364 = .ok (.invokevirtual 63, 3) := by decide +kernel
theorem d_La_law_367 : decode code 367 = .ok (.pop2, 1) := by decide +kernel
theorem d_La_law_368 : decode code 368 = .ok (.aload_n 2, 1) := by decide +kernel
theorem d_La_law_369 : decode code 369 = .ok (.aload_n 0, 1) := by decide +kernel
theorem d_La_law_370 : decode code 370 = .ok (.iload_n 3, 1) := by decide +kernel
theorem d_La_law_371 : decode code 371 = .ok (.iconst 1, 1) := by decide +kernel
theorem d_La_law_372 : decode code 372 = .ok (.iadd, 1) := by decide +kernel
theorem d_La_law_373 : decode code 373 = .ok (.iaload, 1) := by decide +kernel
theorem d_La_law_374 : decode code 374 = .ok (.aload_n 0, 1) := by decide +kernel
theorem d_La_law_375 : decode code 375 = .ok (.iload_n 3, 1) := by decide +kernel
theorem d_La_law_376 : decode code 376 = .ok (.iconst 2, 1) := by decide +kernel
theorem d_La_law_377 : decode code 377 = .ok (.iadd, 1) := by decide +kernel
theorem d_La_law_378 : decode code 378 = .ok (.iaload, 1) := by decide +kernel
theorem d_La_law_379 : decode code 379 = .ok (.invokevirtual 67, 3) := by decide +kernel
theorem d_La_law_382 : decode code 382 = .ok (.pop2, 1) := by decide +kernel
theorem d_La_law_383 : decode code 383 = .ok (.goto 86, 3) := by decide +kernel
theorem d_La_law_386 : decode code 386 = .ok (.aload_n 1, 1) := by decide +kernel
theorem d_La_law_387 : decode code 387 = .ok (.aload_n 0, 1) := by decide +kernel
theorem d_La_law_388 : decode code 388 = .ok (.iload_n 3, 1) := by decide +kernel
theorem d_La_law_389 : decode code 389 = .ok (.iconst 1, 1) := by decide +kernel
theorem d_La_law_390 : decode code 390 = .ok (.iadd, 1) := by decide +kernel
theorem d_La_law_391 : decode code 391 = .ok (.iaload, 1) := by decide +kernel
theorem d_La_law_392 : decode code 392 = .ok (.aload_n 0, 1) := by decide +kernel
theorem d_La_law_393 : decode code 393 = .ok (.iload_n 3, 1) := by decide +kernel
theorem d_La_law_394 : decode code 394 = .ok (.iconst 2, 1) := by decide +kernel
theorem d_La_law_395 : decode code 395 = .ok (.iadd, 1) := by decide +kernel
theorem d_La_law_396 : decode code 396 = .ok (.iaload, 1) := by decide +kernel
theorem d_La_law_397 : decode code 397 = .ok (.aload_n 0, 1) := by decide +kernel
theorem d_La_law_398 : decode code 398 = .ok (.iload_n 3, 1) := by decide +kernel
theorem d_La_law_399 : decode code 399 = .ok (.iconst 3, 1) := by decide +kernel
theorem d_La_law_400 : decode code 400 = .ok (.iadd, 1) := by decide +kernel
theorem d_La_law_401 : decode code 401 = .ok (.iaload, 1) := by decide +kernel
theorem d_La_law_402 : decode code 402 = .ok (.aload_n 0, 1) := by decide +kernel
theorem d_La_law_403 : decode code 403 = .ok (.iload_n 3, 1) := by decide +kernel
theorem d_La_law_404 : decode code 404 = .ok (.iconst 4, 1) := by decide +kernel
theorem d_La_law_405 : decode code 405 = .ok (.iadd, 1) := by decide +kernel
theorem d_La_law_406 : decode code 406 = .ok (.iaload, 1) := by decide +kernel
theorem d_La_law_407 : decode code 407 = .ok (.i2l, 1) := by decide +kernel
theorem d_La_law_408 : decode code 408 = .ok (.bipush 32, 2) := by decide +kernel
theorem d_La_law_410 : decode code 410 = .ok (.lshl, 1) := by decide +kernel
theorem d_La_law_411 : decode code 411 = .ok (.aload_n 0, 1) := by decide +kernel
theorem d_La_law_412 : decode code 412 = .ok (.iload_n 3, 1) := by decide +kernel
theorem d_La_law_413 : decode code 413 = .ok (.iconst 5, 1) := by decide +kernel
theorem d_La_law_414 : decode code 414 = .ok (.iadd, 1) := by decide +kernel
theorem d_La_law_415 : decode code 415 = .ok (.iaload, 1) := by decide +kernel
theorem d_La_law_416 : decode code 416 = .ok (.i2l, 1) := by decide +kernel
theorem d_La_law_417 : decode code 417 = .ok (.ldc2_w 68, 3) := by decide +kernel
theorem d_La_law_420 : decode code 420 = .ok (.land, 1) := by decide +kernel
theorem d_La_law_421 : decode code 421 = .ok (.lor, 1) := by decide +kernel
theorem d_La_law_422 : decode code 422 = .ok (.invokevirtual 70, 3) := by decide +kernel
theorem d_La_law_425 : decode code 425 = .ok (.pop, 1) := by decide +kernel
theorem d_La_law_426 : decode code 426 = .ok (.aload_n 2, 1) := by decide +kernel
theorem d_La_law_427 : decode code 427 = .ok (.aload_n 0, 1) := by decide +kernel
theorem d_La_law_428 : decode code 428 = .ok (.iload_n 3, 1) := by decide +kernel
theorem d_La_law_429 : decode code 429 = .ok (.iconst 1, 1) := by decide +kernel
theorem d_La_law_430 : decode code 430 = .ok (.iadd, 1) := by decide +kernel
theorem d_La_law_431 : decode code 431 = .ok (.iaload, 1) := by decide +kernel
theorem d_La_law_432 : decode code 432 = .ok (.aload_n 0, 1) := by decide +kernel
theorem d_La_law_433 : decode code 433 = .ok (.iload_n 3, 1) := by decide +kernel
theorem d_La_law_434 : decode code 434 = .ok (.iconst 2, 1) := by decide +kernel
theorem d_La_law_435 : decode code 435 = .ok (.iadd, 1) := by decide +kernel
theorem d_La_law_436 : decode code 436 = .ok (.iaload, 1) := by decide +kernel
theorem d_La_law_437 : decode code 437 = .ok (.aload_n 0, 1) := by decide +kernel
theorem d_La_law_438 : decode code 438 = .ok (.iload_n 3, 1) := by decide +kernel
theorem d_La_law_439 : decode code 439 = .ok (.iconst 3, 1) := by decide +kernel
theorem d_La_law_440 : decode code 440 = .ok (.iadd, 1) := by decide +kernel
theorem d_La_law_441 : decode code 441 = .ok (.iaload, 1) := by decide +kernel
theorem d_La_law_442 : decode code 442 = .ok (.aload_n 0, 1) := by decide +kernel
theorem d_La_law_443 : decode code 443 = .ok (.iload_n 3, 1) := by decide +kernel
theorem d_La_law_444 : decode code 444 = .ok (.iconst 4, 1) := by decide +kernel
theorem d_La_law_445 : decode code 445 = .ok (.iadd, 1) := by decide +kernel
theorem d_La_law_446 : decode code 446 = .ok (.iaload, 1) := by decide +kernel
theorem d_La_law_447 : decode code 447 = .ok (.i2l, 1) := by decide +kernel
theorem d_La_law_448 : decode code 448 = .ok (.bipush 32, 2) := by decide +kernel
theorem d_La_law_450 : decode code 450 = .ok (.lshl, 1) := by decide +kernel
theorem d_La_law_451 : decode code 451 = .ok (.aload_n 0, 1) := by decide +kernel
theorem d_La_law_452 : decode code 452 = .ok (.iload_n 3, 1) := by decide +kernel
theorem d_La_law_453 : decode code 453 = .ok (.iconst 5, 1) := by decide +kernel
theorem d_La_law_454 : decode code 454 = .ok (.iadd, 1) := by decide +kernel
theorem d_La_law_455 : decode code 455 = .ok (.iaload, 1) := by decide +kernel
theorem d_La_law_456 : decode code 456 = .ok (.i2l, 1) := by decide +kernel
theorem d_La_law_457 : decode code 457 = .ok (.ldc2_w 68, 3) := by decide +kernel
theorem d_La_law_460 : decode code 460 = .ok (.land, 1) := by decide +kernel
theorem d_La_law_461 : decode code 461 = .ok (.lor, 1) := by decide +kernel
theorem d_La_law_462 : decode code 462 = .ok (.invokevirtual 74, 3) := by decide +kernel
theorem d_La_law_465 : decode code 465 = .ok (.pop, 1) := by decide +kernel
theorem d_La_law_466 : decode code 466 = .ok (.goto 3, 3) := by decide +kernel
theorem d_La_law_469 : decode code 469 = .ok (.iinc 3 6, 3) := by decide +kernel
theorem d_La_law_472 : decode code 472 = .ok (.goto (-454), 3) := by decide +kernel
theorem d_La_law_475 : decode code 475 = .ok (.iconst 1, 1) := by decide +kernel
theorem d_La_law_476 : decode code 476 = .ok (.ireturn, 1) := by decide +kernel
