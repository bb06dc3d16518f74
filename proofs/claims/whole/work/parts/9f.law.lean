/-! THE CLAIM OUT OF ONE WALK OF THE LAW'S BODY. Your part is whole_start (and what it stands on); all else here is the same for every law, but numbers. -/
def R_law : String := "SettledInstantsLaw"
def lw_P (b : Addr) (xs : List Int32) (args : Array Value) (s : State) : Prop := args = #[.ref b] ∧ s.IntsAt b xs ∧ xs.length ≤ 2560 ∧ (Jvm.Cond.and given_1 narrow_1).before args s = true
def lw_Q (_ : Array Value) (s : State) (o : Outcome) (t : State) : Prop := o = .returned (some (.int 1)) ∧ Framed s o t [] 600000 7302250
def lw_Z (below : List Frame) (a : Array Value) (s : State) : State → Prop := fun t => ∃ o, t.status = .running ∧ Ended t below o ∧ lw_Q a s o t
/-- the law's own end, with 1 on the stack, nothing written that was there before, its room as the claim has it -/
theorem lw_ret {p : Program} {l : Launch} {e : Env} {s : State} {m : MethodId} {below : List Frame} {meth : Method} {c : Code} {b : Nat} (hx : p.tables.exec = Jvm.exec) (hb : c.code = code) (hr : meth.sig.returnType = ret) (hlocks : meth.locks = false) {pc : Nat} {H : Heap} {ls : Array Slot} (hdg : decode code pc = .ok (.ireturn, 1)) : W p l e room_1 s m #[Value.ref b] below meth c H [] 600000 7302250 (lw_Z below #[Value.ref b] s) (F0 m pc ls [.int 1]) := by
  intro T hT X
  obtain ⟨fs, hret, hrun, hended, hW, hframe⟩ := X.leave (v := some (.int 1)) (hlocks := hlocks) (fun h => by rw [hr] at h; cases h)
  have hmeth' : T.vm.method? m = some meth := X.method'
  refine ⟨T.setFrames fs, ?_, .returned (some (.int 1)), hrun, hended, rfl, ⟨_, rfl⟩, hW, hframe⟩
  jvm_step X.here [X.here.top, hx, hb, hdg, hmeth', hr, ret, narrow_b1]
  (try refine ⟨rfl, ?_⟩); (try refine ⟨rfl, ?_⟩)
  first | (intro acts; rw [hret _ acts rfl rfl rfl]) | rw [hret _ _ rfl rfl rfl]
  exact Steps.refl _
/-- what holds at the law's entry: the machine, the code, the tables' words (any of lw_tbl by 'hts w (by decide +kernel)'), the script of L ints xs at the cell b, what the Statement gives of the start (any of its parts by flat_of_before) -/
def lw_At (p : Program) (s : State) (m : MethodId) (meth : Method) (c : Code) (b L : Nat) (xs : Nat → Int32) : Prop :=
  p.tables.exec = Jvm.exec ∧ c.code = code ∧ meth.sig.returnType = ret ∧ c.maxLocals = 4 ∧ s.vm.findClass R_law = some m.cls ∧ (∀ w ∈ lw_tbl, w.before #[Value.ref b] s = true) ∧ va_X b L xs s s.heap ∧ b < s.heap.size ∧ meth.locks = false ∧ (Jvm.Cond.and given_1 narrow_1).before #[Value.ref b] s = true
theorem dL_0 : decode code 0 = .ok (.new 7, 3) := by decide +kernel
theorem dL_3 : decode code 3 = .ok (.dup, 1) := by decide +kernel
theorem dL_4 : decode code 4 = .ok (.invokespecial 9, 3) := by decide +kernel
theorem dL_7 : decode code 7 = .ok (.astore_n 1, 1) := by decide +kernel
theorem dL_8 : decode code 8 = .ok (.new 10, 3) := by decide +kernel
theorem dL_11 : decode code 11 = .ok (.dup, 1) := by decide +kernel
theorem dL_12 : decode code 12 = .ok (.invokespecial 12, 3) := by decide +kernel
theorem dL_15 : decode code 15 = .ok (.astore_n 2, 1) := by decide +kernel
theorem dL_16 : decode code 16 = .ok (.iconst 0, 1) := by decide +kernel
theorem dL_17 : decode code 17 = .ok (.istore_n 3, 1) := by decide +kernel
theorem dL_18 : decode code 18 = .ok (.iload_n 3, 1) := by decide +kernel
theorem dL_19 : decode code 19 = .ok (.aload_n 0, 1) := by decide +kernel
theorem dL_20 : decode code 20 = .ok (.arraylength, 1) := by decide +kernel
theorem dL_21 : decode code 21 = .ok (.iconst 5, 1) := by decide +kernel
theorem dL_22 : decode code 22 = .ok (.isub, 1) := by decide +kernel
theorem dL_23 : decode code 23 = .ok (.if_icmp .gt 630, 3) := by decide +kernel
theorem dL_26 : decode code 26 = .ok (.aload_n 0, 1) := by decide +kernel
theorem dL_27 : decode code 27 = .ok (.iload_n 3, 1) := by decide +kernel
theorem dL_28 : decode code 28 = .ok (.iaload, 1) := by decide +kernel
theorem dL_29 : decode code 29 = .ok (.bipush 31, 2) := by decide +kernel
theorem dL_31 : decode code 31 = .ok (.iand, 1) := by decide +kernel
theorem dL_32 : decode code 32 = .ok (.tableswitch 615 0 16 #[84, 107, 120, 143, 156, 189, 212, 235, 258, 301, 354, 397, 430, 473, 516, 539, 582], 84) := by decide +kernel
theorem dL_116 : decode code 116 = .ok (.aload_n 1, 1) := by decide +kernel
theorem dL_117 : decode code 117 = .ok (.aload_n 0, 1) := by decide +kernel
theorem dL_118 : decode code 118 = .ok (.iload_n 3, 1) := by decide +kernel
theorem dL_119 : decode code 119 = .ok (.iconst 1, 1) := by decide +kernel
theorem dL_120 : decode code 120 = .ok (.iadd, 1) := by decide +kernel
theorem dL_121 : decode code 121 = .ok (.iaload, 1) := by decide +kernel
theorem dL_122 : decode code 122 = .ok (.invokevirtual 13, 3) := by decide +kernel
theorem dL_125 : decode code 125 = .ok (.aload_n 2, 1) := by decide +kernel
theorem dL_126 : decode code 126 = .ok (.aload_n 0, 1) := by decide +kernel
theorem dL_127 : decode code 127 = .ok (.iload_n 3, 1) := by decide +kernel
theorem dL_128 : decode code 128 = .ok (.iconst 1, 1) := by decide +kernel
theorem dL_129 : decode code 129 = .ok (.iadd, 1) := by decide +kernel
theorem dL_130 : decode code 130 = .ok (.iaload, 1) := by decide +kernel
theorem dL_131 : decode code 131 = .ok (.invokevirtual 17, 3) := by decide +kernel
theorem dL_134 : decode code 134 = .ok (.if_icmp .eq 513, 3) := by decide +kernel
theorem dL_137 : decode code 137 = .ok (.iconst 0, 1) := by decide +kernel
theorem dL_138 : decode code 138 = .ok (.ireturn, 1) := by decide +kernel
theorem dL_139 : decode code 139 = .ok (.aload_n 1, 1) := by decide +kernel
theorem dL_140 : decode code 140 = .ok (.invokevirtual 18, 3) := by decide +kernel
theorem dL_143 : decode code 143 = .ok (.aload_n 2, 1) := by decide +kernel
theorem dL_144 : decode code 144 = .ok (.invokevirtual 22, 3) := by decide +kernel
theorem dL_147 : decode code 147 = .ok (.if_icmp .eq 500, 3) := by decide +kernel
theorem dL_150 : decode code 150 = .ok (.iconst 0, 1) := by decide +kernel
theorem dL_151 : decode code 151 = .ok (.ireturn, 1) := by decide +kernel
theorem dL_152 : decode code 152 = .ok (.aload_n 1, 1) := by decide +kernel
theorem dL_153 : decode code 153 = .ok (.aload_n 0, 1) := by decide +kernel
theorem dL_154 : decode code 154 = .ok (.iload_n 3, 1) := by decide +kernel
theorem dL_155 : decode code 155 = .ok (.iconst 1, 1) := by decide +kernel
theorem dL_156 : decode code 156 = .ok (.iadd, 1) := by decide +kernel
theorem dL_157 : decode code 157 = .ok (.iaload, 1) := by decide +kernel
theorem dL_158 : decode code 158 = .ok (.invokevirtual 23, 3) := by decide +kernel
theorem dL_161 : decode code 161 = .ok (.aload_n 2, 1) := by decide +kernel
theorem dL_162 : decode code 162 = .ok (.aload_n 0, 1) := by decide +kernel
theorem dL_163 : decode code 163 = .ok (.iload_n 3, 1) := by decide +kernel
theorem dL_164 : decode code 164 = .ok (.iconst 1, 1) := by decide +kernel
theorem dL_165 : decode code 165 = .ok (.iadd, 1) := by decide +kernel
theorem dL_166 : decode code 166 = .ok (.iaload, 1) := by decide +kernel
theorem dL_167 : decode code 167 = .ok (.invokevirtual 26, 3) := by decide +kernel
theorem dL_170 : decode code 170 = .ok (.if_icmp .eq 477, 3) := by decide +kernel
theorem dL_173 : decode code 173 = .ok (.iconst 0, 1) := by decide +kernel
theorem dL_174 : decode code 174 = .ok (.ireturn, 1) := by decide +kernel
theorem dL_175 : decode code 175 = .ok (.aload_n 1, 1) := by decide +kernel
theorem dL_176 : decode code 176 = .ok (.invokevirtual 27, 3) := by decide +kernel
theorem dL_179 : decode code 179 = .ok (.aload_n 2, 1) := by decide +kernel
theorem dL_180 : decode code 180 = .ok (.invokevirtual 30, 3) := by decide +kernel
theorem dL_183 : decode code 183 = .ok (.if_icmp .eq 464, 3) := by decide +kernel
theorem dL_186 : decode code 186 = .ok (.iconst 0, 1) := by decide +kernel
theorem dL_187 : decode code 187 = .ok (.ireturn, 1) := by decide +kernel
theorem dL_188 : decode code 188 = .ok (.aload_n 1, 1) := by decide +kernel
theorem dL_189 : decode code 189 = .ok (.aload_n 0, 1) := by decide +kernel
theorem dL_190 : decode code 190 = .ok (.iload_n 3, 1) := by decide +kernel
theorem dL_191 : decode code 191 = .ok (.iconst 1, 1) := by decide +kernel
theorem dL_192 : decode code 192 = .ok (.iadd, 1) := by decide +kernel
theorem dL_193 : decode code 193 = .ok (.iaload, 1) := by decide +kernel
theorem dL_194 : decode code 194 = .ok (.aload_n 0, 1) := by decide +kernel
theorem dL_195 : decode code 195 = .ok (.iload_n 3, 1) := by decide +kernel
theorem dL_196 : decode code 196 = .ok (.iconst 2, 1) := by decide +kernel
theorem dL_197 : decode code 197 = .ok (.iadd, 1) := by decide +kernel
theorem dL_198 : decode code 198 = .ok (.iaload, 1) := by decide +kernel
theorem dL_199 : decode code 199 = .ok (.invokevirtual 31, 3) := by decide +kernel
theorem dL_202 : decode code 202 = .ok (.aload_n 2, 1) := by decide +kernel
theorem dL_203 : decode code 203 = .ok (.aload_n 0, 1) := by decide +kernel
theorem dL_204 : decode code 204 = .ok (.iload_n 3, 1) := by decide +kernel
theorem dL_205 : decode code 205 = .ok (.iconst 1, 1) := by decide +kernel
theorem dL_206 : decode code 206 = .ok (.iadd, 1) := by decide +kernel
theorem dL_207 : decode code 207 = .ok (.iaload, 1) := by decide +kernel
theorem dL_208 : decode code 208 = .ok (.aload_n 0, 1) := by decide +kernel
theorem dL_209 : decode code 209 = .ok (.iload_n 3, 1) := by decide +kernel
theorem dL_210 : decode code 210 = .ok (.iconst 2, 1) := by decide +kernel
theorem dL_211 : decode code 211 = .ok (.iadd, 1) := by decide +kernel
theorem dL_212 : decode code 212 = .ok (.iaload, 1) := by decide +kernel
theorem dL_213 : decode code 213 = .ok (.invokevirtual 35, 3) := by decide +kernel
theorem dL_216 : decode code 216 = .ok (.if_icmp .eq 431, 3) := by decide +kernel
theorem dL_219 : decode code 219 = .ok (.iconst 0, 1) := by decide +kernel
theorem dL_220 : decode code 220 = .ok (.ireturn, 1) := by decide +kernel
theorem dL_221 : decode code 221 = .ok (.aload_n 1, 1) := by decide +kernel
theorem dL_222 : decode code 222 = .ok (.aload_n 0, 1) := by decide +kernel
theorem dL_223 : decode code 223 = .ok (.iload_n 3, 1) := by decide +kernel
theorem dL_224 : decode code 224 = .ok (.iconst 1, 1) := by decide +kernel
theorem dL_225 : decode code 225 = .ok (.iadd, 1) := by decide +kernel
theorem dL_226 : decode code 226 = .ok (.iaload, 1) := by decide +kernel
theorem dL_227 : decode code 227 = .ok (.invokevirtual 36, 3) := by decide +kernel
theorem dL_230 : decode code 230 = .ok (.aload_n 2, 1) := by decide +kernel
theorem dL_231 : decode code 231 = .ok (.aload_n 0, 1) := by decide +kernel
theorem dL_232 : decode code 232 = .ok (.iload_n 3, 1) := by decide +kernel
theorem dL_233 : decode code 233 = .ok (.iconst 1, 1) := by decide +kernel
theorem dL_234 : decode code 234 = .ok (.iadd, 1) := by decide +kernel
theorem dL_235 : decode code 235 = .ok (.iaload, 1) := by decide +kernel
theorem dL_236 : decode code 236 = .ok (.invokevirtual 39, 3) := by decide +kernel
theorem dL_239 : decode code 239 = .ok (.if_icmp .eq 408, 3) := by decide +kernel
theorem dL_242 : decode code 242 = .ok (.iconst 0, 1) := by decide +kernel
theorem dL_243 : decode code 243 = .ok (.ireturn, 1) := by decide +kernel
theorem dL_244 : decode code 244 = .ok (.aload_n 1, 1) := by decide +kernel
theorem dL_245 : decode code 245 = .ok (.aload_n 0, 1) := by decide +kernel
theorem dL_246 : decode code 246 = .ok (.iload_n 3, 1) := by decide +kernel
theorem dL_247 : decode code 247 = .ok (.iconst 1, 1) := by decide +kernel
theorem dL_248 : decode code 248 = .ok (.iadd, 1) := by decide +kernel
theorem dL_249 : decode code 249 = .ok (.iaload, 1) := by decide +kernel
theorem dL_250 : decode code 250 = .ok (.invokevirtual 40, 3) := by decide +kernel
theorem dL_253 : decode code 253 = .ok (.aload_n 2, 1) := by decide +kernel
theorem dL_254 : decode code 254 = .ok (.aload_n 0, 1) := by decide +kernel
theorem dL_255 : decode code 255 = .ok (.iload_n 3, 1) := by decide +kernel
theorem dL_256 : decode code 256 = .ok (.iconst 1, 1) := by decide +kernel
theorem dL_257 : decode code 257 = .ok (.iadd, 1) := by decide +kernel
theorem dL_258 : decode code 258 = .ok (.iaload, 1) := by decide +kernel
theorem dL_259 : decode code 259 = .ok (.invokevirtual 43, 3) := by decide +kernel
theorem dL_262 : decode code 262 = .ok (.if_icmp .eq 385, 3) := by decide +kernel
theorem dL_265 : decode code 265 = .ok (.iconst 0, 1) := by decide +kernel
theorem dL_266 : decode code 266 = .ok (.ireturn, 1) := by decide +kernel
theorem dL_267 : decode code 267 = .ok (.aload_n 1, 1) := by decide +kernel
theorem dL_268 : decode code 268 = .ok (.aload_n 0, 1) := by decide +kernel
theorem dL_269 : decode code 269 = .ok (.iload_n 3, 1) := by decide +kernel
theorem dL_270 : decode code 270 = .ok (.iconst 1, 1) := by decide +kernel
theorem dL_271 : decode code 271 = .ok (.iadd, 1) := by decide +kernel
theorem dL_272 : decode code 272 = .ok (.iaload, 1) := by decide +kernel
theorem dL_273 : decode code 273 = .ok (.invokevirtual 44, 3) := by decide +kernel
theorem dL_276 : decode code 276 = .ok (.aload_n 2, 1) := by decide +kernel
theorem dL_277 : decode code 277 = .ok (.aload_n 0, 1) := by decide +kernel
theorem dL_278 : decode code 278 = .ok (.iload_n 3, 1) := by decide +kernel
theorem dL_279 : decode code 279 = .ok (.iconst 1, 1) := by decide +kernel
theorem dL_280 : decode code 280 = .ok (.iadd, 1) := by decide +kernel
theorem dL_281 : decode code 281 = .ok (.iaload, 1) := by decide +kernel
theorem dL_282 : decode code 282 = .ok (.invokevirtual 47, 3) := by decide +kernel
theorem dL_285 : decode code 285 = .ok (.if_icmp .eq 362, 3) := by decide +kernel
theorem dL_288 : decode code 288 = .ok (.iconst 0, 1) := by decide +kernel
theorem dL_289 : decode code 289 = .ok (.ireturn, 1) := by decide +kernel
theorem dL_290 : decode code 290 = .ok (.aload_n 1, 1) := by decide +kernel
theorem dL_291 : decode code 291 = .ok (.aload_n 0, 1) := by decide +kernel
theorem dL_292 : decode code 292 = .ok (.iload_n 3, 1) := by decide +kernel
theorem dL_293 : decode code 293 = .ok (.iconst 1, 1) := by decide +kernel
theorem dL_294 : decode code 294 = .ok (.iadd, 1) := by decide +kernel
theorem dL_295 : decode code 295 = .ok (.iaload, 1) := by decide +kernel
theorem dL_296 : decode code 296 = .ok (.aload_n 0, 1) := by decide +kernel
theorem dL_297 : decode code 297 = .ok (.iload_n 3, 1) := by decide +kernel
theorem dL_298 : decode code 298 = .ok (.iconst 2, 1) := by decide +kernel
theorem dL_299 : decode code 299 = .ok (.iadd, 1) := by decide +kernel
theorem dL_300 : decode code 300 = .ok (.iaload, 1) := by decide +kernel
theorem dL_301 : decode code 301 = .ok (.aload_n 0, 1) := by decide +kernel
theorem dL_302 : decode code 302 = .ok (.iload_n 3, 1) := by decide +kernel
theorem dL_303 : decode code 303 = .ok (.iconst 3, 1) := by decide +kernel
theorem dL_304 : decode code 304 = .ok (.iadd, 1) := by decide +kernel
theorem dL_305 : decode code 305 = .ok (.iaload, 1) := by decide +kernel
theorem dL_306 : decode code 306 = .ok (.invokevirtual 48, 3) := by decide +kernel
theorem dL_309 : decode code 309 = .ok (.aload_n 2, 1) := by decide +kernel
theorem dL_310 : decode code 310 = .ok (.aload_n 0, 1) := by decide +kernel
theorem dL_311 : decode code 311 = .ok (.iload_n 3, 1) := by decide +kernel
theorem dL_312 : decode code 312 = .ok (.iconst 1, 1) := by decide +kernel
theorem dL_313 : decode code 313 = .ok (.iadd, 1) := by decide +kernel
theorem dL_314 : decode code 314 = .ok (.iaload, 1) := by decide +kernel
theorem dL_315 : decode code 315 = .ok (.aload_n 0, 1) := by decide +kernel
theorem dL_316 : decode code 316 = .ok (.iload_n 3, 1) := by decide +kernel
theorem dL_317 : decode code 317 = .ok (.iconst 2, 1) := by decide +kernel
theorem dL_318 : decode code 318 = .ok (.iadd, 1) := by decide +kernel
theorem dL_319 : decode code 319 = .ok (.iaload, 1) := by decide +kernel
theorem dL_320 : decode code 320 = .ok (.aload_n 0, 1) := by decide +kernel
theorem dL_321 : decode code 321 = .ok (.iload_n 3, 1) := by decide +kernel
theorem dL_322 : decode code 322 = .ok (.iconst 3, 1) := by decide +kernel
theorem dL_323 : decode code 323 = .ok (.iadd, 1) := by decide +kernel
theorem dL_324 : decode code 324 = .ok (.iaload, 1) := by decide +kernel
theorem dL_325 : decode code 325 = .ok (.invokevirtual 52, 3) := by decide +kernel
theorem dL_328 : decode code 328 = .ok (.if_icmp .eq 319, 3) := by decide +kernel
theorem dL_331 : decode code 331 = .ok (.iconst 0, 1) := by decide +kernel
theorem dL_332 : decode code 332 = .ok (.ireturn, 1) := by decide +kernel
theorem dL_333 : decode code 333 = .ok (.aload_n 1, 1) := by decide +kernel
theorem dL_334 : decode code 334 = .ok (.aload_n 0, 1) := by decide +kernel
theorem dL_335 : decode code 335 = .ok (.iload_n 3, 1) := by decide +kernel
theorem dL_336 : decode code 336 = .ok (.iconst 1, 1) := by decide +kernel
theorem dL_337 : decode code 337 = .ok (.iadd, 1) := by decide +kernel
theorem dL_338 : decode code 338 = .ok (.iaload, 1) := by decide +kernel
theorem dL_339 : decode code 339 = .ok (.aload_n 0, 1) := by decide +kernel
theorem dL_340 : decode code 340 = .ok (.iload_n 3, 1) := by decide +kernel
theorem dL_341 : decode code 341 = .ok (.iconst 2, 1) := by decide +kernel
theorem dL_342 : decode code 342 = .ok (.iadd, 1) := by decide +kernel
theorem dL_343 : decode code 343 = .ok (.iaload, 1) := by decide +kernel
theorem dL_344 : decode code 344 = .ok (.aload_n 0, 1) := by decide +kernel
theorem dL_345 : decode code 345 = .ok (.iload_n 3, 1) := by decide +kernel
theorem dL_346 : decode code 346 = .ok (.iconst 3, 1) := by decide +kernel
theorem dL_347 : decode code 347 = .ok (.iadd, 1) := by decide +kernel
theorem dL_348 : decode code 348 = .ok (.iaload, 1) := by decide +kernel
theorem dL_349 : decode code 349 = .ok (.aload_n 0, 1) := by decide +kernel
theorem dL_350 : decode code 350 = .ok (.iload_n 3, 1) := by decide +kernel
theorem dL_351 : decode code 351 = .ok (.iconst 4, 1) := by decide +kernel
theorem dL_352 : decode code 352 = .ok (.iadd, 1) := by decide +kernel
theorem dL_353 : decode code 353 = .ok (.iaload, 1) := by decide +kernel
theorem dL_354 : decode code 354 = .ok (.invokevirtual 53, 3) := by decide +kernel
theorem dL_357 : decode code 357 = .ok (.aload_n 2, 1) := by decide +kernel
theorem dL_358 : decode code 358 = .ok (.aload_n 0, 1) := by decide +kernel
theorem dL_359 : decode code 359 = .ok (.iload_n 3, 1) := by decide +kernel
theorem dL_360 : decode code 360 = .ok (.iconst 1, 1) := by decide +kernel
theorem dL_361 : decode code 361 = .ok (.iadd, 1) := by decide +kernel
theorem dL_362 : decode code 362 = .ok (.iaload, 1) := by decide +kernel
theorem dL_363 : decode code 363 = .ok (.aload_n 0, 1) := by decide +kernel
theorem dL_364 : decode code 364 = .ok (.iload_n 3, 1) := by decide +kernel
theorem dL_365 : decode code 365 = .ok (.iconst 2, 1) := by decide +kernel
theorem dL_366 : decode code 366 = .ok (.iadd, 1) := by decide +kernel
theorem dL_367 : decode code 367 = .ok (.iaload, 1) := by decide +kernel
theorem dL_368 : decode code 368 = .ok (.aload_n 0, 1) := by decide +kernel
theorem dL_369 : decode code 369 = .ok (.iload_n 3, 1) := by decide +kernel
theorem dL_370 : decode code 370 = .ok (.iconst 3, 1) := by decide +kernel
theorem dL_371 : decode code 371 = .ok (.iadd, 1) := by decide +kernel
theorem dL_372 : decode code 372 = .ok (.iaload, 1) := by decide +kernel
theorem dL_373 : decode code 373 = .ok (.aload_n 0, 1) := by decide +kernel
theorem dL_374 : decode code 374 = .ok (.iload_n 3, 1) := by decide +kernel
theorem dL_375 : decode code 375 = .ok (.iconst 4, 1) := by decide +kernel
theorem dL_376 : decode code 376 = .ok (.iadd, 1) := by decide +kernel
theorem dL_377 : decode code 377 = .ok (.iaload, 1) := by decide +kernel
theorem dL_378 : decode code 378 = .ok (.invokevirtual 57, 3) := by decide +kernel
theorem dL_381 : decode code 381 = .ok (.if_icmp .eq 266, 3) := by decide +kernel
theorem dL_384 : decode code 384 = .ok (.iconst 0, 1) := by decide +kernel
theorem dL_385 : decode code 385 = .ok (.ireturn, 1) := by decide +kernel
theorem dL_386 : decode code 386 = .ok (.aload_n 1, 1) := by decide +kernel
theorem dL_387 : decode code 387 = .ok (.aload_n 0, 1) := by decide +kernel
theorem dL_388 : decode code 388 = .ok (.iload_n 3, 1) := by decide +kernel
theorem dL_389 : decode code 389 = .ok (.iconst 1, 1) := by decide +kernel
theorem dL_390 : decode code 390 = .ok (.iadd, 1) := by decide +kernel
theorem dL_391 : decode code 391 = .ok (.iaload, 1) := by decide +kernel
theorem dL_392 : decode code 392 = .ok (.aload_n 0, 1) := by decide +kernel
theorem dL_393 : decode code 393 = .ok (.iload_n 3, 1) := by decide +kernel
theorem dL_394 : decode code 394 = .ok (.iconst 2, 1) := by decide +kernel
theorem dL_395 : decode code 395 = .ok (.iadd, 1) := by decide +kernel
theorem dL_396 : decode code 396 = .ok (.iaload, 1) := by decide +kernel
theorem dL_397 : decode code 397 = .ok (.aload_n 0, 1) := by decide +kernel
theorem dL_398 : decode code 398 = .ok (.iload_n 3, 1) := by decide +kernel
theorem dL_399 : decode code 399 = .ok (.iconst 3, 1) := by decide +kernel
theorem dL_400 : decode code 400 = .ok (.iadd, 1) := by decide +kernel
theorem dL_401 : decode code 401 = .ok (.iaload, 1) := by decide +kernel
theorem dL_402 : decode code 402 = .ok (.invokevirtual 58, 3) := by decide +kernel
theorem dL_405 : decode code 405 = .ok (.aload_n 2, 1) := by decide +kernel
theorem dL_406 : decode code 406 = .ok (.aload_n 0, 1) := by decide +kernel
theorem dL_407 : decode code 407 = .ok (.iload_n 3, 1) := by decide +kernel
theorem dL_408 : decode code 408 = .ok (.iconst 1, 1) := by decide +kernel
theorem dL_409 : decode code 409 = .ok (.iadd, 1) := by decide +kernel
theorem dL_410 : decode code 410 = .ok (.iaload, 1) := by decide +kernel
theorem dL_411 : decode code 411 = .ok (.aload_n 0, 1) := by decide +kernel
theorem dL_412 : decode code 412 = .ok (.iload_n 3, 1) := by decide +kernel
theorem dL_413 : decode code 413 = .ok (.iconst 2, 1) := by decide +kernel
theorem dL_414 : decode code 414 = .ok (.iadd, 1) := by decide +kernel
theorem dL_415 : decode code 415 = .ok (.iaload, 1) := by decide +kernel
theorem dL_416 : decode code 416 = .ok (.aload_n 0, 1) := by decide +kernel
theorem dL_417 : decode code 417 = .ok (.iload_n 3, 1) := by decide +kernel
theorem dL_418 : decode code 418 = .ok (.iconst 3, 1) := by decide +kernel
theorem dL_419 : decode code 419 = .ok (.iadd, 1) := by decide +kernel
theorem dL_420 : decode code 420 = .ok (.iaload, 1) := by decide +kernel
theorem dL_421 : decode code 421 = .ok (.invokevirtual 61, 3) := by decide +kernel
theorem dL_424 : decode code 424 = .ok (.if_icmp .eq 223, 3) := by decide +kernel
theorem dL_427 : decode code 427 = .ok (.iconst 0, 1) := by decide +kernel
theorem dL_428 : decode code 428 = .ok (.ireturn, 1) := by decide +kernel
theorem dL_429 : decode code 429 = .ok (.aload_n 1, 1) := by decide +kernel
theorem dL_430 : decode code 430 = .ok (.aload_n 0, 1) := by decide +kernel
theorem dL_431 : decode code 431 = .ok (.iload_n 3, 1) := by decide +kernel
theorem dL_432 : decode code 432 = .ok (.iconst 1, 1) := by decide +kernel
theorem dL_433 : decode code 433 = .ok (.iadd, 1) := by decide +kernel
theorem dL_434 : decode code 434 = .ok (.iaload, 1) := by decide +kernel
theorem dL_435 : decode code 435 = .ok (.aload_n 0, 1) := by decide +kernel
theorem dL_436 : decode code 436 = .ok (.iload_n 3, 1) := by decide +kernel
theorem dL_437 : decode code 437 = .ok (.iconst 2, 1) := by decide +kernel
theorem dL_438 : decode code 438 = .ok (.iadd, 1) := by decide +kernel
theorem dL_439 : decode code 439 = .ok (.iaload, 1) := by decide +kernel
theorem dL_440 : decode code 440 = .ok (.invokevirtual 62, 3) := by decide +kernel
theorem dL_443 : decode code 443 = .ok (.aload_n 2, 1) := by decide +kernel
theorem dL_444 : decode code 444 = .ok (.aload_n 0, 1) := by decide +kernel
theorem dL_445 : decode code 445 = .ok (.iload_n 3, 1) := by decide +kernel
theorem dL_446 : decode code 446 = .ok (.iconst 1, 1) := by decide +kernel
theorem dL_447 : decode code 447 = .ok (.iadd, 1) := by decide +kernel
theorem dL_448 : decode code 448 = .ok (.iaload, 1) := by decide +kernel
theorem dL_449 : decode code 449 = .ok (.aload_n 0, 1) := by decide +kernel
theorem dL_450 : decode code 450 = .ok (.iload_n 3, 1) := by decide +kernel
theorem dL_451 : decode code 451 = .ok (.iconst 2, 1) := by decide +kernel
theorem dL_452 : decode code 452 = .ok (.iadd, 1) := by decide +kernel
theorem dL_453 : decode code 453 = .ok (.iaload, 1) := by decide +kernel
theorem dL_454 : decode code 454 = .ok (.invokevirtual 65, 3) := by decide +kernel
theorem dL_457 : decode code 457 = .ok (.if_icmp .eq 190, 3) := by decide +kernel
theorem dL_460 : decode code 460 = .ok (.iconst 0, 1) := by decide +kernel
theorem dL_461 : decode code 461 = .ok (.ireturn, 1) := by decide +kernel
theorem dL_462 : decode code 462 = .ok (.aload_n 1, 1) := by decide +kernel
theorem dL_463 : decode code 463 = .ok (.aload_n 0, 1) := by decide +kernel
theorem dL_464 : decode code 464 = .ok (.iload_n 3, 1) := by decide +kernel
theorem dL_465 : decode code 465 = .ok (.iconst 1, 1) := by decide +kernel
theorem dL_466 : decode code 466 = .ok (.iadd, 1) := by decide +kernel
theorem dL_467 : decode code 467 = .ok (.iaload, 1) := by decide +kernel
theorem dL_468 : decode code 468 = .ok (.aload_n 0, 1) := by decide +kernel
theorem dL_469 : decode code 469 = .ok (.iload_n 3, 1) := by decide +kernel
theorem dL_470 : decode code 470 = .ok (.iconst 2, 1) := by decide +kernel
theorem dL_471 : decode code 471 = .ok (.iadd, 1) := by decide +kernel
theorem dL_472 : decode code 472 = .ok (.iaload, 1) := by decide +kernel
theorem dL_473 : decode code 473 = .ok (.aload_n 0, 1) := by decide +kernel
theorem dL_474 : decode code 474 = .ok (.iload_n 3, 1) := by decide +kernel
theorem dL_475 : decode code 475 = .ok (.iconst 3, 1) := by decide +kernel
theorem dL_476 : decode code 476 = .ok (.iadd, 1) := by decide +kernel
theorem dL_477 : decode code 477 = .ok (.iaload, 1) := by decide +kernel
theorem dL_478 : decode code 478 = .ok (.invokevirtual 66, 3) := by decide +kernel
theorem dL_481 : decode code 481 = .ok (.aload_n 2, 1) := by decide +kernel
theorem dL_482 : decode code 482 = .ok (.aload_n 0, 1) := by decide +kernel
theorem dL_483 : decode code 483 = .ok (.iload_n 3, 1) := by decide +kernel
theorem dL_484 : decode code 484 = .ok (.iconst 1, 1) := by decide +kernel
theorem dL_485 : decode code 485 = .ok (.iadd, 1) := by decide +kernel
theorem dL_486 : decode code 486 = .ok (.iaload, 1) := by decide +kernel
theorem dL_487 : decode code 487 = .ok (.aload_n 0, 1) := by decide +kernel
theorem dL_488 : decode code 488 = .ok (.iload_n 3, 1) := by decide +kernel
theorem dL_489 : decode code 489 = .ok (.iconst 2, 1) := by decide +kernel
theorem dL_490 : decode code 490 = .ok (.iadd, 1) := by decide +kernel
theorem dL_491 : decode code 491 = .ok (.iaload, 1) := by decide +kernel
theorem dL_492 : decode code 492 = .ok (.aload_n 0, 1) := by decide +kernel
theorem dL_493 : decode code 493 = .ok (.iload_n 3, 1) := by decide +kernel
theorem dL_494 : decode code 494 = .ok (.iconst 3, 1) := by decide +kernel
theorem dL_495 : decode code 495 = .ok (.iadd, 1) := by decide +kernel
theorem dL_496 : decode code 496 = .ok (.iaload, 1) := by decide +kernel
theorem dL_497 : decode code 497 = .ok (.invokevirtual 69, 3) := by decide +kernel
theorem dL_500 : decode code 500 = .ok (.if_icmp .eq 147, 3) := by decide +kernel
theorem dL_503 : decode code 503 = .ok (.iconst 0, 1) := by decide +kernel
theorem dL_504 : decode code 504 = .ok (.ireturn, 1) := by decide +kernel
theorem dL_505 : decode code 505 = .ok (.aload_n 1, 1) := by decide +kernel
theorem dL_506 : decode code 506 = .ok (.aload_n 0, 1) := by decide +kernel
theorem dL_507 : decode code 507 = .ok (.iload_n 3, 1) := by decide +kernel
theorem dL_508 : decode code 508 = .ok (.iconst 1, 1) := by decide +kernel
theorem dL_509 : decode code 509 = .ok (.iadd, 1) := by decide +kernel
theorem dL_510 : decode code 510 = .ok (.iaload, 1) := by decide +kernel
theorem dL_511 : decode code 511 = .ok (.aload_n 0, 1) := by decide +kernel
theorem dL_512 : decode code 512 = .ok (.iload_n 3, 1) := by decide +kernel
theorem dL_513 : decode code 513 = .ok (.iconst 2, 1) := by decide +kernel
theorem dL_514 : decode code 514 = .ok (.iadd, 1) := by decide +kernel
theorem dL_515 : decode code 515 = .ok (.iaload, 1) := by decide +kernel
theorem dL_516 : decode code 516 = .ok (.aload_n 0, 1) := by decide +kernel
theorem dL_517 : decode code 517 = .ok (.iload_n 3, 1) := by decide +kernel
theorem dL_518 : decode code 518 = .ok (.iconst 3, 1) := by decide +kernel
theorem dL_519 : decode code 519 = .ok (.iadd, 1) := by decide +kernel
theorem dL_520 : decode code 520 = .ok (.iaload, 1) := by decide +kernel
theorem dL_521 : decode code 521 = .ok (.invokevirtual 70, 3) := by decide +kernel
theorem dL_524 : decode code 524 = .ok (.aload_n 2, 1) := by decide +kernel
theorem dL_525 : decode code 525 = .ok (.aload_n 0, 1) := by decide +kernel
theorem dL_526 : decode code 526 = .ok (.iload_n 3, 1) := by decide +kernel
theorem dL_527 : decode code 527 = .ok (.iconst 1, 1) := by decide +kernel
theorem dL_528 : decode code 528 = .ok (.iadd, 1) := by decide +kernel
theorem dL_529 : decode code 529 = .ok (.iaload, 1) := by decide +kernel
theorem dL_530 : decode code 530 = .ok (.aload_n 0, 1) := by decide +kernel
theorem dL_531 : decode code 531 = .ok (.iload_n 3, 1) := by decide +kernel
theorem dL_532 : decode code 532 = .ok (.iconst 2, 1) := by decide +kernel
theorem dL_533 : decode code 533 = .ok (.iadd, 1) := by decide +kernel
theorem dL_534 : decode code 534 = .ok (.iaload, 1) := by decide +kernel
theorem dL_535 : decode code 535 = .ok (.aload_n 0, 1) := by decide +kernel
theorem dL_536 : decode code 536 = .ok (.iload_n 3, 1) := by decide +kernel
theorem dL_537 : decode code 537 = .ok (.iconst 3, 1) := by decide +kernel
theorem dL_538 : decode code 538 = .ok (.iadd, 1) := by decide +kernel
theorem dL_539 : decode code 539 = .ok (.iaload, 1) := by decide +kernel
theorem dL_540 : decode code 540 = .ok (.invokevirtual 73, 3) := by decide +kernel
theorem dL_543 : decode code 543 = .ok (.if_icmp .eq 104, 3) := by decide +kernel
theorem dL_546 : decode code 546 = .ok (.iconst 0, 1) := by decide +kernel
theorem dL_547 : decode code 547 = .ok (.ireturn, 1) := by decide +kernel
theorem dL_548 : decode code 548 = .ok (.aload_n 1, 1) := by decide +kernel
theorem dL_549 : decode code 549 = .ok (.aload_n 0, 1) := by decide +kernel
theorem dL_550 : decode code 550 = .ok (.iload_n 3, 1) := by decide +kernel
theorem dL_551 : decode code 551 = .ok (.iconst 1, 1) := by decide +kernel
theorem dL_552 : decode code 552 = .ok (.iadd, 1) := by decide +kernel
theorem dL_553 : decode code 553 = .ok (.iaload, 1) := by decide +kernel
theorem dL_554 : decode code 554 = .ok (.invokevirtual 74, 3) := by decide +kernel
theorem dL_557 : decode code 557 = .ok (.aload_n 2, 1) := by decide +kernel
theorem dL_558 : decode code 558 = .ok (.aload_n 0, 1) := by decide +kernel
theorem dL_559 : decode code 559 = .ok (.iload_n 3, 1) := by decide +kernel
theorem dL_560 : decode code 560 = .ok (.iconst 1, 1) := by decide +kernel
theorem dL_561 : decode code 561 = .ok (.iadd, 1) := by decide +kernel
theorem dL_562 : decode code 562 = .ok (.iaload, 1) := by decide +kernel
theorem dL_563 : decode code 563 = .ok (.invokevirtual 77, 3) := by decide +kernel
theorem dL_566 : decode code 566 = .ok (.if_icmp .eq 81, 3) := by decide +kernel
theorem dL_569 : decode code 569 = .ok (.iconst 0, 1) := by decide +kernel
theorem dL_570 : decode code 570 = .ok (.ireturn, 1) := by decide +kernel
theorem dL_571 : decode code 571 = .ok (.aload_n 1, 1) := by decide +kernel
theorem dL_572 : decode code 572 = .ok (.aload_n 0, 1) := by decide +kernel
theorem dL_573 : decode code 573 = .ok (.iload_n 3, 1) := by decide +kernel
theorem dL_574 : decode code 574 = .ok (.iconst 1, 1) := by decide +kernel
theorem dL_575 : decode code 575 = .ok (.iadd, 1) := by decide +kernel
theorem dL_576 : decode code 576 = .ok (.iaload, 1) := by decide +kernel
theorem dL_577 : decode code 577 = .ok (.aload_n 0, 1) := by decide +kernel
theorem dL_578 : decode code 578 = .ok (.iload_n 3, 1) := by decide +kernel
theorem dL_579 : decode code 579 = .ok (.iconst 2, 1) := by decide +kernel
theorem dL_580 : decode code 580 = .ok (.iadd, 1) := by decide +kernel
theorem dL_581 : decode code 581 = .ok (.iaload, 1) := by decide +kernel
theorem dL_582 : decode code 582 = .ok (.aload_n 0, 1) := by decide +kernel
theorem dL_583 : decode code 583 = .ok (.iload_n 3, 1) := by decide +kernel
theorem dL_584 : decode code 584 = .ok (.iconst 3, 1) := by decide +kernel
theorem dL_585 : decode code 585 = .ok (.iadd, 1) := by decide +kernel
theorem dL_586 : decode code 586 = .ok (.iaload, 1) := by decide +kernel
theorem dL_587 : decode code 587 = .ok (.invokevirtual 78, 3) := by decide +kernel
theorem dL_590 : decode code 590 = .ok (.aload_n 2, 1) := by decide +kernel
theorem dL_591 : decode code 591 = .ok (.aload_n 0, 1) := by decide +kernel
theorem dL_592 : decode code 592 = .ok (.iload_n 3, 1) := by decide +kernel
theorem dL_593 : decode code 593 = .ok (.iconst 1, 1) := by decide +kernel
theorem dL_594 : decode code 594 = .ok (.iadd, 1) := by decide +kernel
theorem dL_595 : decode code 595 = .ok (.iaload, 1) := by decide +kernel
theorem dL_596 : decode code 596 = .ok (.aload_n 0, 1) := by decide +kernel
theorem dL_597 : decode code 597 = .ok (.iload_n 3, 1) := by decide +kernel
theorem dL_598 : decode code 598 = .ok (.iconst 2, 1) := by decide +kernel
theorem dL_599 : decode code 599 = .ok (.iadd, 1) := by decide +kernel
theorem dL_600 : decode code 600 = .ok (.iaload, 1) := by decide +kernel
theorem dL_601 : decode code 601 = .ok (.aload_n 0, 1) := by decide +kernel
theorem dL_602 : decode code 602 = .ok (.iload_n 3, 1) := by decide +kernel
theorem dL_603 : decode code 603 = .ok (.iconst 3, 1) := by decide +kernel
theorem dL_604 : decode code 604 = .ok (.iadd, 1) := by decide +kernel
theorem dL_605 : decode code 605 = .ok (.iaload, 1) := by decide +kernel
theorem dL_606 : decode code 606 = .ok (.invokevirtual 81, 3) := by decide +kernel
theorem dL_609 : decode code 609 = .ok (.if_icmp .eq 38, 3) := by decide +kernel
theorem dL_612 : decode code 612 = .ok (.iconst 0, 1) := by decide +kernel
theorem dL_613 : decode code 613 = .ok (.ireturn, 1) := by decide +kernel
theorem dL_614 : decode code 614 = .ok (.aload_n 1, 1) := by decide +kernel
theorem dL_615 : decode code 615 = .ok (.aload_n 0, 1) := by decide +kernel
theorem dL_616 : decode code 616 = .ok (.iload_n 3, 1) := by decide +kernel
theorem dL_617 : decode code 617 = .ok (.iconst 1, 1) := by decide +kernel
theorem dL_618 : decode code 618 = .ok (.iadd, 1) := by decide +kernel
theorem dL_619 : decode code 619 = .ok (.iaload, 1) := by decide +kernel
theorem dL_620 : decode code 620 = .ok (.aload_n 0, 1) := by decide +kernel
theorem dL_621 : decode code 621 = .ok (.iload_n 3, 1) := by decide +kernel
theorem dL_622 : decode code 622 = .ok (.iconst 2, 1) := by decide +kernel
theorem dL_623 : decode code 623 = .ok (.iadd, 1) := by decide +kernel
theorem dL_624 : decode code 624 = .ok (.iaload, 1) := by decide +kernel
theorem dL_625 : decode code 625 = .ok (.invokevirtual 82, 3) := by decide +kernel
theorem dL_628 : decode code 628 = .ok (.aload_n 2, 1) := by decide +kernel
theorem dL_629 : decode code 629 = .ok (.aload_n 0, 1) := by decide +kernel
theorem dL_630 : decode code 630 = .ok (.iload_n 3, 1) := by decide +kernel
theorem dL_631 : decode code 631 = .ok (.iconst 1, 1) := by decide +kernel
theorem dL_632 : decode code 632 = .ok (.iadd, 1) := by decide +kernel
theorem dL_633 : decode code 633 = .ok (.iaload, 1) := by decide +kernel
theorem dL_634 : decode code 634 = .ok (.aload_n 0, 1) := by decide +kernel
theorem dL_635 : decode code 635 = .ok (.iload_n 3, 1) := by decide +kernel
theorem dL_636 : decode code 636 = .ok (.iconst 2, 1) := by decide +kernel
theorem dL_637 : decode code 637 = .ok (.iadd, 1) := by decide +kernel
theorem dL_638 : decode code 638 = .ok (.iaload, 1) := by decide +kernel
theorem dL_639 : decode code 639 = .ok (.invokevirtual 85, 3) := by decide +kernel
theorem dL_642 : decode code 642 = .ok (.if_icmp .eq 5, 3) := by decide +kernel
theorem dL_645 : decode code 645 = .ok (.iconst 0, 1) := by decide +kernel
theorem dL_646 : decode code 646 = .ok (.ireturn, 1) := by decide +kernel
theorem dL_647 : decode code 647 = .ok (.iinc 3 5, 3) := by decide +kernel
theorem dL_650 : decode code 650 = .ok (.goto (-632), 3) := by decide +kernel
theorem dL_653 : decode code 653 = .ok (.iconst 1, 1) := by decide +kernel
theorem dL_654 : decode code 654 = .ok (.ireturn, 1) := by decide +kernel
