/-! THE CLAIM OUT OF ONE WALK OF THE LAW'S BODY. Your part is whole_start (and what it stands on); all else here is the same for every law, but numbers. -/
def R_law : String := "ReelOfficeLaw"
def lw_P (b : Addr) (xs : List Int32) (args : Array Value) (s : State) : Prop := args = #[.ref b] ∧ s.IntsAt b xs ∧ xs.length ≤ 2049 ∧ (Jvm.Cond.and given_1 narrow_1).before args s = true
def lw_Q (_ : Array Value) (s : State) (o : Outcome) (t : State) : Prop := o = .returned (some (.int 1)) ∧ Framed s o t [] 601024 7293000
def lw_Z (below : List Frame) (a : Array Value) (s : State) : State → Prop := fun t => ∃ o, t.status = .running ∧ Ended t below o ∧ lw_Q a s o t
/-- the law's own end, with 1 on the stack, nothing written that was there before, its room as the claim has it -/
theorem lw_ret {p : Program} {l : Launch} {e : Env} {s : State} {m : MethodId} {below : List Frame} {meth : Method} {c : Code} {b : Nat} (hx : p.tables.exec = Jvm.exec) (hb : c.code = code) (hr : meth.sig.returnType = ret) (hlocks : meth.locks = false) {pc : Nat} {H : Heap} {ls : Array Slot} (hdg : decode code pc = .ok (.ireturn, 1)) : W p l e room_1 s m #[Value.ref b] below meth c H [] 601024 7293000 (lw_Z below #[Value.ref b] s) (F0 m pc ls [.int 1]) := by
  intro T hT X
  obtain ⟨fs, hret, hrun, hended, hW, hframe⟩ := X.leave (v := some (.int 1)) (hlocks := hlocks) (fun h => by rw [hr] at h; cases h)
  have hmeth' : T.vm.method? m = some meth := X.method'
  refine ⟨T.setFrames fs, ?_, .returned (some (.int 1)), hrun, hended, rfl, ⟨_, rfl⟩, hW, hframe⟩
  jvm_step X.here [X.here.top, hx, hb, hdg, hmeth', hr, ret, narrow_b1]
  (try refine ⟨rfl, ?_⟩); (try refine ⟨rfl, ?_⟩)
  first | (intro acts; rw [hret _ acts rfl rfl rfl]) | rw [hret _ _ rfl rfl rfl]
  exact Steps.refl _
/-- what holds at the law's entry: the machine, the code, the tables' words (any of lw_tbl by 'hts w (by decide +kernel)'), the script of L ints xs at the cell b, what the Statement gives of the start (any of its parts by flat_of_before) -/
def lw_At (p : Program) (s : State) (m : MethodId) (meth : Method) (c : Code) (b L : Nat) (xs : Nat → Int32) : Prop :=
  p.tables.exec = Jvm.exec ∧ c.code = code ∧ meth.sig.returnType = ret ∧ c.maxLocals = 7 ∧ s.vm.findClass R_law = some m.cls ∧ (∀ w ∈ lw_tbl, w.before #[Value.ref b] s = true) ∧ va_X b L xs s s.heap ∧ b < s.heap.size ∧ meth.locks = false ∧ (Jvm.Cond.and given_1 narrow_1).before #[Value.ref b] s = true
theorem d_law_0 : decode code 0 = .ok (.new 8, 3) := by decide +kernel
theorem d_law_3 : decode code 3 = .ok (.dup, 1) := by decide +kernel
theorem d_law_4 : decode code 4 = .ok (.aload_n 0, 1) := by decide +kernel
theorem d_law_5 : decode code 5 = .ok (.iconst 0, 1) := by decide +kernel
theorem d_law_6 : decode code 6 = .ok (.invokestatic 30, 3) := by decide +kernel
theorem d_law_9 : decode code 9 = .ok (.invokespecial 36, 3) := by decide +kernel
theorem d_law_12 : decode code 12 = .ok (.astore_n 1, 1) := by decide +kernel
theorem d_law_13 : decode code 13 = .ok (.new 39, 3) := by decide +kernel
theorem d_law_16 : decode code 16 = .ok (.dup, 1) := by decide +kernel
theorem d_law_17 : decode code 17 = .ok (.aload_n 0, 1) := by decide +kernel
theorem d_law_18 : decode code 18 = .ok (.iconst 0, 1) := by decide +kernel
theorem d_law_19 : decode code 19 = .ok (.invokestatic 30, 3) := by decide +kernel
theorem d_law_22 : decode code 22 = .ok (.invokespecial 41, 3) := by decide +kernel
theorem d_law_25 : decode code 25 = .ok (.astore_n 2, 1) := by decide +kernel
theorem d_law_26 : decode code 26 = .ok (.iconst 1, 1) := by decide +kernel
theorem d_law_27 : decode code 27 = .ok (.newarray .long, 2) := by decide +kernel
theorem d_law_29 : decode code 29 = .ok (.astore_n 3, 1) := by decide +kernel
theorem d_law_30 : decode code 30 = .ok (.iconst 1, 1) := by decide +kernel
theorem d_law_31 : decode code 31 = .ok (.istore 4, 2) := by decide +kernel
theorem d_law_33 : decode code 33 = .ok (.iload 4, 2) := by decide +kernel
theorem d_law_35 : decode code 35 = .ok (.aload_n 0, 1) := by decide +kernel
theorem d_law_36 : decode code 36 = .ok (.arraylength, 1) := by decide +kernel
theorem d_law_37 : decode code 37 = .ok (.iconst 4, 1) := by decide +kernel
theorem d_law_38 : decode code 38 = .ok (.isub, 1) := by decide +kernel
theorem d_law_39 : decode code 39 = .ok (.if_icmp .gt 675, 3) := by decide +kernel
theorem d_law_42 : decode code 42 = .ok (.aload_n 0, 1) := by decide +kernel
theorem d_law_43 : decode code 43 = .ok (.iload 4, 2) := by decide +kernel
theorem d_law_45 : decode code 45 = .ok (.iaload, 1) := by decide +kernel
theorem d_law_46 : decode code 46 = .ok (.bipush 31, 2) := by decide +kernel
theorem d_law_48 : decode code 48 = .ok (.iand, 1) := by decide +kernel
theorem d_law_49 : decode code 49 = .ok (.tableswitch 659 0 20 #[99, 139, 179, 203, 216, 244, 284, 309, 322, 335, 348, 373, 398, 423, 460, 509, 534, 547, 560, 585, 622], 99) := by decide +kernel
theorem d_law_148 : decode code 148 = .ok (.aload_n 1, 1) := by decide +kernel
theorem d_law_149 : decode code 149 = .ok (.aload_n 0, 1) := by decide +kernel
theorem d_law_150 : decode code 150 = .ok (.iload 4, 2) := by decide +kernel
theorem d_law_152 : decode code 152 = .ok (.iconst 1, 1) := by decide +kernel
theorem d_law_153 : decode code 153 = .ok (.iadd, 1) := by decide +kernel
theorem d_law_154 : decode code 154 = .ok (.iaload, 1) := by decide +kernel
theorem d_law_155 : decode code 155 = .ok (.aload_n 0, 1) := by decide +kernel
theorem d_law_156 : decode code 156 = .ok (.iload 4, 2) := by decide +kernel
theorem d_law_158 : decode code 158 = .ok (.iconst 2, 1) := by decide +kernel
theorem d_law_159 : decode code 159 = .ok (.iadd, 1) := by decide +kernel
theorem d_law_160 : decode code 160 = .ok (.iaload, 1) := by decide +kernel
theorem d_law_161 : decode code 161 = .ok (.aload_n 3, 1) := by decide +kernel
theorem d_law_162 : decode code 162 = .ok (.invokestatic 42, 3) := by decide +kernel
theorem d_law_165 : decode code 165 = .ok (.istore 5, 2) := by decide +kernel
theorem d_law_167 : decode code 167 = .ok (.aload_n 2, 1) := by decide +kernel
theorem d_law_168 : decode code 168 = .ok (.aload_n 0, 1) := by decide +kernel
theorem d_law_169 : decode code 169 = .ok (.iload 4, 2) := by decide +kernel
theorem d_law_171 : decode code 171 = .ok (.iconst 1, 1) := by decide +kernel
theorem d_law_172 : decode code 172 = .ok (.iadd, 1) := by decide +kernel
theorem d_law_173 : decode code 173 = .ok (.iaload, 1) := by decide +kernel
theorem d_law_174 : decode code 174 = .ok (.aload_n 0, 1) := by decide +kernel
theorem d_law_175 : decode code 175 = .ok (.iload 4, 2) := by decide +kernel
theorem d_law_177 : decode code 177 = .ok (.iconst 2, 1) := by decide +kernel
theorem d_law_178 : decode code 178 = .ok (.iadd, 1) := by decide +kernel
theorem d_law_179 : decode code 179 = .ok (.iaload, 1) := by decide +kernel
theorem d_law_180 : decode code 180 = .ok (.invokevirtual 45, 3) := by decide +kernel
theorem d_law_183 : decode code 183 = .ok (.istore 6, 2) := by decide +kernel
theorem d_law_185 : decode code 185 = .ok (.goto 523, 3) := by decide +kernel
theorem d_law_188 : decode code 188 = .ok (.aload_n 1, 1) := by decide +kernel
theorem d_law_189 : decode code 189 = .ok (.aload_n 0, 1) := by decide +kernel
theorem d_law_190 : decode code 190 = .ok (.iload 4, 2) := by decide +kernel
theorem d_law_192 : decode code 192 = .ok (.iconst 1, 1) := by decide +kernel
theorem d_law_193 : decode code 193 = .ok (.iadd, 1) := by decide +kernel
theorem d_law_194 : decode code 194 = .ok (.iaload, 1) := by decide +kernel
theorem d_law_195 : decode code 195 = .ok (.aload_n 0, 1) := by decide +kernel
theorem d_law_196 : decode code 196 = .ok (.iload 4, 2) := by decide +kernel
theorem d_law_198 : decode code 198 = .ok (.iconst 2, 1) := by decide +kernel
theorem d_law_199 : decode code 199 = .ok (.iadd, 1) := by decide +kernel
theorem d_law_200 : decode code 200 = .ok (.iaload, 1) := by decide +kernel
theorem d_law_201 : decode code 201 = .ok (.aload_n 3, 1) := by decide +kernel
theorem d_law_202 : decode code 202 = .ok (.invokestatic 46, 3) := by decide +kernel
theorem d_law_205 : decode code 205 = .ok (.istore 5, 2) := by decide +kernel
theorem d_law_207 : decode code 207 = .ok (.aload_n 2, 1) := by decide +kernel
theorem d_law_208 : decode code 208 = .ok (.aload_n 0, 1) := by decide +kernel
theorem d_law_209 : decode code 209 = .ok (.iload 4, 2) := by decide +kernel
theorem d_law_211 : decode code 211 = .ok (.iconst 1, 1) := by decide +kernel
theorem d_law_212 : decode code 212 = .ok (.iadd, 1) := by decide +kernel
theorem d_law_213 : decode code 213 = .ok (.iaload, 1) := by decide +kernel
theorem d_law_214 : decode code 214 = .ok (.aload_n 0, 1) := by decide +kernel
theorem d_law_215 : decode code 215 = .ok (.iload 4, 2) := by decide +kernel
theorem d_law_217 : decode code 217 = .ok (.iconst 2, 1) := by decide +kernel
theorem d_law_218 : decode code 218 = .ok (.iadd, 1) := by decide +kernel
theorem d_law_219 : decode code 219 = .ok (.iaload, 1) := by decide +kernel
theorem d_law_220 : decode code 220 = .ok (.invokevirtual 48, 3) := by decide +kernel
theorem d_law_223 : decode code 223 = .ok (.istore 6, 2) := by decide +kernel
theorem d_law_225 : decode code 225 = .ok (.goto 483, 3) := by decide +kernel
theorem d_law_228 : decode code 228 = .ok (.aload_n 1, 1) := by decide +kernel
theorem d_law_229 : decode code 229 = .ok (.invokestatic 49, 3) := by decide +kernel
theorem d_law_232 : decode code 232 = .ok (.istore 5, 2) := by decide +kernel
theorem d_law_234 : decode code 234 = .ok (.aload_n 2, 1) := by decide +kernel
theorem d_law_235 : decode code 235 = .ok (.invokevirtual 52, 3) := by decide +kernel
theorem d_law_238 : decode code 238 = .ok (.aload_n 2, 1) := by decide +kernel
theorem d_law_239 : decode code 239 = .ok (.invokevirtual 53, 3) := by decide +kernel
theorem d_law_242 : decode code 242 = .ok (.iload 5, 2) := by decide +kernel
theorem d_law_244 : decode code 244 = .ok (.if_icmp .eq 5, 3) := by decide +kernel
theorem d_law_247 : decode code 247 = .ok (.iconst 0, 1) := by decide +kernel
theorem d_law_248 : decode code 248 = .ok (.ireturn, 1) := by decide +kernel
theorem d_law_249 : decode code 249 = .ok (.goto 459, 3) := by decide +kernel
theorem d_law_252 : decode code 252 = .ok (.aload_n 1, 1) := by decide +kernel
theorem d_law_253 : decode code 253 = .ok (.invokevirtual 57, 3) := by decide +kernel
theorem d_law_256 : decode code 256 = .ok (.pop, 1) := by decide +kernel
theorem d_law_257 : decode code 257 = .ok (.aload_n 2, 1) := by decide +kernel
theorem d_law_258 : decode code 258 = .ok (.invokevirtual 60, 3) := by decide +kernel
theorem d_law_261 : decode code 261 = .ok (.pop, 1) := by decide +kernel
theorem d_law_262 : decode code 262 = .ok (.goto 446, 3) := by decide +kernel
theorem d_law_265 : decode code 265 = .ok (.aload_n 1, 1) := by decide +kernel
theorem d_law_266 : decode code 266 = .ok (.aload_n 0, 1) := by decide +kernel
theorem d_law_267 : decode code 267 = .ok (.iload 4, 2) := by decide +kernel
theorem d_law_269 : decode code 269 = .ok (.iconst 1, 1) := by decide +kernel
theorem d_law_270 : decode code 270 = .ok (.iadd, 1) := by decide +kernel
theorem d_law_271 : decode code 271 = .ok (.iaload, 1) := by decide +kernel
theorem d_law_272 : decode code 272 = .ok (.aload_n 3, 1) := by decide +kernel
theorem d_law_273 : decode code 273 = .ok (.invokestatic 61, 3) := by decide +kernel
theorem d_law_276 : decode code 276 = .ok (.istore 5, 2) := by decide +kernel
theorem d_law_278 : decode code 278 = .ok (.aload_n 2, 1) := by decide +kernel
theorem d_law_279 : decode code 279 = .ok (.aload_n 0, 1) := by decide +kernel
theorem d_law_280 : decode code 280 = .ok (.iload 4, 2) := by decide +kernel
theorem d_law_282 : decode code 282 = .ok (.iconst 1, 1) := by decide +kernel
theorem d_law_283 : decode code 283 = .ok (.iadd, 1) := by decide +kernel
theorem d_law_284 : decode code 284 = .ok (.iaload, 1) := by decide +kernel
theorem d_law_285 : decode code 285 = .ok (.invokevirtual 64, 3) := by decide +kernel
theorem d_law_288 : decode code 288 = .ok (.istore 6, 2) := by decide +kernel
theorem d_law_290 : decode code 290 = .ok (.goto 418, 3) := by decide +kernel
theorem d_law_293 : decode code 293 = .ok (.aload_n 1, 1) := by decide +kernel
theorem d_law_294 : decode code 294 = .ok (.aload_n 0, 1) := by decide +kernel
theorem d_law_295 : decode code 295 = .ok (.iload 4, 2) := by decide +kernel
theorem d_law_297 : decode code 297 = .ok (.iconst 1, 1) := by decide +kernel
theorem d_law_298 : decode code 298 = .ok (.iadd, 1) := by decide +kernel
theorem d_law_299 : decode code 299 = .ok (.iaload, 1) := by decide +kernel
theorem d_law_300 : decode code 300 = .ok (.aload_n 0, 1) := by decide +kernel
theorem d_law_301 : decode code 301 = .ok (.iload 4, 2) := by decide +kernel
theorem d_law_303 : decode code 303 = .ok (.iconst 2, 1) := by decide +kernel
theorem d_law_304 : decode code 304 = .ok (.iadd, 1) := by decide +kernel
theorem d_law_305 : decode code 305 = .ok (.iaload, 1) := by decide +kernel
theorem d_law_306 : decode code 306 = .ok (.aload_n 3, 1) := by decide +kernel
theorem d_law_307 : decode code 307 = .ok (.invokestatic 65, 3) := by decide +kernel
theorem d_law_310 : decode code 310 = .ok (.istore 5, 2) := by decide +kernel
theorem d_law_312 : decode code 312 = .ok (.aload_n 2, 1) := by decide +kernel
theorem d_law_313 : decode code 313 = .ok (.aload_n 0, 1) := by decide +kernel
theorem d_law_314 : decode code 314 = .ok (.iload 4, 2) := by decide +kernel
theorem d_law_316 : decode code 316 = .ok (.iconst 1, 1) := by decide +kernel
theorem d_law_317 : decode code 317 = .ok (.iadd, 1) := by decide +kernel
theorem d_law_318 : decode code 318 = .ok (.iaload, 1) := by decide +kernel
theorem d_law_319 : decode code 319 = .ok (.aload_n 0, 1) := by decide +kernel
theorem d_law_320 : decode code 320 = .ok (.iload 4, 2) := by decide +kernel
theorem d_law_322 : decode code 322 = .ok (.iconst 2, 1) := by decide +kernel
theorem d_law_323 : decode code 323 = .ok (.iadd, 1) := by decide +kernel
theorem d_law_324 : decode code 324 = .ok (.iaload, 1) := by decide +kernel
theorem d_law_325 : decode code 325 = .ok (.invokevirtual 67, 3) := by decide +kernel
theorem d_law_328 : decode code 328 = .ok (.istore 6, 2) := by decide +kernel
theorem d_law_330 : decode code 330 = .ok (.goto 378, 3) := by decide +kernel
theorem d_law_333 : decode code 333 = .ok (.aload_n 1, 1) := by decide +kernel
theorem d_law_334 : decode code 334 = .ok (.aload_n 0, 1) := by decide +kernel
theorem d_law_335 : decode code 335 = .ok (.iload 4, 2) := by decide +kernel
theorem d_law_337 : decode code 337 = .ok (.iconst 1, 1) := by decide +kernel
theorem d_law_338 : decode code 338 = .ok (.iadd, 1) := by decide +kernel
theorem d_law_339 : decode code 339 = .ok (.iaload, 1) := by decide +kernel
theorem d_law_340 : decode code 340 = .ok (.invokevirtual 68, 3) := by decide +kernel
theorem d_law_343 : decode code 343 = .ok (.pop, 1) := by decide +kernel
theorem d_law_344 : decode code 344 = .ok (.aload_n 2, 1) := by decide +kernel
theorem d_law_345 : decode code 345 = .ok (.aload_n 0, 1) := by decide +kernel
theorem d_law_346 : decode code 346 = .ok (.iload 4, 2) := by decide +kernel
theorem d_law_348 : decode code 348 = .ok (.iconst 1, 1) := by decide +kernel
theorem d_law_349 : decode code 349 = .ok (.iadd, 1) := by decide +kernel
theorem d_law_350 : decode code 350 = .ok (.iaload, 1) := by decide +kernel
theorem d_law_351 : decode code 351 = .ok (.invokevirtual 72, 3) := by decide +kernel
theorem d_law_354 : decode code 354 = .ok (.pop, 1) := by decide +kernel
theorem d_law_355 : decode code 355 = .ok (.goto 353, 3) := by decide +kernel
theorem d_law_358 : decode code 358 = .ok (.aload_n 1, 1) := by decide +kernel
theorem d_law_359 : decode code 359 = .ok (.invokevirtual 73, 3) := by decide +kernel
theorem d_law_362 : decode code 362 = .ok (.pop, 1) := by decide +kernel
theorem d_law_363 : decode code 363 = .ok (.aload_n 2, 1) := by decide +kernel
theorem d_law_364 : decode code 364 = .ok (.invokevirtual 77, 3) := by decide +kernel
theorem d_law_367 : decode code 367 = .ok (.pop, 1) := by decide +kernel
theorem d_law_368 : decode code 368 = .ok (.goto 340, 3) := by decide +kernel
theorem d_law_371 : decode code 371 = .ok (.aload_n 1, 1) := by decide +kernel
theorem d_law_372 : decode code 372 = .ok (.invokevirtual 78, 3) := by decide +kernel
theorem d_law_375 : decode code 375 = .ok (.pop, 1) := by decide +kernel
theorem d_law_376 : decode code 376 = .ok (.aload_n 2, 1) := by decide +kernel
theorem d_law_377 : decode code 377 = .ok (.invokevirtual 81, 3) := by decide +kernel
theorem d_law_380 : decode code 380 = .ok (.pop, 1) := by decide +kernel
theorem d_law_381 : decode code 381 = .ok (.goto 327, 3) := by decide +kernel
theorem d_law_384 : decode code 384 = .ok (.aload_n 1, 1) := by decide +kernel
theorem d_law_385 : decode code 385 = .ok (.invokevirtual 82, 3) := by decide +kernel
theorem d_law_388 : decode code 388 = .ok (.pop, 1) := by decide +kernel
theorem d_law_389 : decode code 389 = .ok (.aload_n 2, 1) := by decide +kernel
theorem d_law_390 : decode code 390 = .ok (.invokevirtual 85, 3) := by decide +kernel
theorem d_law_393 : decode code 393 = .ok (.pop, 1) := by decide +kernel
theorem d_law_394 : decode code 394 = .ok (.goto 314, 3) := by decide +kernel
theorem d_law_397 : decode code 397 = .ok (.aload_n 1, 1) := by decide +kernel
theorem d_law_398 : decode code 398 = .ok (.aload_n 0, 1) := by decide +kernel
theorem d_law_399 : decode code 399 = .ok (.iload 4, 2) := by decide +kernel
theorem d_law_401 : decode code 401 = .ok (.iconst 1, 1) := by decide +kernel
theorem d_law_402 : decode code 402 = .ok (.iadd, 1) := by decide +kernel
theorem d_law_403 : decode code 403 = .ok (.iaload, 1) := by decide +kernel
theorem d_law_404 : decode code 404 = .ok (.invokevirtual 86, 3) := by decide +kernel
theorem d_law_407 : decode code 407 = .ok (.pop, 1) := by decide +kernel
theorem d_law_408 : decode code 408 = .ok (.aload_n 2, 1) := by decide +kernel
theorem d_law_409 : decode code 409 = .ok (.aload_n 0, 1) := by decide +kernel
theorem d_law_410 : decode code 410 = .ok (.iload 4, 2) := by decide +kernel
theorem d_law_412 : decode code 412 = .ok (.iconst 1, 1) := by decide +kernel
theorem d_law_413 : decode code 413 = .ok (.iadd, 1) := by decide +kernel
theorem d_law_414 : decode code 414 = .ok (.iaload, 1) := by decide +kernel
theorem d_law_415 : decode code 415 = .ok (.invokevirtual 89, 3) := by decide +kernel
theorem d_law_418 : decode code 418 = .ok (.pop, 1) := by decide +kernel
theorem d_law_419 : decode code 419 = .ok (.goto 289, 3) := by decide +kernel
theorem d_law_422 : decode code 422 = .ok (.aload_n 1, 1) := by decide +kernel
theorem d_law_423 : decode code 423 = .ok (.aload_n 0, 1) := by decide +kernel
theorem d_law_424 : decode code 424 = .ok (.iload 4, 2) := by decide +kernel
theorem d_law_426 : decode code 426 = .ok (.iconst 1, 1) := by decide +kernel
theorem d_law_427 : decode code 427 = .ok (.iadd, 1) := by decide +kernel
theorem d_law_428 : decode code 428 = .ok (.iaload, 1) := by decide +kernel
theorem d_law_429 : decode code 429 = .ok (.invokevirtual 90, 3) := by decide +kernel
theorem d_law_432 : decode code 432 = .ok (.pop, 1) := by decide +kernel
theorem d_law_433 : decode code 433 = .ok (.aload_n 2, 1) := by decide +kernel
theorem d_law_434 : decode code 434 = .ok (.aload_n 0, 1) := by decide +kernel
theorem d_law_435 : decode code 435 = .ok (.iload 4, 2) := by decide +kernel
theorem d_law_437 : decode code 437 = .ok (.iconst 1, 1) := by decide +kernel
theorem d_law_438 : decode code 438 = .ok (.iadd, 1) := by decide +kernel
theorem d_law_439 : decode code 439 = .ok (.iaload, 1) := by decide +kernel
theorem d_law_440 : decode code 440 = .ok (.invokevirtual 93, 3) := by decide +kernel
theorem d_law_443 : decode code 443 = .ok (.pop, 1) := by decide +kernel
theorem d_law_444 : decode code 444 = .ok (.goto 264, 3) := by decide +kernel
theorem d_law_447 : decode code 447 = .ok (.aload_n 1, 1) := by decide +kernel
theorem d_law_448 : decode code 448 = .ok (.aload_n 0, 1) := by decide +kernel
theorem d_law_449 : decode code 449 = .ok (.iload 4, 2) := by decide +kernel
theorem d_law_451 : decode code 451 = .ok (.iconst 1, 1) := by decide +kernel
theorem d_law_452 : decode code 452 = .ok (.iadd, 1) := by decide +kernel
theorem d_law_453 : decode code 453 = .ok (.iaload, 1) := by decide +kernel
theorem d_law_454 : decode code 454 = .ok (.invokevirtual 94, 3) := by decide +kernel
theorem d_law_457 : decode code 457 = .ok (.pop, 1) := by decide +kernel
theorem d_law_458 : decode code 458 = .ok (.aload_n 2, 1) := by decide +kernel
theorem d_law_459 : decode code 459 = .ok (.aload_n 0, 1) := by decide +kernel
theorem d_law_460 : decode code 460 = .ok (.iload 4, 2) := by decide +kernel
theorem d_law_462 : decode code 462 = .ok (.iconst 1, 1) := by decide +kernel
theorem d_law_463 : decode code 463 = .ok (.iadd, 1) := by decide +kernel
theorem d_law_464 : decode code 464 = .ok (.iaload, 1) := by decide +kernel
theorem d_law_465 : decode code 465 = .ok (.invokevirtual 97, 3) := by decide +kernel
theorem d_law_468 : decode code 468 = .ok (.pop, 1) := by decide +kernel
theorem d_law_469 : decode code 469 = .ok (.goto 239, 3) := by decide +kernel
theorem d_law_472 : decode code 472 = .ok (.aload_n 1, 1) := by decide +kernel
theorem d_law_473 : decode code 473 = .ok (.aload_n 0, 1) := by decide +kernel
theorem d_law_474 : decode code 474 = .ok (.iload 4, 2) := by decide +kernel
theorem d_law_476 : decode code 476 = .ok (.iconst 1, 1) := by decide +kernel
theorem d_law_477 : decode code 477 = .ok (.iadd, 1) := by decide +kernel
theorem d_law_478 : decode code 478 = .ok (.iaload, 1) := by decide +kernel
theorem d_law_479 : decode code 479 = .ok (.aload_n 0, 1) := by decide +kernel
theorem d_law_480 : decode code 480 = .ok (.iload 4, 2) := by decide +kernel
theorem d_law_482 : decode code 482 = .ok (.iconst 2, 1) := by decide +kernel
theorem d_law_483 : decode code 483 = .ok (.iadd, 1) := by decide +kernel
theorem d_law_484 : decode code 484 = .ok (.iaload, 1) := by decide +kernel
theorem d_law_485 : decode code 485 = .ok (.invokevirtual 98, 3) := by decide +kernel
theorem d_law_488 : decode code 488 = .ok (.pop, 1) := by decide +kernel
theorem d_law_489 : decode code 489 = .ok (.aload_n 2, 1) := by decide +kernel
theorem d_law_490 : decode code 490 = .ok (.aload_n 0, 1) := by decide +kernel
theorem d_law_491 : decode code 491 = .ok (.iload 4, 2) := by decide +kernel
theorem d_law_493 : decode code 493 = .ok (.iconst 1, 1) := by decide +kernel
theorem d_law_494 : decode code 494 = .ok (.iadd, 1) := by decide +kernel
theorem d_law_495 : decode code 495 = .ok (.iaload, 1) := by decide +kernel
theorem d_law_496 : decode code 496 = .ok (.aload_n 0, 1) := by decide +kernel
theorem d_law_497 : decode code 497 = .ok (.iload 4, 2) := by decide +kernel
theorem d_law_499 : decode code 499 = .ok (.iconst 2, 1) := by decide +kernel
theorem d_law_500 : decode code 500 = .ok (.iadd, 1) := by decide +kernel
theorem d_law_501 : decode code 501 = .ok (.iaload, 1) := by decide +kernel
theorem d_law_502 : decode code 502 = .ok (.invokevirtual 101, 3) := by decide +kernel
theorem d_law_505 : decode code 505 = .ok (.pop, 1) := by decide +kernel
theorem d_law_506 : decode code 506 = .ok (.goto 202, 3) := by decide +kernel
theorem d_law_509 : decode code 509 = .ok (.aload_n 1, 1) := by decide +kernel
theorem d_law_510 : decode code 510 = .ok (.aload_n 0, 1) := by decide +kernel
theorem d_law_511 : decode code 511 = .ok (.iload 4, 2) := by decide +kernel
theorem d_law_513 : decode code 513 = .ok (.iconst 1, 1) := by decide +kernel
theorem d_law_514 : decode code 514 = .ok (.iadd, 1) := by decide +kernel
theorem d_law_515 : decode code 515 = .ok (.iaload, 1) := by decide +kernel
theorem d_law_516 : decode code 516 = .ok (.aload_n 0, 1) := by decide +kernel
theorem d_law_517 : decode code 517 = .ok (.iload 4, 2) := by decide +kernel
theorem d_law_519 : decode code 519 = .ok (.iconst 2, 1) := by decide +kernel
theorem d_law_520 : decode code 520 = .ok (.iadd, 1) := by decide +kernel
theorem d_law_521 : decode code 521 = .ok (.iaload, 1) := by decide +kernel
theorem d_law_522 : decode code 522 = .ok (.aload_n 0, 1) := by decide +kernel
theorem d_law_523 : decode code 523 = .ok (.iload 4, 2) := by decide +kernel
theorem d_law_525 : decode code 525 = .ok (.iconst 3, 1) := by decide +kernel
theorem d_law_526 : decode code 526 = .ok (.iadd, 1) := by decide +kernel
theorem d_law_527 : decode code 527 = .ok (.iaload, 1) := by decide +kernel
theorem d_law_528 : decode code 528 = .ok (.invokevirtual 102, 3) := by decide +kernel
theorem d_law_531 : decode code 531 = .ok (.pop, 1) := by decide +kernel
theorem d_law_532 : decode code 532 = .ok (.aload_n 2, 1) := by decide +kernel
theorem d_law_533 : decode code 533 = .ok (.aload_n 0, 1) := by decide +kernel
theorem d_law_534 : decode code 534 = .ok (.iload 4, 2) := by decide +kernel
theorem d_law_536 : decode code 536 = .ok (.iconst 1, 1) := by decide +kernel
theorem d_law_537 : decode code 537 = .ok (.iadd, 1) := by decide +kernel
theorem d_law_538 : decode code 538 = .ok (.iaload, 1) := by decide +kernel
theorem d_law_539 : decode code 539 = .ok (.aload_n 0, 1) := by decide +kernel
theorem d_law_540 : decode code 540 = .ok (.iload 4, 2) := by decide +kernel
theorem d_law_542 : decode code 542 = .ok (.iconst 2, 1) := by decide +kernel
theorem d_law_543 : decode code 543 = .ok (.iadd, 1) := by decide +kernel
theorem d_law_544 : decode code 544 = .ok (.iaload, 1) := by decide +kernel
theorem d_law_545 : decode code 545 = .ok (.aload_n 0, 1) := by decide +kernel
theorem d_law_546 : decode code 546 = .ok (.iload 4, 2) := by decide +kernel
theorem d_law_548 : decode code 548 = .ok (.iconst 3, 1) := by decide +kernel
theorem d_law_549 : decode code 549 = .ok (.iadd, 1) := by decide +kernel
theorem d_law_550 : decode code 550 = .ok (.iaload, 1) := by decide +kernel
theorem d_law_551 : decode code 551 = .ok (.invokevirtual 106, 3) := by decide +kernel
theorem d_law_554 : decode code 554 = .ok (.pop, 1) := by decide +kernel
theorem d_law_555 : decode code 555 = .ok (.goto 153, 3) := by decide +kernel
theorem d_law_558 : decode code 558 = .ok (.aload_n 1, 1) := by decide +kernel
theorem d_law_559 : decode code 559 = .ok (.aload_n 0, 1) := by decide +kernel
theorem d_law_560 : decode code 560 = .ok (.iload 4, 2) := by decide +kernel
theorem d_law_562 : decode code 562 = .ok (.iconst 1, 1) := by decide +kernel
theorem d_law_563 : decode code 563 = .ok (.iadd, 1) := by decide +kernel
theorem d_law_564 : decode code 564 = .ok (.iaload, 1) := by decide +kernel
theorem d_law_565 : decode code 565 = .ok (.invokevirtual 107, 3) := by decide +kernel
theorem d_law_568 : decode code 568 = .ok (.pop, 1) := by decide +kernel
theorem d_law_569 : decode code 569 = .ok (.aload_n 2, 1) := by decide +kernel
theorem d_law_570 : decode code 570 = .ok (.aload_n 0, 1) := by decide +kernel
theorem d_law_571 : decode code 571 = .ok (.iload 4, 2) := by decide +kernel
theorem d_law_573 : decode code 573 = .ok (.iconst 1, 1) := by decide +kernel
theorem d_law_574 : decode code 574 = .ok (.iadd, 1) := by decide +kernel
theorem d_law_575 : decode code 575 = .ok (.iaload, 1) := by decide +kernel
theorem d_law_576 : decode code 576 = .ok (.invokevirtual 110, 3) := by decide +kernel
theorem d_law_579 : decode code 579 = .ok (.pop, 1) := by decide +kernel
theorem d_law_580 : decode code 580 = .ok (.goto 128, 3) := by decide +kernel
theorem d_law_583 : decode code 583 = .ok (.aload_n 1, 1) := by decide +kernel
theorem d_law_584 : decode code 584 = .ok (.invokevirtual 111, 3) := by decide +kernel
theorem d_law_587 : decode code 587 = .ok (.pop, 1) := by decide +kernel
theorem d_law_588 : decode code 588 = .ok (.aload_n 2, 1) := by decide +kernel
theorem d_law_589 : decode code 589 = .ok (.invokevirtual 114, 3) := by decide +kernel
theorem d_law_592 : decode code 592 = .ok (.pop, 1) := by decide +kernel
theorem d_law_593 : decode code 593 = .ok (.goto 115, 3) := by decide +kernel
theorem d_law_596 : decode code 596 = .ok (.aload_n 1, 1) := by decide +kernel
theorem d_law_597 : decode code 597 = .ok (.invokevirtual 115, 3) := by decide +kernel
theorem d_law_600 : decode code 600 = .ok (.pop, 1) := by decide +kernel
theorem d_law_601 : decode code 601 = .ok (.aload_n 2, 1) := by decide +kernel
theorem d_law_602 : decode code 602 = .ok (.invokevirtual 118, 3) := by decide +kernel
theorem d_law_605 : decode code 605 = .ok (.pop, 1) := by decide +kernel
theorem d_law_606 : decode code 606 = .ok (.goto 102, 3) := by decide +kernel
theorem d_law_609 : decode code 609 = .ok (.aload_n 1, 1) := by decide +kernel
theorem d_law_610 : decode code 610 = .ok (.aload_n 0, 1) := by decide +kernel
theorem d_law_611 : decode code 611 = .ok (.iload 4, 2) := by decide +kernel
theorem d_law_613 : decode code 613 = .ok (.iconst 1, 1) := by decide +kernel
theorem d_law_614 : decode code 614 = .ok (.iadd, 1) := by decide +kernel
theorem d_law_615 : decode code 615 = .ok (.iaload, 1) := by decide +kernel
theorem d_law_616 : decode code 616 = .ok (.invokevirtual 119, 3) := by decide +kernel
theorem d_law_619 : decode code 619 = .ok (.pop, 1) := by decide +kernel
theorem d_law_620 : decode code 620 = .ok (.aload_n 2, 1) := by decide +kernel
theorem d_law_621 : decode code 621 = .ok (.aload_n 0, 1) := by decide +kernel
theorem d_law_622 : decode code 622 = .ok (.iload 4, 2) := by decide +kernel
theorem d_law_624 : decode code 624 = .ok (.iconst 1, 1) := by decide +kernel
theorem d_law_625 : decode code 625 = .ok (.iadd, 1) := by decide +kernel
theorem d_law_626 : decode code 626 = .ok (.iaload, 1) := by decide +kernel
theorem d_law_627 : decode code 627 = .ok (.invokevirtual 122, 3) := by decide +kernel
theorem d_law_630 : decode code 630 = .ok (.pop, 1) := by decide +kernel
theorem d_law_631 : decode code 631 = .ok (.goto 77, 3) := by decide +kernel
theorem d_law_634 : decode code 634 = .ok (.aload_n 1, 1) := by decide +kernel
theorem d_law_635 : decode code 635 = .ok (.aload_n 0, 1) := by decide +kernel
theorem d_law_636 : decode code 636 = .ok (.iload 4, 2) := by decide +kernel
theorem d_law_638 : decode code 638 = .ok (.iconst 1, 1) := by decide +kernel
theorem d_law_639 : decode code 639 = .ok (.iadd, 1) := by decide +kernel
theorem d_law_640 : decode code 640 = .ok (.iaload, 1) := by decide +kernel
theorem d_law_641 : decode code 641 = .ok (.aload_n 0, 1) := by decide +kernel
theorem d_law_642 : decode code 642 = .ok (.iload 4, 2) := by decide +kernel
theorem d_law_644 : decode code 644 = .ok (.iconst 2, 1) := by decide +kernel
theorem d_law_645 : decode code 645 = .ok (.iadd, 1) := by decide +kernel
theorem d_law_646 : decode code 646 = .ok (.iaload, 1) := by decide +kernel
theorem d_law_647 : decode code 647 = .ok (.invokevirtual 123, 3) := by decide +kernel
theorem d_law_650 : decode code 650 = .ok (.pop, 1) := by decide +kernel
theorem d_law_651 : decode code 651 = .ok (.aload_n 2, 1) := by decide +kernel
theorem d_law_652 : decode code 652 = .ok (.aload_n 0, 1) := by decide +kernel
theorem d_law_653 : decode code 653 = .ok (.iload 4, 2) := by decide +kernel
theorem d_law_655 : decode code 655 = .ok (.iconst 1, 1) := by decide +kernel
theorem d_law_656 : decode code 656 = .ok (.iadd, 1) := by decide +kernel
theorem d_law_657 : decode code 657 = .ok (.iaload, 1) := by decide +kernel
theorem d_law_658 : decode code 658 = .ok (.aload_n 0, 1) := by decide +kernel
theorem d_law_659 : decode code 659 = .ok (.iload 4, 2) := by decide +kernel
theorem d_law_661 : decode code 661 = .ok (.iconst 2, 1) := by decide +kernel
theorem d_law_662 : decode code 662 = .ok (.iadd, 1) := by decide +kernel
theorem d_law_663 : decode code 663 = .ok (.iaload, 1) := by decide +kernel
theorem d_law_664 : decode code 664 = .ok (.invokevirtual 126, 3) := by decide +kernel
theorem d_law_667 : decode code 667 = .ok (.pop, 1) := by decide +kernel
theorem d_law_668 : decode code 668 = .ok (.goto 40, 3) := by decide +kernel
theorem d_law_671 : decode code 671 = .ok (.aload_n 1, 1) := by decide +kernel
theorem d_law_672 : decode code 672 = .ok (.aload_n 0, 1) := by decide +kernel
theorem d_law_673 : decode code 673 = .ok (.iload 4, 2) := by decide +kernel
theorem d_law_675 : decode code 675 = .ok (.iconst 1, 1) := by decide +kernel
theorem d_law_676 : decode code 676 = .ok (.iadd, 1) := by decide +kernel
theorem d_law_677 : decode code 677 = .ok (.iaload, 1) := by decide +kernel
theorem d_law_678 : decode code 678 = .ok (.aload_n 0, 1) := by decide +kernel
theorem d_law_679 : decode code 679 = .ok (.iload 4, 2) := by decide +kernel
theorem d_law_681 : decode code 681 = .ok (.iconst 2, 1) := by decide +kernel
theorem d_law_682 : decode code 682 = .ok (.iadd, 1) := by decide +kernel
theorem d_law_683 : decode code 683 = .ok (.iaload, 1) := by decide +kernel
theorem d_law_684 : decode code 684 = .ok (.invokevirtual 127, 3) := by decide +kernel
theorem d_law_687 : decode code 687 = .ok (.pop, 1) := by decide +kernel
theorem d_law_688 : decode code 688 = .ok (.aload_n 2, 1) := by decide +kernel
theorem d_law_689 : decode code 689 = .ok (.aload_n 0, 1) := by decide +kernel
theorem d_law_690 : decode code 690 = .ok (.iload 4, 2) := by decide +kernel
theorem d_law_692 : decode code 692 = .ok (.iconst 1, 1) := by decide +kernel
theorem d_law_693 : decode code 693 = .ok (.iadd, 1) := by decide +kernel
theorem d_law_694 : decode code 694 = .ok (.iaload, 1) := by decide +kernel
theorem d_law_695 : decode code 695 = .ok (.aload_n 0, 1) := by decide +kernel
theorem d_law_696 : decode code 696 = .ok (.iload 4, 2) := by decide +kernel
theorem d_law_698 : decode code 698 = .ok (.iconst 2, 1) := by decide +kernel
theorem d_law_699 : decode code 699 = .ok (.iadd, 1) := by decide +kernel
theorem d_law_700 : decode code 700 = .ok (.iaload, 1) := by decide +kernel
theorem d_law_701 : decode code 701 = .ok (.invokevirtual 130, 3) := by decide +kernel
theorem d_law_704 : decode code 704 = .ok (.pop, 1) := by decide +kernel
theorem d_law_705 : decode code 705 = .ok (.goto 3, 3) := by decide +kernel
theorem d_law_708 : decode code 708 = .ok (.iinc 4 4, 3) := by decide +kernel
theorem d_law_711 : decode code 711 = .ok (.goto (-678), 3) := by decide +kernel
theorem d_law_714 : decode code 714 = .ok (.iconst 1, 1) := by decide +kernel
theorem d_law_715 : decode code 715 = .ok (.ireturn, 1) := by decide +kernel
