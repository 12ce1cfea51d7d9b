/-! THE CLAIM OUT OF ONE WALK OF THE LAW'S BODY. Your part is whole_start (and what it stands on); all else here is the same for every law, but numbers. -/
def R_law : String := "ReelOfficeLaw"
def lw_P (b : Addr) (xs : List Int32) (args : Array Value) (s : State) : Prop := args = #[.ref b] ∧ s.IntsAt b xs ∧ xs.length ≤ 5 ∧ (Jvm.Cond.and given_1 narrow_1).before args s = true
def lw_Q (_ : Array Value) (s : State) (o : Outcome) (t : State) : Prop := o = .returned (some (.int 1)) ∧ Framed s o t [] 600002 7302198
def lw_Z (below : List Frame) (a : Array Value) (s : State) : State → Prop := fun t => ∃ o, t.status = .running ∧ Ended t below o ∧ lw_Q a s o t
/-- the law's own end, with 1 on the stack, nothing written that was there before, its room as the claim has it -/
theorem lw_ret {p : Program} {l : Launch} {e : Env} {s : State} {m : MethodId} {below : List Frame} {meth : Method} {c : Code} {b : Nat} (hx : p.tables.exec = Jvm.exec) (hb : c.code = code) (hr : meth.sig.returnType = ret) (hlocks : meth.locks = false) {pc : Nat} {H : Heap} {ls : Array Slot} (hdg : decode code pc = .ok (.ireturn, 1)) : W p l e room_1 s m #[Value.ref b] below meth c H [] 600002 7302198 (lw_Z below #[Value.ref b] s) (F0 m pc ls [.int 1]) := by
  intro T hT X
  obtain ⟨fs, hret, hrun, hended, hW, hframe⟩ := X.leave (v := some (.int 1)) (hlocks := hlocks) (fun h => by rw [hr] at h; cases h)
  have hmeth' : T.vm.method? m = some meth := X.method'
  refine ⟨T.setFrames fs, ?_, .returned (some (.int 1)), hrun, hended, rfl, ⟨_, rfl⟩, hW, hframe⟩
  jvm_step X.here [X.here.top, hx, hb, hdg, hmeth', hr, ret, narrow_b1]
  (try refine ⟨rfl, ?_⟩); (try refine ⟨rfl, ?_⟩)
  first | (intro acts; rw [hret _ acts rfl rfl rfl]) | rw [hret _ _ rfl rfl rfl]
  exact Steps.refl _
/-- what holds at the law's entry: the machine, the code, the tables' words (any of lw_tbl by 'hts w (by decide +kernel)'), the script of L ints xs at the cell b, what the Statement gives of the start (any of its parts by flat_of_before) -/
def lw_At (p : Program) (s : State) (m : MethodId) (meth : Method) (c : Code) (b L : Nat) (xs : Nat → Int32) : Prop :=
  p.tables.exec = Jvm.exec ∧ c.code = code ∧ meth.sig.returnType = ret ∧ c.maxLocals = 7 ∧ s.vm.findClass R_law = some m.cls ∧ (∀ w ∈ lw_tbl, w.before #[Value.ref b] s = true) ∧ va_X b L xs s s.heap ∧ b < s.heap.size ∧ meth.locks = false ∧ (Jvm.Cond.and given_1 narrow_1).before #[Value.ref b] s = true
theorem d_law_0 : decode code 0 = .ok (.new 8, 3) := by decide +kernel
theorem d_law_3 : decode code 3 = .ok (.dup, 1) := by decide +kernel
theorem d_law_4 : decode code 4 = .ok (.aload_n 0, 1) := by decide +kernel
theorem d_law_5 : decode code 5 = .ok (.iconst 0, 1) := by decide +kernel
theorem d_law_6 : decode code 6 = .ok (.invokestatic 30, 3) := by decide +kernel
theorem d_law_9 : decode code 9 = .ok (.invokespecial 36, 3) := by decide +kernel
theorem d_law_12 : decode code 12 = .ok (.astore_n 1, 1) := by decide +kernel
theorem d_law_13 : decode code 13 = .ok (.new 39, 3) := by decide +kernel
theorem d_law_16 : decode code 16 = .ok (.dup, 1) := by decide +kernel
theorem d_law_17 : decode code 17 = .ok (.aload_n 0, 1) := by decide +kernel
theorem d_law_18 : decode code 18 = .ok (.iconst 0, 1) := by decide +kernel
theorem d_law_19 : decode code 19 = .ok (.invokestatic 30, 3) := by decide +kernel
theorem d_law_22 : decode code 22 = .ok (.invokespecial 41, 3) := by decide +kernel
theorem d_law_25 : decode code 25 = .ok (.astore_n 2, 1) := by decide +kernel
theorem d_law_26 : decode code 26 = .ok (.iconst 1, 1) := by decide +kernel
theorem d_law_27 : decode code 27 = .ok (.newarray .long, 2) := by decide +kernel
theorem d_law_29 : decode code 29 = .ok (.astore_n 3, 1) := by decide +kernel
theorem d_law_30 : decode code 30 = .ok (.iconst 1, 1) := by decide +kernel
theorem d_law_31 : decode code 31 = .ok (.istore 4, 2) := by decide +kernel
theorem d_law_33 : decode code 33 = .ok (.iload 4, 2) := by decide +kernel
theorem d_law_35 : decode code 35 = .ok (.aload_n 0, 1) := by decide +kernel
theorem d_law_36 : decode code 36 = .ok (.arraylength, 1) := by decide +kernel
theorem d_law_37 : decode code 37 = .ok (.iconst 4, 1) := by decide +kernel
theorem d_law_38 : decode code 38 = .ok (.isub, 1) := by decide +kernel
theorem d_law_39 : decode code 39 = .ok (.if_icmp .gt 787, 3) := by decide +kernel
theorem d_law_42 : decode code 42 = .ok (.aload_n 0, 1) := by decide +kernel
theorem d_law_43 : decode code 43 = .ok (.iload 4, 2) := by decide +kernel
theorem d_law_45 : decode code 45 = .ok (.iaload, 1) := by decide +kernel
theorem d_law_46 : decode code 46 = .ok (.bipush 31, 2) := by decide +kernel
theorem d_law_48 : decode code 48 = .ok (.iand, 1) := by decide +kernel
theorem d_law_49 : decode code 49 = .ok (.tableswitch 771 0 20 #[99, 167, 235, 259, 272, 328, 396, 421, 434, 447, 460, 485, 510, 535, 572, 621, 646, 659, 672, 697, 734], 99) := by decide +kernel
theorem d_law_148 : decode code 148 = .ok (.aload_n 1, 1) := by decide +kernel
theorem d_law_149 : decode code 149 = .ok (.aload_n 0, 1) := by decide +kernel
theorem d_law_150 : decode code 150 = .ok (.iload 4, 2) := by decide +kernel
theorem d_law_152 : decode code 152 = .ok (.iconst 1, 1) := by decide +kernel
theorem d_law_153 : decode code 153 = .ok (.iadd, 1) := by decide +kernel
theorem d_law_154 : decode code 154 = .ok (.iaload, 1) := by decide +kernel
theorem d_law_155 : decode code 155 = .ok (.aload_n 0, 1) := by decide +kernel
theorem d_law_156 : decode code 156 = .ok (.iload 4, 2) := by decide +kernel
theorem d_law_158 : decode code 158 = .ok (.iconst 2, 1) := by decide +kernel
theorem d_law_159 : decode code 159 = .ok (.iadd, 1) := by decide +kernel
theorem d_law_160 : decode code 160 = .ok (.iaload, 1) := by decide +kernel
theorem d_law_161 : decode code 161 = .ok (.aload_n 3, 1) := by decide +kernel
theorem d_law_162 : decode code 162 = .ok (.invokestatic 42, 3) := by decide +kernel
theorem d_law_165 : decode code 165 = .ok (.istore 5, 2) := by decide +kernel
theorem d_law_167 : decode code 167 = .ok (.aload_n 2, 1) := by decide +kernel
theorem d_law_168 : decode code 168 = .ok (.aload_n 0, 1) := by decide +kernel
theorem d_law_169 : decode code 169 = .ok (.iload 4, 2) := by decide +kernel
theorem d_law_171 : decode code 171 = .ok (.iconst 1, 1) := by decide +kernel
theorem d_law_172 : decode code 172 = .ok (.iadd, 1) := by decide +kernel
theorem d_law_173 : decode code 173 = .ok (.iaload, 1) := by decide +kernel
theorem d_law_174 : decode code 174 = .ok (.aload_n 0, 1) := by decide +kernel
theorem d_law_175 : decode code 175 = .ok (.iload 4, 2) := by decide +kernel
theorem d_law_177 : decode code 177 = .ok (.iconst 2, 1) := by decide +kernel
theorem d_law_178 : decode code 178 = .ok (.iadd, 1) := by decide +kernel
theorem d_law_179 : decode code 179 = .ok (.iaload, 1) := by decide +kernel
theorem d_law_180 : decode code 180 = .ok (.invokevirtual 45, 3) := by decide +kernel
theorem d_law_183 : decode code 183 = .ok (.istore 6, 2) := by decide +kernel
theorem d_law_185 : decode code 185 = .ok (.aload_n 2, 1) := by decide +kernel
theorem d_law_186 : decode code 186 = .ok (.invokevirtual 46, 3) := by decide +kernel
theorem d_law_189 : decode code 189 = .ok (.iload 5, 2) := by decide +kernel
theorem d_law_191 : decode code 191 = .ok (.if_icmp .eq 5, 3) := by decide +kernel
theorem d_law_194 : decode code 194 = .ok (.iconst 0, 1) := by decide +kernel
theorem d_law_195 : decode code 195 = .ok (.ireturn, 1) := by decide +kernel
theorem d_law_196 : decode code 196 = .ok (.iload 5, 2) := by decide +kernel
theorem d_law_198 : decode code 198 = .ok (.ifCond .ne 15, 3) := by decide +kernel
theorem d_law_201 : decode code 201 = .ok (.aload_n 3, 1) := by decide +kernel
theorem d_law_202 : decode code 202 = .ok (.iconst 0, 1) := by decide +kernel
theorem d_law_203 : decode code 203 = .ok (.laload, 1) := by decide +kernel
theorem d_law_204 : decode code 204 = .ok (.iload 6, 2) := by decide +kernel
theorem d_law_206 : decode code 206 = .ok (.i2l, 1) := by decide +kernel
theorem d_law_207 : decode code 207 = .ok (.lcmp, 1) := by decide +kernel
theorem d_law_208 : decode code 208 = .ok (.ifCond .eq 5, 3) := by decide +kernel
theorem d_law_211 : decode code 211 = .ok (.iconst 0, 1) := by decide +kernel
theorem d_law_212 : decode code 212 = .ok (.ireturn, 1) := by decide +kernel
theorem d_law_213 : decode code 213 = .ok (.goto 607, 3) := by decide +kernel
theorem d_law_216 : decode code 216 = .ok (.aload_n 1, 1) := by decide +kernel
theorem d_law_217 : decode code 217 = .ok (.aload_n 0, 1) := by decide +kernel
theorem d_law_218 : decode code 218 = .ok (.iload 4, 2) := by decide +kernel
theorem d_law_220 : decode code 220 = .ok (.iconst 1, 1) := by decide +kernel
theorem d_law_221 : decode code 221 = .ok (.iadd, 1) := by decide +kernel
theorem d_law_222 : decode code 222 = .ok (.iaload, 1) := by decide +kernel
theorem d_law_223 : decode code 223 = .ok (.aload_n 0, 1) := by decide +kernel
theorem d_law_224 : decode code 224 = .ok (.iload 4, 2) := by decide +kernel
theorem d_law_226 : decode code 226 = .ok (.iconst 2, 1) := by decide +kernel
theorem d_law_227 : decode code 227 = .ok (.iadd, 1) := by decide +kernel
theorem d_law_228 : decode code 228 = .ok (.iaload, 1) := by decide +kernel
theorem d_law_229 : decode code 229 = .ok (.aload_n 3, 1) := by decide +kernel
theorem d_law_230 : decode code 230 = .ok (.invokestatic 50, 3) := by decide +kernel
theorem d_law_233 : decode code 233 = .ok (.istore 5, 2) := by decide +kernel
theorem d_law_235 : decode code 235 = .ok (.aload_n 2, 1) := by decide +kernel
theorem d_law_236 : decode code 236 = .ok (.aload_n 0, 1) := by decide +kernel
theorem d_law_237 : decode code 237 = .ok (.iload 4, 2) := by decide +kernel
theorem d_law_239 : decode code 239 = .ok (.iconst 1, 1) := by decide +kernel
theorem d_law_240 : decode code 240 = .ok (.iadd, 1) := by decide +kernel
theorem d_law_241 : decode code 241 = .ok (.iaload, 1) := by decide +kernel
theorem d_law_242 : decode code 242 = .ok (.aload_n 0, 1) := by decide +kernel
theorem d_law_243 : decode code 243 = .ok (.iload 4, 2) := by decide +kernel
theorem d_law_245 : decode code 245 = .ok (.iconst 2, 1) := by decide +kernel
theorem d_law_246 : decode code 246 = .ok (.iadd, 1) := by decide +kernel
theorem d_law_247 : decode code 247 = .ok (.iaload, 1) := by decide +kernel
theorem d_law_248 : decode code 248 = .ok (.invokevirtual 52, 3) := by decide +kernel
theorem d_law_251 : decode code 251 = .ok (.istore 6, 2) := by decide +kernel
theorem d_law_253 : decode code 253 = .ok (.aload_n 2, 1) := by decide +kernel
theorem d_law_254 : decode code 254 = .ok (.invokevirtual 46, 3) := by decide +kernel
theorem d_law_257 : decode code 257 = .ok (.iload 5, 2) := by decide +kernel
theorem d_law_259 : decode code 259 = .ok (.if_icmp .eq 5, 3) := by decide +kernel
theorem d_law_262 : decode code 262 = .ok (.iconst 0, 1) := by decide +kernel
theorem d_law_263 : decode code 263 = .ok (.ireturn, 1) := by decide +kernel
theorem d_law_264 : decode code 264 = .ok (.iload 5, 2) := by decide +kernel
theorem d_law_266 : decode code 266 = .ok (.ifCond .ne 15, 3) := by decide +kernel
theorem d_law_269 : decode code 269 = .ok (.aload_n 3, 1) := by decide +kernel
theorem d_law_270 : decode code 270 = .ok (.iconst 0, 1) := by decide +kernel
theorem d_law_271 : decode code 271 = .ok (.laload, 1) := by decide +kernel
theorem d_law_272 : decode code 272 = .ok (.iload 6, 2) := by decide +kernel
theorem d_law_274 : decode code 274 = .ok (.i2l, 1) := by decide +kernel
theorem d_law_275 : decode code 275 = .ok (.lcmp, 1) := by decide +kernel
theorem d_law_276 : decode code 276 = .ok (.ifCond .eq 5, 3) := by decide +kernel
theorem d_law_279 : decode code 279 = .ok (.iconst 0, 1) := by decide +kernel
theorem d_law_280 : decode code 280 = .ok (.ireturn, 1) := by decide +kernel
theorem d_law_281 : decode code 281 = .ok (.goto 539, 3) := by decide +kernel
theorem d_law_284 : decode code 284 = .ok (.aload_n 1, 1) := by decide +kernel
theorem d_law_285 : decode code 285 = .ok (.invokestatic 53, 3) := by decide +kernel
theorem d_law_288 : decode code 288 = .ok (.istore 5, 2) := by decide +kernel
theorem d_law_290 : decode code 290 = .ok (.aload_n 2, 1) := by decide +kernel
theorem d_law_291 : decode code 291 = .ok (.invokevirtual 56, 3) := by decide +kernel
theorem d_law_294 : decode code 294 = .ok (.aload_n 2, 1) := by decide +kernel
theorem d_law_295 : decode code 295 = .ok (.invokevirtual 46, 3) := by decide +kernel
theorem d_law_298 : decode code 298 = .ok (.iload 5, 2) := by decide +kernel
theorem d_law_300 : decode code 300 = .ok (.if_icmp .eq 5, 3) := by decide +kernel
theorem d_law_303 : decode code 303 = .ok (.iconst 0, 1) := by decide +kernel
theorem d_law_304 : decode code 304 = .ok (.ireturn, 1) := by decide +kernel
theorem d_law_305 : decode code 305 = .ok (.goto 515, 3) := by decide +kernel
theorem d_law_308 : decode code 308 = .ok (.aload_n 1, 1) := by decide +kernel
theorem d_law_309 : decode code 309 = .ok (.invokevirtual 57, 3) := by decide +kernel
theorem d_law_312 : decode code 312 = .ok (.aload_n 2, 1) := by decide +kernel
theorem d_law_313 : decode code 313 = .ok (.invokevirtual 60, 3) := by decide +kernel
theorem d_law_316 : decode code 316 = .ok (.if_icmp .eq 504, 3) := by decide +kernel
theorem d_law_319 : decode code 319 = .ok (.iconst 0, 1) := by decide +kernel
theorem d_law_320 : decode code 320 = .ok (.ireturn, 1) := by decide +kernel
theorem d_law_321 : decode code 321 = .ok (.aload_n 1, 1) := by decide +kernel
theorem d_law_322 : decode code 322 = .ok (.aload_n 0, 1) := by decide +kernel
theorem d_law_323 : decode code 323 = .ok (.iload 4, 2) := by decide +kernel
theorem d_law_325 : decode code 325 = .ok (.iconst 1, 1) := by decide +kernel
theorem d_law_326 : decode code 326 = .ok (.iadd, 1) := by decide +kernel
theorem d_law_327 : decode code 327 = .ok (.iaload, 1) := by decide +kernel
theorem d_law_328 : decode code 328 = .ok (.aload_n 3, 1) := by decide +kernel
theorem d_law_329 : decode code 329 = .ok (.invokestatic 61, 3) := by decide +kernel
theorem d_law_332 : decode code 332 = .ok (.istore 5, 2) := by decide +kernel
theorem d_law_334 : decode code 334 = .ok (.aload_n 2, 1) := by decide +kernel
theorem d_law_335 : decode code 335 = .ok (.aload_n 0, 1) := by decide +kernel
theorem d_law_336 : decode code 336 = .ok (.iload 4, 2) := by decide +kernel
theorem d_law_338 : decode code 338 = .ok (.iconst 1, 1) := by decide +kernel
theorem d_law_339 : decode code 339 = .ok (.iadd, 1) := by decide +kernel
theorem d_law_340 : decode code 340 = .ok (.iaload, 1) := by decide +kernel
theorem d_law_341 : decode code 341 = .ok (.invokevirtual 64, 3) := by decide +kernel
theorem d_law_344 : decode code 344 = .ok (.istore 6, 2) := by decide +kernel
theorem d_law_346 : decode code 346 = .ok (.aload_n 2, 1) := by decide +kernel
theorem d_law_347 : decode code 347 = .ok (.invokevirtual 46, 3) := by decide +kernel
theorem d_law_350 : decode code 350 = .ok (.iload 5, 2) := by decide +kernel
theorem d_law_352 : decode code 352 = .ok (.if_icmp .eq 5, 3) := by decide +kernel
theorem d_law_355 : decode code 355 = .ok (.iconst 0, 1) := by decide +kernel
theorem d_law_356 : decode code 356 = .ok (.ireturn, 1) := by decide +kernel
theorem d_law_357 : decode code 357 = .ok (.iload 5, 2) := by decide +kernel
theorem d_law_359 : decode code 359 = .ok (.ifCond .ne 15, 3) := by decide +kernel
theorem d_law_362 : decode code 362 = .ok (.aload_n 3, 1) := by decide +kernel
theorem d_law_363 : decode code 363 = .ok (.iconst 0, 1) := by decide +kernel
theorem d_law_364 : decode code 364 = .ok (.laload, 1) := by decide +kernel
theorem d_law_365 : decode code 365 = .ok (.iload 6, 2) := by decide +kernel
theorem d_law_367 : decode code 367 = .ok (.i2l, 1) := by decide +kernel
theorem d_law_368 : decode code 368 = .ok (.lcmp, 1) := by decide +kernel
theorem d_law_369 : decode code 369 = .ok (.ifCond .eq 5, 3) := by decide +kernel
theorem d_law_372 : decode code 372 = .ok (.iconst 0, 1) := by decide +kernel
theorem d_law_373 : decode code 373 = .ok (.ireturn, 1) := by decide +kernel
theorem d_law_374 : decode code 374 = .ok (.goto 446, 3) := by decide +kernel
theorem d_law_377 : decode code 377 = .ok (.aload_n 1, 1) := by decide +kernel
theorem d_law_378 : decode code 378 = .ok (.aload_n 0, 1) := by decide +kernel
theorem d_law_379 : decode code 379 = .ok (.iload 4, 2) := by decide +kernel
theorem d_law_381 : decode code 381 = .ok (.iconst 1, 1) := by decide +kernel
theorem d_law_382 : decode code 382 = .ok (.iadd, 1) := by decide +kernel
theorem d_law_383 : decode code 383 = .ok (.iaload, 1) := by decide +kernel
theorem d_law_384 : decode code 384 = .ok (.aload_n 0, 1) := by decide +kernel
theorem d_law_385 : decode code 385 = .ok (.iload 4, 2) := by decide +kernel
theorem d_law_387 : decode code 387 = .ok (.iconst 2, 1) := by decide +kernel
theorem d_law_388 : decode code 388 = .ok (.iadd, 1) := by decide +kernel
theorem d_law_389 : decode code 389 = .ok (.iaload, 1) := by decide +kernel
theorem d_law_390 : decode code 390 = .ok (.aload_n 3, 1) := by decide +kernel
theorem d_law_391 : decode code 391 = .ok (.invokestatic 65, 3) := by decide +kernel
theorem d_law_394 : decode code 394 = .ok (.istore 5, 2) := by decide +kernel
theorem d_law_396 : decode code 396 = .ok (.aload_n 2, 1) := by decide +kernel
theorem d_law_397 : decode code 397 = .ok (.aload_n 0, 1) := by decide +kernel
theorem d_law_398 : decode code 398 = .ok (.iload 4, 2) := by decide +kernel
theorem d_law_400 : decode code 400 = .ok (.iconst 1, 1) := by decide +kernel
theorem d_law_401 : decode code 401 = .ok (.iadd, 1) := by decide +kernel
theorem d_law_402 : decode code 402 = .ok (.iaload, 1) := by decide +kernel
theorem d_law_403 : decode code 403 = .ok (.aload_n 0, 1) := by decide +kernel
theorem d_law_404 : decode code 404 = .ok (.iload 4, 2) := by decide +kernel
theorem d_law_406 : decode code 406 = .ok (.iconst 2, 1) := by decide +kernel
theorem d_law_407 : decode code 407 = .ok (.iadd, 1) := by decide +kernel
theorem d_law_408 : decode code 408 = .ok (.iaload, 1) := by decide +kernel
theorem d_law_409 : decode code 409 = .ok (.invokevirtual 67, 3) := by decide +kernel
theorem d_law_412 : decode code 412 = .ok (.istore 6, 2) := by decide +kernel
theorem d_law_414 : decode code 414 = .ok (.aload_n 2, 1) := by decide +kernel
theorem d_law_415 : decode code 415 = .ok (.invokevirtual 46, 3) := by decide +kernel
theorem d_law_418 : decode code 418 = .ok (.iload 5, 2) := by decide +kernel
theorem d_law_420 : decode code 420 = .ok (.if_icmp .eq 5, 3) := by decide +kernel
theorem d_law_423 : decode code 423 = .ok (.iconst 0, 1) := by decide +kernel
theorem d_law_424 : decode code 424 = .ok (.ireturn, 1) := by decide +kernel
theorem d_law_425 : decode code 425 = .ok (.iload 5, 2) := by decide +kernel
theorem d_law_427 : decode code 427 = .ok (.ifCond .ne 15, 3) := by decide +kernel
theorem d_law_430 : decode code 430 = .ok (.aload_n 3, 1) := by decide +kernel
theorem d_law_431 : decode code 431 = .ok (.iconst 0, 1) := by decide +kernel
theorem d_law_432 : decode code 432 = .ok (.laload, 1) := by decide +kernel
theorem d_law_433 : decode code 433 = .ok (.iload 6, 2) := by decide +kernel
theorem d_law_435 : decode code 435 = .ok (.i2l, 1) := by decide +kernel
theorem d_law_436 : decode code 436 = .ok (.lcmp, 1) := by decide +kernel
theorem d_law_437 : decode code 437 = .ok (.ifCond .eq 5, 3) := by decide +kernel
theorem d_law_440 : decode code 440 = .ok (.iconst 0, 1) := by decide +kernel
theorem d_law_441 : decode code 441 = .ok (.ireturn, 1) := by decide +kernel
theorem d_law_442 : decode code 442 = .ok (.goto 378, 3) := by decide +kernel
theorem d_law_445 : decode code 445 = .ok (.aload_n 1, 1) := by decide +kernel
theorem d_law_446 : decode code 446 = .ok (.aload_n 0, 1) := by decide +kernel
theorem d_law_447 : decode code 447 = .ok (.iload 4, 2) := by decide +kernel
theorem d_law_449 : decode code 449 = .ok (.iconst 1, 1) := by decide +kernel
theorem d_law_450 : decode code 450 = .ok (.iadd, 1) := by decide +kernel
theorem d_law_451 : decode code 451 = .ok (.iaload, 1) := by decide +kernel
theorem d_law_452 : decode code 452 = .ok (.invokevirtual 68, 3) := by decide +kernel
theorem d_law_455 : decode code 455 = .ok (.aload_n 2, 1) := by decide +kernel
theorem d_law_456 : decode code 456 = .ok (.aload_n 0, 1) := by decide +kernel
theorem d_law_457 : decode code 457 = .ok (.iload 4, 2) := by decide +kernel
theorem d_law_459 : decode code 459 = .ok (.iconst 1, 1) := by decide +kernel
theorem d_law_460 : decode code 460 = .ok (.iadd, 1) := by decide +kernel
theorem d_law_461 : decode code 461 = .ok (.iaload, 1) := by decide +kernel
theorem d_law_462 : decode code 462 = .ok (.invokevirtual 72, 3) := by decide +kernel
theorem d_law_465 : decode code 465 = .ok (.if_icmp .eq 355, 3) := by decide +kernel
theorem d_law_468 : decode code 468 = .ok (.iconst 0, 1) := by decide +kernel
theorem d_law_469 : decode code 469 = .ok (.ireturn, 1) := by decide +kernel
theorem d_law_470 : decode code 470 = .ok (.aload_n 1, 1) := by decide +kernel
theorem d_law_471 : decode code 471 = .ok (.invokevirtual 73, 3) := by decide +kernel
theorem d_law_474 : decode code 474 = .ok (.aload_n 2, 1) := by decide +kernel
theorem d_law_475 : decode code 475 = .ok (.invokevirtual 77, 3) := by decide +kernel
theorem d_law_478 : decode code 478 = .ok (.if_icmp .eq 342, 3) := by decide +kernel
theorem d_law_481 : decode code 481 = .ok (.iconst 0, 1) := by decide +kernel
theorem d_law_482 : decode code 482 = .ok (.ireturn, 1) := by decide +kernel
theorem d_law_483 : decode code 483 = .ok (.aload_n 1, 1) := by decide +kernel
theorem d_law_484 : decode code 484 = .ok (.invokevirtual 78, 3) := by decide +kernel
theorem d_law_487 : decode code 487 = .ok (.aload_n 2, 1) := by decide +kernel
theorem d_law_488 : decode code 488 = .ok (.invokevirtual 81, 3) := by decide +kernel
theorem d_law_491 : decode code 491 = .ok (.if_icmp .eq 329, 3) := by decide +kernel
theorem d_law_494 : decode code 494 = .ok (.iconst 0, 1) := by decide +kernel
theorem d_law_495 : decode code 495 = .ok (.ireturn, 1) := by decide +kernel
theorem d_law_496 : decode code 496 = .ok (.aload_n 1, 1) := by decide +kernel
theorem d_law_497 : decode code 497 = .ok (.invokevirtual 82, 3) := by decide +kernel
theorem d_law_500 : decode code 500 = .ok (.aload_n 2, 1) := by decide +kernel
theorem d_law_501 : decode code 501 = .ok (.invokevirtual 85, 3) := by decide +kernel
theorem d_law_504 : decode code 504 = .ok (.if_icmp .eq 316, 3) := by decide +kernel
theorem d_law_507 : decode code 507 = .ok (.iconst 0, 1) := by decide +kernel
theorem d_law_508 : decode code 508 = .ok (.ireturn, 1) := by decide +kernel
theorem d_law_509 : decode code 509 = .ok (.aload_n 1, 1) := by decide +kernel
theorem d_law_510 : decode code 510 = .ok (.aload_n 0, 1) := by decide +kernel
theorem d_law_511 : decode code 511 = .ok (.iload 4, 2) := by decide +kernel
theorem d_law_513 : decode code 513 = .ok (.iconst 1, 1) := by decide +kernel
theorem d_law_514 : decode code 514 = .ok (.iadd, 1) := by decide +kernel
theorem d_law_515 : decode code 515 = .ok (.iaload, 1) := by decide +kernel
theorem d_law_516 : decode code 516 = .ok (.invokevirtual 86, 3) := by decide +kernel
theorem d_law_519 : decode code 519 = .ok (.aload_n 2, 1) := by decide +kernel
theorem d_law_520 : decode code 520 = .ok (.aload_n 0, 1) := by decide +kernel
theorem d_law_521 : decode code 521 = .ok (.iload 4, 2) := by decide +kernel
theorem d_law_523 : decode code 523 = .ok (.iconst 1, 1) := by decide +kernel
theorem d_law_524 : decode code 524 = .ok (.iadd, 1) := by decide +kernel
theorem d_law_525 : decode code 525 = .ok (.iaload, 1) := by decide +kernel
theorem d_law_526 : decode code 526 = .ok (.invokevirtual 89, 3) := by decide +kernel
theorem d_law_529 : decode code 529 = .ok (.if_icmp .eq 291, 3) := by decide +kernel
theorem d_law_532 : decode code 532 = .ok (.iconst 0, 1) := by decide +kernel
theorem d_law_533 : decode code 533 = .ok (.ireturn, 1) := by decide +kernel
theorem d_law_534 : decode code 534 = .ok (.aload_n 1, 1) := by decide +kernel
theorem d_law_535 : decode code 535 = .ok (.aload_n 0, 1) := by decide +kernel
theorem d_law_536 : decode code 536 = .ok (.iload 4, 2) := by decide +kernel
theorem d_law_538 : decode code 538 = .ok (.iconst 1, 1) := by decide +kernel
theorem d_law_539 : decode code 539 = .ok (.iadd, 1) := by decide +kernel
theorem d_law_540 : decode code 540 = .ok (.iaload, 1) := by decide +kernel
theorem d_law_541 : decode code 541 = .ok (.invokevirtual 90, 3) := by decide +kernel
theorem d_law_544 : decode code 544 = .ok (.aload_n 2, 1) := by decide +kernel
theorem d_law_545 : decode code 545 = .ok (.aload_n 0, 1) := by decide +kernel
theorem d_law_546 : decode code 546 = .ok (.iload 4, 2) := by decide +kernel
theorem d_law_548 : decode code 548 = .ok (.iconst 1, 1) := by decide +kernel
theorem d_law_549 : decode code 549 = .ok (.iadd, 1) := by decide +kernel
theorem d_law_550 : decode code 550 = .ok (.iaload, 1) := by decide +kernel
theorem d_law_551 : decode code 551 = .ok (.invokevirtual 93, 3) := by decide +kernel
theorem d_law_554 : decode code 554 = .ok (.if_icmp .eq 266, 3) := by decide +kernel
theorem d_law_557 : decode code 557 = .ok (.iconst 0, 1) := by decide +kernel
theorem d_law_558 : decode code 558 = .ok (.ireturn, 1) := by decide +kernel
theorem d_law_559 : decode code 559 = .ok (.aload_n 1, 1) := by decide +kernel
theorem d_law_560 : decode code 560 = .ok (.aload_n 0, 1) := by decide +kernel
theorem d_law_561 : decode code 561 = .ok (.iload 4, 2) := by decide +kernel
theorem d_law_563 : decode code 563 = .ok (.iconst 1, 1) := by decide +kernel
theorem d_law_564 : decode code 564 = .ok (.iadd, 1) := by decide +kernel
theorem d_law_565 : decode code 565 = .ok (.iaload, 1) := by decide +kernel
theorem d_law_566 : decode code 566 = .ok (.invokevirtual 94, 3) := by decide +kernel
theorem d_law_569 : decode code 569 = .ok (.aload_n 2, 1) := by decide +kernel
theorem d_law_570 : decode code 570 = .ok (.aload_n 0, 1) := by decide +kernel
theorem d_law_571 : decode code 571 = .ok (.iload 4, 2) := by decide +kernel
theorem d_law_573 : decode code 573 = .ok (.iconst 1, 1) := by decide +kernel
theorem d_law_574 : decode code 574 = .ok (.iadd, 1) := by decide +kernel
theorem d_law_575 : decode code 575 = .ok (.iaload, 1) := by decide +kernel
theorem d_law_576 : decode code 576 = .ok (.invokevirtual 97, 3) := by decide +kernel
theorem d_law_579 : decode code 579 = .ok (.if_icmp .eq 241, 3) := by decide +kernel
theorem d_law_582 : decode code 582 = .ok (.iconst 0, 1) := by decide +kernel
theorem d_law_583 : decode code 583 = .ok (.ireturn, 1) := by decide +kernel
theorem d_law_584 : decode code 584 = .ok (.aload_n 1, 1) := by decide +kernel
theorem d_law_585 : decode code 585 = .ok (.aload_n 0, 1) := by decide +kernel
theorem d_law_586 : decode code 586 = .ok (.iload 4, 2) := by decide +kernel
theorem d_law_588 : decode code 588 = .ok (.iconst 1, 1) := by decide +kernel
theorem d_law_589 : decode code 589 = .ok (.iadd, 1) := by decide +kernel
theorem d_law_590 : decode code 590 = .ok (.iaload, 1) := by decide +kernel
theorem d_law_591 : decode code 591 = .ok (.aload_n 0, 1) := by decide +kernel
theorem d_law_592 : decode code 592 = .ok (.iload 4, 2) := by decide +kernel
theorem d_law_594 : decode code 594 = .ok (.iconst 2, 1) := by decide +kernel
theorem d_law_595 : decode code 595 = .ok (.iadd, 1) := by decide +kernel
theorem d_law_596 : decode code 596 = .ok (.iaload, 1) := by decide +kernel
theorem d_law_597 : decode code 597 = .ok (.invokevirtual 98, 3) := by decide +kernel
theorem d_law_600 : decode code 600 = .ok (.aload_n 2, 1) := by decide +kernel
theorem d_law_601 : decode code 601 = .ok (.aload_n 0, 1) := by decide +kernel
theorem d_law_602 : decode code 602 = .ok (.iload 4, 2) := by decide +kernel
theorem d_law_604 : decode code 604 = .ok (.iconst 1, 1) := by decide +kernel
theorem d_law_605 : decode code 605 = .ok (.iadd, 1) := by decide +kernel
theorem d_law_606 : decode code 606 = .ok (.iaload, 1) := by decide +kernel
theorem d_law_607 : decode code 607 = .ok (.aload_n 0, 1) := by decide +kernel
theorem d_law_608 : decode code 608 = .ok (.iload 4, 2) := by decide +kernel
theorem d_law_610 : decode code 610 = .ok (.iconst 2, 1) := by decide +kernel
theorem d_law_611 : decode code 611 = .ok (.iadd, 1) := by decide +kernel
theorem d_law_612 : decode code 612 = .ok (.iaload, 1) := by decide +kernel
theorem d_law_613 : decode code 613 = .ok (.invokevirtual 101, 3) := by decide +kernel
theorem d_law_616 : decode code 616 = .ok (.if_icmp .eq 204, 3) := by decide +kernel
theorem d_law_619 : decode code 619 = .ok (.iconst 0, 1) := by decide +kernel
theorem d_law_620 : decode code 620 = .ok (.ireturn, 1) := by decide +kernel
theorem d_law_621 : decode code 621 = .ok (.aload_n 1, 1) := by decide +kernel
theorem d_law_622 : decode code 622 = .ok (.aload_n 0, 1) := by decide +kernel
theorem d_law_623 : decode code 623 = .ok (.iload 4, 2) := by decide +kernel
theorem d_law_625 : decode code 625 = .ok (.iconst 1, 1) := by decide +kernel
theorem d_law_626 : decode code 626 = .ok (.iadd, 1) := by decide +kernel
theorem d_law_627 : decode code 627 = .ok (.iaload, 1) := by decide +kernel
theorem d_law_628 : decode code 628 = .ok (.aload_n 0, 1) := by decide +kernel
theorem d_law_629 : decode code 629 = .ok (.iload 4, 2) := by decide +kernel
theorem d_law_631 : decode code 631 = .ok (.iconst 2, 1) := by decide +kernel
theorem d_law_632 : decode code 632 = .ok (.iadd, 1) := by decide +kernel
theorem d_law_633 : decode code 633 = .ok (.iaload, 1) := by decide +kernel
theorem d_law_634 : decode code 634 = .ok (.aload_n 0, 1) := by decide +kernel
theorem d_law_635 : decode code 635 = .ok (.iload 4, 2) := by decide +kernel
theorem d_law_637 : decode code 637 = .ok (.iconst 3, 1) := by decide +kernel
theorem d_law_638 : decode code 638 = .ok (.iadd, 1) := by decide +kernel
theorem d_law_639 : decode code 639 = .ok (.iaload, 1) := by decide +kernel
theorem d_law_640 : decode code 640 = .ok (.invokevirtual 102, 3) := by decide +kernel
theorem d_law_643 : decode code 643 = .ok (.aload_n 2, 1) := by decide +kernel
theorem d_law_644 : decode code 644 = .ok (.aload_n 0, 1) := by decide +kernel
theorem d_law_645 : decode code 645 = .ok (.iload 4, 2) := by decide +kernel
theorem d_law_647 : decode code 647 = .ok (.iconst 1, 1) := by decide +kernel
theorem d_law_648 : decode code 648 = .ok (.iadd, 1) := by decide +kernel
theorem d_law_649 : decode code 649 = .ok (.iaload, 1) := by decide +kernel
theorem d_law_650 : decode code 650 = .ok (.aload_n 0, 1) := by decide +kernel
theorem d_law_651 : decode code 651 = .ok (.iload 4, 2) := by decide +kernel
theorem d_law_653 : decode code 653 = .ok (.iconst 2, 1) := by decide +kernel
theorem d_law_654 : decode code 654 = .ok (.iadd, 1) := by decide +kernel
theorem d_law_655 : decode code 655 = .ok (.iaload, 1) := by decide +kernel
theorem d_law_656 : decode code 656 = .ok (.aload_n 0, 1) := by decide +kernel
theorem d_law_657 : decode code 657 = .ok (.iload 4, 2) := by decide +kernel
theorem d_law_659 : decode code 659 = .ok (.iconst 3, 1) := by decide +kernel
theorem d_law_660 : decode code 660 = .ok (.iadd, 1) := by decide +kernel
theorem d_law_661 : decode code 661 = .ok (.iaload, 1) := by decide +kernel
theorem d_law_662 : decode code 662 = .ok (.invokevirtual 106, 3) := by decide +kernel
theorem d_law_665 : decode code 665 = .ok (.if_icmp .eq 155, 3) := by decide +kernel
theorem d_law_668 : decode code 668 = .ok (.iconst 0, 1) := by decide +kernel
theorem d_law_669 : decode code 669 = .ok (.ireturn, 1) := by decide +kernel
theorem d_law_670 : decode code 670 = .ok (.aload_n 1, 1) := by decide +kernel
theorem d_law_671 : decode code 671 = .ok (.aload_n 0, 1) := by decide +kernel
theorem d_law_672 : decode code 672 = .ok (.iload 4, 2) := by decide +kernel
theorem d_law_674 : decode code 674 = .ok (.iconst 1, 1) := by decide +kernel
theorem d_law_675 : decode code 675 = .ok (.iadd, 1) := by decide +kernel
theorem d_law_676 : decode code 676 = .ok (.iaload, 1) := by decide +kernel
theorem d_law_677 : decode code 677 = .ok (.invokevirtual 107, 3) := by decide +kernel
theorem d_law_680 : decode code 680 = .ok (.aload_n 2, 1) := by decide +kernel
theorem d_law_681 : decode code 681 = .ok (.aload_n 0, 1) := by decide +kernel
theorem d_law_682 : decode code 682 = .ok (.iload 4, 2) := by decide +kernel
theorem d_law_684 : decode code 684 = .ok (.iconst 1, 1) := by decide +kernel
theorem d_law_685 : decode code 685 = .ok (.iadd, 1) := by decide +kernel
theorem d_law_686 : decode code 686 = .ok (.iaload, 1) := by decide +kernel
theorem d_law_687 : decode code 687 = .ok (.invokevirtual 110, 3) := by decide +kernel
theorem d_law_690 : decode code 690 = .ok (.if_icmp .eq 130, 3) := by decide +kernel
theorem d_law_693 : decode code 693 = .ok (.iconst 0, 1) := by decide +kernel
theorem d_law_694 : decode code 694 = .ok (.ireturn, 1) := by decide +kernel
theorem d_law_695 : decode code 695 = .ok (.aload_n 1, 1) := by decide +kernel
theorem d_law_696 : decode code 696 = .ok (.invokevirtual 111, 3) := by decide +kernel
theorem d_law_699 : decode code 699 = .ok (.aload_n 2, 1) := by decide +kernel
theorem d_law_700 : decode code 700 = .ok (.invokevirtual 114, 3) := by decide +kernel
theorem d_law_703 : decode code 703 = .ok (.if_icmp .eq 117, 3) := by decide +kernel
theorem d_law_706 : decode code 706 = .ok (.iconst 0, 1) := by decide +kernel
theorem d_law_707 : decode code 707 = .ok (.ireturn, 1) := by decide +kernel
theorem d_law_708 : decode code 708 = .ok (.aload_n 1, 1) := by decide +kernel
theorem d_law_709 : decode code 709 = .ok (.invokevirtual 115, 3) := by decide +kernel
theorem d_law_712 : decode code 712 = .ok (.aload_n 2, 1) := by decide +kernel
theorem d_law_713 : decode code 713 = .ok (.invokevirtual 118, 3) := by decide +kernel
theorem d_law_716 : decode code 716 = .ok (.if_icmp .eq 104, 3) := by decide +kernel
theorem d_law_719 : decode code 719 = .ok (.iconst 0, 1) := by decide +kernel
theorem d_law_720 : decode code 720 = .ok (.ireturn, 1) := by decide +kernel
theorem d_law_721 : decode code 721 = .ok (.aload_n 1, 1) := by decide +kernel
theorem d_law_722 : decode code 722 = .ok (.aload_n 0, 1) := by decide +kernel
theorem d_law_723 : decode code 723 = .ok (.iload 4, 2) := by decide +kernel
theorem d_law_725 : decode code 725 = .ok (.iconst 1, 1) := by decide +kernel
theorem d_law_726 : decode code 726 = .ok (.iadd, 1) := by decide +kernel
theorem d_law_727 : decode code 727 = .ok (.iaload, 1) := by decide +kernel
theorem d_law_728 : decode code 728 = .ok (.invokevirtual 119, 3) := by decide +kernel
theorem d_law_731 : decode code 731 = .ok (.aload_n 2, 1) := by decide +kernel
theorem d_law_732 : decode code 732 = .ok (.aload_n 0, 1) := by decide +kernel
theorem d_law_733 : decode code 733 = .ok (.iload 4, 2) := by decide +kernel
theorem d_law_735 : decode code 735 = .ok (.iconst 1, 1) := by decide +kernel
theorem d_law_736 : decode code 736 = .ok (.iadd, 1) := by decide +kernel
theorem d_law_737 : decode code 737 = .ok (.iaload, 1) := by decide +kernel
theorem d_law_738 : decode code 738 = .ok (.invokevirtual 122, 3) := by decide +kernel
theorem d_law_741 : decode code 741 = .ok (.if_icmp .eq 79, 3) := by decide +kernel
theorem d_law_744 : decode code 744 = .ok (.iconst 0, 1) := by decide +kernel
theorem d_law_745 : decode code 745 = .ok (.ireturn, 1) := by decide +kernel
theorem d_law_746 : decode code 746 = .ok (.aload_n 1, 1) := by decide +kernel
theorem d_law_747 : decode code 747 = .ok (.aload_n 0, 1) := by decide +kernel
theorem d_law_748 : decode code 748 = .ok (.iload 4, 2) := by decide +kernel
theorem d_law_750 : decode code 750 = .ok (.iconst 1, 1) := by decide +kernel
theorem d_law_751 : decode code 751 = .ok (.iadd, 1) := by decide +kernel
theorem d_law_752 : decode code 752 = .ok (.iaload, 1) := by decide +kernel
theorem d_law_753 : decode code 753 = .ok (.aload_n 0, 1) := by decide +kernel
theorem d_law_754 : decode code 754 = .ok (.iload 4, 2) := by decide +kernel
theorem d_law_756 : decode code 756 = .ok (.iconst 2, 1) := by decide +kernel
theorem d_law_757 : decode code 757 = .ok (.iadd, 1) := by decide +kernel
theorem d_law_758 : decode code 758 = .ok (.iaload, 1) := by decide +kernel
theorem d_law_759 : decode code 759 = .ok (.invokevirtual 123, 3) := by decide +kernel
theorem d_law_762 : decode code 762 = .ok (.aload_n 2, 1) := by decide +kernel
theorem d_law_763 : decode code 763 = .ok (.aload_n 0, 1) := by decide +kernel
theorem d_law_764 : decode code 764 = .ok (.iload 4, 2) := by decide +kernel
theorem d_law_766 : decode code 766 = .ok (.iconst 1, 1) := by decide +kernel
theorem d_law_767 : decode code 767 = .ok (.iadd, 1) := by decide +kernel
theorem d_law_768 : decode code 768 = .ok (.iaload, 1) := by decide +kernel
theorem d_law_769 : decode code 769 = .ok (.aload_n 0, 1) := by decide +kernel
theorem d_law_770 : decode code 770 = .ok (.iload 4, 2) := by decide +kernel
theorem d_law_772 : decode code 772 = .ok (.iconst 2, 1) := by decide +kernel
theorem d_law_773 : decode code 773 = .ok (.iadd, 1) := by decide +kernel
theorem d_law_774 : decode code 774 = .ok (.iaload, 1) := by decide +kernel
theorem d_law_775 : decode code 775 = .ok (.invokevirtual 126, 3) := by decide +kernel
theorem d_law_778 : decode code 778 = .ok (.if_icmp .eq 42, 3) := by decide +kernel
theorem d_law_781 : decode code 781 = .ok (.iconst 0, 1) := by decide +kernel
theorem d_law_782 : decode code 782 = .ok (.ireturn, 1) := by decide +kernel
theorem d_law_783 : decode code 783 = .ok (.aload_n 1, 1) := by decide +kernel
theorem d_law_784 : decode code 784 = .ok (.aload_n 0, 1) := by decide +kernel
theorem d_law_785 : decode code 785 = .ok (.iload 4, 2) := by decide +kernel
theorem d_law_787 : decode code 787 = .ok (.iconst 1, 1) := by decide +kernel
theorem d_law_788 : decode code 788 = .ok (.iadd, 1) := by decide +kernel
theorem d_law_789 : decode code 789 = .ok (.iaload, 1) := by decide +kernel
theorem d_law_790 : decode code 790 = .ok (.aload_n 0, 1) := by decide +kernel
theorem d_law_791 : decode code 791 = .ok (.iload 4, 2) := by decide +kernel
theorem d_law_793 : decode code 793 = .ok (.iconst 2, 1) := by decide +kernel
theorem d_law_794 : decode code 794 = .ok (.iadd, 1) := by decide +kernel
theorem d_law_795 : decode code 795 = .ok (.iaload, 1) := by decide +kernel
theorem d_law_796 : decode code 796 = .ok (.invokevirtual 127, 3) := by decide +kernel
theorem d_law_799 : decode code 799 = .ok (.aload_n 2, 1) := by decide +kernel
theorem d_law_800 : decode code 800 = .ok (.aload_n 0, 1) := by decide +kernel
theorem d_law_801 : decode code 801 = .ok (.iload 4, 2) := by decide +kernel
theorem d_law_803 : decode code 803 = .ok (.iconst 1, 1) := by decide +kernel
theorem d_law_804 : decode code 804 = .ok (.iadd, 1) := by decide +kernel
theorem d_law_805 : decode code 805 = .ok (.iaload, 1) := by decide +kernel
theorem d_law_806 : decode code 806 = .ok (.aload_n 0, 1) := by decide +kernel
theorem d_law_807 : decode code 807 = .ok (.iload 4, 2) := by decide +kernel
theorem d_law_809 : decode code 809 = .ok (.iconst 2, 1) := by decide +kernel
theorem d_law_810 : decode code 810 = .ok (.iadd, 1) := by decide +kernel
theorem d_law_811 : decode code 811 = .ok (.iaload, 1) := by decide +kernel
theorem d_law_812 : decode code 812 = .ok (.invokevirtual 130, 3) := by decide +kernel
theorem d_law_815 : decode code 815 = .ok (.if_icmp .eq 5, 3) := by decide +kernel
theorem d_law_818 : decode code 818 = .ok (.iconst 0, 1) := by decide +kernel
theorem d_law_819 : decode code 819 = .ok (.ireturn, 1) := by decide +kernel
theorem d_law_820 : decode code 820 = .ok (.iinc 4 4, 3) := by decide +kernel
theorem d_law_823 : decode code 823 = .ok (.goto (-790), 3) := by decide +kernel
theorem d_law_826 : decode code 826 = .ok (.iconst 1, 1) := by decide +kernel
theorem d_law_827 : decode code 827 = .ok (.ireturn, 1) := by decide +kernel
