/-! THE CLAIM OUT OF ONE WALK OF THE LAW'S BODY. Your part is whole_start (and what it stands on); all else here is the same for every law, but numbers. -/
def R_law : String := "ReelOfficeLaw"
def lw_P (b : Addr) (xs : List Int32) (args : Array Value) (s : State) : Prop := args = #[.ref b] ∧ s.IntsAt b xs ∧ xs.length ≤ 2049 ∧ (Jvm.Cond.and given_1 narrow_1).before args s = true
def lw_Q (_ : Array Value) (s : State) (o : Outcome) (t : State) : Prop := o = .returned (some (.int 1)) ∧ Framed s o t [] 601024 7293000
def lw_Z (below : List Frame) (a : Array Value) (s : State) : State → Prop := fun t => ∃ o, t.status = .running ∧ Ended t below o ∧ lw_Q a s o t
/-- the law's own end, with 1 on the stack, nothing written that was there before, its room as the claim has it -/
theorem lw_ret {p : Program} {l : Launch} {e : Env} {s : State} {m : MethodId} {below : List Frame} {meth : Method} {c : Code} {b : Nat} (hx : p.tables.exec = Jvm.exec) (hb : c.code = code) (hr : meth.sig.returnType = ret) (hlocks : meth.locks = false) {pc : Nat} {H : Heap} {ls : Array Slot} (hdg : decode code pc = .ok (.ireturn, 1)) : W p l e room_1 s m #[Value.ref b] below meth c H [] 601024 7293000 (lw_Z below #[Value.ref b] s) (F0 m pc ls [.int 1]) := by
  intro T hT X
  obtain ⟨fs, hret, hrun, hended, hW, hframe⟩ := X.leave (v := some (.int 1)) (hlocks := hlocks) (fun h => by rw [hr] at h; cases h)
  have hmeth' : T.vm.method? m = some meth := X.method'
  refine ⟨T.setFrames fs, ?_, .returned (some (.int 1)), hrun, hended, rfl, ⟨_, rfl⟩, hW, hframe⟩
  jvm_step X.here [X.here.top, hx, hb, hdg, hmeth', hr, ret, narrow_b1]
  (try refine ⟨rfl, ?_⟩); (try refine ⟨rfl, ?_⟩)
  first | (intro acts; rw [hret _ acts rfl rfl rfl]) | rw [hret _ _ rfl rfl rfl]
  exact Steps.refl _
/-- what holds at the law's entry: the machine, the code, the tables' words (any of lw_tbl by 'hts w (by decide +kernel)'), the script of L ints xs at the cell b, what the Statement gives of the start (any of its parts by flat_of_before) -/
def lw_At (p : Program) (s : State) (m : MethodId) (meth : Method) (c : Code) (b L : Nat) (xs : Nat → Int32) : Prop :=
  p.tables.exec = Jvm.exec ∧ c.code = code ∧ meth.sig.returnType = ret ∧ c.maxLocals = 7 ∧ s.vm.findClass R_law = some m.cls ∧ (∀ w ∈ lw_tbl, w.before #[Value.ref b] s = true) ∧ va_X b L xs s s.heap ∧ b < s.heap.size ∧ meth.locks = false ∧ (Jvm.Cond.and given_1 narrow_1).before #[Value.ref b] s = true
theorem d_law_0 : decode code 0 = .ok (.new 8, 3) := by decide +kernel
theorem d_law_3 : decode code 3 = .ok (.dup, 1) := by decide +kernel
theorem d_law_4 : decode code 4 = .ok (.aload_n 0, 1) := by decide +kernel
theorem d_law_5 : decode code 5 = .ok (.iconst 0, 1) := by decide +kernel
theorem d_law_6 : decode code 6 = .ok (.invokestatic 30, 3) := by decide +kernel
theorem d_law_9 : decode code 9 = .ok (.invokespecial 36, 3) := by decide +kernel
theorem d_law_12 : decode code 12 = .ok (.astore_n 1, 1) := by decide +kernel
theorem d_law_13 : decode code 13 = .ok (.new 39, 3) := by decide +kernel
theorem d_law_16 : decode code 16 = .ok (.dup, 1) := by decide +kernel
theorem d_law_17 : decode code 17 = .ok (.aload_n 0, 1) := by decide +kernel
theorem d_law_18 : decode code 18 = .ok (.iconst 0, 1) := by decide +kernel
theorem d_law_19 : decode code 19 = .ok (.invokestatic 30, 3) := by decide +kernel
theorem d_law_22 : decode code 22 = .ok (.invokespecial 41, 3) := by decide +kernel
theorem d_law_25 : decode code 25 = .ok (.astore_n 2, 1) := by decide +kernel
theorem d_law_26 : decode code 26 = .ok (.iconst 1, 1) := by decide +kernel
theorem d_law_27 : decode code 27 = .ok (.newarray .long, 2) := by decide +kernel
theorem d_law_29 : decode code 29 = .ok (.astore_n 3, 1) := by decide +kernel
theorem d_law_30 : decode code 30 = .ok (.iconst 1, 1) := by decide +kernel
theorem d_law_31 : decode code 31 = .ok (.istore 4, 2) := by decide +kernel
theorem d_law_33 : decode code 33 = .ok (.iload 4, 2) := by decide +kernel
theorem d_law_35 : decode code 35 = .ok (.aload_n 0, 1) := by decide +kernel
theorem d_law_36 : decode code 36 = .ok (.arraylength, 1) := by decide +kernel
theorem d_law_37 : decode code 37 = .ok (.iconst 4, 1) := by decide +kernel
theorem d_law_38 : decode code 38 = .ok (.isub, 1) := by decide +kernel
theorem d_law_39 : decode code 39 = .ok (.if_icmp .gt 664, 3) := by decide +kernel
theorem d_law_42 : decode code 42 = .ok (.aload_n 0, 1) := by decide +kernel
theorem d_law_43 : decode code 43 = .ok (.iload 4, 2) := by decide +kernel
theorem d_law_45 : decode code 45 = .ok (.iaload, 1) := by decide +kernel
theorem d_law_46 : decode code 46 = .ok (.bipush 31, 2) := by decide +kernel
theorem d_law_48 : decode code 48 = .ok (.iand, 1) := by decide +kernel
theorem d_law_49 : decode code 49 = .ok (.tableswitch 648 0 20 #[99, 139, 179, 192, 205, 233, 273, 298, 311, 324, 337, 362, 387, 412, 449, 498, 523, 536, 549, 574, 611], 99) := by decide +kernel
theorem d_law_148 : decode code 148 = .ok (.aload_n 1, 1) := by decide +kernel
theorem d_law_149 : decode code 149 = .ok (.aload_n 0, 1) := by decide +kernel
theorem d_law_150 : decode code 150 = .ok (.iload 4, 2) := by decide +kernel
theorem d_law_152 : decode code 152 = .ok (.iconst 1, 1) := by decide +kernel
theorem d_law_153 : decode code 153 = .ok (.iadd, 1) := by decide +kernel
theorem d_law_154 : decode code 154 = .ok (.iaload, 1) := by decide +kernel
theorem d_law_155 : decode code 155 = .ok (.aload_n 0, 1) := by decide +kernel
theorem d_law_156 : decode code 156 = .ok (.iload 4, 2) := by decide +kernel
theorem d_law_158 : decode code 158 = .ok (.iconst 2, 1) := by decide +kernel
theorem d_law_159 : decode code 159 = .ok (.iadd, 1) := by decide +kernel
theorem d_law_160 : decode code 160 = .ok (.iaload, 1) := by decide +kernel
theorem d_law_161 : decode code 161 = .ok (.aload_n 3, 1) := by decide +kernel
theorem d_law_162 : decode code 162 = .ok (.invokestatic 42, 3) := by decide +kernel
theorem d_law_165 : decode code 165 = .ok (.istore 5, 2) := by decide +kernel
theorem d_law_167 : decode code 167 = .ok (.aload_n 2, 1) := by decide +kernel
theorem d_law_168 : decode code 168 = .ok (.aload_n 0, 1) := by decide +kernel
theorem d_law_169 : decode code 169 = .ok (.iload 4, 2) := by decide +kernel
theorem d_law_171 : decode code 171 = .ok (.iconst 1, 1) := by decide +kernel
theorem d_law_172 : decode code 172 = .ok (.iadd, 1) := by decide +kernel
theorem d_law_173 : decode code 173 = .ok (.iaload, 1) := by decide +kernel
theorem d_law_174 : decode code 174 = .ok (.aload_n 0, 1) := by decide +kernel
theorem d_law_175 : decode code 175 = .ok (.iload 4, 2) := by decide +kernel
theorem d_law_177 : decode code 177 = .ok (.iconst 2, 1) := by decide +kernel
theorem d_law_178 : decode code 178 = .ok (.iadd, 1) := by decide +kernel
theorem d_law_179 : decode code 179 = .ok (.iaload, 1) := by decide +kernel
theorem d_law_180 : decode code 180 = .ok (.invokevirtual 45, 3) := by decide +kernel
theorem d_law_183 : decode code 183 = .ok (.istore 6, 2) := by decide +kernel
theorem d_law_185 : decode code 185 = .ok (.goto 512, 3) := by decide +kernel
theorem d_law_188 : decode code 188 = .ok (.aload_n 1, 1) := by decide +kernel
theorem d_law_189 : decode code 189 = .ok (.aload_n 0, 1) := by decide +kernel
theorem d_law_190 : decode code 190 = .ok (.iload 4, 2) := by decide +kernel
theorem d_law_192 : decode code 192 = .ok (.iconst 1, 1) := by decide +kernel
theorem d_law_193 : decode code 193 = .ok (.iadd, 1) := by decide +kernel
theorem d_law_194 : decode code 194 = .ok (.iaload, 1) := by decide +kernel
theorem d_law_195 : decode code 195 = .ok (.aload_n 0, 1) := by decide +kernel
theorem d_law_196 : decode code 196 = .ok (.iload 4, 2) := by decide +kernel
theorem d_law_198 : decode code 198 = .ok (.iconst 2, 1) := by decide +kernel
theorem d_law_199 : decode code 199 = .ok (.iadd, 1) := by decide +kernel
theorem d_law_200 : decode code 200 = .ok (.iaload, 1) := by decide +kernel
theorem d_law_201 : decode code 201 = .ok (.aload_n 3, 1) := by decide +kernel
theorem d_law_202 : decode code 202 = .ok (.invokestatic 46, 3) := by decide +kernel
theorem d_law_205 : decode code 205 = .ok (.istore 5, 2) := by decide +kernel
theorem d_law_207 : decode code 207 = .ok (.aload_n 2, 1) := by decide +kernel
theorem d_law_208 : decode code 208 = .ok (.aload_n 0, 1) := by decide +kernel
theorem d_law_209 : decode code 209 = .ok (.iload 4, 2) := by decide +kernel
theorem d_law_211 : decode code 211 = .ok (.iconst 1, 1) := by decide +kernel
theorem d_law_212 : decode code 212 = .ok (.iadd, 1) := by decide +kernel
theorem d_law_213 : decode code 213 = .ok (.iaload, 1) := by decide +kernel
theorem d_law_214 : decode code 214 = .ok (.aload_n 0, 1) := by decide +kernel
theorem d_law_215 : decode code 215 = .ok (.iload 4, 2) := by decide +kernel
theorem d_law_217 : decode code 217 = .ok (.iconst 2, 1) := by decide +kernel
theorem d_law_218 : decode code 218 = .ok (.iadd, 1) := by decide +kernel
theorem d_law_219 : decode code 219 = .ok (.iaload, 1) := by decide +kernel
theorem d_law_220 : decode code 220 = .ok (.invokevirtual 48, 3) := by decide +kernel
theorem d_law_223 : decode code 223 = .ok (.istore 6, 2) := by decide +kernel
theorem d_law_225 : decode code 225 = .ok (.goto 472, 3) := by decide +kernel
theorem d_law_228 : decode code 228 = .ok (.aload_n 1, 1) := by decide +kernel
theorem d_law_229 : decode code 229 = .ok (.invokestatic 49, 3) := by decide +kernel
theorem d_law_232 : decode code 232 = .ok (.istore 5, 2) := by decide +kernel
theorem d_law_234 : decode code 234 = .ok (.aload_n 2, 1) := by decide +kernel
theorem d_law_235 : decode code 235 = .ok (.invokevirtual 52, 3) := by decide +kernel
theorem d_law_238 : decode code 238 = .ok (.goto 459, 3) := by decide +kernel
theorem d_law_241 : decode code 241 = .ok (.aload_n 1, 1) := by decide +kernel
theorem d_law_242 : decode code 242 = .ok (.invokevirtual 53, 3) := by decide +kernel
theorem d_law_245 : decode code 245 = .ok (.pop, 1) := by decide +kernel
theorem d_law_246 : decode code 246 = .ok (.aload_n 2, 1) := by decide +kernel
theorem d_law_247 : decode code 247 = .ok (.invokevirtual 57, 3) := by decide +kernel
theorem d_law_250 : decode code 250 = .ok (.pop, 1) := by decide +kernel
theorem d_law_251 : decode code 251 = .ok (.goto 446, 3) := by decide +kernel
theorem d_law_254 : decode code 254 = .ok (.aload_n 1, 1) := by decide +kernel
theorem d_law_255 : decode code 255 = .ok (.aload_n 0, 1) := by decide +kernel
theorem d_law_256 : decode code 256 = .ok (.iload 4, 2) := by decide +kernel
theorem d_law_258 : decode code 258 = .ok (.iconst 1, 1) := by decide +kernel
theorem d_law_259 : decode code 259 = .ok (.iadd, 1) := by decide +kernel
theorem d_law_260 : decode code 260 = .ok (.iaload, 1) := by decide +kernel
theorem d_law_261 : decode code 261 = .ok (.aload_n 3, 1) := by decide +kernel
theorem d_law_262 : decode code 262 = .ok (.invokestatic 58, 3) := by decide +kernel
theorem d_law_265 : decode code 265 = .ok (.istore 5, 2) := by decide +kernel
theorem d_law_267 : decode code 267 = .ok (.aload_n 2, 1) := by decide +kernel
theorem d_law_268 : decode code 268 = .ok (.aload_n 0, 1) := by decide +kernel
theorem d_law_269 : decode code 269 = .ok (.iload 4, 2) := by decide +kernel
theorem d_law_271 : decode code 271 = .ok (.iconst 1, 1) := by decide +kernel
theorem d_law_272 : decode code 272 = .ok (.iadd, 1) := by decide +kernel
theorem d_law_273 : decode code 273 = .ok (.iaload, 1) := by decide +kernel
theorem d_law_274 : decode code 274 = .ok (.invokevirtual 61, 3) := by decide +kernel
theorem d_law_277 : decode code 277 = .ok (.istore 6, 2) := by decide +kernel
theorem d_law_279 : decode code 279 = .ok (.goto 418, 3) := by decide +kernel
theorem d_law_282 : decode code 282 = .ok (.aload_n 1, 1) := by decide +kernel
theorem d_law_283 : decode code 283 = .ok (.aload_n 0, 1) := by decide +kernel
theorem d_law_284 : decode code 284 = .ok (.iload 4, 2) := by decide +kernel
theorem d_law_286 : decode code 286 = .ok (.iconst 1, 1) := by decide +kernel
theorem d_law_287 : decode code 287 = .ok (.iadd, 1) := by decide +kernel
theorem d_law_288 : decode code 288 = .ok (.iaload, 1) := by decide +kernel
theorem d_law_289 : decode code 289 = .ok (.aload_n 0, 1) := by decide +kernel
theorem d_law_290 : decode code 290 = .ok (.iload 4, 2) := by decide +kernel
theorem d_law_292 : decode code 292 = .ok (.iconst 2, 1) := by decide +kernel
theorem d_law_293 : decode code 293 = .ok (.iadd, 1) := by decide +kernel
theorem d_law_294 : decode code 294 = .ok (.iaload, 1) := by decide +kernel
theorem d_law_295 : decode code 295 = .ok (.aload_n 3, 1) := by decide +kernel
theorem d_law_296 : decode code 296 = .ok (.invokestatic 62, 3) := by decide +kernel
theorem d_law_299 : decode code 299 = .ok (.istore 5, 2) := by decide +kernel
theorem d_law_301 : decode code 301 = .ok (.aload_n 2, 1) := by decide +kernel
theorem d_law_302 : decode code 302 = .ok (.aload_n 0, 1) := by decide +kernel
theorem d_law_303 : decode code 303 = .ok (.iload 4, 2) := by decide +kernel
theorem d_law_305 : decode code 305 = .ok (.iconst 1, 1) := by decide +kernel
theorem d_law_306 : decode code 306 = .ok (.iadd, 1) := by decide +kernel
theorem d_law_307 : decode code 307 = .ok (.iaload, 1) := by decide +kernel
theorem d_law_308 : decode code 308 = .ok (.aload_n 0, 1) := by decide +kernel
theorem d_law_309 : decode code 309 = .ok (.iload 4, 2) := by decide +kernel
theorem d_law_311 : decode code 311 = .ok (.iconst 2, 1) := by decide +kernel
theorem d_law_312 : decode code 312 = .ok (.iadd, 1) := by decide +kernel
theorem d_law_313 : decode code 313 = .ok (.iaload, 1) := by decide +kernel
theorem d_law_314 : decode code 314 = .ok (.invokevirtual 64, 3) := by decide +kernel
theorem d_law_317 : decode code 317 = .ok (.istore 6, 2) := by decide +kernel
theorem d_law_319 : decode code 319 = .ok (.goto 378, 3) := by decide +kernel
theorem d_law_322 : decode code 322 = .ok (.aload_n 1, 1) := by decide +kernel
theorem d_law_323 : decode code 323 = .ok (.aload_n 0, 1) := by decide +kernel
theorem d_law_324 : decode code 324 = .ok (.iload 4, 2) := by decide +kernel
theorem d_law_326 : decode code 326 = .ok (.iconst 1, 1) := by decide +kernel
theorem d_law_327 : decode code 327 = .ok (.iadd, 1) := by decide +kernel
theorem d_law_328 : decode code 328 = .ok (.iaload, 1) := by decide +kernel
theorem d_law_329 : decode code 329 = .ok (.invokevirtual 65, 3) := by decide +kernel
theorem d_law_332 : decode code 332 = .ok (.pop, 1) := by decide +kernel
theorem d_law_333 : decode code 333 = .ok (.aload_n 2, 1) := by decide +kernel
theorem d_law_334 : decode code 334 = .ok (.aload_n 0, 1) := by decide +kernel
theorem d_law_335 : decode code 335 = .ok (.iload 4, 2) := by decide +kernel
theorem d_law_337 : decode code 337 = .ok (.iconst 1, 1) := by decide +kernel
theorem d_law_338 : decode code 338 = .ok (.iadd, 1) := by decide +kernel
theorem d_law_339 : decode code 339 = .ok (.iaload, 1) := by decide +kernel
theorem d_law_340 : decode code 340 = .ok (.invokevirtual 69, 3) := by decide +kernel
theorem d_law_343 : decode code 343 = .ok (.pop, 1) := by decide +kernel
theorem d_law_344 : decode code 344 = .ok (.goto 353, 3) := by decide +kernel
theorem d_law_347 : decode code 347 = .ok (.aload_n 1, 1) := by decide +kernel
theorem d_law_348 : decode code 348 = .ok (.invokevirtual 70, 3) := by decide +kernel
theorem d_law_351 : decode code 351 = .ok (.pop, 1) := by decide +kernel
theorem d_law_352 : decode code 352 = .ok (.aload_n 2, 1) := by decide +kernel
theorem d_law_353 : decode code 353 = .ok (.invokevirtual 74, 3) := by decide +kernel
theorem d_law_356 : decode code 356 = .ok (.pop, 1) := by decide +kernel
theorem d_law_357 : decode code 357 = .ok (.goto 340, 3) := by decide +kernel
theorem d_law_360 : decode code 360 = .ok (.aload_n 1, 1) := by decide +kernel
theorem d_law_361 : decode code 361 = .ok (.invokevirtual 75, 3) := by decide +kernel
theorem d_law_364 : decode code 364 = .ok (.pop, 1) := by decide +kernel
theorem d_law_365 : decode code 365 = .ok (.aload_n 2, 1) := by decide +kernel
theorem d_law_366 : decode code 366 = .ok (.invokevirtual 78, 3) := by decide +kernel
theorem d_law_369 : decode code 369 = .ok (.pop, 1) := by decide +kernel
theorem d_law_370 : decode code 370 = .ok (.goto 327, 3) := by decide +kernel
theorem d_law_373 : decode code 373 = .ok (.aload_n 1, 1) := by decide +kernel
theorem d_law_374 : decode code 374 = .ok (.invokevirtual 79, 3) := by decide +kernel
theorem d_law_377 : decode code 377 = .ok (.pop, 1) := by decide +kernel
theorem d_law_378 : decode code 378 = .ok (.aload_n 2, 1) := by decide +kernel
theorem d_law_379 : decode code 379 = .ok (.invokevirtual 82, 3) := by decide +kernel
theorem d_law_382 : decode code 382 = .ok (.pop, 1) := by decide +kernel
theorem d_law_383 : decode code 383 = .ok (.goto 314, 3) := by decide +kernel
theorem d_law_386 : decode code 386 = .ok (.aload_n 1, 1) := by decide +kernel
theorem d_law_387 : decode code 387 = .ok (.aload_n 0, 1) := by decide +kernel
theorem d_law_388 : decode code 388 = .ok (.iload 4, 2) := by decide +kernel
theorem d_law_390 : decode code 390 = .ok (.iconst 1, 1) := by decide +kernel
theorem d_law_391 : decode code 391 = .ok (.iadd, 1) := by decide +kernel
theorem d_law_392 : decode code 392 = .ok (.iaload, 1) := by decide +kernel
theorem d_law_393 : decode code 393 = .ok (.invokevirtual 83, 3) := by decide +kernel
theorem d_law_396 : decode code 396 = .ok (.pop, 1) := by decide +kernel
theorem d_law_397 : decode code 397 = .ok (.aload_n 2, 1) := by decide +kernel
theorem d_law_398 : decode code 398 = .ok (.aload_n 0, 1) := by decide +kernel
theorem d_law_399 : decode code 399 = .ok (.iload 4, 2) := by decide +kernel
theorem d_law_401 : decode code 401 = .ok (.iconst 1, 1) := by decide +kernel
theorem d_law_402 : decode code 402 = .ok (.iadd, 1) := by decide +kernel
theorem d_law_403 : decode code 403 = .ok (.iaload, 1) := by decide +kernel
theorem d_law_404 : decode code 404 = .ok (.invokevirtual 86, 3) := by decide +kernel
theorem d_law_407 : decode code 407 = .ok (.pop, 1) := by decide +kernel
theorem d_law_408 : decode code 408 = .ok (.goto 289, 3) := by decide +kernel
theorem d_law_411 : decode code 411 = .ok (.aload_n 1, 1) := by decide +kernel
theorem d_law_412 : decode code 412 = .ok (.aload_n 0, 1) := by decide +kernel
theorem d_law_413 : decode code 413 = .ok (.iload 4, 2) := by decide +kernel
theorem d_law_415 : decode code 415 = .ok (.iconst 1, 1) := by decide +kernel
theorem d_law_416 : decode code 416 = .ok (.iadd, 1) := by decide +kernel
theorem d_law_417 : decode code 417 = .ok (.iaload, 1) := by decide +kernel
theorem d_law_418 : decode code 418 = .ok (.invokevirtual 87, 3) := by decide +kernel
theorem d_law_421 : decode code 421 = .ok (.pop, 1) := by decide +kernel
theorem d_law_422 : decode code 422 = .ok (.aload_n 2, 1) := by decide +kernel
theorem d_law_423 : decode code 423 = .ok (.aload_n 0, 1) := by decide +kernel
theorem d_law_424 : decode code 424 = .ok (.iload 4, 2) := by decide +kernel
theorem d_law_426 : decode code 426 = .ok (.iconst 1, 1) := by decide +kernel
theorem d_law_427 : decode code 427 = .ok (.iadd, 1) := by decide +kernel
theorem d_law_428 : decode code 428 = .ok (.iaload, 1) := by decide +kernel
theorem d_law_429 : decode code 429 = .ok (.invokevirtual 90, 3) := by decide +kernel
theorem d_law_432 : decode code 432 = .ok (.pop, 1) := by decide +kernel
theorem d_law_433 : decode code 433 = .ok (.goto 264, 3) := by decide +kernel
theorem d_law_436 : decode code 436 = .ok (.aload_n 1, 1) := by decide +kernel
theorem d_law_437 : decode code 437 = .ok (.aload_n 0, 1) := by decide +kernel
theorem d_law_438 : decode code 438 = .ok (.iload 4, 2) := by decide +kernel
theorem d_law_440 : decode code 440 = .ok (.iconst 1, 1) := by decide +kernel
theorem d_law_441 : decode code 441 = .ok (.iadd, 1) := by decide +kernel
theorem d_law_442 : decode code 442 = .ok (.iaload, 1) := by decide +kernel
theorem d_law_443 : decode code 443 = .ok (.invokevirtual 91, 3) := by decide +kernel
theorem d_law_446 : decode code 446 = .ok (.pop, 1) := by decide +kernel
theorem d_law_447 : decode code 447 = .ok (.aload_n 2, 1) := by decide +kernel
theorem d_law_448 : decode code 448 = .ok (.aload_n 0, 1) := by decide +kernel
theorem d_law_449 : decode code 449 = .ok (.iload 4, 2) := by decide +kernel
theorem d_law_451 : decode code 451 = .ok (.iconst 1, 1) := by decide +kernel
theorem d_law_452 : decode code 452 = .ok (.iadd, 1) := by decide +kernel
theorem d_law_453 : decode code 453 = .ok (.iaload, 1) := by decide +kernel
theorem d_law_454 : decode code 454 = .ok (.invokevirtual 94, 3) := by decide +kernel
theorem d_law_457 : decode code 457 = .ok (.pop, 1) := by decide +kernel
theorem d_law_458 : decode code 458 = .ok (.goto 239, 3) := by decide +kernel
theorem d_law_461 : decode code 461 = .ok (.aload_n 1, 1) := by decide +kernel
theorem d_law_462 : decode code 462 = .ok (.aload_n 0, 1) := by decide +kernel
theorem d_law_463 : decode code 463 = .ok (.iload 4, 2) := by decide +kernel
theorem d_law_465 : decode code 465 = .ok (.iconst 1, 1) := by decide +kernel
theorem d_law_466 : decode code 466 = .ok (.iadd, 1) := by decide +kernel
theorem d_law_467 : decode code 467 = .ok (.iaload, 1) := by decide +kernel
theorem d_law_468 : decode code 468 = .ok (.aload_n 0, 1) := by decide +kernel
theorem d_law_469 : decode code 469 = .ok (.iload 4, 2) := by decide +kernel
theorem d_law_471 : decode code 471 = .ok (.iconst 2, 1) := by decide +kernel
theorem d_law_472 : decode code 472 = .ok (.iadd, 1) := by decide +kernel
theorem d_law_473 : decode code 473 = .ok (.iaload, 1) := by decide +kernel
theorem d_law_474 : decode code 474 = .ok (.invokevirtual 95, 3) := by decide +kernel
theorem d_law_477 : decode code 477 = .ok (.pop, 1) := by decide +kernel
theorem d_law_478 : decode code 478 = .ok (.aload_n 2, 1) := by decide +kernel
theorem d_law_479 : decode code 479 = .ok (.aload_n 0, 1) := by decide +kernel
theorem d_law_480 : decode code 480 = .ok (.iload 4, 2) := by decide +kernel
theorem d_law_482 : decode code 482 = .ok (.iconst 1, 1) := by decide +kernel
theorem d_law_483 : decode code 483 = .ok (.iadd, 1) := by decide +kernel
theorem d_law_484 : decode code 484 = .ok (.iaload, 1) := by decide +kernel
theorem d_law_485 : decode code 485 = .ok (.aload_n 0, 1) := by decide +kernel
theorem d_law_486 : decode code 486 = .ok (.iload 4, 2) := by decide +kernel
theorem d_law_488 : decode code 488 = .ok (.iconst 2, 1) := by decide +kernel
theorem d_law_489 : decode code 489 = .ok (.iadd, 1) := by decide +kernel
theorem d_law_490 : decode code 490 = .ok (.iaload, 1) := by decide +kernel
theorem d_law_491 : decode code 491 = .ok (.invokevirtual 98, 3) := by decide +kernel
theorem d_law_494 : decode code 494 = .ok (.pop, 1) := by decide +kernel
theorem d_law_495 : decode code 495 = .ok (.goto 202, 3) := by decide +kernel
theorem d_law_498 : decode code 498 = .ok (.aload_n 1, 1) := by decide +kernel
theorem d_law_499 : decode code 499 = .ok (.aload_n 0, 1) := by decide +kernel
theorem d_law_500 : decode code 500 = .ok (.iload 4, 2) := by decide +kernel
theorem d_law_502 : decode code 502 = .ok (.iconst 1, 1) := by decide +kernel
theorem d_law_503 : decode code 503 = .ok (.iadd, 1) := by decide +kernel
theorem d_law_504 : decode code 504 = .ok (.iaload, 1) := by decide +kernel
theorem d_law_505 : decode code 505 = .ok (.aload_n 0, 1) := by decide +kernel
theorem d_law_506 : decode code 506 = .ok (.iload 4, 2) := by decide +kernel
theorem d_law_508 : decode code 508 = .ok (.iconst 2, 1) := by decide +kernel
theorem d_law_509 : decode code 509 = .ok (.iadd, 1) := by decide +kernel
theorem d_law_510 : decode code 510 = .ok (.iaload, 1) := by decide +kernel
theorem d_law_511 : decode code 511 = .ok (.aload_n 0, 1) := by decide +kernel
theorem d_law_512 : decode code 512 = .ok (.iload 4, 2) := by decide +kernel
theorem d_law_514 : decode code 514 = .ok (.iconst 3, 1) := by decide +kernel
theorem d_law_515 : decode code 515 = .ok (.iadd, 1) := by decide +kernel
theorem d_law_516 : decode code 516 = .ok (.iaload, 1) := by decide +kernel
theorem d_law_517 : decode code 517 = .ok (.invokevirtual 99, 3) := by decide +kernel
theorem d_law_520 : decode code 520 = .ok (.pop, 1) := by decide +kernel
theorem d_law_521 : decode code 521 = .ok (.aload_n 2, 1) := by decide +kernel
theorem d_law_522 : decode code 522 = .ok (.aload_n 0, 1) := by decide +kernel
theorem d_law_523 : decode code 523 = .ok (.iload 4, 2) := by decide +kernel
theorem d_law_525 : decode code 525 = .ok (.iconst 1, 1) := by decide +kernel
theorem d_law_526 : decode code 526 = .ok (.iadd, 1) := by decide +kernel
theorem d_law_527 : decode code 527 = .ok (.iaload, 1) := by decide +kernel
theorem d_law_528 : decode code 528 = .ok (.aload_n 0, 1) := by decide +kernel
theorem d_law_529 : decode code 529 = .ok (.iload 4, 2) := by decide +kernel
theorem d_law_531 : decode code 531 = .ok (.iconst 2, 1) := by decide +kernel
theorem d_law_532 : decode code 532 = .ok (.iadd, 1) := by decide +kernel
theorem d_law_533 : decode code 533 = .ok (.iaload, 1) := by decide +kernel
theorem d_law_534 : decode code 534 = .ok (.aload_n 0, 1) := by decide +kernel
theorem d_law_535 : decode code 535 = .ok (.iload 4, 2) := by decide +kernel
theorem d_law_537 : decode code 537 = .ok (.iconst 3, 1) := by decide +kernel
theorem d_law_538 : decode code 538 = .ok (.iadd, 1) := by decide +kernel
theorem d_law_539 : decode code 539 = .ok (.iaload, 1) := by decide +kernel
theorem d_law_540 : decode code 540 = .ok (.invokevirtual 103, 3) := by decide +kernel
theorem d_law_543 : decode code 543 = .ok (.pop, 1) := by decide +kernel
theorem d_law_544 : decode code 544 = .ok (.goto 153, 3) := by decide +kernel
theorem d_law_547 : decode code 547 = .ok (.aload_n 1, 1) := by decide +kernel
theorem d_law_548 : decode code 548 = .ok (.aload_n 0, 1) := by decide +kernel
theorem d_law_549 : decode code 549 = .ok (.iload 4, 2) := by decide +kernel
theorem d_law_551 : decode code 551 = .ok (.iconst 1, 1) := by decide +kernel
theorem d_law_552 : decode code 552 = .ok (.iadd, 1) := by decide +kernel
theorem d_law_553 : decode code 553 = .ok (.iaload, 1) := by decide +kernel
theorem d_law_554 : decode code 554 = .ok (.invokevirtual 104, 3) := by decide +kernel
theorem d_law_557 : decode code 557 = .ok (.pop, 1) := by decide +kernel
theorem d_law_558 : decode code 558 = .ok (.aload_n 2, 1) := by decide +kernel
theorem d_law_559 : decode code 559 = .ok (.aload_n 0, 1) := by decide +kernel
theorem d_law_560 : decode code 560 = .ok (.iload 4, 2) := by decide +kernel
theorem d_law_562 : decode code 562 = .ok (.iconst 1, 1) := by decide +kernel
theorem d_law_563 : decode code 563 = .ok (.iadd, 1) := by decide +kernel
theorem d_law_564 : decode code 564 = .ok (.iaload, 1) := by decide +kernel
theorem d_law_565 : decode code 565 = .ok (.invokevirtual 107, 3) := by decide +kernel
theorem d_law_568 : decode code 568 = .ok (.pop, 1) := by decide +kernel
theorem d_law_569 : decode code 569 = .ok (.goto 128, 3) := by decide +kernel
theorem d_law_572 : decode code 572 = .ok (.aload_n 1, 1) := by decide +kernel
theorem d_law_573 : decode code 573 = .ok (.invokevirtual 108, 3) := by decide +kernel
theorem d_law_576 : decode code 576 = .ok (.pop, 1) := by decide +kernel
theorem d_law_577 : decode code 577 = .ok (.aload_n 2, 1) := by decide +kernel
theorem d_law_578 : decode code 578 = .ok (.invokevirtual 111, 3) := by decide +kernel
theorem d_law_581 : decode code 581 = .ok (.pop, 1) := by decide +kernel
theorem d_law_582 : decode code 582 = .ok (.goto 115, 3) := by decide +kernel
theorem d_law_585 : decode code 585 = .ok (.aload_n 1, 1) := by decide +kernel
theorem d_law_586 : decode code 586 = .ok (.invokevirtual 112, 3) := by decide +kernel
theorem d_law_589 : decode code 589 = .ok (.pop, 1) := by decide +kernel
theorem d_law_590 : decode code 590 = .ok (.aload_n 2, 1) := by decide +kernel
theorem d_law_591 : decode code 591 = .ok (.invokevirtual 115, 3) := by decide +kernel
theorem d_law_594 : decode code 594 = .ok (.pop, 1) := by decide +kernel
theorem d_law_595 : decode code 595 = .ok (.goto 102, 3) := by decide +kernel
theorem d_law_598 : decode code 598 = .ok (.aload_n 1, 1) := by decide +kernel
theorem d_law_599 : decode code 599 = .ok (.aload_n 0, 1) := by decide +kernel
theorem d_law_600 : decode code 600 = .ok (.iload 4, 2) := by decide +kernel
theorem d_law_602 : decode code 602 = .ok (.iconst 1, 1) := by decide +kernel
theorem d_law_603 : decode code 603 = .ok (.iadd, 1) := by decide +kernel
theorem d_law_604 : decode code 604 = .ok (.iaload, 1) := by decide +kernel
theorem d_law_605 : decode code 605 = .ok (.invokevirtual 116, 3) := by decide +kernel
theorem d_law_608 : decode code 608 = .ok (.aload_n 2, 1) := by decide +kernel
theorem d_law_609 : decode code 609 = .ok (.aload_n 0, 1) := by decide +kernel
theorem d_law_610 : decode code 610 = .ok (.iload 4, 2) := by decide +kernel
theorem d_law_612 : decode code 612 = .ok (.iconst 1, 1) := by decide +kernel
theorem d_law_613 : decode code 613 = .ok (.iadd, 1) := by decide +kernel
theorem d_law_614 : decode code 614 = .ok (.iaload, 1) := by decide +kernel
theorem d_law_615 : decode code 615 = .ok (.invokevirtual 119, 3) := by decide +kernel
theorem d_law_618 : decode code 618 = .ok (.if_icmp .eq 79, 3) := by decide +kernel
theorem d_law_621 : decode code 621 = .ok (.iconst 0, 1) := by decide +kernel
theorem d_law_622 : decode code 622 = .ok (.ireturn, 1) := by decide +kernel
theorem d_law_623 : decode code 623 = .ok (.aload_n 1, 1) := by decide +kernel
theorem d_law_624 : decode code 624 = .ok (.aload_n 0, 1) := by decide +kernel
theorem d_law_625 : decode code 625 = .ok (.iload 4, 2) := by decide +kernel
theorem d_law_627 : decode code 627 = .ok (.iconst 1, 1) := by decide +kernel
theorem d_law_628 : decode code 628 = .ok (.iadd, 1) := by decide +kernel
theorem d_law_629 : decode code 629 = .ok (.iaload, 1) := by decide +kernel
theorem d_law_630 : decode code 630 = .ok (.aload_n 0, 1) := by decide +kernel
theorem d_law_631 : decode code 631 = .ok (.iload 4, 2) := by decide +kernel
theorem d_law_633 : decode code 633 = .ok (.iconst 2, 1) := by decide +kernel
theorem d_law_634 : decode code 634 = .ok (.iadd, 1) := by decide +kernel
theorem d_law_635 : decode code 635 = .ok (.iaload, 1) := by decide +kernel
theorem d_law_636 : decode code 636 = .ok (.invokevirtual 120, 3) := by decide +kernel
theorem d_law_639 : decode code 639 = .ok (.pop, 1) := by decide +kernel
theorem d_law_640 : decode code 640 = .ok (.aload_n 2, 1) := by decide +kernel
theorem d_law_641 : decode code 641 = .ok (.aload_n 0, 1) := by decide +kernel
theorem d_law_642 : decode code 642 = .ok (.iload 4, 2) := by decide +kernel
theorem d_law_644 : decode code 644 = .ok (.iconst 1, 1) := by decide +kernel
theorem d_law_645 : decode code 645 = .ok (.iadd, 1) := by decide +kernel
theorem d_law_646 : decode code 646 = .ok (.iaload, 1) := by decide +kernel
theorem d_law_647 : decode code 647 = .ok (.aload_n 0, 1) := by decide +kernel
theorem d_law_648 : decode code 648 = .ok (.iload 4, 2) := by decide +kernel
theorem d_law_650 : decode code 650 = .ok (.iconst 2, 1) := by decide +kernel
theorem d_law_651 : decode code 651 = .ok (.iadd, 1) := by decide +kernel
theorem d_law_652 : decode code 652 = .ok (.iaload, 1) := by decide +kernel
theorem d_law_653 : decode code 653 = .ok (.invokevirtual 123, 3) := by decide +kernel
theorem d_law_656 : decode code 656 = .ok (.pop, 1) := by decide +kernel
theorem d_law_657 : decode code 657 = .ok (.goto 40, 3) := by decide +kernel
theorem d_law_660 : decode code 660 = .ok (.aload_n 1, 1) := by decide +kernel
theorem d_law_661 : decode code 661 = .ok (.aload_n 0, 1) := by decide +kernel
theorem d_law_662 : decode code 662 = .ok (.iload 4, 2) := by decide +kernel
theorem d_law_664 : decode code 664 = .ok (.iconst 1, 1) := by decide +kernel
theorem d_law_665 : decode code 665 = .ok (.iadd, 1) := by decide +kernel
theorem d_law_666 : decode code 666 = .ok (.iaload, 1) := by decide +kernel
theorem d_law_667 : decode code 667 = .ok (.aload_n 0, 1) := by decide +kernel
theorem d_law_668 : decode code 668 = .ok (.iload 4, 2) := by decide +kernel
theorem d_law_670 : decode code 670 = .ok (.iconst 2, 1) := by decide +kernel
theorem d_law_671 : decode code 671 = .ok (.iadd, 1) := by decide +kernel
theorem d_law_672 : decode code 672 = .ok (.iaload, 1) := by decide +kernel
theorem d_law_673 : decode code 673 = .ok (.invokevirtual 124, 3) := by decide +kernel
theorem d_law_676 : decode code 676 = .ok (.pop, 1) := by decide +kernel
theorem d_law_677 : decode code 677 = .ok (.aload_n 2, 1) := by decide +kernel
theorem d_law_678 : decode code 678 = .ok (.aload_n 0, 1) := by decide +kernel
theorem d_law_679 : decode code 679 = .ok (.iload 4, 2) := by decide +kernel
theorem d_law_681 : decode code 681 = .ok (.iconst 1, 1) := by decide +kernel
theorem d_law_682 : decode code 682 = .ok (.iadd, 1) := by decide +kernel
theorem d_law_683 : decode code 683 = .ok (.iaload, 1) := by decide +kernel
theorem d_law_684 : decode code 684 = .ok (.aload_n 0, 1) := by decide +kernel
theorem d_law_685 : decode code 685 = .ok (.iload 4, 2) := by decide +kernel
theorem d_law_687 : decode code 687 = .ok (.iconst 2, 1) := by decide +kernel
theorem d_law_688 : decode code 688 = .ok (.iadd, 1) := by decide +kernel
theorem d_law_689 : decode code 689 = .ok (.iaload, 1) := by decide +kernel
theorem d_law_690 : decode code 690 = .ok (.invokevirtual 127, 3) := by decide +kernel
theorem d_law_693 : decode code 693 = .ok (.pop, 1) := by decide +kernel
theorem d_law_694 : decode code 694 = .ok (.goto 3, 3) := by decide +kernel
theorem d_law_697 : decode code 697 = .ok (.iinc 4 4, 3) := by decide +kernel
theorem d_law_700 : decode code 700 = .ok (.goto (-667), 3) := by decide +kernel
theorem d_law_703 : decode code 703 = .ok (.iconst 1, 1) := by decide +kernel
theorem d_law_704 : decode code 704 = .ok (.ireturn, 1) := by decide +kernel
