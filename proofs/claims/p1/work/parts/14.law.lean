noncomputable def x_slen (sl n : Nat) : xF := fun _ L S w => match S with
  | .inr (.inr (_ + 1)) :: S => some (n, L, .inl (sl + 2147483648, sl + 2147483648) :: S, w)
  | _ => none
noncomputable def x_sld (sl : Nat) (sb : List (Nat × Nat)) (n : Nat) : xF := fun _ L S w => match S with
  | .inl i :: .inr (.inr (_ + 1)) :: S => (match xix i sl with
    | some j => (match xget sb j with
      | some q => some (n, L, .inl q :: S, w)
      | none => none)
    | none => none)
  | _ => none
def xG (sl : Nat) (xs : Nat → Int32) (sb : List (Nat × Nat)) : State → Nat → Nat → Prop := fun s sz b => va_X b sl xs s s.heap ∧ b < s.heap.size ∧ ¬ sz ≤ b ∧ sl < 2147483648 ∧ ∀ (j : Nat) (q : Nat × Nat), xget sb j = some q → xRI q (xs j)
section XL
variable {PX : xPX} {cc : ByteArray} {own : String} {ini : Bool} {pc sl : Nat} {xs : Nat → Int32} {sb : List (Nat × Nat)}
theorem s_slen (hd : decode cc pc = .ok (.arraylength, 1)) : xSound PX (xG sl xs sb) cc own ini pc (x_slen sl (pc + 1)) := by
  intro call d hc L S w pc' L' S' w' h
  unfold x_slen at h
  split at h
  · cases h
    refine ⟨xLe_rf, ?_⟩
    intro p l e R s m args below meth c Q nL D tys sz b c0 s0 C1 hG hf hlo h1 h2 ls st H locs cells slots hM hL hS kk
    obtain ⟨u2, st2, rfl, hu, hS⟩ := hS
    cases hu
    obtain ⟨hX, hbl, hbA, hsl, hbx⟩ := hG
    obtain ⟨-, hz, hS0, -⟩ := id hM
    refine va_slen C1.1 C1.2.1 hX hbl hbA hS0 hd (kk _ _ _ _ _ _ hM hL ⟨_, _, rfl, ⟨_, rfl, ?_⟩, hS⟩)
    rw [← xo_nat hsl]
    exact xRI_c _
  · cases h
theorem s_sld (hd : decode cc pc = .ok (.iaload, 1)) : xSound PX (xG sl xs sb) cc own ini pc (x_sld sl sb (pc + 1)) := by
  intro call d hc L S w pc' L' S' w' h
  unfold x_sld at h
  split at h
  · rename_i i k S0
    cases hj : xix i sl with
    | none => simp only [hj] at h; cases h
    | some j =>
      simp only [hj] at h
      cases hq : xget sb j with
      | none => simp only [hq] at h; cases h
      | some q =>
        simp only [hq] at h
        cases h
        refine ⟨xLe_rf, ?_⟩
        intro p l e R s m args below meth c Q nL D tys sz b c0 s0 C1 hG hf hlo h1 h2 ls st H locs cells slots hM hL hS kk
        obtain ⟨x, st', rfl, ⟨x, rfl, hx⟩, u2, st2, rfl, hu, hS⟩ := hS
        cases hu
        obtain ⟨hX, hbl, hbA, hsl, hbx⟩ := hG
        obtain ⟨-, hz, hS0, -⟩ := id hM
        obtain ⟨hin, hcl, hjl⟩ := xix_eq hj hx
        exact va_sld C1.1 C1.2.1 hX hbl hbA hS0 hin hd (kk _ _ _ _ _ _ hM hL ⟨_, _, rfl, ⟨_, rfl, by rw [hcl]; exact hbx j q hq⟩, hS⟩)
  · cases h
end XL
theorem dL_0 : decode code 0 = .ok (.new 7, 3) := by decide +kernel
theorem dL_3 : decode code 3 = .ok (.dup, 1) := by decide +kernel
theorem dL_4 : decode code 4 = .ok (.invokespecial 9, 3) := by decide +kernel
theorem dL_7 : decode code 7 = .ok (.astore_n 1, 1) := by decide +kernel
theorem dL_8 : decode code 8 = .ok (.new 10, 3) := by decide +kernel
theorem dL_11 : decode code 11 = .ok (.dup, 1) := by decide +kernel
theorem dL_12 : decode code 12 = .ok (.invokespecial 12, 3) := by decide +kernel
theorem dL_15 : decode code 15 = .ok (.astore_n 2, 1) := by decide +kernel
theorem dL_16 : decode code 16 = .ok (.iconst 0, 1) := by decide +kernel
theorem dL_17 : decode code 17 = .ok (.istore_n 3, 1) := by decide +kernel
theorem dL_18 : decode code 18 = .ok (.iload_n 3, 1) := by decide +kernel
theorem dL_19 : decode code 19 = .ok (.aload_n 0, 1) := by decide +kernel
theorem dL_20 : decode code 20 = .ok (.arraylength, 1) := by decide +kernel
theorem dL_21 : decode code 21 = .ok (.bipush 6, 2) := by decide +kernel
theorem dL_23 : decode code 23 = .ok (.isub, 1) := by decide +kernel
theorem dL_24 : decode code 24 = .ok (.if_icmp .gt 1231, 3) := by decide +kernel
theorem dL_27 : decode code 27 = .ok (.aload_n 0, 1) := by decide +kernel
theorem dL_28 : decode code 28 = .ok (.iload_n 3, 1) := by decide +kernel
theorem dL_29 : decode code 29 = .ok (.iaload, 1) := by decide +kernel
theorem dL_30 : decode code 30 = .ok (.bipush 63, 2) := by decide +kernel
theorem dL_32 : decode code 32 = .ok (.iand, 1) := by decide +kernel
theorem dL_33 : decode code 33 = .ok (.tableswitch 1216 0 34 #[155, 218, 241, 254, 267, 310, 343, 376, 429, 452, 475, 518, 561, 584, 597, 630, 653, 686, 709, 732, 765, 788, 811, 834, 847, 880, 933, 956, 1009, 1068, 1081, 1114, 1147, 1170, 1193], 155) := by decide +kernel
theorem dL_188 : decode code 188 = .ok (.aload_n 1, 1) := by decide +kernel
theorem dL_189 : decode code 189 = .ok (.aload_n 0, 1) := by decide +kernel
theorem dL_190 : decode code 190 = .ok (.iload_n 3, 1) := by decide +kernel
theorem dL_191 : decode code 191 = .ok (.iconst 1, 1) := by decide +kernel
theorem dL_192 : decode code 192 = .ok (.iadd, 1) := by decide +kernel
theorem dL_193 : decode code 193 = .ok (.iaload, 1) := by decide +kernel
theorem dL_194 : decode code 194 = .ok (.aload_n 0, 1) := by decide +kernel
theorem dL_195 : decode code 195 = .ok (.iload_n 3, 1) := by decide +kernel
theorem dL_196 : decode code 196 = .ok (.iconst 2, 1) := by decide +kernel
theorem dL_197 : decode code 197 = .ok (.iadd, 1) := by decide +kernel
theorem dL_198 : decode code 198 = .ok (.iaload, 1) := by decide +kernel
theorem dL_199 : decode code 199 = .ok (.aload_n 0, 1) := by decide +kernel
theorem dL_200 : decode code 200 = .ok (.iload_n 3, 1) := by decide +kernel
theorem dL_201 : decode code 201 = .ok (.iconst 3, 1) := by decide +kernel
theorem dL_202 : decode code 202 = .ok (.iadd, 1) := by decide +kernel
theorem dL_203 : decode code 203 = .ok (.iaload, 1) := by decide +kernel
theorem dL_204 : decode code 204 = .ok (.aload_n 0, 1) := by decide +kernel
theorem dL_205 : decode code 205 = .ok (.iload_n 3, 1) := by decide +kernel
theorem dL_206 : decode code 206 = .ok (.iconst 4, 1) := by decide +kernel
theorem dL_207 : decode code 207 = .ok (.iadd, 1) := by decide +kernel
theorem dL_208 : decode code 208 = .ok (.iaload, 1) := by decide +kernel
theorem dL_209 : decode code 209 = .ok (.aload_n 0, 1) := by decide +kernel
theorem dL_210 : decode code 210 = .ok (.iload_n 3, 1) := by decide +kernel
theorem dL_211 : decode code 211 = .ok (.iconst 5, 1) := by decide +kernel
theorem dL_212 : decode code 212 = .ok (.iadd, 1) := by decide +kernel
theorem dL_213 : decode code 213 = .ok (.iaload, 1) := by decide +kernel
theorem dL_214 : decode code 214 = .ok (.invokevirtual 13, 3) := by decide +kernel
theorem dL_217 : decode code 217 = .ok (.aload_n 2, 1) := by decide +kernel
theorem dL_218 : decode code 218 = .ok (.aload_n 0, 1) := by decide +kernel
theorem dL_219 : decode code 219 = .ok (.iload_n 3, 1) := by decide +kernel
theorem dL_220 : decode code 220 = .ok (.iconst 1, 1) := by decide +kernel
theorem dL_221 : decode code 221 = .ok (.iadd, 1) := by decide +kernel
theorem dL_222 : decode code 222 = .ok (.iaload, 1) := by decide +kernel
theorem dL_223 : decode code 223 = .ok (.aload_n 0, 1) := by decide +kernel
theorem dL_224 : decode code 224 = .ok (.iload_n 3, 1) := by decide +kernel
theorem dL_225 : decode code 225 = .ok (.iconst 2, 1) := by decide +kernel
theorem dL_226 : decode code 226 = .ok (.iadd, 1) := by decide +kernel
theorem dL_227 : decode code 227 = .ok (.iaload, 1) := by decide +kernel
theorem dL_228 : decode code 228 = .ok (.aload_n 0, 1) := by decide +kernel
theorem dL_229 : decode code 229 = .ok (.iload_n 3, 1) := by decide +kernel
theorem dL_230 : decode code 230 = .ok (.iconst 3, 1) := by decide +kernel
theorem dL_231 : decode code 231 = .ok (.iadd, 1) := by decide +kernel
theorem dL_232 : decode code 232 = .ok (.iaload, 1) := by decide +kernel
theorem dL_233 : decode code 233 = .ok (.aload_n 0, 1) := by decide +kernel
theorem dL_234 : decode code 234 = .ok (.iload_n 3, 1) := by decide +kernel
theorem dL_235 : decode code 235 = .ok (.iconst 4, 1) := by decide +kernel
theorem dL_236 : decode code 236 = .ok (.iadd, 1) := by decide +kernel
theorem dL_237 : decode code 237 = .ok (.iaload, 1) := by decide +kernel
theorem dL_238 : decode code 238 = .ok (.aload_n 0, 1) := by decide +kernel
theorem dL_239 : decode code 239 = .ok (.iload_n 3, 1) := by decide +kernel
theorem dL_240 : decode code 240 = .ok (.iconst 5, 1) := by decide +kernel
theorem dL_241 : decode code 241 = .ok (.iadd, 1) := by decide +kernel
theorem dL_242 : decode code 242 = .ok (.iaload, 1) := by decide +kernel
theorem dL_243 : decode code 243 = .ok (.invokevirtual 17, 3) := by decide +kernel
theorem dL_246 : decode code 246 = .ok (.if_icmp .eq 1003, 3) := by decide +kernel
theorem dL_251 : decode code 251 = .ok (.aload_n 1, 1) := by decide +kernel
theorem dL_252 : decode code 252 = .ok (.aload_n 0, 1) := by decide +kernel
theorem dL_253 : decode code 253 = .ok (.iload_n 3, 1) := by decide +kernel
theorem dL_254 : decode code 254 = .ok (.iconst 1, 1) := by decide +kernel
theorem dL_255 : decode code 255 = .ok (.iadd, 1) := by decide +kernel
theorem dL_256 : decode code 256 = .ok (.iaload, 1) := by decide +kernel
theorem dL_257 : decode code 257 = .ok (.invokevirtual 18, 3) := by decide +kernel
theorem dL_260 : decode code 260 = .ok (.aload_n 2, 1) := by decide +kernel
theorem dL_261 : decode code 261 = .ok (.aload_n 0, 1) := by decide +kernel
theorem dL_262 : decode code 262 = .ok (.iload_n 3, 1) := by decide +kernel
theorem dL_263 : decode code 263 = .ok (.iconst 1, 1) := by decide +kernel
theorem dL_264 : decode code 264 = .ok (.iadd, 1) := by decide +kernel
theorem dL_265 : decode code 265 = .ok (.iaload, 1) := by decide +kernel
theorem dL_266 : decode code 266 = .ok (.invokevirtual 22, 3) := by decide +kernel
theorem dL_269 : decode code 269 = .ok (.if_icmp .eq 980, 3) := by decide +kernel
theorem dL_274 : decode code 274 = .ok (.aload_n 1, 1) := by decide +kernel
theorem dL_275 : decode code 275 = .ok (.invokevirtual 23, 3) := by decide +kernel
theorem dL_278 : decode code 278 = .ok (.aload_n 2, 1) := by decide +kernel
theorem dL_279 : decode code 279 = .ok (.invokevirtual 27, 3) := by decide +kernel
theorem dL_282 : decode code 282 = .ok (.if_icmp .eq 967, 3) := by decide +kernel
theorem dL_287 : decode code 287 = .ok (.aload_n 1, 1) := by decide +kernel
theorem dL_288 : decode code 288 = .ok (.invokevirtual 28, 3) := by decide +kernel
theorem dL_291 : decode code 291 = .ok (.aload_n 2, 1) := by decide +kernel
theorem dL_292 : decode code 292 = .ok (.invokevirtual 31, 3) := by decide +kernel
theorem dL_295 : decode code 295 = .ok (.if_icmp .eq 954, 3) := by decide +kernel
theorem dL_300 : decode code 300 = .ok (.aload_n 1, 1) := by decide +kernel
theorem dL_301 : decode code 301 = .ok (.aload_n 0, 1) := by decide +kernel
theorem dL_302 : decode code 302 = .ok (.iload_n 3, 1) := by decide +kernel
theorem dL_303 : decode code 303 = .ok (.iconst 1, 1) := by decide +kernel
theorem dL_304 : decode code 304 = .ok (.iadd, 1) := by decide +kernel
theorem dL_305 : decode code 305 = .ok (.iaload, 1) := by decide +kernel
theorem dL_306 : decode code 306 = .ok (.aload_n 0, 1) := by decide +kernel
theorem dL_307 : decode code 307 = .ok (.iload_n 3, 1) := by decide +kernel
theorem dL_308 : decode code 308 = .ok (.iconst 2, 1) := by decide +kernel
theorem dL_309 : decode code 309 = .ok (.iadd, 1) := by decide +kernel
theorem dL_310 : decode code 310 = .ok (.iaload, 1) := by decide +kernel
theorem dL_311 : decode code 311 = .ok (.aload_n 0, 1) := by decide +kernel
theorem dL_312 : decode code 312 = .ok (.iload_n 3, 1) := by decide +kernel
theorem dL_313 : decode code 313 = .ok (.iconst 3, 1) := by decide +kernel
theorem dL_314 : decode code 314 = .ok (.iadd, 1) := by decide +kernel
theorem dL_315 : decode code 315 = .ok (.iaload, 1) := by decide +kernel
theorem dL_316 : decode code 316 = .ok (.invokevirtual 32, 3) := by decide +kernel
theorem dL_319 : decode code 319 = .ok (.aload_n 2, 1) := by decide +kernel
theorem dL_320 : decode code 320 = .ok (.aload_n 0, 1) := by decide +kernel
theorem dL_321 : decode code 321 = .ok (.iload_n 3, 1) := by decide +kernel
theorem dL_322 : decode code 322 = .ok (.iconst 1, 1) := by decide +kernel
theorem dL_323 : decode code 323 = .ok (.iadd, 1) := by decide +kernel
theorem dL_324 : decode code 324 = .ok (.iaload, 1) := by decide +kernel
theorem dL_325 : decode code 325 = .ok (.aload_n 0, 1) := by decide +kernel
theorem dL_326 : decode code 326 = .ok (.iload_n 3, 1) := by decide +kernel
theorem dL_327 : decode code 327 = .ok (.iconst 2, 1) := by decide +kernel
theorem dL_328 : decode code 328 = .ok (.iadd, 1) := by decide +kernel
theorem dL_329 : decode code 329 = .ok (.iaload, 1) := by decide +kernel
theorem dL_330 : decode code 330 = .ok (.aload_n 0, 1) := by decide +kernel
theorem dL_331 : decode code 331 = .ok (.iload_n 3, 1) := by decide +kernel
theorem dL_332 : decode code 332 = .ok (.iconst 3, 1) := by decide +kernel
theorem dL_333 : decode code 333 = .ok (.iadd, 1) := by decide +kernel
theorem dL_334 : decode code 334 = .ok (.iaload, 1) := by decide +kernel
theorem dL_335 : decode code 335 = .ok (.invokevirtual 36, 3) := by decide +kernel
theorem dL_338 : decode code 338 = .ok (.if_icmp .eq 911, 3) := by decide +kernel
theorem dL_343 : decode code 343 = .ok (.aload_n 1, 1) := by decide +kernel
theorem dL_344 : decode code 344 = .ok (.aload_n 0, 1) := by decide +kernel
theorem dL_345 : decode code 345 = .ok (.iload_n 3, 1) := by decide +kernel
theorem dL_346 : decode code 346 = .ok (.iconst 1, 1) := by decide +kernel
theorem dL_347 : decode code 347 = .ok (.iadd, 1) := by decide +kernel
theorem dL_348 : decode code 348 = .ok (.iaload, 1) := by decide +kernel
theorem dL_349 : decode code 349 = .ok (.aload_n 0, 1) := by decide +kernel
theorem dL_350 : decode code 350 = .ok (.iload_n 3, 1) := by decide +kernel
theorem dL_351 : decode code 351 = .ok (.iconst 2, 1) := by decide +kernel
theorem dL_352 : decode code 352 = .ok (.iadd, 1) := by decide +kernel
theorem dL_353 : decode code 353 = .ok (.iaload, 1) := by decide +kernel
theorem dL_354 : decode code 354 = .ok (.invokevirtual 37, 3) := by decide +kernel
theorem dL_357 : decode code 357 = .ok (.aload_n 2, 1) := by decide +kernel
theorem dL_358 : decode code 358 = .ok (.aload_n 0, 1) := by decide +kernel
theorem dL_359 : decode code 359 = .ok (.iload_n 3, 1) := by decide +kernel
theorem dL_360 : decode code 360 = .ok (.iconst 1, 1) := by decide +kernel
theorem dL_361 : decode code 361 = .ok (.iadd, 1) := by decide +kernel
theorem dL_362 : decode code 362 = .ok (.iaload, 1) := by decide +kernel
theorem dL_363 : decode code 363 = .ok (.aload_n 0, 1) := by decide +kernel
theorem dL_364 : decode code 364 = .ok (.iload_n 3, 1) := by decide +kernel
theorem dL_365 : decode code 365 = .ok (.iconst 2, 1) := by decide +kernel
theorem dL_366 : decode code 366 = .ok (.iadd, 1) := by decide +kernel
theorem dL_367 : decode code 367 = .ok (.iaload, 1) := by decide +kernel
theorem dL_368 : decode code 368 = .ok (.invokevirtual 41, 3) := by decide +kernel
theorem dL_371 : decode code 371 = .ok (.if_icmp .eq 878, 3) := by decide +kernel
theorem dL_376 : decode code 376 = .ok (.aload_n 1, 1) := by decide +kernel
theorem dL_377 : decode code 377 = .ok (.aload_n 0, 1) := by decide +kernel
theorem dL_378 : decode code 378 = .ok (.iload_n 3, 1) := by decide +kernel
theorem dL_379 : decode code 379 = .ok (.iconst 1, 1) := by decide +kernel
theorem dL_380 : decode code 380 = .ok (.iadd, 1) := by decide +kernel
theorem dL_381 : decode code 381 = .ok (.iaload, 1) := by decide +kernel
theorem dL_382 : decode code 382 = .ok (.aload_n 0, 1) := by decide +kernel
theorem dL_383 : decode code 383 = .ok (.iload_n 3, 1) := by decide +kernel
theorem dL_384 : decode code 384 = .ok (.iconst 2, 1) := by decide +kernel
theorem dL_385 : decode code 385 = .ok (.iadd, 1) := by decide +kernel
theorem dL_386 : decode code 386 = .ok (.iaload, 1) := by decide +kernel
theorem dL_387 : decode code 387 = .ok (.invokevirtual 42, 3) := by decide +kernel
theorem dL_390 : decode code 390 = .ok (.aload_n 2, 1) := by decide +kernel
theorem dL_391 : decode code 391 = .ok (.aload_n 0, 1) := by decide +kernel
theorem dL_392 : decode code 392 = .ok (.iload_n 3, 1) := by decide +kernel
theorem dL_393 : decode code 393 = .ok (.iconst 1, 1) := by decide +kernel
theorem dL_394 : decode code 394 = .ok (.iadd, 1) := by decide +kernel
theorem dL_395 : decode code 395 = .ok (.iaload, 1) := by decide +kernel
theorem dL_396 : decode code 396 = .ok (.aload_n 0, 1) := by decide +kernel
theorem dL_397 : decode code 397 = .ok (.iload_n 3, 1) := by decide +kernel
theorem dL_398 : decode code 398 = .ok (.iconst 2, 1) := by decide +kernel
theorem dL_399 : decode code 399 = .ok (.iadd, 1) := by decide +kernel
theorem dL_400 : decode code 400 = .ok (.iaload, 1) := by decide +kernel
theorem dL_401 : decode code 401 = .ok (.invokevirtual 45, 3) := by decide +kernel
theorem dL_404 : decode code 404 = .ok (.if_icmp .eq 845, 3) := by decide +kernel
theorem dL_409 : decode code 409 = .ok (.aload_n 1, 1) := by decide +kernel
theorem dL_410 : decode code 410 = .ok (.aload_n 0, 1) := by decide +kernel
theorem dL_411 : decode code 411 = .ok (.iload_n 3, 1) := by decide +kernel
theorem dL_412 : decode code 412 = .ok (.iconst 1, 1) := by decide +kernel
theorem dL_413 : decode code 413 = .ok (.iadd, 1) := by decide +kernel
theorem dL_414 : decode code 414 = .ok (.iaload, 1) := by decide +kernel
theorem dL_415 : decode code 415 = .ok (.aload_n 0, 1) := by decide +kernel
theorem dL_416 : decode code 416 = .ok (.iload_n 3, 1) := by decide +kernel
theorem dL_417 : decode code 417 = .ok (.iconst 2, 1) := by decide +kernel
theorem dL_418 : decode code 418 = .ok (.iadd, 1) := by decide +kernel
theorem dL_419 : decode code 419 = .ok (.iaload, 1) := by decide +kernel
theorem dL_420 : decode code 420 = .ok (.aload_n 0, 1) := by decide +kernel
theorem dL_421 : decode code 421 = .ok (.iload_n 3, 1) := by decide +kernel
theorem dL_422 : decode code 422 = .ok (.iconst 3, 1) := by decide +kernel
theorem dL_423 : decode code 423 = .ok (.iadd, 1) := by decide +kernel
theorem dL_424 : decode code 424 = .ok (.iaload, 1) := by decide +kernel
theorem dL_425 : decode code 425 = .ok (.aload_n 0, 1) := by decide +kernel
theorem dL_426 : decode code 426 = .ok (.iload_n 3, 1) := by decide +kernel
theorem dL_427 : decode code 427 = .ok (.iconst 4, 1) := by decide +kernel
theorem dL_428 : decode code 428 = .ok (.iadd, 1) := by decide +kernel
theorem dL_429 : decode code 429 = .ok (.iaload, 1) := by decide +kernel
theorem dL_430 : decode code 430 = .ok (.invokevirtual 46, 3) := by decide +kernel
theorem dL_433 : decode code 433 = .ok (.aload_n 2, 1) := by decide +kernel
theorem dL_434 : decode code 434 = .ok (.aload_n 0, 1) := by decide +kernel
theorem dL_435 : decode code 435 = .ok (.iload_n 3, 1) := by decide +kernel
theorem dL_436 : decode code 436 = .ok (.iconst 1, 1) := by decide +kernel
theorem dL_437 : decode code 437 = .ok (.iadd, 1) := by decide +kernel
theorem dL_438 : decode code 438 = .ok (.iaload, 1) := by decide +kernel
theorem dL_439 : decode code 439 = .ok (.aload_n 0, 1) := by decide +kernel
theorem dL_440 : decode code 440 = .ok (.iload_n 3, 1) := by decide +kernel
theorem dL_441 : decode code 441 = .ok (.iconst 2, 1) := by decide +kernel
theorem dL_442 : decode code 442 = .ok (.iadd, 1) := by decide +kernel
theorem dL_443 : decode code 443 = .ok (.iaload, 1) := by decide +kernel
theorem dL_444 : decode code 444 = .ok (.aload_n 0, 1) := by decide +kernel
theorem dL_445 : decode code 445 = .ok (.iload_n 3, 1) := by decide +kernel
theorem dL_446 : decode code 446 = .ok (.iconst 3, 1) := by decide +kernel
theorem dL_447 : decode code 447 = .ok (.iadd, 1) := by decide +kernel
theorem dL_448 : decode code 448 = .ok (.iaload, 1) := by decide +kernel
theorem dL_449 : decode code 449 = .ok (.aload_n 0, 1) := by decide +kernel
theorem dL_450 : decode code 450 = .ok (.iload_n 3, 1) := by decide +kernel
theorem dL_451 : decode code 451 = .ok (.iconst 4, 1) := by decide +kernel
theorem dL_452 : decode code 452 = .ok (.iadd, 1) := by decide +kernel
theorem dL_453 : decode code 453 = .ok (.iaload, 1) := by decide +kernel
theorem dL_454 : decode code 454 = .ok (.invokevirtual 50, 3) := by decide +kernel
theorem dL_457 : decode code 457 = .ok (.if_icmp .eq 792, 3) := by decide +kernel
theorem dL_462 : decode code 462 = .ok (.aload_n 1, 1) := by decide +kernel
theorem dL_463 : decode code 463 = .ok (.aload_n 0, 1) := by decide +kernel
theorem dL_464 : decode code 464 = .ok (.iload_n 3, 1) := by decide +kernel
theorem dL_465 : decode code 465 = .ok (.iconst 1, 1) := by decide +kernel
theorem dL_466 : decode code 466 = .ok (.iadd, 1) := by decide +kernel
theorem dL_467 : decode code 467 = .ok (.iaload, 1) := by decide +kernel
theorem dL_468 : decode code 468 = .ok (.invokevirtual 51, 3) := by decide +kernel
theorem dL_471 : decode code 471 = .ok (.aload_n 2, 1) := by decide +kernel
theorem dL_472 : decode code 472 = .ok (.aload_n 0, 1) := by decide +kernel
theorem dL_473 : decode code 473 = .ok (.iload_n 3, 1) := by decide +kernel
theorem dL_474 : decode code 474 = .ok (.iconst 1, 1) := by decide +kernel
theorem dL_475 : decode code 475 = .ok (.iadd, 1) := by decide +kernel
theorem dL_476 : decode code 476 = .ok (.iaload, 1) := by decide +kernel
theorem dL_477 : decode code 477 = .ok (.invokevirtual 55, 3) := by decide +kernel
theorem dL_480 : decode code 480 = .ok (.if_icmp .eq 769, 3) := by decide +kernel
theorem dL_485 : decode code 485 = .ok (.aload_n 1, 1) := by decide +kernel
theorem dL_486 : decode code 486 = .ok (.aload_n 0, 1) := by decide +kernel
theorem dL_487 : decode code 487 = .ok (.iload_n 3, 1) := by decide +kernel
theorem dL_488 : decode code 488 = .ok (.iconst 1, 1) := by decide +kernel
theorem dL_489 : decode code 489 = .ok (.iadd, 1) := by decide +kernel
theorem dL_490 : decode code 490 = .ok (.iaload, 1) := by decide +kernel
theorem dL_491 : decode code 491 = .ok (.invokevirtual 56, 3) := by decide +kernel
theorem dL_494 : decode code 494 = .ok (.aload_n 2, 1) := by decide +kernel
theorem dL_495 : decode code 495 = .ok (.aload_n 0, 1) := by decide +kernel
theorem dL_496 : decode code 496 = .ok (.iload_n 3, 1) := by decide +kernel
theorem dL_497 : decode code 497 = .ok (.iconst 1, 1) := by decide +kernel
theorem dL_498 : decode code 498 = .ok (.iadd, 1) := by decide +kernel
theorem dL_499 : decode code 499 = .ok (.iaload, 1) := by decide +kernel
theorem dL_500 : decode code 500 = .ok (.invokevirtual 59, 3) := by decide +kernel
theorem dL_503 : decode code 503 = .ok (.if_icmp .eq 746, 3) := by decide +kernel
theorem dL_508 : decode code 508 = .ok (.aload_n 1, 1) := by decide +kernel
theorem dL_509 : decode code 509 = .ok (.aload_n 0, 1) := by decide +kernel
theorem dL_510 : decode code 510 = .ok (.iload_n 3, 1) := by decide +kernel
theorem dL_511 : decode code 511 = .ok (.iconst 1, 1) := by decide +kernel
theorem dL_512 : decode code 512 = .ok (.iadd, 1) := by decide +kernel
theorem dL_513 : decode code 513 = .ok (.iaload, 1) := by decide +kernel
theorem dL_514 : decode code 514 = .ok (.aload_n 0, 1) := by decide +kernel
theorem dL_515 : decode code 515 = .ok (.iload_n 3, 1) := by decide +kernel
theorem dL_516 : decode code 516 = .ok (.iconst 2, 1) := by decide +kernel
theorem dL_517 : decode code 517 = .ok (.iadd, 1) := by decide +kernel
theorem dL_518 : decode code 518 = .ok (.iaload, 1) := by decide +kernel
theorem dL_519 : decode code 519 = .ok (.aload_n 0, 1) := by decide +kernel
theorem dL_520 : decode code 520 = .ok (.iload_n 3, 1) := by decide +kernel
theorem dL_521 : decode code 521 = .ok (.iconst 3, 1) := by decide +kernel
theorem dL_522 : decode code 522 = .ok (.iadd, 1) := by decide +kernel
theorem dL_523 : decode code 523 = .ok (.iaload, 1) := by decide +kernel
theorem dL_524 : decode code 524 = .ok (.invokevirtual 60, 3) := by decide +kernel
theorem dL_527 : decode code 527 = .ok (.aload_n 2, 1) := by decide +kernel
theorem dL_528 : decode code 528 = .ok (.aload_n 0, 1) := by decide +kernel
theorem dL_529 : decode code 529 = .ok (.iload_n 3, 1) := by decide +kernel
theorem dL_530 : decode code 530 = .ok (.iconst 1, 1) := by decide +kernel
theorem dL_531 : decode code 531 = .ok (.iadd, 1) := by decide +kernel
theorem dL_532 : decode code 532 = .ok (.iaload, 1) := by decide +kernel
theorem dL_533 : decode code 533 = .ok (.aload_n 0, 1) := by decide +kernel
theorem dL_534 : decode code 534 = .ok (.iload_n 3, 1) := by decide +kernel
theorem dL_535 : decode code 535 = .ok (.iconst 2, 1) := by decide +kernel
theorem dL_536 : decode code 536 = .ok (.iadd, 1) := by decide +kernel
theorem dL_537 : decode code 537 = .ok (.iaload, 1) := by decide +kernel
theorem dL_538 : decode code 538 = .ok (.aload_n 0, 1) := by decide +kernel
theorem dL_539 : decode code 539 = .ok (.iload_n 3, 1) := by decide +kernel
theorem dL_540 : decode code 540 = .ok (.iconst 3, 1) := by decide +kernel
theorem dL_541 : decode code 541 = .ok (.iadd, 1) := by decide +kernel
theorem dL_542 : decode code 542 = .ok (.iaload, 1) := by decide +kernel
theorem dL_543 : decode code 543 = .ok (.invokevirtual 64, 3) := by decide +kernel
theorem dL_546 : decode code 546 = .ok (.if_icmp .eq 703, 3) := by decide +kernel
theorem dL_551 : decode code 551 = .ok (.aload_n 1, 1) := by decide +kernel
theorem dL_552 : decode code 552 = .ok (.aload_n 0, 1) := by decide +kernel
theorem dL_553 : decode code 553 = .ok (.iload_n 3, 1) := by decide +kernel
theorem dL_554 : decode code 554 = .ok (.iconst 1, 1) := by decide +kernel
theorem dL_555 : decode code 555 = .ok (.iadd, 1) := by decide +kernel
theorem dL_556 : decode code 556 = .ok (.iaload, 1) := by decide +kernel
theorem dL_557 : decode code 557 = .ok (.aload_n 0, 1) := by decide +kernel
theorem dL_558 : decode code 558 = .ok (.iload_n 3, 1) := by decide +kernel
theorem dL_559 : decode code 559 = .ok (.iconst 2, 1) := by decide +kernel
theorem dL_560 : decode code 560 = .ok (.iadd, 1) := by decide +kernel
theorem dL_561 : decode code 561 = .ok (.iaload, 1) := by decide +kernel
theorem dL_562 : decode code 562 = .ok (.aload_n 0, 1) := by decide +kernel
theorem dL_563 : decode code 563 = .ok (.iload_n 3, 1) := by decide +kernel
theorem dL_564 : decode code 564 = .ok (.iconst 3, 1) := by decide +kernel
theorem dL_565 : decode code 565 = .ok (.iadd, 1) := by decide +kernel
theorem dL_566 : decode code 566 = .ok (.iaload, 1) := by decide +kernel
theorem dL_567 : decode code 567 = .ok (.invokevirtual 65, 3) := by decide +kernel
theorem dL_570 : decode code 570 = .ok (.aload_n 2, 1) := by decide +kernel
theorem dL_571 : decode code 571 = .ok (.aload_n 0, 1) := by decide +kernel
theorem dL_572 : decode code 572 = .ok (.iload_n 3, 1) := by decide +kernel
theorem dL_573 : decode code 573 = .ok (.iconst 1, 1) := by decide +kernel
theorem dL_574 : decode code 574 = .ok (.iadd, 1) := by decide +kernel
theorem dL_575 : decode code 575 = .ok (.iaload, 1) := by decide +kernel
theorem dL_576 : decode code 576 = .ok (.aload_n 0, 1) := by decide +kernel
theorem dL_577 : decode code 577 = .ok (.iload_n 3, 1) := by decide +kernel
theorem dL_578 : decode code 578 = .ok (.iconst 2, 1) := by decide +kernel
theorem dL_579 : decode code 579 = .ok (.iadd, 1) := by decide +kernel
theorem dL_580 : decode code 580 = .ok (.iaload, 1) := by decide +kernel
theorem dL_581 : decode code 581 = .ok (.aload_n 0, 1) := by decide +kernel
theorem dL_582 : decode code 582 = .ok (.iload_n 3, 1) := by decide +kernel
theorem dL_583 : decode code 583 = .ok (.iconst 3, 1) := by decide +kernel
theorem dL_584 : decode code 584 = .ok (.iadd, 1) := by decide +kernel
theorem dL_585 : decode code 585 = .ok (.iaload, 1) := by decide +kernel
theorem dL_586 : decode code 586 = .ok (.invokevirtual 68, 3) := by decide +kernel
theorem dL_589 : decode code 589 = .ok (.if_icmp .eq 660, 3) := by decide +kernel
theorem dL_594 : decode code 594 = .ok (.aload_n 1, 1) := by decide +kernel
theorem dL_595 : decode code 595 = .ok (.aload_n 0, 1) := by decide +kernel
theorem dL_596 : decode code 596 = .ok (.iload_n 3, 1) := by decide +kernel
theorem dL_597 : decode code 597 = .ok (.iconst 1, 1) := by decide +kernel
theorem dL_598 : decode code 598 = .ok (.iadd, 1) := by decide +kernel
theorem dL_599 : decode code 599 = .ok (.iaload, 1) := by decide +kernel
theorem dL_600 : decode code 600 = .ok (.invokevirtual 69, 3) := by decide +kernel
theorem dL_603 : decode code 603 = .ok (.aload_n 2, 1) := by decide +kernel
theorem dL_604 : decode code 604 = .ok (.aload_n 0, 1) := by decide +kernel
theorem dL_605 : decode code 605 = .ok (.iload_n 3, 1) := by decide +kernel
theorem dL_606 : decode code 606 = .ok (.iconst 1, 1) := by decide +kernel
theorem dL_607 : decode code 607 = .ok (.iadd, 1) := by decide +kernel
theorem dL_608 : decode code 608 = .ok (.iaload, 1) := by decide +kernel
theorem dL_609 : decode code 609 = .ok (.invokevirtual 72, 3) := by decide +kernel
theorem dL_612 : decode code 612 = .ok (.if_icmp .eq 637, 3) := by decide +kernel
theorem dL_617 : decode code 617 = .ok (.aload_n 1, 1) := by decide +kernel
theorem dL_618 : decode code 618 = .ok (.invokevirtual 73, 3) := by decide +kernel
theorem dL_621 : decode code 621 = .ok (.aload_n 2, 1) := by decide +kernel
theorem dL_622 : decode code 622 = .ok (.invokevirtual 77, 3) := by decide +kernel
theorem dL_625 : decode code 625 = .ok (.if_icmp .eq 624, 3) := by decide +kernel
theorem dL_630 : decode code 630 = .ok (.aload_n 1, 1) := by decide +kernel
theorem dL_631 : decode code 631 = .ok (.aload_n 0, 1) := by decide +kernel
theorem dL_632 : decode code 632 = .ok (.iload_n 3, 1) := by decide +kernel
theorem dL_633 : decode code 633 = .ok (.iconst 1, 1) := by decide +kernel
theorem dL_634 : decode code 634 = .ok (.iadd, 1) := by decide +kernel
theorem dL_635 : decode code 635 = .ok (.iaload, 1) := by decide +kernel
theorem dL_636 : decode code 636 = .ok (.aload_n 0, 1) := by decide +kernel
theorem dL_637 : decode code 637 = .ok (.iload_n 3, 1) := by decide +kernel
theorem dL_638 : decode code 638 = .ok (.iconst 2, 1) := by decide +kernel
theorem dL_639 : decode code 639 = .ok (.iadd, 1) := by decide +kernel
theorem dL_640 : decode code 640 = .ok (.iaload, 1) := by decide +kernel
theorem dL_641 : decode code 641 = .ok (.invokevirtual 78, 3) := by decide +kernel
theorem dL_644 : decode code 644 = .ok (.aload_n 2, 1) := by decide +kernel
theorem dL_645 : decode code 645 = .ok (.aload_n 0, 1) := by decide +kernel
theorem dL_646 : decode code 646 = .ok (.iload_n 3, 1) := by decide +kernel
theorem dL_647 : decode code 647 = .ok (.iconst 1, 1) := by decide +kernel
theorem dL_648 : decode code 648 = .ok (.iadd, 1) := by decide +kernel
theorem dL_649 : decode code 649 = .ok (.iaload, 1) := by decide +kernel
theorem dL_650 : decode code 650 = .ok (.aload_n 0, 1) := by decide +kernel
theorem dL_651 : decode code 651 = .ok (.iload_n 3, 1) := by decide +kernel
theorem dL_652 : decode code 652 = .ok (.iconst 2, 1) := by decide +kernel
theorem dL_653 : decode code 653 = .ok (.iadd, 1) := by decide +kernel
theorem dL_654 : decode code 654 = .ok (.iaload, 1) := by decide +kernel
theorem dL_655 : decode code 655 = .ok (.invokevirtual 81, 3) := by decide +kernel
theorem dL_658 : decode code 658 = .ok (.if_icmp .eq 591, 3) := by decide +kernel
theorem dL_663 : decode code 663 = .ok (.aload_n 1, 1) := by decide +kernel
theorem dL_664 : decode code 664 = .ok (.aload_n 0, 1) := by decide +kernel
theorem dL_665 : decode code 665 = .ok (.iload_n 3, 1) := by decide +kernel
theorem dL_666 : decode code 666 = .ok (.iconst 1, 1) := by decide +kernel
theorem dL_667 : decode code 667 = .ok (.iadd, 1) := by decide +kernel
theorem dL_668 : decode code 668 = .ok (.iaload, 1) := by decide +kernel
theorem dL_669 : decode code 669 = .ok (.invokevirtual 82, 3) := by decide +kernel
theorem dL_672 : decode code 672 = .ok (.aload_n 2, 1) := by decide +kernel
theorem dL_673 : decode code 673 = .ok (.aload_n 0, 1) := by decide +kernel
theorem dL_674 : decode code 674 = .ok (.iload_n 3, 1) := by decide +kernel
theorem dL_675 : decode code 675 = .ok (.iconst 1, 1) := by decide +kernel
theorem dL_676 : decode code 676 = .ok (.iadd, 1) := by decide +kernel
theorem dL_677 : decode code 677 = .ok (.iaload, 1) := by decide +kernel
theorem dL_678 : decode code 678 = .ok (.invokevirtual 85, 3) := by decide +kernel
theorem dL_681 : decode code 681 = .ok (.if_icmp .eq 568, 3) := by decide +kernel
theorem dL_686 : decode code 686 = .ok (.aload_n 1, 1) := by decide +kernel
theorem dL_687 : decode code 687 = .ok (.aload_n 0, 1) := by decide +kernel
theorem dL_688 : decode code 688 = .ok (.iload_n 3, 1) := by decide +kernel
theorem dL_689 : decode code 689 = .ok (.iconst 1, 1) := by decide +kernel
theorem dL_690 : decode code 690 = .ok (.iadd, 1) := by decide +kernel
theorem dL_691 : decode code 691 = .ok (.iaload, 1) := by decide +kernel
theorem dL_692 : decode code 692 = .ok (.aload_n 0, 1) := by decide +kernel
theorem dL_693 : decode code 693 = .ok (.iload_n 3, 1) := by decide +kernel
theorem dL_694 : decode code 694 = .ok (.iconst 2, 1) := by decide +kernel
theorem dL_695 : decode code 695 = .ok (.iadd, 1) := by decide +kernel
theorem dL_696 : decode code 696 = .ok (.iaload, 1) := by decide +kernel
theorem dL_697 : decode code 697 = .ok (.invokevirtual 86, 3) := by decide +kernel
theorem dL_700 : decode code 700 = .ok (.aload_n 2, 1) := by decide +kernel
theorem dL_701 : decode code 701 = .ok (.aload_n 0, 1) := by decide +kernel
theorem dL_702 : decode code 702 = .ok (.iload_n 3, 1) := by decide +kernel
theorem dL_703 : decode code 703 = .ok (.iconst 1, 1) := by decide +kernel
theorem dL_704 : decode code 704 = .ok (.iadd, 1) := by decide +kernel
theorem dL_705 : decode code 705 = .ok (.iaload, 1) := by decide +kernel
theorem dL_706 : decode code 706 = .ok (.aload_n 0, 1) := by decide +kernel
theorem dL_707 : decode code 707 = .ok (.iload_n 3, 1) := by decide +kernel
theorem dL_708 : decode code 708 = .ok (.iconst 2, 1) := by decide +kernel
theorem dL_709 : decode code 709 = .ok (.iadd, 1) := by decide +kernel
theorem dL_710 : decode code 710 = .ok (.iaload, 1) := by decide +kernel
theorem dL_711 : decode code 711 = .ok (.invokevirtual 89, 3) := by decide +kernel
theorem dL_714 : decode code 714 = .ok (.if_icmp .eq 535, 3) := by decide +kernel
theorem dL_719 : decode code 719 = .ok (.aload_n 1, 1) := by decide +kernel
theorem dL_720 : decode code 720 = .ok (.aload_n 0, 1) := by decide +kernel
theorem dL_721 : decode code 721 = .ok (.iload_n 3, 1) := by decide +kernel
theorem dL_722 : decode code 722 = .ok (.iconst 1, 1) := by decide +kernel
theorem dL_723 : decode code 723 = .ok (.iadd, 1) := by decide +kernel
theorem dL_724 : decode code 724 = .ok (.iaload, 1) := by decide +kernel
theorem dL_725 : decode code 725 = .ok (.invokevirtual 90, 3) := by decide +kernel
theorem dL_728 : decode code 728 = .ok (.aload_n 2, 1) := by decide +kernel
theorem dL_729 : decode code 729 = .ok (.aload_n 0, 1) := by decide +kernel
theorem dL_730 : decode code 730 = .ok (.iload_n 3, 1) := by decide +kernel
theorem dL_731 : decode code 731 = .ok (.iconst 1, 1) := by decide +kernel
theorem dL_732 : decode code 732 = .ok (.iadd, 1) := by decide +kernel
theorem dL_733 : decode code 733 = .ok (.iaload, 1) := by decide +kernel
theorem dL_734 : decode code 734 = .ok (.invokevirtual 93, 3) := by decide +kernel
theorem dL_737 : decode code 737 = .ok (.if_icmp .eq 512, 3) := by decide +kernel
theorem dL_742 : decode code 742 = .ok (.aload_n 1, 1) := by decide +kernel
theorem dL_743 : decode code 743 = .ok (.aload_n 0, 1) := by decide +kernel
theorem dL_744 : decode code 744 = .ok (.iload_n 3, 1) := by decide +kernel
theorem dL_745 : decode code 745 = .ok (.iconst 1, 1) := by decide +kernel
theorem dL_746 : decode code 746 = .ok (.iadd, 1) := by decide +kernel
theorem dL_747 : decode code 747 = .ok (.iaload, 1) := by decide +kernel
theorem dL_748 : decode code 748 = .ok (.invokevirtual 94, 3) := by decide +kernel
theorem dL_751 : decode code 751 = .ok (.aload_n 2, 1) := by decide +kernel
theorem dL_752 : decode code 752 = .ok (.aload_n 0, 1) := by decide +kernel
theorem dL_753 : decode code 753 = .ok (.iload_n 3, 1) := by decide +kernel
theorem dL_754 : decode code 754 = .ok (.iconst 1, 1) := by decide +kernel
theorem dL_755 : decode code 755 = .ok (.iadd, 1) := by decide +kernel
theorem dL_756 : decode code 756 = .ok (.iaload, 1) := by decide +kernel
theorem dL_757 : decode code 757 = .ok (.invokevirtual 97, 3) := by decide +kernel
theorem dL_760 : decode code 760 = .ok (.if_icmp .eq 489, 3) := by decide +kernel
theorem dL_765 : decode code 765 = .ok (.aload_n 1, 1) := by decide +kernel
theorem dL_766 : decode code 766 = .ok (.aload_n 0, 1) := by decide +kernel
theorem dL_767 : decode code 767 = .ok (.iload_n 3, 1) := by decide +kernel
theorem dL_768 : decode code 768 = .ok (.iconst 1, 1) := by decide +kernel
theorem dL_769 : decode code 769 = .ok (.iadd, 1) := by decide +kernel
theorem dL_770 : decode code 770 = .ok (.iaload, 1) := by decide +kernel
theorem dL_771 : decode code 771 = .ok (.aload_n 0, 1) := by decide +kernel
theorem dL_772 : decode code 772 = .ok (.iload_n 3, 1) := by decide +kernel
theorem dL_773 : decode code 773 = .ok (.iconst 2, 1) := by decide +kernel
theorem dL_774 : decode code 774 = .ok (.iadd, 1) := by decide +kernel
theorem dL_775 : decode code 775 = .ok (.iaload, 1) := by decide +kernel
theorem dL_776 : decode code 776 = .ok (.invokevirtual 98, 3) := by decide +kernel
theorem dL_779 : decode code 779 = .ok (.aload_n 2, 1) := by decide +kernel
theorem dL_780 : decode code 780 = .ok (.aload_n 0, 1) := by decide +kernel
theorem dL_781 : decode code 781 = .ok (.iload_n 3, 1) := by decide +kernel
theorem dL_782 : decode code 782 = .ok (.iconst 1, 1) := by decide +kernel
theorem dL_783 : decode code 783 = .ok (.iadd, 1) := by decide +kernel
theorem dL_784 : decode code 784 = .ok (.iaload, 1) := by decide +kernel
theorem dL_785 : decode code 785 = .ok (.aload_n 0, 1) := by decide +kernel
theorem dL_786 : decode code 786 = .ok (.iload_n 3, 1) := by decide +kernel
theorem dL_787 : decode code 787 = .ok (.iconst 2, 1) := by decide +kernel
theorem dL_788 : decode code 788 = .ok (.iadd, 1) := by decide +kernel
theorem dL_789 : decode code 789 = .ok (.iaload, 1) := by decide +kernel
theorem dL_790 : decode code 790 = .ok (.invokevirtual 101, 3) := by decide +kernel
theorem dL_793 : decode code 793 = .ok (.if_icmp .eq 456, 3) := by decide +kernel
theorem dL_798 : decode code 798 = .ok (.aload_n 1, 1) := by decide +kernel
theorem dL_799 : decode code 799 = .ok (.aload_n 0, 1) := by decide +kernel
theorem dL_800 : decode code 800 = .ok (.iload_n 3, 1) := by decide +kernel
theorem dL_801 : decode code 801 = .ok (.iconst 1, 1) := by decide +kernel
theorem dL_802 : decode code 802 = .ok (.iadd, 1) := by decide +kernel
theorem dL_803 : decode code 803 = .ok (.iaload, 1) := by decide +kernel
theorem dL_804 : decode code 804 = .ok (.invokevirtual 102, 3) := by decide +kernel
theorem dL_807 : decode code 807 = .ok (.aload_n 2, 1) := by decide +kernel
theorem dL_808 : decode code 808 = .ok (.aload_n 0, 1) := by decide +kernel
theorem dL_809 : decode code 809 = .ok (.iload_n 3, 1) := by decide +kernel
theorem dL_810 : decode code 810 = .ok (.iconst 1, 1) := by decide +kernel
theorem dL_811 : decode code 811 = .ok (.iadd, 1) := by decide +kernel
theorem dL_812 : decode code 812 = .ok (.iaload, 1) := by decide +kernel
theorem dL_813 : decode code 813 = .ok (.invokevirtual 105, 3) := by decide +kernel
theorem dL_816 : decode code 816 = .ok (.if_icmp .eq 433, 3) := by decide +kernel
theorem dL_821 : decode code 821 = .ok (.aload_n 1, 1) := by decide +kernel
theorem dL_822 : decode code 822 = .ok (.aload_n 0, 1) := by decide +kernel
theorem dL_823 : decode code 823 = .ok (.iload_n 3, 1) := by decide +kernel
theorem dL_824 : decode code 824 = .ok (.iconst 1, 1) := by decide +kernel
theorem dL_825 : decode code 825 = .ok (.iadd, 1) := by decide +kernel
theorem dL_826 : decode code 826 = .ok (.iaload, 1) := by decide +kernel
theorem dL_827 : decode code 827 = .ok (.invokevirtual 106, 3) := by decide +kernel
theorem dL_830 : decode code 830 = .ok (.aload_n 2, 1) := by decide +kernel
theorem dL_831 : decode code 831 = .ok (.aload_n 0, 1) := by decide +kernel
theorem dL_832 : decode code 832 = .ok (.iload_n 3, 1) := by decide +kernel
theorem dL_833 : decode code 833 = .ok (.iconst 1, 1) := by decide +kernel
theorem dL_834 : decode code 834 = .ok (.iadd, 1) := by decide +kernel
theorem dL_835 : decode code 835 = .ok (.iaload, 1) := by decide +kernel
theorem dL_836 : decode code 836 = .ok (.invokevirtual 109, 3) := by decide +kernel
theorem dL_839 : decode code 839 = .ok (.if_icmp .eq 410, 3) := by decide +kernel
theorem dL_844 : decode code 844 = .ok (.aload_n 1, 1) := by decide +kernel
theorem dL_845 : decode code 845 = .ok (.aload_n 0, 1) := by decide +kernel
theorem dL_846 : decode code 846 = .ok (.iload_n 3, 1) := by decide +kernel
theorem dL_847 : decode code 847 = .ok (.iconst 1, 1) := by decide +kernel
theorem dL_848 : decode code 848 = .ok (.iadd, 1) := by decide +kernel
theorem dL_849 : decode code 849 = .ok (.iaload, 1) := by decide +kernel
theorem dL_850 : decode code 850 = .ok (.invokevirtual 110, 3) := by decide +kernel
theorem dL_853 : decode code 853 = .ok (.aload_n 2, 1) := by decide +kernel
theorem dL_854 : decode code 854 = .ok (.aload_n 0, 1) := by decide +kernel
theorem dL_855 : decode code 855 = .ok (.iload_n 3, 1) := by decide +kernel
theorem dL_856 : decode code 856 = .ok (.iconst 1, 1) := by decide +kernel
theorem dL_857 : decode code 857 = .ok (.iadd, 1) := by decide +kernel
theorem dL_858 : decode code 858 = .ok (.iaload, 1) := by decide +kernel
theorem dL_859 : decode code 859 = .ok (.invokevirtual 113, 3) := by decide +kernel
theorem dL_862 : decode code 862 = .ok (.if_icmp .eq 387, 3) := by decide +kernel
theorem dL_867 : decode code 867 = .ok (.aload_n 1, 1) := by decide +kernel
theorem dL_868 : decode code 868 = .ok (.invokevirtual 114, 3) := by decide +kernel
theorem dL_871 : decode code 871 = .ok (.aload_n 2, 1) := by decide +kernel
theorem dL_872 : decode code 872 = .ok (.invokevirtual 117, 3) := by decide +kernel
theorem dL_875 : decode code 875 = .ok (.if_icmp .eq 374, 3) := by decide +kernel
theorem dL_880 : decode code 880 = .ok (.aload_n 1, 1) := by decide +kernel
theorem dL_881 : decode code 881 = .ok (.aload_n 0, 1) := by decide +kernel
theorem dL_882 : decode code 882 = .ok (.iload_n 3, 1) := by decide +kernel
theorem dL_883 : decode code 883 = .ok (.iconst 1, 1) := by decide +kernel
theorem dL_884 : decode code 884 = .ok (.iadd, 1) := by decide +kernel
theorem dL_885 : decode code 885 = .ok (.iaload, 1) := by decide +kernel
theorem dL_886 : decode code 886 = .ok (.aload_n 0, 1) := by decide +kernel
theorem dL_887 : decode code 887 = .ok (.iload_n 3, 1) := by decide +kernel
theorem dL_888 : decode code 888 = .ok (.iconst 2, 1) := by decide +kernel
theorem dL_889 : decode code 889 = .ok (.iadd, 1) := by decide +kernel
theorem dL_890 : decode code 890 = .ok (.iaload, 1) := by decide +kernel
theorem dL_891 : decode code 891 = .ok (.invokevirtual 118, 3) := by decide +kernel
theorem dL_894 : decode code 894 = .ok (.aload_n 2, 1) := by decide +kernel
theorem dL_895 : decode code 895 = .ok (.aload_n 0, 1) := by decide +kernel
theorem dL_896 : decode code 896 = .ok (.iload_n 3, 1) := by decide +kernel
theorem dL_897 : decode code 897 = .ok (.iconst 1, 1) := by decide +kernel
theorem dL_898 : decode code 898 = .ok (.iadd, 1) := by decide +kernel
theorem dL_899 : decode code 899 = .ok (.iaload, 1) := by decide +kernel
theorem dL_900 : decode code 900 = .ok (.aload_n 0, 1) := by decide +kernel
theorem dL_901 : decode code 901 = .ok (.iload_n 3, 1) := by decide +kernel
theorem dL_902 : decode code 902 = .ok (.iconst 2, 1) := by decide +kernel
theorem dL_903 : decode code 903 = .ok (.iadd, 1) := by decide +kernel
theorem dL_904 : decode code 904 = .ok (.iaload, 1) := by decide +kernel
theorem dL_905 : decode code 905 = .ok (.invokevirtual 121, 3) := by decide +kernel
theorem dL_908 : decode code 908 = .ok (.if_icmp .eq 341, 3) := by decide +kernel
theorem dL_913 : decode code 913 = .ok (.aload_n 1, 1) := by decide +kernel
theorem dL_914 : decode code 914 = .ok (.aload_n 0, 1) := by decide +kernel
theorem dL_915 : decode code 915 = .ok (.iload_n 3, 1) := by decide +kernel
theorem dL_916 : decode code 916 = .ok (.iconst 1, 1) := by decide +kernel
theorem dL_917 : decode code 917 = .ok (.iadd, 1) := by decide +kernel
theorem dL_918 : decode code 918 = .ok (.iaload, 1) := by decide +kernel
theorem dL_919 : decode code 919 = .ok (.aload_n 0, 1) := by decide +kernel
theorem dL_920 : decode code 920 = .ok (.iload_n 3, 1) := by decide +kernel
theorem dL_921 : decode code 921 = .ok (.iconst 2, 1) := by decide +kernel
theorem dL_922 : decode code 922 = .ok (.iadd, 1) := by decide +kernel
theorem dL_923 : decode code 923 = .ok (.iaload, 1) := by decide +kernel
theorem dL_924 : decode code 924 = .ok (.aload_n 0, 1) := by decide +kernel
theorem dL_925 : decode code 925 = .ok (.iload_n 3, 1) := by decide +kernel
theorem dL_926 : decode code 926 = .ok (.iconst 3, 1) := by decide +kernel
theorem dL_927 : decode code 927 = .ok (.iadd, 1) := by decide +kernel
theorem dL_928 : decode code 928 = .ok (.iaload, 1) := by decide +kernel
theorem dL_929 : decode code 929 = .ok (.aload_n 0, 1) := by decide +kernel
theorem dL_930 : decode code 930 = .ok (.iload_n 3, 1) := by decide +kernel
theorem dL_931 : decode code 931 = .ok (.iconst 4, 1) := by decide +kernel
theorem dL_932 : decode code 932 = .ok (.iadd, 1) := by decide +kernel
theorem dL_933 : decode code 933 = .ok (.iaload, 1) := by decide +kernel
theorem dL_934 : decode code 934 = .ok (.invokevirtual 122, 3) := by decide +kernel
theorem dL_937 : decode code 937 = .ok (.aload_n 2, 1) := by decide +kernel
theorem dL_938 : decode code 938 = .ok (.aload_n 0, 1) := by decide +kernel
theorem dL_939 : decode code 939 = .ok (.iload_n 3, 1) := by decide +kernel
theorem dL_940 : decode code 940 = .ok (.iconst 1, 1) := by decide +kernel
theorem dL_941 : decode code 941 = .ok (.iadd, 1) := by decide +kernel
theorem dL_942 : decode code 942 = .ok (.iaload, 1) := by decide +kernel
theorem dL_943 : decode code 943 = .ok (.aload_n 0, 1) := by decide +kernel
theorem dL_944 : decode code 944 = .ok (.iload_n 3, 1) := by decide +kernel
theorem dL_945 : decode code 945 = .ok (.iconst 2, 1) := by decide +kernel
theorem dL_946 : decode code 946 = .ok (.iadd, 1) := by decide +kernel
theorem dL_947 : decode code 947 = .ok (.iaload, 1) := by decide +kernel
theorem dL_948 : decode code 948 = .ok (.aload_n 0, 1) := by decide +kernel
theorem dL_949 : decode code 949 = .ok (.iload_n 3, 1) := by decide +kernel
theorem dL_950 : decode code 950 = .ok (.iconst 3, 1) := by decide +kernel
theorem dL_951 : decode code 951 = .ok (.iadd, 1) := by decide +kernel
theorem dL_952 : decode code 952 = .ok (.iaload, 1) := by decide +kernel
theorem dL_953 : decode code 953 = .ok (.aload_n 0, 1) := by decide +kernel
theorem dL_954 : decode code 954 = .ok (.iload_n 3, 1) := by decide +kernel
theorem dL_955 : decode code 955 = .ok (.iconst 4, 1) := by decide +kernel
theorem dL_956 : decode code 956 = .ok (.iadd, 1) := by decide +kernel
theorem dL_957 : decode code 957 = .ok (.iaload, 1) := by decide +kernel
theorem dL_958 : decode code 958 = .ok (.invokevirtual 125, 3) := by decide +kernel
theorem dL_961 : decode code 961 = .ok (.if_icmp .eq 288, 3) := by decide +kernel
theorem dL_966 : decode code 966 = .ok (.aload_n 1, 1) := by decide +kernel
theorem dL_967 : decode code 967 = .ok (.aload_n 0, 1) := by decide +kernel
theorem dL_968 : decode code 968 = .ok (.iload_n 3, 1) := by decide +kernel
theorem dL_969 : decode code 969 = .ok (.iconst 1, 1) := by decide +kernel
theorem dL_970 : decode code 970 = .ok (.iadd, 1) := by decide +kernel
theorem dL_971 : decode code 971 = .ok (.iaload, 1) := by decide +kernel
theorem dL_972 : decode code 972 = .ok (.invokevirtual 126, 3) := by decide +kernel
theorem dL_975 : decode code 975 = .ok (.aload_n 2, 1) := by decide +kernel
theorem dL_976 : decode code 976 = .ok (.aload_n 0, 1) := by decide +kernel
theorem dL_977 : decode code 977 = .ok (.iload_n 3, 1) := by decide +kernel
theorem dL_978 : decode code 978 = .ok (.iconst 1, 1) := by decide +kernel
theorem dL_979 : decode code 979 = .ok (.iadd, 1) := by decide +kernel
theorem dL_980 : decode code 980 = .ok (.iaload, 1) := by decide +kernel
theorem dL_981 : decode code 981 = .ok (.invokevirtual 129, 3) := by decide +kernel
theorem dL_984 : decode code 984 = .ok (.if_icmp .eq 265, 3) := by decide +kernel
theorem dL_989 : decode code 989 = .ok (.aload_n 1, 1) := by decide +kernel
theorem dL_990 : decode code 990 = .ok (.aload_n 0, 1) := by decide +kernel
theorem dL_991 : decode code 991 = .ok (.iload_n 3, 1) := by decide +kernel
theorem dL_992 : decode code 992 = .ok (.iconst 1, 1) := by decide +kernel
theorem dL_993 : decode code 993 = .ok (.iadd, 1) := by decide +kernel
theorem dL_994 : decode code 994 = .ok (.iaload, 1) := by decide +kernel
theorem dL_995 : decode code 995 = .ok (.aload_n 0, 1) := by decide +kernel
theorem dL_996 : decode code 996 = .ok (.iload_n 3, 1) := by decide +kernel
theorem dL_997 : decode code 997 = .ok (.iconst 2, 1) := by decide +kernel
theorem dL_998 : decode code 998 = .ok (.iadd, 1) := by decide +kernel
theorem dL_999 : decode code 999 = .ok (.iaload, 1) := by decide +kernel
theorem dL_1000 : decode code 1000 = .ok (.aload_n 0, 1) := by decide +kernel
theorem dL_1001 : decode code 1001 = .ok (.iload_n 3, 1) := by decide +kernel
theorem dL_1002 : decode code 1002 = .ok (.iconst 3, 1) := by decide +kernel
theorem dL_1003 : decode code 1003 = .ok (.iadd, 1) := by decide +kernel
theorem dL_1004 : decode code 1004 = .ok (.iaload, 1) := by decide +kernel
theorem dL_1005 : decode code 1005 = .ok (.aload_n 0, 1) := by decide +kernel
theorem dL_1006 : decode code 1006 = .ok (.iload_n 3, 1) := by decide +kernel
theorem dL_1007 : decode code 1007 = .ok (.iconst 4, 1) := by decide +kernel
theorem dL_1008 : decode code 1008 = .ok (.iadd, 1) := by decide +kernel
theorem dL_1009 : decode code 1009 = .ok (.iaload, 1) := by decide +kernel
theorem dL_1010 : decode code 1010 = .ok (.invokevirtual 130, 3) := by decide +kernel
theorem dL_1013 : decode code 1013 = .ok (.aload_n 2, 1) := by decide +kernel
theorem dL_1014 : decode code 1014 = .ok (.aload_n 0, 1) := by decide +kernel
theorem dL_1015 : decode code 1015 = .ok (.iload_n 3, 1) := by decide +kernel
theorem dL_1016 : decode code 1016 = .ok (.iconst 1, 1) := by decide +kernel
theorem dL_1017 : decode code 1017 = .ok (.iadd, 1) := by decide +kernel
theorem dL_1018 : decode code 1018 = .ok (.iaload, 1) := by decide +kernel
theorem dL_1019 : decode code 1019 = .ok (.aload_n 0, 1) := by decide +kernel
theorem dL_1020 : decode code 1020 = .ok (.iload_n 3, 1) := by decide +kernel
theorem dL_1021 : decode code 1021 = .ok (.iconst 2, 1) := by decide +kernel
theorem dL_1022 : decode code 1022 = .ok (.iadd, 1) := by decide +kernel
theorem dL_1023 : decode code 1023 = .ok (.iaload, 1) := by decide +kernel
theorem dL_1024 : decode code 1024 = .ok (.aload_n 0, 1) := by decide +kernel
theorem dL_1025 : decode code 1025 = .ok (.iload_n 3, 1) := by decide +kernel
theorem dL_1026 : decode code 1026 = .ok (.iconst 3, 1) := by decide +kernel
theorem dL_1027 : decode code 1027 = .ok (.iadd, 1) := by decide +kernel
theorem dL_1028 : decode code 1028 = .ok (.iaload, 1) := by decide +kernel
theorem dL_1029 : decode code 1029 = .ok (.aload_n 0, 1) := by decide +kernel
theorem dL_1030 : decode code 1030 = .ok (.iload_n 3, 1) := by decide +kernel
theorem dL_1031 : decode code 1031 = .ok (.iconst 4, 1) := by decide +kernel
theorem dL_1032 : decode code 1032 = .ok (.iadd, 1) := by decide +kernel
theorem dL_1033 : decode code 1033 = .ok (.iaload, 1) := by decide +kernel
theorem dL_1034 : decode code 1034 = .ok (.invokevirtual 133, 3) := by decide +kernel
theorem dL_1037 : decode code 1037 = .ok (.if_icmp .eq 212, 3) := by decide +kernel
theorem dL_1042 : decode code 1042 = .ok (.aload_n 1, 1) := by decide +kernel
theorem dL_1043 : decode code 1043 = .ok (.aload_n 0, 1) := by decide +kernel
theorem dL_1044 : decode code 1044 = .ok (.iload_n 3, 1) := by decide +kernel
theorem dL_1045 : decode code 1045 = .ok (.iconst 1, 1) := by decide +kernel
theorem dL_1046 : decode code 1046 = .ok (.iadd, 1) := by decide +kernel
theorem dL_1047 : decode code 1047 = .ok (.iaload, 1) := by decide +kernel
theorem dL_1048 : decode code 1048 = .ok (.aload_n 0, 1) := by decide +kernel
theorem dL_1049 : decode code 1049 = .ok (.iload_n 3, 1) := by decide +kernel
theorem dL_1050 : decode code 1050 = .ok (.iconst 2, 1) := by decide +kernel
theorem dL_1051 : decode code 1051 = .ok (.iadd, 1) := by decide +kernel
theorem dL_1052 : decode code 1052 = .ok (.iaload, 1) := by decide +kernel
theorem dL_1053 : decode code 1053 = .ok (.aload_n 0, 1) := by decide +kernel
theorem dL_1054 : decode code 1054 = .ok (.iload_n 3, 1) := by decide +kernel
theorem dL_1055 : decode code 1055 = .ok (.iconst 3, 1) := by decide +kernel
theorem dL_1056 : decode code 1056 = .ok (.iadd, 1) := by decide +kernel
theorem dL_1057 : decode code 1057 = .ok (.iaload, 1) := by decide +kernel
theorem dL_1058 : decode code 1058 = .ok (.ifCond .eq 7, 3) := by decide +kernel
theorem dL_1061 : decode code 1061 = .ok (.iconst 1, 1) := by decide +kernel
theorem dL_1062 : decode code 1062 = .ok (.goto 4, 3) := by decide +kernel
theorem dL_1065 : decode code 1065 = .ok (.iconst 0, 1) := by decide +kernel
theorem dL_1066 : decode code 1066 = .ok (.invokevirtual 134, 3) := by decide +kernel
theorem dL_1069 : decode code 1069 = .ok (.aload_n 2, 1) := by decide +kernel
theorem dL_1070 : decode code 1070 = .ok (.aload_n 0, 1) := by decide +kernel
theorem dL_1071 : decode code 1071 = .ok (.iload_n 3, 1) := by decide +kernel
theorem dL_1072 : decode code 1072 = .ok (.iconst 1, 1) := by decide +kernel
theorem dL_1073 : decode code 1073 = .ok (.iadd, 1) := by decide +kernel
theorem dL_1074 : decode code 1074 = .ok (.iaload, 1) := by decide +kernel
theorem dL_1075 : decode code 1075 = .ok (.aload_n 0, 1) := by decide +kernel
theorem dL_1076 : decode code 1076 = .ok (.iload_n 3, 1) := by decide +kernel
theorem dL_1077 : decode code 1077 = .ok (.iconst 2, 1) := by decide +kernel
theorem dL_1078 : decode code 1078 = .ok (.iadd, 1) := by decide +kernel
theorem dL_1079 : decode code 1079 = .ok (.iaload, 1) := by decide +kernel
theorem dL_1080 : decode code 1080 = .ok (.aload_n 0, 1) := by decide +kernel
theorem dL_1081 : decode code 1081 = .ok (.iload_n 3, 1) := by decide +kernel
theorem dL_1082 : decode code 1082 = .ok (.iconst 3, 1) := by decide +kernel
theorem dL_1083 : decode code 1083 = .ok (.iadd, 1) := by decide +kernel
theorem dL_1084 : decode code 1084 = .ok (.iaload, 1) := by decide +kernel
theorem dL_1085 : decode code 1085 = .ok (.ifCond .eq 7, 3) := by decide +kernel
theorem dL_1088 : decode code 1088 = .ok (.iconst 1, 1) := by decide +kernel
theorem dL_1089 : decode code 1089 = .ok (.goto 4, 3) := by decide +kernel
theorem dL_1092 : decode code 1092 = .ok (.iconst 0, 1) := by decide +kernel
theorem dL_1093 : decode code 1093 = .ok (.invokevirtual 138, 3) := by decide +kernel
theorem dL_1096 : decode code 1096 = .ok (.if_icmp .eq 153, 3) := by decide +kernel
theorem dL_1101 : decode code 1101 = .ok (.aload_n 1, 1) := by decide +kernel
theorem dL_1102 : decode code 1102 = .ok (.invokevirtual 139, 3) := by decide +kernel
theorem dL_1105 : decode code 1105 = .ok (.aload_n 2, 1) := by decide +kernel
theorem dL_1106 : decode code 1106 = .ok (.invokevirtual 142, 3) := by decide +kernel
theorem dL_1109 : decode code 1109 = .ok (.if_icmp .eq 140, 3) := by decide +kernel
theorem dL_1114 : decode code 1114 = .ok (.aload_n 1, 1) := by decide +kernel
theorem dL_1115 : decode code 1115 = .ok (.aload_n 0, 1) := by decide +kernel
theorem dL_1116 : decode code 1116 = .ok (.iload_n 3, 1) := by decide +kernel
theorem dL_1117 : decode code 1117 = .ok (.iconst 1, 1) := by decide +kernel
theorem dL_1118 : decode code 1118 = .ok (.iadd, 1) := by decide +kernel
theorem dL_1119 : decode code 1119 = .ok (.iaload, 1) := by decide +kernel
theorem dL_1120 : decode code 1120 = .ok (.aload_n 0, 1) := by decide +kernel
theorem dL_1121 : decode code 1121 = .ok (.iload_n 3, 1) := by decide +kernel
theorem dL_1122 : decode code 1122 = .ok (.iconst 2, 1) := by decide +kernel
theorem dL_1123 : decode code 1123 = .ok (.iadd, 1) := by decide +kernel
theorem dL_1124 : decode code 1124 = .ok (.iaload, 1) := by decide +kernel
theorem dL_1125 : decode code 1125 = .ok (.invokevirtual 143, 3) := by decide +kernel
theorem dL_1128 : decode code 1128 = .ok (.aload_n 2, 1) := by decide +kernel
theorem dL_1129 : decode code 1129 = .ok (.aload_n 0, 1) := by decide +kernel
theorem dL_1130 : decode code 1130 = .ok (.iload_n 3, 1) := by decide +kernel
theorem dL_1131 : decode code 1131 = .ok (.iconst 1, 1) := by decide +kernel
theorem dL_1132 : decode code 1132 = .ok (.iadd, 1) := by decide +kernel
theorem dL_1133 : decode code 1133 = .ok (.iaload, 1) := by decide +kernel
theorem dL_1134 : decode code 1134 = .ok (.aload_n 0, 1) := by decide +kernel
theorem dL_1135 : decode code 1135 = .ok (.iload_n 3, 1) := by decide +kernel
theorem dL_1136 : decode code 1136 = .ok (.iconst 2, 1) := by decide +kernel
theorem dL_1137 : decode code 1137 = .ok (.iadd, 1) := by decide +kernel
theorem dL_1138 : decode code 1138 = .ok (.iaload, 1) := by decide +kernel
theorem dL_1139 : decode code 1139 = .ok (.invokevirtual 146, 3) := by decide +kernel
theorem dL_1142 : decode code 1142 = .ok (.if_icmp .eq 107, 3) := by decide +kernel
theorem dL_1147 : decode code 1147 = .ok (.aload_n 1, 1) := by decide +kernel
theorem dL_1148 : decode code 1148 = .ok (.aload_n 0, 1) := by decide +kernel
theorem dL_1149 : decode code 1149 = .ok (.iload_n 3, 1) := by decide +kernel
theorem dL_1150 : decode code 1150 = .ok (.iconst 1, 1) := by decide +kernel
theorem dL_1151 : decode code 1151 = .ok (.iadd, 1) := by decide +kernel
theorem dL_1152 : decode code 1152 = .ok (.iaload, 1) := by decide +kernel
theorem dL_1153 : decode code 1153 = .ok (.aload_n 0, 1) := by decide +kernel
theorem dL_1154 : decode code 1154 = .ok (.iload_n 3, 1) := by decide +kernel
theorem dL_1155 : decode code 1155 = .ok (.iconst 2, 1) := by decide +kernel
theorem dL_1156 : decode code 1156 = .ok (.iadd, 1) := by decide +kernel
theorem dL_1157 : decode code 1157 = .ok (.iaload, 1) := by decide +kernel
theorem dL_1158 : decode code 1158 = .ok (.invokevirtual 147, 3) := by decide +kernel
theorem dL_1161 : decode code 1161 = .ok (.aload_n 2, 1) := by decide +kernel
theorem dL_1162 : decode code 1162 = .ok (.aload_n 0, 1) := by decide +kernel
theorem dL_1163 : decode code 1163 = .ok (.iload_n 3, 1) := by decide +kernel
theorem dL_1164 : decode code 1164 = .ok (.iconst 1, 1) := by decide +kernel
theorem dL_1165 : decode code 1165 = .ok (.iadd, 1) := by decide +kernel
theorem dL_1166 : decode code 1166 = .ok (.iaload, 1) := by decide +kernel
theorem dL_1167 : decode code 1167 = .ok (.aload_n 0, 1) := by decide +kernel
theorem dL_1168 : decode code 1168 = .ok (.iload_n 3, 1) := by decide +kernel
theorem dL_1169 : decode code 1169 = .ok (.iconst 2, 1) := by decide +kernel
theorem dL_1170 : decode code 1170 = .ok (.iadd, 1) := by decide +kernel
theorem dL_1171 : decode code 1171 = .ok (.iaload, 1) := by decide +kernel
theorem dL_1172 : decode code 1172 = .ok (.invokevirtual 150, 3) := by decide +kernel
theorem dL_1175 : decode code 1175 = .ok (.if_icmp .eq 74, 3) := by decide +kernel
theorem dL_1180 : decode code 1180 = .ok (.aload_n 1, 1) := by decide +kernel
theorem dL_1181 : decode code 1181 = .ok (.aload_n 0, 1) := by decide +kernel
theorem dL_1182 : decode code 1182 = .ok (.iload_n 3, 1) := by decide +kernel
theorem dL_1183 : decode code 1183 = .ok (.iconst 1, 1) := by decide +kernel
theorem dL_1184 : decode code 1184 = .ok (.iadd, 1) := by decide +kernel
theorem dL_1185 : decode code 1185 = .ok (.iaload, 1) := by decide +kernel
theorem dL_1186 : decode code 1186 = .ok (.invokevirtual 151, 3) := by decide +kernel
theorem dL_1189 : decode code 1189 = .ok (.aload_n 2, 1) := by decide +kernel
theorem dL_1190 : decode code 1190 = .ok (.aload_n 0, 1) := by decide +kernel
theorem dL_1191 : decode code 1191 = .ok (.iload_n 3, 1) := by decide +kernel
theorem dL_1192 : decode code 1192 = .ok (.iconst 1, 1) := by decide +kernel
theorem dL_1193 : decode code 1193 = .ok (.iadd, 1) := by decide +kernel
theorem dL_1194 : decode code 1194 = .ok (.iaload, 1) := by decide +kernel
theorem dL_1195 : decode code 1195 = .ok (.invokevirtual 154, 3) := by decide +kernel
theorem dL_1198 : decode code 1198 = .ok (.if_icmp .eq 51, 3) := by decide +kernel
theorem dL_1203 : decode code 1203 = .ok (.aload_n 1, 1) := by decide +kernel
theorem dL_1204 : decode code 1204 = .ok (.aload_n 0, 1) := by decide +kernel
theorem dL_1205 : decode code 1205 = .ok (.iload_n 3, 1) := by decide +kernel
theorem dL_1206 : decode code 1206 = .ok (.iconst 1, 1) := by decide +kernel
theorem dL_1207 : decode code 1207 = .ok (.iadd, 1) := by decide +kernel
theorem dL_1208 : decode code 1208 = .ok (.iaload, 1) := by decide +kernel
theorem dL_1209 : decode code 1209 = .ok (.invokevirtual 155, 3) := by decide +kernel
theorem dL_1212 : decode code 1212 = .ok (.aload_n 2, 1) := by decide +kernel
theorem dL_1213 : decode code 1213 = .ok (.aload_n 0, 1) := by decide +kernel
theorem dL_1214 : decode code 1214 = .ok (.iload_n 3, 1) := by decide +kernel
theorem dL_1215 : decode code 1215 = .ok (.iconst 1, 1) := by decide +kernel
theorem dL_1216 : decode code 1216 = .ok (.iadd, 1) := by decide +kernel
theorem dL_1217 : decode code 1217 = .ok (.iaload, 1) := by decide +kernel
theorem dL_1218 : decode code 1218 = .ok (.invokevirtual 158, 3) := by decide +kernel
theorem dL_1221 : decode code 1221 = .ok (.if_icmp .eq 28, 3) := by decide +kernel
theorem dL_1226 : decode code 1226 = .ok (.aload_n 1, 1) := by decide +kernel
theorem dL_1227 : decode code 1227 = .ok (.aload_n 0, 1) := by decide +kernel
theorem dL_1228 : decode code 1228 = .ok (.iload_n 3, 1) := by decide +kernel
theorem dL_1229 : decode code 1229 = .ok (.iconst 1, 1) := by decide +kernel
theorem dL_1230 : decode code 1230 = .ok (.iadd, 1) := by decide +kernel
theorem dL_1231 : decode code 1231 = .ok (.iaload, 1) := by decide +kernel
theorem dL_1232 : decode code 1232 = .ok (.invokevirtual 159, 3) := by decide +kernel
theorem dL_1235 : decode code 1235 = .ok (.aload_n 2, 1) := by decide +kernel
theorem dL_1236 : decode code 1236 = .ok (.aload_n 0, 1) := by decide +kernel
theorem dL_1237 : decode code 1237 = .ok (.iload_n 3, 1) := by decide +kernel
theorem dL_1238 : decode code 1238 = .ok (.iconst 1, 1) := by decide +kernel
theorem dL_1239 : decode code 1239 = .ok (.iadd, 1) := by decide +kernel
theorem dL_1240 : decode code 1240 = .ok (.iaload, 1) := by decide +kernel
theorem dL_1241 : decode code 1241 = .ok (.invokevirtual 162, 3) := by decide +kernel
theorem dL_1244 : decode code 1244 = .ok (.if_icmp .eq 5, 3) := by decide +kernel
theorem dL_1249 : decode code 1249 = .ok (.iinc 3 6, 3) := by decide +kernel
theorem dL_1252 : decode code 1252 = .ok (.goto (-1234), 3) := by decide +kernel
theorem dL_1255 : decode code 1255 = .ok (.iconst 1, 1) := by decide +kernel
theorem dL_1256 : decode code 1256 = .ok (.ireturn, 1) := by decide +kernel
noncomputable def TI : Nat → Option xF := bn 11 (bn 4 (bn 3 (bl 0 (x_new 11 16 [.inr (.inl none), .inr (.inl none), .inr (.inl none), .inr (.inl none), .inr (.inl none), .inr (.inl none), .inl (2147483648, 2147483648), .inr (.inl none), .inr (.inl none), .inl (2147483648, 2147483648), .inr (.inl none), .inr (.inl none), .inr (.inl none), .inr (.inl none), .inr (.inl none), .inr (.inl none)] 3)) (bl 3 (x_dup 4))) (bn 7 (bl 4 (y_invV 11 44 1 7)) (bn 8 (bl 7 (x_astore 1 8)) (bl 8 (x_new 12 70 [.inr (.inl none), .inr (.inl none), .inl (2147483648, 2147483648), .inr (.inl none), .inr (.inl none), .inr (.inl none), .inl (2147483648, 2147483648), .inl (2147483648, 2147483648), .inl (2147483648, 2147483648), .inr (.inl none), .inl (2147483648, 2147483648), .inr (.inl none), .inl (2147483648, 2147483648), .inr (.inl none), .inr (.inl none), .inr (.inl none), .inl (2147483648, 2147483648), .inr (.inl none), .inl (2147483648, 2147483648), .inr (.inl none), .inr (.inl none), .inr (.inl none), .inr (.inl none), .inr (.inl none), .inl (2147483648, 2147483648), .inl (2147483648, 2147483648), .inl (2147483648, 2147483648), .inl (2147483648, 2147483648), .inl (2147483648, 2147483648), .inl (2147483648, 2147483648), .inl (2147483648, 2147483648), .inl (2147483648, 2147483648), .inl (2147483648, 2147483648), .inl (2147483648, 2147483648), .inr (.inl none), .inr (.inl none), .inr (.inl none), .inr (.inl none), .inr (.inl none), .inr (.inl none), .inr (.inl none), .inr (.inl none), .inr (.inl none), .inl (2147483648, 2147483648), .inr (.inl none), .inr (.inl none), .inr (.inl none), .inr (.inl none), .inr (.inl none), .inl (2147483648, 2147483648), .inr (.inl none), .inr (.inl none), .inr (.inl none), .inl (2147483648, 2147483648), .inr (.inl none), .inl (2147483648, 2147483648), .inr (.inl none), .inr (.inl none), .inl (2147483648, 2147483648), .inl (2147483648, 2147483648), .inr (.inl none), .inr (.inl none), .inl (2147483648, 2147483648), .inl (2147483648, 2147483648), .inl (2147483648, 2147483648), .inr (.inl none), .inr (.inl none), .inr (.inl none), .inr (.inl none), .inr (.inl none)] 11))))) (bn 15 (bn 12 (bl 11 (x_dup 12)) (bl 12 (y_invV 12 88 1 15))) (bn 16 (bl 15 (x_astore 2 16)) (bn 17 (bl 16 (x_const 2147483648 17)) (bl 17 (y_istore 3 18)))))
set_option maxRecDepth 100000 in
set_option maxHeartbeats 4000000 in
theorem TI_ok (G : State → Nat → Nat → Prop) : xTree PX G code "CapitalCaseLaw" false TI := (xT_n (xT_n (xT_n (xT_l (s_new (T := TX11) (ty := tyX11) dL_0 rfl inX11 tyX11_ok (by decide) (by decide) wd_133 wd_134 wd_111)) (xT_l (s_dup dL_3))) (xT_n (xT_l (yS (y_invV_eq _ _ _ _) (s_invI dL_4 cal_44 wd_135 wd_136 rfl))) (xT_n (xT_l (s_astore_n dL_7)) (xT_l (s_new (T := TX12) (ty := tyX12) dL_8 rfl inX12 tyX12_ok (by decide) (by decide) wd_1257 wd_1258 wd_124))))) (xT_n (xT_n (xT_l (s_dup dL_11)) (xT_l (yS (y_invV_eq _ _ _ _) (s_invI dL_12 cal_88 wd_1259 wd_1260 rfl)))) (xT_n (xT_l (s_astore_n dL_15)) (xT_n (xT_l (s_iconst dL_16 (by decide +kernel))) (xT_l (yS (y_istore_eq _ _) (s_istore_n dL_17)))))))
noncomputable def TL (sl : Nat) (sb : List (Nat × Nat)) : Nat → Option xF := bn 703 (bn 435 (bn 311 (bn 232 (bn 206 (bn 194 (bn 188 (bn 21 (bn 19 (bl 18 (y_iload 3 19)) (bn 20 (bl 19 (x_sload 0 20)) (bl 20 (x_slen sl 21)))) (bn 23 (bl 21 (x_const 2147483654 23)) (bn 24 (bl 23 (y_bin ysub 24)) (bl 24 (y_icmp yc4 1255 27))))) (bn 191 (bn 189 (bl 188 (y_aload 1 189)) (bn 190 (bl 189 (x_sload 0 190)) (bl 190 (y_iload 3 191)))) (bn 192 (bl 191 (x_const 2147483649 192)) (bn 193 (bl 192 (y_bin yadd 193)) (bl 193 (x_sld sl sb 194)))))) (bn 200 (bn 197 (bn 195 (bl 194 (x_sload 0 195)) (bn 196 (bl 195 (y_iload 3 196)) (bl 196 (x_const 2147483650 197)))) (bn 198 (bl 197 (y_bin yadd 198)) (bn 199 (bl 198 (x_sld sl sb 199)) (bl 199 (x_sload 0 200))))) (bn 203 (bn 201 (bl 200 (y_iload 3 201)) (bn 202 (bl 201 (x_const 2147483651 202)) (bl 202 (y_bin yadd 203)))) (bn 204 (bl 203 (x_sld sl sb 204)) (bn 205 (bl 204 (x_sload 0 205)) (bl 205 (y_iload 3 206))))))) (bn 220 (bn 212 (bn 209 (bn 207 (bl 206 (x_const 2147483652 207)) (bn 208 (bl 207 (y_bin yadd 208)) (bl 208 (x_sld sl sb 209)))) (bn 210 (bl 209 (x_sload 0 210)) (bn 211 (bl 210 (y_iload 3 211)) (bl 211 (x_const 2147483653 212))))) (bn 217 (bn 213 (bl 212 (y_bin yadd 213)) (bn 214 (bl 213 (x_sld sl sb 214)) (bl 214 (y_invV 11 55 6 217)))) (bn 218 (bl 217 (y_aload 2 218)) (bn 219 (bl 218 (x_sload 0 219)) (bl 219 (y_iload 3 220)))))) (bn 226 (bn 223 (bn 221 (bl 220 (x_const 2147483649 221)) (bn 222 (bl 221 (y_bin yadd 222)) (bl 222 (x_sld sl sb 223)))) (bn 224 (bl 223 (x_sload 0 224)) (bn 225 (bl 224 (y_iload 3 225)) (bl 225 (x_const 2147483650 226))))) (bn 229 (bn 227 (bl 226 (y_bin yadd 227)) (bn 228 (bl 227 (x_sld sl sb 228)) (bl 228 (x_sload 0 229)))) (bn 230 (bl 229 (y_iload 3 230)) (bn 231 (bl 230 (x_const 2147483651 231)) (bl 231 (y_bin yadd 232)))))))) (bn 264 (bn 246 (bn 238 (bn 235 (bn 233 (bl 232 (x_sld sl sb 233)) (bn 234 (bl 233 (x_sload 0 234)) (bl 234 (y_iload 3 235)))) (bn 236 (bl 235 (x_const 2147483652 236)) (bn 237 (bl 236 (y_bin yadd 237)) (bl 237 (x_sld sl sb 238))))) (bn 241 (bn 239 (bl 238 (x_sload 0 239)) (bn 240 (bl 239 (y_iload 3 240)) (bl 240 (x_const 2147483653 241)))) (bn 242 (bl 241 (y_bin yadd 242)) (bn 243 (bl 242 (x_sld sl sb 243)) (bl 243 (y_invV 12 106 6 246)))))) (bn 256 (bn 253 (bn 251 (bl 246 (y_icmp yc0 1249 249)) (bn 252 (bl 251 (y_aload 1 252)) (bl 252 (x_sload 0 253)))) (bn 254 (bl 253 (y_iload 3 254)) (bn 255 (bl 254 (x_const 2147483649 255)) (bl 255 (y_bin yadd 256))))) (bn 261 (bn 257 (bl 256 (x_sld sl sb 257)) (bn 260 (bl 257 (y_invV 11 47 2 260)) (bl 260 (y_aload 2 261)))) (bn 262 (bl 261 (x_sload 0 262)) (bn 263 (bl 262 (y_iload 3 263)) (bl 263 (x_const 2147483649 264))))))) (bn 292 (bn 278 (bn 269 (bn 265 (bl 264 (y_bin yadd 265)) (bn 266 (bl 265 (x_sld sl sb 266)) (bl 266 (y_invV 12 93 2 269)))) (bn 274 (bl 269 (y_icmp yc0 1249 272)) (bn 275 (bl 274 (y_aload 1 275)) (bl 275 (y_invV 11 71 1 278))))) (bn 287 (bn 279 (bl 278 (y_aload 2 279)) (bn 282 (bl 279 (y_invV 12 134 1 282)) (bl 282 (y_icmp yc0 1249 285)))) (bn 288 (bl 287 (y_aload 1 288)) (bn 291 (bl 288 (y_invV 11 70 1 291)) (bl 291 (y_aload 2 292)))))) (bn 304 (bn 301 (bn 295 (bl 292 (y_invV 12 131 1 295)) (bn 300 (bl 295 (y_icmp yc0 1249 298)) (bl 300 (y_aload 1 301)))) (bn 302 (bl 301 (x_sload 0 302)) (bn 303 (bl 302 (y_iload 3 303)) (bl 303 (x_const 2147483649 304))))) (bn 307 (bn 305 (bl 304 (y_bin yadd 305)) (bn 306 (bl 305 (x_sld sl sb 306)) (bl 306 (x_sload 0 307)))) (bn 309 (bn 308 (bl 307 (y_iload 3 308)) (bl 308 (x_const 2147483650 309))) (bn 310 (bl 309 (y_bin yadd 310)) (bl 310 (x_sld sl sb 311))))))))) (bn 376 (bn 343 (bn 325 (bn 319 (bn 314 (bn 312 (bl 311 (x_sload 0 312)) (bn 313 (bl 312 (y_iload 3 313)) (bl 313 (x_const 2147483651 314)))) (bn 315 (bl 314 (y_bin yadd 315)) (bn 316 (bl 315 (x_sld sl sb 316)) (bl 316 (y_invV 11 61 4 319))))) (bn 322 (bn 320 (bl 319 (y_aload 2 320)) (bn 321 (bl 320 (x_sload 0 321)) (bl 321 (y_iload 3 322)))) (bn 323 (bl 322 (x_const 2147483649 323)) (bn 324 (bl 323 (y_bin yadd 324)) (bl 324 (x_sld sl sb 325)))))) (bn 331 (bn 328 (bn 326 (bl 325 (x_sload 0 326)) (bn 327 (bl 326 (y_iload 3 327)) (bl 327 (x_const 2147483650 328)))) (bn 329 (bl 328 (y_bin yadd 329)) (bn 330 (bl 329 (x_sld sl sb 330)) (bl 330 (x_sload 0 331))))) (bn 334 (bn 332 (bl 331 (y_iload 3 332)) (bn 333 (bl 332 (x_const 2147483651 333)) (bl 333 (y_bin yadd 334)))) (bn 335 (bl 334 (x_sld sl sb 335)) (bn 338 (bl 335 (y_invV 12 114 4 338)) (bl 338 (y_icmp yc0 1249 341))))))) (bn 357 (bn 349 (bn 346 (bn 344 (bl 343 (y_aload 1 344)) (bn 345 (bl 344 (x_sload 0 345)) (bl 345 (y_iload 3 346)))) (bn 347 (bl 346 (x_const 2147483649 347)) (bn 348 (bl 347 (y_bin yadd 348)) (bl 348 (x_sld sl sb 349))))) (bn 352 (bn 350 (bl 349 (x_sload 0 350)) (bn 351 (bl 350 (y_iload 3 351)) (bl 351 (x_const 2147483650 352)))) (bn 353 (bl 352 (y_bin yadd 353)) (bn 354 (bl 353 (x_sld sl sb 354)) (bl 354 (y_invV 11 82 3 357)))))) (bn 363 (bn 360 (bn 358 (bl 357 (y_aload 2 358)) (bn 359 (bl 358 (x_sload 0 359)) (bl 359 (y_iload 3 360)))) (bn 361 (bl 360 (x_const 2147483649 361)) (bn 362 (bl 361 (y_bin yadd 362)) (bl 362 (x_sld sl sb 363))))) (bn 366 (bn 364 (bl 363 (x_sload 0 364)) (bn 365 (bl 364 (y_iload 3 365)) (bl 365 (x_const 2147483650 366)))) (bn 368 (bn 367 (bl 366 (y_bin yadd 367)) (bl 367 (x_sld sl sb 368))) (bn 371 (bl 368 (y_invV 12 146 3 371)) (bl 371 (y_icmp yc0 1249 374)))))))) (bn 404 (bn 390 (bn 382 (bn 379 (bn 377 (bl 376 (y_aload 1 377)) (bn 378 (bl 377 (x_sload 0 378)) (bl 378 (y_iload 3 379)))) (bn 380 (bl 379 (x_const 2147483649 380)) (bn 381 (bl 380 (y_bin yadd 381)) (bl 381 (x_sld sl sb 382))))) (bn 385 (bn 383 (bl 382 (x_sload 0 383)) (bn 384 (bl 383 (y_iload 3 384)) (bl 384 (x_const 2147483650 385)))) (bn 386 (bl 385 (y_bin yadd 386)) (bn 387 (bl 386 (x_sld sl sb 387)) (bl 387 (y_invV 11 83 3 390)))))) (bn 396 (bn 393 (bn 391 (bl 390 (y_aload 2 391)) (bn 392 (bl 391 (x_sload 0 392)) (bl 392 (y_iload 3 393)))) (bn 394 (bl 393 (x_const 2147483649 394)) (bn 395 (bl 394 (y_bin yadd 395)) (bl 395 (x_sld sl sb 396))))) (bn 399 (bn 397 (bl 396 (x_sload 0 397)) (bn 398 (bl 397 (y_iload 3 398)) (bl 398 (x_const 2147483650 399)))) (bn 400 (bl 399 (y_bin yadd 400)) (bn 401 (bl 400 (x_sld sl sb 401)) (bl 401 (y_invV 12 148 3 404))))))) (bn 420 (bn 414 (bn 411 (bn 409 (bl 404 (y_icmp yc0 1249 407)) (bn 410 (bl 409 (y_aload 1 410)) (bl 410 (x_sload 0 411)))) (bn 412 (bl 411 (y_iload 3 412)) (bn 413 (bl 412 (x_const 2147483649 413)) (bl 413 (y_bin yadd 414))))) (bn 417 (bn 415 (bl 414 (x_sld sl sb 415)) (bn 416 (bl 415 (x_sload 0 416)) (bl 416 (y_iload 3 417)))) (bn 418 (bl 417 (x_const 2147483650 418)) (bn 419 (bl 418 (y_bin yadd 419)) (bl 419 (x_sld sl sb 420)))))) (bn 426 (bn 423 (bn 421 (bl 420 (x_sload 0 421)) (bn 422 (bl 421 (y_iload 3 422)) (bl 422 (x_const 2147483651 423)))) (bn 424 (bl 423 (y_bin yadd 424)) (bn 425 (bl 424 (x_sld sl sb 425)) (bl 425 (x_sload 0 426))))) (bn 429 (bn 427 (bl 426 (y_iload 3 427)) (bn 428 (bl 427 (x_const 2147483652 428)) (bl 428 (y_bin yadd 429)))) (bn 433 (bn 430 (bl 429 (x_sld sl sb 430)) (bl 430 (y_invV 11 78 5 433))) (bn 434 (bl 433 (y_aload 2 434)) (bl 434 (x_sload 0 435)))))))))) (bn 563 (bn 500 (bn 465 (bn 447 (bn 441 (bn 438 (bn 436 (bl 435 (y_iload 3 436)) (bn 437 (bl 436 (x_const 2147483649 437)) (bl 437 (y_bin yadd 438)))) (bn 439 (bl 438 (x_sld sl sb 439)) (bn 440 (bl 439 (x_sload 0 440)) (bl 440 (y_iload 3 441))))) (bn 444 (bn 442 (bl 441 (x_const 2147483650 442)) (bn 443 (bl 442 (y_bin yadd 443)) (bl 443 (x_sld sl sb 444)))) (bn 445 (bl 444 (x_sload 0 445)) (bn 446 (bl 445 (y_iload 3 446)) (bl 446 (x_const 2147483651 447)))))) (bn 453 (bn 450 (bn 448 (bl 447 (y_bin yadd 448)) (bn 449 (bl 448 (x_sld sl sb 449)) (bl 449 (x_sload 0 450)))) (bn 451 (bl 450 (y_iload 3 451)) (bn 452 (bl 451 (x_const 2147483652 452)) (bl 452 (y_bin yadd 453))))) (bn 462 (bn 454 (bl 453 (x_sld sl sb 454)) (bn 457 (bl 454 (y_invV 12 141 5 457)) (bl 457 (y_icmp yc0 1249 460)))) (bn 463 (bl 462 (y_aload 1 463)) (bn 464 (bl 463 (x_sload 0 464)) (bl 464 (y_iload 3 465))))))) (bn 485 (bn 473 (bn 468 (bn 466 (bl 465 (x_const 2147483649 466)) (bn 467 (bl 466 (y_bin yadd 467)) (bl 467 (x_sld sl sb 468)))) (bn 471 (bl 468 (y_invV 11 73 2 471)) (bn 472 (bl 471 (y_aload 2 472)) (bl 472 (x_sload 0 473))))) (bn 476 (bn 474 (bl 473 (y_iload 3 474)) (bn 475 (bl 474 (x_const 2147483649 475)) (bl 475 (y_bin yadd 476)))) (bn 477 (bl 476 (x_sld sl sb 477)) (bn 480 (bl 477 (y_invV 12 137 2 480)) (bl 480 (y_icmp yc0 1249 483)))))) (bn 491 (bn 488 (bn 486 (bl 485 (y_aload 1 486)) (bn 487 (bl 486 (x_sload 0 487)) (bl 487 (y_iload 3 488)))) (bn 489 (bl 488 (x_const 2147483649 489)) (bn 490 (bl 489 (y_bin yadd 490)) (bl 490 (x_sld sl sb 491))))) (bn 496 (bn 494 (bl 491 (y_invV 11 52 2 494)) (bn 495 (bl 494 (y_aload 2 495)) (bl 495 (x_sload 0 496)))) (bn 498 (bn 497 (bl 496 (y_iload 3 497)) (bl 497 (x_const 2147483649 498))) (bn 499 (bl 498 (y_bin yadd 499)) (bl 499 (x_sld sl sb 500)))))))) (bn 532 (bn 518 (bn 512 (bn 509 (bn 503 (bl 500 (y_invV 12 100 2 503)) (bn 508 (bl 503 (y_icmp yc0 1249 506)) (bl 508 (y_aload 1 509)))) (bn 510 (bl 509 (x_sload 0 510)) (bn 511 (bl 510 (y_iload 3 511)) (bl 511 (x_const 2147483649 512))))) (bn 515 (bn 513 (bl 512 (y_bin yadd 513)) (bn 514 (bl 513 (x_sld sl sb 514)) (bl 514 (x_sload 0 515)))) (bn 516 (bl 515 (y_iload 3 516)) (bn 517 (bl 516 (x_const 2147483650 517)) (bl 517 (y_bin yadd 518)))))) (bn 524 (bn 521 (bn 519 (bl 518 (x_sld sl sb 519)) (bn 520 (bl 519 (x_sload 0 520)) (bl 520 (y_iload 3 521)))) (bn 522 (bl 521 (x_const 2147483651 522)) (bn 523 (bl 522 (y_bin yadd 523)) (bl 523 (x_sld sl sb 524))))) (bn 529 (bn 527 (bl 524 (y_invV 11 66 4 527)) (bn 528 (bl 527 (y_aload 2 528)) (bl 528 (x_sload 0 529)))) (bn 530 (bl 529 (y_iload 3 530)) (bn 531 (bl 530 (x_const 2147483649 531)) (bl 531 (y_bin yadd 532))))))) (bn 546 (bn 538 (bn 535 (bn 533 (bl 532 (x_sld sl sb 533)) (bn 534 (bl 533 (x_sload 0 534)) (bl 534 (y_iload 3 535)))) (bn 536 (bl 535 (x_const 2147483650 536)) (bn 537 (bl 536 (y_bin yadd 537)) (bl 537 (x_sld sl sb 538))))) (bn 541 (bn 539 (bl 538 (x_sload 0 539)) (bn 540 (bl 539 (y_iload 3 540)) (bl 540 (x_const 2147483651 541)))) (bn 542 (bl 541 (y_bin yadd 542)) (bn 543 (bl 542 (x_sld sl sb 543)) (bl 543 (y_invV 12 124 4 546)))))) (bn 556 (bn 553 (bn 551 (bl 546 (y_icmp yc0 1249 549)) (bn 552 (bl 551 (y_aload 1 552)) (bl 552 (x_sload 0 553)))) (bn 554 (bl 553 (y_iload 3 554)) (bn 555 (bl 554 (x_const 2147483649 555)) (bl 555 (y_bin yadd 556))))) (bn 559 (bn 557 (bl 556 (x_sld sl sb 557)) (bn 558 (bl 557 (x_sload 0 558)) (bl 558 (y_iload 3 559)))) (bn 561 (bn 560 (bl 559 (x_const 2147483650 560)) (bl 560 (y_bin yadd 561))) (bn 562 (bl 561 (x_sld sl sb 562)) (bl 562 (x_sload 0 563))))))))) (bn 636 (bn 595 (bn 577 (bn 571 (bn 566 (bn 564 (bl 563 (y_iload 3 564)) (bn 565 (bl 564 (x_const 2147483651 565)) (bl 565 (y_bin yadd 566)))) (bn 567 (bl 566 (x_sld sl sb 567)) (bn 570 (bl 567 (y_invV 11 58 4 570)) (bl 570 (y_aload 2 571))))) (bn 574 (bn 572 (bl 571 (x_sload 0 572)) (bn 573 (bl 572 (y_iload 3 573)) (bl 573 (x_const 2147483649 574)))) (bn 575 (bl 574 (y_bin yadd 575)) (bn 576 (bl 575 (x_sld sl sb 576)) (bl 576 (x_sload 0 577)))))) (bn 583 (bn 580 (bn 578 (bl 577 (y_iload 3 578)) (bn 579 (bl 578 (x_const 2147483650 579)) (bl 579 (y_bin yadd 580)))) (bn 581 (bl 580 (x_sld sl sb 581)) (bn 582 (bl 581 (x_sload 0 582)) (bl 582 (y_iload 3 583))))) (bn 586 (bn 584 (bl 583 (x_const 2147483651 584)) (bn 585 (bl 584 (y_bin yadd 585)) (bl 585 (x_sld sl sb 586)))) (bn 589 (bl 586 (y_invV 12 111 4 589)) (bn 594 (bl 589 (y_icmp yc0 1249 592)) (bl 594 (y_aload 1 595))))))) (bn 609 (bn 603 (bn 598 (bn 596 (bl 595 (x_sload 0 596)) (bn 597 (bl 596 (y_iload 3 597)) (bl 597 (x_const 2147483649 598)))) (bn 599 (bl 598 (y_bin yadd 599)) (bn 600 (bl 599 (x_sld sl sb 600)) (bl 600 (y_invV 11 54 2 603))))) (bn 606 (bn 604 (bl 603 (y_aload 2 604)) (bn 605 (bl 604 (x_sload 0 605)) (bl 605 (y_iload 3 606)))) (bn 607 (bl 606 (x_const 2147483649 607)) (bn 608 (bl 607 (y_bin yadd 608)) (bl 608 (x_sld sl sb 609)))))) (bn 625 (bn 618 (bn 612 (bl 609 (y_invV 12 105 2 612)) (bn 617 (bl 612 (y_icmp yc0 1249 615)) (bl 617 (y_aload 1 618)))) (bn 621 (bl 618 (y_invV 11 81 1 621)) (bn 622 (bl 621 (y_aload 2 622)) (bl 622 (y_invV 12 145 1 625))))) (bn 632 (bn 630 (bl 625 (y_icmp yc0 1249 628)) (bn 631 (bl 630 (y_aload 1 631)) (bl 631 (x_sload 0 632)))) (bn 634 (bn 633 (bl 632 (y_iload 3 633)) (bl 633 (x_const 2147483649 634))) (bn 635 (bl 634 (y_bin yadd 635)) (bl 635 (x_sld sl sb 636)))))))) (bn 668 (bn 650 (bn 644 (bn 639 (bn 637 (bl 636 (x_sload 0 637)) (bn 638 (bl 637 (y_iload 3 638)) (bl 638 (x_const 2147483650 639)))) (bn 640 (bl 639 (y_bin yadd 640)) (bn 641 (bl 640 (x_sld sl sb 641)) (bl 641 (y_invV 11 57 3 644))))) (bn 647 (bn 645 (bl 644 (y_aload 2 645)) (bn 646 (bl 645 (x_sload 0 646)) (bl 646 (y_iload 3 647)))) (bn 648 (bl 647 (x_const 2147483649 648)) (bn 649 (bl 648 (y_bin yadd 649)) (bl 649 (x_sld sl sb 650)))))) (bn 658 (bn 653 (bn 651 (bl 650 (x_sload 0 651)) (bn 652 (bl 651 (y_iload 3 652)) (bl 652 (x_const 2147483650 653)))) (bn 654 (bl 653 (y_bin yadd 654)) (bn 655 (bl 654 (x_sld sl sb 655)) (bl 655 (y_invV 12 110 3 658))))) (bn 665 (bn 663 (bl 658 (y_icmp yc0 1249 661)) (bn 664 (bl 663 (y_aload 1 664)) (bl 664 (x_sload 0 665)))) (bn 666 (bl 665 (y_iload 3 666)) (bn 667 (bl 666 (x_const 2147483649 667)) (bl 667 (y_bin yadd 668))))))) (bn 688 (bn 676 (bn 673 (bn 669 (bl 668 (x_sld sl sb 669)) (bn 672 (bl 669 (y_invV 11 50 2 672)) (bl 672 (y_aload 2 673)))) (bn 674 (bl 673 (x_sload 0 674)) (bn 675 (bl 674 (y_iload 3 675)) (bl 675 (x_const 2147483649 676))))) (bn 681 (bn 677 (bl 676 (y_bin yadd 677)) (bn 678 (bl 677 (x_sld sl sb 678)) (bl 678 (y_invV 12 96 2 681)))) (bn 686 (bl 681 (y_icmp yc0 1249 684)) (bn 687 (bl 686 (y_aload 1 687)) (bl 687 (x_sload 0 688)))))) (bn 694 (bn 691 (bn 689 (bl 688 (y_iload 3 689)) (bn 690 (bl 689 (x_const 2147483649 690)) (bl 690 (y_bin yadd 691)))) (bn 692 (bl 691 (x_sld sl sb 692)) (bn 693 (bl 692 (x_sload 0 693)) (bl 693 (y_iload 3 694))))) (bn 697 (bn 695 (bl 694 (x_const 2147483650 695)) (bn 696 (bl 695 (y_bin yadd 696)) (bl 696 (x_sld sl sb 697)))) (bn 701 (bn 700 (bl 697 (y_invV 11 86 3 700)) (bl 700 (y_aload 2 701))) (bn 702 (bl 701 (x_sload 0 702)) (bl 702 (y_iload 3 703))))))))))) (bn 978 (bn 846 (bn 773 (bn 737 (bn 721 (bn 709 (bn 706 (bn 704 (bl 703 (x_const 2147483649 704)) (bn 705 (bl 704 (y_bin yadd 705)) (bl 705 (x_sld sl sb 706)))) (bn 707 (bl 706 (x_sload 0 707)) (bn 708 (bl 707 (y_iload 3 708)) (bl 708 (x_const 2147483650 709))))) (bn 714 (bn 710 (bl 709 (y_bin yadd 710)) (bn 711 (bl 710 (x_sld sl sb 711)) (bl 711 (y_invV 12 153 3 714)))) (bn 719 (bl 714 (y_icmp yc0 1249 717)) (bn 720 (bl 719 (y_aload 1 720)) (bl 720 (x_sload 0 721)))))) (bn 729 (bn 724 (bn 722 (bl 721 (y_iload 3 722)) (bn 723 (bl 722 (x_const 2147483649 723)) (bl 723 (y_bin yadd 724)))) (bn 725 (bl 724 (x_sld sl sb 725)) (bn 728 (bl 725 (y_invV 11 69 2 728)) (bl 728 (y_aload 2 729))))) (bn 732 (bn 730 (bl 729 (x_sload 0 730)) (bn 731 (bl 730 (y_iload 3 731)) (bl 731 (x_const 2147483649 732)))) (bn 733 (bl 732 (y_bin yadd 733)) (bn 734 (bl 733 (x_sld sl sb 734)) (bl 734 (y_invV 12 130 2 737))))))) (bn 755 (bn 747 (bn 744 (bn 742 (bl 737 (y_icmp yc0 1249 740)) (bn 743 (bl 742 (y_aload 1 743)) (bl 743 (x_sload 0 744)))) (bn 745 (bl 744 (y_iload 3 745)) (bn 746 (bl 745 (x_const 2147483649 746)) (bl 746 (y_bin yadd 747))))) (bn 752 (bn 748 (bl 747 (x_sld sl sb 748)) (bn 751 (bl 748 (y_invV 11 80 2 751)) (bl 751 (y_aload 2 752)))) (bn 753 (bl 752 (x_sload 0 753)) (bn 754 (bl 753 (y_iload 3 754)) (bl 754 (x_const 2147483649 755)))))) (bn 767 (bn 760 (bn 756 (bl 755 (y_bin yadd 756)) (bn 757 (bl 756 (x_sld sl sb 757)) (bl 757 (y_invV 12 144 2 760)))) (bn 765 (bl 760 (y_icmp yc0 1249 763)) (bn 766 (bl 765 (y_aload 1 766)) (bl 766 (x_sload 0 767))))) (bn 770 (bn 768 (bl 767 (y_iload 3 768)) (bn 769 (bl 768 (x_const 2147483649 769)) (bl 769 (y_bin yadd 770)))) (bn 771 (bl 770 (x_sld sl sb 771)) (bn 772 (bl 771 (x_sload 0 772)) (bl 772 (y_iload 3 773)))))))) (bn 807 (bn 787 (bn 781 (bn 776 (bn 774 (bl 773 (x_const 2147483650 774)) (bn 775 (bl 774 (y_bin yadd 775)) (bl 775 (x_sld sl sb 776)))) (bn 779 (bl 776 (y_invV 11 67 3 779)) (bn 780 (bl 779 (y_aload 2 780)) (bl 780 (x_sload 0 781))))) (bn 784 (bn 782 (bl 781 (y_iload 3 782)) (bn 783 (bl 782 (x_const 2147483649 783)) (bl 783 (y_bin yadd 784)))) (bn 785 (bl 784 (x_sld sl sb 785)) (bn 786 (bl 785 (x_sload 0 786)) (bl 786 (y_iload 3 787)))))) (bn 799 (bn 790 (bn 788 (bl 787 (x_const 2147483650 788)) (bn 789 (bl 788 (y_bin yadd 789)) (bl 789 (x_sld sl sb 790)))) (bn 793 (bl 790 (y_invV 12 125 3 793)) (bn 798 (bl 793 (y_icmp yc0 1249 796)) (bl 798 (y_aload 1 799))))) (bn 802 (bn 800 (bl 799 (x_sload 0 800)) (bn 801 (bl 800 (y_iload 3 801)) (bl 801 (x_const 2147483649 802)))) (bn 803 (bl 802 (y_bin yadd 803)) (bn 804 (bl 803 (x_sld sl sb 804)) (bl 804 (y_invV 11 48 2 807))))))) (bn 825 (bn 813 (bn 810 (bn 808 (bl 807 (y_aload 2 808)) (bn 809 (bl 808 (x_sload 0 809)) (bl 809 (y_iload 3 810)))) (bn 811 (bl 810 (x_const 2147483649 811)) (bn 812 (bl 811 (y_bin yadd 812)) (bl 812 (x_sld sl sb 813))))) (bn 822 (bn 816 (bl 813 (y_invV 12 94 2 816)) (bn 821 (bl 816 (y_icmp yc0 1249 819)) (bl 821 (y_aload 1 822)))) (bn 823 (bl 822 (x_sload 0 823)) (bn 824 (bl 823 (y_iload 3 824)) (bl 824 (x_const 2147483649 825)))))) (bn 833 (bn 830 (bn 826 (bl 825 (y_bin yadd 826)) (bn 827 (bl 826 (x_sld sl sb 827)) (bl 827 (y_invV 11 75 2 830)))) (bn 831 (bl 830 (y_aload 2 831)) (bn 832 (bl 831 (x_sload 0 832)) (bl 832 (y_iload 3 833))))) (bn 836 (bn 834 (bl 833 (x_const 2147483649 834)) (bn 835 (bl 834 (y_bin yadd 835)) (bl 835 (x_sld sl sb 836)))) (bn 844 (bn 839 (bl 836 (y_invV 12 138 2 839)) (bl 839 (y_icmp yc0 1249 842))) (bn 845 (bl 844 (y_aload 1 845)) (bl 845 (x_sload 0 846))))))))) (bn 919 (bn 886 (bn 862 (bn 854 (bn 849 (bn 847 (bl 846 (y_iload 3 847)) (bn 848 (bl 847 (x_const 2147483649 848)) (bl 848 (y_bin yadd 849)))) (bn 850 (bl 849 (x_sld sl sb 850)) (bn 853 (bl 850 (y_invV 11 51 2 853)) (bl 853 (y_aload 2 854))))) (bn 857 (bn 855 (bl 854 (x_sload 0 855)) (bn 856 (bl 855 (y_iload 3 856)) (bl 856 (x_const 2147483649 857)))) (bn 858 (bl 857 (y_bin yadd 858)) (bn 859 (bl 858 (x_sld sl sb 859)) (bl 859 (y_invV 12 99 2 862)))))) (bn 880 (bn 871 (bn 867 (bl 862 (y_icmp yc0 1249 865)) (bn 868 (bl 867 (y_aload 1 868)) (bl 868 (y_invV 11 65 1 871)))) (bn 872 (bl 871 (y_aload 2 872)) (bn 875 (bl 872 (y_invV 12 123 1 875)) (bl 875 (y_icmp yc0 1249 878))))) (bn 883 (bn 881 (bl 880 (y_aload 1 881)) (bn 882 (bl 881 (x_sload 0 882)) (bl 882 (y_iload 3 883)))) (bn 884 (bl 883 (x_const 2147483649 884)) (bn 885 (bl 884 (y_bin yadd 885)) (bl 885 (x_sld sl sb 886))))))) (bn 900 (bn 894 (bn 889 (bn 887 (bl 886 (x_sload 0 887)) (bn 888 (bl 887 (y_iload 3 888)) (bl 888 (x_const 2147483650 889)))) (bn 890 (bl 889 (y_bin yadd 890)) (bn 891 (bl 890 (x_sld sl sb 891)) (bl 891 (y_invV 11 85 3 894))))) (bn 897 (bn 895 (bl 894 (y_aload 2 895)) (bn 896 (bl 895 (x_sload 0 896)) (bl 896 (y_iload 3 897)))) (bn 898 (bl 897 (x_const 2147483649 898)) (bn 899 (bl 898 (y_bin yadd 899)) (bl 899 (x_sld sl sb 900)))))) (bn 908 (bn 903 (bn 901 (bl 900 (x_sload 0 901)) (bn 902 (bl 901 (y_iload 3 902)) (bl 902 (x_const 2147483650 903)))) (bn 904 (bl 903 (y_bin yadd 904)) (bn 905 (bl 904 (x_sld sl sb 905)) (bl 905 (y_invV 12 152 3 908))))) (bn 915 (bn 913 (bl 908 (y_icmp yc0 1249 911)) (bn 914 (bl 913 (y_aload 1 914)) (bl 914 (x_sload 0 915)))) (bn 917 (bn 916 (bl 915 (y_iload 3 916)) (bl 916 (x_const 2147483649 917))) (bn 918 (bl 917 (y_bin yadd 918)) (bl 918 (x_sld sl sb 919)))))))) (bn 945 (bn 931 (bn 925 (bn 922 (bn 920 (bl 919 (x_sload 0 920)) (bn 921 (bl 920 (y_iload 3 921)) (bl 921 (x_const 2147483650 922)))) (bn 923 (bl 922 (y_bin yadd 923)) (bn 924 (bl 923 (x_sld sl sb 924)) (bl 924 (x_sload 0 925))))) (bn 928 (bn 926 (bl 925 (y_iload 3 926)) (bn 927 (bl 926 (x_const 2147483651 927)) (bl 927 (y_bin yadd 928)))) (bn 929 (bl 928 (x_sld sl sb 929)) (bn 930 (bl 929 (x_sload 0 930)) (bl 930 (y_iload 3 931)))))) (bn 939 (bn 934 (bn 932 (bl 931 (x_const 2147483652 932)) (bn 933 (bl 932 (y_bin yadd 933)) (bl 933 (x_sld sl sb 934)))) (bn 937 (bl 934 (y_invV 11 79 5 937)) (bn 938 (bl 937 (y_aload 2 938)) (bl 938 (x_sload 0 939))))) (bn 942 (bn 940 (bl 939 (y_iload 3 940)) (bn 941 (bl 940 (x_const 2147483649 941)) (bl 941 (y_bin yadd 942)))) (bn 943 (bl 942 (x_sld sl sb 943)) (bn 944 (bl 943 (x_sload 0 944)) (bl 944 (y_iload 3 945))))))) (bn 957 (bn 951 (bn 948 (bn 946 (bl 945 (x_const 2147483650 946)) (bn 947 (bl 946 (y_bin yadd 947)) (bl 947 (x_sld sl sb 948)))) (bn 949 (bl 948 (x_sload 0 949)) (bn 950 (bl 949 (y_iload 3 950)) (bl 950 (x_const 2147483651 951))))) (bn 954 (bn 952 (bl 951 (y_bin yadd 952)) (bn 953 (bl 952 (x_sld sl sb 953)) (bl 953 (x_sload 0 954)))) (bn 955 (bl 954 (y_iload 3 955)) (bn 956 (bl 955 (x_const 2147483652 956)) (bl 956 (y_bin yadd 957)))))) (bn 969 (bn 966 (bn 958 (bl 957 (x_sld sl sb 958)) (bn 961 (bl 958 (y_invV 12 142 5 961)) (bl 961 (y_icmp yc0 1249 964)))) (bn 967 (bl 966 (y_aload 1 967)) (bn 968 (bl 967 (x_sload 0 968)) (bl 968 (y_iload 3 969))))) (bn 972 (bn 970 (bl 969 (x_const 2147483649 970)) (bn 971 (bl 970 (y_bin yadd 971)) (bl 971 (x_sld sl sb 972)))) (bn 976 (bn 975 (bl 972 (y_invV 11 68 2 975)) (bl 975 (y_aload 2 976))) (bn 977 (bl 976 (x_sload 0 977)) (bl 977 (y_iload 3 978)))))))))) (bn 1114 (bn 1037 (bn 1008 (bn 996 (bn 990 (bn 981 (bn 979 (bl 978 (x_const 2147483649 979)) (bn 980 (bl 979 (y_bin yadd 980)) (bl 980 (x_sld sl sb 981)))) (bn 984 (bl 981 (y_invV 12 129 2 984)) (bn 989 (bl 984 (y_icmp yc0 1249 987)) (bl 989 (y_aload 1 990))))) (bn 993 (bn 991 (bl 990 (x_sload 0 991)) (bn 992 (bl 991 (y_iload 3 992)) (bl 992 (x_const 2147483649 993)))) (bn 994 (bl 993 (y_bin yadd 994)) (bn 995 (bl 994 (x_sld sl sb 995)) (bl 995 (x_sload 0 996)))))) (bn 1002 (bn 999 (bn 997 (bl 996 (y_iload 3 997)) (bn 998 (bl 997 (x_const 2147483650 998)) (bl 998 (y_bin yadd 999)))) (bn 1000 (bl 999 (x_sld sl sb 1000)) (bn 1001 (bl 1000 (x_sload 0 1001)) (bl 1001 (y_iload 3 1002))))) (bn 1005 (bn 1003 (bl 1002 (x_const 2147483651 1003)) (bn 1004 (bl 1003 (y_bin yadd 1004)) (bl 1004 (x_sld sl sb 1005)))) (bn 1006 (bl 1005 (x_sload 0 1006)) (bn 1007 (bl 1006 (y_iload 3 1007)) (bl 1007 (x_const 2147483652 1008))))))) (bn 1022 (bn 1016 (bn 1013 (bn 1009 (bl 1008 (y_bin yadd 1009)) (bn 1010 (bl 1009 (x_sld sl sb 1010)) (bl 1010 (y_invV 11 87 5 1013)))) (bn 1014 (bl 1013 (y_aload 2 1014)) (bn 1015 (bl 1014 (x_sload 0 1015)) (bl 1015 (y_iload 3 1016))))) (bn 1019 (bn 1017 (bl 1016 (x_const 2147483649 1017)) (bn 1018 (bl 1017 (y_bin yadd 1018)) (bl 1018 (x_sld sl sb 1019)))) (bn 1020 (bl 1019 (x_sload 0 1020)) (bn 1021 (bl 1020 (y_iload 3 1021)) (bl 1021 (x_const 2147483650 1022)))))) (bn 1028 (bn 1025 (bn 1023 (bl 1022 (y_bin yadd 1023)) (bn 1024 (bl 1023 (x_sld sl sb 1024)) (bl 1024 (x_sload 0 1025)))) (bn 1026 (bl 1025 (y_iload 3 1026)) (bn 1027 (bl 1026 (x_const 2147483651 1027)) (bl 1027 (y_bin yadd 1028))))) (bn 1031 (bn 1029 (bl 1028 (x_sld sl sb 1029)) (bn 1030 (bl 1029 (x_sload 0 1030)) (bl 1030 (y_iload 3 1031)))) (bn 1033 (bn 1032 (bl 1031 (x_const 2147483652 1032)) (bl 1032 (y_bin yadd 1033))) (bn 1034 (bl 1033 (x_sld sl sb 1034)) (bl 1034 (y_invV 12 154 5 1037)))))))) (bn 1071 (bn 1053 (bn 1047 (bn 1044 (bn 1042 (bl 1037 (y_icmp yc0 1249 1040)) (bn 1043 (bl 1042 (y_aload 1 1043)) (bl 1043 (x_sload 0 1044)))) (bn 1045 (bl 1044 (y_iload 3 1045)) (bn 1046 (bl 1045 (x_const 2147483649 1046)) (bl 1046 (y_bin yadd 1047))))) (bn 1050 (bn 1048 (bl 1047 (x_sld sl sb 1048)) (bn 1049 (bl 1048 (x_sload 0 1049)) (bl 1049 (y_iload 3 1050)))) (bn 1051 (bl 1050 (x_const 2147483650 1051)) (bn 1052 (bl 1051 (y_bin yadd 1052)) (bl 1052 (x_sld sl sb 1053)))))) (bn 1061 (bn 1056 (bn 1054 (bl 1053 (x_sload 0 1054)) (bn 1055 (bl 1054 (y_iload 3 1055)) (bl 1055 (x_const 2147483651 1056)))) (bn 1057 (bl 1056 (y_bin yadd 1057)) (bn 1058 (bl 1057 (x_sld sl sb 1058)) (bl 1058 (y_if yc0 1065 1061))))) (bn 1066 (bn 1062 (bl 1061 (x_const 2147483649 1062)) (bn 1065 (bl 1062 (x_goto 1066)) (bl 1065 (x_const 2147483648 1066)))) (bn 1069 (bl 1066 (y_invV 11 77 4 1069)) (bn 1070 (bl 1069 (y_aload 2 1070)) (bl 1070 (x_sload 0 1071))))))) (bn 1083 (bn 1077 (bn 1074 (bn 1072 (bl 1071 (y_iload 3 1072)) (bn 1073 (bl 1072 (x_const 2147483649 1073)) (bl 1073 (y_bin yadd 1074)))) (bn 1075 (bl 1074 (x_sld sl sb 1075)) (bn 1076 (bl 1075 (x_sload 0 1076)) (bl 1076 (y_iload 3 1077))))) (bn 1080 (bn 1078 (bl 1077 (x_const 2147483650 1078)) (bn 1079 (bl 1078 (y_bin yadd 1079)) (bl 1079 (x_sld sl sb 1080)))) (bn 1081 (bl 1080 (x_sload 0 1081)) (bn 1082 (bl 1081 (y_iload 3 1082)) (bl 1082 (x_const 2147483651 1083)))))) (bn 1093 (bn 1088 (bn 1084 (bl 1083 (y_bin yadd 1084)) (bn 1085 (bl 1084 (x_sld sl sb 1085)) (bl 1085 (y_if yc0 1092 1088)))) (bn 1089 (bl 1088 (x_const 2147483649 1089)) (bn 1092 (bl 1089 (x_goto 1093)) (bl 1092 (x_const 2147483648 1093))))) (bn 1102 (bn 1096 (bl 1093 (y_invV 12 140 4 1096)) (bn 1101 (bl 1096 (y_icmp yc0 1249 1099)) (bl 1101 (y_aload 1 1102)))) (bn 1106 (bn 1105 (bl 1102 (y_invV 11 56 1 1105)) (bl 1105 (y_aload 2 1106))) (bn 1109 (bl 1106 (y_invV 12 109 1 1109)) (bl 1109 (y_icmp yc0 1249 1112))))))))) (bn 1175 (bn 1142 (bn 1128 (bn 1120 (bn 1117 (bn 1115 (bl 1114 (y_aload 1 1115)) (bn 1116 (bl 1115 (x_sload 0 1116)) (bl 1116 (y_iload 3 1117)))) (bn 1118 (bl 1117 (x_const 2147483649 1118)) (bn 1119 (bl 1118 (y_bin yadd 1119)) (bl 1119 (x_sld sl sb 1120))))) (bn 1123 (bn 1121 (bl 1120 (x_sload 0 1121)) (bn 1122 (bl 1121 (y_iload 3 1122)) (bl 1122 (x_const 2147483650 1123)))) (bn 1124 (bl 1123 (y_bin yadd 1124)) (bn 1125 (bl 1124 (x_sld sl sb 1125)) (bl 1125 (y_invV 11 84 3 1128)))))) (bn 1134 (bn 1131 (bn 1129 (bl 1128 (y_aload 2 1129)) (bn 1130 (bl 1129 (x_sload 0 1130)) (bl 1130 (y_iload 3 1131)))) (bn 1132 (bl 1131 (x_const 2147483649 1132)) (bn 1133 (bl 1132 (y_bin yadd 1133)) (bl 1133 (x_sld sl sb 1134))))) (bn 1137 (bn 1135 (bl 1134 (x_sload 0 1135)) (bn 1136 (bl 1135 (y_iload 3 1136)) (bl 1136 (x_const 2147483650 1137)))) (bn 1138 (bl 1137 (y_bin yadd 1138)) (bn 1139 (bl 1138 (x_sld sl sb 1139)) (bl 1139 (y_invV 12 149 3 1142))))))) (bn 1158 (bn 1152 (bn 1149 (bn 1147 (bl 1142 (y_icmp yc0 1249 1145)) (bn 1148 (bl 1147 (y_aload 1 1148)) (bl 1148 (x_sload 0 1149)))) (bn 1150 (bl 1149 (y_iload 3 1150)) (bn 1151 (bl 1150 (x_const 2147483649 1151)) (bl 1151 (y_bin yadd 1152))))) (bn 1155 (bn 1153 (bl 1152 (x_sld sl sb 1153)) (bn 1154 (bl 1153 (x_sload 0 1154)) (bl 1154 (y_iload 3 1155)))) (bn 1156 (bl 1155 (x_const 2147483650 1156)) (bn 1157 (bl 1156 (y_bin yadd 1157)) (bl 1157 (x_sld sl sb 1158)))))) (bn 1166 (bn 1163 (bn 1161 (bl 1158 (y_invV 11 46 3 1161)) (bn 1162 (bl 1161 (y_aload 2 1162)) (bl 1162 (x_sload 0 1163)))) (bn 1164 (bl 1163 (y_iload 3 1164)) (bn 1165 (bl 1164 (x_const 2147483649 1165)) (bl 1165 (y_bin yadd 1166))))) (bn 1169 (bn 1167 (bl 1166 (x_sld sl sb 1167)) (bn 1168 (bl 1167 (x_sload 0 1168)) (bl 1168 (y_iload 3 1169)))) (bn 1171 (bn 1170 (bl 1169 (x_const 2147483650 1170)) (bl 1170 (y_bin yadd 1171))) (bn 1172 (bl 1171 (x_sld sl sb 1172)) (bl 1172 (y_invV 12 92 3 1175)))))))) (bn 1213 (bn 1193 (bn 1185 (bn 1182 (bn 1180 (bl 1175 (y_icmp yc0 1249 1178)) (bn 1181 (bl 1180 (y_aload 1 1181)) (bl 1181 (x_sload 0 1182)))) (bn 1183 (bl 1182 (y_iload 3 1183)) (bn 1184 (bl 1183 (x_const 2147483649 1184)) (bl 1184 (y_bin yadd 1185))))) (bn 1190 (bn 1186 (bl 1185 (x_sld sl sb 1186)) (bn 1189 (bl 1186 (y_invV 11 60 2 1189)) (bl 1189 (y_aload 2 1190)))) (bn 1191 (bl 1190 (x_sload 0 1191)) (bn 1192 (bl 1191 (y_iload 3 1192)) (bl 1192 (x_const 2147483649 1193)))))) (bn 1205 (bn 1198 (bn 1194 (bl 1193 (y_bin yadd 1194)) (bn 1195 (bl 1194 (x_sld sl sb 1195)) (bl 1195 (y_invV 12 113 2 1198)))) (bn 1203 (bl 1198 (y_icmp yc0 1249 1201)) (bn 1204 (bl 1203 (y_aload 1 1204)) (bl 1204 (x_sload 0 1205))))) (bn 1208 (bn 1206 (bl 1205 (y_iload 3 1206)) (bn 1207 (bl 1206 (x_const 2147483649 1207)) (bl 1207 (y_bin yadd 1208)))) (bn 1209 (bl 1208 (x_sld sl sb 1209)) (bn 1212 (bl 1209 (y_invV 11 72 2 1212)) (bl 1212 (y_aload 2 1213))))))) (bn 1231 (bn 1221 (bn 1216 (bn 1214 (bl 1213 (x_sload 0 1214)) (bn 1215 (bl 1214 (y_iload 3 1215)) (bl 1215 (x_const 2147483649 1216)))) (bn 1217 (bl 1216 (y_bin yadd 1217)) (bn 1218 (bl 1217 (x_sld sl sb 1218)) (bl 1218 (y_invV 12 136 2 1221))))) (bn 1228 (bn 1226 (bl 1221 (y_icmp yc0 1249 1224)) (bn 1227 (bl 1226 (y_aload 1 1227)) (bl 1227 (x_sload 0 1228)))) (bn 1229 (bl 1228 (y_iload 3 1229)) (bn 1230 (bl 1229 (x_const 2147483649 1230)) (bl 1230 (y_bin yadd 1231)))))) (bn 1239 (bn 1236 (bn 1232 (bl 1231 (x_sld sl sb 1232)) (bn 1235 (bl 1232 (y_invV 11 53 2 1235)) (bl 1235 (y_aload 2 1236)))) (bn 1237 (bl 1236 (x_sload 0 1237)) (bn 1238 (bl 1237 (y_iload 3 1238)) (bl 1238 (x_const 2147483649 1239))))) (bn 1244 (bn 1240 (bl 1239 (y_bin yadd 1240)) (bn 1241 (bl 1240 (x_sld sl sb 1241)) (bl 1241 (y_invV 12 102 2 1244)))) (bn 1252 (bn 1249 (bl 1244 (y_icmp yc0 1249 1247)) (bl 1249 (y_iinc 3 2147483654 1252))) (bn 1255 (bl 1252 (x_goto 18)) (bl 1255 (x_const 2147483649 1256)))))))))))
set_option maxRecDepth 100000 in
set_option maxHeartbeats 4000000 in
theorem TL_ok (sl : Nat) (xs : Nat → Int32) (sb : List (Nat × Nat)) : xTree PX (xG sl xs sb) code "CapitalCaseLaw" false (TL sl sb) := (xT_n (xT_n (xT_n (xT_n (xT_n (xT_n (xT_n (xT_n (xT_n (xT_l (yS (y_iload_eq _ _) (s_iload_n dL_18))) (xT_n (xT_l (s_sload_n dL_19)) (xT_l (s_slen dL_20)))) (xT_n (xT_l (s_bipush dL_21 (by decide +kernel))) (xT_n (xT_l (yS (y_bin_eq _ _) (s_isub dL_23))) (xT_l (yS (y_icmp_eq yc4_eq _ _) (s_icmpgt dL_24 (by decide +kernel))))))) (xT_n (xT_n (xT_l (yS (y_aload_eq _ _) (s_aload_n dL_188))) (xT_n (xT_l (s_sload_n dL_189)) (xT_l (yS (y_iload_eq _ _) (s_iload_n dL_190))))) (xT_n (xT_l (s_iconst dL_191 (by decide +kernel))) (xT_n (xT_l (yS (y_bin_eq _ _) (s_iadd dL_192))) (xT_l (s_sld dL_193)))))) (xT_n (xT_n (xT_n (xT_l (s_sload_n dL_194)) (xT_n (xT_l (yS (y_iload_eq _ _) (s_iload_n dL_195))) (xT_l (s_iconst dL_196 (by decide +kernel))))) (xT_n (xT_l (yS (y_bin_eq _ _) (s_iadd dL_197))) (xT_n (xT_l (s_sld dL_198)) (xT_l (s_sload_n dL_199))))) (xT_n (xT_n (xT_l (yS (y_iload_eq _ _) (s_iload_n dL_200))) (xT_n (xT_l (s_iconst dL_201 (by decide +kernel))) (xT_l (yS (y_bin_eq _ _) (s_iadd dL_202))))) (xT_n (xT_l (s_sld dL_203)) (xT_n (xT_l (s_sload_n dL_204)) (xT_l (yS (y_iload_eq _ _) (s_iload_n dL_205)))))))) (xT_n (xT_n (xT_n (xT_n (xT_l (s_iconst dL_206 (by decide +kernel))) (xT_n (xT_l (yS (y_bin_eq _ _) (s_iadd dL_207))) (xT_l (s_sld dL_208)))) (xT_n (xT_l (s_sload_n dL_209)) (xT_n (xT_l (yS (y_iload_eq _ _) (s_iload_n dL_210))) (xT_l (s_iconst dL_211 (by decide +kernel)))))) (xT_n (xT_n (xT_l (yS (y_bin_eq _ _) (s_iadd dL_212))) (xT_n (xT_l (s_sld dL_213)) (xT_l (yS (y_invV_eq _ _ _ _) (s_invV (T := TX11) dL_214 cal_55 rfl wd_602 wd_603 wd_604))))) (xT_n (xT_l (yS (y_aload_eq _ _) (s_aload_n dL_217))) (xT_n (xT_l (s_sload_n dL_218)) (xT_l (yS (y_iload_eq _ _) (s_iload_n dL_219))))))) (xT_n (xT_n (xT_n (xT_l (s_iconst dL_220 (by decide +kernel))) (xT_n (xT_l (yS (y_bin_eq _ _) (s_iadd dL_221))) (xT_l (s_sld dL_222)))) (xT_n (xT_l (s_sload_n dL_223)) (xT_n (xT_l (yS (y_iload_eq _ _) (s_iload_n dL_224))) (xT_l (s_iconst dL_225 (by decide +kernel)))))) (xT_n (xT_n (xT_l (yS (y_bin_eq _ _) (s_iadd dL_226))) (xT_n (xT_l (s_sld dL_227)) (xT_l (s_sload_n dL_228)))) (xT_n (xT_l (yS (y_iload_eq _ _) (s_iload_n dL_229))) (xT_n (xT_l (s_iconst dL_230 (by decide +kernel))) (xT_l (yS (y_bin_eq _ _) (s_iadd dL_231))))))))) (xT_n (xT_n (xT_n (xT_n (xT_n (xT_l (s_sld dL_232)) (xT_n (xT_l (s_sload_n dL_233)) (xT_l (yS (y_iload_eq _ _) (s_iload_n dL_234))))) (xT_n (xT_l (s_iconst dL_235 (by decide +kernel))) (xT_n (xT_l (yS (y_bin_eq _ _) (s_iadd dL_236))) (xT_l (s_sld dL_237))))) (xT_n (xT_n (xT_l (s_sload_n dL_238)) (xT_n (xT_l (yS (y_iload_eq _ _) (s_iload_n dL_239))) (xT_l (s_iconst dL_240 (by decide +kernel))))) (xT_n (xT_l (yS (y_bin_eq _ _) (s_iadd dL_241))) (xT_n (xT_l (s_sld dL_242)) (xT_l (yS (y_invV_eq _ _ _ _) (s_invV (T := TX12) dL_243 cal_106 rfl wd_1493 wd_1494 wd_1495))))))) (xT_n (xT_n (xT_n (xT_l (yS (y_icmp_eq yc0_eq _ _) (s_icmpeq dL_246 (by decide +kernel)))) (xT_n (xT_l (yS (y_aload_eq _ _) (s_aload_n dL_251))) (xT_l (s_sload_n dL_252)))) (xT_n (xT_l (yS (y_iload_eq _ _) (s_iload_n dL_253))) (xT_n (xT_l (s_iconst dL_254 (by decide +kernel))) (xT_l (yS (y_bin_eq _ _) (s_iadd dL_255)))))) (xT_n (xT_n (xT_l (s_sld dL_256)) (xT_n (xT_l (yS (y_invV_eq _ _ _ _) (s_invV (T := TX11) dL_257 cal_47 rfl wd_610 wd_611 wd_612))) (xT_l (yS (y_aload_eq _ _) (s_aload_n dL_260))))) (xT_n (xT_l (s_sload_n dL_261)) (xT_n (xT_l (yS (y_iload_eq _ _) (s_iload_n dL_262))) (xT_l (s_iconst dL_263 (by decide +kernel)))))))) (xT_n (xT_n (xT_n (xT_n (xT_l (yS (y_bin_eq _ _) (s_iadd dL_264))) (xT_n (xT_l (s_sld dL_265)) (xT_l (yS (y_invV_eq _ _ _ _) (s_invV (T := TX12) dL_266 cal_93 rfl wd_1501 wd_1502 wd_1503))))) (xT_n (xT_l (yS (y_icmp_eq yc0_eq _ _) (s_icmpeq dL_269 (by decide +kernel)))) (xT_n (xT_l (yS (y_aload_eq _ _) (s_aload_n dL_274))) (xT_l (yS (y_invV_eq _ _ _ _) (s_invV (T := TX11) dL_275 cal_71 rfl wd_614 wd_615 wd_616)))))) (xT_n (xT_n (xT_l (yS (y_aload_eq _ _) (s_aload_n dL_278))) (xT_n (xT_l (yS (y_invV_eq _ _ _ _) (s_invV (T := TX12) dL_279 cal_134 rfl wd_1505 wd_1506 wd_1507))) (xT_l (yS (y_icmp_eq yc0_eq _ _) (s_icmpeq dL_282 (by decide +kernel)))))) (xT_n (xT_l (yS (y_aload_eq _ _) (s_aload_n dL_287))) (xT_n (xT_l (yS (y_invV_eq _ _ _ _) (s_invV (T := TX11) dL_288 cal_70 rfl wd_842 wd_843 wd_844))) (xT_l (yS (y_aload_eq _ _) (s_aload_n dL_291))))))) (xT_n (xT_n (xT_n (xT_l (yS (y_invV_eq _ _ _ _) (s_invV (T := TX12) dL_292 cal_131 rfl wd_1617 wd_1618 wd_1619))) (xT_n (xT_l (yS (y_icmp_eq yc0_eq _ _) (s_icmpeq dL_295 (by decide +kernel)))) (xT_l (yS (y_aload_eq _ _) (s_aload_n dL_300))))) (xT_n (xT_l (s_sload_n dL_301)) (xT_n (xT_l (yS (y_iload_eq _ _) (s_iload_n dL_302))) (xT_l (s_iconst dL_303 (by decide +kernel)))))) (xT_n (xT_n (xT_l (yS (y_bin_eq _ _) (s_iadd dL_304))) (xT_n (xT_l (s_sld dL_305)) (xT_l (s_sload_n dL_306)))) (xT_n (xT_n (xT_l (yS (y_iload_eq _ _) (s_iload_n dL_307))) (xT_l (s_iconst dL_308 (by decide +kernel)))) (xT_n (xT_l (yS (y_bin_eq _ _) (s_iadd dL_309))) (xT_l (s_sld dL_310))))))))) (xT_n (xT_n (xT_n (xT_n (xT_n (xT_n (xT_l (s_sload_n dL_311)) (xT_n (xT_l (yS (y_iload_eq _ _) (s_iload_n dL_312))) (xT_l (s_iconst dL_313 (by decide +kernel))))) (xT_n (xT_l (yS (y_bin_eq _ _) (s_iadd dL_314))) (xT_n (xT_l (s_sld dL_315)) (xT_l (yS (y_invV_eq _ _ _ _) (s_invV (T := TX11) dL_316 cal_61 rfl wd_846 wd_847 wd_848)))))) (xT_n (xT_n (xT_l (yS (y_aload_eq _ _) (s_aload_n dL_319))) (xT_n (xT_l (s_sload_n dL_320)) (xT_l (yS (y_iload_eq _ _) (s_iload_n dL_321))))) (xT_n (xT_l (s_iconst dL_322 (by decide +kernel))) (xT_n (xT_l (yS (y_bin_eq _ _) (s_iadd dL_323))) (xT_l (s_sld dL_324)))))) (xT_n (xT_n (xT_n (xT_l (s_sload_n dL_325)) (xT_n (xT_l (yS (y_iload_eq _ _) (s_iload_n dL_326))) (xT_l (s_iconst dL_327 (by decide +kernel))))) (xT_n (xT_l (yS (y_bin_eq _ _) (s_iadd dL_328))) (xT_n (xT_l (s_sld dL_329)) (xT_l (s_sload_n dL_330))))) (xT_n (xT_n (xT_l (yS (y_iload_eq _ _) (s_iload_n dL_331))) (xT_n (xT_l (s_iconst dL_332 (by decide +kernel))) (xT_l (yS (y_bin_eq _ _) (s_iadd dL_333))))) (xT_n (xT_l (s_sld dL_334)) (xT_n (xT_l (yS (y_invV_eq _ _ _ _) (s_invV (T := TX12) dL_335 cal_114 rfl wd_1621 wd_1622 wd_1623))) (xT_l (yS (y_icmp_eq yc0_eq _ _) (s_icmpeq dL_338 (by decide +kernel))))))))) (xT_n (xT_n (xT_n (xT_n (xT_l (yS (y_aload_eq _ _) (s_aload_n dL_343))) (xT_n (xT_l (s_sload_n dL_344)) (xT_l (yS (y_iload_eq _ _) (s_iload_n dL_345))))) (xT_n (xT_l (s_iconst dL_346 (by decide +kernel))) (xT_n (xT_l (yS (y_bin_eq _ _) (s_iadd dL_347))) (xT_l (s_sld dL_348))))) (xT_n (xT_n (xT_l (s_sload_n dL_349)) (xT_n (xT_l (yS (y_iload_eq _ _) (s_iload_n dL_350))) (xT_l (s_iconst dL_351 (by decide +kernel))))) (xT_n (xT_l (yS (y_bin_eq _ _) (s_iadd dL_352))) (xT_n (xT_l (s_sld dL_353)) (xT_l (yS (y_invV_eq _ _ _ _) (s_invV (T := TX11) dL_354 cal_82 rfl wd_890 wd_891 wd_892))))))) (xT_n (xT_n (xT_n (xT_l (yS (y_aload_eq _ _) (s_aload_n dL_357))) (xT_n (xT_l (s_sload_n dL_358)) (xT_l (yS (y_iload_eq _ _) (s_iload_n dL_359))))) (xT_n (xT_l (s_iconst dL_360 (by decide +kernel))) (xT_n (xT_l (yS (y_bin_eq _ _) (s_iadd dL_361))) (xT_l (s_sld dL_362))))) (xT_n (xT_n (xT_l (s_sload_n dL_363)) (xT_n (xT_l (yS (y_iload_eq _ _) (s_iload_n dL_364))) (xT_l (s_iconst dL_365 (by decide +kernel))))) (xT_n (xT_n (xT_l (yS (y_bin_eq _ _) (s_iadd dL_366))) (xT_l (s_sld dL_367))) (xT_n (xT_l (yS (y_invV_eq _ _ _ _) (s_invV (T := TX12) dL_368 cal_146 rfl wd_1674 wd_1675 wd_1676))) (xT_l (yS (y_icmp_eq yc0_eq _ _) (s_icmpeq dL_371 (by decide +kernel)))))))))) (xT_n (xT_n (xT_n (xT_n (xT_n (xT_l (yS (y_aload_eq _ _) (s_aload_n dL_376))) (xT_n (xT_l (s_sload_n dL_377)) (xT_l (yS (y_iload_eq _ _) (s_iload_n dL_378))))) (xT_n (xT_l (s_iconst dL_379 (by decide +kernel))) (xT_n (xT_l (yS (y_bin_eq _ _) (s_iadd dL_380))) (xT_l (s_sld dL_381))))) (xT_n (xT_n (xT_l (s_sload_n dL_382)) (xT_n (xT_l (yS (y_iload_eq _ _) (s_iload_n dL_383))) (xT_l (s_iconst dL_384 (by decide +kernel))))) (xT_n (xT_l (yS (y_bin_eq _ _) (s_iadd dL_385))) (xT_n (xT_l (s_sld dL_386)) (xT_l (yS (y_invV_eq _ _ _ _) (s_invV (T := TX11) dL_387 cal_83 rfl wd_910 wd_911 wd_912))))))) (xT_n (xT_n (xT_n (xT_l (yS (y_aload_eq _ _) (s_aload_n dL_390))) (xT_n (xT_l (s_sload_n dL_391)) (xT_l (yS (y_iload_eq _ _) (s_iload_n dL_392))))) (xT_n (xT_l (s_iconst dL_393 (by decide +kernel))) (xT_n (xT_l (yS (y_bin_eq _ _) (s_iadd dL_394))) (xT_l (s_sld dL_395))))) (xT_n (xT_n (xT_l (s_sload_n dL_396)) (xT_n (xT_l (yS (y_iload_eq _ _) (s_iload_n dL_397))) (xT_l (s_iconst dL_398 (by decide +kernel))))) (xT_n (xT_l (yS (y_bin_eq _ _) (s_iadd dL_399))) (xT_n (xT_l (s_sld dL_400)) (xT_l (yS (y_invV_eq _ _ _ _) (s_invV (T := TX12) dL_401 cal_148 rfl wd_1690 wd_1691 wd_1692)))))))) (xT_n (xT_n (xT_n (xT_n (xT_l (yS (y_icmp_eq yc0_eq _ _) (s_icmpeq dL_404 (by decide +kernel)))) (xT_n (xT_l (yS (y_aload_eq _ _) (s_aload_n dL_409))) (xT_l (s_sload_n dL_410)))) (xT_n (xT_l (yS (y_iload_eq _ _) (s_iload_n dL_411))) (xT_n (xT_l (s_iconst dL_412 (by decide +kernel))) (xT_l (yS (y_bin_eq _ _) (s_iadd dL_413)))))) (xT_n (xT_n (xT_l (s_sld dL_414)) (xT_n (xT_l (s_sload_n dL_415)) (xT_l (yS (y_iload_eq _ _) (s_iload_n dL_416))))) (xT_n (xT_l (s_iconst dL_417 (by decide +kernel))) (xT_n (xT_l (yS (y_bin_eq _ _) (s_iadd dL_418))) (xT_l (s_sld dL_419)))))) (xT_n (xT_n (xT_n (xT_l (s_sload_n dL_420)) (xT_n (xT_l (yS (y_iload_eq _ _) (s_iload_n dL_421))) (xT_l (s_iconst dL_422 (by decide +kernel))))) (xT_n (xT_l (yS (y_bin_eq _ _) (s_iadd dL_423))) (xT_n (xT_l (s_sld dL_424)) (xT_l (s_sload_n dL_425))))) (xT_n (xT_n (xT_l (yS (y_iload_eq _ _) (s_iload_n dL_426))) (xT_n (xT_l (s_iconst dL_427 (by decide +kernel))) (xT_l (yS (y_bin_eq _ _) (s_iadd dL_428))))) (xT_n (xT_n (xT_l (s_sld dL_429)) (xT_l (yS (y_invV_eq _ _ _ _) (s_invV (T := TX11) dL_430 cal_78 rfl wd_914 wd_915 wd_916)))) (xT_n (xT_l (yS (y_aload_eq _ _) (s_aload_n dL_433))) (xT_l (s_sload_n dL_434)))))))))) (xT_n (xT_n (xT_n (xT_n (xT_n (xT_n (xT_n (xT_l (yS (y_iload_eq _ _) (s_iload_n dL_435))) (xT_n (xT_l (s_iconst dL_436 (by decide +kernel))) (xT_l (yS (y_bin_eq _ _) (s_iadd dL_437))))) (xT_n (xT_l (s_sld dL_438)) (xT_n (xT_l (s_sload_n dL_439)) (xT_l (yS (y_iload_eq _ _) (s_iload_n dL_440)))))) (xT_n (xT_n (xT_l (s_iconst dL_441 (by decide +kernel))) (xT_n (xT_l (yS (y_bin_eq _ _) (s_iadd dL_442))) (xT_l (s_sld dL_443)))) (xT_n (xT_l (s_sload_n dL_444)) (xT_n (xT_l (yS (y_iload_eq _ _) (s_iload_n dL_445))) (xT_l (s_iconst dL_446 (by decide +kernel))))))) (xT_n (xT_n (xT_n (xT_l (yS (y_bin_eq _ _) (s_iadd dL_447))) (xT_n (xT_l (s_sld dL_448)) (xT_l (s_sload_n dL_449)))) (xT_n (xT_l (yS (y_iload_eq _ _) (s_iload_n dL_450))) (xT_n (xT_l (s_iconst dL_451 (by decide +kernel))) (xT_l (yS (y_bin_eq _ _) (s_iadd dL_452)))))) (xT_n (xT_n (xT_l (s_sld dL_453)) (xT_n (xT_l (yS (y_invV_eq _ _ _ _) (s_invV (T := TX12) dL_454 cal_141 rfl wd_1694 wd_1695 wd_1696))) (xT_l (yS (y_icmp_eq yc0_eq _ _) (s_icmpeq dL_457 (by decide +kernel)))))) (xT_n (xT_l (yS (y_aload_eq _ _) (s_aload_n dL_462))) (xT_n (xT_l (s_sload_n dL_463)) (xT_l (yS (y_iload_eq _ _) (s_iload_n dL_464)))))))) (xT_n (xT_n (xT_n (xT_n (xT_l (s_iconst dL_465 (by decide +kernel))) (xT_n (xT_l (yS (y_bin_eq _ _) (s_iadd dL_466))) (xT_l (s_sld dL_467)))) (xT_n (xT_l (yS (y_invV_eq _ _ _ _) (s_invV (T := TX11) dL_468 cal_73 rfl wd_927 wd_928 wd_929))) (xT_n (xT_l (yS (y_aload_eq _ _) (s_aload_n dL_471))) (xT_l (s_sload_n dL_472))))) (xT_n (xT_n (xT_l (yS (y_iload_eq _ _) (s_iload_n dL_473))) (xT_n (xT_l (s_iconst dL_474 (by decide +kernel))) (xT_l (yS (y_bin_eq _ _) (s_iadd dL_475))))) (xT_n (xT_l (s_sld dL_476)) (xT_n (xT_l (yS (y_invV_eq _ _ _ _) (s_invV (T := TX12) dL_477 cal_137 rfl wd_1707 wd_1708 wd_1709))) (xT_l (yS (y_icmp_eq yc0_eq _ _) (s_icmpeq dL_480 (by decide +kernel)))))))) (xT_n (xT_n (xT_n (xT_l (yS (y_aload_eq _ _) (s_aload_n dL_485))) (xT_n (xT_l (s_sload_n dL_486)) (xT_l (yS (y_iload_eq _ _) (s_iload_n dL_487))))) (xT_n (xT_l (s_iconst dL_488 (by decide +kernel))) (xT_n (xT_l (yS (y_bin_eq _ _) (s_iadd dL_489))) (xT_l (s_sld dL_490))))) (xT_n (xT_n (xT_l (yS (y_invV_eq _ _ _ _) (s_invV (T := TX11) dL_491 cal_52 rfl wd_981 wd_982 wd_983))) (xT_n (xT_l (yS (y_aload_eq _ _) (s_aload_n dL_494))) (xT_l (s_sload_n dL_495)))) (xT_n (xT_n (xT_l (yS (y_iload_eq _ _) (s_iload_n dL_496))) (xT_l (s_iconst dL_497 (by decide +kernel)))) (xT_n (xT_l (yS (y_bin_eq _ _) (s_iadd dL_498))) (xT_l (s_sld dL_499)))))))) (xT_n (xT_n (xT_n (xT_n (xT_n (xT_l (yS (y_invV_eq _ _ _ _) (s_invV (T := TX12) dL_500 cal_100 rfl wd_1731 wd_1732 wd_1733))) (xT_n (xT_l (yS (y_icmp_eq yc0_eq _ _) (s_icmpeq dL_503 (by decide +kernel)))) (xT_l (yS (y_aload_eq _ _) (s_aload_n dL_508))))) (xT_n (xT_l (s_sload_n dL_509)) (xT_n (xT_l (yS (y_iload_eq _ _) (s_iload_n dL_510))) (xT_l (s_iconst dL_511 (by decide +kernel)))))) (xT_n (xT_n (xT_l (yS (y_bin_eq _ _) (s_iadd dL_512))) (xT_n (xT_l (s_sld dL_513)) (xT_l (s_sload_n dL_514)))) (xT_n (xT_l (yS (y_iload_eq _ _) (s_iload_n dL_515))) (xT_n (xT_l (s_iconst dL_516 (by decide +kernel))) (xT_l (yS (y_bin_eq _ _) (s_iadd dL_517))))))) (xT_n (xT_n (xT_n (xT_l (s_sld dL_518)) (xT_n (xT_l (s_sload_n dL_519)) (xT_l (yS (y_iload_eq _ _) (s_iload_n dL_520))))) (xT_n (xT_l (s_iconst dL_521 (by decide +kernel))) (xT_n (xT_l (yS (y_bin_eq _ _) (s_iadd dL_522))) (xT_l (s_sld dL_523))))) (xT_n (xT_n (xT_l (yS (y_invV_eq _ _ _ _) (s_invV (T := TX11) dL_524 cal_66 rfl wd_989 wd_990 wd_991))) (xT_n (xT_l (yS (y_aload_eq _ _) (s_aload_n dL_527))) (xT_l (s_sload_n dL_528)))) (xT_n (xT_l (yS (y_iload_eq _ _) (s_iload_n dL_529))) (xT_n (xT_l (s_iconst dL_530 (by decide +kernel))) (xT_l (yS (y_bin_eq _ _) (s_iadd dL_531)))))))) (xT_n (xT_n (xT_n (xT_n (xT_l (s_sld dL_532)) (xT_n (xT_l (s_sload_n dL_533)) (xT_l (yS (y_iload_eq _ _) (s_iload_n dL_534))))) (xT_n (xT_l (s_iconst dL_535 (by decide +kernel))) (xT_n (xT_l (yS (y_bin_eq _ _) (s_iadd dL_536))) (xT_l (s_sld dL_537))))) (xT_n (xT_n (xT_l (s_sload_n dL_538)) (xT_n (xT_l (yS (y_iload_eq _ _) (s_iload_n dL_539))) (xT_l (s_iconst dL_540 (by decide +kernel))))) (xT_n (xT_l (yS (y_bin_eq _ _) (s_iadd dL_541))) (xT_n (xT_l (s_sld dL_542)) (xT_l (yS (y_invV_eq _ _ _ _) (s_invV (T := TX12) dL_543 cal_124 rfl wd_1735 wd_1736 wd_1737))))))) (xT_n (xT_n (xT_n (xT_l (yS (y_icmp_eq yc0_eq _ _) (s_icmpeq dL_546 (by decide +kernel)))) (xT_n (xT_l (yS (y_aload_eq _ _) (s_aload_n dL_551))) (xT_l (s_sload_n dL_552)))) (xT_n (xT_l (yS (y_iload_eq _ _) (s_iload_n dL_553))) (xT_n (xT_l (s_iconst dL_554 (by decide +kernel))) (xT_l (yS (y_bin_eq _ _) (s_iadd dL_555)))))) (xT_n (xT_n (xT_l (s_sld dL_556)) (xT_n (xT_l (s_sload_n dL_557)) (xT_l (yS (y_iload_eq _ _) (s_iload_n dL_558))))) (xT_n (xT_n (xT_l (s_iconst dL_559 (by decide +kernel))) (xT_l (yS (y_bin_eq _ _) (s_iadd dL_560)))) (xT_n (xT_l (s_sld dL_561)) (xT_l (s_sload_n dL_562))))))))) (xT_n (xT_n (xT_n (xT_n (xT_n (xT_n (xT_l (yS (y_iload_eq _ _) (s_iload_n dL_563))) (xT_n (xT_l (s_iconst dL_564 (by decide +kernel))) (xT_l (yS (y_bin_eq _ _) (s_iadd dL_565))))) (xT_n (xT_l (s_sld dL_566)) (xT_n (xT_l (yS (y_invV_eq _ _ _ _) (s_invV (T := TX11) dL_567 cal_58 rfl wd_997 wd_998 wd_999))) (xT_l (yS (y_aload_eq _ _) (s_aload_n dL_570)))))) (xT_n (xT_n (xT_l (s_sload_n dL_571)) (xT_n (xT_l (yS (y_iload_eq _ _) (s_iload_n dL_572))) (xT_l (s_iconst dL_573 (by decide +kernel))))) (xT_n (xT_l (yS (y_bin_eq _ _) (s_iadd dL_574))) (xT_n (xT_l (s_sld dL_575)) (xT_l (s_sload_n dL_576)))))) (xT_n (xT_n (xT_n (xT_l (yS (y_iload_eq _ _) (s_iload_n dL_577))) (xT_n (xT_l (s_iconst dL_578 (by decide +kernel))) (xT_l (yS (y_bin_eq _ _) (s_iadd dL_579))))) (xT_n (xT_l (s_sld dL_580)) (xT_n (xT_l (s_sload_n dL_581)) (xT_l (yS (y_iload_eq _ _) (s_iload_n dL_582)))))) (xT_n (xT_n (xT_l (s_iconst dL_583 (by decide +kernel))) (xT_n (xT_l (yS (y_bin_eq _ _) (s_iadd dL_584))) (xT_l (s_sld dL_585)))) (xT_n (xT_l (yS (y_invV_eq _ _ _ _) (s_invV (T := TX12) dL_586 cal_111 rfl wd_1743 wd_1744 wd_1745))) (xT_n (xT_l (yS (y_icmp_eq yc0_eq _ _) (s_icmpeq dL_589 (by decide +kernel)))) (xT_l (yS (y_aload_eq _ _) (s_aload_n dL_594)))))))) (xT_n (xT_n (xT_n (xT_n (xT_l (s_sload_n dL_595)) (xT_n (xT_l (yS (y_iload_eq _ _) (s_iload_n dL_596))) (xT_l (s_iconst dL_597 (by decide +kernel))))) (xT_n (xT_l (yS (y_bin_eq _ _) (s_iadd dL_598))) (xT_n (xT_l (s_sld dL_599)) (xT_l (yS (y_invV_eq _ _ _ _) (s_invV (T := TX11) dL_600 cal_54 rfl wd_1001 wd_1002 wd_1003)))))) (xT_n (xT_n (xT_l (yS (y_aload_eq _ _) (s_aload_n dL_603))) (xT_n (xT_l (s_sload_n dL_604)) (xT_l (yS (y_iload_eq _ _) (s_iload_n dL_605))))) (xT_n (xT_l (s_iconst dL_606 (by decide +kernel))) (xT_n (xT_l (yS (y_bin_eq _ _) (s_iadd dL_607))) (xT_l (s_sld dL_608)))))) (xT_n (xT_n (xT_n (xT_l (yS (y_invV_eq _ _ _ _) (s_invV (T := TX12) dL_609 cal_105 rfl wd_1747 wd_1748 wd_1749))) (xT_n (xT_l (yS (y_icmp_eq yc0_eq _ _) (s_icmpeq dL_612 (by decide +kernel)))) (xT_l (yS (y_aload_eq _ _) (s_aload_n dL_617))))) (xT_n (xT_l (yS (y_invV_eq _ _ _ _) (s_invV (T := TX11) dL_618 cal_81 rfl wd_1043 wd_1044 wd_1045))) (xT_n (xT_l (yS (y_aload_eq _ _) (s_aload_n dL_621))) (xT_l (yS (y_invV_eq _ _ _ _) (s_invV (T := TX12) dL_622 cal_145 rfl wd_1782 wd_1783 wd_1784)))))) (xT_n (xT_n (xT_l (yS (y_icmp_eq yc0_eq _ _) (s_icmpeq dL_625 (by decide +kernel)))) (xT_n (xT_l (yS (y_aload_eq _ _) (s_aload_n dL_630))) (xT_l (s_sload_n dL_631)))) (xT_n (xT_n (xT_l (yS (y_iload_eq _ _) (s_iload_n dL_632))) (xT_l (s_iconst dL_633 (by decide +kernel)))) (xT_n (xT_l (yS (y_bin_eq _ _) (s_iadd dL_634))) (xT_l (s_sld dL_635)))))))) (xT_n (xT_n (xT_n (xT_n (xT_n (xT_l (s_sload_n dL_636)) (xT_n (xT_l (yS (y_iload_eq _ _) (s_iload_n dL_637))) (xT_l (s_iconst dL_638 (by decide +kernel))))) (xT_n (xT_l (yS (y_bin_eq _ _) (s_iadd dL_639))) (xT_n (xT_l (s_sld dL_640)) (xT_l (yS (y_invV_eq _ _ _ _) (s_invV (T := TX11) dL_641 cal_57 rfl wd_1051 wd_1052 wd_1053)))))) (xT_n (xT_n (xT_l (yS (y_aload_eq _ _) (s_aload_n dL_644))) (xT_n (xT_l (s_sload_n dL_645)) (xT_l (yS (y_iload_eq _ _) (s_iload_n dL_646))))) (xT_n (xT_l (s_iconst dL_647 (by decide +kernel))) (xT_n (xT_l (yS (y_bin_eq _ _) (s_iadd dL_648))) (xT_l (s_sld dL_649)))))) (xT_n (xT_n (xT_n (xT_l (s_sload_n dL_650)) (xT_n (xT_l (yS (y_iload_eq _ _) (s_iload_n dL_651))) (xT_l (s_iconst dL_652 (by decide +kernel))))) (xT_n (xT_l (yS (y_bin_eq _ _) (s_iadd dL_653))) (xT_n (xT_l (s_sld dL_654)) (xT_l (yS (y_invV_eq _ _ _ _) (s_invV (T := TX12) dL_655 cal_110 rfl wd_1786 wd_1787 wd_1788)))))) (xT_n (xT_n (xT_l (yS (y_icmp_eq yc0_eq _ _) (s_icmpeq dL_658 (by decide +kernel)))) (xT_n (xT_l (yS (y_aload_eq _ _) (s_aload_n dL_663))) (xT_l (s_sload_n dL_664)))) (xT_n (xT_l (yS (y_iload_eq _ _) (s_iload_n dL_665))) (xT_n (xT_l (s_iconst dL_666 (by decide +kernel))) (xT_l (yS (y_bin_eq _ _) (s_iadd dL_667)))))))) (xT_n (xT_n (xT_n (xT_n (xT_l (s_sld dL_668)) (xT_n (xT_l (yS (y_invV_eq _ _ _ _) (s_invV (T := TX11) dL_669 cal_50 rfl wd_1056 wd_1057 wd_1058))) (xT_l (yS (y_aload_eq _ _) (s_aload_n dL_672))))) (xT_n (xT_l (s_sload_n dL_673)) (xT_n (xT_l (yS (y_iload_eq _ _) (s_iload_n dL_674))) (xT_l (s_iconst dL_675 (by decide +kernel)))))) (xT_n (xT_n (xT_l (yS (y_bin_eq _ _) (s_iadd dL_676))) (xT_n (xT_l (s_sld dL_677)) (xT_l (yS (y_invV_eq _ _ _ _) (s_invV (T := TX12) dL_678 cal_96 rfl wd_1790 wd_1791 wd_1792))))) (xT_n (xT_l (yS (y_icmp_eq yc0_eq _ _) (s_icmpeq dL_681 (by decide +kernel)))) (xT_n (xT_l (yS (y_aload_eq _ _) (s_aload_n dL_686))) (xT_l (s_sload_n dL_687)))))) (xT_n (xT_n (xT_n (xT_l (yS (y_iload_eq _ _) (s_iload_n dL_688))) (xT_n (xT_l (s_iconst dL_689 (by decide +kernel))) (xT_l (yS (y_bin_eq _ _) (s_iadd dL_690))))) (xT_n (xT_l (s_sld dL_691)) (xT_n (xT_l (s_sload_n dL_692)) (xT_l (yS (y_iload_eq _ _) (s_iload_n dL_693)))))) (xT_n (xT_n (xT_l (s_iconst dL_694 (by decide +kernel))) (xT_n (xT_l (yS (y_bin_eq _ _) (s_iadd dL_695))) (xT_l (s_sld dL_696)))) (xT_n (xT_n (xT_l (yS (y_invV_eq _ _ _ _) (s_invV (T := TX11) dL_697 cal_86 rfl wd_1078 wd_1079 wd_1080))) (xT_l (yS (y_aload_eq _ _) (s_aload_n dL_700)))) (xT_n (xT_l (s_sload_n dL_701)) (xT_l (yS (y_iload_eq _ _) (s_iload_n dL_702)))))))))))) (xT_n (xT_n (xT_n (xT_n (xT_n (xT_n (xT_n (xT_n (xT_l (s_iconst dL_703 (by decide +kernel))) (xT_n (xT_l (yS (y_bin_eq _ _) (s_iadd dL_704))) (xT_l (s_sld dL_705)))) (xT_n (xT_l (s_sload_n dL_706)) (xT_n (xT_l (yS (y_iload_eq _ _) (s_iload_n dL_707))) (xT_l (s_iconst dL_708 (by decide +kernel)))))) (xT_n (xT_n (xT_l (yS (y_bin_eq _ _) (s_iadd dL_709))) (xT_n (xT_l (s_sld dL_710)) (xT_l (yS (y_invV_eq _ _ _ _) (s_invV (T := TX12) dL_711 cal_153 rfl wd_1810 wd_1811 wd_1812))))) (xT_n (xT_l (yS (y_icmp_eq yc0_eq _ _) (s_icmpeq dL_714 (by decide +kernel)))) (xT_n (xT_l (yS (y_aload_eq _ _) (s_aload_n dL_719))) (xT_l (s_sload_n dL_720)))))) (xT_n (xT_n (xT_n (xT_l (yS (y_iload_eq _ _) (s_iload_n dL_721))) (xT_n (xT_l (s_iconst dL_722 (by decide +kernel))) (xT_l (yS (y_bin_eq _ _) (s_iadd dL_723))))) (xT_n (xT_l (s_sld dL_724)) (xT_n (xT_l (yS (y_invV_eq _ _ _ _) (s_invV (T := TX11) dL_725 cal_69 rfl wd_1083 wd_1084 wd_1085))) (xT_l (yS (y_aload_eq _ _) (s_aload_n dL_728)))))) (xT_n (xT_n (xT_l (s_sload_n dL_729)) (xT_n (xT_l (yS (y_iload_eq _ _) (s_iload_n dL_730))) (xT_l (s_iconst dL_731 (by decide +kernel))))) (xT_n (xT_l (yS (y_bin_eq _ _) (s_iadd dL_732))) (xT_n (xT_l (s_sld dL_733)) (xT_l (yS (y_invV_eq _ _ _ _) (s_invV (T := TX12) dL_734 cal_130 rfl wd_1814 wd_1815 wd_1816)))))))) (xT_n (xT_n (xT_n (xT_n (xT_l (yS (y_icmp_eq yc0_eq _ _) (s_icmpeq dL_737 (by decide +kernel)))) (xT_n (xT_l (yS (y_aload_eq _ _) (s_aload_n dL_742))) (xT_l (s_sload_n dL_743)))) (xT_n (xT_l (yS (y_iload_eq _ _) (s_iload_n dL_744))) (xT_n (xT_l (s_iconst dL_745 (by decide +kernel))) (xT_l (yS (y_bin_eq _ _) (s_iadd dL_746)))))) (xT_n (xT_n (xT_l (s_sld dL_747)) (xT_n (xT_l (yS (y_invV_eq _ _ _ _) (s_invV (T := TX11) dL_748 cal_80 rfl wd_1091 wd_1092 wd_1093))) (xT_l (yS (y_aload_eq _ _) (s_aload_n dL_751))))) (xT_n (xT_l (s_sload_n dL_752)) (xT_n (xT_l (yS (y_iload_eq _ _) (s_iload_n dL_753))) (xT_l (s_iconst dL_754 (by decide +kernel))))))) (xT_n (xT_n (xT_n (xT_l (yS (y_bin_eq _ _) (s_iadd dL_755))) (xT_n (xT_l (s_sld dL_756)) (xT_l (yS (y_invV_eq _ _ _ _) (s_invV (T := TX12) dL_757 cal_144 rfl wd_1818 wd_1819 wd_1820))))) (xT_n (xT_l (yS (y_icmp_eq yc0_eq _ _) (s_icmpeq dL_760 (by decide +kernel)))) (xT_n (xT_l (yS (y_aload_eq _ _) (s_aload_n dL_765))) (xT_l (s_sload_n dL_766))))) (xT_n (xT_n (xT_l (yS (y_iload_eq _ _) (s_iload_n dL_767))) (xT_n (xT_l (s_iconst dL_768 (by decide +kernel))) (xT_l (yS (y_bin_eq _ _) (s_iadd dL_769))))) (xT_n (xT_l (s_sld dL_770)) (xT_n (xT_l (s_sload_n dL_771)) (xT_l (yS (y_iload_eq _ _) (s_iload_n dL_772))))))))) (xT_n (xT_n (xT_n (xT_n (xT_n (xT_l (s_iconst dL_773 (by decide +kernel))) (xT_n (xT_l (yS (y_bin_eq _ _) (s_iadd dL_774))) (xT_l (s_sld dL_775)))) (xT_n (xT_l (yS (y_invV_eq _ _ _ _) (s_invV (T := TX11) dL_776 cal_67 rfl wd_1126 wd_1127 wd_1128))) (xT_n (xT_l (yS (y_aload_eq _ _) (s_aload_n dL_779))) (xT_l (s_sload_n dL_780))))) (xT_n (xT_n (xT_l (yS (y_iload_eq _ _) (s_iload_n dL_781))) (xT_n (xT_l (s_iconst dL_782 (by decide +kernel))) (xT_l (yS (y_bin_eq _ _) (s_iadd dL_783))))) (xT_n (xT_l (s_sld dL_784)) (xT_n (xT_l (s_sload_n dL_785)) (xT_l (yS (y_iload_eq _ _) (s_iload_n dL_786))))))) (xT_n (xT_n (xT_n (xT_l (s_iconst dL_787 (by decide +kernel))) (xT_n (xT_l (yS (y_bin_eq _ _) (s_iadd dL_788))) (xT_l (s_sld dL_789)))) (xT_n (xT_l (yS (y_invV_eq _ _ _ _) (s_invV (T := TX12) dL_790 cal_125 rfl wd_1826 wd_1827 wd_1828))) (xT_n (xT_l (yS (y_icmp_eq yc0_eq _ _) (s_icmpeq dL_793 (by decide +kernel)))) (xT_l (yS (y_aload_eq _ _) (s_aload_n dL_798)))))) (xT_n (xT_n (xT_l (s_sload_n dL_799)) (xT_n (xT_l (yS (y_iload_eq _ _) (s_iload_n dL_800))) (xT_l (s_iconst dL_801 (by decide +kernel))))) (xT_n (xT_l (yS (y_bin_eq _ _) (s_iadd dL_802))) (xT_n (xT_l (s_sld dL_803)) (xT_l (yS (y_invV_eq _ _ _ _) (s_invV (T := TX11) dL_804 cal_48 rfl wd_1139 wd_1140 wd_1141)))))))) (xT_n (xT_n (xT_n (xT_n (xT_l (yS (y_aload_eq _ _) (s_aload_n dL_807))) (xT_n (xT_l (s_sload_n dL_808)) (xT_l (yS (y_iload_eq _ _) (s_iload_n dL_809))))) (xT_n (xT_l (s_iconst dL_810 (by decide +kernel))) (xT_n (xT_l (yS (y_bin_eq _ _) (s_iadd dL_811))) (xT_l (s_sld dL_812))))) (xT_n (xT_n (xT_l (yS (y_invV_eq _ _ _ _) (s_invV (T := TX12) dL_813 cal_94 rfl wd_1834 wd_1835 wd_1836))) (xT_n (xT_l (yS (y_icmp_eq yc0_eq _ _) (s_icmpeq dL_816 (by decide +kernel)))) (xT_l (yS (y_aload_eq _ _) (s_aload_n dL_821))))) (xT_n (xT_l (s_sload_n dL_822)) (xT_n (xT_l (yS (y_iload_eq _ _) (s_iload_n dL_823))) (xT_l (s_iconst dL_824 (by decide +kernel))))))) (xT_n (xT_n (xT_n (xT_l (yS (y_bin_eq _ _) (s_iadd dL_825))) (xT_n (xT_l (s_sld dL_826)) (xT_l (yS (y_invV_eq _ _ _ _) (s_invV (T := TX11) dL_827 cal_75 rfl wd_1161 wd_1162 wd_1163))))) (xT_n (xT_l (yS (y_aload_eq _ _) (s_aload_n dL_830))) (xT_n (xT_l (s_sload_n dL_831)) (xT_l (yS (y_iload_eq _ _) (s_iload_n dL_832)))))) (xT_n (xT_n (xT_l (s_iconst dL_833 (by decide +kernel))) (xT_n (xT_l (yS (y_bin_eq _ _) (s_iadd dL_834))) (xT_l (s_sld dL_835)))) (xT_n (xT_n (xT_l (yS (y_invV_eq _ _ _ _) (s_invV (T := TX12) dL_836 cal_138 rfl wd_1846 wd_1847 wd_1848))) (xT_l (yS (y_icmp_eq yc0_eq _ _) (s_icmpeq dL_839 (by decide +kernel))))) (xT_n (xT_l (yS (y_aload_eq _ _) (s_aload_n dL_844))) (xT_l (s_sload_n dL_845))))))))) (xT_n (xT_n (xT_n (xT_n (xT_n (xT_n (xT_l (yS (y_iload_eq _ _) (s_iload_n dL_846))) (xT_n (xT_l (s_iconst dL_847 (by decide +kernel))) (xT_l (yS (y_bin_eq _ _) (s_iadd dL_848))))) (xT_n (xT_l (s_sld dL_849)) (xT_n (xT_l (yS (y_invV_eq _ _ _ _) (s_invV (T := TX11) dL_850 cal_51 rfl wd_1169 wd_1170 wd_1171))) (xT_l (yS (y_aload_eq _ _) (s_aload_n dL_853)))))) (xT_n (xT_n (xT_l (s_sload_n dL_854)) (xT_n (xT_l (yS (y_iload_eq _ _) (s_iload_n dL_855))) (xT_l (s_iconst dL_856 (by decide +kernel))))) (xT_n (xT_l (yS (y_bin_eq _ _) (s_iadd dL_857))) (xT_n (xT_l (s_sld dL_858)) (xT_l (yS (y_invV_eq _ _ _ _) (s_invV (T := TX12) dL_859 cal_99 rfl wd_1850 wd_1851 wd_1852))))))) (xT_n (xT_n (xT_n (xT_l (yS (y_icmp_eq yc0_eq _ _) (s_icmpeq dL_862 (by decide +kernel)))) (xT_n (xT_l (yS (y_aload_eq _ _) (s_aload_n dL_867))) (xT_l (yS (y_invV_eq _ _ _ _) (s_invV (T := TX11) dL_868 cal_65 rfl wd_1173 wd_1174 wd_1175))))) (xT_n (xT_l (yS (y_aload_eq _ _) (s_aload_n dL_871))) (xT_n (xT_l (yS (y_invV_eq _ _ _ _) (s_invV (T := TX12) dL_872 cal_123 rfl wd_1854 wd_1855 wd_1856))) (xT_l (yS (y_icmp_eq yc0_eq _ _) (s_icmpeq dL_875 (by decide +kernel))))))) (xT_n (xT_n (xT_l (yS (y_aload_eq _ _) (s_aload_n dL_880))) (xT_n (xT_l (s_sload_n dL_881)) (xT_l (yS (y_iload_eq _ _) (s_iload_n dL_882))))) (xT_n (xT_l (s_iconst dL_883 (by decide +kernel))) (xT_n (xT_l (yS (y_bin_eq _ _) (s_iadd dL_884))) (xT_l (s_sld dL_885))))))) (xT_n (xT_n (xT_n (xT_n (xT_l (s_sload_n dL_886)) (xT_n (xT_l (yS (y_iload_eq _ _) (s_iload_n dL_887))) (xT_l (s_iconst dL_888 (by decide +kernel))))) (xT_n (xT_l (yS (y_bin_eq _ _) (s_iadd dL_889))) (xT_n (xT_l (s_sld dL_890)) (xT_l (yS (y_invV_eq _ _ _ _) (s_invV (T := TX11) dL_891 cal_85 rfl wd_1177 wd_1178 wd_1179)))))) (xT_n (xT_n (xT_l (yS (y_aload_eq _ _) (s_aload_n dL_894))) (xT_n (xT_l (s_sload_n dL_895)) (xT_l (yS (y_iload_eq _ _) (s_iload_n dL_896))))) (xT_n (xT_l (s_iconst dL_897 (by decide +kernel))) (xT_n (xT_l (yS (y_bin_eq _ _) (s_iadd dL_898))) (xT_l (s_sld dL_899)))))) (xT_n (xT_n (xT_n (xT_l (s_sload_n dL_900)) (xT_n (xT_l (yS (y_iload_eq _ _) (s_iload_n dL_901))) (xT_l (s_iconst dL_902 (by decide +kernel))))) (xT_n (xT_l (yS (y_bin_eq _ _) (s_iadd dL_903))) (xT_n (xT_l (s_sld dL_904)) (xT_l (yS (y_invV_eq _ _ _ _) (s_invV (T := TX12) dL_905 cal_152 rfl wd_1858 wd_1859 wd_1860)))))) (xT_n (xT_n (xT_l (yS (y_icmp_eq yc0_eq _ _) (s_icmpeq dL_908 (by decide +kernel)))) (xT_n (xT_l (yS (y_aload_eq _ _) (s_aload_n dL_913))) (xT_l (s_sload_n dL_914)))) (xT_n (xT_n (xT_l (yS (y_iload_eq _ _) (s_iload_n dL_915))) (xT_l (s_iconst dL_916 (by decide +kernel)))) (xT_n (xT_l (yS (y_bin_eq _ _) (s_iadd dL_917))) (xT_l (s_sld dL_918)))))))) (xT_n (xT_n (xT_n (xT_n (xT_n (xT_l (s_sload_n dL_919)) (xT_n (xT_l (yS (y_iload_eq _ _) (s_iload_n dL_920))) (xT_l (s_iconst dL_921 (by decide +kernel))))) (xT_n (xT_l (yS (y_bin_eq _ _) (s_iadd dL_922))) (xT_n (xT_l (s_sld dL_923)) (xT_l (s_sload_n dL_924))))) (xT_n (xT_n (xT_l (yS (y_iload_eq _ _) (s_iload_n dL_925))) (xT_n (xT_l (s_iconst dL_926 (by decide +kernel))) (xT_l (yS (y_bin_eq _ _) (s_iadd dL_927))))) (xT_n (xT_l (s_sld dL_928)) (xT_n (xT_l (s_sload_n dL_929)) (xT_l (yS (y_iload_eq _ _) (s_iload_n dL_930))))))) (xT_n (xT_n (xT_n (xT_l (s_iconst dL_931 (by decide +kernel))) (xT_n (xT_l (yS (y_bin_eq _ _) (s_iadd dL_932))) (xT_l (s_sld dL_933)))) (xT_n (xT_l (yS (y_invV_eq _ _ _ _) (s_invV (T := TX11) dL_934 cal_79 rfl wd_1185 wd_1186 wd_1187))) (xT_n (xT_l (yS (y_aload_eq _ _) (s_aload_n dL_937))) (xT_l (s_sload_n dL_938))))) (xT_n (xT_n (xT_l (yS (y_iload_eq _ _) (s_iload_n dL_939))) (xT_n (xT_l (s_iconst dL_940 (by decide +kernel))) (xT_l (yS (y_bin_eq _ _) (s_iadd dL_941))))) (xT_n (xT_l (s_sld dL_942)) (xT_n (xT_l (s_sload_n dL_943)) (xT_l (yS (y_iload_eq _ _) (s_iload_n dL_944)))))))) (xT_n (xT_n (xT_n (xT_n (xT_l (s_iconst dL_945 (by decide +kernel))) (xT_n (xT_l (yS (y_bin_eq _ _) (s_iadd dL_946))) (xT_l (s_sld dL_947)))) (xT_n (xT_l (s_sload_n dL_948)) (xT_n (xT_l (yS (y_iload_eq _ _) (s_iload_n dL_949))) (xT_l (s_iconst dL_950 (by decide +kernel)))))) (xT_n (xT_n (xT_l (yS (y_bin_eq _ _) (s_iadd dL_951))) (xT_n (xT_l (s_sld dL_952)) (xT_l (s_sload_n dL_953)))) (xT_n (xT_l (yS (y_iload_eq _ _) (s_iload_n dL_954))) (xT_n (xT_l (s_iconst dL_955 (by decide +kernel))) (xT_l (yS (y_bin_eq _ _) (s_iadd dL_956))))))) (xT_n (xT_n (xT_n (xT_l (s_sld dL_957)) (xT_n (xT_l (yS (y_invV_eq _ _ _ _) (s_invV (T := TX12) dL_958 cal_142 rfl wd_1862 wd_1863 wd_1864))) (xT_l (yS (y_icmp_eq yc0_eq _ _) (s_icmpeq dL_961 (by decide +kernel)))))) (xT_n (xT_l (yS (y_aload_eq _ _) (s_aload_n dL_966))) (xT_n (xT_l (s_sload_n dL_967)) (xT_l (yS (y_iload_eq _ _) (s_iload_n dL_968)))))) (xT_n (xT_n (xT_l (s_iconst dL_969 (by decide +kernel))) (xT_n (xT_l (yS (y_bin_eq _ _) (s_iadd dL_970))) (xT_l (s_sld dL_971)))) (xT_n (xT_n (xT_l (yS (y_invV_eq _ _ _ _) (s_invV (T := TX11) dL_972 cal_68 rfl wd_1189 wd_1190 wd_1191))) (xT_l (yS (y_aload_eq _ _) (s_aload_n dL_975)))) (xT_n (xT_l (s_sload_n dL_976)) (xT_l (yS (y_iload_eq _ _) (s_iload_n dL_977))))))))))) (xT_n (xT_n (xT_n (xT_n (xT_n (xT_n (xT_n (xT_l (s_iconst dL_978 (by decide +kernel))) (xT_n (xT_l (yS (y_bin_eq _ _) (s_iadd dL_979))) (xT_l (s_sld dL_980)))) (xT_n (xT_l (yS (y_invV_eq _ _ _ _) (s_invV (T := TX12) dL_981 cal_129 rfl wd_1866 wd_1867 wd_1868))) (xT_n (xT_l (yS (y_icmp_eq yc0_eq _ _) (s_icmpeq dL_984 (by decide +kernel)))) (xT_l (yS (y_aload_eq _ _) (s_aload_n dL_989)))))) (xT_n (xT_n (xT_l (s_sload_n dL_990)) (xT_n (xT_l (yS (y_iload_eq _ _) (s_iload_n dL_991))) (xT_l (s_iconst dL_992 (by decide +kernel))))) (xT_n (xT_l (yS (y_bin_eq _ _) (s_iadd dL_993))) (xT_n (xT_l (s_sld dL_994)) (xT_l (s_sload_n dL_995)))))) (xT_n (xT_n (xT_n (xT_l (yS (y_iload_eq _ _) (s_iload_n dL_996))) (xT_n (xT_l (s_iconst dL_997 (by decide +kernel))) (xT_l (yS (y_bin_eq _ _) (s_iadd dL_998))))) (xT_n (xT_l (s_sld dL_999)) (xT_n (xT_l (s_sload_n dL_1000)) (xT_l (yS (y_iload_eq _ _) (s_iload_n dL_1001)))))) (xT_n (xT_n (xT_l (s_iconst dL_1002 (by decide +kernel))) (xT_n (xT_l (yS (y_bin_eq _ _) (s_iadd dL_1003))) (xT_l (s_sld dL_1004)))) (xT_n (xT_l (s_sload_n dL_1005)) (xT_n (xT_l (yS (y_iload_eq _ _) (s_iload_n dL_1006))) (xT_l (s_iconst dL_1007 (by decide +kernel)))))))) (xT_n (xT_n (xT_n (xT_n (xT_l (yS (y_bin_eq _ _) (s_iadd dL_1008))) (xT_n (xT_l (s_sld dL_1009)) (xT_l (yS (y_invV_eq _ _ _ _) (s_invV (T := TX11) dL_1010 cal_87 rfl wd_1193 wd_1194 wd_1195))))) (xT_n (xT_l (yS (y_aload_eq _ _) (s_aload_n dL_1013))) (xT_n (xT_l (s_sload_n dL_1014)) (xT_l (yS (y_iload_eq _ _) (s_iload_n dL_1015)))))) (xT_n (xT_n (xT_l (s_iconst dL_1016 (by decide +kernel))) (xT_n (xT_l (yS (y_bin_eq _ _) (s_iadd dL_1017))) (xT_l (s_sld dL_1018)))) (xT_n (xT_l (s_sload_n dL_1019)) (xT_n (xT_l (yS (y_iload_eq _ _) (s_iload_n dL_1020))) (xT_l (s_iconst dL_1021 (by decide +kernel))))))) (xT_n (xT_n (xT_n (xT_l (yS (y_bin_eq _ _) (s_iadd dL_1022))) (xT_n (xT_l (s_sld dL_1023)) (xT_l (s_sload_n dL_1024)))) (xT_n (xT_l (yS (y_iload_eq _ _) (s_iload_n dL_1025))) (xT_n (xT_l (s_iconst dL_1026 (by decide +kernel))) (xT_l (yS (y_bin_eq _ _) (s_iadd dL_1027)))))) (xT_n (xT_n (xT_l (s_sld dL_1028)) (xT_n (xT_l (s_sload_n dL_1029)) (xT_l (yS (y_iload_eq _ _) (s_iload_n dL_1030))))) (xT_n (xT_n (xT_l (s_iconst dL_1031 (by decide +kernel))) (xT_l (yS (y_bin_eq _ _) (s_iadd dL_1032)))) (xT_n (xT_l (s_sld dL_1033)) (xT_l (yS (y_invV_eq _ _ _ _) (s_invV (T := TX12) dL_1034 cal_154 rfl wd_1870 wd_1871 wd_1872))))))))) (xT_n (xT_n (xT_n (xT_n (xT_n (xT_l (yS (y_icmp_eq yc0_eq _ _) (s_icmpeq dL_1037 (by decide +kernel)))) (xT_n (xT_l (yS (y_aload_eq _ _) (s_aload_n dL_1042))) (xT_l (s_sload_n dL_1043)))) (xT_n (xT_l (yS (y_iload_eq _ _) (s_iload_n dL_1044))) (xT_n (xT_l (s_iconst dL_1045 (by decide +kernel))) (xT_l (yS (y_bin_eq _ _) (s_iadd dL_1046)))))) (xT_n (xT_n (xT_l (s_sld dL_1047)) (xT_n (xT_l (s_sload_n dL_1048)) (xT_l (yS (y_iload_eq _ _) (s_iload_n dL_1049))))) (xT_n (xT_l (s_iconst dL_1050 (by decide +kernel))) (xT_n (xT_l (yS (y_bin_eq _ _) (s_iadd dL_1051))) (xT_l (s_sld dL_1052)))))) (xT_n (xT_n (xT_n (xT_l (s_sload_n dL_1053)) (xT_n (xT_l (yS (y_iload_eq _ _) (s_iload_n dL_1054))) (xT_l (s_iconst dL_1055 (by decide +kernel))))) (xT_n (xT_l (yS (y_bin_eq _ _) (s_iadd dL_1056))) (xT_n (xT_l (s_sld dL_1057)) (xT_l (yS (y_if_eq yc0_eq _ _) (s_ifeq dL_1058 (by decide +kernel))))))) (xT_n (xT_n (xT_l (s_iconst dL_1061 (by decide +kernel))) (xT_n (xT_l (s_goto dL_1062 (by decide +kernel))) (xT_l (s_iconst dL_1065 (by decide +kernel))))) (xT_n (xT_l (yS (y_invV_eq _ _ _ _) (s_invV (T := TX11) dL_1066 cal_77 rfl wd_1197 wd_1198 wd_1199))) (xT_n (xT_l (yS (y_aload_eq _ _) (s_aload_n dL_1069))) (xT_l (s_sload_n dL_1070))))))) (xT_n (xT_n (xT_n (xT_n (xT_l (yS (y_iload_eq _ _) (s_iload_n dL_1071))) (xT_n (xT_l (s_iconst dL_1072 (by decide +kernel))) (xT_l (yS (y_bin_eq _ _) (s_iadd dL_1073))))) (xT_n (xT_l (s_sld dL_1074)) (xT_n (xT_l (s_sload_n dL_1075)) (xT_l (yS (y_iload_eq _ _) (s_iload_n dL_1076)))))) (xT_n (xT_n (xT_l (s_iconst dL_1077 (by decide +kernel))) (xT_n (xT_l (yS (y_bin_eq _ _) (s_iadd dL_1078))) (xT_l (s_sld dL_1079)))) (xT_n (xT_l (s_sload_n dL_1080)) (xT_n (xT_l (yS (y_iload_eq _ _) (s_iload_n dL_1081))) (xT_l (s_iconst dL_1082 (by decide +kernel))))))) (xT_n (xT_n (xT_n (xT_l (yS (y_bin_eq _ _) (s_iadd dL_1083))) (xT_n (xT_l (s_sld dL_1084)) (xT_l (yS (y_if_eq yc0_eq _ _) (s_ifeq dL_1085 (by decide +kernel)))))) (xT_n (xT_l (s_iconst dL_1088 (by decide +kernel))) (xT_n (xT_l (s_goto dL_1089 (by decide +kernel))) (xT_l (s_iconst dL_1092 (by decide +kernel)))))) (xT_n (xT_n (xT_l (yS (y_invV_eq _ _ _ _) (s_invV (T := TX12) dL_1093 cal_140 rfl wd_1874 wd_1875 wd_1876))) (xT_n (xT_l (yS (y_icmp_eq yc0_eq _ _) (s_icmpeq dL_1096 (by decide +kernel)))) (xT_l (yS (y_aload_eq _ _) (s_aload_n dL_1101))))) (xT_n (xT_n (xT_l (yS (y_invV_eq _ _ _ _) (s_invV (T := TX11) dL_1102 cal_56 rfl wd_1205 wd_1206 wd_1207))) (xT_l (yS (y_aload_eq _ _) (s_aload_n dL_1105)))) (xT_n (xT_l (yS (y_invV_eq _ _ _ _) (s_invV (T := TX12) dL_1106 cal_109 rfl wd_1878 wd_1879 wd_1880))) (xT_l (yS (y_icmp_eq yc0_eq _ _) (s_icmpeq dL_1109 (by decide +kernel))))))))))) (xT_n (xT_n (xT_n (xT_n (xT_n (xT_n (xT_l (yS (y_aload_eq _ _) (s_aload_n dL_1114))) (xT_n (xT_l (s_sload_n dL_1115)) (xT_l (yS (y_iload_eq _ _) (s_iload_n dL_1116))))) (xT_n (xT_l (s_iconst dL_1117 (by decide +kernel))) (xT_n (xT_l (yS (y_bin_eq _ _) (s_iadd dL_1118))) (xT_l (s_sld dL_1119))))) (xT_n (xT_n (xT_l (s_sload_n dL_1120)) (xT_n (xT_l (yS (y_iload_eq _ _) (s_iload_n dL_1121))) (xT_l (s_iconst dL_1122 (by decide +kernel))))) (xT_n (xT_l (yS (y_bin_eq _ _) (s_iadd dL_1123))) (xT_n (xT_l (s_sld dL_1124)) (xT_l (yS (y_invV_eq _ _ _ _) (s_invV (T := TX11) dL_1125 cal_84 rfl wd_1209 wd_1210 wd_1211))))))) (xT_n (xT_n (xT_n (xT_l (yS (y_aload_eq _ _) (s_aload_n dL_1128))) (xT_n (xT_l (s_sload_n dL_1129)) (xT_l (yS (y_iload_eq _ _) (s_iload_n dL_1130))))) (xT_n (xT_l (s_iconst dL_1131 (by decide +kernel))) (xT_n (xT_l (yS (y_bin_eq _ _) (s_iadd dL_1132))) (xT_l (s_sld dL_1133))))) (xT_n (xT_n (xT_l (s_sload_n dL_1134)) (xT_n (xT_l (yS (y_iload_eq _ _) (s_iload_n dL_1135))) (xT_l (s_iconst dL_1136 (by decide +kernel))))) (xT_n (xT_l (yS (y_bin_eq _ _) (s_iadd dL_1137))) (xT_n (xT_l (s_sld dL_1138)) (xT_l (yS (y_invV_eq _ _ _ _) (s_invV (T := TX12) dL_1139 cal_149 rfl wd_1882 wd_1883 wd_1884)))))))) (xT_n (xT_n (xT_n (xT_n (xT_l (yS (y_icmp_eq yc0_eq _ _) (s_icmpeq dL_1142 (by decide +kernel)))) (xT_n (xT_l (yS (y_aload_eq _ _) (s_aload_n dL_1147))) (xT_l (s_sload_n dL_1148)))) (xT_n (xT_l (yS (y_iload_eq _ _) (s_iload_n dL_1149))) (xT_n (xT_l (s_iconst dL_1150 (by decide +kernel))) (xT_l (yS (y_bin_eq _ _) (s_iadd dL_1151)))))) (xT_n (xT_n (xT_l (s_sld dL_1152)) (xT_n (xT_l (s_sload_n dL_1153)) (xT_l (yS (y_iload_eq _ _) (s_iload_n dL_1154))))) (xT_n (xT_l (s_iconst dL_1155 (by decide +kernel))) (xT_n (xT_l (yS (y_bin_eq _ _) (s_iadd dL_1156))) (xT_l (s_sld dL_1157)))))) (xT_n (xT_n (xT_n (xT_l (yS (y_invV_eq _ _ _ _) (s_invV (T := TX11) dL_1158 cal_46 rfl wd_1223 wd_1224 wd_1225))) (xT_n (xT_l (yS (y_aload_eq _ _) (s_aload_n dL_1161))) (xT_l (s_sload_n dL_1162)))) (xT_n (xT_l (yS (y_iload_eq _ _) (s_iload_n dL_1163))) (xT_n (xT_l (s_iconst dL_1164 (by decide +kernel))) (xT_l (yS (y_bin_eq _ _) (s_iadd dL_1165)))))) (xT_n (xT_n (xT_l (s_sld dL_1166)) (xT_n (xT_l (s_sload_n dL_1167)) (xT_l (yS (y_iload_eq _ _) (s_iload_n dL_1168))))) (xT_n (xT_n (xT_l (s_iconst dL_1169 (by decide +kernel))) (xT_l (yS (y_bin_eq _ _) (s_iadd dL_1170)))) (xT_n (xT_l (s_sld dL_1171)) (xT_l (yS (y_invV_eq _ _ _ _) (s_invV (T := TX12) dL_1172 cal_92 rfl wd_1893 wd_1894 wd_1895))))))))) (xT_n (xT_n (xT_n (xT_n (xT_n (xT_l (yS (y_icmp_eq yc0_eq _ _) (s_icmpeq dL_1175 (by decide +kernel)))) (xT_n (xT_l (yS (y_aload_eq _ _) (s_aload_n dL_1180))) (xT_l (s_sload_n dL_1181)))) (xT_n (xT_l (yS (y_iload_eq _ _) (s_iload_n dL_1182))) (xT_n (xT_l (s_iconst dL_1183 (by decide +kernel))) (xT_l (yS (y_bin_eq _ _) (s_iadd dL_1184)))))) (xT_n (xT_n (xT_l (s_sld dL_1185)) (xT_n (xT_l (yS (y_invV_eq _ _ _ _) (s_invV (T := TX11) dL_1186 cal_60 rfl wd_1233 wd_1234 wd_1235))) (xT_l (yS (y_aload_eq _ _) (s_aload_n dL_1189))))) (xT_n (xT_l (s_sload_n dL_1190)) (xT_n (xT_l (yS (y_iload_eq _ _) (s_iload_n dL_1191))) (xT_l (s_iconst dL_1192 (by decide +kernel))))))) (xT_n (xT_n (xT_n (xT_l (yS (y_bin_eq _ _) (s_iadd dL_1193))) (xT_n (xT_l (s_sld dL_1194)) (xT_l (yS (y_invV_eq _ _ _ _) (s_invV (T := TX12) dL_1195 cal_113 rfl wd_1897 wd_1898 wd_1899))))) (xT_n (xT_l (yS (y_icmp_eq yc0_eq _ _) (s_icmpeq dL_1198 (by decide +kernel)))) (xT_n (xT_l (yS (y_aload_eq _ _) (s_aload_n dL_1203))) (xT_l (s_sload_n dL_1204))))) (xT_n (xT_n (xT_l (yS (y_iload_eq _ _) (s_iload_n dL_1205))) (xT_n (xT_l (s_iconst dL_1206 (by decide +kernel))) (xT_l (yS (y_bin_eq _ _) (s_iadd dL_1207))))) (xT_n (xT_l (s_sld dL_1208)) (xT_n (xT_l (yS (y_invV_eq _ _ _ _) (s_invV (T := TX11) dL_1209 cal_72 rfl wd_1237 wd_1238 wd_1239))) (xT_l (yS (y_aload_eq _ _) (s_aload_n dL_1212)))))))) (xT_n (xT_n (xT_n (xT_n (xT_l (s_sload_n dL_1213)) (xT_n (xT_l (yS (y_iload_eq _ _) (s_iload_n dL_1214))) (xT_l (s_iconst dL_1215 (by decide +kernel))))) (xT_n (xT_l (yS (y_bin_eq _ _) (s_iadd dL_1216))) (xT_n (xT_l (s_sld dL_1217)) (xT_l (yS (y_invV_eq _ _ _ _) (s_invV (T := TX12) dL_1218 cal_136 rfl wd_1901 wd_1902 wd_1903)))))) (xT_n (xT_n (xT_l (yS (y_icmp_eq yc0_eq _ _) (s_icmpeq dL_1221 (by decide +kernel)))) (xT_n (xT_l (yS (y_aload_eq _ _) (s_aload_n dL_1226))) (xT_l (s_sload_n dL_1227)))) (xT_n (xT_l (yS (y_iload_eq _ _) (s_iload_n dL_1228))) (xT_n (xT_l (s_iconst dL_1229 (by decide +kernel))) (xT_l (yS (y_bin_eq _ _) (s_iadd dL_1230))))))) (xT_n (xT_n (xT_n (xT_l (s_sld dL_1231)) (xT_n (xT_l (yS (y_invV_eq _ _ _ _) (s_invV (T := TX11) dL_1232 cal_53 rfl wd_1241 wd_1242 wd_1243))) (xT_l (yS (y_aload_eq _ _) (s_aload_n dL_1235))))) (xT_n (xT_l (s_sload_n dL_1236)) (xT_n (xT_l (yS (y_iload_eq _ _) (s_iload_n dL_1237))) (xT_l (s_iconst dL_1238 (by decide +kernel)))))) (xT_n (xT_n (xT_l (yS (y_bin_eq _ _) (s_iadd dL_1239))) (xT_n (xT_l (s_sld dL_1240)) (xT_l (yS (y_invV_eq _ _ _ _) (s_invV (T := TX12) dL_1241 cal_102 rfl wd_1905 wd_1906 wd_1907))))) (xT_n (xT_n (xT_l (yS (y_icmp_eq yc0_eq _ _) (s_icmpeq dL_1244 (by decide +kernel)))) (xT_l (yS (y_iinc_eq _ _ _) (s_iinc dL_1249 (by decide +kernel))))) (xT_n (xT_l (s_goto dL_1252 (by decide +kernel))) (xT_l (s_iconst dL_1255 (by decide +kernel)))))))))))))
