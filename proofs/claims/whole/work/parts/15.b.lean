/-! THE LAW'S LOOP: cases -/
theorem i372_240 : mm_cd 372 240 = some (.aload_n 1, 1, 0, 0) := rfl
theorem i372_241 : mm_cd 372 241 = some (.aload_n 0, 1, 0, 0) := rfl
theorem i372_242 : mm_cd 372 242 = some (.iload 4, 2, 0, 0) := rfl
theorem i372_244 : mm_cd 372 244 = some (.iconst 1, 1, 0, 0) := rfl
theorem i372_245 : mm_cd 372 245 = some (.iadd, 1, 0, 0) := rfl
theorem i372_246 : mm_cd 372 246 = some (.iaload, 1, 0, 0) := rfl
theorem i372_247 : mm_cd 372 247 = some (.aload_n 0, 1, 0, 0) := rfl
theorem i372_248 : mm_cd 372 248 = some (.iload 4, 2, 0, 0) := rfl
theorem i372_250 : mm_cd 372 250 = some (.iconst 2, 1, 0, 0) := rfl
theorem i372_251 : mm_cd 372 251 = some (.iadd, 1, 0, 0) := rfl
theorem i372_252 : mm_cd 372 252 = some (.iaload, 1, 0, 0) := rfl
theorem i372_253 : mm_cd 372 253 = some (.aload_n 0, 1, 0, 0) := rfl
theorem i372_254 : mm_cd 372 254 = some (.iload 4, 2, 0, 0) := rfl
theorem i372_256 : mm_cd 372 256 = some (.iconst 3, 1, 0, 0) := rfl
theorem i372_257 : mm_cd 372 257 = some (.iadd, 1, 0, 0) := rfl
theorem i372_258 : mm_cd 372 258 = some (.iaload, 1, 0, 0) := rfl
theorem i372_259 : mm_cd 372 259 = some (.aload_n 0, 1, 0, 0) := rfl
theorem i372_260 : mm_cd 372 260 = some (.iload 4, 2, 0, 0) := rfl
theorem i372_262 : mm_cd 372 262 = some (.iconst 4, 1, 0, 0) := rfl
theorem i372_263 : mm_cd 372 263 = some (.iadd, 1, 0, 0) := rfl
theorem i372_264 : mm_cd 372 264 = some (.iaload, 1, 0, 0) := rfl
theorem i372_265 : mm_cd 372 265 = some (.aload_n 0, 1, 0, 0) := rfl
theorem i372_266 : mm_cd 372 266 = some (.iload 4, 2, 0, 0) := rfl
theorem i372_268 : mm_cd 372 268 = some (.iconst 5, 1, 0, 0) := rfl
theorem i372_269 : mm_cd 372 269 = some (.iadd, 1, 0, 0) := rfl
theorem i372_270 : mm_cd 372 270 = some (.iaload, 1, 0, 0) := rfl
theorem i372_271 : mm_cd 372 271 = some (.invokevirtual 114, 3, 0, 128) := rfl
theorem i372_274 : mm_cd 372 274 = some (.aload_n 2, 1, 0, 0) := rfl
theorem i372_275 : mm_cd 372 275 = some (.aload_n 0, 1, 0, 0) := rfl
theorem i372_276 : mm_cd 372 276 = some (.iload 4, 2, 0, 0) := rfl
theorem i372_278 : mm_cd 372 278 = some (.iconst 1, 1, 0, 0) := rfl
theorem i372_279 : mm_cd 372 279 = some (.iadd, 1, 0, 0) := rfl
theorem i372_280 : mm_cd 372 280 = some (.iaload, 1, 0, 0) := rfl
theorem i372_281 : mm_cd 372 281 = some (.aload_n 0, 1, 0, 0) := rfl
theorem i372_282 : mm_cd 372 282 = some (.iload 4, 2, 0, 0) := rfl
theorem i372_284 : mm_cd 372 284 = some (.iconst 2, 1, 0, 0) := rfl
theorem i372_285 : mm_cd 372 285 = some (.iadd, 1, 0, 0) := rfl
theorem i372_286 : mm_cd 372 286 = some (.iaload, 1, 0, 0) := rfl
theorem i372_287 : mm_cd 372 287 = some (.aload_n 0, 1, 0, 0) := rfl
theorem i372_288 : mm_cd 372 288 = some (.iload 4, 2, 0, 0) := rfl
theorem i372_290 : mm_cd 372 290 = some (.iconst 3, 1, 0, 0) := rfl
theorem i372_291 : mm_cd 372 291 = some (.iadd, 1, 0, 0) := rfl
theorem i372_292 : mm_cd 372 292 = some (.iaload, 1, 0, 0) := rfl
theorem i372_293 : mm_cd 372 293 = some (.aload_n 0, 1, 0, 0) := rfl
theorem i372_294 : mm_cd 372 294 = some (.iload 4, 2, 0, 0) := rfl
theorem i372_296 : mm_cd 372 296 = some (.iconst 4, 1, 0, 0) := rfl
theorem i372_297 : mm_cd 372 297 = some (.iadd, 1, 0, 0) := rfl
theorem i372_298 : mm_cd 372 298 = some (.iaload, 1, 0, 0) := rfl
theorem i372_299 : mm_cd 372 299 = some (.aload_n 0, 1, 0, 0) := rfl
theorem i372_300 : mm_cd 372 300 = some (.iload 4, 2, 0, 0) := rfl
theorem i372_302 : mm_cd 372 302 = some (.iconst 5, 1, 0, 0) := rfl
theorem i372_303 : mm_cd 372 303 = some (.iadd, 1, 0, 0) := rfl
theorem i372_304 : mm_cd 372 304 = some (.iaload, 1, 0, 0) := rfl
theorem i372_305 : mm_cd 372 305 = some (.invokevirtual 118, 3, 0, 213) := rfl
theorem i372_308 : mm_cd 372 308 = some (.if_icmp .eq 2074, 3, 0, 0) := rfl
theorem i372_311 : mm_cd 372 311 = some (.iconst 0, 1, 0, 0) := rfl
theorem i372_312 : mm_cd 372 312 = some (.ireturn, 1, 0, 0) := rfl
theorem K0 {L : Nat} {xs : Nat → Int32} {i B : Nat} {s : mS} (hL : L ≤ 3072) (hi : i + 6 ≤ L) (hG : G B s) (hB : B + 60 < 400000000) : KQ L xs i B 240 s := by
  obtain ⟨v, s1, z1, z2, z3⟩ := z_feed hG (xs (i + 1)) (xs (i + 2)) (xs (i + 3)) (xs (i + 4)) (xs (i + 5))
  obtain ⟨t, m1, m2, m3⟩ := z3 s1 rfl
  refine ⟨t, G_up m3 (by omega), CN_e (by rw [m2.1, z2]), fun r k => ?_⟩
  refine Ev.aload_n H372 i372_240 rfl ?_
  refine LD (j := 1) i372_241 i372_242 i372_244 i372_245 i372_246 (by decide) rfl rfl hL (by omega) ?_
  refine LD (j := 2) i372_247 i372_248 i372_250 i372_251 i372_252 (by decide) rfl rfl hL (by omega) ?_
  refine LD (j := 3) i372_253 i372_254 i372_256 i372_257 i372_258 (by decide) rfl rfl hL (by omega) ?_
  refine LD (j := 4) i372_259 i372_260 i372_262 i372_263 i372_264 (by decide) rfl rfl hL (by omega) ?_
  refine LD (j := 5) i372_265 i372_266 i372_268 i372_269 i372_270 (by decide) rfl rfl hL (by omega) ?_
  refine CV (As := [.int (xs (i + 1)), .int (xs (i + 2)), .int (xs (i + 3)), .int (xs (i + 4)), .int (xs (i + 5))]) i372_271 cal128 ob10 rfl (Nat.le_of_ble_eq_true rfl) (Nat.le_of_ble_eq_true rfl) (show 1 < 60 by decide) (c128 z1) ?_
  refine Ev.aload_n H372 i372_274 rfl ?_
  refine LD (j := 1) i372_275 i372_276 i372_278 i372_279 i372_280 (by decide) rfl rfl hL (by omega) ?_
  refine LD (j := 2) i372_281 i372_282 i372_284 i372_285 i372_286 (by decide) rfl rfl hL (by omega) ?_
  refine LD (j := 3) i372_287 i372_288 i372_290 i372_291 i372_292 (by decide) rfl rfl hL (by omega) ?_
  refine LD (j := 4) i372_293 i372_294 i372_296 i372_297 i372_298 (by decide) rfl rfl hL (by omega) ?_
  refine LD (j := 5) i372_299 i372_300 i372_302 i372_303 i372_304 (by decide) rfl rfl hL (by omega) ?_
  refine CV (As := [.int (xs (i + 1)), .int (xs (i + 2)), .int (xs (i + 3)), .int (xs (i + 4)), .int (xs (i + 5))]) i372_305 cal213 ob11 rfl (Nat.le_of_ble_eq_true rfl) (Nat.le_of_ble_eq_true rfl) (show 0 < 60 by decide) (c213 m1) ?_
  exact Ev.ic_eq H372 i372_308 (by decide) (fun _ => k) (fun e => absurd rfl e)
theorem i372_313 : mm_cd 372 313 = some (.aload_n 1, 1, 0, 0) := rfl
theorem i372_314 : mm_cd 372 314 = some (.aload_n 0, 1, 0, 0) := rfl
theorem i372_315 : mm_cd 372 315 = some (.iload 4, 2, 0, 0) := rfl
theorem i372_317 : mm_cd 372 317 = some (.iconst 1, 1, 0, 0) := rfl
theorem i372_318 : mm_cd 372 318 = some (.iadd, 1, 0, 0) := rfl
theorem i372_319 : mm_cd 372 319 = some (.iaload, 1, 0, 0) := rfl
theorem i372_320 : mm_cd 372 320 = some (.invokevirtual 119, 3, 0, 129) := rfl
theorem i372_323 : mm_cd 372 323 = some (.aload_n 2, 1, 0, 0) := rfl
theorem i372_324 : mm_cd 372 324 = some (.aload_n 0, 1, 0, 0) := rfl
theorem i372_325 : mm_cd 372 325 = some (.iload 4, 2, 0, 0) := rfl
theorem i372_327 : mm_cd 372 327 = some (.iconst 1, 1, 0, 0) := rfl
theorem i372_328 : mm_cd 372 328 = some (.iadd, 1, 0, 0) := rfl
theorem i372_329 : mm_cd 372 329 = some (.iaload, 1, 0, 0) := rfl
theorem i372_330 : mm_cd 372 330 = some (.invokevirtual 123, 3, 0, 214) := rfl
theorem i372_333 : mm_cd 372 333 = some (.if_icmp .eq 2049, 3, 0, 0) := rfl
theorem i372_336 : mm_cd 372 336 = some (.iconst 0, 1, 0, 0) := rfl
theorem i372_337 : mm_cd 372 337 = some (.ireturn, 1, 0, 0) := rfl
theorem K1 {L : Nat} {xs : Nat → Int32} {i B : Nat} {s : mS} (hL : L ≤ 3072) (hi : i + 6 ≤ L) (hG : G B s) (hB : B + 60 < 400000000) : KQ L xs i B 313 s := by
  obtain ⟨v, s1, z1, z2, z3⟩ := z_end hG (xs (i + 1))
  obtain ⟨t, m1, m2, m3⟩ := z3 s1 rfl
  refine ⟨t, G_up m3 (by omega), CN_e (by rw [m2.1, z2]), fun r k => ?_⟩
  refine Ev.aload_n H372 i372_313 rfl ?_
  refine LD (j := 1) i372_314 i372_315 i372_317 i372_318 i372_319 (by decide) rfl rfl hL (by omega) ?_
  refine CV (As := [.int (xs (i + 1))]) i372_320 cal129 ob10 rfl (Nat.le_of_ble_eq_true rfl) (Nat.le_of_ble_eq_true rfl) (show 0 < 60 by decide) (c129 z1) ?_
  refine Ev.aload_n H372 i372_323 rfl ?_
  refine LD (j := 1) i372_324 i372_325 i372_327 i372_328 i372_329 (by decide) rfl rfl hL (by omega) ?_
  refine CV (As := [.int (xs (i + 1))]) i372_330 cal214 ob11 rfl (Nat.le_of_ble_eq_true rfl) (Nat.le_of_ble_eq_true rfl) (show 0 < 60 by decide) (c214 m1) ?_
  exact Ev.ic_eq H372 i372_333 (by decide) (fun _ => k) (fun e => absurd rfl e)
theorem i372_338 : mm_cd 372 338 = some (.aload_n 1, 1, 0, 0) := rfl
theorem i372_339 : mm_cd 372 339 = some (.aload_n 3, 1, 0, 0) := rfl
theorem i372_340 : mm_cd 372 340 = some (.invokestatic 124, 3, 0, 344) := rfl
theorem i372_343 : mm_cd 372 343 = some (.istore 5, 2, 0, 0) := rfl
theorem i372_345 : mm_cd 372 345 = some (.aload_n 2, 1, 0, 0) := rfl
theorem i372_346 : mm_cd 372 346 = some (.invokevirtual 129, 3, 0, 241) := rfl
theorem i372_349 : mm_cd 372 349 = some (.istore 6, 2, 0, 0) := rfl
theorem i372_351 : mm_cd 372 351 = some (.aload_n 2, 1, 0, 0) := rfl
theorem i372_352 : mm_cd 372 352 = some (.invokevirtual 130, 3, 0, 187) := rfl
theorem i372_355 : mm_cd 372 355 = some (.iload 5, 2, 0, 0) := rfl
theorem i372_357 : mm_cd 372 357 = some (.if_icmp .eq 5, 3, 0, 0) := rfl
theorem i372_360 : mm_cd 372 360 = some (.iconst 0, 1, 0, 0) := rfl
theorem i372_361 : mm_cd 372 361 = some (.ireturn, 1, 0, 0) := rfl
theorem i372_362 : mm_cd 372 362 = some (.iload 5, 2, 0, 0) := rfl
theorem i372_364 : mm_cd 372 364 = some (.ifCond .ne 15, 3, 0, 0) := rfl
theorem i372_367 : mm_cd 372 367 = some (.aload_n 3, 1, 0, 0) := rfl
theorem i372_368 : mm_cd 372 368 = some (.iconst 0, 1, 0, 0) := rfl
theorem i372_369 : mm_cd 372 369 = some (.laload, 1, 0, 0) := rfl
theorem i372_370 : mm_cd 372 370 = some (.iload 6, 2, 0, 0) := rfl
theorem i372_372 : mm_cd 372 372 = some (.i2l, 1, 0, 0) := rfl
theorem i372_373 : mm_cd 372 373 = some (.lcmp, 1, 0, 0) := rfl
theorem i372_374 : mm_cd 372 374 = some (.ifCond .eq 5, 3, 0, 0) := rfl
theorem i372_377 : mm_cd 372 377 = some (.iconst 0, 1, 0, 0) := rfl
theorem i372_378 : mm_cd 372 378 = some (.ireturn, 1, 0, 0) := rfl
theorem i372_379 : mm_cd 372 379 = some (.goto 2003, 3, 0, 0) := rfl
theorem K2 {L : Nat} {xs : Nat → Int32} {i B : Nat} {s : mS} (hL : L ≤ 3072) (hi : i + 6 ≤ L) (hG : G B s) (hB : B + 60 < 400000000) : KQ L xs i B 338 s := by
  have walk : ∀ (k0 v : Int32) (s1 t : mS) (r : mQ), q344 s = some (.inl (some k0), s1) → q241 s1 = some (.inl (some v), t) → t.1 512 0 = k0 → (k0 = 0 → t.2.1 524 0 = v.toInt64) → Ev L xs 60 372 2382 (lvB i) [] (hp t) (hr r) → Ev L xs 60 372 338 (lvB i) [] (hp s) (hr r) := fun k0 v s1 t r z1 m1 hc hv k => by
    refine Ev.aload_n H372 i372_338 rfl ?_
    refine Ev.aload_n H372 i372_339 rfl ?_
    refine CSt (As := [.ref 0, .ref 524]) i372_340 cal344 rfl (Nat.le_of_ble_eq_true rfl) (Nat.le_of_ble_eq_true rfl) (show 8 < 60 by decide) (c344 z1) ?_
    refine Ev.istore H372 i372_343 (by decide) (lv2 := (5, .int k0) :: lvB i) rfl ?_
    refine Ev.aload_n H372 i372_345 rfl ?_
    refine CV (As := []) i372_346 cal241 ob11 rfl (Nat.le_of_ble_eq_true rfl) (Nat.le_of_ble_eq_true rfl) (show 38 < 60 by decide) (c241 m1) ?_
    refine Ev.istore H372 i372_349 (by decide) (lv2 := (6, .int v) :: (5, .int k0) :: lvB i) rfl ?_
    exact TLI i372_351 i372_352 i372_355 i372_357 i372_362 i372_364 i372_367 i372_368 i372_369 i372_370 i372_372 i372_373 i372_374 i372_379 (by decide) (by decide) (by decide) (by decide) hc hv k
  have h0 : (0 : Int32).toNatClampNeg = 0 := by decide
  rcases z_store hG with ⟨v, s1, z1, z2, z3⟩ | ⟨x, u, w, c, s1, z1, z2, z4, z5, z6, z3⟩
  · obtain ⟨t, m1, m2, m3, m4⟩ := z3 (sL s1 524 0 v.toInt64) sL_1
    refine ⟨t, G_up m4 (by omega), CN_e (by rw [m2.1, sL_22, z2]), fun r k => walk 0 v (sL s1 524 0 v.toInt64) t r ?_ m1 m3 (fun _ => by rw [m2.2 524 (by omega), sLz_at]) k⟩
    unfold q344
    rw [z1]
    show gA 1 (nI 0) _ = _
    rw [gA_ok (show 0 < 1 by decide) (by omega), sp_e, h0]; rfl
  · obtain ⟨v, t, m1, m2, m3, m4⟩ := z3 (sX s1) rfl
    have hcz : ¬ nI c = 0 := by rw [nI_lit, nI_eqv (by omega) (by omega)]; omega
    refine ⟨t, G_up m4 (by omega), ?_, fun r k => walk (nI c) v (sX s1) t r ?_ m1 m3 (fun q => absurd q hcz) k⟩
    · unfold CN
      rw [m2.1]
      show s1.2.2.2.1 + 1 ≤ _ ∧ s1.2.2.2.2 + 6 ≤ _
      rw [z2]; exact ⟨Nat.le_refl _, Nat.le_refl _⟩
    · unfold q344
      rw [z1]
      exact bC_x z4 z6
theorem i372_382 : mm_cd 372 382 = some (.aload_n 1, 1, 0, 0) := rfl
theorem i372_383 : mm_cd 372 383 = some (.aload_n 3, 1, 0, 0) := rfl
theorem i372_384 : mm_cd 372 384 = some (.invokestatic 133, 3, 0, 345) := rfl
theorem i372_387 : mm_cd 372 387 = some (.istore 5, 2, 0, 0) := rfl
theorem i372_389 : mm_cd 372 389 = some (.aload_n 2, 1, 0, 0) := rfl
theorem i372_390 : mm_cd 372 390 = some (.invokevirtual 135, 3, 0, 242) := rfl
theorem i372_393 : mm_cd 372 393 = some (.istore 6, 2, 0, 0) := rfl
theorem i372_395 : mm_cd 372 395 = some (.aload_n 2, 1, 0, 0) := rfl
theorem i372_396 : mm_cd 372 396 = some (.invokevirtual 130, 3, 0, 187) := rfl
theorem i372_399 : mm_cd 372 399 = some (.iload 5, 2, 0, 0) := rfl
theorem i372_401 : mm_cd 372 401 = some (.if_icmp .eq 5, 3, 0, 0) := rfl
theorem i372_404 : mm_cd 372 404 = some (.iconst 0, 1, 0, 0) := rfl
theorem i372_405 : mm_cd 372 405 = some (.ireturn, 1, 0, 0) := rfl
theorem i372_406 : mm_cd 372 406 = some (.iload 5, 2, 0, 0) := rfl
theorem i372_408 : mm_cd 372 408 = some (.ifCond .ne 15, 3, 0, 0) := rfl
theorem i372_411 : mm_cd 372 411 = some (.aload_n 3, 1, 0, 0) := rfl
theorem i372_412 : mm_cd 372 412 = some (.iconst 0, 1, 0, 0) := rfl
theorem i372_413 : mm_cd 372 413 = some (.laload, 1, 0, 0) := rfl
theorem i372_414 : mm_cd 372 414 = some (.iload 6, 2, 0, 0) := rfl
theorem i372_416 : mm_cd 372 416 = some (.i2l, 1, 0, 0) := rfl
theorem i372_417 : mm_cd 372 417 = some (.lcmp, 1, 0, 0) := rfl
theorem i372_418 : mm_cd 372 418 = some (.ifCond .eq 5, 3, 0, 0) := rfl
theorem i372_421 : mm_cd 372 421 = some (.iconst 0, 1, 0, 0) := rfl
theorem i372_422 : mm_cd 372 422 = some (.ireturn, 1, 0, 0) := rfl
theorem i372_423 : mm_cd 372 423 = some (.goto 1959, 3, 0, 0) := rfl
theorem K3 {L : Nat} {xs : Nat → Int32} {i B : Nat} {s : mS} (hL : L ≤ 3072) (hi : i + 6 ≤ L) (hG : G B s) (hB : B + 60 < 400000000) : KQ L xs i B 382 s := by
  have walk : ∀ (k0 v : Int32) (s1 t : mS) (r : mQ), q345 s = some (.inl (some k0), s1) → q242 s1 = some (.inl (some v), t) → t.1 512 0 = k0 → (k0 = 0 → t.2.1 524 0 = v.toInt64) → Ev L xs 60 372 2382 (lvB i) [] (hp t) (hr r) → Ev L xs 60 372 382 (lvB i) [] (hp s) (hr r) := fun k0 v s1 t r z1 m1 hc hv k => by
    refine Ev.aload_n H372 i372_382 rfl ?_
    refine Ev.aload_n H372 i372_383 rfl ?_
    refine CSt (As := [.ref 0, .ref 524]) i372_384 cal345 rfl (Nat.le_of_ble_eq_true rfl) (Nat.le_of_ble_eq_true rfl) (show 8 < 60 by decide) (c345 z1) ?_
    refine Ev.istore H372 i372_387 (by decide) (lv2 := (5, .int k0) :: lvB i) rfl ?_
    refine Ev.aload_n H372 i372_389 rfl ?_
    refine CV (As := []) i372_390 cal242 ob11 rfl (Nat.le_of_ble_eq_true rfl) (Nat.le_of_ble_eq_true rfl) (show 38 < 60 by decide) (c242 m1) ?_
    refine Ev.istore H372 i372_393 (by decide) (lv2 := (6, .int v) :: (5, .int k0) :: lvB i) rfl ?_
    exact TLI i372_395 i372_396 i372_399 i372_401 i372_406 i372_408 i372_411 i372_412 i372_413 i372_414 i372_416 i372_417 i372_418 i372_423 (by decide) (by decide) (by decide) (by decide) hc hv k
  have h0 : (0 : Int32).toNatClampNeg = 0 := by decide
  rcases z_law hG with ⟨v, s1, z1, z2, z3⟩ | ⟨x, u, w, c, s1, z1, z2, z4, z5, z6, z3⟩
  · obtain ⟨t, m1, m2, m3, m4⟩ := z3 (sL s1 524 0 v.toInt64) sL_1
    refine ⟨t, G_up m4 (by omega), CN_e (by rw [m2.1, sL_22, z2]), fun r k => walk 0 v (sL s1 524 0 v.toInt64) t r ?_ m1 m3 (fun _ => by rw [m2.2 524 (by omega), sLz_at]) k⟩
    unfold q345
    rw [z1]
    show gA 1 (nI 0) _ = _
    rw [gA_ok (show 0 < 1 by decide) (by omega), sp_e, h0]; rfl
  · obtain ⟨v, t, m1, m2, m3, m4⟩ := z3 (sX s1) rfl
    have hcz : ¬ nI c = 0 := by rw [nI_lit, nI_eqv (by omega) (by omega)]; omega
    refine ⟨t, G_up m4 (by omega), ?_, fun r k => walk (nI c) v (sX s1) t r ?_ m1 m3 (fun q => absurd q hcz) k⟩
    · unfold CN
      rw [m2.1]
      show s1.2.2.2.1 + 1 ≤ _ ∧ s1.2.2.2.2 + 6 ≤ _
      rw [z2]; exact ⟨Nat.le_refl _, Nat.le_refl _⟩
    · unfold q345
      rw [z1]
      exact bC_x z4 z6
theorem i372_426 : mm_cd 372 426 = some (.aload_n 1, 1, 0, 0) := rfl
theorem i372_427 : mm_cd 372 427 = some (.invokevirtual 136, 3, 0, 132) := rfl
theorem i372_430 : mm_cd 372 430 = some (.aload_n 2, 1, 0, 0) := rfl
theorem i372_431 : mm_cd 372 431 = some (.invokevirtual 139, 3, 0, 223) := rfl
theorem i372_434 : mm_cd 372 434 = some (.if_icmp .eq 1948, 3, 0, 0) := rfl
theorem i372_437 : mm_cd 372 437 = some (.iconst 0, 1, 0, 0) := rfl
theorem i372_438 : mm_cd 372 438 = some (.ireturn, 1, 0, 0) := rfl
theorem K4 {L : Nat} {xs : Nat → Int32} {i B : Nat} {s : mS} (hL : L ≤ 3072) (hi : i + 6 ≤ L) (hG : G B s) (hB : B + 60 < 400000000) : KQ L xs i B 426 s := by
  obtain ⟨v, s1, z1, z2, z3⟩ := z_fault hG
  obtain ⟨t, m1, m2, m3⟩ := z3 s1 rfl
  refine ⟨t, G_up m3 (by omega), CN_e (by rw [m2.1, z2]), fun r k => ?_⟩
  refine Ev.aload_n H372 i372_426 rfl ?_
  refine CV (As := []) i372_427 cal132 ob10 rfl (Nat.le_of_ble_eq_true rfl) (Nat.le_of_ble_eq_true rfl) (show 0 < 60 by decide) (c132 z1) ?_
  refine Ev.aload_n H372 i372_430 rfl ?_
  refine CV (As := []) i372_431 cal223 ob11 rfl (Nat.le_of_ble_eq_true rfl) (Nat.le_of_ble_eq_true rfl) (show 0 < 60 by decide) (c223 m1) ?_
  exact Ev.ic_eq H372 i372_434 (by decide) (fun _ => k) (fun e => absurd rfl e)
theorem i372_439 : mm_cd 372 439 = some (.aload_n 1, 1, 0, 0) := rfl
theorem i372_440 : mm_cd 372 440 = some (.aload_n 0, 1, 0, 0) := rfl
theorem i372_441 : mm_cd 372 441 = some (.iload 4, 2, 0, 0) := rfl
theorem i372_443 : mm_cd 372 443 = some (.iconst 1, 1, 0, 0) := rfl
theorem i372_444 : mm_cd 372 444 = some (.iadd, 1, 0, 0) := rfl
theorem i372_445 : mm_cd 372 445 = some (.iaload, 1, 0, 0) := rfl
theorem i372_446 : mm_cd 372 446 = some (.aload_n 0, 1, 0, 0) := rfl
theorem i372_447 : mm_cd 372 447 = some (.iload 4, 2, 0, 0) := rfl
theorem i372_449 : mm_cd 372 449 = some (.iconst 2, 1, 0, 0) := rfl
theorem i372_450 : mm_cd 372 450 = some (.iadd, 1, 0, 0) := rfl
theorem i372_451 : mm_cd 372 451 = some (.iaload, 1, 0, 0) := rfl
theorem i372_452 : mm_cd 372 452 = some (.aload_n 3, 1, 0, 0) := rfl
theorem i372_453 : mm_cd 372 453 = some (.invokestatic 140, 3, 0, 346) := rfl
theorem i372_456 : mm_cd 372 456 = some (.istore 5, 2, 0, 0) := rfl
theorem i372_458 : mm_cd 372 458 = some (.aload_n 2, 1, 0, 0) := rfl
theorem i372_459 : mm_cd 372 459 = some (.aload_n 0, 1, 0, 0) := rfl
theorem i372_460 : mm_cd 372 460 = some (.iload 4, 2, 0, 0) := rfl
theorem i372_462 : mm_cd 372 462 = some (.iconst 1, 1, 0, 0) := rfl
theorem i372_463 : mm_cd 372 463 = some (.iadd, 1, 0, 0) := rfl
theorem i372_464 : mm_cd 372 464 = some (.iaload, 1, 0, 0) := rfl
theorem i372_465 : mm_cd 372 465 = some (.aload_n 0, 1, 0, 0) := rfl
theorem i372_466 : mm_cd 372 466 = some (.iload 4, 2, 0, 0) := rfl
theorem i372_468 : mm_cd 372 468 = some (.iconst 2, 1, 0, 0) := rfl
theorem i372_469 : mm_cd 372 469 = some (.iadd, 1, 0, 0) := rfl
theorem i372_470 : mm_cd 372 470 = some (.iaload, 1, 0, 0) := rfl
theorem i372_471 : mm_cd 372 471 = some (.invokevirtual 143, 3, 0, 276) := rfl
theorem i372_474 : mm_cd 372 474 = some (.istore 6, 2, 0, 0) := rfl
theorem i372_476 : mm_cd 372 476 = some (.aload_n 2, 1, 0, 0) := rfl
theorem i372_477 : mm_cd 372 477 = some (.invokevirtual 130, 3, 0, 187) := rfl
theorem i372_480 : mm_cd 372 480 = some (.iload 5, 2, 0, 0) := rfl
theorem i372_482 : mm_cd 372 482 = some (.if_icmp .eq 5, 3, 0, 0) := rfl
theorem i372_485 : mm_cd 372 485 = some (.iconst 0, 1, 0, 0) := rfl
theorem i372_486 : mm_cd 372 486 = some (.ireturn, 1, 0, 0) := rfl
theorem i372_487 : mm_cd 372 487 = some (.iload 5, 2, 0, 0) := rfl
theorem i372_489 : mm_cd 372 489 = some (.ifCond .ne 15, 3, 0, 0) := rfl
theorem i372_492 : mm_cd 372 492 = some (.aload_n 3, 1, 0, 0) := rfl
theorem i372_493 : mm_cd 372 493 = some (.iconst 0, 1, 0, 0) := rfl
theorem i372_494 : mm_cd 372 494 = some (.laload, 1, 0, 0) := rfl
theorem i372_495 : mm_cd 372 495 = some (.iload 6, 2, 0, 0) := rfl
theorem i372_497 : mm_cd 372 497 = some (.i2l, 1, 0, 0) := rfl
theorem i372_498 : mm_cd 372 498 = some (.lcmp, 1, 0, 0) := rfl
theorem i372_499 : mm_cd 372 499 = some (.ifCond .eq 5, 3, 0, 0) := rfl
theorem i372_502 : mm_cd 372 502 = some (.iconst 0, 1, 0, 0) := rfl
theorem i372_503 : mm_cd 372 503 = some (.ireturn, 1, 0, 0) := rfl
theorem i372_504 : mm_cd 372 504 = some (.goto 1878, 3, 0, 0) := rfl
theorem K5 {L : Nat} {xs : Nat → Int32} {i B : Nat} {s : mS} (hL : L ≤ 3072) (hi : i + 6 ≤ L) (hG : G B s) (hB : B + 60 < 400000000) : KQ L xs i B 439 s := by
  have walk : ∀ (k0 v : Int32) (s1 t : mS) (r : mQ), q346 (xs (i + 1)) (xs (i + 2)) s = some (.inl (some k0), s1) → q276 (xs (i + 1)) (xs (i + 2)) s1 = some (.inl (some v), t) → t.1 512 0 = k0 → (k0 = 0 → t.2.1 524 0 = v.toInt64) → Ev L xs 60 372 2382 (lvB i) [] (hp t) (hr r) → Ev L xs 60 372 439 (lvB i) [] (hp s) (hr r) := fun k0 v s1 t r z1 m1 hc hv k => by
    refine Ev.aload_n H372 i372_439 rfl ?_
    refine LD (j := 1) i372_440 i372_441 i372_443 i372_444 i372_445 (by decide) rfl rfl hL (by omega) ?_
    refine LD (j := 2) i372_446 i372_447 i372_449 i372_450 i372_451 (by decide) rfl rfl hL (by omega) ?_
    refine Ev.aload_n H372 i372_452 rfl ?_
    refine CSt (As := [.ref 0, .int (xs (i + 1)), .int (xs (i + 2)), .ref 524]) i372_453 cal346 rfl (Nat.le_of_ble_eq_true rfl) (Nat.le_of_ble_eq_true rfl) (show 4 < 60 by decide) (c346 z1) ?_
    refine Ev.istore H372 i372_456 (by decide) (lv2 := (5, .int k0) :: lvB i) rfl ?_
    refine Ev.aload_n H372 i372_458 rfl ?_
    refine LD (j := 1) i372_459 i372_460 i372_462 i372_463 i372_464 (by decide) rfl rfl hL (by omega) ?_
    refine LD (j := 2) i372_465 i372_466 i372_468 i372_469 i372_470 (by decide) rfl rfl hL (by omega) ?_
    refine CV (As := [.int (xs (i + 1)), .int (xs (i + 2))]) i372_471 cal276 ob11 rfl (Nat.le_of_ble_eq_true rfl) (Nat.le_of_ble_eq_true rfl) (show 8 < 60 by decide) (c276 m1) ?_
    refine Ev.istore H372 i372_474 (by decide) (lv2 := (6, .int v) :: (5, .int k0) :: lvB i) rfl ?_
    exact TLI i372_476 i372_477 i372_480 i372_482 i372_487 i372_489 i372_492 i372_493 i372_494 i372_495 i372_497 i372_498 i372_499 i372_504 (by decide) (by decide) (by decide) (by decide) hc hv k
  have h0 : (0 : Int32).toNatClampNeg = 0 := by decide
  rcases z_slot hG (xs (i + 1)) (xs (i + 2)) with ⟨v, s1, z1, z2, z3⟩ | ⟨x, u, w, c, s1, z1, z2, z4, z5, z6, z3⟩
  · obtain ⟨t, m1, m2, m3, m4⟩ := z3 (sL s1 524 0 v.toInt64) sL_1
    refine ⟨t, G_up m4 (by omega), CN_e (by rw [m2.1, sL_22, z2]), fun r k => walk 0 v (sL s1 524 0 v.toInt64) t r ?_ m1 m3 (fun _ => by rw [m2.2 524 (by omega), sLz_at]) k⟩
    unfold q346
    rw [z1]
    show gA 1 (nI 0) _ = _
    rw [gA_ok (show 0 < 1 by decide) (by omega), sp_e, h0]; rfl
  · obtain ⟨v, t, m1, m2, m3, m4⟩ := z3 (sX s1) rfl
    have hcz : ¬ nI c = 0 := by rw [nI_lit, nI_eqv (by omega) (by omega)]; omega
    refine ⟨t, G_up m4 (by omega), ?_, fun r k => walk (nI c) v (sX s1) t r ?_ m1 m3 (fun q => absurd q hcz) k⟩
    · unfold CN
      rw [m2.1]
      show s1.2.2.2.1 + 1 ≤ _ ∧ s1.2.2.2.2 + 6 ≤ _
      rw [z2]; exact ⟨Nat.le_refl _, Nat.le_refl _⟩
    · unfold q346
      rw [z1]
      exact bC_x z4 z6
theorem i372_507 : mm_cd 372 507 = some (.aload_n 1, 1, 0, 0) := rfl
theorem i372_508 : mm_cd 372 508 = some (.aload_n 0, 1, 0, 0) := rfl
theorem i372_509 : mm_cd 372 509 = some (.iload 4, 2, 0, 0) := rfl
theorem i372_511 : mm_cd 372 511 = some (.iconst 1, 1, 0, 0) := rfl
theorem i372_512 : mm_cd 372 512 = some (.iadd, 1, 0, 0) := rfl
theorem i372_513 : mm_cd 372 513 = some (.iaload, 1, 0, 0) := rfl
theorem i372_514 : mm_cd 372 514 = some (.aload_n 0, 1, 0, 0) := rfl
theorem i372_515 : mm_cd 372 515 = some (.iload 4, 2, 0, 0) := rfl
theorem i372_517 : mm_cd 372 517 = some (.iconst 2, 1, 0, 0) := rfl
theorem i372_518 : mm_cd 372 518 = some (.iadd, 1, 0, 0) := rfl
theorem i372_519 : mm_cd 372 519 = some (.iaload, 1, 0, 0) := rfl
theorem i372_520 : mm_cd 372 520 = some (.aload_n 3, 1, 0, 0) := rfl
theorem i372_521 : mm_cd 372 521 = some (.invokestatic 144, 3, 0, 347) := rfl
theorem i372_524 : mm_cd 372 524 = some (.istore 5, 2, 0, 0) := rfl
theorem i372_526 : mm_cd 372 526 = some (.aload_n 2, 1, 0, 0) := rfl
theorem i372_527 : mm_cd 372 527 = some (.aload_n 0, 1, 0, 0) := rfl
theorem i372_528 : mm_cd 372 528 = some (.iload 4, 2, 0, 0) := rfl
theorem i372_530 : mm_cd 372 530 = some (.iconst 1, 1, 0, 0) := rfl
theorem i372_531 : mm_cd 372 531 = some (.iadd, 1, 0, 0) := rfl
theorem i372_532 : mm_cd 372 532 = some (.iaload, 1, 0, 0) := rfl
theorem i372_533 : mm_cd 372 533 = some (.aload_n 0, 1, 0, 0) := rfl
theorem i372_534 : mm_cd 372 534 = some (.iload 4, 2, 0, 0) := rfl
theorem i372_536 : mm_cd 372 536 = some (.iconst 2, 1, 0, 0) := rfl
theorem i372_537 : mm_cd 372 537 = some (.iadd, 1, 0, 0) := rfl
theorem i372_538 : mm_cd 372 538 = some (.iaload, 1, 0, 0) := rfl
theorem i372_539 : mm_cd 372 539 = some (.invokevirtual 146, 3, 0, 277) := rfl
theorem i372_542 : mm_cd 372 542 = some (.istore 6, 2, 0, 0) := rfl
theorem i372_544 : mm_cd 372 544 = some (.aload_n 2, 1, 0, 0) := rfl
theorem i372_545 : mm_cd 372 545 = some (.invokevirtual 130, 3, 0, 187) := rfl
theorem i372_548 : mm_cd 372 548 = some (.iload 5, 2, 0, 0) := rfl
theorem i372_550 : mm_cd 372 550 = some (.if_icmp .eq 5, 3, 0, 0) := rfl
theorem i372_553 : mm_cd 372 553 = some (.iconst 0, 1, 0, 0) := rfl
theorem i372_554 : mm_cd 372 554 = some (.ireturn, 1, 0, 0) := rfl
theorem i372_555 : mm_cd 372 555 = some (.iload 5, 2, 0, 0) := rfl
theorem i372_557 : mm_cd 372 557 = some (.ifCond .ne 15, 3, 0, 0) := rfl
theorem i372_560 : mm_cd 372 560 = some (.aload_n 3, 1, 0, 0) := rfl
theorem i372_561 : mm_cd 372 561 = some (.iconst 0, 1, 0, 0) := rfl
theorem i372_562 : mm_cd 372 562 = some (.laload, 1, 0, 0) := rfl
theorem i372_563 : mm_cd 372 563 = some (.iload 6, 2, 0, 0) := rfl
theorem i372_565 : mm_cd 372 565 = some (.i2l, 1, 0, 0) := rfl
theorem i372_566 : mm_cd 372 566 = some (.lcmp, 1, 0, 0) := rfl
theorem i372_567 : mm_cd 372 567 = some (.ifCond .eq 5, 3, 0, 0) := rfl
theorem i372_570 : mm_cd 372 570 = some (.iconst 0, 1, 0, 0) := rfl
theorem i372_571 : mm_cd 372 571 = some (.ireturn, 1, 0, 0) := rfl
theorem i372_572 : mm_cd 372 572 = some (.goto 1810, 3, 0, 0) := rfl
theorem K6 {L : Nat} {xs : Nat → Int32} {i B : Nat} {s : mS} (hL : L ≤ 3072) (hi : i + 6 ≤ L) (hG : G B s) (hB : B + 60 < 400000000) : KQ L xs i B 507 s := by
  have walk : ∀ (k0 v : Int32) (s1 t : mS) (r : mQ), q347 (xs (i + 1)) (xs (i + 2)) s = some (.inl (some k0), s1) → q277 (xs (i + 1)) (xs (i + 2)) s1 = some (.inl (some v), t) → t.1 512 0 = k0 → (k0 = 0 → t.2.1 524 0 = v.toInt64) → Ev L xs 60 372 2382 (lvB i) [] (hp t) (hr r) → Ev L xs 60 372 507 (lvB i) [] (hp s) (hr r) := fun k0 v s1 t r z1 m1 hc hv k => by
    refine Ev.aload_n H372 i372_507 rfl ?_
    refine LD (j := 1) i372_508 i372_509 i372_511 i372_512 i372_513 (by decide) rfl rfl hL (by omega) ?_
    refine LD (j := 2) i372_514 i372_515 i372_517 i372_518 i372_519 (by decide) rfl rfl hL (by omega) ?_
    refine Ev.aload_n H372 i372_520 rfl ?_
    refine CSt (As := [.ref 0, .int (xs (i + 1)), .int (xs (i + 2)), .ref 524]) i372_521 cal347 rfl (Nat.le_of_ble_eq_true rfl) (Nat.le_of_ble_eq_true rfl) (show 2 < 60 by decide) (c347 z1) ?_
    refine Ev.istore H372 i372_524 (by decide) (lv2 := (5, .int k0) :: lvB i) rfl ?_
    refine Ev.aload_n H372 i372_526 rfl ?_
    refine LD (j := 1) i372_527 i372_528 i372_530 i372_531 i372_532 (by decide) rfl rfl hL (by omega) ?_
    refine LD (j := 2) i372_533 i372_534 i372_536 i372_537 i372_538 (by decide) rfl rfl hL (by omega) ?_
    refine CV (As := [.int (xs (i + 1)), .int (xs (i + 2))]) i372_539 cal277 ob11 rfl (Nat.le_of_ble_eq_true rfl) (Nat.le_of_ble_eq_true rfl) (show 2 < 60 by decide) (c277 m1) ?_
    refine Ev.istore H372 i372_542 (by decide) (lv2 := (6, .int v) :: (5, .int k0) :: lvB i) rfl ?_
    exact TLI i372_544 i372_545 i372_548 i372_550 i372_555 i372_557 i372_560 i372_561 i372_562 i372_563 i372_565 i372_566 i372_567 i372_572 (by decide) (by decide) (by decide) (by decide) hc hv k
  have h0 : (0 : Int32).toNatClampNeg = 0 := by decide
  rcases z_seen hG (xs (i + 1)) (xs (i + 2)) with ⟨v, s1, z1, z2, z3⟩ | ⟨x, u, w, c, s1, z1, z2, z4, z5, z6, z3⟩
  · obtain ⟨t, m1, m2, m3, m4⟩ := z3 (sL s1 524 0 v.toInt64) sL_1
    refine ⟨t, G_up m4 (by omega), CN_e (by rw [m2.1, sL_22, z2]), fun r k => walk 0 v (sL s1 524 0 v.toInt64) t r ?_ m1 m3 (fun _ => by rw [m2.2 524 (by omega), sLz_at]) k⟩
    unfold q347
    rw [z1]
    show gA 1 (nI 0) _ = _
    rw [gA_ok (show 0 < 1 by decide) (by omega), sp_e, h0]; rfl
  · obtain ⟨v, t, m1, m2, m3, m4⟩ := z3 (sX s1) rfl
    have hcz : ¬ nI c = 0 := by rw [nI_lit, nI_eqv (by omega) (by omega)]; omega
    refine ⟨t, G_up m4 (by omega), ?_, fun r k => walk (nI c) v (sX s1) t r ?_ m1 m3 (fun q => absurd q hcz) k⟩
    · unfold CN
      rw [m2.1]
      show s1.2.2.2.1 + 1 ≤ _ ∧ s1.2.2.2.2 + 6 ≤ _
      rw [z2]; exact ⟨Nat.le_refl _, Nat.le_refl _⟩
    · unfold q347
      rw [z1]
      exact bC_x z4 z6
theorem i372_575 : mm_cd 372 575 = some (.aload_n 1, 1, 0, 0) := rfl
theorem i372_576 : mm_cd 372 576 = some (.aload_n 0, 1, 0, 0) := rfl
theorem i372_577 : mm_cd 372 577 = some (.iload 4, 2, 0, 0) := rfl
theorem i372_579 : mm_cd 372 579 = some (.iconst 1, 1, 0, 0) := rfl
theorem i372_580 : mm_cd 372 580 = some (.iadd, 1, 0, 0) := rfl
theorem i372_581 : mm_cd 372 581 = some (.iaload, 1, 0, 0) := rfl
theorem i372_582 : mm_cd 372 582 = some (.aload_n 0, 1, 0, 0) := rfl
theorem i372_583 : mm_cd 372 583 = some (.iload 4, 2, 0, 0) := rfl
theorem i372_585 : mm_cd 372 585 = some (.iconst 2, 1, 0, 0) := rfl
theorem i372_586 : mm_cd 372 586 = some (.iadd, 1, 0, 0) := rfl
theorem i372_587 : mm_cd 372 587 = some (.iaload, 1, 0, 0) := rfl
theorem i372_588 : mm_cd 372 588 = some (.aload_n 3, 1, 0, 0) := rfl
theorem i372_589 : mm_cd 372 589 = some (.invokestatic 147, 3, 0, 348) := rfl
theorem i372_592 : mm_cd 372 592 = some (.istore 5, 2, 0, 0) := rfl
theorem i372_594 : mm_cd 372 594 = some (.aload_n 2, 1, 0, 0) := rfl
theorem i372_595 : mm_cd 372 595 = some (.aload_n 0, 1, 0, 0) := rfl
theorem i372_596 : mm_cd 372 596 = some (.iload 4, 2, 0, 0) := rfl
theorem i372_598 : mm_cd 372 598 = some (.iconst 1, 1, 0, 0) := rfl
theorem i372_599 : mm_cd 372 599 = some (.iadd, 1, 0, 0) := rfl
theorem i372_600 : mm_cd 372 600 = some (.iaload, 1, 0, 0) := rfl
theorem i372_601 : mm_cd 372 601 = some (.aload_n 0, 1, 0, 0) := rfl
theorem i372_602 : mm_cd 372 602 = some (.iload 4, 2, 0, 0) := rfl
theorem i372_604 : mm_cd 372 604 = some (.iconst 2, 1, 0, 0) := rfl
theorem i372_605 : mm_cd 372 605 = some (.iadd, 1, 0, 0) := rfl
theorem i372_606 : mm_cd 372 606 = some (.iaload, 1, 0, 0) := rfl
theorem i372_607 : mm_cd 372 607 = some (.invokevirtual 149, 3, 0, 278) := rfl
theorem i372_610 : mm_cd 372 610 = some (.istore 6, 2, 0, 0) := rfl
theorem i372_612 : mm_cd 372 612 = some (.aload_n 2, 1, 0, 0) := rfl
theorem i372_613 : mm_cd 372 613 = some (.invokevirtual 130, 3, 0, 187) := rfl
theorem i372_616 : mm_cd 372 616 = some (.iload 5, 2, 0, 0) := rfl
theorem i372_618 : mm_cd 372 618 = some (.if_icmp .eq 5, 3, 0, 0) := rfl
theorem i372_621 : mm_cd 372 621 = some (.iconst 0, 1, 0, 0) := rfl
theorem i372_622 : mm_cd 372 622 = some (.ireturn, 1, 0, 0) := rfl
theorem i372_623 : mm_cd 372 623 = some (.iload 5, 2, 0, 0) := rfl
theorem i372_625 : mm_cd 372 625 = some (.ifCond .ne 15, 3, 0, 0) := rfl
theorem i372_628 : mm_cd 372 628 = some (.aload_n 3, 1, 0, 0) := rfl
theorem i372_629 : mm_cd 372 629 = some (.iconst 0, 1, 0, 0) := rfl
theorem i372_630 : mm_cd 372 630 = some (.laload, 1, 0, 0) := rfl
theorem i372_631 : mm_cd 372 631 = some (.iload 6, 2, 0, 0) := rfl
theorem i372_633 : mm_cd 372 633 = some (.i2l, 1, 0, 0) := rfl
theorem i372_634 : mm_cd 372 634 = some (.lcmp, 1, 0, 0) := rfl
theorem i372_635 : mm_cd 372 635 = some (.ifCond .eq 5, 3, 0, 0) := rfl
theorem i372_638 : mm_cd 372 638 = some (.iconst 0, 1, 0, 0) := rfl
theorem i372_639 : mm_cd 372 639 = some (.ireturn, 1, 0, 0) := rfl
theorem i372_640 : mm_cd 372 640 = some (.goto 1742, 3, 0, 0) := rfl
theorem K7 {L : Nat} {xs : Nat → Int32} {i B : Nat} {s : mS} (hL : L ≤ 3072) (hi : i + 6 ≤ L) (hG : G B s) (hB : B + 60 < 400000000) : KQ L xs i B 575 s := by
  have walk : ∀ (k0 v : Int32) (s1 t : mS) (r : mQ), q348 (xs (i + 1)) (xs (i + 2)) s = some (.inl (some k0), s1) → q278 (xs (i + 1)) (xs (i + 2)) s1 = some (.inl (some v), t) → t.1 512 0 = k0 → (k0 = 0 → t.2.1 524 0 = v.toInt64) → Ev L xs 60 372 2382 (lvB i) [] (hp t) (hr r) → Ev L xs 60 372 575 (lvB i) [] (hp s) (hr r) := fun k0 v s1 t r z1 m1 hc hv k => by
    refine Ev.aload_n H372 i372_575 rfl ?_
    refine LD (j := 1) i372_576 i372_577 i372_579 i372_580 i372_581 (by decide) rfl rfl hL (by omega) ?_
    refine LD (j := 2) i372_582 i372_583 i372_585 i372_586 i372_587 (by decide) rfl rfl hL (by omega) ?_
    refine Ev.aload_n H372 i372_588 rfl ?_
    refine CSt (As := [.ref 0, .int (xs (i + 1)), .int (xs (i + 2)), .ref 524]) i372_589 cal348 rfl (Nat.le_of_ble_eq_true rfl) (Nat.le_of_ble_eq_true rfl) (show 2 < 60 by decide) (c348 z1) ?_
    refine Ev.istore H372 i372_592 (by decide) (lv2 := (5, .int k0) :: lvB i) rfl ?_
    refine Ev.aload_n H372 i372_594 rfl ?_
    refine LD (j := 1) i372_595 i372_596 i372_598 i372_599 i372_600 (by decide) rfl rfl hL (by omega) ?_
    refine LD (j := 2) i372_601 i372_602 i372_604 i372_605 i372_606 (by decide) rfl rfl hL (by omega) ?_
    refine CV (As := [.int (xs (i + 1)), .int (xs (i + 2))]) i372_607 cal278 ob11 rfl (Nat.le_of_ble_eq_true rfl) (Nat.le_of_ble_eq_true rfl) (show 4 < 60 by decide) (c278 m1) ?_
    refine Ev.istore H372 i372_610 (by decide) (lv2 := (6, .int v) :: (5, .int k0) :: lvB i) rfl ?_
    exact TLI i372_612 i372_613 i372_616 i372_618 i372_623 i372_625 i372_628 i372_629 i372_630 i372_631 i372_633 i372_634 i372_635 i372_640 (by decide) (by decide) (by decide) (by decide) hc hv k
  have h0 : (0 : Int32).toNatClampNeg = 0 := by decide
  rcases z_key hG (xs (i + 1)) (xs (i + 2)) with ⟨v, s1, z1, z2, z3⟩ | ⟨x, u, w, c, s1, z1, z2, z4, z5, z6, z3⟩
  · obtain ⟨t, m1, m2, m3, m4⟩ := z3 (sL s1 524 0 v.toInt64) sL_1
    refine ⟨t, G_up m4 (by omega), CN_e (by rw [m2.1, sL_22, z2]), fun r k => walk 0 v (sL s1 524 0 v.toInt64) t r ?_ m1 m3 (fun _ => by rw [m2.2 524 (by omega), sLz_at]) k⟩
    unfold q348
    rw [z1]
    show gA 1 (nI 0) _ = _
    rw [gA_ok (show 0 < 1 by decide) (by omega), sp_e, h0]; rfl
  · obtain ⟨v, t, m1, m2, m3, m4⟩ := z3 (sX s1) rfl
    have hcz : ¬ nI c = 0 := by rw [nI_lit, nI_eqv (by omega) (by omega)]; omega
    refine ⟨t, G_up m4 (by omega), ?_, fun r k => walk (nI c) v (sX s1) t r ?_ m1 m3 (fun q => absurd q hcz) k⟩
    · unfold CN
      rw [m2.1]
      show s1.2.2.2.1 + 1 ≤ _ ∧ s1.2.2.2.2 + 6 ≤ _
      rw [z2]; exact ⟨Nat.le_refl _, Nat.le_refl _⟩
    · unfold q348
      rw [z1]
      exact bC_x z4 z6
theorem i372_643 : mm_cd 372 643 = some (.aload_n 1, 1, 0, 0) := rfl
theorem i372_644 : mm_cd 372 644 = some (.aload_n 0, 1, 0, 0) := rfl
theorem i372_645 : mm_cd 372 645 = some (.iload 4, 2, 0, 0) := rfl
theorem i372_647 : mm_cd 372 647 = some (.iconst 1, 1, 0, 0) := rfl
theorem i372_648 : mm_cd 372 648 = some (.iadd, 1, 0, 0) := rfl
theorem i372_649 : mm_cd 372 649 = some (.iaload, 1, 0, 0) := rfl
theorem i372_650 : mm_cd 372 650 = some (.aload_n 0, 1, 0, 0) := rfl
theorem i372_651 : mm_cd 372 651 = some (.iload 4, 2, 0, 0) := rfl
theorem i372_653 : mm_cd 372 653 = some (.iconst 2, 1, 0, 0) := rfl
theorem i372_654 : mm_cd 372 654 = some (.iadd, 1, 0, 0) := rfl
theorem i372_655 : mm_cd 372 655 = some (.iaload, 1, 0, 0) := rfl
theorem i372_656 : mm_cd 372 656 = some (.aload_n 3, 1, 0, 0) := rfl
theorem i372_657 : mm_cd 372 657 = some (.invokestatic 150, 3, 0, 349) := rfl
theorem i372_660 : mm_cd 372 660 = some (.istore 5, 2, 0, 0) := rfl
theorem i372_662 : mm_cd 372 662 = some (.aload_n 2, 1, 0, 0) := rfl
theorem i372_663 : mm_cd 372 663 = some (.aload_n 0, 1, 0, 0) := rfl
theorem i372_664 : mm_cd 372 664 = some (.iload 4, 2, 0, 0) := rfl
theorem i372_666 : mm_cd 372 666 = some (.iconst 1, 1, 0, 0) := rfl
theorem i372_667 : mm_cd 372 667 = some (.iadd, 1, 0, 0) := rfl
theorem i372_668 : mm_cd 372 668 = some (.iaload, 1, 0, 0) := rfl
theorem i372_669 : mm_cd 372 669 = some (.aload_n 0, 1, 0, 0) := rfl
theorem i372_670 : mm_cd 372 670 = some (.iload 4, 2, 0, 0) := rfl
theorem i372_672 : mm_cd 372 672 = some (.iconst 2, 1, 0, 0) := rfl
theorem i372_673 : mm_cd 372 673 = some (.iadd, 1, 0, 0) := rfl
theorem i372_674 : mm_cd 372 674 = some (.iaload, 1, 0, 0) := rfl
theorem i372_675 : mm_cd 372 675 = some (.invokevirtual 152, 3, 0, 280) := rfl
theorem i372_678 : mm_cd 372 678 = some (.istore 6, 2, 0, 0) := rfl
theorem i372_680 : mm_cd 372 680 = some (.aload_n 2, 1, 0, 0) := rfl
theorem i372_681 : mm_cd 372 681 = some (.invokevirtual 130, 3, 0, 187) := rfl
theorem i372_684 : mm_cd 372 684 = some (.iload 5, 2, 0, 0) := rfl
theorem i372_686 : mm_cd 372 686 = some (.if_icmp .eq 5, 3, 0, 0) := rfl
theorem i372_689 : mm_cd 372 689 = some (.iconst 0, 1, 0, 0) := rfl
theorem i372_690 : mm_cd 372 690 = some (.ireturn, 1, 0, 0) := rfl
theorem i372_691 : mm_cd 372 691 = some (.iload 5, 2, 0, 0) := rfl
theorem i372_693 : mm_cd 372 693 = some (.ifCond .ne 15, 3, 0, 0) := rfl
theorem i372_696 : mm_cd 372 696 = some (.aload_n 3, 1, 0, 0) := rfl
theorem i372_697 : mm_cd 372 697 = some (.iconst 0, 1, 0, 0) := rfl
theorem i372_698 : mm_cd 372 698 = some (.laload, 1, 0, 0) := rfl
theorem i372_699 : mm_cd 372 699 = some (.iload 6, 2, 0, 0) := rfl
theorem i372_701 : mm_cd 372 701 = some (.i2l, 1, 0, 0) := rfl
theorem i372_702 : mm_cd 372 702 = some (.lcmp, 1, 0, 0) := rfl
theorem i372_703 : mm_cd 372 703 = some (.ifCond .eq 5, 3, 0, 0) := rfl
theorem i372_706 : mm_cd 372 706 = some (.iconst 0, 1, 0, 0) := rfl
theorem i372_707 : mm_cd 372 707 = some (.ireturn, 1, 0, 0) := rfl
theorem i372_708 : mm_cd 372 708 = some (.goto 1674, 3, 0, 0) := rfl
theorem K8 {L : Nat} {xs : Nat → Int32} {i B : Nat} {s : mS} (hL : L ≤ 3072) (hi : i + 6 ≤ L) (hG : G B s) (hB : B + 60 < 400000000) : KQ L xs i B 643 s := by
  have walk : ∀ (k0 v : Int32) (s1 t : mS) (r : mQ), q349 (xs (i + 1)) (xs (i + 2)) s = some (.inl (some k0), s1) → q280 (xs (i + 1)) (xs (i + 2)) s1 = some (.inl (some v), t) → t.1 512 0 = k0 → (k0 = 0 → t.2.1 524 0 = v.toInt64) → Ev L xs 60 372 2382 (lvB i) [] (hp t) (hr r) → Ev L xs 60 372 643 (lvB i) [] (hp s) (hr r) := fun k0 v s1 t r z1 m1 hc hv k => by
    refine Ev.aload_n H372 i372_643 rfl ?_
    refine LD (j := 1) i372_644 i372_645 i372_647 i372_648 i372_649 (by decide) rfl rfl hL (by omega) ?_
    refine LD (j := 2) i372_650 i372_651 i372_653 i372_654 i372_655 (by decide) rfl rfl hL (by omega) ?_
    refine Ev.aload_n H372 i372_656 rfl ?_
    refine CSt (As := [.ref 0, .int (xs (i + 1)), .int (xs (i + 2)), .ref 524]) i372_657 cal349 rfl (Nat.le_of_ble_eq_true rfl) (Nat.le_of_ble_eq_true rfl) (show 14 < 60 by decide) (c349 z1) ?_
    refine Ev.istore H372 i372_660 (by decide) (lv2 := (5, .int k0) :: lvB i) rfl ?_
    refine Ev.aload_n H372 i372_662 rfl ?_
    refine LD (j := 1) i372_663 i372_664 i372_666 i372_667 i372_668 (by decide) rfl rfl hL (by omega) ?_
    refine LD (j := 2) i372_669 i372_670 i372_672 i372_673 i372_674 (by decide) rfl rfl hL (by omega) ?_
    refine CV (As := [.int (xs (i + 1)), .int (xs (i + 2))]) i372_675 cal280 ob11 rfl (Nat.le_of_ble_eq_true rfl) (Nat.le_of_ble_eq_true rfl) (show 6 < 60 by decide) (c280 m1) ?_
    refine Ev.istore H372 i372_678 (by decide) (lv2 := (6, .int v) :: (5, .int k0) :: lvB i) rfl ?_
    exact TLI i372_680 i372_681 i372_684 i372_686 i372_691 i372_693 i372_696 i372_697 i372_698 i372_699 i372_701 i372_702 i372_703 i372_708 (by decide) (by decide) (by decide) (by decide) hc hv k
  have h0 : (0 : Int32).toNatClampNeg = 0 := by decide
  rcases z_client hG (xs (i + 1)) (xs (i + 2)) with ⟨v, s1, z1, z2, z3⟩ | ⟨x, u, w, c, s1, z1, z2, z4, z5, z6, z3⟩
  · obtain ⟨t, m1, m2, m3, m4⟩ := z3 (sL s1 524 0 v.toInt64) sL_1
    refine ⟨t, G_up m4 (by omega), CN_e (by rw [m2.1, sL_22, z2]), fun r k => walk 0 v (sL s1 524 0 v.toInt64) t r ?_ m1 m3 (fun _ => by rw [m2.2 524 (by omega), sLz_at]) k⟩
    unfold q349
    rw [z1]
    show gA 1 (nI 0) _ = _
    rw [gA_ok (show 0 < 1 by decide) (by omega), sp_e, h0]; rfl
  · obtain ⟨v, t, m1, m2, m3, m4⟩ := z3 (sX s1) rfl
    have hcz : ¬ nI c = 0 := by rw [nI_lit, nI_eqv (by omega) (by omega)]; omega
    refine ⟨t, G_up m4 (by omega), ?_, fun r k => walk (nI c) v (sX s1) t r ?_ m1 m3 (fun q => absurd q hcz) k⟩
    · unfold CN
      rw [m2.1]
      show s1.2.2.2.1 + 1 ≤ _ ∧ s1.2.2.2.2 + 6 ≤ _
      rw [z2]; exact ⟨Nat.le_refl _, Nat.le_refl _⟩
    · unfold q349
      rw [z1]
      exact bC_x z4 z6
theorem i372_711 : mm_cd 372 711 = some (.aload_n 1, 1, 0, 0) := rfl
theorem i372_712 : mm_cd 372 712 = some (.aload_n 0, 1, 0, 0) := rfl
theorem i372_713 : mm_cd 372 713 = some (.iload 4, 2, 0, 0) := rfl
theorem i372_715 : mm_cd 372 715 = some (.iconst 1, 1, 0, 0) := rfl
theorem i372_716 : mm_cd 372 716 = some (.iadd, 1, 0, 0) := rfl
theorem i372_717 : mm_cd 372 717 = some (.iaload, 1, 0, 0) := rfl
theorem i372_718 : mm_cd 372 718 = some (.aload_n 3, 1, 0, 0) := rfl
theorem i372_719 : mm_cd 372 719 = some (.invokestatic 153, 3, 0, 350) := rfl
theorem i372_722 : mm_cd 372 722 = some (.istore 5, 2, 0, 0) := rfl
theorem i372_724 : mm_cd 372 724 = some (.aload_n 2, 1, 0, 0) := rfl
theorem i372_725 : mm_cd 372 725 = some (.aload_n 0, 1, 0, 0) := rfl
theorem i372_726 : mm_cd 372 726 = some (.iload 4, 2, 0, 0) := rfl
theorem i372_728 : mm_cd 372 728 = some (.iconst 1, 1, 0, 0) := rfl
theorem i372_729 : mm_cd 372 729 = some (.iadd, 1, 0, 0) := rfl
theorem i372_730 : mm_cd 372 730 = some (.iaload, 1, 0, 0) := rfl
theorem i372_731 : mm_cd 372 731 = some (.invokevirtual 156, 3, 0, 281) := rfl
theorem i372_734 : mm_cd 372 734 = some (.istore 6, 2, 0, 0) := rfl
theorem i372_736 : mm_cd 372 736 = some (.aload_n 2, 1, 0, 0) := rfl
theorem i372_737 : mm_cd 372 737 = some (.invokevirtual 130, 3, 0, 187) := rfl
theorem i372_740 : mm_cd 372 740 = some (.iload 5, 2, 0, 0) := rfl
theorem i372_742 : mm_cd 372 742 = some (.if_icmp .eq 5, 3, 0, 0) := rfl
theorem i372_745 : mm_cd 372 745 = some (.iconst 0, 1, 0, 0) := rfl
theorem i372_746 : mm_cd 372 746 = some (.ireturn, 1, 0, 0) := rfl
theorem i372_747 : mm_cd 372 747 = some (.iload 5, 2, 0, 0) := rfl
theorem i372_749 : mm_cd 372 749 = some (.ifCond .ne 15, 3, 0, 0) := rfl
theorem i372_752 : mm_cd 372 752 = some (.aload_n 3, 1, 0, 0) := rfl
theorem i372_753 : mm_cd 372 753 = some (.iconst 0, 1, 0, 0) := rfl
theorem i372_754 : mm_cd 372 754 = some (.laload, 1, 0, 0) := rfl
theorem i372_755 : mm_cd 372 755 = some (.iload 6, 2, 0, 0) := rfl
theorem i372_757 : mm_cd 372 757 = some (.i2l, 1, 0, 0) := rfl
theorem i372_758 : mm_cd 372 758 = some (.lcmp, 1, 0, 0) := rfl
theorem i372_759 : mm_cd 372 759 = some (.ifCond .eq 5, 3, 0, 0) := rfl
theorem i372_762 : mm_cd 372 762 = some (.iconst 0, 1, 0, 0) := rfl
theorem i372_763 : mm_cd 372 763 = some (.ireturn, 1, 0, 0) := rfl
theorem i372_764 : mm_cd 372 764 = some (.goto 1618, 3, 0, 0) := rfl
theorem K9 {L : Nat} {xs : Nat → Int32} {i B : Nat} {s : mS} (hL : L ≤ 3072) (hi : i + 6 ≤ L) (hG : G B s) (hB : B + 60 < 400000000) : KQ L xs i B 711 s := by
  have walk : ∀ (k0 v : Int32) (s1 t : mS) (r : mQ), q350 (xs (i + 1)) s = some (.inl (some k0), s1) → q281 (xs (i + 1)) s1 = some (.inl (some v), t) → t.1 512 0 = k0 → (k0 = 0 → t.2.1 524 0 = v.toInt64) → Ev L xs 60 372 2382 (lvB i) [] (hp t) (hr r) → Ev L xs 60 372 711 (lvB i) [] (hp s) (hr r) := fun k0 v s1 t r z1 m1 hc hv k => by
    refine Ev.aload_n H372 i372_711 rfl ?_
    refine LD (j := 1) i372_712 i372_713 i372_715 i372_716 i372_717 (by decide) rfl rfl hL (by omega) ?_
    refine Ev.aload_n H372 i372_718 rfl ?_
    refine CSt (As := [.ref 0, .int (xs (i + 1)), .ref 524]) i372_719 cal350 rfl (Nat.le_of_ble_eq_true rfl) (Nat.le_of_ble_eq_true rfl) (show 8 < 60 by decide) (c350 z1) ?_
    refine Ev.istore H372 i372_722 (by decide) (lv2 := (5, .int k0) :: lvB i) rfl ?_
    refine Ev.aload_n H372 i372_724 rfl ?_
    refine LD (j := 1) i372_725 i372_726 i372_728 i372_729 i372_730 (by decide) rfl rfl hL (by omega) ?_
    refine CV (As := [.int (xs (i + 1))]) i372_731 cal281 ob11 rfl (Nat.le_of_ble_eq_true rfl) (Nat.le_of_ble_eq_true rfl) (show 13 < 60 by decide) (c281 m1) ?_
    refine Ev.istore H372 i372_734 (by decide) (lv2 := (6, .int v) :: (5, .int k0) :: lvB i) rfl ?_
    exact TLI i372_736 i372_737 i372_740 i372_742 i372_747 i372_749 i372_752 i372_753 i372_754 i372_755 i372_757 i372_758 i372_759 i372_764 (by decide) (by decide) (by decide) (by decide) hc hv k
  have h0 : (0 : Int32).toNatClampNeg = 0 := by decide
  rcases z_ticks hG (by omega) (xs (i + 1)) with ⟨v, s1, z1, z2, z3⟩ | ⟨x, u, w, c, s1, z1, z2, z4, z5, z6, z3⟩
  · obtain ⟨t, m1, m2, m3, m4⟩ := z3 (sL s1 524 0 v.toInt64) sL_1
    refine ⟨t, G_up m4 (by omega), CN_e (by rw [m2.1, sL_22, z2]), fun r k => walk 0 v (sL s1 524 0 v.toInt64) t r ?_ m1 m3 (fun _ => by rw [m2.2 524 (by omega), sLz_at]) k⟩
    unfold q350
    rw [z1]
    show gA 1 (nI 0) _ = _
    rw [gA_ok (show 0 < 1 by decide) (by omega), sp_e, h0]; rfl
  · obtain ⟨v, t, m1, m2, m3, m4⟩ := z3 (sX s1) rfl
    have hcz : ¬ nI c = 0 := by rw [nI_lit, nI_eqv (by omega) (by omega)]; omega
    refine ⟨t, G_up m4 (by omega), ?_, fun r k => walk (nI c) v (sX s1) t r ?_ m1 m3 (fun q => absurd q hcz) k⟩
    · unfold CN
      rw [m2.1]
      show s1.2.2.2.1 + 1 ≤ _ ∧ s1.2.2.2.2 + 6 ≤ _
      rw [z2]; exact ⟨Nat.le_refl _, Nat.le_refl _⟩
    · unfold q350
      rw [z1]
      exact bC_x z4 z6
theorem i372_767 : mm_cd 372 767 = some (.aload_n 1, 1, 0, 0) := rfl
theorem i372_768 : mm_cd 372 768 = some (.aload_n 0, 1, 0, 0) := rfl
theorem i372_769 : mm_cd 372 769 = some (.iload 4, 2, 0, 0) := rfl
theorem i372_771 : mm_cd 372 771 = some (.iconst 1, 1, 0, 0) := rfl
theorem i372_772 : mm_cd 372 772 = some (.iadd, 1, 0, 0) := rfl
theorem i372_773 : mm_cd 372 773 = some (.iaload, 1, 0, 0) := rfl
theorem i372_774 : mm_cd 372 774 = some (.aload_n 3, 1, 0, 0) := rfl
theorem i372_775 : mm_cd 372 775 = some (.invokestatic 157, 3, 0, 351) := rfl
theorem i372_778 : mm_cd 372 778 = some (.istore 5, 2, 0, 0) := rfl
theorem i372_780 : mm_cd 372 780 = some (.aload_n 2, 1, 0, 0) := rfl
theorem i372_781 : mm_cd 372 781 = some (.aload_n 0, 1, 0, 0) := rfl
theorem i372_782 : mm_cd 372 782 = some (.iload 4, 2, 0, 0) := rfl
theorem i372_784 : mm_cd 372 784 = some (.iconst 1, 1, 0, 0) := rfl
theorem i372_785 : mm_cd 372 785 = some (.iadd, 1, 0, 0) := rfl
theorem i372_786 : mm_cd 372 786 = some (.iaload, 1, 0, 0) := rfl
theorem i372_787 : mm_cd 372 787 = some (.invokevirtual 159, 3, 0, 282) := rfl
theorem i372_790 : mm_cd 372 790 = some (.istore 6, 2, 0, 0) := rfl
theorem i372_792 : mm_cd 372 792 = some (.aload_n 2, 1, 0, 0) := rfl
theorem i372_793 : mm_cd 372 793 = some (.invokevirtual 130, 3, 0, 187) := rfl
theorem i372_796 : mm_cd 372 796 = some (.iload 5, 2, 0, 0) := rfl
theorem i372_798 : mm_cd 372 798 = some (.if_icmp .eq 5, 3, 0, 0) := rfl
theorem i372_801 : mm_cd 372 801 = some (.iconst 0, 1, 0, 0) := rfl
theorem i372_802 : mm_cd 372 802 = some (.ireturn, 1, 0, 0) := rfl
theorem i372_803 : mm_cd 372 803 = some (.iload 5, 2, 0, 0) := rfl
theorem i372_805 : mm_cd 372 805 = some (.ifCond .ne 15, 3, 0, 0) := rfl
theorem i372_808 : mm_cd 372 808 = some (.aload_n 3, 1, 0, 0) := rfl
theorem i372_809 : mm_cd 372 809 = some (.iconst 0, 1, 0, 0) := rfl
theorem i372_810 : mm_cd 372 810 = some (.laload, 1, 0, 0) := rfl
theorem i372_811 : mm_cd 372 811 = some (.iload 6, 2, 0, 0) := rfl
theorem i372_813 : mm_cd 372 813 = some (.i2l, 1, 0, 0) := rfl
theorem i372_814 : mm_cd 372 814 = some (.lcmp, 1, 0, 0) := rfl
theorem i372_815 : mm_cd 372 815 = some (.ifCond .eq 5, 3, 0, 0) := rfl
theorem i372_818 : mm_cd 372 818 = some (.iconst 0, 1, 0, 0) := rfl
theorem i372_819 : mm_cd 372 819 = some (.ireturn, 1, 0, 0) := rfl
theorem i372_820 : mm_cd 372 820 = some (.goto 1562, 3, 0, 0) := rfl
theorem K10 {L : Nat} {xs : Nat → Int32} {i B : Nat} {s : mS} (hL : L ≤ 3072) (hi : i + 6 ≤ L) (hG : G B s) (hB : B + 60 < 400000000) : KQ L xs i B 767 s := by
  have walk : ∀ (k0 v : Int32) (s1 t : mS) (r : mQ), q351 (xs (i + 1)) s = some (.inl (some k0), s1) → q282 (xs (i + 1)) s1 = some (.inl (some v), t) → t.1 512 0 = k0 → (k0 = 0 → t.2.1 524 0 = v.toInt64) → Ev L xs 60 372 2382 (lvB i) [] (hp t) (hr r) → Ev L xs 60 372 767 (lvB i) [] (hp s) (hr r) := fun k0 v s1 t r z1 m1 hc hv k => by
    refine Ev.aload_n H372 i372_767 rfl ?_
    refine LD (j := 1) i372_768 i372_769 i372_771 i372_772 i372_773 (by decide) rfl rfl hL (by omega) ?_
    refine Ev.aload_n H372 i372_774 rfl ?_
    refine CSt (As := [.ref 0, .int (xs (i + 1)), .ref 524]) i372_775 cal351 rfl (Nat.le_of_ble_eq_true rfl) (Nat.le_of_ble_eq_true rfl) (show 4 < 60 by decide) (c351 z1) ?_
    refine Ev.istore H372 i372_778 (by decide) (lv2 := (5, .int k0) :: lvB i) rfl ?_
    refine Ev.aload_n H372 i372_780 rfl ?_
    refine LD (j := 1) i372_781 i372_782 i372_784 i372_785 i372_786 (by decide) rfl rfl hL (by omega) ?_
    refine CV (As := [.int (xs (i + 1))]) i372_787 cal282 ob11 rfl (Nat.le_of_ble_eq_true rfl) (Nat.le_of_ble_eq_true rfl) (show 4 < 60 by decide) (c282 m1) ?_
    refine Ev.istore H372 i372_790 (by decide) (lv2 := (6, .int v) :: (5, .int k0) :: lvB i) rfl ?_
    exact TLI i372_792 i372_793 i372_796 i372_798 i372_803 i372_805 i372_808 i372_809 i372_810 i372_811 i372_813 i372_814 i372_815 i372_820 (by decide) (by decide) (by decide) (by decide) hc hv k
  have h0 : (0 : Int32).toNatClampNeg = 0 := by decide
  rcases z_begin hG (by omega) (xs (i + 1)) with ⟨v, s1, z1, z2, z3⟩ | ⟨x, u, w, c, s1, z1, z2, z4, z5, z6, z3⟩
  · obtain ⟨t, m1, m2, m3, m4⟩ := z3 (sL s1 524 0 v.toInt64) sL_1
    refine ⟨t, G_up m4 (by omega), CN_e (by rw [m2.1, sL_22, z2]), fun r k => walk 0 v (sL s1 524 0 v.toInt64) t r ?_ m1 m3 (fun _ => by rw [m2.2 524 (by omega), sLz_at]) k⟩
    unfold q351
    rw [z1]
    show gA 1 (nI 0) _ = _
    rw [gA_ok (show 0 < 1 by decide) (by omega), sp_e, h0]; rfl
  · obtain ⟨v, t, m1, m2, m3, m4⟩ := z3 (sX s1) rfl
    have hcz : ¬ nI c = 0 := by rw [nI_lit, nI_eqv (by omega) (by omega)]; omega
    refine ⟨t, G_up m4 (by omega), ?_, fun r k => walk (nI c) v (sX s1) t r ?_ m1 m3 (fun q => absurd q hcz) k⟩
    · unfold CN
      rw [m2.1]
      show s1.2.2.2.1 + 1 ≤ _ ∧ s1.2.2.2.2 + 6 ≤ _
      rw [z2]; exact ⟨Nat.le_refl _, Nat.le_refl _⟩
    · unfold q351
      rw [z1]
      exact bC_x z4 z6
theorem i372_823 : mm_cd 372 823 = some (.aload_n 1, 1, 0, 0) := rfl
theorem i372_824 : mm_cd 372 824 = some (.aload_n 0, 1, 0, 0) := rfl
theorem i372_825 : mm_cd 372 825 = some (.iload 4, 2, 0, 0) := rfl
theorem i372_827 : mm_cd 372 827 = some (.iconst 1, 1, 0, 0) := rfl
theorem i372_828 : mm_cd 372 828 = some (.iadd, 1, 0, 0) := rfl
theorem i372_829 : mm_cd 372 829 = some (.iaload, 1, 0, 0) := rfl
theorem i372_830 : mm_cd 372 830 = some (.aload_n 0, 1, 0, 0) := rfl
theorem i372_831 : mm_cd 372 831 = some (.iload 4, 2, 0, 0) := rfl
theorem i372_833 : mm_cd 372 833 = some (.iconst 2, 1, 0, 0) := rfl
theorem i372_834 : mm_cd 372 834 = some (.iadd, 1, 0, 0) := rfl
theorem i372_835 : mm_cd 372 835 = some (.iaload, 1, 0, 0) := rfl
theorem i372_836 : mm_cd 372 836 = some (.aload_n 3, 1, 0, 0) := rfl
theorem i372_837 : mm_cd 372 837 = some (.invokestatic 160, 3, 0, 352) := rfl
theorem i372_840 : mm_cd 372 840 = some (.istore 5, 2, 0, 0) := rfl
theorem i372_842 : mm_cd 372 842 = some (.aload_n 2, 1, 0, 0) := rfl
theorem i372_843 : mm_cd 372 843 = some (.aload_n 0, 1, 0, 0) := rfl
theorem i372_844 : mm_cd 372 844 = some (.iload 4, 2, 0, 0) := rfl
theorem i372_846 : mm_cd 372 846 = some (.iconst 1, 1, 0, 0) := rfl
theorem i372_847 : mm_cd 372 847 = some (.iadd, 1, 0, 0) := rfl
theorem i372_848 : mm_cd 372 848 = some (.iaload, 1, 0, 0) := rfl
theorem i372_849 : mm_cd 372 849 = some (.aload_n 0, 1, 0, 0) := rfl
theorem i372_850 : mm_cd 372 850 = some (.iload 4, 2, 0, 0) := rfl
theorem i372_852 : mm_cd 372 852 = some (.iconst 2, 1, 0, 0) := rfl
theorem i372_853 : mm_cd 372 853 = some (.iadd, 1, 0, 0) := rfl
theorem i372_854 : mm_cd 372 854 = some (.iaload, 1, 0, 0) := rfl
theorem i372_855 : mm_cd 372 855 = some (.invokevirtual 162, 3, 0, 284) := rfl
theorem i372_858 : mm_cd 372 858 = some (.istore 6, 2, 0, 0) := rfl
theorem i372_860 : mm_cd 372 860 = some (.aload_n 2, 1, 0, 0) := rfl
theorem i372_861 : mm_cd 372 861 = some (.invokevirtual 130, 3, 0, 187) := rfl
theorem i372_864 : mm_cd 372 864 = some (.iload 5, 2, 0, 0) := rfl
theorem i372_866 : mm_cd 372 866 = some (.if_icmp .eq 5, 3, 0, 0) := rfl
theorem i372_869 : mm_cd 372 869 = some (.iconst 0, 1, 0, 0) := rfl
theorem i372_870 : mm_cd 372 870 = some (.ireturn, 1, 0, 0) := rfl
theorem i372_871 : mm_cd 372 871 = some (.iload 5, 2, 0, 0) := rfl
theorem i372_873 : mm_cd 372 873 = some (.ifCond .ne 15, 3, 0, 0) := rfl
theorem i372_876 : mm_cd 372 876 = some (.aload_n 3, 1, 0, 0) := rfl
theorem i372_877 : mm_cd 372 877 = some (.iconst 0, 1, 0, 0) := rfl
theorem i372_878 : mm_cd 372 878 = some (.laload, 1, 0, 0) := rfl
theorem i372_879 : mm_cd 372 879 = some (.iload 6, 2, 0, 0) := rfl
theorem i372_881 : mm_cd 372 881 = some (.i2l, 1, 0, 0) := rfl
theorem i372_882 : mm_cd 372 882 = some (.lcmp, 1, 0, 0) := rfl
theorem i372_883 : mm_cd 372 883 = some (.ifCond .eq 5, 3, 0, 0) := rfl
theorem i372_886 : mm_cd 372 886 = some (.iconst 0, 1, 0, 0) := rfl
theorem i372_887 : mm_cd 372 887 = some (.ireturn, 1, 0, 0) := rfl
theorem i372_888 : mm_cd 372 888 = some (.goto 1494, 3, 0, 0) := rfl
theorem K11 {L : Nat} {xs : Nat → Int32} {i B : Nat} {s : mS} (hL : L ≤ 3072) (hi : i + 6 ≤ L) (hG : G B s) (hB : B + 60 < 400000000) : KQ L xs i B 823 s := by
  have walk : ∀ (k0 v : Int32) (s1 t : mS) (r : mQ), q352 (xs (i + 1)) (xs (i + 2)) s = some (.inl (some k0), s1) → q284 (xs (i + 1)) (xs (i + 2)) s1 = some (.inl (some v), t) → t.1 512 0 = k0 → (k0 = 0 → t.2.1 524 0 = v.toInt64) → Ev L xs 60 372 2382 (lvB i) [] (hp t) (hr r) → Ev L xs 60 372 823 (lvB i) [] (hp s) (hr r) := fun k0 v s1 t r z1 m1 hc hv k => by
    refine Ev.aload_n H372 i372_823 rfl ?_
    refine LD (j := 1) i372_824 i372_825 i372_827 i372_828 i372_829 (by decide) rfl rfl hL (by omega) ?_
    refine LD (j := 2) i372_830 i372_831 i372_833 i372_834 i372_835 (by decide) rfl rfl hL (by omega) ?_
    refine Ev.aload_n H372 i372_836 rfl ?_
    refine CSt (As := [.ref 0, .int (xs (i + 1)), .int (xs (i + 2)), .ref 524]) i372_837 cal352 rfl (Nat.le_of_ble_eq_true rfl) (Nat.le_of_ble_eq_true rfl) (show 7 < 60 by decide) (c352 z1) ?_
    refine Ev.istore H372 i372_840 (by decide) (lv2 := (5, .int k0) :: lvB i) rfl ?_
    refine Ev.aload_n H372 i372_842 rfl ?_
    refine LD (j := 1) i372_843 i372_844 i372_846 i372_847 i372_848 (by decide) rfl rfl hL (by omega) ?_
    refine LD (j := 2) i372_849 i372_850 i372_852 i372_853 i372_854 (by decide) rfl rfl hL (by omega) ?_
    refine CV (As := [.int (xs (i + 1)), .int (xs (i + 2))]) i372_855 cal284 ob11 rfl (Nat.le_of_ble_eq_true rfl) (Nat.le_of_ble_eq_true rfl) (show 11 < 60 by decide) (c284 m1) ?_
    refine Ev.istore H372 i372_858 (by decide) (lv2 := (6, .int v) :: (5, .int k0) :: lvB i) rfl ?_
    exact TLI i372_860 i372_861 i372_864 i372_866 i372_871 i372_873 i372_876 i372_877 i372_878 i372_879 i372_881 i372_882 i372_883 i372_888 (by decide) (by decide) (by decide) (by decide) hc hv k
  have h0 : (0 : Int32).toNatClampNeg = 0 := by decide
  rcases z_read hG (by omega) (xs (i + 1)) (xs (i + 2)) with ⟨v, s1, z1, z2, z3⟩ | ⟨x, u, w, c, s1, z1, z2, z4, z5, z6, z3⟩
  · obtain ⟨t, m1, m2, m3, m4⟩ := z3 (sL s1 524 0 v.toInt64) sL_1
    refine ⟨t, G_up m4 (by omega), CN_e (by rw [m2.1, sL_22, z2]), fun r k => walk 0 v (sL s1 524 0 v.toInt64) t r ?_ m1 m3 (fun _ => by rw [m2.2 524 (by omega), sLz_at]) k⟩
    unfold q352
    rw [z1]
    show gA 1 (nI 0) _ = _
    rw [gA_ok (show 0 < 1 by decide) (by omega), sp_e, h0]; rfl
  · obtain ⟨v, t, m1, m2, m3, m4⟩ := z3 (sX s1) rfl
    have hcz : ¬ nI c = 0 := by rw [nI_lit, nI_eqv (by omega) (by omega)]; omega
    refine ⟨t, G_up m4 (by omega), ?_, fun r k => walk (nI c) v (sX s1) t r ?_ m1 m3 (fun q => absurd q hcz) k⟩
    · unfold CN
      rw [m2.1]
      show s1.2.2.2.1 + 1 ≤ _ ∧ s1.2.2.2.2 + 6 ≤ _
      rw [z2]; exact ⟨Nat.le_refl _, Nat.le_refl _⟩
    · unfold q352
      rw [z1]
      exact bC_x z4 z6
