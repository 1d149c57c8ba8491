theorem lw_tab {t : Nat} {tc tz : Nat → Nat → Int32} {tr mr mc mr' mc' c' z' : Nat → Int32} {r' : Int32} (g1 : tabRel t c' z' r' mr' mc') (g2 : frm t mc mc') (g3 : ∀ u, u ≠ t → mr' u = mr u) (hT : ∀ u, u < 4 → tabRel u (tc u) (tz u) (tr u) mr mc) : ∀ u, u < 4 → tabRel u (updF tc t c' u) (updF tz t z' u) (updF tr t r' u) mr' mc' := by
  intro u hu
  by_cases e : u = t
  · subst e; rw [updF_s, updF_s, updF_s]; exact g1
  · rw [updF_n e, updF_n e, updF_n e]; exact tab_other e (g3 u e) g2 (hT u hu)
theorem lw_tab2 {t : Nat} {tc tz : Nat → Nat → Int32} {tr mr mc mc' c' z' : Nat → Int32} (g1 : tabRel t c' z' (tr t) mr mc') (g2 : frm t mc mc') (hT : ∀ u, u < 4 → tabRel u (tc u) (tz u) (tr u) mr mc) : ∀ u, u < 4 → tabRel u (updF tc t c' u) (updF tz t z' u) (tr u) mr mc' := by
  intro u hu
  by_cases e : u = t
  · subst e; rw [updF_s, updF_s]; exact g1
  · rw [updF_n e, updF_n e]; exact tab_other e rfl g2 (hT u hu)
theorem lw_toldx (x : Int32) : (x < 2 ∨ (10 : Int32) ≤ x) ∨ ∃ n, 2 ≤ n ∧ n ≤ 9 ∧ x = nI n := by
  rcases q_inR x (a := 2) (b := 9) (by decide) (by decide) with ⟨-, h⟩ | ⟨j, h1, h2, h3, -⟩
  · left
    rcases h with h | h
    · exact .inl h
    · right
      rw [Int32.lt_iff_toInt_lt, nI_toInt (by decide)] at h
      rw [Int32.le_iff_toInt_le]
      have : (10 : Int32).toInt = 10 := by decide
      omega
  · exact .inr ⟨j, h1, h2, h3⟩
section LAWC
variable {p : Program} {l : Launch} {e : Env} {s : State} {m : MethodId} {below : List Frame} {meth : Method} {c : Code} {b L : Nat} {xs : Nat → Int32} {D : va_G} {cI cT : ClassId} {A : Nat → Nat} {R : Nat → Option Nat} {aL : Nat × Nat} {i : Nat} {ls : Array Slot} {H : Heap} {locs : List Loc} {sk : List Value} {pc : Nat}
variable {cnt : Int32} {wX : Nat → Int32} {wY : Nat → Int32} {wP : Nat → Int32} {wl : Int32} {sR : Nat → Int32} {sC : Nat → Int32} {sS : Nat → Int32} {sE : Nat → Int32} {k1 : Int32} {k2 : Int32} {k3 : Int32} {k4 : Int32} {k5 : Int32} {st : Nat → Int32} {tc : Nat → Nat → Int32} {tz : Nat → Nat → Int32} {tr : Nat → Int32} {mw : Int32} {ml : Int32} {mp : Nat → Int32} {mq : Nat → Int32} {mX : Nat → Int32} {mY : Nat → Int32} {ms : Int32} {mst : Nat → Int32} {mr : Nat → Int32} {mc : Nat → Int32} {mo : Nat → Int32} {mu : Nat → Int32}
set_option maxHeartbeats 4000000 in
set_option maxRecDepth 100000 in
/-- case 0: sixty -/
theorem lw_c0 (C : lwC p s m meth c b L xs D cI cT A R aL) (hi : i + 6 ≤ L) (hl : lv_has ls 4 (lwL b A i)) (hI : lwI cnt wX wY wP wl sR sC sS sE k1 k2 k3 k4 k5 st tc tz tr mw ml mp mq mX mY ms mst mr mc mo mu) (hP : va_P D vwCl (lwW cI cT A R cnt wX wY wP wl sR sC sS sE k1 k2 k3 k4 k5 st tc tz tr mw ml mp mq mX mY ms mst mr mc mo mu) H) (hS : lwS s H locs) (hK : lwK p l e s m below meth c b D cI cT A R ls) : lwG p l e s m below meth c b H locs 168 ls [] := by
  have C9 := C
  obtain ⟨C0, hX, hbl, hKn, hnd, hAd, hRr, hLz, hL⟩ := C9
  have C8 := C0
  obtain ⟨hx, hb, -⟩ := C8
  obtain ⟨hW, hSt, hT, hO⟩ := hI
  obtain ⟨r, e1, e2⟩ := op_sixty (L64 (xs (i + 1)) (xs (i + (1 + 1))))
  refine lv_aload_n hx hb dL_law_168 rfl (lv_at hl 1 rfl) ?_
  refine lw_ldl C hi hl hS 1 (by decide) (by decide) (by decide) dL_law_169 dL_law_170 dL_law_171 dL_law_172 dL_law_173 dL_law_174 dL_law_175 dL_law_177 dL_law_178 dL_law_179 dL_law_180 dL_law_181 dL_law_182 dL_law_183 dL_law_184 dL_law_187 dL_law_188 ?_
  refine kV C0 (ctX6_sixty l (xo := A 0) e1) gL_law_X6_sixty rfl kdvX6_sixty ⟨rfl, rfl⟩ ⟨by decide, by decide⟩ kT_blind (va_recv hKn hP (ci := 3) (q0 := 0) rfl rfl) (fun _ _ _ => trivial) rfl hl [] rfl (Nat.le_of_ble_eq_true rfl) dL_law_189 lw_rm ?_
  refine lv_aload_n hx hb dL_law_192 rfl (lv_at hl 2 rfl) ?_
  refine lw_ldl C hi hl hS 1 (by decide) (by decide) (by decide) dL_law_193 dL_law_194 dL_law_195 dL_law_196 dL_law_197 dL_law_198 dL_law_199 dL_law_201 dL_law_202 dL_law_203 dL_law_204 dL_law_205 dL_law_206 dL_law_207 dL_law_208 dL_law_211 dL_law_212 ?_
  refine kV C0 (ctX7_sixty l (mo := A 24) e2) gL_law_X7_sixty rfl kdvX7_sixty ⟨rfl, rfl⟩ ⟨by decide, by decide⟩ kT_blind (va_recv hKn hP (ci := 4) (q0 := 24) rfl rfl) (fun _ _ _ => trivial) rfl hl [.long r] rfl (Nat.le_of_ble_eq_true rfl) dL_law_213 lw_rm ?_
  refine lw_cmpl C (tgt := 1627) dL_law_216 dL_law_217 (by decide) ?_
  exact hK cnt wX wY wP wl sR sC sS sE k1 k2 k3 k4 k5 st tc tz tr mw ml mp mq mX mY ms mst mr mc mo mu ⟨hW, hSt, hT, hO⟩ _ _ hP hS
set_option maxHeartbeats 4000000 in
set_option maxRecDepth 100000 in
/-- case 1: digit -/
theorem lw_c1 (C : lwC p s m meth c b L xs D cI cT A R aL) (hi : i + 6 ≤ L) (hl : lv_has ls 4 (lwL b A i)) (hI : lwI cnt wX wY wP wl sR sC sS sE k1 k2 k3 k4 k5 st tc tz tr mw ml mp mq mX mY ms mst mr mc mo mu) (hP : va_P D vwCl (lwW cI cT A R cnt wX wY wP wl sR sC sS sE k1 k2 k3 k4 k5 st tc tz tr mw ml mp mq mX mY ms mst mr mc mo mu) H) (hS : lwS s H locs) (hK : lwK p l e s m below meth c b D cI cT A R ls) : lwG p l e s m below meth c b H locs 222 ls [] := by
  have C9 := C
  obtain ⟨C0, hX, hbl, hKn, hnd, hAd, hRr, hLz, hL⟩ := C9
  have C8 := C0
  obtain ⟨hx, hb, -⟩ := C8
  obtain ⟨hW, hSt, hT, hO⟩ := hI
  obtain ⟨r, e1, e2⟩ := op_digit (L64 (xs (i + 1)) (xs (i + (1 + 1)))) (xs (i + 3))
  refine lv_aload_n hx hb dL_law_222 rfl (lv_at hl 1 rfl) ?_
  refine lw_ldl C hi hl hS 1 (by decide) (by decide) (by decide) dL_law_223 dL_law_224 dL_law_225 dL_law_226 dL_law_227 dL_law_228 dL_law_229 dL_law_231 dL_law_232 dL_law_233 dL_law_234 dL_law_235 dL_law_236 dL_law_237 dL_law_238 dL_law_241 dL_law_242 ?_
  refine lw_ldi C hi hl hS 3 (by decide) (by decide) dL_law_243 dL_law_244 dL_law_245 dL_law_246 dL_law_247 ?_
  refine kV C0 (ctX6_digit l (xo := A 0) e1) gL_law_X6_digit rfl kdvX6_digit ⟨rfl, rfl⟩ ⟨by decide, by decide⟩ kT_blind (va_recv hKn hP (ci := 3) (q0 := 0) rfl rfl) (fun _ _ _ => trivial) rfl hl [] rfl (Nat.le_of_ble_eq_true rfl) dL_law_248 lw_rm ?_
  refine lv_aload_n hx hb dL_law_251 rfl (lv_at hl 2 rfl) ?_
  refine lw_ldl C hi hl hS 1 (by decide) (by decide) (by decide) dL_law_252 dL_law_253 dL_law_254 dL_law_255 dL_law_256 dL_law_257 dL_law_258 dL_law_260 dL_law_261 dL_law_262 dL_law_263 dL_law_264 dL_law_265 dL_law_266 dL_law_267 dL_law_270 dL_law_271 ?_
  refine lw_ldi C hi hl hS 3 (by decide) (by decide) dL_law_272 dL_law_273 dL_law_274 dL_law_275 dL_law_276 ?_
  refine kV C0 (ctX7_digit l (mo := A 24) e2) gL_law_X7_digit rfl kdvX7_digit ⟨rfl, rfl⟩ ⟨by decide, by decide⟩ kT_blind (va_recv hKn hP (ci := 4) (q0 := 24) rfl rfl) (fun _ _ _ => trivial) rfl hl [.int r] rfl (Nat.le_of_ble_eq_true rfl) dL_law_277 lw_rm ?_
  refine lw_cmpi C (tgt := 1627) dL_law_280 (by decide) ?_
  exact hK cnt wX wY wP wl sR sC sS sE k1 k2 k3 k4 k5 st tc tz tr mw ml mp mq mX mY ms mst mr mc mo mu ⟨hW, hSt, hT, hO⟩ _ _ hP hS
set_option maxHeartbeats 4000000 in
set_option maxRecDepth 100000 in
/-- case 2: sight -/
theorem lw_c2 (C : lwC p s m meth c b L xs D cI cT A R aL) (hi : i + 6 ≤ L) (hl : lv_has ls 4 (lwL b A i)) (hI : lwI cnt wX wY wP wl sR sC sS sE k1 k2 k3 k4 k5 st tc tz tr mw ml mp mq mX mY ms mst mr mc mo mu) (hP : va_P D vwCl (lwW cI cT A R cnt wX wY wP wl sR sC sS sE k1 k2 k3 k4 k5 st tc tz tr mw ml mp mq mX mY ms mst mr mc mo mu) H) (hS : lwS s H locs) (hK : lwK p l e s m below meth c b D cI cT A R ls) : lwG p l e s m below meth c b H locs 285 ls [] := by
  have C9 := C
  obtain ⟨C0, hX, hbl, hKn, hnd, hAd, hRr, hLz, hL⟩ := C9
  have C8 := C0
  obtain ⟨hx, hb, -⟩ := C8
  obtain ⟨hW, hSt, hT, hO⟩ := hI
  obtain ⟨r, e1, e2⟩ := op_sight (L64 (xs (i + 1)) (xs (i + (1 + 1)))) (xs (i + 3))
  refine lv_aload_n hx hb dL_law_285 rfl (lv_at hl 1 rfl) ?_
  refine lw_ldl C hi hl hS 1 (by decide) (by decide) (by decide) dL_law_286 dL_law_287 dL_law_288 dL_law_289 dL_law_290 dL_law_291 dL_law_292 dL_law_294 dL_law_295 dL_law_296 dL_law_297 dL_law_298 dL_law_299 dL_law_300 dL_law_301 dL_law_304 dL_law_305 ?_
  refine lw_ldi C hi hl hS 3 (by decide) (by decide) dL_law_306 dL_law_307 dL_law_308 dL_law_309 dL_law_310 ?_
  refine kV C0 (ctX6_sight l (xo := A 0) e1) gL_law_X6_sight rfl kdvX6_sight ⟨rfl, rfl⟩ ⟨by decide, by decide⟩ kT_blind (va_recv hKn hP (ci := 3) (q0 := 0) rfl rfl) (fun _ _ _ => trivial) rfl hl [] rfl (Nat.le_of_ble_eq_true rfl) dL_law_311 lw_rm ?_
  refine lv_aload_n hx hb dL_law_314 rfl (lv_at hl 2 rfl) ?_
  refine lw_ldl C hi hl hS 1 (by decide) (by decide) (by decide) dL_law_315 dL_law_316 dL_law_317 dL_law_318 dL_law_319 dL_law_320 dL_law_321 dL_law_323 dL_law_324 dL_law_325 dL_law_326 dL_law_327 dL_law_328 dL_law_329 dL_law_330 dL_law_333 dL_law_334 ?_
  refine lw_ldi C hi hl hS 3 (by decide) (by decide) dL_law_335 dL_law_336 dL_law_337 dL_law_338 dL_law_339 ?_
  refine kV C0 (ctX7_sight l (mo := A 24) e2) gL_law_X7_sight rfl kdvX7_sight ⟨rfl, rfl⟩ ⟨by decide, by decide⟩ kT_blind (va_recv hKn hP (ci := 4) (q0 := 24) rfl rfl) (fun _ _ _ => trivial) rfl hl [.int r] rfl (Nat.le_of_ble_eq_true rfl) dL_law_340 lw_rm ?_
  refine lw_cmpi C (tgt := 1627) dL_law_343 (by decide) ?_
  exact hK cnt wX wY wP wl sR sC sS sE k1 k2 k3 k4 k5 st tc tz tr mw ml mp mq mX mY ms mst mr mc mo mu ⟨hW, hSt, hT, hO⟩ _ _ hP hS
set_option maxHeartbeats 4000000 in
set_option maxRecDepth 100000 in
/-- case 3: like -/
theorem lw_c3 (C : lwC p s m meth c b L xs D cI cT A R aL) (hi : i + 6 ≤ L) (hl : lv_has ls 4 (lwL b A i)) (hI : lwI cnt wX wY wP wl sR sC sS sE k1 k2 k3 k4 k5 st tc tz tr mw ml mp mq mX mY ms mst mr mc mo mu) (hP : va_P D vwCl (lwW cI cT A R cnt wX wY wP wl sR sC sS sE k1 k2 k3 k4 k5 st tc tz tr mw ml mp mq mX mY ms mst mr mc mo mu) H) (hS : lwS s H locs) (hK : lwK p l e s m below meth c b D cI cT A R ls) : lwG p l e s m below meth c b H locs 348 ls [] := by
  have C9 := C
  obtain ⟨C0, hX, hbl, hKn, hnd, hAd, hRr, hLz, hL⟩ := C9
  have C8 := C0
  obtain ⟨hx, hb, -⟩ := C8
  obtain ⟨hW, hSt, hT, hO⟩ := hI
  obtain ⟨r, e1, e2⟩ := op_like (L64 (xs (i + 1)) (xs (i + (1 + 1)))) (xs (i + 3)) (xs (i + 4))
  refine lv_aload_n hx hb dL_law_348 rfl (lv_at hl 1 rfl) ?_
  refine lw_ldl C hi hl hS 1 (by decide) (by decide) (by decide) dL_law_349 dL_law_350 dL_law_351 dL_law_352 dL_law_353 dL_law_354 dL_law_355 dL_law_357 dL_law_358 dL_law_359 dL_law_360 dL_law_361 dL_law_362 dL_law_363 dL_law_364 dL_law_367 dL_law_368 ?_
  refine lw_ldi C hi hl hS 3 (by decide) (by decide) dL_law_369 dL_law_370 dL_law_371 dL_law_372 dL_law_373 ?_
  refine lw_ldi C hi hl hS 4 (by decide) (by decide) dL_law_374 dL_law_375 dL_law_376 dL_law_377 dL_law_378 ?_
  refine kV C0 (ctX6_like l (xo := A 0) e1) gL_law_X6_like rfl kdvX6_like ⟨rfl, rfl⟩ ⟨by decide, by decide⟩ kT_blind (va_recv hKn hP (ci := 3) (q0 := 0) rfl rfl) (fun _ _ _ => trivial) rfl hl [] rfl (Nat.le_of_ble_eq_true rfl) dL_law_379 lw_rm ?_
  refine lv_aload_n hx hb dL_law_382 rfl (lv_at hl 2 rfl) ?_
  refine lw_ldl C hi hl hS 1 (by decide) (by decide) (by decide) dL_law_383 dL_law_384 dL_law_385 dL_law_386 dL_law_387 dL_law_388 dL_law_389 dL_law_391 dL_law_392 dL_law_393 dL_law_394 dL_law_395 dL_law_396 dL_law_397 dL_law_398 dL_law_401 dL_law_402 ?_
  refine lw_ldi C hi hl hS 3 (by decide) (by decide) dL_law_403 dL_law_404 dL_law_405 dL_law_406 dL_law_407 ?_
  refine lw_ldi C hi hl hS 4 (by decide) (by decide) dL_law_408 dL_law_409 dL_law_410 dL_law_411 dL_law_412 ?_
  refine kV C0 (ctX7_like l (mo := A 24) e2) gL_law_X7_like rfl kdvX7_like ⟨rfl, rfl⟩ ⟨by decide, by decide⟩ kT_blind (va_recv hKn hP (ci := 4) (q0 := 24) rfl rfl) (fun _ _ _ => trivial) rfl hl [.long r] rfl (Nat.le_of_ble_eq_true rfl) dL_law_413 lw_rm ?_
  refine lw_cmpl C (tgt := 1627) dL_law_416 dL_law_417 (by decide) ?_
  exact hK cnt wX wY wP wl sR sC sS sE k1 k2 k3 k4 k5 st tc tz tr mw ml mp mq mX mY ms mst mr mc mo mu ⟨hW, hSt, hT, hO⟩ _ _ hP hS
set_option maxHeartbeats 4000000 in
set_option maxRecDepth 100000 in
/-- case 4: put -/
theorem lw_c4 (C : lwC p s m meth c b L xs D cI cT A R aL) (hi : i + 6 ≤ L) (hl : lv_has ls 4 (lwL b A i)) (hI : lwI cnt wX wY wP wl sR sC sS sE k1 k2 k3 k4 k5 st tc tz tr mw ml mp mq mX mY ms mst mr mc mo mu) (hP : va_P D vwCl (lwW cI cT A R cnt wX wY wP wl sR sC sS sE k1 k2 k3 k4 k5 st tc tz tr mw ml mp mq mX mY ms mst mr mc mo mu) H) (hS : lwS s H locs) (hK : lwK p l e s m below meth c b D cI cT A R ls) : lwG p l e s m below meth c b H locs 422 ls [] := by
  have C9 := C
  obtain ⟨C0, hX, hbl, hKn, hnd, hAd, hRr, hLz, hL⟩ := C9
  have C8 := C0
  obtain ⟨hx, hb, -⟩ := C8
  obtain ⟨hW, hSt, hT, hO⟩ := hI
  obtain ⟨r, e1, e2⟩ := op_put (L64 (xs (i + 1)) (xs (i + (1 + 1)))) (L64 (xs (i + 3)) (xs (i + (3 + 1)))) (xs (i + 5))
  refine lv_aload_n hx hb dL_law_422 rfl (lv_at hl 1 rfl) ?_
  refine lw_ldl C hi hl hS 1 (by decide) (by decide) (by decide) dL_law_423 dL_law_424 dL_law_425 dL_law_426 dL_law_427 dL_law_428 dL_law_429 dL_law_431 dL_law_432 dL_law_433 dL_law_434 dL_law_435 dL_law_436 dL_law_437 dL_law_438 dL_law_441 dL_law_442 ?_
  refine lw_ldl C hi hl hS 3 (by decide) (by decide) (by decide) dL_law_443 dL_law_444 dL_law_445 dL_law_446 dL_law_447 dL_law_448 dL_law_449 dL_law_451 dL_law_452 dL_law_453 dL_law_454 dL_law_455 dL_law_456 dL_law_457 dL_law_458 dL_law_461 dL_law_462 ?_
  refine lw_ldi C hi hl hS 5 (by decide) (by decide) dL_law_463 dL_law_464 dL_law_465 dL_law_466 dL_law_467 ?_
  refine kV C0 (ctX6_put l (xo := A 0) e1) gL_law_X6_put rfl kdvX6_put ⟨rfl, rfl⟩ ⟨by decide, by decide⟩ kT_blind (va_recv hKn hP (ci := 3) (q0 := 0) rfl rfl) (fun _ _ _ => trivial) rfl hl [] rfl (Nat.le_of_ble_eq_true rfl) dL_law_468 lw_rm ?_
  refine lv_aload_n hx hb dL_law_471 rfl (lv_at hl 2 rfl) ?_
  refine lw_ldl C hi hl hS 1 (by decide) (by decide) (by decide) dL_law_472 dL_law_473 dL_law_474 dL_law_475 dL_law_476 dL_law_477 dL_law_478 dL_law_480 dL_law_481 dL_law_482 dL_law_483 dL_law_484 dL_law_485 dL_law_486 dL_law_487 dL_law_490 dL_law_491 ?_
  refine lw_ldl C hi hl hS 3 (by decide) (by decide) (by decide) dL_law_492 dL_law_493 dL_law_494 dL_law_495 dL_law_496 dL_law_497 dL_law_498 dL_law_500 dL_law_501 dL_law_502 dL_law_503 dL_law_504 dL_law_505 dL_law_506 dL_law_507 dL_law_510 dL_law_511 ?_
  refine lw_ldi C hi hl hS 5 (by decide) (by decide) dL_law_512 dL_law_513 dL_law_514 dL_law_515 dL_law_516 ?_
  refine kV C0 (ctX7_put l (mo := A 24) e2) gL_law_X7_put rfl kdvX7_put ⟨rfl, rfl⟩ ⟨by decide, by decide⟩ kT_blind (va_recv hKn hP (ci := 4) (q0 := 24) rfl rfl) (fun _ _ _ => trivial) rfl hl [.long r] rfl (Nat.le_of_ble_eq_true rfl) dL_law_517 lw_rm ?_
  refine lw_cmpl C (tgt := 1627) dL_law_520 dL_law_521 (by decide) ?_
  exact hK cnt wX wY wP wl sR sC sS sE k1 k2 k3 k4 k5 st tc tz tr mw ml mp mq mX mY ms mst mr mc mo mu ⟨hW, hSt, hT, hO⟩ _ _ hP hS
set_option maxHeartbeats 4000000 in
set_option maxRecDepth 100000 in
/-- case 5: even -/
theorem lw_c5 (C : lwC p s m meth c b L xs D cI cT A R aL) (hi : i + 6 ≤ L) (hl : lv_has ls 4 (lwL b A i)) (hI : lwI cnt wX wY wP wl sR sC sS sE k1 k2 k3 k4 k5 st tc tz tr mw ml mp mq mX mY ms mst mr mc mo mu) (hP : va_P D vwCl (lwW cI cT A R cnt wX wY wP wl sR sC sS sE k1 k2 k3 k4 k5 st tc tz tr mw ml mp mq mX mY ms mst mr mc mo mu) H) (hS : lwS s H locs) (hK : lwK p l e s m below meth c b D cI cT A R ls) : lwG p l e s m below meth c b H locs 526 ls [] := by
  have C9 := C
  obtain ⟨C0, hX, hbl, hKn, hnd, hAd, hRr, hLz, hL⟩ := C9
  have C8 := C0
  obtain ⟨hx, hb, -⟩ := C8
  obtain ⟨hW, hSt, hT, hO⟩ := hI
  obtain ⟨r, e1, e2⟩ := op_even (L64 (xs (i + 1)) (xs (i + (1 + 1))))
  refine lv_aload_n hx hb dL_law_526 rfl (lv_at hl 1 rfl) ?_
  refine lw_ldl C hi hl hS 1 (by decide) (by decide) (by decide) dL_law_527 dL_law_528 dL_law_529 dL_law_530 dL_law_531 dL_law_532 dL_law_533 dL_law_535 dL_law_536 dL_law_537 dL_law_538 dL_law_539 dL_law_540 dL_law_541 dL_law_542 dL_law_545 dL_law_546 ?_
  refine kV C0 (ctX6_even l (xo := A 0) e1) gL_law_X6_even rfl kdvX6_even ⟨rfl, rfl⟩ ⟨by decide, by decide⟩ kT_blind (va_recv hKn hP (ci := 3) (q0 := 0) rfl rfl) (fun _ _ _ => trivial) rfl hl [] rfl (Nat.le_of_ble_eq_true rfl) dL_law_547 lw_rm ?_
  refine lv_aload_n hx hb dL_law_550 rfl (lv_at hl 2 rfl) ?_
  refine lw_ldl C hi hl hS 1 (by decide) (by decide) (by decide) dL_law_551 dL_law_552 dL_law_553 dL_law_554 dL_law_555 dL_law_556 dL_law_557 dL_law_559 dL_law_560 dL_law_561 dL_law_562 dL_law_563 dL_law_564 dL_law_565 dL_law_566 dL_law_569 dL_law_570 ?_
  refine kV C0 (ctX7_even l (mo := A 24) e2) gL_law_X7_even rfl kdvX7_even ⟨rfl, rfl⟩ ⟨by decide, by decide⟩ kT_blind (va_recv hKn hP (ci := 4) (q0 := 24) rfl rfl) (fun _ _ _ => trivial) rfl hl [.int r] rfl (Nat.le_of_ble_eq_true rfl) dL_law_571 lw_rm ?_
  refine lw_cmpi C (tgt := 1627) dL_law_574 (by decide) ?_
  exact hK cnt wX wY wP wl sR sC sS sE k1 k2 k3 k4 k5 st tc tz tr mw ml mp mq mX mY ms mst mr mc mo mu ⟨hW, hSt, hT, hO⟩ _ _ hP hS
set_option maxHeartbeats 4000000 in
set_option maxRecDepth 100000 in
/-- case 6: turned -/
theorem lw_c6 (C : lwC p s m meth c b L xs D cI cT A R aL) (hi : i + 6 ≤ L) (hl : lv_has ls 4 (lwL b A i)) (hI : lwI cnt wX wY wP wl sR sC sS sE k1 k2 k3 k4 k5 st tc tz tr mw ml mp mq mX mY ms mst mr mc mo mu) (hP : va_P D vwCl (lwW cI cT A R cnt wX wY wP wl sR sC sS sE k1 k2 k3 k4 k5 st tc tz tr mw ml mp mq mX mY ms mst mr mc mo mu) H) (hS : lwS s H locs) (hK : lwK p l e s m below meth c b D cI cT A R ls) : lwG p l e s m below meth c b H locs 579 ls [] := by
  have C9 := C
  obtain ⟨C0, hX, hbl, hKn, hnd, hAd, hRr, hLz, hL⟩ := C9
  have C8 := C0
  obtain ⟨hx, hb, -⟩ := C8
  obtain ⟨hW, hSt, hT, hO⟩ := hI
  obtain ⟨r, e1, e2⟩ := op_turned (L64 (xs (i + 1)) (xs (i + (1 + 1))))
  refine lv_aload_n hx hb dL_law_579 rfl (lv_at hl 1 rfl) ?_
  refine lw_ldl C hi hl hS 1 (by decide) (by decide) (by decide) dL_law_580 dL_law_581 dL_law_582 dL_law_583 dL_law_584 dL_law_585 dL_law_586 dL_law_588 dL_law_589 dL_law_590 dL_law_591 dL_law_592 dL_law_593 dL_law_594 dL_law_595 dL_law_598 dL_law_599 ?_
  refine kV C0 (ctX6_turned l (xo := A 0) e1) gL_law_X6_turned rfl kdvX6_turned ⟨rfl, rfl⟩ ⟨by decide, by decide⟩ kT_blind (va_recv hKn hP (ci := 3) (q0 := 0) rfl rfl) (fun _ _ _ => trivial) rfl hl [] rfl (Nat.le_of_ble_eq_true rfl) dL_law_600 lw_rm ?_
  refine lv_aload_n hx hb dL_law_603 rfl (lv_at hl 2 rfl) ?_
  refine lw_ldl C hi hl hS 1 (by decide) (by decide) (by decide) dL_law_604 dL_law_605 dL_law_606 dL_law_607 dL_law_608 dL_law_609 dL_law_610 dL_law_612 dL_law_613 dL_law_614 dL_law_615 dL_law_616 dL_law_617 dL_law_618 dL_law_619 dL_law_622 dL_law_623 ?_
  refine kV C0 (ctX7_turned l (mo := A 24) e2) gL_law_X7_turned rfl kdvX7_turned ⟨rfl, rfl⟩ ⟨by decide, by decide⟩ kT_blind (va_recv hKn hP (ci := 4) (q0 := 24) rfl rfl) (fun _ _ _ => trivial) rfl hl [.long r] rfl (Nat.le_of_ble_eq_true rfl) dL_law_624 lw_rm ?_
  refine lw_cmpl C (tgt := 1627) dL_law_627 dL_law_628 (by decide) ?_
  exact hK cnt wX wY wP wl sR sC sS sE k1 k2 k3 k4 k5 st tc tz tr mw ml mp mq mX mY ms mst mr mc mo mu ⟨hW, hSt, hT, hO⟩ _ _ hP hS
set_option maxHeartbeats 4000000 in
set_option maxRecDepth 100000 in
/-- case 7: list -/
theorem lw_c7 (C : lwC p s m meth c b L xs D cI cT A R aL) (hi : i + 6 ≤ L) (hl : lv_has ls 4 (lwL b A i)) (hI : lwI cnt wX wY wP wl sR sC sS sE k1 k2 k3 k4 k5 st tc tz tr mw ml mp mq mX mY ms mst mr mc mo mu) (hP : va_P D vwCl (lwW cI cT A R cnt wX wY wP wl sR sC sS sE k1 k2 k3 k4 k5 st tc tz tr mw ml mp mq mX mY ms mst mr mc mo mu) H) (hS : lwS s H locs) (hK : lwK p l e s m below meth c b D cI cT A R ls) : lwG p l e s m below meth c b H locs 633 ls [] := by
  have C9 := C
  obtain ⟨C0, hX, hbl, hKn, hnd, hAd, hRr, hLz, hL⟩ := C9
  have C8 := C0
  obtain ⟨hx, hb, -⟩ := C8
  obtain ⟨hW, hSt, hT, hO⟩ := hI
  obtain ⟨r, e1, e2⟩ := op_list (xs (i + 1))
  refine lv_aload_n hx hb dL_law_633 rfl (lv_at hl 1 rfl) ?_
  refine lw_ldi C hi hl hS 1 (by decide) (by decide) dL_law_634 dL_law_635 dL_law_636 dL_law_637 dL_law_638 ?_
  refine kV C0 (ctX6_list l (D := D) (cI := cI) (cT := cT) (xo := A 0) (aL := aL) e1) gL_law_X6_list rfl kdvX6_list ⟨rfl, rfl⟩ ⟨by decide, by decide⟩ kW_blind (va_recv hKn hP (ci := 3) (q0 := 0) rfl rfl) (kW_use hKn va_P0 (kL_at hLz hS (fun _ h => h.elim))) rfl hl [] rfl (Nat.le_of_ble_eq_true rfl) dL_law_639 lw_rm ?_
  refine lv_aload_n hx hb dL_law_642 rfl (lv_at hl 2 rfl) ?_
  refine lw_ldi C hi hl hS 1 (by decide) (by decide) dL_law_643 dL_law_644 dL_law_645 dL_law_646 dL_law_647 ?_
  refine kV C0 (ctX7_list l (mo := A 24) e2) gL_law_X7_list rfl kdvX7_list ⟨rfl, rfl⟩ ⟨by decide, by decide⟩ kT_blind (va_recv hKn hP (ci := 4) (q0 := 24) rfl rfl) (fun _ _ _ => trivial) rfl hl [.int r] rfl (Nat.le_of_ble_eq_true rfl) dL_law_648 lw_rm ?_
  refine lw_cmpi C (tgt := 1627) dL_law_651 (by decide) ?_
  exact hK cnt wX wY wP wl sR sC sS sE k1 k2 k3 k4 k5 st tc tz tr mw ml mp mq mX mY ms mst mr mc mo mu ⟨hW, hSt, hT, hO⟩ _ _ hP hS
set_option maxHeartbeats 4000000 in
set_option maxRecDepth 100000 in
/-- case 8: factor -/
theorem lw_c8 (C : lwC p s m meth c b L xs D cI cT A R aL) (hi : i + 6 ≤ L) (hl : lv_has ls 4 (lwL b A i)) (hI : lwI cnt wX wY wP wl sR sC sS sE k1 k2 k3 k4 k5 st tc tz tr mw ml mp mq mX mY ms mst mr mc mo mu) (hP : va_P D vwCl (lwW cI cT A R cnt wX wY wP wl sR sC sS sE k1 k2 k3 k4 k5 st tc tz tr mw ml mp mq mX mY ms mst mr mc mo mu) H) (hS : lwS s H locs) (hK : lwK p l e s m below meth c b D cI cT A R ls) : lwG p l e s m below meth c b H locs 656 ls [] := by
  have C9 := C
  obtain ⟨C0, hX, hbl, hKn, hnd, hAd, hRr, hLz, hL⟩ := C9
  have C8 := C0
  obtain ⟨hx, hb, -⟩ := C8
  obtain ⟨hW, hSt, hT, hO⟩ := hI
  obtain ⟨r, e1, e2⟩ := op_factor (L64 (xs (i + 1)) (xs (i + (1 + 1)))) (xs (i + 3))
  refine lv_aload_n hx hb dL_law_656 rfl (lv_at hl 1 rfl) ?_
  refine lw_ldl C hi hl hS 1 (by decide) (by decide) (by decide) dL_law_657 dL_law_658 dL_law_659 dL_law_660 dL_law_661 dL_law_662 dL_law_663 dL_law_665 dL_law_666 dL_law_667 dL_law_668 dL_law_669 dL_law_670 dL_law_671 dL_law_672 dL_law_675 dL_law_676 ?_
  refine lw_ldi C hi hl hS 3 (by decide) (by decide) dL_law_677 dL_law_678 dL_law_679 dL_law_680 dL_law_681 ?_
  refine kV C0 (ctX6_factor l (D := D) (cI := cI) (cT := cT) (xo := A 0) (aL := aL) e1) gL_law_X6_factor rfl kdvX6_factor ⟨rfl, rfl⟩ ⟨by decide, by decide⟩ kW_blind (va_recv hKn hP (ci := 3) (q0 := 0) rfl rfl) (kW_use hKn va_P0 (kL_at hLz hS (fun _ h => h.elim))) rfl hl [] rfl (Nat.le_of_ble_eq_true rfl) dL_law_682 lw_rm ?_
  refine lv_aload_n hx hb dL_law_685 rfl (lv_at hl 2 rfl) ?_
  refine lw_ldl C hi hl hS 1 (by decide) (by decide) (by decide) dL_law_686 dL_law_687 dL_law_688 dL_law_689 dL_law_690 dL_law_691 dL_law_692 dL_law_694 dL_law_695 dL_law_696 dL_law_697 dL_law_698 dL_law_699 dL_law_700 dL_law_701 dL_law_704 dL_law_705 ?_
  refine lw_ldi C hi hl hS 3 (by decide) (by decide) dL_law_706 dL_law_707 dL_law_708 dL_law_709 dL_law_710 ?_
  refine kV C0 (ctX7_factor l (mo := A 24) e2) gL_law_X7_factor rfl kdvX7_factor ⟨rfl, rfl⟩ ⟨by decide, by decide⟩ kT_blind (va_recv hKn hP (ci := 4) (q0 := 24) rfl rfl) (fun _ _ _ => trivial) rfl hl [.int r] rfl (Nat.le_of_ble_eq_true rfl) dL_law_711 lw_rm ?_
  refine lw_cmpi C (tgt := 1627) dL_law_714 (by decide) ?_
  exact hK cnt wX wY wP wl sR sC sS sE k1 k2 k3 k4 k5 st tc tz tr mw ml mp mq mX mY ms mst mr mc mo mu ⟨hW, hSt, hT, hO⟩ _ _ hP hS
set_option maxHeartbeats 4000000 in
set_option maxRecDepth 100000 in
/-- case 9: root -/
theorem lw_c9 (C : lwC p s m meth c b L xs D cI cT A R aL) (hi : i + 6 ≤ L) (hl : lv_has ls 4 (lwL b A i)) (hI : lwI cnt wX wY wP wl sR sC sS sE k1 k2 k3 k4 k5 st tc tz tr mw ml mp mq mX mY ms mst mr mc mo mu) (hP : va_P D vwCl (lwW cI cT A R cnt wX wY wP wl sR sC sS sE k1 k2 k3 k4 k5 st tc tz tr mw ml mp mq mX mY ms mst mr mc mo mu) H) (hS : lwS s H locs) (hK : lwK p l e s m below meth c b D cI cT A R ls) : lwG p l e s m below meth c b H locs 719 ls [] := by
  have C9 := C
  obtain ⟨C0, hX, hbl, hKn, hnd, hAd, hRr, hLz, hL⟩ := C9
  have C8 := C0
  obtain ⟨hx, hb, -⟩ := C8
  obtain ⟨hW, hSt, hT, hO⟩ := hI
  obtain ⟨r, e1, e2⟩ := op_root (L64 (xs (i + 1)) (xs (i + (1 + 1)))) (xs (i + 3))
  refine lv_aload_n hx hb dL_law_719 rfl (lv_at hl 1 rfl) ?_
  refine lw_ldl C hi hl hS 1 (by decide) (by decide) (by decide) dL_law_720 dL_law_721 dL_law_722 dL_law_723 dL_law_724 dL_law_725 dL_law_726 dL_law_728 dL_law_729 dL_law_730 dL_law_731 dL_law_732 dL_law_733 dL_law_734 dL_law_735 dL_law_738 dL_law_739 ?_
  refine lw_ldi C hi hl hS 3 (by decide) (by decide) dL_law_740 dL_law_741 dL_law_742 dL_law_743 dL_law_744 ?_
  refine kV C0 (ctX6_root l (xo := A 0) e1) gL_law_X6_root rfl kdvX6_root ⟨rfl, rfl⟩ ⟨by decide, by decide⟩ kT_blind (va_recv hKn hP (ci := 3) (q0 := 0) rfl rfl) (fun _ _ _ => trivial) rfl hl [] rfl (Nat.le_of_ble_eq_true rfl) dL_law_745 lw_rm ?_
  refine lv_aload_n hx hb dL_law_748 rfl (lv_at hl 2 rfl) ?_
  refine lw_ldl C hi hl hS 1 (by decide) (by decide) (by decide) dL_law_749 dL_law_750 dL_law_751 dL_law_752 dL_law_753 dL_law_754 dL_law_755 dL_law_757 dL_law_758 dL_law_759 dL_law_760 dL_law_761 dL_law_762 dL_law_763 dL_law_764 dL_law_767 dL_law_768 ?_
  refine lw_ldi C hi hl hS 3 (by decide) (by decide) dL_law_769 dL_law_770 dL_law_771 dL_law_772 dL_law_773 ?_
  refine kV C0 (ctX7_root l (mo := A 24) e2) gL_law_X7_root rfl kdvX7_root ⟨rfl, rfl⟩ ⟨by decide, by decide⟩ kT_blind (va_recv hKn hP (ci := 4) (q0 := 24) rfl rfl) (fun _ _ _ => trivial) rfl hl [.long r] rfl (Nat.le_of_ble_eq_true rfl) dL_law_774 lw_rm ?_
  refine lw_cmpl C (tgt := 1627) dL_law_777 dL_law_778 (by decide) ?_
  exact hK cnt wX wY wP wl sR sC sS sE k1 k2 k3 k4 k5 st tc tz tr mw ml mp mq mX mY ms mst mr mc mo mu ⟨hW, hSt, hT, hO⟩ _ _ hP hS
set_option maxHeartbeats 4000000 in
set_option maxRecDepth 100000 in
/-- case 10: times -/
theorem lw_c10 (C : lwC p s m meth c b L xs D cI cT A R aL) (hi : i + 6 ≤ L) (hl : lv_has ls 4 (lwL b A i)) (hI : lwI cnt wX wY wP wl sR sC sS sE k1 k2 k3 k4 k5 st tc tz tr mw ml mp mq mX mY ms mst mr mc mo mu) (hP : va_P D vwCl (lwW cI cT A R cnt wX wY wP wl sR sC sS sE k1 k2 k3 k4 k5 st tc tz tr mw ml mp mq mX mY ms mst mr mc mo mu) H) (hS : lwS s H locs) (hK : lwK p l e s m below meth c b D cI cT A R ls) : lwG p l e s m below meth c b H locs 783 ls [] := by
  have C9 := C
  obtain ⟨C0, hX, hbl, hKn, hnd, hAd, hRr, hLz, hL⟩ := C9
  have C8 := C0
  obtain ⟨hx, hb, -⟩ := C8
  obtain ⟨hW, hSt, hT, hO⟩ := hI
  obtain ⟨r, a1, a2, a3, a4, b1, b2, b3, b4, b5, b6, e1, e2, g⟩ := op_times hW (L64 (xs (i + 1)) (xs (i + (1 + 1)))) (L64 (xs (i + 3)) (xs (i + (3 + 1))))
  refine lv_aload_n hx hb dL_law_783 rfl (lv_at hl 1 rfl) ?_
  refine lw_ldl C hi hl hS 1 (by decide) (by decide) (by decide) dL_law_784 dL_law_785 dL_law_786 dL_law_787 dL_law_788 dL_law_789 dL_law_790 dL_law_792 dL_law_793 dL_law_794 dL_law_795 dL_law_796 dL_law_797 dL_law_798 dL_law_799 dL_law_802 dL_law_803 ?_
  refine lw_ldl C hi hl hS 3 (by decide) (by decide) (by decide) dL_law_804 dL_law_805 dL_law_806 dL_law_807 dL_law_808 dL_law_809 dL_law_810 dL_law_812 dL_law_813 dL_law_814 dL_law_815 dL_law_816 dL_law_817 dL_law_818 dL_law_819 dL_law_822 dL_law_823 ?_
  refine kVx C0 (ctX6_times l (D := D) (cI := cI) (cT := cT) (xo := A 0) (wo := A 1) (x_tablets_a := A 11) (so := A 5) (x_steps_a := A 10) (w_ofX_a := A 2) (w_ofY_a := A 3) (w_places_a := A 4) (x_stepCount := cnt) (w_ofX := wX) (w_ofY := wY) (w_places := wP) (w_lines := wl) (nd_sub hnd [0, 1, 2, 3, 4] (by decide) rfl) e1) gL_law_X6_times rfl kdvX6_times ⟨rfl, rfl⟩ ⟨by decide, by decide⟩ kW_blind (va_recv hKn hP (ci := 3) (q0 := 0) rfl rfl) (kW_use hKn (hP.sub [0, 1, 2, 3, 4] rfl) kL_no) rfl hl [] rfl (Nat.le_of_ble_eq_true rfl) dL_law_824 lw_rm hS (fun q h => hAd q (mem_sub [0, 1, 2, 3, 4] rfl q h)) (fun H1 locs1 hP1 hk1 hS1 => ?_)
  replace hP : va_P D vwCl (lwW cI cT A R cnt a1 a2 a3 a4 sR sC sS sE k1 k2 k3 k4 k5 st tc tz tr mw ml mp mq mX mY ms mst mr mc mo mu) H1 := kjoin hnd rfl hP hP1 hk1 [0, 1, 2, 3, 4] rfl [(true, 0), (true, 1), (true, 2), (true, 3), (true, 4), (false, 5), (false, 6), (false, 7), (false, 8), (false, 9), (false, 10), (false, 11), (false, 12), (false, 13), (false, 14), (false, 15), (false, 16), (false, 17), (false, 18), (false, 19), (false, 20), (false, 21), (false, 22), (false, 23), (false, 24), (false, 25), (false, 26), (false, 27), (false, 28), (false, 29), (false, 30), (false, 31), (false, 32), (false, 33)] rfl rfl
  replace hS := hS1
  show lwG p l e s m below meth c b H1 locs1 827 ls [.int r]
  refine lv_aload_n hx hb dL_law_827 rfl (lv_at hl 2 rfl) ?_
  refine lw_ldl C hi hl hS 1 (by decide) (by decide) (by decide) dL_law_828 dL_law_829 dL_law_830 dL_law_831 dL_law_832 dL_law_833 dL_law_834 dL_law_836 dL_law_837 dL_law_838 dL_law_839 dL_law_840 dL_law_841 dL_law_842 dL_law_843 dL_law_846 dL_law_847 ?_
  refine lw_ldl C hi hl hS 3 (by decide) (by decide) (by decide) dL_law_848 dL_law_849 dL_law_850 dL_law_851 dL_law_852 dL_law_853 dL_law_854 dL_law_856 dL_law_857 dL_law_858 dL_law_859 dL_law_860 dL_law_861 dL_law_862 dL_law_863 dL_law_866 dL_law_867 ?_
  refine kVx C0 (ctX7_times_ l (D := D) (cI := cI) (cT := cT) (mo := A 24) (m_product_a := A 25) (m_place_a := A 26) (m_ofX_a := A 27) (m_ofY_a := A 28) (m_step_a := A 29) (m_rows_a := A 30) (m_cell_a := A 31) (m_overs_a := A 32) (m_sure_a := A 33) (m_isWorked := mw) (m_lines := ml) (m_product := mp) (m_place := mq) (m_ofX := mX) (m_ofY := mY) (m_steps := ms) (m_step := mst) (m_rows := mr) (m_cell := mc) (m_overs := mo) (m_sure := mu) (nd_sub hnd [24, 25, 26, 27, 28, 29, 30, 31, 32, 33] (by decide) rfl) e2) gL_law_X7_times_ rfl kdvX7_times_ ⟨rfl, rfl⟩ ⟨by decide, by decide⟩ kW_blind (va_recv hKn hP (ci := 4) (q0 := 24) rfl rfl) (kW_use hKn (hP.sub [24, 25, 26, 27, 28, 29, 30, 31, 32, 33] rfl) kL_no) rfl hl [.int r] rfl (Nat.le_of_ble_eq_true rfl) dL_law_868 lw_rm hS (fun q h => hAd q (mem_sub [24, 25, 26, 27, 28, 29, 30, 31, 32, 33] rfl q h)) (fun H1 locs1 hP1 hk1 hS1 => ?_)
  replace hP : va_P D vwCl (lwW cI cT A R cnt a1 a2 a3 a4 sR sC sS sE k1 k2 k3 k4 k5 st tc tz tr b1 b2 b3 b4 b5 b6 ms mst mr mc mo mu) H1 := kjoin hnd rfl hP hP1 hk1 [24, 25, 26, 27, 28, 29, 30, 31, 32, 33] rfl [(false, 0), (false, 1), (false, 2), (false, 3), (false, 4), (false, 5), (false, 6), (false, 7), (false, 8), (false, 9), (false, 10), (false, 11), (false, 12), (false, 13), (false, 14), (false, 15), (false, 16), (false, 17), (false, 18), (false, 19), (false, 20), (false, 21), (false, 22), (false, 23), (true, 0), (true, 1), (true, 2), (true, 3), (true, 4), (true, 5), (true, 6), (true, 7), (true, 8), (true, 9)] rfl rfl
  replace hS := hS1
  show lwG p l e s m below meth c b H1 locs1 871 ls [.int r, .int r]
  refine lw_cmpi C (tgt := 1627) dL_law_871 (by decide) ?_
  exact hK cnt a1 a2 a3 a4 sR sC sS sE k1 k2 k3 k4 k5 st tc tz tr b1 b2 b3 b4 b5 b6 ms mst mr mc mo mu ⟨g, hSt, hT, hO⟩ _ _ hP hS
set_option maxHeartbeats 4000000 in
set_option maxRecDepth 100000 in
/-- case 11: line -/
theorem lw_c11 (C : lwC p s m meth c b L xs D cI cT A R aL) (hi : i + 6 ≤ L) (hl : lv_has ls 4 (lwL b A i)) (hI : lwI cnt wX wY wP wl sR sC sS sE k1 k2 k3 k4 k5 st tc tz tr mw ml mp mq mX mY ms mst mr mc mo mu) (hP : va_P D vwCl (lwW cI cT A R cnt wX wY wP wl sR sC sS sE k1 k2 k3 k4 k5 st tc tz tr mw ml mp mq mX mY ms mst mr mc mo mu) H) (hS : lwS s H locs) (hK : lwK p l e s m below meth c b D cI cT A R ls) : lwG p l e s m below meth c b H locs 876 ls [] := by
  have C9 := C
  obtain ⟨C0, hX, hbl, hKn, hnd, hAd, hRr, hLz, hL⟩ := C9
  have C8 := C0
  obtain ⟨hx, hb, -⟩ := C8
  obtain ⟨hW, hSt, hT, hO⟩ := hI
  obtain ⟨r, e1, e2⟩ := op_line hW (xs (i + 1)) (xs (i + 2))
  refine lv_aload_n hx hb dL_law_876 rfl (lv_at hl 1 rfl) ?_
  refine lw_ldi C hi hl hS 1 (by decide) (by decide) dL_law_877 dL_law_878 dL_law_879 dL_law_880 dL_law_881 ?_
  refine lw_ldi C hi hl hS 2 (by decide) (by decide) dL_law_882 dL_law_883 dL_law_884 dL_law_885 dL_law_886 ?_
  refine kV C0 (ctX6_line l (D := D) (cI := cI) (cT := cT) (xo := A 0) (wo := A 1) (x_tablets_a := A 11) (so := A 5) (x_steps_a := A 10) (w_ofX_a := A 2) (w_ofY_a := A 3) (w_places_a := A 4) (x_stepCount := cnt) (w_ofX := wX) (w_ofY := wY) (w_places := wP) (w_lines := wl) e1) gL_law_X6_line rfl kdvX6_line ⟨rfl, rfl⟩ ⟨by decide, by decide⟩ kW_blind (va_recv hKn hP (ci := 3) (q0 := 0) rfl rfl) (kW_use hKn (hP.sub [0, 1, 2, 3, 4] rfl) kL_no) rfl hl [] rfl (Nat.le_of_ble_eq_true rfl) dL_law_887 lw_rm ?_
  refine lv_aload_n hx hb dL_law_890 rfl (lv_at hl 2 rfl) ?_
  refine lw_ldi C hi hl hS 1 (by decide) (by decide) dL_law_891 dL_law_892 dL_law_893 dL_law_894 dL_law_895 ?_
  refine lw_ldi C hi hl hS 2 (by decide) (by decide) dL_law_896 dL_law_897 dL_law_898 dL_law_899 dL_law_900 ?_
  refine kV C0 (ctX7_line l (D := D) (cI := cI) (cT := cT) (mo := A 24) (m_product_a := A 25) (m_place_a := A 26) (m_ofX_a := A 27) (m_ofY_a := A 28) (m_step_a := A 29) (m_rows_a := A 30) (m_cell_a := A 31) (m_overs_a := A 32) (m_sure_a := A 33) (m_isWorked := mw) (m_lines := ml) (m_product := mp) (m_place := mq) (m_ofX := mX) (m_ofY := mY) (m_steps := ms) (m_step := mst) (m_rows := mr) (m_cell := mc) (m_overs := mo) (m_sure := mu) e2) gL_law_X7_line rfl kdvX7_line ⟨rfl, rfl⟩ ⟨by decide, by decide⟩ kW_blind (va_recv hKn hP (ci := 4) (q0 := 24) rfl rfl) (kW_use hKn (hP.sub [24, 25, 26, 27, 28, 29, 30, 31, 32, 33] rfl) kL_no) rfl hl [.int r] rfl (Nat.le_of_ble_eq_true rfl) dL_law_901 lw_rm ?_
  refine lw_cmpi C (tgt := 1627) dL_law_904 (by decide) ?_
  exact hK cnt wX wY wP wl sR sC sS sE k1 k2 k3 k4 k5 st tc tz tr mw ml mp mq mX mY ms mst mr mc mo mu ⟨hW, hSt, hT, hO⟩ _ _ hP hS
set_option maxHeartbeats 4000000 in
set_option maxRecDepth 100000 in
/-- case 12: sum -/
theorem lw_c12 (C : lwC p s m meth c b L xs D cI cT A R aL) (hi : i + 6 ≤ L) (hl : lv_has ls 4 (lwL b A i)) (hI : lwI cnt wX wY wP wl sR sC sS sE k1 k2 k3 k4 k5 st tc tz tr mw ml mp mq mX mY ms mst mr mc mo mu) (hP : va_P D vwCl (lwW cI cT A R cnt wX wY wP wl sR sC sS sE k1 k2 k3 k4 k5 st tc tz tr mw ml mp mq mX mY ms mst mr mc mo mu) H) (hS : lwS s H locs) (hK : lwK p l e s m below meth c b D cI cT A R ls) : lwG p l e s m below meth c b H locs 909 ls [] := by
  have C9 := C
  obtain ⟨C0, hX, hbl, hKn, hnd, hAd, hRr, hLz, hL⟩ := C9
  have C8 := C0
  obtain ⟨hx, hb, -⟩ := C8
  obtain ⟨hW, hSt, hT, hO⟩ := hI
  obtain ⟨r, e1, e2⟩ := op_sum hW (xs (i + 1))
  refine lv_aload_n hx hb dL_law_909 rfl (lv_at hl 1 rfl) ?_
  refine lw_ldi C hi hl hS 1 (by decide) (by decide) dL_law_910 dL_law_911 dL_law_912 dL_law_913 dL_law_914 ?_
  refine kV C0 (ctX6_sum l (D := D) (cI := cI) (cT := cT) (xo := A 0) (wo := A 1) (x_tablets_a := A 11) (so := A 5) (x_steps_a := A 10) (w_ofX_a := A 2) (w_ofY_a := A 3) (w_places_a := A 4) (x_stepCount := cnt) (w_ofX := wX) (w_ofY := wY) (w_places := wP) (w_lines := wl) e1) gL_law_X6_sum rfl kdvX6_sum ⟨rfl, rfl⟩ ⟨by decide, by decide⟩ kW_blind (va_recv hKn hP (ci := 3) (q0 := 0) rfl rfl) (kW_use hKn (hP.sub [0, 1, 2, 3, 4] rfl) kL_no) rfl hl [] rfl (Nat.le_of_ble_eq_true rfl) dL_law_915 lw_rm ?_
  refine lv_aload_n hx hb dL_law_918 rfl (lv_at hl 2 rfl) ?_
  refine lw_ldi C hi hl hS 1 (by decide) (by decide) dL_law_919 dL_law_920 dL_law_921 dL_law_922 dL_law_923 ?_
  refine kV C0 (ctX7_sum l (D := D) (cI := cI) (cT := cT) (mo := A 24) (m_product_a := A 25) (m_place_a := A 26) (m_ofX_a := A 27) (m_ofY_a := A 28) (m_step_a := A 29) (m_rows_a := A 30) (m_cell_a := A 31) (m_overs_a := A 32) (m_sure_a := A 33) (m_isWorked := mw) (m_lines := ml) (m_product := mp) (m_place := mq) (m_ofX := mX) (m_ofY := mY) (m_steps := ms) (m_step := mst) (m_rows := mr) (m_cell := mc) (m_overs := mo) (m_sure := mu) e2) gL_law_X7_sum rfl kdvX7_sum ⟨rfl, rfl⟩ ⟨by decide, by decide⟩ kW_blind (va_recv hKn hP (ci := 4) (q0 := 24) rfl rfl) (kW_use hKn (hP.sub [24, 25, 26, 27, 28, 29, 30, 31, 32, 33] rfl) kL_no) rfl hl [.long r] rfl (Nat.le_of_ble_eq_true rfl) dL_law_924 lw_rm ?_
  refine lw_cmpl C (tgt := 1627) dL_law_927 dL_law_928 (by decide) ?_
  exact hK cnt wX wY wP wl sR sC sS sE k1 k2 k3 k4 k5 st tc tz tr mw ml mp mq mX mY ms mst mr mc mo mu ⟨hW, hSt, hT, hO⟩ _ _ hP hS
set_option maxHeartbeats 4000000 in
set_option maxRecDepth 100000 in
/-- case 13: slip -/
theorem lw_c13 (C : lwC p s m meth c b L xs D cI cT A R aL) (hi : i + 6 ≤ L) (hl : lv_has ls 4 (lwL b A i)) (hI : lwI cnt wX wY wP wl sR sC sS sE k1 k2 k3 k4 k5 st tc tz tr mw ml mp mq mX mY ms mst mr mc mo mu) (hP : va_P D vwCl (lwW cI cT A R cnt wX wY wP wl sR sC sS sE k1 k2 k3 k4 k5 st tc tz tr mw ml mp mq mX mY ms mst mr mc mo mu) H) (hS : lwS s H locs) (hK : lwK p l e s m below meth c b D cI cT A R ls) : lwG p l e s m below meth c b H locs 933 ls [] := by
  have C9 := C
  obtain ⟨C0, hX, hbl, hKn, hnd, hAd, hRr, hLz, hL⟩ := C9
  have C8 := C0
  obtain ⟨hx, hb, -⟩ := C8
  obtain ⟨hW, hSt, hT, hO⟩ := hI
  obtain ⟨r, e1, e2⟩ := op_slip hW (xs (i + 1)) (xs (i + 2)) (xs (i + 3)) (xs (i + 4))
  refine lv_aload_n hx hb dL_law_933 rfl (lv_at hl 1 rfl) ?_
  refine lw_ldi C hi hl hS 1 (by decide) (by decide) dL_law_934 dL_law_935 dL_law_936 dL_law_937 dL_law_938 ?_
  refine lw_ldi C hi hl hS 2 (by decide) (by decide) dL_law_939 dL_law_940 dL_law_941 dL_law_942 dL_law_943 ?_
  refine lw_ldi C hi hl hS 3 (by decide) (by decide) dL_law_944 dL_law_945 dL_law_946 dL_law_947 dL_law_948 ?_
  refine lw_ldi C hi hl hS 4 (by decide) (by decide) dL_law_949 dL_law_950 dL_law_951 dL_law_952 dL_law_953 ?_
  refine kV C0 (ctX6_slip l (D := D) (cI := cI) (cT := cT) (xo := A 0) (wo := A 1) (x_tablets_a := A 11) (so := A 5) (x_steps_a := A 10) (w_ofX_a := A 2) (w_ofY_a := A 3) (w_places_a := A 4) (x_stepCount := cnt) (w_ofX := wX) (w_ofY := wY) (w_places := wP) (w_lines := wl) e1) gL_law_X6_slip rfl kdvX6_slip ⟨rfl, rfl⟩ ⟨by decide, by decide⟩ kW_blind (va_recv hKn hP (ci := 3) (q0 := 0) rfl rfl) (kW_use hKn (hP.sub [0, 1, 2, 3, 4] rfl) kL_no) rfl hl [] rfl (Nat.le_of_ble_eq_true rfl) dL_law_954 lw_rm ?_
  refine lv_aload_n hx hb dL_law_957 rfl (lv_at hl 2 rfl) ?_
  refine lw_ldi C hi hl hS 1 (by decide) (by decide) dL_law_958 dL_law_959 dL_law_960 dL_law_961 dL_law_962 ?_
  refine lw_ldi C hi hl hS 2 (by decide) (by decide) dL_law_963 dL_law_964 dL_law_965 dL_law_966 dL_law_967 ?_
  refine lw_ldi C hi hl hS 3 (by decide) (by decide) dL_law_968 dL_law_969 dL_law_970 dL_law_971 dL_law_972 ?_
  refine lw_ldi C hi hl hS 4 (by decide) (by decide) dL_law_973 dL_law_974 dL_law_975 dL_law_976 dL_law_977 ?_
  refine kV C0 (ctX7_slip l (D := D) (cI := cI) (cT := cT) (mo := A 24) (m_product_a := A 25) (m_place_a := A 26) (m_ofX_a := A 27) (m_ofY_a := A 28) (m_step_a := A 29) (m_rows_a := A 30) (m_cell_a := A 31) (m_overs_a := A 32) (m_sure_a := A 33) (m_isWorked := mw) (m_lines := ml) (m_product := mp) (m_place := mq) (m_ofX := mX) (m_ofY := mY) (m_steps := ms) (m_step := mst) (m_rows := mr) (m_cell := mc) (m_overs := mo) (m_sure := mu) e2) gL_law_X7_slip rfl kdvX7_slip ⟨rfl, rfl⟩ ⟨by decide, by decide⟩ kW_blind (va_recv hKn hP (ci := 4) (q0 := 24) rfl rfl) (kW_use hKn (hP.sub [24, 25, 26, 27, 28, 29, 30, 31, 32, 33] rfl) kL_no) rfl hl [.long r] rfl (Nat.le_of_ble_eq_true rfl) dL_law_978 lw_rm ?_
  refine lw_cmpl C (tgt := 1627) dL_law_981 dL_law_982 (by decide) ?_
  exact hK cnt wX wY wP wl sR sC sS sE k1 k2 k3 k4 k5 st tc tz tr mw ml mp mq mX mY ms mst mr mc mo mu ⟨hW, hSt, hT, hO⟩ _ _ hP hS
set_option maxHeartbeats 4000000 in
set_option maxRecDepth 100000 in
/-- case 14: blame -/
theorem lw_c14 (C : lwC p s m meth c b L xs D cI cT A R aL) (hi : i + 6 ≤ L) (hl : lv_has ls 4 (lwL b A i)) (hI : lwI cnt wX wY wP wl sR sC sS sE k1 k2 k3 k4 k5 st tc tz tr mw ml mp mq mX mY ms mst mr mc mo mu) (hP : va_P D vwCl (lwW cI cT A R cnt wX wY wP wl sR sC sS sE k1 k2 k3 k4 k5 st tc tz tr mw ml mp mq mX mY ms mst mr mc mo mu) H) (hS : lwS s H locs) (hK : lwK p l e s m below meth c b D cI cT A R ls) : lwG p l e s m below meth c b H locs 987 ls [] := by
  have C9 := C
  obtain ⟨C0, hX, hbl, hKn, hnd, hAd, hRr, hLz, hL⟩ := C9
  have C8 := C0
  obtain ⟨hx, hb, -⟩ := C8
  obtain ⟨hW, hSt, hT, hO⟩ := hI
  obtain ⟨r, e1, e2⟩ := op_blame hW (L64 (xs (i + 1)) (xs (i + (1 + 1)))) (xs (i + 3))
  refine lv_aload_n hx hb dL_law_987 rfl (lv_at hl 1 rfl) ?_
  refine lw_ldl C hi hl hS 1 (by decide) (by decide) (by decide) dL_law_988 dL_law_989 dL_law_990 dL_law_991 dL_law_992 dL_law_993 dL_law_994 dL_law_996 dL_law_997 dL_law_998 dL_law_999 dL_law_1000 dL_law_1001 dL_law_1002 dL_law_1003 dL_law_1006 dL_law_1007 ?_
  refine lw_ldi C hi hl hS 3 (by decide) (by decide) dL_law_1008 dL_law_1009 dL_law_1010 dL_law_1011 dL_law_1012 ?_
  refine kV C0 (ctX6_blame l (D := D) (cI := cI) (cT := cT) (xo := A 0) (wo := A 1) (x_tablets_a := A 11) (so := A 5) (x_steps_a := A 10) (w_ofX_a := A 2) (w_ofY_a := A 3) (w_places_a := A 4) (x_stepCount := cnt) (w_ofX := wX) (w_ofY := wY) (w_places := wP) (w_lines := wl) e1) gL_law_X6_blame rfl kdvX6_blame ⟨rfl, rfl⟩ ⟨by decide, by decide⟩ kW_blind (va_recv hKn hP (ci := 3) (q0 := 0) rfl rfl) (kW_use hKn (hP.sub [0, 1, 2, 3, 4] rfl) kL_no) rfl hl [] rfl (Nat.le_of_ble_eq_true rfl) dL_law_1013 lw_rm ?_
  refine lv_aload_n hx hb dL_law_1016 rfl (lv_at hl 2 rfl) ?_
  refine lw_ldl C hi hl hS 1 (by decide) (by decide) (by decide) dL_law_1017 dL_law_1018 dL_law_1019 dL_law_1020 dL_law_1021 dL_law_1022 dL_law_1023 dL_law_1025 dL_law_1026 dL_law_1027 dL_law_1028 dL_law_1029 dL_law_1030 dL_law_1031 dL_law_1032 dL_law_1035 dL_law_1036 ?_
  refine lw_ldi C hi hl hS 3 (by decide) (by decide) dL_law_1037 dL_law_1038 dL_law_1039 dL_law_1040 dL_law_1041 ?_
  refine kV C0 (ctX7_blame l (D := D) (cI := cI) (cT := cT) (mo := A 24) (m_product_a := A 25) (m_place_a := A 26) (m_ofX_a := A 27) (m_ofY_a := A 28) (m_step_a := A 29) (m_rows_a := A 30) (m_cell_a := A 31) (m_overs_a := A 32) (m_sure_a := A 33) (m_isWorked := mw) (m_lines := ml) (m_product := mp) (m_place := mq) (m_ofX := mX) (m_ofY := mY) (m_steps := ms) (m_step := mst) (m_rows := mr) (m_cell := mc) (m_overs := mo) (m_sure := mu) e2) gL_law_X7_blame rfl kdvX7_blame ⟨rfl, rfl⟩ ⟨by decide, by decide⟩ kW_blind (va_recv hKn hP (ci := 4) (q0 := 24) rfl rfl) (kW_use hKn (hP.sub [24, 25, 26, 27, 28, 29, 30, 31, 32, 33] rfl) kL_no) rfl hl [.int r] rfl (Nat.le_of_ble_eq_true rfl) dL_law_1042 lw_rm ?_
  refine lw_cmpi C (tgt := 1627) dL_law_1045 (by decide) ?_
  exact hK cnt wX wY wP wl sR sC sS sE k1 k2 k3 k4 k5 st tc tz tr mw ml mp mq mX mY ms mst mr mc mo mu ⟨hW, hSt, hT, hO⟩ _ _ hP hS
end LAWC
