/-! ===== the law: its cases ===== -/
section LCS
variable {Γ : GT} {rt : Option FieldType} {k : Nat}
theorem lc_begin (g : GM Γ x cL_law 4 rt k) {L i : Nat} {xs : Nat → Int32} (gx : GX Γ L xs) (hk : 20 ≤ k) (hi : i + 6 ≤ L) {q : SP} (hI : SI q) (kk : ∀ q1, SI q1 → LB Γ 1399 [some (.float 4), some (.ref 0), some (.ref 52), some (.int (nI i))] [] (q1, q1)) : LB Γ 188 [some (.float 4), some (.ref 0), some (.ref 52), some (.int (nI i))] [] (q, q) := by
  refine lb_aload_n1 g dL_law_188 ?_
  refine lb_arg g gx 1 (by omega) dL_law_189 dL_law_190 dL_law_191 rfl dL_law_192 dL_law_193 ?_
  refine lb_Di g qL_13 dL_law_194 (0 + 6) (Nat.le_trans (by decide) hk) [.int (xs (i + 1))] rfl (Nat.le_of_ble_eq_true rfl) (fun _ _ => rfl) (fun h0 hh => x_begin 0 q _ h0 hh hI) ?_
  refine lb_aload_n2 g dL_law_197 ?_
  refine lb_arg g gx 1 (by omega) dL_law_198 dL_law_199 dL_law_200 rfl dL_law_201 dL_law_202 ?_
  refine lb_Mi g qL_17 dL_law_203 (0 + 6) (Nat.le_trans (by decide) hk) [.int (xs (i + 1))] rfl (Nat.le_of_ble_eq_true rfl) (fun _ _ => rfl) (fun h0 hh => m_begin 0 q _ h0 hh hI) ?_
  refine lb_icmp_eq g 1399 dL_law_206 (by decide) (fun _ => ?_) (fun ne => absurd rfl ne)
  exact kk _ (si_begin _ hI)
theorem lc_pack (g : GM Γ x cL_law 4 rt k) {L i : Nat} {xs : Nat → Int32} (gx : GX Γ L xs) (hk : 20 ≤ k) (hi : i + 6 ≤ L) {q : SP} (hI : SI q) (kk : ∀ q1, SI q1 → LB Γ 1399 [some (.float 4), some (.ref 0), some (.ref 52), some (.int (nI i))] [] (q1, q1)) : LB Γ 211 [some (.float 4), some (.ref 0), some (.ref 52), some (.int (nI i))] [] (q, q) := by
  refine lb_aload_n1 g dL_law_211 ?_
  refine lb_Di g qL_18 dL_law_212 (0 + 7) (Nat.le_trans (by decide) hk) [] rfl (Nat.le_of_ble_eq_true rfl) (fun _ _ => rfl) (fun h0 hh => x_pack 0 q  h0 hh hI) ?_
  refine lb_aload_n2 g dL_law_215 ?_
  refine lb_Mi g qL_22 dL_law_216 (0 + 6) (Nat.le_trans (by decide) hk) [] rfl (Nat.le_of_ble_eq_true rfl) (fun _ _ => rfl) (fun h0 hh => m_pack 0 q  h0 hh hI) ?_
  refine lb_icmp_eq g 1399 dL_law_219 (by decide) (fun _ => ?_) (fun ne => absurd rfl ne)
  exact kk _ (si_pack hI)
theorem lc_ranked (g : GM Γ x cL_law 4 rt k) {L i : Nat} {xs : Nat → Int32} (gx : GX Γ L xs) (hk : 20 ≤ k) (hi : i + 6 ≤ L) {q : SP} (hI : SI q) (kk : ∀ q1, SI q1 → LB Γ 1399 [some (.float 4), some (.ref 0), some (.ref 52), some (.int (nI i))] [] (q1, q1)) : LB Γ 224 [some (.float 4), some (.ref 0), some (.ref 52), some (.int (nI i))] [] (q, q) := by
  refine lb_aload_n1 g dL_law_224 ?_
  refine lb_arg g gx 1 (by omega) dL_law_225 dL_law_226 dL_law_227 rfl dL_law_228 dL_law_229 ?_
  refine lb_Di g qL_23 dL_law_230 (0 + 6) (Nat.le_trans (by decide) hk) [.int (xs (i + 1))] rfl (Nat.le_of_ble_eq_true rfl) (fun _ _ => rfl) (fun h0 hh => x_ranked 0 q _ h0 hh hI) ?_
  refine lb_aload_n2 g dL_law_233 ?_
  refine lb_arg g gx 1 (by omega) dL_law_234 dL_law_235 dL_law_236 rfl dL_law_237 dL_law_238 ?_
  refine lb_Mi g qL_26 dL_law_239 (0 + 6) (Nat.le_trans (by decide) hk) [.int (xs (i + 1))] rfl (Nat.le_of_ble_eq_true rfl) (fun _ _ => rfl) (fun h0 hh => m_ranked 0 q _ h0 hh hI) ?_
  refine lb_icmp_eq g 1399 dL_law_242 (by decide) (fun _ => ?_) (fun ne => absurd rfl ne)
  exact kk _ (si_ranked _ hI)
theorem lc_told (g : GM Γ x cL_law 4 rt k) {L i : Nat} {xs : Nat → Int32} (gx : GX Γ L xs) (hk : 20 ≤ k) (hi : i + 6 ≤ L) {q : SP} (hI : SI q) (kk : ∀ q1, SI q1 → LB Γ 1399 [some (.float 4), some (.ref 0), some (.ref 52), some (.int (nI i))] [] (q1, q1)) : LB Γ 247 [some (.float 4), some (.ref 0), some (.ref 52), some (.int (nI i))] [] (q, q) := by
  refine lb_aload_n1 g dL_law_247 ?_
  refine lb_arg g gx 1 (by omega) dL_law_248 dL_law_249 dL_law_250 rfl dL_law_251 dL_law_252 ?_
  refine lb_arg g gx 2 (by omega) dL_law_253 dL_law_254 dL_law_255 rfl dL_law_256 dL_law_257 ?_
  refine lb_arg g gx 3 (by omega) dL_law_258 dL_law_259 dL_law_260 rfl dL_law_261 dL_law_262 ?_
  refine lb_Di g qL_27 dL_law_263 (0 + 6) (Nat.le_trans (by decide) hk) [.int (xs (i + 1)), .int (xs (i + 2)), .int (xs (i + 3))] rfl (Nat.le_of_ble_eq_true rfl) (fun _ _ => rfl) (fun h0 hh => x_told 0 q _ _ _ h0 hh hI) ?_
  refine lb_aload_n2 g dL_law_266 ?_
  refine lb_arg g gx 1 (by omega) dL_law_267 dL_law_268 dL_law_269 rfl dL_law_270 dL_law_271 ?_
  refine lb_arg g gx 2 (by omega) dL_law_272 dL_law_273 dL_law_274 rfl dL_law_275 dL_law_276 ?_
  refine lb_arg g gx 3 (by omega) dL_law_277 dL_law_278 dL_law_279 rfl dL_law_280 dL_law_281 ?_
  refine lb_Mi g qL_31 dL_law_282 (0 + 6) (Nat.le_trans (by decide) hk) [.int (xs (i + 1)), .int (xs (i + 2)), .int (xs (i + 3))] rfl (Nat.le_of_ble_eq_true rfl) (fun _ _ => rfl) (fun h0 hh => m_told 0 q _ _ _ h0 hh hI) ?_
  refine lb_icmp_eq g 1399 dL_law_285 (by decide) (fun _ => ?_) (fun ne => absurd rfl ne)
  exact kk _ (si_told _ _ _ hI)
theorem lc_card (g : GM Γ x cL_law 4 rt k) {L i : Nat} {xs : Nat → Int32} (gx : GX Γ L xs) (hk : 20 ≤ k) (hi : i + 6 ≤ L) {q : SP} (hI : SI q) (kk : ∀ q1, SI q1 → LB Γ 1399 [some (.float 4), some (.ref 0), some (.ref 52), some (.int (nI i))] [] (q1, q1)) : LB Γ 290 [some (.float 4), some (.ref 0), some (.ref 52), some (.int (nI i))] [] (q, q) := by
  refine lb_aload_n1 g dL_law_290 ?_
  refine lb_arg g gx 1 (by omega) dL_law_291 dL_law_292 dL_law_293 rfl dL_law_294 dL_law_295 ?_
  refine lb_arg g gx 2 (by omega) dL_law_296 dL_law_297 dL_law_298 rfl dL_law_299 dL_law_300 ?_
  refine lb_Di g qL_32 dL_law_301 (0 + 6) (Nat.le_trans (by decide) hk) [.int (xs (i + 1)), .int (xs (i + 2))] rfl (Nat.le_of_ble_eq_true rfl) (fun _ _ => rfl) (fun h0 hh => x_card 0 q _ _ h0 hh hI) ?_
  refine lb_aload_n2 g dL_law_304 ?_
  refine lb_arg g gx 1 (by omega) dL_law_305 dL_law_306 dL_law_307 rfl dL_law_308 dL_law_309 ?_
  refine lb_arg g gx 2 (by omega) dL_law_310 dL_law_311 dL_law_312 rfl dL_law_313 dL_law_314 ?_
  refine lb_Mi g qL_36 dL_law_315 (0 + 6) (Nat.le_trans (by decide) hk) [.int (xs (i + 1)), .int (xs (i + 2))] rfl (Nat.le_of_ble_eq_true rfl) (fun _ _ => rfl) (fun h0 hh => m_card 0 q _ _ h0 hh hI) ?_
  refine lb_icmp_eq g 1399 dL_law_318 (by decide) (fun _ => ?_) (fun ne => absurd rfl ne)
  exact kk _ hI
theorem lc_packTold (g : GM Γ x cL_law 4 rt k) {L i : Nat} {xs : Nat → Int32} (gx : GX Γ L xs) (hk : 20 ≤ k) (hi : i + 6 ≤ L) {q : SP} (hI : SI q) (kk : ∀ q1, SI q1 → LB Γ 1399 [some (.float 4), some (.ref 0), some (.ref 52), some (.int (nI i))] [] (q1, q1)) : LB Γ 323 [some (.float 4), some (.ref 0), some (.ref 52), some (.int (nI i))] [] (q, q) := by
  refine lb_aload_n1 g dL_law_323 ?_
  refine lb_arg g gx 1 (by omega) dL_law_324 dL_law_325 dL_law_326 rfl dL_law_327 dL_law_328 ?_
  refine lb_arg g gx 2 (by omega) dL_law_329 dL_law_330 dL_law_331 rfl dL_law_332 dL_law_333 ?_
  refine lb_Di g qL_37 dL_law_334 (0 + 6) (Nat.le_trans (by decide) hk) [.int (xs (i + 1)), .int (xs (i + 2))] rfl (Nat.le_of_ble_eq_true rfl) (fun _ _ => rfl) (fun h0 hh => x_packTold 0 q _ _ h0 hh hI) ?_
  refine lb_aload_n2 g dL_law_337 ?_
  refine lb_arg g gx 1 (by omega) dL_law_338 dL_law_339 dL_law_340 rfl dL_law_341 dL_law_342 ?_
  refine lb_arg g gx 2 (by omega) dL_law_343 dL_law_344 dL_law_345 rfl dL_law_346 dL_law_347 ?_
  refine lb_Mi g qL_40 dL_law_348 (0 + 6) (Nat.le_trans (by decide) hk) [.int (xs (i + 1)), .int (xs (i + 2))] rfl (Nat.le_of_ble_eq_true rfl) (fun _ _ => rfl) (fun h0 hh => m_packTold 0 q _ _ h0 hh hI) ?_
  refine lb_icmp_eq g 1399 dL_law_351 (by decide) (fun _ => ?_) (fun ne => absurd rfl ne)
  exact kk _ hI
theorem lc_move (g : GM Γ x cL_law 4 rt k) {L i : Nat} {xs : Nat → Int32} (gx : GX Γ L xs) (hk : 20 ≤ k) (hi : i + 6 ≤ L) {q : SP} (hI : SI q) (kk : ∀ q1, SI q1 → LB Γ 1399 [some (.float 4), some (.ref 0), some (.ref 52), some (.int (nI i))] [] (q1, q1)) : LB Γ 356 [some (.float 4), some (.ref 0), some (.ref 52), some (.int (nI i))] [] (q, q) := by
  refine lb_aload_n1 g dL_law_356 ?_
  refine lb_arg g gx 1 (by omega) dL_law_357 dL_law_358 dL_law_359 rfl dL_law_360 dL_law_361 ?_
  refine lb_Di g qL_41 dL_law_362 (0 + 6) (Nat.le_trans (by decide) hk) [.int (xs (i + 1))] rfl (Nat.le_of_ble_eq_true rfl) (fun _ _ => rfl) (fun h0 hh => x_move 0 q _ h0 hh hI) ?_
  refine lb_aload_n2 g dL_law_365 ?_
  refine lb_arg g gx 1 (by omega) dL_law_366 dL_law_367 dL_law_368 rfl dL_law_369 dL_law_370 ?_
  refine lb_Mi g qL_44 dL_law_371 (0 + 6) (Nat.le_trans (by decide) hk) [.int (xs (i + 1))] rfl (Nat.le_of_ble_eq_true rfl) (fun _ _ => rfl) (fun h0 hh => m_move 0 q _ h0 hh hI) ?_
  refine lb_icmp_eq g 1399 dL_law_374 (by decide) (fun _ => ?_) (fun ne => absurd rfl ne)
  exact kk _ (si_move _ hI)
theorem lc_perfect (g : GM Γ x cL_law 4 rt k) {L i : Nat} {xs : Nat → Int32} (gx : GX Γ L xs) (hk : 20 ≤ k) (hi : i + 6 ≤ L) {q : SP} (hI : SI q) (kk : ∀ q1, SI q1 → LB Γ 1399 [some (.float 4), some (.ref 0), some (.ref 52), some (.int (nI i))] [] (q1, q1)) : LB Γ 379 [some (.float 4), some (.ref 0), some (.ref 52), some (.int (nI i))] [] (q, q) := by
  refine lb_aload_n1 g dL_law_379 ?_
  refine lb_arg g gx 1 (by omega) dL_law_380 dL_law_381 dL_law_382 rfl dL_law_383 dL_law_384 ?_
  refine lb_Di g qL_45 dL_law_385 (0 + 6) (Nat.le_trans (by decide) hk) [.int (xs (i + 1))] rfl (Nat.le_of_ble_eq_true rfl) (fun _ _ => rfl) (fun h0 hh => x_perfect 0 q _ h0 hh hI) ?_
  refine lb_aload_n2 g dL_law_388 ?_
  refine lb_arg g gx 1 (by omega) dL_law_389 dL_law_390 dL_law_391 rfl dL_law_392 dL_law_393 ?_
  refine lb_Mi g qL_48 dL_law_394 (0 + 6) (Nat.le_trans (by decide) hk) [.int (xs (i + 1))] rfl (Nat.le_of_ble_eq_true rfl) (fun _ _ => rfl) (fun h0 hh => m_perfect 0 q _ h0 hh hI) ?_
  refine lb_icmp_eq g 1399 dL_law_397 (by decide) (fun _ => ?_) (fun ne => absurd rfl ne)
  exact kk _ (si_perfect _ hI)
theorem lc_deal (g : GM Γ x cL_law 4 rt k) {L i : Nat} {xs : Nat → Int32} (gx : GX Γ L xs) (hk : 20 ≤ k) (hi : i + 6 ≤ L) {q : SP} (hI : SI q) (kk : ∀ q1, SI q1 → LB Γ 1399 [some (.float 4), some (.ref 0), some (.ref 52), some (.int (nI i))] [] (q1, q1)) : LB Γ 402 [some (.float 4), some (.ref 0), some (.ref 52), some (.int (nI i))] [] (q, q) := by
  refine lb_aload_n1 g dL_law_402 ?_
  refine lb_arg g gx 1 (by omega) dL_law_403 dL_law_404 dL_law_405 rfl dL_law_406 dL_law_407 ?_
  refine lb_Di g qL_49 dL_law_408 (0 + 6) (Nat.le_trans (by decide) hk) [.int (xs (i + 1))] rfl (Nat.le_of_ble_eq_true rfl) (fun _ _ => rfl) (fun h0 hh => x_deal 0 q _ h0 hh hI) ?_
  refine lb_aload_n2 g dL_law_411 ?_
  refine lb_arg g gx 1 (by omega) dL_law_412 dL_law_413 dL_law_414 rfl dL_law_415 dL_law_416 ?_
  refine lb_Mi g qL_52 dL_law_417 (0 + 6) (Nat.le_trans (by decide) hk) [.int (xs (i + 1))] rfl (Nat.le_of_ble_eq_true rfl) (fun _ _ => rfl) (fun h0 hh => m_deal 0 q _ h0 hh hI) ?_
  refine lb_icmp_eq g 1399 dL_law_420 (by decide) (fun _ => ?_) (fun ne => absurd rfl ne)
  exact kk _ (si_deal _ hI)
theorem lc_riffle (g : GM Γ x cL_law 4 rt k) {L i : Nat} {xs : Nat → Int32} (gx : GX Γ L xs) (hk : 20 ≤ k) (hi : i + 6 ≤ L) {q : SP} (hI : SI q) (kk : ∀ q1, SI q1 → LB Γ 1399 [some (.float 4), some (.ref 0), some (.ref 52), some (.int (nI i))] [] (q1, q1)) : LB Γ 425 [some (.float 4), some (.ref 0), some (.ref 52), some (.int (nI i))] [] (q, q) := by
  refine lb_aload_n1 g dL_law_425 ?_
  refine lb_arg g gx 1 (by omega) dL_law_426 dL_law_427 dL_law_428 rfl dL_law_429 dL_law_430 ?_
  refine lb_Di g qL_53 dL_law_431 (0 + 6) (Nat.le_trans (by decide) hk) [.int (xs (i + 1))] rfl (Nat.le_of_ble_eq_true rfl) (fun _ _ => rfl) (fun h0 hh => x_riffle 0 q _ h0 hh hI) ?_
  refine lb_aload_n2 g dL_law_434 ?_
  refine lb_arg g gx 1 (by omega) dL_law_435 dL_law_436 dL_law_437 rfl dL_law_438 dL_law_439 ?_
  refine lb_Mi g qL_56 dL_law_440 (0 + 6) (Nat.le_trans (by decide) hk) [.int (xs (i + 1))] rfl (Nat.le_of_ble_eq_true rfl) (fun _ _ => rfl) (fun h0 hh => m_riffle 0 q _ h0 hh hI) ?_
  refine lb_icmp_eq g 1399 dL_law_443 (by decide) (fun _ => ?_) (fun ne => absurd rfl ne)
  exact kk _ (si_riffle _ hI)
theorem lc_top (g : GM Γ x cL_law 4 rt k) {L i : Nat} {xs : Nat → Int32} (gx : GX Γ L xs) (hk : 20 ≤ k) (hi : i + 6 ≤ L) {q : SP} (hI : SI q) (kk : ∀ q1, SI q1 → LB Γ 1399 [some (.float 4), some (.ref 0), some (.ref 52), some (.int (nI i))] [] (q1, q1)) : LB Γ 448 [some (.float 4), some (.ref 0), some (.ref 52), some (.int (nI i))] [] (q, q) := by
  refine lb_aload_n1 g dL_law_448 ?_
  refine lb_Di g qL_57 dL_law_449 (0 + 6) (Nat.le_trans (by decide) hk) [] rfl (Nat.le_of_ble_eq_true rfl) (fun _ _ => rfl) (fun h0 hh => x_top 0 q  h0 hh hI) ?_
  refine lb_aload_n2 g dL_law_452 ?_
  refine lb_Mi g qL_60 dL_law_453 (0 + 6) (Nat.le_trans (by decide) hk) [] rfl (Nat.le_of_ble_eq_true rfl) (fun _ _ => rfl) (fun h0 hh => m_top 0 q  h0 hh hI) ?_
  refine lb_icmp_eq g 1399 dL_law_456 (by decide) (fun _ => ?_) (fun ne => absurd rfl ne)
  exact kk _ (si_top hI)
theorem lc_behind (g : GM Γ x cL_law 4 rt k) {L i : Nat} {xs : Nat → Int32} (gx : GX Γ L xs) (hk : 20 ≤ k) (hi : i + 6 ≤ L) {q : SP} (hI : SI q) (kk : ∀ q1, SI q1 → LB Γ 1399 [some (.float 4), some (.ref 0), some (.ref 52), some (.int (nI i))] [] (q1, q1)) : LB Γ 461 [some (.float 4), some (.ref 0), some (.ref 52), some (.int (nI i))] [] (q, q) := by
  refine lb_aload_n1 g dL_law_461 ?_
  refine lb_arg g gx 1 (by omega) dL_law_462 dL_law_463 dL_law_464 rfl dL_law_465 dL_law_466 ?_
  refine lb_arg g gx 2 (by omega) dL_law_467 dL_law_468 dL_law_469 rfl dL_law_470 dL_law_471 ?_
  refine lb_Di g qL_61 dL_law_472 (0 + 6) (Nat.le_trans (by decide) hk) [.int (xs (i + 1)), .int (xs (i + 2))] rfl (Nat.le_of_ble_eq_true rfl) (fun _ _ => rfl) (fun h0 hh => x_behind 0 q _ _ h0 hh hI) ?_
  refine lb_aload_n2 g dL_law_475 ?_
  refine lb_arg g gx 1 (by omega) dL_law_476 dL_law_477 dL_law_478 rfl dL_law_479 dL_law_480 ?_
  refine lb_arg g gx 2 (by omega) dL_law_481 dL_law_482 dL_law_483 rfl dL_law_484 dL_law_485 ?_
  refine lb_Mi g qL_64 dL_law_486 (0 + 6) (Nat.le_trans (by decide) hk) [.int (xs (i + 1)), .int (xs (i + 2))] rfl (Nat.le_of_ble_eq_true rfl) (fun _ _ => rfl) (fun h0 hh => m_behind 0 q _ _ h0 hh hI) ?_
  refine lb_icmp_eq g 1399 dL_law_489 (by decide) (fun _ => ?_) (fun ne => absurd rfl ne)
  exact kk _ (si_behind _ _ hI)
theorem lc_back (g : GM Γ x cL_law 4 rt k) {L i : Nat} {xs : Nat → Int32} (gx : GX Γ L xs) (hk : 20 ≤ k) (hi : i + 6 ≤ L) {q : SP} (hI : SI q) (kk : ∀ q1, SI q1 → LB Γ 1399 [some (.float 4), some (.ref 0), some (.ref 52), some (.int (nI i))] [] (q1, q1)) : LB Γ 494 [some (.float 4), some (.ref 0), some (.ref 52), some (.int (nI i))] [] (q, q) := by
  refine lb_aload_n1 g dL_law_494 ?_
  refine lb_arg g gx 1 (by omega) dL_law_495 dL_law_496 dL_law_497 rfl dL_law_498 dL_law_499 ?_
  refine lb_Di g qL_65 dL_law_500 (0 + 6) (Nat.le_trans (by decide) hk) [.int (xs (i + 1))] rfl (Nat.le_of_ble_eq_true rfl) (fun _ _ => rfl) (fun h0 hh => x_back 0 q _ h0 hh hI) ?_
  refine lb_aload_n2 g dL_law_503 ?_
  refine lb_arg g gx 1 (by omega) dL_law_504 dL_law_505 dL_law_506 rfl dL_law_507 dL_law_508 ?_
  refine lb_Mi g qL_68 dL_law_509 (0 + 6) (Nat.le_trans (by decide) hk) [.int (xs (i + 1))] rfl (Nat.le_of_ble_eq_true rfl) (fun _ _ => rfl) (fun h0 hh => m_back 0 q _ h0 hh hI) ?_
  refine lb_icmp_eq g 1399 dL_law_512 (by decide) (fun _ => ?_) (fun ne => absurd rfl ne)
  exact kk _ (si_back _ hI)
theorem lc_moves (g : GM Γ x cL_law 4 rt k) {L i : Nat} {xs : Nat → Int32} (gx : GX Γ L xs) (hk : 20 ≤ k) (hi : i + 6 ≤ L) {q : SP} (hI : SI q) (kk : ∀ q1, SI q1 → LB Γ 1399 [some (.float 4), some (.ref 0), some (.ref 52), some (.int (nI i))] [] (q1, q1)) : LB Γ 517 [some (.float 4), some (.ref 0), some (.ref 52), some (.int (nI i))] [] (q, q) := by
  refine lb_aload_n1 g dL_law_517 ?_
  refine lb_arg g gx 1 (by omega) dL_law_518 dL_law_519 dL_law_520 rfl dL_law_521 dL_law_522 ?_
  refine lb_arg g gx 2 (by omega) dL_law_523 dL_law_524 dL_law_525 rfl dL_law_526 dL_law_527 ?_
  refine lb_Di g qL_69 dL_law_528 (0 + 6) (Nat.le_trans (by decide) hk) [.int (xs (i + 1)), .int (xs (i + 2))] rfl (Nat.le_of_ble_eq_true rfl) (fun _ _ => rfl) (fun h0 hh => x_moves 0 q _ _ h0 hh hI) ?_
  refine lb_aload_n2 g dL_law_531 ?_
  refine lb_arg g gx 1 (by omega) dL_law_532 dL_law_533 dL_law_534 rfl dL_law_535 dL_law_536 ?_
  refine lb_arg g gx 2 (by omega) dL_law_537 dL_law_538 dL_law_539 rfl dL_law_540 dL_law_541 ?_
  refine lb_Mi g qL_72 dL_law_542 (0 + 6) (Nat.le_trans (by decide) hk) [.int (xs (i + 1)), .int (xs (i + 2))] rfl (Nat.le_of_ble_eq_true rfl) (fun _ _ => rfl) (fun h0 hh => m_moves 0 q _ _ h0 hh hI) ?_
  refine lb_icmp_eq g 1399 dL_law_545 (by decide) (fun _ => ?_) (fun ne => absurd rfl ne)
  exact kk _ hI
theorem lc_shuffleTold (g : GM Γ x cL_law 4 rt k) {L i : Nat} {xs : Nat → Int32} (gx : GX Γ L xs) (hk : 20 ≤ k) (hi : i + 6 ≤ L) {q : SP} (hI : SI q) (kk : ∀ q1, SI q1 → LB Γ 1399 [some (.float 4), some (.ref 0), some (.ref 52), some (.int (nI i))] [] (q1, q1)) : LB Γ 550 [some (.float 4), some (.ref 0), some (.ref 52), some (.int (nI i))] [] (q, q) := by
  refine lb_aload_n1 g dL_law_550 ?_
  refine lb_arg g gx 1 (by omega) dL_law_551 dL_law_552 dL_law_553 rfl dL_law_554 dL_law_555 ?_
  refine lb_arg g gx 2 (by omega) dL_law_556 dL_law_557 dL_law_558 rfl dL_law_559 dL_law_560 ?_
  refine lb_Di g qL_73 dL_law_561 (0 + 6) (Nat.le_trans (by decide) hk) [.int (xs (i + 1)), .int (xs (i + 2))] rfl (Nat.le_of_ble_eq_true rfl) (fun _ _ => rfl) (fun h0 hh => x_shuffleTold 0 q _ _ h0 hh hI) ?_
  refine lb_aload_n2 g dL_law_564 ?_
  refine lb_arg g gx 1 (by omega) dL_law_565 dL_law_566 dL_law_567 rfl dL_law_568 dL_law_569 ?_
  refine lb_arg g gx 2 (by omega) dL_law_570 dL_law_571 dL_law_572 rfl dL_law_573 dL_law_574 ?_
  refine lb_Mi g qL_76 dL_law_575 (0 + 6) (Nat.le_trans (by decide) hk) [.int (xs (i + 1)), .int (xs (i + 2))] rfl (Nat.le_of_ble_eq_true rfl) (fun _ _ => rfl) (fun h0 hh => m_shuffleTold 0 q _ _ h0 hh hI) ?_
  refine lb_icmp_eq g 1399 dL_law_578 (by decide) (fun _ => ?_) (fun ne => absurd rfl ne)
  exact kk _ hI
theorem lc_power (g : GM Γ x cL_law 4 rt k) {L i : Nat} {xs : Nat → Int32} (gx : GX Γ L xs) (hk : 20 ≤ k) (hi : i + 6 ≤ L) {q : SP} (hI : SI q) (kk : ∀ q1, SI q1 → LB Γ 1399 [some (.float 4), some (.ref 0), some (.ref 52), some (.int (nI i))] [] (q1, q1)) : LB Γ 583 [some (.float 4), some (.ref 0), some (.ref 52), some (.int (nI i))] [] (q, q) := by
  refine lb_aload_n1 g dL_law_583 ?_
  refine lb_arg g gx 1 (by omega) dL_law_584 dL_law_585 dL_law_586 rfl dL_law_587 dL_law_588 ?_
  refine lb_arg g gx 2 (by omega) dL_law_589 dL_law_590 dL_law_591 rfl dL_law_592 dL_law_593 ?_
  refine lb_i2l g dL_law_594 ?_
  refine lb_bipush (v := 32) g dL_law_595 (by decide) ?_
  refine lb_lshl g dL_law_597 ?_
  refine lb_arg g gx 3 (by omega) dL_law_598 dL_law_599 dL_law_600 rfl dL_law_601 dL_law_602 ?_
  refine lb_i2l g dL_law_603 ?_
  refine lb_ldc2w g kL_77 rfl dL_law_604 ?_
  refine lb_land g dL_law_607 ?_
  refine lb_lor g dL_law_608 ?_
  refine lb_arg g gx 4 (by omega) dL_law_609 dL_law_610 dL_law_611 rfl dL_law_612 dL_law_613 ?_
  refine lb_Di g qL_79 dL_law_614 (0 + 6) (Nat.le_trans (by decide) hk) [.int (xs (i + 1)), .long _, .int (xs (i + 4))] rfl (Nat.le_of_ble_eq_true rfl) (fun _ _ => rfl) (fun h0 hh => x_power 0 q _ _ _ h0 hh hI) ?_
  refine lb_aload_n2 g dL_law_617 ?_
  refine lb_arg g gx 1 (by omega) dL_law_618 dL_law_619 dL_law_620 rfl dL_law_621 dL_law_622 ?_
  refine lb_arg g gx 2 (by omega) dL_law_623 dL_law_624 dL_law_625 rfl dL_law_626 dL_law_627 ?_
  refine lb_i2l g dL_law_628 ?_
  refine lb_bipush (v := 32) g dL_law_629 (by decide) ?_
  refine lb_lshl g dL_law_631 ?_
  refine lb_arg g gx 3 (by omega) dL_law_632 dL_law_633 dL_law_634 rfl dL_law_635 dL_law_636 ?_
  refine lb_i2l g dL_law_637 ?_
  refine lb_ldc2w g kL_77 rfl dL_law_638 ?_
  refine lb_land g dL_law_641 ?_
  refine lb_lor g dL_law_642 ?_
  refine lb_arg g gx 4 (by omega) dL_law_643 dL_law_644 dL_law_645 rfl dL_law_646 dL_law_647 ?_
  refine lb_Mi g qL_83 dL_law_648 (0 + 6) (Nat.le_trans (by decide) hk) [.int (xs (i + 1)), .long _, .int (xs (i + 4))] rfl (Nat.le_of_ble_eq_true rfl) (fun _ _ => rfl) (fun h0 hh => m_powerC 0 q _ _ _ h0 hh hI) ?_
  refine lb_icmp_eq g 1399 dL_law_651 (by decide) (fun _ => ?_) (fun ne => absurd rfl ne)
  exact kk _ hI
theorem lc_does (g : GM Γ x cL_law 4 rt k) {L i : Nat} {xs : Nat → Int32} (gx : GX Γ L xs) (hk : 20 ≤ k) (hi : i + 6 ≤ L) {q : SP} (hI : SI q) (kk : ∀ q1, SI q1 → LB Γ 1399 [some (.float 4), some (.ref 0), some (.ref 52), some (.int (nI i))] [] (q1, q1)) : LB Γ 656 [some (.float 4), some (.ref 0), some (.ref 52), some (.int (nI i))] [] (q, q) := by
  refine lb_aload_n1 g dL_law_656 ?_
  refine lb_arg g gx 1 (by omega) dL_law_657 dL_law_658 dL_law_659 rfl dL_law_660 dL_law_661 ?_
  refine lb_arg g gx 2 (by omega) dL_law_662 dL_law_663 dL_law_664 rfl dL_law_665 dL_law_666 ?_
  refine lb_Di g qL_84 dL_law_667 (0 + 6) (Nat.le_trans (by decide) hk) [.int (xs (i + 1)), .int (xs (i + 2))] rfl (Nat.le_of_ble_eq_true rfl) (fun _ _ => rfl) (fun h0 hh => x_does 0 q _ _ h0 hh hI) ?_
  refine lb_aload_n2 g dL_law_670 ?_
  refine lb_arg g gx 1 (by omega) dL_law_671 dL_law_672 dL_law_673 rfl dL_law_674 dL_law_675 ?_
  refine lb_arg g gx 2 (by omega) dL_law_676 dL_law_677 dL_law_678 rfl dL_law_679 dL_law_680 ?_
  refine lb_Mi g qL_87 dL_law_681 (0 + 6) (Nat.le_trans (by decide) hk) [.int (xs (i + 1)), .int (xs (i + 2))] rfl (Nat.le_of_ble_eq_true rfl) (fun _ _ => rfl) (fun h0 hh => m_does 0 q _ _ h0 hh hI) ?_
  refine lb_icmp_eq g 1399 dL_law_684 (by decide) (fun _ => ?_) (fun ne => absurd rfl ne)
  exact kk _ (si_does _ _ hI)
theorem lc_lots (g : GM Γ x cL_law 4 rt k) {L i : Nat} {xs : Nat → Int32} (gx : GX Γ L xs) (hk : 20 ≤ k) (hi : i + 6 ≤ L) {q : SP} (hI : SI q) (kk : ∀ q1, SI q1 → LB Γ 1399 [some (.float 4), some (.ref 0), some (.ref 52), some (.int (nI i))] [] (q1, q1)) : LB Γ 689 [some (.float 4), some (.ref 0), some (.ref 52), some (.int (nI i))] [] (q, q) := by
  refine lb_aload_n1 g dL_law_689 ?_
  refine lb_arg g gx 1 (by omega) dL_law_690 dL_law_691 dL_law_692 rfl dL_law_693 dL_law_694 ?_
  refine lb_arg g gx 2 (by omega) dL_law_695 dL_law_696 dL_law_697 rfl dL_law_698 dL_law_699 ?_
  refine lb_arg g gx 3 (by omega) dL_law_700 dL_law_701 dL_law_702 rfl dL_law_703 dL_law_704 ?_
  refine lb_i2l g dL_law_705 ?_
  refine lb_bipush (v := 32) g dL_law_706 (by decide) ?_
  refine lb_lshl g dL_law_708 ?_
  refine lb_arg g gx 4 (by omega) dL_law_709 dL_law_710 dL_law_711 rfl dL_law_712 dL_law_713 ?_
  refine lb_i2l g dL_law_714 ?_
  refine lb_ldc2w g kL_77 rfl dL_law_715 ?_
  refine lb_land g dL_law_718 ?_
  refine lb_lor g dL_law_719 ?_
  refine lb_Di g qL_88 dL_law_720 (0 + 6) (Nat.le_trans (by decide) hk) [.int (xs (i + 1)), .int (xs (i + 2)), .long _] rfl (Nat.le_of_ble_eq_true rfl) (fun _ _ => rfl) (fun h0 hh => x_lots 0 q _ _ _ h0 hh hI) ?_
  refine lb_aload_n2 g dL_law_723 ?_
  refine lb_arg g gx 1 (by omega) dL_law_724 dL_law_725 dL_law_726 rfl dL_law_727 dL_law_728 ?_
  refine lb_arg g gx 2 (by omega) dL_law_729 dL_law_730 dL_law_731 rfl dL_law_732 dL_law_733 ?_
  refine lb_arg g gx 3 (by omega) dL_law_734 dL_law_735 dL_law_736 rfl dL_law_737 dL_law_738 ?_
  refine lb_i2l g dL_law_739 ?_
  refine lb_bipush (v := 32) g dL_law_740 (by decide) ?_
  refine lb_lshl g dL_law_742 ?_
  refine lb_arg g gx 4 (by omega) dL_law_743 dL_law_744 dL_law_745 rfl dL_law_746 dL_law_747 ?_
  refine lb_i2l g dL_law_748 ?_
  refine lb_ldc2w g kL_77 rfl dL_law_749 ?_
  refine lb_land g dL_law_752 ?_
  refine lb_lor g dL_law_753 ?_
  refine lb_Mi g qL_92 dL_law_754 (0 + 6) (Nat.le_trans (by decide) hk) [.int (xs (i + 1)), .int (xs (i + 2)), .long _] rfl (Nat.le_of_ble_eq_true rfl) (fun _ _ => rfl) (fun h0 hh => m_lots 0 q _ _ _ h0 hh hI) ?_
  refine lb_icmp_eq g 1399 dL_law_757 (by decide) (fun _ => ?_) (fun ne => absurd rfl ne)
  exact kk _ (si_lots _ _ _ hI)
end LCS
