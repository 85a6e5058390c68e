
/-! THE LAW'S CASES -/
abbrev FLaw : Cfg := (RL, cL_law, 9, ret)
theorem rm1 {d : Nat} (h : d ≤ 15) : RmOK room_1 d := ⟨by show d + 1 ≤ 20; omega, by show 40 + 40 * d ≤ 802; omega⟩
/-- both sides are called with the same arguments and answer the same; Q: what then holds of the numbers -/
def Ans (D : va_G) (ad : Nat → Nat) (M : Mem) (yc : MethodName) (cc : Cfg) (yr : MethodName) (cr : Cfg) (as : List Value) (Q : Mem → Prop) : Prop :=
  ∃ (d1 d2 : Nat) (P : Int32 → Mem → Prop), d1 ≤ 15 ∧ d2 ≤ 15 ∧ Spec D d1 yc cc (.ref (ad 0) :: as) (wl D ad M) 0 0 (PX fun y w => ∃ M', w = wl D ad M' ∧ P y M') ∧ ∀ y M', P y M' → Spec D d2 yr cr (.ref (ad 157) :: as) (wl D ad M') 0 0 (PX fun z w => z = y ∧ ∃ M2, w = wl D ad M2 ∧ Q M2)
/-- the class's method may throw; the law calls it by a helper -/
def AnsT (D : va_G) (ad : Nat → Nat) (M : Mem) (yh : MethodName) (ch : Cfg) (hh : List (Nat × Nat × Nat × Nat)) (yr : MethodName) (cr : Cfg) (ah as : List Value) (Q : Mem → Prop) : Prop :=
  (∃ (d2 : Nat) (y : Int32) (M2 : Mem), d2 ≤ 15 ∧ SpecH D 15 yh ch hh ah (wl D ad M) 1 6 (PI (nI 0) (wl D ad (outM M y))) ∧ Spec D d2 yr cr (.ref (ad 157) :: as) (wl D ad (outM M y)) 0 0 (PI y (wl D ad M2)) ∧ M2 157 4 = nI 0 ∧ M2 165 = outM M y 165 ∧ Q M2) ∨
  (∃ (d2 : Nat) (z : Int32) (M2 : Mem), d2 ≤ 15 ∧ SpecH D 15 yh ch hh ah (wl D ad M) 1 6 (PI (nI 1) (wl D ad M)) ∧ Spec D d2 yr cr (.ref (ad 157) :: as) (wl D ad M) 0 0 (PI z (wl D ad M2)) ∧ M2 157 4 = nI 1 ∧ Q M2)
theorem out_cmp {M M2 : Mem} {y : Int32} (h : M2 165 = outM M y 165) : lg_cmp (lgOf (M2 165 (2 * 0)) (M2 165 (2 * 0 + 1))) y.toInt64 = 0 := by
  rw [h, show outM M y 165 (2 * 0) = lgHi y.toInt64 from rfl, show outM M y 165 (2 * 0 + 1) = lgLo y.toInt64 from rfl, lgOf_hl]
  unfold lg_cmp
  rw [if_neg (fun h => Int64.lt_irrefl h), if_pos rfl]
section LAWC
variable {D : va_G} {ad : Nat → Nat} {M : Mem} {Qf : QF} {k n i sb L : Nat} {xs : Nat → Int32} {l5 l6 l7 l8 : Option Value} {Q : Mem → Prop}
theorem lw_feed (hi : i + 6 ≤ L) (hL : L ≤ 3072) (hk : k ≤ 600000) (hn : n ≤ 7000000) (hA : Ans D ad M yX5_feed cfX5_feed yX6_feed cfX6_feed [.int (xs (i + 1)), .int (xs (i + 2)), .int (xs (i + 3)), .int (xs (i + 4)), .int (xs (i + 5))] Q) (kk : ∀ M2 l5 l6 l7 l8, Q M2 → V D FLaw room_1 (QG (StX sb L xs) Qf) (k + 4) (n + 532) 2807 [some (.ref sb), some (.ref (ad 0)), some (.ref (ad 157)), some (.ref (ad 165)), some (.int (nI i)), l5, l6, l7, l8] [] (wl D ad M2)) : V D FLaw room_1 (QG (StX sb L xs) Qf) k n 284 [some (.ref sb), some (.ref (ad 0)), some (.ref (ad 157)), some (.ref (ad 165)), some (.int (nI i)), l5, l6, l7, l8] [] (wl D ad M) := by
  obtain ⟨d1, d2, P, hd1, hd2, h1, h2⟩ := hA
  refine E_aload1 (q := 285) dL_law_284 rfl ?_
  refine E_aload0 (q := 286) dL_law_285 rfl ?_
  refine E_iload4 (q := 288) dL_law_286 rfl ?_
  refine E_iconst (v := nI 1) (q := 289) dL_law_288 (by decide) rfl ?_
  refine E_iaddN (q := 290) dL_law_289 rfl ?_
  refine E_sld (q := 291) (i := i + 1) (by omega) (by omega) dL_law_290 rfl ?_
  refine E_aload0 (q := 292) dL_law_291 rfl ?_
  refine E_iload4 (q := 294) dL_law_292 rfl ?_
  refine E_iconst (v := nI 2) (q := 295) dL_law_294 (by decide) rfl ?_
  refine E_iaddN (q := 296) dL_law_295 rfl ?_
  refine E_sld (q := 297) (i := i + 2) (by omega) (by omega) dL_law_296 rfl ?_
  refine E_aload0 (q := 298) dL_law_297 rfl ?_
  refine E_iload4 (q := 300) dL_law_298 rfl ?_
  refine E_iconst (v := nI 3) (q := 301) dL_law_300 (by decide) rfl ?_
  refine E_iaddN (q := 302) dL_law_301 rfl ?_
  refine E_sld (q := 303) (i := i + 3) (by omega) (by omega) dL_law_302 rfl ?_
  refine E_aload0 (q := 304) dL_law_303 rfl ?_
  refine E_iload4 (q := 306) dL_law_304 rfl ?_
  refine E_iconst (v := nI 4) (q := 307) dL_law_306 (by decide) rfl ?_
  refine E_iaddN (q := 308) dL_law_307 rfl ?_
  refine E_sld (q := 309) (i := i + 4) (by omega) (by omega) dL_law_308 rfl ?_
  refine E_aload0 (q := 310) dL_law_309 rfl ?_
  refine E_iload4 (q := 312) dL_law_310 rfl ?_
  refine E_iconst (v := nI 5) (q := 313) dL_law_312 (by decide) rfl ?_
  refine E_iaddN (q := 314) dL_law_313 rfl ?_
  refine E_sld (q := 315) (i := i + 5) (by omega) (by omega) dL_law_314 rfl ?_
  refine E_callVR (q := 318) (ar := [.int (xs (i + 1)), .int (xs (i + 2)), .int (xs (i + 3)), .int (xs (i + 4)), .int (xs (i + 5))]) (rest := []) lk_L_96 h1 rc_X5 (rm1 hd1) (by show k + 0 ≤ 601024; omega) (by show n + 0 ≤ 7293034; omega) (Nat.le_of_ble_eq_true rfl) dL_law_315 rfl rfl ?_
  rintro v w ⟨y, hv, M1, hw, hP⟩
  rw [hw]
  subst hv
  refine V_st (st' := [.int y]) rfl ?_
  refine E_aload2 (q := 319) dL_law_318 rfl ?_
  refine E_aload0 (q := 320) dL_law_319 rfl ?_
  refine E_iload4 (q := 322) dL_law_320 rfl ?_
  refine E_iconst (v := nI 1) (q := 323) dL_law_322 (by decide) rfl ?_
  refine E_iaddN (q := 324) dL_law_323 rfl ?_
  refine E_sld (q := 325) (i := i + 1) (by omega) (by omega) dL_law_324 rfl ?_
  refine E_aload0 (q := 326) dL_law_325 rfl ?_
  refine E_iload4 (q := 328) dL_law_326 rfl ?_
  refine E_iconst (v := nI 2) (q := 329) dL_law_328 (by decide) rfl ?_
  refine E_iaddN (q := 330) dL_law_329 rfl ?_
  refine E_sld (q := 331) (i := i + 2) (by omega) (by omega) dL_law_330 rfl ?_
  refine E_aload0 (q := 332) dL_law_331 rfl ?_
  refine E_iload4 (q := 334) dL_law_332 rfl ?_
  refine E_iconst (v := nI 3) (q := 335) dL_law_334 (by decide) rfl ?_
  refine E_iaddN (q := 336) dL_law_335 rfl ?_
  refine E_sld (q := 337) (i := i + 3) (by omega) (by omega) dL_law_336 rfl ?_
  refine E_aload0 (q := 338) dL_law_337 rfl ?_
  refine E_iload4 (q := 340) dL_law_338 rfl ?_
  refine E_iconst (v := nI 4) (q := 341) dL_law_340 (by decide) rfl ?_
  refine E_iaddN (q := 342) dL_law_341 rfl ?_
  refine E_sld (q := 343) (i := i + 4) (by omega) (by omega) dL_law_342 rfl ?_
  refine E_aload0 (q := 344) dL_law_343 rfl ?_
  refine E_iload4 (q := 346) dL_law_344 rfl ?_
  refine E_iconst (v := nI 5) (q := 347) dL_law_346 (by decide) rfl ?_
  refine E_iaddN (q := 348) dL_law_347 rfl ?_
  refine E_sld (q := 349) (i := i + 5) (by omega) (by omega) dL_law_348 rfl ?_
  refine E_callVR (q := 352) (ar := [.int (xs (i + 1)), .int (xs (i + 2)), .int (xs (i + 3)), .int (xs (i + 4)), .int (xs (i + 5))]) (rest := [.int y]) lk_L_100 (h2 y M1 hP) rc_X6 (rm1 hd2) (by show k + 0 + 0 ≤ 601024; omega) (by show n + 0 + 0 ≤ 7293034; omega) (Nat.le_of_ble_eq_true rfl) dL_law_349 rfl rfl ?_
  rintro v w ⟨z, hv, hz, M2, hw, hQ⟩
  rw [hw]
  subst hv
  subst hz
  refine V_st (st' := [.int z, .int z]) rfl ?_
  refine E_icmp_eq (tgt := 2807) (q := 355) dL_law_352 (by decide) rfl (fun _ => ?_) (fun h => absurd rfl h)
  exact V_widen (k' := k + 4) (n' := n + 532) (by omega) (by omega) (by show k + 4 ≤ 601024; omega) (by show n + 532 ≤ 7293034; omega) (kk M2 _ _ _ _ hQ)
theorem lw_load (hi : i + 6 ≤ L) (hL : L ≤ 3072) (hk : k ≤ 600000) (hn : n ≤ 7000000) (hA : Ans D ad M yX5_load cfX5_load yX6_load cfX6_load [.int (xs (i + 1))] Q) (kk : ∀ M2 l5 l6 l7 l8, Q M2 → V D FLaw room_1 (QG (StX sb L xs) Qf) (k + 4) (n + 532) 2807 [some (.ref sb), some (.ref (ad 0)), some (.ref (ad 157)), some (.ref (ad 165)), some (.int (nI i)), l5, l6, l7, l8] [] (wl D ad M2)) : V D FLaw room_1 (QG (StX sb L xs) Qf) k n 357 [some (.ref sb), some (.ref (ad 0)), some (.ref (ad 157)), some (.ref (ad 165)), some (.int (nI i)), l5, l6, l7, l8] [] (wl D ad M) := by
  obtain ⟨d1, d2, P, hd1, hd2, h1, h2⟩ := hA
  refine E_aload1 (q := 358) dL_law_357 rfl ?_
  refine E_aload0 (q := 359) dL_law_358 rfl ?_
  refine E_iload4 (q := 361) dL_law_359 rfl ?_
  refine E_iconst (v := nI 1) (q := 362) dL_law_361 (by decide) rfl ?_
  refine E_iaddN (q := 363) dL_law_362 rfl ?_
  refine E_sld (q := 364) (i := i + 1) (by omega) (by omega) dL_law_363 rfl ?_
  refine E_callVR (q := 367) (ar := [.int (xs (i + 1))]) (rest := []) lk_L_101 h1 rc_X5 (rm1 hd1) (by show k + 0 ≤ 601024; omega) (by show n + 0 ≤ 7293034; omega) (Nat.le_of_ble_eq_true rfl) dL_law_364 rfl rfl ?_
  rintro v w ⟨y, hv, M1, hw, hP⟩
  rw [hw]
  subst hv
  refine V_st (st' := [.int y]) rfl ?_
  refine E_aload2 (q := 368) dL_law_367 rfl ?_
  refine E_aload0 (q := 369) dL_law_368 rfl ?_
  refine E_iload4 (q := 371) dL_law_369 rfl ?_
  refine E_iconst (v := nI 1) (q := 372) dL_law_371 (by decide) rfl ?_
  refine E_iaddN (q := 373) dL_law_372 rfl ?_
  refine E_sld (q := 374) (i := i + 1) (by omega) (by omega) dL_law_373 rfl ?_
  refine E_callVR (q := 377) (ar := [.int (xs (i + 1))]) (rest := [.int y]) lk_L_104 (h2 y M1 hP) rc_X6 (rm1 hd2) (by show k + 0 + 0 ≤ 601024; omega) (by show n + 0 + 0 ≤ 7293034; omega) (Nat.le_of_ble_eq_true rfl) dL_law_374 rfl rfl ?_
  rintro v w ⟨z, hv, hz, M2, hw, hQ⟩
  rw [hw]
  subst hv
  subst hz
  refine V_st (st' := [.int z, .int z]) rfl ?_
  refine E_icmp_eq (tgt := 2807) (q := 380) dL_law_377 (by decide) rfl (fun _ => ?_) (fun h => absurd rfl h)
  exact V_widen (k' := k + 4) (n' := n + 532) (by omega) (by omega) (by show k + 4 ≤ 601024; omega) (by show n + 532 ≤ 7293034; omega) (kk M2 _ _ _ _ hQ)
theorem lw_errorPosition (hi : i + 6 ≤ L) (hL : L ≤ 3072) (hk : k ≤ 600000) (hn : n ≤ 7000000) (hA : Ans D ad M yX5_errorPosition cfX5_errorPosition yX6_errorPosition cfX6_errorPosition [] Q) (kk : ∀ M2 l5 l6 l7 l8, Q M2 → V D FLaw room_1 (QG (StX sb L xs) Qf) (k + 4) (n + 532) 2807 [some (.ref sb), some (.ref (ad 0)), some (.ref (ad 157)), some (.ref (ad 165)), some (.int (nI i)), l5, l6, l7, l8] [] (wl D ad M2)) : V D FLaw room_1 (QG (StX sb L xs) Qf) k n 382 [some (.ref sb), some (.ref (ad 0)), some (.ref (ad 157)), some (.ref (ad 165)), some (.int (nI i)), l5, l6, l7, l8] [] (wl D ad M) := by
  obtain ⟨d1, d2, P, hd1, hd2, h1, h2⟩ := hA
  refine E_aload1 (q := 383) dL_law_382 rfl ?_
  refine E_callVR (q := 386) (ar := []) (rest := []) lk_L_105 h1 rc_X5 (rm1 hd1) (by show k + 0 ≤ 601024; omega) (by show n + 0 ≤ 7293034; omega) (Nat.le_of_ble_eq_true rfl) dL_law_383 rfl rfl ?_
  rintro v w ⟨y, hv, M1, hw, hP⟩
  rw [hw]
  subst hv
  refine V_st (st' := [.int y]) rfl ?_
  refine E_aload2 (q := 387) dL_law_386 rfl ?_
  refine E_callVR (q := 390) (ar := []) (rest := [.int y]) lk_L_109 (h2 y M1 hP) rc_X6 (rm1 hd2) (by show k + 0 + 0 ≤ 601024; omega) (by show n + 0 + 0 ≤ 7293034; omega) (Nat.le_of_ble_eq_true rfl) dL_law_387 rfl rfl ?_
  rintro v w ⟨z, hv, hz, M2, hw, hQ⟩
  rw [hw]
  subst hv
  subst hz
  refine V_st (st' := [.int z, .int z]) rfl ?_
  refine E_icmp_eq (tgt := 2807) (q := 393) dL_law_390 (by decide) rfl (fun _ => ?_) (fun h => absurd rfl h)
  exact V_widen (k' := k + 4) (n' := n + 532) (by omega) (by omega) (by show k + 4 ≤ 601024; omega) (by show n + 532 ≤ 7293034; omega) (kk M2 _ _ _ _ hQ)
theorem lw_count (hi : i + 6 ≤ L) (hL : L ≤ 3072) (hk : k ≤ 600000) (hn : n ≤ 7000000) (hA : Ans D ad M yX5_count cfX5_count yX6_count cfX6_count [.int (xs (i + 1))] Q) (kk : ∀ M2 l5 l6 l7 l8, Q M2 → V D FLaw room_1 (QG (StX sb L xs) Qf) (k + 4) (n + 532) 2807 [some (.ref sb), some (.ref (ad 0)), some (.ref (ad 157)), some (.ref (ad 165)), some (.int (nI i)), l5, l6, l7, l8] [] (wl D ad M2)) : V D FLaw room_1 (QG (StX sb L xs) Qf) k n 395 [some (.ref sb), some (.ref (ad 0)), some (.ref (ad 157)), some (.ref (ad 165)), some (.int (nI i)), l5, l6, l7, l8] [] (wl D ad M) := by
  obtain ⟨d1, d2, P, hd1, hd2, h1, h2⟩ := hA
  refine E_aload1 (q := 396) dL_law_395 rfl ?_
  refine E_aload0 (q := 397) dL_law_396 rfl ?_
  refine E_iload4 (q := 399) dL_law_397 rfl ?_
  refine E_iconst (v := nI 1) (q := 400) dL_law_399 (by decide) rfl ?_
  refine E_iaddN (q := 401) dL_law_400 rfl ?_
  refine E_sld (q := 402) (i := i + 1) (by omega) (by omega) dL_law_401 rfl ?_
  refine E_callVR (q := 405) (ar := [.int (xs (i + 1))]) (rest := []) lk_L_110 h1 rc_X5 (rm1 hd1) (by show k + 0 ≤ 601024; omega) (by show n + 0 ≤ 7293034; omega) (Nat.le_of_ble_eq_true rfl) dL_law_402 rfl rfl ?_
  rintro v w ⟨y, hv, M1, hw, hP⟩
  rw [hw]
  subst hv
  refine V_st (st' := [.int y]) rfl ?_
  refine E_aload2 (q := 406) dL_law_405 rfl ?_
  refine E_aload0 (q := 407) dL_law_406 rfl ?_
  refine E_iload4 (q := 409) dL_law_407 rfl ?_
  refine E_iconst (v := nI 1) (q := 410) dL_law_409 (by decide) rfl ?_
  refine E_iaddN (q := 411) dL_law_410 rfl ?_
  refine E_sld (q := 412) (i := i + 1) (by omega) (by omega) dL_law_411 rfl ?_
  refine E_callVR (q := 415) (ar := [.int (xs (i + 1))]) (rest := [.int y]) lk_L_113 (h2 y M1 hP) rc_X6 (rm1 hd2) (by show k + 0 + 0 ≤ 601024; omega) (by show n + 0 + 0 ≤ 7293034; omega) (Nat.le_of_ble_eq_true rfl) dL_law_412 rfl rfl ?_
  rintro v w ⟨z, hv, hz, M2, hw, hQ⟩
  rw [hw]
  subst hv
  subst hz
  refine V_st (st' := [.int z, .int z]) rfl ?_
  refine E_icmp_eq (tgt := 2807) (q := 418) dL_law_415 (by decide) rfl (fun _ => ?_) (fun h => absurd rfl h)
  exact V_widen (k' := k + 4) (n' := n + 532) (by omega) (by omega) (by show k + 4 ≤ 601024; omega) (by show n + 532 ≤ 7293034; omega) (kk M2 _ _ _ _ hQ)
theorem lw_named0 (hi : i + 6 ≤ L) (hL : L ≤ 3072) (hk : k ≤ 600000) (hn : n ≤ 7000000) (hb : xs (i + 1) = 0) (hA : Ans D ad M yX5_named cfX5_named yX6_named cfX6_named [.int (nI 0), .int (xs (i + 2))] Q) (kk : ∀ M2 l5 l6 l7 l8, Q M2 → V D FLaw room_1 (QG (StX sb L xs) Qf) (k + 4) (n + 532) 2807 [some (.ref sb), some (.ref (ad 0)), some (.ref (ad 157)), some (.ref (ad 165)), some (.int (nI i)), l5, l6, l7, l8] [] (wl D ad M2)) : V D FLaw room_1 (QG (StX sb L xs) Qf) k n 420 [some (.ref sb), some (.ref (ad 0)), some (.ref (ad 157)), some (.ref (ad 165)), some (.int (nI i)), l5, l6, l7, l8] [] (wl D ad M) := by
  obtain ⟨d1, d2, P, hd1, hd2, h1, h2⟩ := hA
  refine E_aload1 (q := 421) dL_law_420 rfl ?_
  refine E_aload0 (q := 422) dL_law_421 rfl ?_
  refine E_iload4 (q := 424) dL_law_422 rfl ?_
  refine E_iconst (v := nI 1) (q := 425) dL_law_424 (by decide) rfl ?_
  refine E_iaddN (q := 426) dL_law_425 rfl ?_
  refine E_sld (q := 427) (i := i + 1) (by omega) (by omega) dL_law_426 rfl ?_
  refine E_if_eq (tgt := 434) (q := 430) dL_law_427 (by decide) rfl (fun _ => ?_) (fun h => absurd hb h)
  refine E_iconst (v := nI 0) (q := 435) dL_law_434 (by decide) rfl ?_
  refine E_aload0 (q := 436) dL_law_435 rfl ?_
  refine E_iload4 (q := 438) dL_law_436 rfl ?_
  refine E_iconst (v := nI 2) (q := 439) dL_law_438 (by decide) rfl ?_
  refine E_iaddN (q := 440) dL_law_439 rfl ?_
  refine E_sld (q := 441) (i := i + 2) (by omega) (by omega) dL_law_440 rfl ?_
  refine E_callVR (q := 444) (ar := [.int (nI 0), .int (xs (i + 2))]) (rest := []) lk_L_114 h1 rc_X5 (rm1 hd1) (by show k + 0 ≤ 601024; omega) (by show n + 0 ≤ 7293034; omega) (Nat.le_of_ble_eq_true rfl) dL_law_441 rfl rfl ?_
  rintro v w ⟨y, hv, M1, hw, hP⟩
  rw [hw]
  subst hv
  refine V_st (st' := [.int y]) rfl ?_
  refine E_aload2 (q := 445) dL_law_444 rfl ?_
  refine E_aload0 (q := 446) dL_law_445 rfl ?_
  refine E_iload4 (q := 448) dL_law_446 rfl ?_
  refine E_iconst (v := nI 1) (q := 449) dL_law_448 (by decide) rfl ?_
  refine E_iaddN (q := 450) dL_law_449 rfl ?_
  refine E_sld (q := 451) (i := i + 1) (by omega) (by omega) dL_law_450 rfl ?_
  refine E_if_eq (tgt := 458) (q := 454) dL_law_451 (by decide) rfl (fun _ => ?_) (fun h => absurd hb h)
  refine E_iconst (v := nI 0) (q := 459) dL_law_458 (by decide) rfl ?_
  refine E_aload0 (q := 460) dL_law_459 rfl ?_
  refine E_iload4 (q := 462) dL_law_460 rfl ?_
  refine E_iconst (v := nI 2) (q := 463) dL_law_462 (by decide) rfl ?_
  refine E_iaddN (q := 464) dL_law_463 rfl ?_
  refine E_sld (q := 465) (i := i + 2) (by omega) (by omega) dL_law_464 rfl ?_
  refine E_callVR (q := 468) (ar := [.int (nI 0), .int (xs (i + 2))]) (rest := [.int y]) lk_L_118 (h2 y M1 hP) rc_X6 (rm1 hd2) (by show k + 0 + 0 ≤ 601024; omega) (by show n + 0 + 0 ≤ 7293034; omega) (Nat.le_of_ble_eq_true rfl) dL_law_465 rfl rfl ?_
  rintro v w ⟨z, hv, hz, M2, hw, hQ⟩
  rw [hw]
  subst hv
  subst hz
  refine V_st (st' := [.int z, .int z]) rfl ?_
  refine E_icmp_eq (tgt := 2807) (q := 471) dL_law_468 (by decide) rfl (fun _ => ?_) (fun h => absurd rfl h)
  exact V_widen (k' := k + 4) (n' := n + 532) (by omega) (by omega) (by show k + 4 ≤ 601024; omega) (by show n + 532 ≤ 7293034; omega) (kk M2 _ _ _ _ hQ)
theorem lw_named1 (hi : i + 6 ≤ L) (hL : L ≤ 3072) (hk : k ≤ 600000) (hn : n ≤ 7000000) (hb : ¬ xs (i + 1) = 0) (hA : Ans D ad M yX5_named cfX5_named yX6_named cfX6_named [.int (nI 1), .int (xs (i + 2))] Q) (kk : ∀ M2 l5 l6 l7 l8, Q M2 → V D FLaw room_1 (QG (StX sb L xs) Qf) (k + 4) (n + 532) 2807 [some (.ref sb), some (.ref (ad 0)), some (.ref (ad 157)), some (.ref (ad 165)), some (.int (nI i)), l5, l6, l7, l8] [] (wl D ad M2)) : V D FLaw room_1 (QG (StX sb L xs) Qf) k n 420 [some (.ref sb), some (.ref (ad 0)), some (.ref (ad 157)), some (.ref (ad 165)), some (.int (nI i)), l5, l6, l7, l8] [] (wl D ad M) := by
  obtain ⟨d1, d2, P, hd1, hd2, h1, h2⟩ := hA
  refine E_aload1 (q := 421) dL_law_420 rfl ?_
  refine E_aload0 (q := 422) dL_law_421 rfl ?_
  refine E_iload4 (q := 424) dL_law_422 rfl ?_
  refine E_iconst (v := nI 1) (q := 425) dL_law_424 (by decide) rfl ?_
  refine E_iaddN (q := 426) dL_law_425 rfl ?_
  refine E_sld (q := 427) (i := i + 1) (by omega) (by omega) dL_law_426 rfl ?_
  refine E_if_eq (tgt := 434) (q := 430) dL_law_427 (by decide) rfl (fun h => absurd h hb) (fun _ => ?_)
  refine E_iconst (v := nI 1) (q := 431) dL_law_430 (by decide) rfl ?_
  refine E_goto (q := 435) dL_law_431 (by decide) ?_
  refine E_aload0 (q := 436) dL_law_435 rfl ?_
  refine E_iload4 (q := 438) dL_law_436 rfl ?_
  refine E_iconst (v := nI 2) (q := 439) dL_law_438 (by decide) rfl ?_
  refine E_iaddN (q := 440) dL_law_439 rfl ?_
  refine E_sld (q := 441) (i := i + 2) (by omega) (by omega) dL_law_440 rfl ?_
  refine E_callVR (q := 444) (ar := [.int (nI 1), .int (xs (i + 2))]) (rest := []) lk_L_114 h1 rc_X5 (rm1 hd1) (by show k + 0 ≤ 601024; omega) (by show n + 0 ≤ 7293034; omega) (Nat.le_of_ble_eq_true rfl) dL_law_441 rfl rfl ?_
  rintro v w ⟨y, hv, M1, hw, hP⟩
  rw [hw]
  subst hv
  refine V_st (st' := [.int y]) rfl ?_
  refine E_aload2 (q := 445) dL_law_444 rfl ?_
  refine E_aload0 (q := 446) dL_law_445 rfl ?_
  refine E_iload4 (q := 448) dL_law_446 rfl ?_
  refine E_iconst (v := nI 1) (q := 449) dL_law_448 (by decide) rfl ?_
  refine E_iaddN (q := 450) dL_law_449 rfl ?_
  refine E_sld (q := 451) (i := i + 1) (by omega) (by omega) dL_law_450 rfl ?_
  refine E_if_eq (tgt := 458) (q := 454) dL_law_451 (by decide) rfl (fun h => absurd h hb) (fun _ => ?_)
  refine E_iconst (v := nI 1) (q := 455) dL_law_454 (by decide) rfl ?_
  refine E_goto (q := 459) dL_law_455 (by decide) ?_
  refine E_aload0 (q := 460) dL_law_459 rfl ?_
  refine E_iload4 (q := 462) dL_law_460 rfl ?_
  refine E_iconst (v := nI 2) (q := 463) dL_law_462 (by decide) rfl ?_
  refine E_iaddN (q := 464) dL_law_463 rfl ?_
  refine E_sld (q := 465) (i := i + 2) (by omega) (by omega) dL_law_464 rfl ?_
  refine E_callVR (q := 468) (ar := [.int (nI 1), .int (xs (i + 2))]) (rest := [.int y]) lk_L_118 (h2 y M1 hP) rc_X6 (rm1 hd2) (by show k + 0 + 0 ≤ 601024; omega) (by show n + 0 + 0 ≤ 7293034; omega) (Nat.le_of_ble_eq_true rfl) dL_law_465 rfl rfl ?_
  rintro v w ⟨z, hv, hz, M2, hw, hQ⟩
  rw [hw]
  subst hv
  subst hz
  refine V_st (st' := [.int z, .int z]) rfl ?_
  refine E_icmp_eq (tgt := 2807) (q := 471) dL_law_468 (by decide) rfl (fun _ => ?_) (fun h => absurd rfl h)
  exact V_widen (k' := k + 4) (n' := n + 532) (by omega) (by omega) (by show k + 4 ≤ 601024; omega) (by show n + 532 ≤ 7293034; omega) (kk M2 _ _ _ _ hQ)
theorem lw_undoCount (hi : i + 6 ≤ L) (hL : L ≤ 3072) (hk : k ≤ 600000) (hn : n ≤ 7000000) (hA : Ans D ad M yX5_undoCount cfX5_undoCount yX6_undoCount cfX6_undoCount [] Q) (kk : ∀ M2 l5 l6 l7 l8, Q M2 → V D FLaw room_1 (QG (StX sb L xs) Qf) (k + 4) (n + 532) 2807 [some (.ref sb), some (.ref (ad 0)), some (.ref (ad 157)), some (.ref (ad 165)), some (.int (nI i)), l5, l6, l7, l8] [] (wl D ad M2)) : V D FLaw room_1 (QG (StX sb L xs) Qf) k n 473 [some (.ref sb), some (.ref (ad 0)), some (.ref (ad 157)), some (.ref (ad 165)), some (.int (nI i)), l5, l6, l7, l8] [] (wl D ad M) := by
  obtain ⟨d1, d2, P, hd1, hd2, h1, h2⟩ := hA
  refine E_aload1 (q := 474) dL_law_473 rfl ?_
  refine E_callVR (q := 477) (ar := []) (rest := []) lk_L_119 h1 rc_X5 (rm1 hd1) (by show k + 0 ≤ 601024; omega) (by show n + 0 ≤ 7293034; omega) (Nat.le_of_ble_eq_true rfl) dL_law_474 rfl rfl ?_
  rintro v w ⟨y, hv, M1, hw, hP⟩
  rw [hw]
  subst hv
  refine V_st (st' := [.int y]) rfl ?_
  refine E_aload2 (q := 478) dL_law_477 rfl ?_
  refine E_callVR (q := 481) (ar := []) (rest := [.int y]) lk_L_122 (h2 y M1 hP) rc_X6 (rm1 hd2) (by show k + 0 + 0 ≤ 601024; omega) (by show n + 0 + 0 ≤ 7293034; omega) (Nat.le_of_ble_eq_true rfl) dL_law_478 rfl rfl ?_
  rintro v w ⟨z, hv, hz, M2, hw, hQ⟩
  rw [hw]
  subst hv
  subst hz
  refine V_st (st' := [.int z, .int z]) rfl ?_
  refine E_icmp_eq (tgt := 2807) (q := 484) dL_law_481 (by decide) rfl (fun _ => ?_) (fun h => absurd rfl h)
  exact V_widen (k' := k + 4) (n' := n + 532) (by omega) (by omega) (by show k + 4 ≤ 601024; omega) (by show n + 532 ≤ 7293034; omega) (kk M2 _ _ _ _ hQ)
theorem lw_getSetting (hi : i + 6 ≤ L) (hL : L ≤ 3072) (hk : k ≤ 600000) (hn : n ≤ 7000000) (hA : Ans D ad M yX5_getSetting cfX5_getSetting yX6_getSetting cfX6_getSetting [.int (xs (i + 1))] Q) (kk : ∀ M2 l5 l6 l7 l8, Q M2 → V D FLaw room_1 (QG (StX sb L xs) Qf) (k + 4) (n + 532) 2807 [some (.ref sb), some (.ref (ad 0)), some (.ref (ad 157)), some (.ref (ad 165)), some (.int (nI i)), l5, l6, l7, l8] [] (wl D ad M2)) : V D FLaw room_1 (QG (StX sb L xs) Qf) k n 486 [some (.ref sb), some (.ref (ad 0)), some (.ref (ad 157)), some (.ref (ad 165)), some (.int (nI i)), l5, l6, l7, l8] [] (wl D ad M) := by
  obtain ⟨d1, d2, P, hd1, hd2, h1, h2⟩ := hA
  refine E_aload1 (q := 487) dL_law_486 rfl ?_
  refine E_aload0 (q := 488) dL_law_487 rfl ?_
  refine E_iload4 (q := 490) dL_law_488 rfl ?_
  refine E_iconst (v := nI 1) (q := 491) dL_law_490 (by decide) rfl ?_
  refine E_iaddN (q := 492) dL_law_491 rfl ?_
  refine E_sld (q := 493) (i := i + 1) (by omega) (by omega) dL_law_492 rfl ?_
  refine E_callVR (q := 496) (ar := [.int (xs (i + 1))]) (rest := []) lk_L_123 h1 rc_X5 (rm1 hd1) (by show k + 0 ≤ 601024; omega) (by show n + 0 ≤ 7293034; omega) (Nat.le_of_ble_eq_true rfl) dL_law_493 rfl rfl ?_
  rintro v w ⟨y, hv, M1, hw, hP⟩
  rw [hw]
  subst hv
  refine V_st (st' := [.int y]) rfl ?_
  refine E_aload2 (q := 497) dL_law_496 rfl ?_
  refine E_aload0 (q := 498) dL_law_497 rfl ?_
  refine E_iload4 (q := 500) dL_law_498 rfl ?_
  refine E_iconst (v := nI 1) (q := 501) dL_law_500 (by decide) rfl ?_
  refine E_iaddN (q := 502) dL_law_501 rfl ?_
  refine E_sld (q := 503) (i := i + 1) (by omega) (by omega) dL_law_502 rfl ?_
  refine E_callVR (q := 506) (ar := [.int (xs (i + 1))]) (rest := [.int y]) lk_L_126 (h2 y M1 hP) rc_X6 (rm1 hd2) (by show k + 0 + 0 ≤ 601024; omega) (by show n + 0 + 0 ≤ 7293034; omega) (Nat.le_of_ble_eq_true rfl) dL_law_503 rfl rfl ?_
  rintro v w ⟨z, hv, hz, M2, hw, hQ⟩
  rw [hw]
  subst hv
  subst hz
  refine V_st (st' := [.int z, .int z]) rfl ?_
  refine E_icmp_eq (tgt := 2807) (q := 509) dL_law_506 (by decide) rfl (fun _ => ?_) (fun h => absurd rfl h)
  exact V_widen (k' := k + 4) (n' := n + 532) (by omega) (by omega) (by show k + 4 ≤ 601024; omega) (by show n + 532 ≤ 7293034; omega) (kk M2 _ _ _ _ hQ)
theorem lw_isThere (hi : i + 6 ≤ L) (hL : L ≤ 3072) (hk : k ≤ 600000) (hn : n ≤ 7000000) (hA : Ans D ad M yX5_isThere cfX5_isThere yX6_isThere cfX6_isThere [.int (xs (i + 1))] Q) (kk : ∀ M2 l5 l6 l7 l8, Q M2 → V D FLaw room_1 (QG (StX sb L xs) Qf) (k + 4) (n + 532) 2807 [some (.ref sb), some (.ref (ad 0)), some (.ref (ad 157)), some (.ref (ad 165)), some (.int (nI i)), l5, l6, l7, l8] [] (wl D ad M2)) : V D FLaw room_1 (QG (StX sb L xs) Qf) k n 511 [some (.ref sb), some (.ref (ad 0)), some (.ref (ad 157)), some (.ref (ad 165)), some (.int (nI i)), l5, l6, l7, l8] [] (wl D ad M) := by
  obtain ⟨d1, d2, P, hd1, hd2, h1, h2⟩ := hA
  refine E_aload1 (q := 512) dL_law_511 rfl ?_
  refine E_aload0 (q := 513) dL_law_512 rfl ?_
  refine E_iload4 (q := 515) dL_law_513 rfl ?_
  refine E_iconst (v := nI 1) (q := 516) dL_law_515 (by decide) rfl ?_
  refine E_iaddN (q := 517) dL_law_516 rfl ?_
  refine E_sld (q := 518) (i := i + 1) (by omega) (by omega) dL_law_517 rfl ?_
  refine E_callVR (q := 521) (ar := [.int (xs (i + 1))]) (rest := []) lk_L_127 h1 rc_X5 (rm1 hd1) (by show k + 0 ≤ 601024; omega) (by show n + 0 ≤ 7293034; omega) (Nat.le_of_ble_eq_true rfl) dL_law_518 rfl rfl ?_
  rintro v w ⟨y, hv, M1, hw, hP⟩
  rw [hw]
  subst hv
  refine V_st (st' := [.int y]) rfl ?_
  refine E_aload2 (q := 522) dL_law_521 rfl ?_
  refine E_aload0 (q := 523) dL_law_522 rfl ?_
  refine E_iload4 (q := 525) dL_law_523 rfl ?_
  refine E_iconst (v := nI 1) (q := 526) dL_law_525 (by decide) rfl ?_
  refine E_iaddN (q := 527) dL_law_526 rfl ?_
  refine E_sld (q := 528) (i := i + 1) (by omega) (by omega) dL_law_527 rfl ?_
  refine E_callVR (q := 531) (ar := [.int (xs (i + 1))]) (rest := [.int y]) lk_L_131 (h2 y M1 hP) rc_X6 (rm1 hd2) (by show k + 0 + 0 ≤ 601024; omega) (by show n + 0 + 0 ≤ 7293034; omega) (Nat.le_of_ble_eq_true rfl) dL_law_528 rfl rfl ?_
  rintro v w ⟨z, hv, hz, M2, hw, hQ⟩
  rw [hw]
  subst hv
  subst hz
  refine V_st (st' := [.int z, .int z]) rfl ?_
  refine E_icmp_eq (tgt := 2807) (q := 534) dL_law_531 (by decide) rfl (fun _ => ?_) (fun h => absurd rfl h)
  exact V_widen (k' := k + 4) (n' := n + 532) (by omega) (by omega) (by show k + 4 ≤ 601024; omega) (by show n + 532 ≤ 7293034; omega) (kk M2 _ _ _ _ hQ)
theorem lw_volumeNumber (hi : i + 6 ≤ L) (hL : L ≤ 3072) (hk : k ≤ 600000) (hn : n ≤ 7000000) (hA : AnsT D ad M yL_volumeNumber cfL_volumeNumber [(0, 10, 13, 13)] yX6_volumeNumber cfX6_volumeNumber [.ref (ad 0), .int (xs (i + 1)), .int (xs (i + 2)), .ref (ad 165)] [.int (xs (i + 1)), .int (xs (i + 2))] Q) (kk : ∀ M2 l5 l6 l7 l8, Q M2 → V D FLaw room_1 (QG (StX sb L xs) Qf) (k + 4) (n + 532) 2807 [some (.ref sb), some (.ref (ad 0)), some (.ref (ad 157)), some (.ref (ad 165)), some (.int (nI i)), l5, l6, l7, l8] [] (wl D ad M2)) : V D FLaw room_1 (QG (StX sb L xs) Qf) k n 536 [some (.ref sb), some (.ref (ad 0)), some (.ref (ad 157)), some (.ref (ad 165)), some (.int (nI i)), l5, l6, l7, l8] [] (wl D ad M) := by
  rcases hA with ⟨d2, y, M2, hd2, h1, h2, h3, h4, hQ⟩ | ⟨d2, y, M2, hd2, h1, h2, h3, hQ⟩
  · skip
    refine E_aload1 (q := 537) dL_law_536 rfl ?_
    refine E_aload0 (q := 538) dL_law_537 rfl ?_
    refine E_iload4 (q := 540) dL_law_538 rfl ?_
    refine E_iconst (v := nI 1) (q := 541) dL_law_540 (by decide) rfl ?_
    refine E_iaddN (q := 542) dL_law_541 rfl ?_
    refine E_sld (q := 543) (i := i + 1) (by omega) (by omega) dL_law_542 rfl ?_
    refine E_aload0 (q := 544) dL_law_543 rfl ?_
    refine E_iload4 (q := 546) dL_law_544 rfl ?_
    refine E_iconst (v := nI 2) (q := 547) dL_law_546 (by decide) rfl ?_
    refine E_iaddN (q := 548) dL_law_547 rfl ?_
    refine E_sld (q := 549) (i := i + 2) (by omega) (by omega) dL_law_548 rfl ?_
    refine E_aload3 (q := 550) dL_law_549 rfl ?_
    refine E_callSHR (q := 553) (ar := [.ref (ad 0), .int (xs (i + 1)), .int (xs (i + 2)), .ref (ad 165)]) (rest := []) lh_volumeNumber h1 (rm1 (by decide)) (by show k + 1 ≤ 601024; omega) (by show n + 6 ≤ 7293034; omega) (Nat.le_of_ble_eq_true rfl) dL_law_550 rfl rfl ?_
    rintro v w ⟨hv, hw⟩
    rw [hw]
    subst hv
    refine V_st (st' := [.int (nI 0)]) rfl ?_
    refine E_istore5 (q := 555) dL_law_553 rfl rfl ?_
    refine E_aload2 (q := 556) dL_law_555 rfl ?_
    refine E_aload0 (q := 557) dL_law_556 rfl ?_
    refine E_iload4 (q := 559) dL_law_557 rfl ?_
    refine E_iconst (v := nI 1) (q := 560) dL_law_559 (by decide) rfl ?_
    refine E_iaddN (q := 561) dL_law_560 rfl ?_
    refine E_sld (q := 562) (i := i + 1) (by omega) (by omega) dL_law_561 rfl ?_
    refine E_aload0 (q := 563) dL_law_562 rfl ?_
    refine E_iload4 (q := 565) dL_law_563 rfl ?_
    refine E_iconst (v := nI 2) (q := 566) dL_law_565 (by decide) rfl ?_
    refine E_iaddN (q := 567) dL_law_566 rfl ?_
    refine E_sld (q := 568) (i := i + 2) (by omega) (by omega) dL_law_567 rfl ?_
    refine E_callVR (q := 571) (ar := [.int (xs (i + 1)), .int (xs (i + 2))]) (rest := []) lk_L_137 h2 rc_X6 (rm1 hd2) (by show k + 1 + 0 ≤ 601024; omega) (by show n + 6 + 0 ≤ 7293034; omega) (Nat.le_of_ble_eq_true rfl) dL_law_568 rfl rfl ?_
    rintro v w ⟨hv, hw⟩
    rw [hw]
    subst hv
    refine V_st (st' := [.int y]) rfl ?_
    refine E_istore6 (q := 573) dL_law_571 rfl rfl ?_
    refine E_aload2 (q := 574) dL_law_573 rfl ?_
    refine E_callVR (q := 577) (ar := []) (rest := []) lk_L_138 (sp_X6_thrown h3) rc_X6 (rm1 (by decide)) (by show k + 1 + 0 + 0 ≤ 601024; omega) (by show n + 6 + 0 + 0 ≤ 7293034; omega) (Nat.le_of_ble_eq_true rfl) dL_law_574 rfl rfl ?_
    rintro v w ⟨hv, hw⟩
    rw [hw]
    subst hv
    refine V_st (st' := [.int (nI 0)]) rfl ?_
    refine E_iload5 (q := 579) dL_law_577 rfl ?_
    refine E_icmp_eq (tgt := 584) (q := 582) dL_law_579 (by decide) rfl (fun _ => ?_) (fun h => absurd rfl h)
    refine E_iload5 (q := 586) dL_law_584 rfl ?_
    refine E_if_ne (tgt := 601) (q := 589) dL_law_586 (by decide) rfl (fun h => absurd (by decide) h) (fun _ => ?_)
    refine E_aload3 (q := 590) dL_law_589 rfl ?_
    refine E_iconst (v := nI 0) (q := 591) dL_law_590 (by decide) rfl ?_
    refine E_lald (q := 592) sk_165 (by decide) (by decide) dL_law_591 rfl ?_
    refine E_iload6 (q := 594) dL_law_592 rfl ?_
    refine E_i2l (q := 595) dL_law_594 rfl ?_
    refine E_lcmp (q := 596) dL_law_595 rfl ?_
    refine E_if_eq (tgt := 601) (q := 599) dL_law_596 (by decide) rfl (fun _ => ?_) (fun h => absurd (out_cmp h4) h)
    refine E_goto (q := 2807) dL_law_601 (by decide) ?_
    exact V_widen (k' := k + 4) (n' := n + 532) (by omega) (by omega) (by show k + 4 ≤ 601024; omega) (by show n + 532 ≤ 7293034; omega) (kk M2 _ _ _ _ hQ)
  · skip
    refine E_aload1 (q := 537) dL_law_536 rfl ?_
    refine E_aload0 (q := 538) dL_law_537 rfl ?_
    refine E_iload4 (q := 540) dL_law_538 rfl ?_
    refine E_iconst (v := nI 1) (q := 541) dL_law_540 (by decide) rfl ?_
    refine E_iaddN (q := 542) dL_law_541 rfl ?_
    refine E_sld (q := 543) (i := i + 1) (by omega) (by omega) dL_law_542 rfl ?_
    refine E_aload0 (q := 544) dL_law_543 rfl ?_
    refine E_iload4 (q := 546) dL_law_544 rfl ?_
    refine E_iconst (v := nI 2) (q := 547) dL_law_546 (by decide) rfl ?_
    refine E_iaddN (q := 548) dL_law_547 rfl ?_
    refine E_sld (q := 549) (i := i + 2) (by omega) (by omega) dL_law_548 rfl ?_
    refine E_aload3 (q := 550) dL_law_549 rfl ?_
    refine E_callSHR (q := 553) (ar := [.ref (ad 0), .int (xs (i + 1)), .int (xs (i + 2)), .ref (ad 165)]) (rest := []) lh_volumeNumber h1 (rm1 (by decide)) (by show k + 1 ≤ 601024; omega) (by show n + 6 ≤ 7293034; omega) (Nat.le_of_ble_eq_true rfl) dL_law_550 rfl rfl ?_
    rintro v w ⟨hv, hw⟩
    rw [hw]
    subst hv
    refine V_st (st' := [.int (nI 1)]) rfl ?_
    refine E_istore5 (q := 555) dL_law_553 rfl rfl ?_
    refine E_aload2 (q := 556) dL_law_555 rfl ?_
    refine E_aload0 (q := 557) dL_law_556 rfl ?_
    refine E_iload4 (q := 559) dL_law_557 rfl ?_
    refine E_iconst (v := nI 1) (q := 560) dL_law_559 (by decide) rfl ?_
    refine E_iaddN (q := 561) dL_law_560 rfl ?_
    refine E_sld (q := 562) (i := i + 1) (by omega) (by omega) dL_law_561 rfl ?_
    refine E_aload0 (q := 563) dL_law_562 rfl ?_
    refine E_iload4 (q := 565) dL_law_563 rfl ?_
    refine E_iconst (v := nI 2) (q := 566) dL_law_565 (by decide) rfl ?_
    refine E_iaddN (q := 567) dL_law_566 rfl ?_
    refine E_sld (q := 568) (i := i + 2) (by omega) (by omega) dL_law_567 rfl ?_
    refine E_callVR (q := 571) (ar := [.int (xs (i + 1)), .int (xs (i + 2))]) (rest := []) lk_L_137 h2 rc_X6 (rm1 hd2) (by show k + 1 + 0 ≤ 601024; omega) (by show n + 6 + 0 ≤ 7293034; omega) (Nat.le_of_ble_eq_true rfl) dL_law_568 rfl rfl ?_
    rintro v w ⟨hv, hw⟩
    rw [hw]
    subst hv
    refine V_st (st' := [.int y]) rfl ?_
    refine E_istore6 (q := 573) dL_law_571 rfl rfl ?_
    refine E_aload2 (q := 574) dL_law_573 rfl ?_
    refine E_callVR (q := 577) (ar := []) (rest := []) lk_L_138 (sp_X6_thrown h3) rc_X6 (rm1 (by decide)) (by show k + 1 + 0 + 0 ≤ 601024; omega) (by show n + 6 + 0 + 0 ≤ 7293034; omega) (Nat.le_of_ble_eq_true rfl) dL_law_574 rfl rfl ?_
    rintro v w ⟨hv, hw⟩
    rw [hw]
    subst hv
    refine V_st (st' := [.int (nI 1)]) rfl ?_
    refine E_iload5 (q := 579) dL_law_577 rfl ?_
    refine E_icmp_eq (tgt := 584) (q := 582) dL_law_579 (by decide) rfl (fun _ => ?_) (fun h => absurd rfl h)
    refine E_iload5 (q := 586) dL_law_584 rfl ?_
    refine E_if_ne (tgt := 601) (q := 589) dL_law_586 (by decide) rfl (fun _ => ?_) (fun h => absurd h (by decide))
    refine E_goto (q := 2807) dL_law_601 (by decide) ?_
    exact V_widen (k' := k + 4) (n' := n + 532) (by omega) (by omega) (by show k + 4 ≤ 601024; omega) (by show n + 532 ≤ 7293034; omega) (kk M2 _ _ _ _ hQ)
theorem lw_snapshotNumber (hi : i + 6 ≤ L) (hL : L ≤ 3072) (hk : k ≤ 600000) (hn : n ≤ 7000000) (hA : AnsT D ad M yL_snapshotNumber cfL_snapshotNumber [(0, 10, 13, 13)] yX6_snapshotNumber cfX6_snapshotNumber [.ref (ad 0), .int (xs (i + 1)), .int (xs (i + 2)), .ref (ad 165)] [.int (xs (i + 1)), .int (xs (i + 2))] Q) (kk : ∀ M2 l5 l6 l7 l8, Q M2 → V D FLaw room_1 (QG (StX sb L xs) Qf) (k + 4) (n + 532) 2807 [some (.ref sb), some (.ref (ad 0)), some (.ref (ad 157)), some (.ref (ad 165)), some (.int (nI i)), l5, l6, l7, l8] [] (wl D ad M2)) : V D FLaw room_1 (QG (StX sb L xs) Qf) k n 604 [some (.ref sb), some (.ref (ad 0)), some (.ref (ad 157)), some (.ref (ad 165)), some (.int (nI i)), l5, l6, l7, l8] [] (wl D ad M) := by
  rcases hA with ⟨d2, y, M2, hd2, h1, h2, h3, h4, hQ⟩ | ⟨d2, y, M2, hd2, h1, h2, h3, hQ⟩
  · skip
    refine E_aload1 (q := 605) dL_law_604 rfl ?_
    refine E_aload0 (q := 606) dL_law_605 rfl ?_
    refine E_iload4 (q := 608) dL_law_606 rfl ?_
    refine E_iconst (v := nI 1) (q := 609) dL_law_608 (by decide) rfl ?_
    refine E_iaddN (q := 610) dL_law_609 rfl ?_
    refine E_sld (q := 611) (i := i + 1) (by omega) (by omega) dL_law_610 rfl ?_
    refine E_aload0 (q := 612) dL_law_611 rfl ?_
    refine E_iload4 (q := 614) dL_law_612 rfl ?_
    refine E_iconst (v := nI 2) (q := 615) dL_law_614 (by decide) rfl ?_
    refine E_iaddN (q := 616) dL_law_615 rfl ?_
    refine E_sld (q := 617) (i := i + 2) (by omega) (by omega) dL_law_616 rfl ?_
    refine E_aload3 (q := 618) dL_law_617 rfl ?_
    refine E_callSHR (q := 621) (ar := [.ref (ad 0), .int (xs (i + 1)), .int (xs (i + 2)), .ref (ad 165)]) (rest := []) lh_snapshotNumber h1 (rm1 (by decide)) (by show k + 1 ≤ 601024; omega) (by show n + 6 ≤ 7293034; omega) (Nat.le_of_ble_eq_true rfl) dL_law_618 rfl rfl ?_
    rintro v w ⟨hv, hw⟩
    rw [hw]
    subst hv
    refine V_st (st' := [.int (nI 0)]) rfl ?_
    refine E_istore5 (q := 623) dL_law_621 rfl rfl ?_
    refine E_aload2 (q := 624) dL_law_623 rfl ?_
    refine E_aload0 (q := 625) dL_law_624 rfl ?_
    refine E_iload4 (q := 627) dL_law_625 rfl ?_
    refine E_iconst (v := nI 1) (q := 628) dL_law_627 (by decide) rfl ?_
    refine E_iaddN (q := 629) dL_law_628 rfl ?_
    refine E_sld (q := 630) (i := i + 1) (by omega) (by omega) dL_law_629 rfl ?_
    refine E_aload0 (q := 631) dL_law_630 rfl ?_
    refine E_iload4 (q := 633) dL_law_631 rfl ?_
    refine E_iconst (v := nI 2) (q := 634) dL_law_633 (by decide) rfl ?_
    refine E_iaddN (q := 635) dL_law_634 rfl ?_
    refine E_sld (q := 636) (i := i + 2) (by omega) (by omega) dL_law_635 rfl ?_
    refine E_callVR (q := 639) (ar := [.int (xs (i + 1)), .int (xs (i + 2))]) (rest := []) lk_L_143 h2 rc_X6 (rm1 hd2) (by show k + 1 + 0 ≤ 601024; omega) (by show n + 6 + 0 ≤ 7293034; omega) (Nat.le_of_ble_eq_true rfl) dL_law_636 rfl rfl ?_
    rintro v w ⟨hv, hw⟩
    rw [hw]
    subst hv
    refine V_st (st' := [.int y]) rfl ?_
    refine E_istore6 (q := 641) dL_law_639 rfl rfl ?_
    refine E_aload2 (q := 642) dL_law_641 rfl ?_
    refine E_callVR (q := 645) (ar := []) (rest := []) lk_L_138 (sp_X6_thrown h3) rc_X6 (rm1 (by decide)) (by show k + 1 + 0 + 0 ≤ 601024; omega) (by show n + 6 + 0 + 0 ≤ 7293034; omega) (Nat.le_of_ble_eq_true rfl) dL_law_642 rfl rfl ?_
    rintro v w ⟨hv, hw⟩
    rw [hw]
    subst hv
    refine V_st (st' := [.int (nI 0)]) rfl ?_
    refine E_iload5 (q := 647) dL_law_645 rfl ?_
    refine E_icmp_eq (tgt := 652) (q := 650) dL_law_647 (by decide) rfl (fun _ => ?_) (fun h => absurd rfl h)
    refine E_iload5 (q := 654) dL_law_652 rfl ?_
    refine E_if_ne (tgt := 669) (q := 657) dL_law_654 (by decide) rfl (fun h => absurd (by decide) h) (fun _ => ?_)
    refine E_aload3 (q := 658) dL_law_657 rfl ?_
    refine E_iconst (v := nI 0) (q := 659) dL_law_658 (by decide) rfl ?_
    refine E_lald (q := 660) sk_165 (by decide) (by decide) dL_law_659 rfl ?_
    refine E_iload6 (q := 662) dL_law_660 rfl ?_
    refine E_i2l (q := 663) dL_law_662 rfl ?_
    refine E_lcmp (q := 664) dL_law_663 rfl ?_
    refine E_if_eq (tgt := 669) (q := 667) dL_law_664 (by decide) rfl (fun _ => ?_) (fun h => absurd (out_cmp h4) h)
    refine E_goto (q := 2807) dL_law_669 (by decide) ?_
    exact V_widen (k' := k + 4) (n' := n + 532) (by omega) (by omega) (by show k + 4 ≤ 601024; omega) (by show n + 532 ≤ 7293034; omega) (kk M2 _ _ _ _ hQ)
  · skip
    refine E_aload1 (q := 605) dL_law_604 rfl ?_
    refine E_aload0 (q := 606) dL_law_605 rfl ?_
    refine E_iload4 (q := 608) dL_law_606 rfl ?_
    refine E_iconst (v := nI 1) (q := 609) dL_law_608 (by decide) rfl ?_
    refine E_iaddN (q := 610) dL_law_609 rfl ?_
    refine E_sld (q := 611) (i := i + 1) (by omega) (by omega) dL_law_610 rfl ?_
    refine E_aload0 (q := 612) dL_law_611 rfl ?_
    refine E_iload4 (q := 614) dL_law_612 rfl ?_
    refine E_iconst (v := nI 2) (q := 615) dL_law_614 (by decide) rfl ?_
    refine E_iaddN (q := 616) dL_law_615 rfl ?_
    refine E_sld (q := 617) (i := i + 2) (by omega) (by omega) dL_law_616 rfl ?_
    refine E_aload3 (q := 618) dL_law_617 rfl ?_
    refine E_callSHR (q := 621) (ar := [.ref (ad 0), .int (xs (i + 1)), .int (xs (i + 2)), .ref (ad 165)]) (rest := []) lh_snapshotNumber h1 (rm1 (by decide)) (by show k + 1 ≤ 601024; omega) (by show n + 6 ≤ 7293034; omega) (Nat.le_of_ble_eq_true rfl) dL_law_618 rfl rfl ?_
    rintro v w ⟨hv, hw⟩
    rw [hw]
    subst hv
    refine V_st (st' := [.int (nI 1)]) rfl ?_
    refine E_istore5 (q := 623) dL_law_621 rfl rfl ?_
    refine E_aload2 (q := 624) dL_law_623 rfl ?_
    refine E_aload0 (q := 625) dL_law_624 rfl ?_
    refine E_iload4 (q := 627) dL_law_625 rfl ?_
    refine E_iconst (v := nI 1) (q := 628) dL_law_627 (by decide) rfl ?_
    refine E_iaddN (q := 629) dL_law_628 rfl ?_
    refine E_sld (q := 630) (i := i + 1) (by omega) (by omega) dL_law_629 rfl ?_
    refine E_aload0 (q := 631) dL_law_630 rfl ?_
    refine E_iload4 (q := 633) dL_law_631 rfl ?_
    refine E_iconst (v := nI 2) (q := 634) dL_law_633 (by decide) rfl ?_
    refine E_iaddN (q := 635) dL_law_634 rfl ?_
    refine E_sld (q := 636) (i := i + 2) (by omega) (by omega) dL_law_635 rfl ?_
    refine E_callVR (q := 639) (ar := [.int (xs (i + 1)), .int (xs (i + 2))]) (rest := []) lk_L_143 h2 rc_X6 (rm1 hd2) (by show k + 1 + 0 ≤ 601024; omega) (by show n + 6 + 0 ≤ 7293034; omega) (Nat.le_of_ble_eq_true rfl) dL_law_636 rfl rfl ?_
    rintro v w ⟨hv, hw⟩
    rw [hw]
    subst hv
    refine V_st (st' := [.int y]) rfl ?_
    refine E_istore6 (q := 641) dL_law_639 rfl rfl ?_
    refine E_aload2 (q := 642) dL_law_641 rfl ?_
    refine E_callVR (q := 645) (ar := []) (rest := []) lk_L_138 (sp_X6_thrown h3) rc_X6 (rm1 (by decide)) (by show k + 1 + 0 + 0 ≤ 601024; omega) (by show n + 6 + 0 + 0 ≤ 7293034; omega) (Nat.le_of_ble_eq_true rfl) dL_law_642 rfl rfl ?_
    rintro v w ⟨hv, hw⟩
    rw [hw]
    subst hv
    refine V_st (st' := [.int (nI 1)]) rfl ?_
    refine E_iload5 (q := 647) dL_law_645 rfl ?_
    refine E_icmp_eq (tgt := 652) (q := 650) dL_law_647 (by decide) rfl (fun _ => ?_) (fun h => absurd rfl h)
    refine E_iload5 (q := 654) dL_law_652 rfl ?_
    refine E_if_ne (tgt := 669) (q := 657) dL_law_654 (by decide) rfl (fun _ => ?_) (fun h => absurd h (by decide))
    refine E_goto (q := 2807) dL_law_669 (by decide) ?_
    exact V_widen (k' := k + 4) (n' := n + 532) (by omega) (by omega) (by show k + 4 ≤ 601024; omega) (by show n + 532 ≤ 7293034; omega) (kk M2 _ _ _ _ hQ)
theorem lw_snapshotAt (hi : i + 6 ≤ L) (hL : L ≤ 3072) (hk : k ≤ 600000) (hn : n ≤ 7000000) (hA : AnsT D ad M yL_snapshotAt cfL_snapshotAt [(0, 10, 13, 13)] yX6_snapshotAt cfX6_snapshotAt [.ref (ad 0), .int (xs (i + 1)), .int (xs (i + 2)), .ref (ad 165)] [.int (xs (i + 1)), .int (xs (i + 2))] Q) (kk : ∀ M2 l5 l6 l7 l8, Q M2 → V D FLaw room_1 (QG (StX sb L xs) Qf) (k + 4) (n + 532) 2807 [some (.ref sb), some (.ref (ad 0)), some (.ref (ad 157)), some (.ref (ad 165)), some (.int (nI i)), l5, l6, l7, l8] [] (wl D ad M2)) : V D FLaw room_1 (QG (StX sb L xs) Qf) k n 672 [some (.ref sb), some (.ref (ad 0)), some (.ref (ad 157)), some (.ref (ad 165)), some (.int (nI i)), l5, l6, l7, l8] [] (wl D ad M) := by
  rcases hA with ⟨d2, y, M2, hd2, h1, h2, h3, h4, hQ⟩ | ⟨d2, y, M2, hd2, h1, h2, h3, hQ⟩
  · skip
    refine E_aload1 (q := 673) dL_law_672 rfl ?_
    refine E_aload0 (q := 674) dL_law_673 rfl ?_
    refine E_iload4 (q := 676) dL_law_674 rfl ?_
    refine E_iconst (v := nI 1) (q := 677) dL_law_676 (by decide) rfl ?_
    refine E_iaddN (q := 678) dL_law_677 rfl ?_
    refine E_sld (q := 679) (i := i + 1) (by omega) (by omega) dL_law_678 rfl ?_
    refine E_aload0 (q := 680) dL_law_679 rfl ?_
    refine E_iload4 (q := 682) dL_law_680 rfl ?_
    refine E_iconst (v := nI 2) (q := 683) dL_law_682 (by decide) rfl ?_
    refine E_iaddN (q := 684) dL_law_683 rfl ?_
    refine E_sld (q := 685) (i := i + 2) (by omega) (by omega) dL_law_684 rfl ?_
    refine E_aload3 (q := 686) dL_law_685 rfl ?_
    refine E_callSHR (q := 689) (ar := [.ref (ad 0), .int (xs (i + 1)), .int (xs (i + 2)), .ref (ad 165)]) (rest := []) lh_snapshotAt h1 (rm1 (by decide)) (by show k + 1 ≤ 601024; omega) (by show n + 6 ≤ 7293034; omega) (Nat.le_of_ble_eq_true rfl) dL_law_686 rfl rfl ?_
    rintro v w ⟨hv, hw⟩
    rw [hw]
    subst hv
    refine V_st (st' := [.int (nI 0)]) rfl ?_
    refine E_istore5 (q := 691) dL_law_689 rfl rfl ?_
    refine E_aload2 (q := 692) dL_law_691 rfl ?_
    refine E_aload0 (q := 693) dL_law_692 rfl ?_
    refine E_iload4 (q := 695) dL_law_693 rfl ?_
    refine E_iconst (v := nI 1) (q := 696) dL_law_695 (by decide) rfl ?_
    refine E_iaddN (q := 697) dL_law_696 rfl ?_
    refine E_sld (q := 698) (i := i + 1) (by omega) (by omega) dL_law_697 rfl ?_
    refine E_aload0 (q := 699) dL_law_698 rfl ?_
    refine E_iload4 (q := 701) dL_law_699 rfl ?_
    refine E_iconst (v := nI 2) (q := 702) dL_law_701 (by decide) rfl ?_
    refine E_iaddN (q := 703) dL_law_702 rfl ?_
    refine E_sld (q := 704) (i := i + 2) (by omega) (by omega) dL_law_703 rfl ?_
    refine E_callVR (q := 707) (ar := [.int (xs (i + 1)), .int (xs (i + 2))]) (rest := []) lk_L_146 h2 rc_X6 (rm1 hd2) (by show k + 1 + 0 ≤ 601024; omega) (by show n + 6 + 0 ≤ 7293034; omega) (Nat.le_of_ble_eq_true rfl) dL_law_704 rfl rfl ?_
    rintro v w ⟨hv, hw⟩
    rw [hw]
    subst hv
    refine V_st (st' := [.int y]) rfl ?_
    refine E_istore6 (q := 709) dL_law_707 rfl rfl ?_
    refine E_aload2 (q := 710) dL_law_709 rfl ?_
    refine E_callVR (q := 713) (ar := []) (rest := []) lk_L_138 (sp_X6_thrown h3) rc_X6 (rm1 (by decide)) (by show k + 1 + 0 + 0 ≤ 601024; omega) (by show n + 6 + 0 + 0 ≤ 7293034; omega) (Nat.le_of_ble_eq_true rfl) dL_law_710 rfl rfl ?_
    rintro v w ⟨hv, hw⟩
    rw [hw]
    subst hv
    refine V_st (st' := [.int (nI 0)]) rfl ?_
    refine E_iload5 (q := 715) dL_law_713 rfl ?_
    refine E_icmp_eq (tgt := 720) (q := 718) dL_law_715 (by decide) rfl (fun _ => ?_) (fun h => absurd rfl h)
    refine E_iload5 (q := 722) dL_law_720 rfl ?_
    refine E_if_ne (tgt := 737) (q := 725) dL_law_722 (by decide) rfl (fun h => absurd (by decide) h) (fun _ => ?_)
    refine E_aload3 (q := 726) dL_law_725 rfl ?_
    refine E_iconst (v := nI 0) (q := 727) dL_law_726 (by decide) rfl ?_
    refine E_lald (q := 728) sk_165 (by decide) (by decide) dL_law_727 rfl ?_
    refine E_iload6 (q := 730) dL_law_728 rfl ?_
    refine E_i2l (q := 731) dL_law_730 rfl ?_
    refine E_lcmp (q := 732) dL_law_731 rfl ?_
    refine E_if_eq (tgt := 737) (q := 735) dL_law_732 (by decide) rfl (fun _ => ?_) (fun h => absurd (out_cmp h4) h)
    refine E_goto (q := 2807) dL_law_737 (by decide) ?_
    exact V_widen (k' := k + 4) (n' := n + 532) (by omega) (by omega) (by show k + 4 ≤ 601024; omega) (by show n + 532 ≤ 7293034; omega) (kk M2 _ _ _ _ hQ)
  · skip
    refine E_aload1 (q := 673) dL_law_672 rfl ?_
    refine E_aload0 (q := 674) dL_law_673 rfl ?_
    refine E_iload4 (q := 676) dL_law_674 rfl ?_
    refine E_iconst (v := nI 1) (q := 677) dL_law_676 (by decide) rfl ?_
    refine E_iaddN (q := 678) dL_law_677 rfl ?_
    refine E_sld (q := 679) (i := i + 1) (by omega) (by omega) dL_law_678 rfl ?_
    refine E_aload0 (q := 680) dL_law_679 rfl ?_
    refine E_iload4 (q := 682) dL_law_680 rfl ?_
    refine E_iconst (v := nI 2) (q := 683) dL_law_682 (by decide) rfl ?_
    refine E_iaddN (q := 684) dL_law_683 rfl ?_
    refine E_sld (q := 685) (i := i + 2) (by omega) (by omega) dL_law_684 rfl ?_
    refine E_aload3 (q := 686) dL_law_685 rfl ?_
    refine E_callSHR (q := 689) (ar := [.ref (ad 0), .int (xs (i + 1)), .int (xs (i + 2)), .ref (ad 165)]) (rest := []) lh_snapshotAt h1 (rm1 (by decide)) (by show k + 1 ≤ 601024; omega) (by show n + 6 ≤ 7293034; omega) (Nat.le_of_ble_eq_true rfl) dL_law_686 rfl rfl ?_
    rintro v w ⟨hv, hw⟩
    rw [hw]
    subst hv
    refine V_st (st' := [.int (nI 1)]) rfl ?_
    refine E_istore5 (q := 691) dL_law_689 rfl rfl ?_
    refine E_aload2 (q := 692) dL_law_691 rfl ?_
    refine E_aload0 (q := 693) dL_law_692 rfl ?_
    refine E_iload4 (q := 695) dL_law_693 rfl ?_
    refine E_iconst (v := nI 1) (q := 696) dL_law_695 (by decide) rfl ?_
    refine E_iaddN (q := 697) dL_law_696 rfl ?_
    refine E_sld (q := 698) (i := i + 1) (by omega) (by omega) dL_law_697 rfl ?_
    refine E_aload0 (q := 699) dL_law_698 rfl ?_
    refine E_iload4 (q := 701) dL_law_699 rfl ?_
    refine E_iconst (v := nI 2) (q := 702) dL_law_701 (by decide) rfl ?_
    refine E_iaddN (q := 703) dL_law_702 rfl ?_
    refine E_sld (q := 704) (i := i + 2) (by omega) (by omega) dL_law_703 rfl ?_
    refine E_callVR (q := 707) (ar := [.int (xs (i + 1)), .int (xs (i + 2))]) (rest := []) lk_L_146 h2 rc_X6 (rm1 hd2) (by show k + 1 + 0 ≤ 601024; omega) (by show n + 6 + 0 ≤ 7293034; omega) (Nat.le_of_ble_eq_true rfl) dL_law_704 rfl rfl ?_
    rintro v w ⟨hv, hw⟩
    rw [hw]
    subst hv
    refine V_st (st' := [.int y]) rfl ?_
    refine E_istore6 (q := 709) dL_law_707 rfl rfl ?_
    refine E_aload2 (q := 710) dL_law_709 rfl ?_
    refine E_callVR (q := 713) (ar := []) (rest := []) lk_L_138 (sp_X6_thrown h3) rc_X6 (rm1 (by decide)) (by show k + 1 + 0 + 0 ≤ 601024; omega) (by show n + 6 + 0 + 0 ≤ 7293034; omega) (Nat.le_of_ble_eq_true rfl) dL_law_710 rfl rfl ?_
    rintro v w ⟨hv, hw⟩
    rw [hw]
    subst hv
    refine V_st (st' := [.int (nI 1)]) rfl ?_
    refine E_iload5 (q := 715) dL_law_713 rfl ?_
    refine E_icmp_eq (tgt := 720) (q := 718) dL_law_715 (by decide) rfl (fun _ => ?_) (fun h => absurd rfl h)
    refine E_iload5 (q := 722) dL_law_720 rfl ?_
    refine E_if_ne (tgt := 737) (q := 725) dL_law_722 (by decide) rfl (fun _ => ?_) (fun h => absurd h (by decide))
    refine E_goto (q := 2807) dL_law_737 (by decide) ?_
    exact V_widen (k' := k + 4) (n' := n + 532) (by omega) (by omega) (by show k + 4 ≤ 601024; omega) (by show n + 532 ≤ 7293034; omega) (kk M2 _ _ _ _ hQ)
theorem lw_clonesOf (hi : i + 6 ≤ L) (hL : L ≤ 3072) (hk : k ≤ 600000) (hn : n ≤ 7000000) (hA : AnsT D ad M yL_clonesOf cfL_clonesOf [(0, 9, 12, 13)] yX6_clonesOf cfX6_clonesOf [.ref (ad 0), .int (xs (i + 1)), .ref (ad 165)] [.int (xs (i + 1))] Q) (kk : ∀ M2 l5 l6 l7 l8, Q M2 → V D FLaw room_1 (QG (StX sb L xs) Qf) (k + 4) (n + 532) 2807 [some (.ref sb), some (.ref (ad 0)), some (.ref (ad 157)), some (.ref (ad 165)), some (.int (nI i)), l5, l6, l7, l8] [] (wl D ad M2)) : V D FLaw room_1 (QG (StX sb L xs) Qf) k n 740 [some (.ref sb), some (.ref (ad 0)), some (.ref (ad 157)), some (.ref (ad 165)), some (.int (nI i)), l5, l6, l7, l8] [] (wl D ad M) := by
  rcases hA with ⟨d2, y, M2, hd2, h1, h2, h3, h4, hQ⟩ | ⟨d2, y, M2, hd2, h1, h2, h3, hQ⟩
  · skip
    refine E_aload1 (q := 741) dL_law_740 rfl ?_
    refine E_aload0 (q := 742) dL_law_741 rfl ?_
    refine E_iload4 (q := 744) dL_law_742 rfl ?_
    refine E_iconst (v := nI 1) (q := 745) dL_law_744 (by decide) rfl ?_
    refine E_iaddN (q := 746) dL_law_745 rfl ?_
    refine E_sld (q := 747) (i := i + 1) (by omega) (by omega) dL_law_746 rfl ?_
    refine E_aload3 (q := 748) dL_law_747 rfl ?_
    refine E_callSHR (q := 751) (ar := [.ref (ad 0), .int (xs (i + 1)), .ref (ad 165)]) (rest := []) lh_clonesOf h1 (rm1 (by decide)) (by show k + 1 ≤ 601024; omega) (by show n + 6 ≤ 7293034; omega) (Nat.le_of_ble_eq_true rfl) dL_law_748 rfl rfl ?_
    rintro v w ⟨hv, hw⟩
    rw [hw]
    subst hv
    refine V_st (st' := [.int (nI 0)]) rfl ?_
    refine E_istore5 (q := 753) dL_law_751 rfl rfl ?_
    refine E_aload2 (q := 754) dL_law_753 rfl ?_
    refine E_aload0 (q := 755) dL_law_754 rfl ?_
    refine E_iload4 (q := 757) dL_law_755 rfl ?_
    refine E_iconst (v := nI 1) (q := 758) dL_law_757 (by decide) rfl ?_
    refine E_iaddN (q := 759) dL_law_758 rfl ?_
    refine E_sld (q := 760) (i := i + 1) (by omega) (by omega) dL_law_759 rfl ?_
    refine E_callVR (q := 763) (ar := [.int (xs (i + 1))]) (rest := []) lk_L_150 h2 rc_X6 (rm1 hd2) (by show k + 1 + 0 ≤ 601024; omega) (by show n + 6 + 0 ≤ 7293034; omega) (Nat.le_of_ble_eq_true rfl) dL_law_760 rfl rfl ?_
    rintro v w ⟨hv, hw⟩
    rw [hw]
    subst hv
    refine V_st (st' := [.int y]) rfl ?_
    refine E_istore6 (q := 765) dL_law_763 rfl rfl ?_
    refine E_aload2 (q := 766) dL_law_765 rfl ?_
    refine E_callVR (q := 769) (ar := []) (rest := []) lk_L_138 (sp_X6_thrown h3) rc_X6 (rm1 (by decide)) (by show k + 1 + 0 + 0 ≤ 601024; omega) (by show n + 6 + 0 + 0 ≤ 7293034; omega) (Nat.le_of_ble_eq_true rfl) dL_law_766 rfl rfl ?_
    rintro v w ⟨hv, hw⟩
    rw [hw]
    subst hv
    refine V_st (st' := [.int (nI 0)]) rfl ?_
    refine E_iload5 (q := 771) dL_law_769 rfl ?_
    refine E_icmp_eq (tgt := 776) (q := 774) dL_law_771 (by decide) rfl (fun _ => ?_) (fun h => absurd rfl h)
    refine E_iload5 (q := 778) dL_law_776 rfl ?_
    refine E_if_ne (tgt := 793) (q := 781) dL_law_778 (by decide) rfl (fun h => absurd (by decide) h) (fun _ => ?_)
    refine E_aload3 (q := 782) dL_law_781 rfl ?_
    refine E_iconst (v := nI 0) (q := 783) dL_law_782 (by decide) rfl ?_
    refine E_lald (q := 784) sk_165 (by decide) (by decide) dL_law_783 rfl ?_
    refine E_iload6 (q := 786) dL_law_784 rfl ?_
    refine E_i2l (q := 787) dL_law_786 rfl ?_
    refine E_lcmp (q := 788) dL_law_787 rfl ?_
    refine E_if_eq (tgt := 793) (q := 791) dL_law_788 (by decide) rfl (fun _ => ?_) (fun h => absurd (out_cmp h4) h)
    refine E_goto (q := 2807) dL_law_793 (by decide) ?_
    exact V_widen (k' := k + 4) (n' := n + 532) (by omega) (by omega) (by show k + 4 ≤ 601024; omega) (by show n + 532 ≤ 7293034; omega) (kk M2 _ _ _ _ hQ)
  · skip
    refine E_aload1 (q := 741) dL_law_740 rfl ?_
    refine E_aload0 (q := 742) dL_law_741 rfl ?_
    refine E_iload4 (q := 744) dL_law_742 rfl ?_
    refine E_iconst (v := nI 1) (q := 745) dL_law_744 (by decide) rfl ?_
    refine E_iaddN (q := 746) dL_law_745 rfl ?_
    refine E_sld (q := 747) (i := i + 1) (by omega) (by omega) dL_law_746 rfl ?_
    refine E_aload3 (q := 748) dL_law_747 rfl ?_
    refine E_callSHR (q := 751) (ar := [.ref (ad 0), .int (xs (i + 1)), .ref (ad 165)]) (rest := []) lh_clonesOf h1 (rm1 (by decide)) (by show k + 1 ≤ 601024; omega) (by show n + 6 ≤ 7293034; omega) (Nat.le_of_ble_eq_true rfl) dL_law_748 rfl rfl ?_
    rintro v w ⟨hv, hw⟩
    rw [hw]
    subst hv
    refine V_st (st' := [.int (nI 1)]) rfl ?_
    refine E_istore5 (q := 753) dL_law_751 rfl rfl ?_
    refine E_aload2 (q := 754) dL_law_753 rfl ?_
    refine E_aload0 (q := 755) dL_law_754 rfl ?_
    refine E_iload4 (q := 757) dL_law_755 rfl ?_
    refine E_iconst (v := nI 1) (q := 758) dL_law_757 (by decide) rfl ?_
    refine E_iaddN (q := 759) dL_law_758 rfl ?_
    refine E_sld (q := 760) (i := i + 1) (by omega) (by omega) dL_law_759 rfl ?_
    refine E_callVR (q := 763) (ar := [.int (xs (i + 1))]) (rest := []) lk_L_150 h2 rc_X6 (rm1 hd2) (by show k + 1 + 0 ≤ 601024; omega) (by show n + 6 + 0 ≤ 7293034; omega) (Nat.le_of_ble_eq_true rfl) dL_law_760 rfl rfl ?_
    rintro v w ⟨hv, hw⟩
    rw [hw]
    subst hv
    refine V_st (st' := [.int y]) rfl ?_
    refine E_istore6 (q := 765) dL_law_763 rfl rfl ?_
    refine E_aload2 (q := 766) dL_law_765 rfl ?_
    refine E_callVR (q := 769) (ar := []) (rest := []) lk_L_138 (sp_X6_thrown h3) rc_X6 (rm1 (by decide)) (by show k + 1 + 0 + 0 ≤ 601024; omega) (by show n + 6 + 0 + 0 ≤ 7293034; omega) (Nat.le_of_ble_eq_true rfl) dL_law_766 rfl rfl ?_
    rintro v w ⟨hv, hw⟩
    rw [hw]
    subst hv
    refine V_st (st' := [.int (nI 1)]) rfl ?_
    refine E_iload5 (q := 771) dL_law_769 rfl ?_
    refine E_icmp_eq (tgt := 776) (q := 774) dL_law_771 (by decide) rfl (fun _ => ?_) (fun h => absurd rfl h)
    refine E_iload5 (q := 778) dL_law_776 rfl ?_
    refine E_if_ne (tgt := 793) (q := 781) dL_law_778 (by decide) rfl (fun _ => ?_) (fun h => absurd h (by decide))
    refine E_goto (q := 2807) dL_law_793 (by decide) ?_
    exact V_widen (k' := k + 4) (n' := n + 532) (by omega) (by omega) (by show k + 4 ≤ 601024; omega) (by show n + 532 ≤ 7293034; omega) (kk M2 _ _ _ _ hQ)
theorem lw_before (hi : i + 6 ≤ L) (hL : L ≤ 3072) (hk : k ≤ 600000) (hn : n ≤ 7000000) (hA : AnsT D ad M yL_before cfL_before [(0, 9, 12, 13)] yX6_before cfX6_before [.ref (ad 0), .int (xs (i + 1)), .ref (ad 165)] [.int (xs (i + 1))] Q) (kk : ∀ M2 l5 l6 l7 l8, Q M2 → V D FLaw room_1 (QG (StX sb L xs) Qf) (k + 4) (n + 532) 2807 [some (.ref sb), some (.ref (ad 0)), some (.ref (ad 157)), some (.ref (ad 165)), some (.int (nI i)), l5, l6, l7, l8] [] (wl D ad M2)) : V D FLaw room_1 (QG (StX sb L xs) Qf) k n 796 [some (.ref sb), some (.ref (ad 0)), some (.ref (ad 157)), some (.ref (ad 165)), some (.int (nI i)), l5, l6, l7, l8] [] (wl D ad M) := by
  rcases hA with ⟨d2, y, M2, hd2, h1, h2, h3, h4, hQ⟩ | ⟨d2, y, M2, hd2, h1, h2, h3, hQ⟩
  · skip
    refine E_aload1 (q := 797) dL_law_796 rfl ?_
    refine E_aload0 (q := 798) dL_law_797 rfl ?_
    refine E_iload4 (q := 800) dL_law_798 rfl ?_
    refine E_iconst (v := nI 1) (q := 801) dL_law_800 (by decide) rfl ?_
    refine E_iaddN (q := 802) dL_law_801 rfl ?_
    refine E_sld (q := 803) (i := i + 1) (by omega) (by omega) dL_law_802 rfl ?_
    refine E_aload3 (q := 804) dL_law_803 rfl ?_
    refine E_callSHR (q := 807) (ar := [.ref (ad 0), .int (xs (i + 1)), .ref (ad 165)]) (rest := []) lh_before h1 (rm1 (by decide)) (by show k + 1 ≤ 601024; omega) (by show n + 6 ≤ 7293034; omega) (Nat.le_of_ble_eq_true rfl) dL_law_804 rfl rfl ?_
    rintro v w ⟨hv, hw⟩
    rw [hw]
    subst hv
    refine V_st (st' := [.int (nI 0)]) rfl ?_
    refine E_istore5 (q := 809) dL_law_807 rfl rfl ?_
    refine E_aload2 (q := 810) dL_law_809 rfl ?_
    refine E_aload0 (q := 811) dL_law_810 rfl ?_
    refine E_iload4 (q := 813) dL_law_811 rfl ?_
    refine E_iconst (v := nI 1) (q := 814) dL_law_813 (by decide) rfl ?_
    refine E_iaddN (q := 815) dL_law_814 rfl ?_
    refine E_sld (q := 816) (i := i + 1) (by omega) (by omega) dL_law_815 rfl ?_
    refine E_callVR (q := 819) (ar := [.int (xs (i + 1))]) (rest := []) lk_L_153 h2 rc_X6 (rm1 hd2) (by show k + 1 + 0 ≤ 601024; omega) (by show n + 6 + 0 ≤ 7293034; omega) (Nat.le_of_ble_eq_true rfl) dL_law_816 rfl rfl ?_
    rintro v w ⟨hv, hw⟩
    rw [hw]
    subst hv
    refine V_st (st' := [.int y]) rfl ?_
    refine E_istore6 (q := 821) dL_law_819 rfl rfl ?_
    refine E_aload2 (q := 822) dL_law_821 rfl ?_
    refine E_callVR (q := 825) (ar := []) (rest := []) lk_L_138 (sp_X6_thrown h3) rc_X6 (rm1 (by decide)) (by show k + 1 + 0 + 0 ≤ 601024; omega) (by show n + 6 + 0 + 0 ≤ 7293034; omega) (Nat.le_of_ble_eq_true rfl) dL_law_822 rfl rfl ?_
    rintro v w ⟨hv, hw⟩
    rw [hw]
    subst hv
    refine V_st (st' := [.int (nI 0)]) rfl ?_
    refine E_iload5 (q := 827) dL_law_825 rfl ?_
    refine E_icmp_eq (tgt := 832) (q := 830) dL_law_827 (by decide) rfl (fun _ => ?_) (fun h => absurd rfl h)
    refine E_iload5 (q := 834) dL_law_832 rfl ?_
    refine E_if_ne (tgt := 849) (q := 837) dL_law_834 (by decide) rfl (fun h => absurd (by decide) h) (fun _ => ?_)
    refine E_aload3 (q := 838) dL_law_837 rfl ?_
    refine E_iconst (v := nI 0) (q := 839) dL_law_838 (by decide) rfl ?_
    refine E_lald (q := 840) sk_165 (by decide) (by decide) dL_law_839 rfl ?_
    refine E_iload6 (q := 842) dL_law_840 rfl ?_
    refine E_i2l (q := 843) dL_law_842 rfl ?_
    refine E_lcmp (q := 844) dL_law_843 rfl ?_
    refine E_if_eq (tgt := 849) (q := 847) dL_law_844 (by decide) rfl (fun _ => ?_) (fun h => absurd (out_cmp h4) h)
    refine E_goto (q := 2807) dL_law_849 (by decide) ?_
    exact V_widen (k' := k + 4) (n' := n + 532) (by omega) (by omega) (by show k + 4 ≤ 601024; omega) (by show n + 532 ≤ 7293034; omega) (kk M2 _ _ _ _ hQ)
  · skip
    refine E_aload1 (q := 797) dL_law_796 rfl ?_
    refine E_aload0 (q := 798) dL_law_797 rfl ?_
    refine E_iload4 (q := 800) dL_law_798 rfl ?_
    refine E_iconst (v := nI 1) (q := 801) dL_law_800 (by decide) rfl ?_
    refine E_iaddN (q := 802) dL_law_801 rfl ?_
    refine E_sld (q := 803) (i := i + 1) (by omega) (by omega) dL_law_802 rfl ?_
    refine E_aload3 (q := 804) dL_law_803 rfl ?_
    refine E_callSHR (q := 807) (ar := [.ref (ad 0), .int (xs (i + 1)), .ref (ad 165)]) (rest := []) lh_before h1 (rm1 (by decide)) (by show k + 1 ≤ 601024; omega) (by show n + 6 ≤ 7293034; omega) (Nat.le_of_ble_eq_true rfl) dL_law_804 rfl rfl ?_
    rintro v w ⟨hv, hw⟩
    rw [hw]
    subst hv
    refine V_st (st' := [.int (nI 1)]) rfl ?_
    refine E_istore5 (q := 809) dL_law_807 rfl rfl ?_
    refine E_aload2 (q := 810) dL_law_809 rfl ?_
    refine E_aload0 (q := 811) dL_law_810 rfl ?_
    refine E_iload4 (q := 813) dL_law_811 rfl ?_
    refine E_iconst (v := nI 1) (q := 814) dL_law_813 (by decide) rfl ?_
    refine E_iaddN (q := 815) dL_law_814 rfl ?_
    refine E_sld (q := 816) (i := i + 1) (by omega) (by omega) dL_law_815 rfl ?_
    refine E_callVR (q := 819) (ar := [.int (xs (i + 1))]) (rest := []) lk_L_153 h2 rc_X6 (rm1 hd2) (by show k + 1 + 0 ≤ 601024; omega) (by show n + 6 + 0 ≤ 7293034; omega) (Nat.le_of_ble_eq_true rfl) dL_law_816 rfl rfl ?_
    rintro v w ⟨hv, hw⟩
    rw [hw]
    subst hv
    refine V_st (st' := [.int y]) rfl ?_
    refine E_istore6 (q := 821) dL_law_819 rfl rfl ?_
    refine E_aload2 (q := 822) dL_law_821 rfl ?_
    refine E_callVR (q := 825) (ar := []) (rest := []) lk_L_138 (sp_X6_thrown h3) rc_X6 (rm1 (by decide)) (by show k + 1 + 0 + 0 ≤ 601024; omega) (by show n + 6 + 0 + 0 ≤ 7293034; omega) (Nat.le_of_ble_eq_true rfl) dL_law_822 rfl rfl ?_
    rintro v w ⟨hv, hw⟩
    rw [hw]
    subst hv
    refine V_st (st' := [.int (nI 1)]) rfl ?_
    refine E_iload5 (q := 827) dL_law_825 rfl ?_
    refine E_icmp_eq (tgt := 832) (q := 830) dL_law_827 (by decide) rfl (fun _ => ?_) (fun h => absurd rfl h)
    refine E_iload5 (q := 834) dL_law_832 rfl ?_
    refine E_if_ne (tgt := 849) (q := 837) dL_law_834 (by decide) rfl (fun _ => ?_) (fun h => absurd h (by decide))
    refine E_goto (q := 2807) dL_law_849 (by decide) ?_
    exact V_widen (k' := k + 4) (n' := n + 532) (by omega) (by omega) (by show k + 4 ≤ 601024; omega) (by show n + 532 ≤ 7293034; omega) (kk M2 _ _ _ _ hQ)
theorem lw_behind (hi : i + 6 ≤ L) (hL : L ≤ 3072) (hk : k ≤ 600000) (hn : n ≤ 7000000) (hA : AnsT D ad M yL_behind cfL_behind [(0, 9, 12, 13)] yX6_behind cfX6_behind [.ref (ad 0), .int (xs (i + 1)), .ref (ad 165)] [.int (xs (i + 1))] Q) (kk : ∀ M2 l5 l6 l7 l8, Q M2 → V D FLaw room_1 (QG (StX sb L xs) Qf) (k + 4) (n + 532) 2807 [some (.ref sb), some (.ref (ad 0)), some (.ref (ad 157)), some (.ref (ad 165)), some (.int (nI i)), l5, l6, l7, l8] [] (wl D ad M2)) : V D FLaw room_1 (QG (StX sb L xs) Qf) k n 852 [some (.ref sb), some (.ref (ad 0)), some (.ref (ad 157)), some (.ref (ad 165)), some (.int (nI i)), l5, l6, l7, l8] [] (wl D ad M) := by
  rcases hA with ⟨d2, y, M2, hd2, h1, h2, h3, h4, hQ⟩ | ⟨d2, y, M2, hd2, h1, h2, h3, hQ⟩
  · skip
    refine E_aload1 (q := 853) dL_law_852 rfl ?_
    refine E_aload0 (q := 854) dL_law_853 rfl ?_
    refine E_iload4 (q := 856) dL_law_854 rfl ?_
    refine E_iconst (v := nI 1) (q := 857) dL_law_856 (by decide) rfl ?_
    refine E_iaddN (q := 858) dL_law_857 rfl ?_
    refine E_sld (q := 859) (i := i + 1) (by omega) (by omega) dL_law_858 rfl ?_
    refine E_aload3 (q := 860) dL_law_859 rfl ?_
    refine E_callSHR (q := 863) (ar := [.ref (ad 0), .int (xs (i + 1)), .ref (ad 165)]) (rest := []) lh_behind h1 (rm1 (by decide)) (by show k + 1 ≤ 601024; omega) (by show n + 6 ≤ 7293034; omega) (Nat.le_of_ble_eq_true rfl) dL_law_860 rfl rfl ?_
    rintro v w ⟨hv, hw⟩
    rw [hw]
    subst hv
    refine V_st (st' := [.int (nI 0)]) rfl ?_
    refine E_istore5 (q := 865) dL_law_863 rfl rfl ?_
    refine E_aload2 (q := 866) dL_law_865 rfl ?_
    refine E_aload0 (q := 867) dL_law_866 rfl ?_
    refine E_iload4 (q := 869) dL_law_867 rfl ?_
    refine E_iconst (v := nI 1) (q := 870) dL_law_869 (by decide) rfl ?_
    refine E_iaddN (q := 871) dL_law_870 rfl ?_
    refine E_sld (q := 872) (i := i + 1) (by omega) (by omega) dL_law_871 rfl ?_
    refine E_callVR (q := 875) (ar := [.int (xs (i + 1))]) (rest := []) lk_L_156 h2 rc_X6 (rm1 hd2) (by show k + 1 + 0 ≤ 601024; omega) (by show n + 6 + 0 ≤ 7293034; omega) (Nat.le_of_ble_eq_true rfl) dL_law_872 rfl rfl ?_
    rintro v w ⟨hv, hw⟩
    rw [hw]
    subst hv
    refine V_st (st' := [.int y]) rfl ?_
    refine E_istore6 (q := 877) dL_law_875 rfl rfl ?_
    refine E_aload2 (q := 878) dL_law_877 rfl ?_
    refine E_callVR (q := 881) (ar := []) (rest := []) lk_L_138 (sp_X6_thrown h3) rc_X6 (rm1 (by decide)) (by show k + 1 + 0 + 0 ≤ 601024; omega) (by show n + 6 + 0 + 0 ≤ 7293034; omega) (Nat.le_of_ble_eq_true rfl) dL_law_878 rfl rfl ?_
    rintro v w ⟨hv, hw⟩
    rw [hw]
    subst hv
    refine V_st (st' := [.int (nI 0)]) rfl ?_
    refine E_iload5 (q := 883) dL_law_881 rfl ?_
    refine E_icmp_eq (tgt := 888) (q := 886) dL_law_883 (by decide) rfl (fun _ => ?_) (fun h => absurd rfl h)
    refine E_iload5 (q := 890) dL_law_888 rfl ?_
    refine E_if_ne (tgt := 905) (q := 893) dL_law_890 (by decide) rfl (fun h => absurd (by decide) h) (fun _ => ?_)
    refine E_aload3 (q := 894) dL_law_893 rfl ?_
    refine E_iconst (v := nI 0) (q := 895) dL_law_894 (by decide) rfl ?_
    refine E_lald (q := 896) sk_165 (by decide) (by decide) dL_law_895 rfl ?_
    refine E_iload6 (q := 898) dL_law_896 rfl ?_
    refine E_i2l (q := 899) dL_law_898 rfl ?_
    refine E_lcmp (q := 900) dL_law_899 rfl ?_
    refine E_if_eq (tgt := 905) (q := 903) dL_law_900 (by decide) rfl (fun _ => ?_) (fun h => absurd (out_cmp h4) h)
    refine E_goto (q := 2807) dL_law_905 (by decide) ?_
    exact V_widen (k' := k + 4) (n' := n + 532) (by omega) (by omega) (by show k + 4 ≤ 601024; omega) (by show n + 532 ≤ 7293034; omega) (kk M2 _ _ _ _ hQ)
  · skip
    refine E_aload1 (q := 853) dL_law_852 rfl ?_
    refine E_aload0 (q := 854) dL_law_853 rfl ?_
    refine E_iload4 (q := 856) dL_law_854 rfl ?_
    refine E_iconst (v := nI 1) (q := 857) dL_law_856 (by decide) rfl ?_
    refine E_iaddN (q := 858) dL_law_857 rfl ?_
    refine E_sld (q := 859) (i := i + 1) (by omega) (by omega) dL_law_858 rfl ?_
    refine E_aload3 (q := 860) dL_law_859 rfl ?_
    refine E_callSHR (q := 863) (ar := [.ref (ad 0), .int (xs (i + 1)), .ref (ad 165)]) (rest := []) lh_behind h1 (rm1 (by decide)) (by show k + 1 ≤ 601024; omega) (by show n + 6 ≤ 7293034; omega) (Nat.le_of_ble_eq_true rfl) dL_law_860 rfl rfl ?_
    rintro v w ⟨hv, hw⟩
    rw [hw]
    subst hv
    refine V_st (st' := [.int (nI 1)]) rfl ?_
    refine E_istore5 (q := 865) dL_law_863 rfl rfl ?_
    refine E_aload2 (q := 866) dL_law_865 rfl ?_
    refine E_aload0 (q := 867) dL_law_866 rfl ?_
    refine E_iload4 (q := 869) dL_law_867 rfl ?_
    refine E_iconst (v := nI 1) (q := 870) dL_law_869 (by decide) rfl ?_
    refine E_iaddN (q := 871) dL_law_870 rfl ?_
    refine E_sld (q := 872) (i := i + 1) (by omega) (by omega) dL_law_871 rfl ?_
    refine E_callVR (q := 875) (ar := [.int (xs (i + 1))]) (rest := []) lk_L_156 h2 rc_X6 (rm1 hd2) (by show k + 1 + 0 ≤ 601024; omega) (by show n + 6 + 0 ≤ 7293034; omega) (Nat.le_of_ble_eq_true rfl) dL_law_872 rfl rfl ?_
    rintro v w ⟨hv, hw⟩
    rw [hw]
    subst hv
    refine V_st (st' := [.int y]) rfl ?_
    refine E_istore6 (q := 877) dL_law_875 rfl rfl ?_
    refine E_aload2 (q := 878) dL_law_877 rfl ?_
    refine E_callVR (q := 881) (ar := []) (rest := []) lk_L_138 (sp_X6_thrown h3) rc_X6 (rm1 (by decide)) (by show k + 1 + 0 + 0 ≤ 601024; omega) (by show n + 6 + 0 + 0 ≤ 7293034; omega) (Nat.le_of_ble_eq_true rfl) dL_law_878 rfl rfl ?_
    rintro v w ⟨hv, hw⟩
    rw [hw]
    subst hv
    refine V_st (st' := [.int (nI 1)]) rfl ?_
    refine E_iload5 (q := 883) dL_law_881 rfl ?_
    refine E_icmp_eq (tgt := 888) (q := 886) dL_law_883 (by decide) rfl (fun _ => ?_) (fun h => absurd rfl h)
    refine E_iload5 (q := 890) dL_law_888 rfl ?_
    refine E_if_ne (tgt := 905) (q := 893) dL_law_890 (by decide) rfl (fun _ => ?_) (fun h => absurd h (by decide))
    refine E_goto (q := 2807) dL_law_905 (by decide) ?_
    exact V_widen (k' := k + 4) (n' := n + 532) (by omega) (by omega) (by show k + 4 ≤ 601024; omega) (by show n + 532 ≤ 7293034; omega) (kk M2 _ _ _ _ hQ)
theorem lw_depthOf (hi : i + 6 ≤ L) (hL : L ≤ 3072) (hk : k ≤ 600000) (hn : n ≤ 7000000) (hA : AnsT D ad M yL_depthOf cfL_depthOf [(0, 9, 12, 13)] yX6_depthOf cfX6_depthOf [.ref (ad 0), .int (xs (i + 1)), .ref (ad 165)] [.int (xs (i + 1))] Q) (kk : ∀ M2 l5 l6 l7 l8, Q M2 → V D FLaw room_1 (QG (StX sb L xs) Qf) (k + 4) (n + 532) 2807 [some (.ref sb), some (.ref (ad 0)), some (.ref (ad 157)), some (.ref (ad 165)), some (.int (nI i)), l5, l6, l7, l8] [] (wl D ad M2)) : V D FLaw room_1 (QG (StX sb L xs) Qf) k n 908 [some (.ref sb), some (.ref (ad 0)), some (.ref (ad 157)), some (.ref (ad 165)), some (.int (nI i)), l5, l6, l7, l8] [] (wl D ad M) := by
  rcases hA with ⟨d2, y, M2, hd2, h1, h2, h3, h4, hQ⟩ | ⟨d2, y, M2, hd2, h1, h2, h3, hQ⟩
  · skip
    refine E_aload1 (q := 909) dL_law_908 rfl ?_
    refine E_aload0 (q := 910) dL_law_909 rfl ?_
    refine E_iload4 (q := 912) dL_law_910 rfl ?_
    refine E_iconst (v := nI 1) (q := 913) dL_law_912 (by decide) rfl ?_
    refine E_iaddN (q := 914) dL_law_913 rfl ?_
    refine E_sld (q := 915) (i := i + 1) (by omega) (by omega) dL_law_914 rfl ?_
    refine E_aload3 (q := 916) dL_law_915 rfl ?_
    refine E_callSHR (q := 919) (ar := [.ref (ad 0), .int (xs (i + 1)), .ref (ad 165)]) (rest := []) lh_depthOf h1 (rm1 (by decide)) (by show k + 1 ≤ 601024; omega) (by show n + 6 ≤ 7293034; omega) (Nat.le_of_ble_eq_true rfl) dL_law_916 rfl rfl ?_
    rintro v w ⟨hv, hw⟩
    rw [hw]
    subst hv
    refine V_st (st' := [.int (nI 0)]) rfl ?_
    refine E_istore5 (q := 921) dL_law_919 rfl rfl ?_
    refine E_aload2 (q := 922) dL_law_921 rfl ?_
    refine E_aload0 (q := 923) dL_law_922 rfl ?_
    refine E_iload4 (q := 925) dL_law_923 rfl ?_
    refine E_iconst (v := nI 1) (q := 926) dL_law_925 (by decide) rfl ?_
    refine E_iaddN (q := 927) dL_law_926 rfl ?_
    refine E_sld (q := 928) (i := i + 1) (by omega) (by omega) dL_law_927 rfl ?_
    refine E_callVR (q := 931) (ar := [.int (xs (i + 1))]) (rest := []) lk_L_159 h2 rc_X6 (rm1 hd2) (by show k + 1 + 0 ≤ 601024; omega) (by show n + 6 + 0 ≤ 7293034; omega) (Nat.le_of_ble_eq_true rfl) dL_law_928 rfl rfl ?_
    rintro v w ⟨hv, hw⟩
    rw [hw]
    subst hv
    refine V_st (st' := [.int y]) rfl ?_
    refine E_istore6 (q := 933) dL_law_931 rfl rfl ?_
    refine E_aload2 (q := 934) dL_law_933 rfl ?_
    refine E_callVR (q := 937) (ar := []) (rest := []) lk_L_138 (sp_X6_thrown h3) rc_X6 (rm1 (by decide)) (by show k + 1 + 0 + 0 ≤ 601024; omega) (by show n + 6 + 0 + 0 ≤ 7293034; omega) (Nat.le_of_ble_eq_true rfl) dL_law_934 rfl rfl ?_
    rintro v w ⟨hv, hw⟩
    rw [hw]
    subst hv
    refine V_st (st' := [.int (nI 0)]) rfl ?_
    refine E_iload5 (q := 939) dL_law_937 rfl ?_
    refine E_icmp_eq (tgt := 944) (q := 942) dL_law_939 (by decide) rfl (fun _ => ?_) (fun h => absurd rfl h)
    refine E_iload5 (q := 946) dL_law_944 rfl ?_
    refine E_if_ne (tgt := 961) (q := 949) dL_law_946 (by decide) rfl (fun h => absurd (by decide) h) (fun _ => ?_)
    refine E_aload3 (q := 950) dL_law_949 rfl ?_
    refine E_iconst (v := nI 0) (q := 951) dL_law_950 (by decide) rfl ?_
    refine E_lald (q := 952) sk_165 (by decide) (by decide) dL_law_951 rfl ?_
    refine E_iload6 (q := 954) dL_law_952 rfl ?_
    refine E_i2l (q := 955) dL_law_954 rfl ?_
    refine E_lcmp (q := 956) dL_law_955 rfl ?_
    refine E_if_eq (tgt := 961) (q := 959) dL_law_956 (by decide) rfl (fun _ => ?_) (fun h => absurd (out_cmp h4) h)
    refine E_goto (q := 2807) dL_law_961 (by decide) ?_
    exact V_widen (k' := k + 4) (n' := n + 532) (by omega) (by omega) (by show k + 4 ≤ 601024; omega) (by show n + 532 ≤ 7293034; omega) (kk M2 _ _ _ _ hQ)
  · skip
    refine E_aload1 (q := 909) dL_law_908 rfl ?_
    refine E_aload0 (q := 910) dL_law_909 rfl ?_
    refine E_iload4 (q := 912) dL_law_910 rfl ?_
    refine E_iconst (v := nI 1) (q := 913) dL_law_912 (by decide) rfl ?_
    refine E_iaddN (q := 914) dL_law_913 rfl ?_
    refine E_sld (q := 915) (i := i + 1) (by omega) (by omega) dL_law_914 rfl ?_
    refine E_aload3 (q := 916) dL_law_915 rfl ?_
    refine E_callSHR (q := 919) (ar := [.ref (ad 0), .int (xs (i + 1)), .ref (ad 165)]) (rest := []) lh_depthOf h1 (rm1 (by decide)) (by show k + 1 ≤ 601024; omega) (by show n + 6 ≤ 7293034; omega) (Nat.le_of_ble_eq_true rfl) dL_law_916 rfl rfl ?_
    rintro v w ⟨hv, hw⟩
    rw [hw]
    subst hv
    refine V_st (st' := [.int (nI 1)]) rfl ?_
    refine E_istore5 (q := 921) dL_law_919 rfl rfl ?_
    refine E_aload2 (q := 922) dL_law_921 rfl ?_
    refine E_aload0 (q := 923) dL_law_922 rfl ?_
    refine E_iload4 (q := 925) dL_law_923 rfl ?_
    refine E_iconst (v := nI 1) (q := 926) dL_law_925 (by decide) rfl ?_
    refine E_iaddN (q := 927) dL_law_926 rfl ?_
    refine E_sld (q := 928) (i := i + 1) (by omega) (by omega) dL_law_927 rfl ?_
    refine E_callVR (q := 931) (ar := [.int (xs (i + 1))]) (rest := []) lk_L_159 h2 rc_X6 (rm1 hd2) (by show k + 1 + 0 ≤ 601024; omega) (by show n + 6 + 0 ≤ 7293034; omega) (Nat.le_of_ble_eq_true rfl) dL_law_928 rfl rfl ?_
    rintro v w ⟨hv, hw⟩
    rw [hw]
    subst hv
    refine V_st (st' := [.int y]) rfl ?_
    refine E_istore6 (q := 933) dL_law_931 rfl rfl ?_
    refine E_aload2 (q := 934) dL_law_933 rfl ?_
    refine E_callVR (q := 937) (ar := []) (rest := []) lk_L_138 (sp_X6_thrown h3) rc_X6 (rm1 (by decide)) (by show k + 1 + 0 + 0 ≤ 601024; omega) (by show n + 6 + 0 + 0 ≤ 7293034; omega) (Nat.le_of_ble_eq_true rfl) dL_law_934 rfl rfl ?_
    rintro v w ⟨hv, hw⟩
    rw [hw]
    subst hv
    refine V_st (st' := [.int (nI 1)]) rfl ?_
    refine E_iload5 (q := 939) dL_law_937 rfl ?_
    refine E_icmp_eq (tgt := 944) (q := 942) dL_law_939 (by decide) rfl (fun _ => ?_) (fun h => absurd rfl h)
    refine E_iload5 (q := 946) dL_law_944 rfl ?_
    refine E_if_ne (tgt := 961) (q := 949) dL_law_946 (by decide) rfl (fun _ => ?_) (fun h => absurd h (by decide))
    refine E_goto (q := 2807) dL_law_961 (by decide) ?_
    exact V_widen (k' := k + 4) (n' := n + 532) (by omega) (by omega) (by show k + 4 ≤ 601024; omega) (by show n + 532 ≤ 7293034; omega) (kk M2 _ _ _ _ hQ)
theorem lw_common (hi : i + 6 ≤ L) (hL : L ≤ 3072) (hk : k ≤ 600000) (hn : n ≤ 7000000) (hA : AnsT D ad M yL_common cfL_common [(0, 10, 13, 13)] yX6_common cfX6_common [.ref (ad 0), .int (xs (i + 1)), .int (xs (i + 2)), .ref (ad 165)] [.int (xs (i + 1)), .int (xs (i + 2))] Q) (kk : ∀ M2 l5 l6 l7 l8, Q M2 → V D FLaw room_1 (QG (StX sb L xs) Qf) (k + 4) (n + 532) 2807 [some (.ref sb), some (.ref (ad 0)), some (.ref (ad 157)), some (.ref (ad 165)), some (.int (nI i)), l5, l6, l7, l8] [] (wl D ad M2)) : V D FLaw room_1 (QG (StX sb L xs) Qf) k n 964 [some (.ref sb), some (.ref (ad 0)), some (.ref (ad 157)), some (.ref (ad 165)), some (.int (nI i)), l5, l6, l7, l8] [] (wl D ad M) := by
  rcases hA with ⟨d2, y, M2, hd2, h1, h2, h3, h4, hQ⟩ | ⟨d2, y, M2, hd2, h1, h2, h3, hQ⟩
  · skip
    refine E_aload1 (q := 965) dL_law_964 rfl ?_
    refine E_aload0 (q := 966) dL_law_965 rfl ?_
    refine E_iload4 (q := 968) dL_law_966 rfl ?_
    refine E_iconst (v := nI 1) (q := 969) dL_law_968 (by decide) rfl ?_
    refine E_iaddN (q := 970) dL_law_969 rfl ?_
    refine E_sld (q := 971) (i := i + 1) (by omega) (by omega) dL_law_970 rfl ?_
    refine E_aload0 (q := 972) dL_law_971 rfl ?_
    refine E_iload4 (q := 974) dL_law_972 rfl ?_
    refine E_iconst (v := nI 2) (q := 975) dL_law_974 (by decide) rfl ?_
    refine E_iaddN (q := 976) dL_law_975 rfl ?_
    refine E_sld (q := 977) (i := i + 2) (by omega) (by omega) dL_law_976 rfl ?_
    refine E_aload3 (q := 978) dL_law_977 rfl ?_
    refine E_callSHR (q := 981) (ar := [.ref (ad 0), .int (xs (i + 1)), .int (xs (i + 2)), .ref (ad 165)]) (rest := []) lh_common h1 (rm1 (by decide)) (by show k + 1 ≤ 601024; omega) (by show n + 6 ≤ 7293034; omega) (Nat.le_of_ble_eq_true rfl) dL_law_978 rfl rfl ?_
    rintro v w ⟨hv, hw⟩
    rw [hw]
    subst hv
    refine V_st (st' := [.int (nI 0)]) rfl ?_
    refine E_istore5 (q := 983) dL_law_981 rfl rfl ?_
    refine E_aload2 (q := 984) dL_law_983 rfl ?_
    refine E_aload0 (q := 985) dL_law_984 rfl ?_
    refine E_iload4 (q := 987) dL_law_985 rfl ?_
    refine E_iconst (v := nI 1) (q := 988) dL_law_987 (by decide) rfl ?_
    refine E_iaddN (q := 989) dL_law_988 rfl ?_
    refine E_sld (q := 990) (i := i + 1) (by omega) (by omega) dL_law_989 rfl ?_
    refine E_aload0 (q := 991) dL_law_990 rfl ?_
    refine E_iload4 (q := 993) dL_law_991 rfl ?_
    refine E_iconst (v := nI 2) (q := 994) dL_law_993 (by decide) rfl ?_
    refine E_iaddN (q := 995) dL_law_994 rfl ?_
    refine E_sld (q := 996) (i := i + 2) (by omega) (by omega) dL_law_995 rfl ?_
    refine E_callVR (q := 999) (ar := [.int (xs (i + 1)), .int (xs (i + 2))]) (rest := []) lk_L_162 h2 rc_X6 (rm1 hd2) (by show k + 1 + 0 ≤ 601024; omega) (by show n + 6 + 0 ≤ 7293034; omega) (Nat.le_of_ble_eq_true rfl) dL_law_996 rfl rfl ?_
    rintro v w ⟨hv, hw⟩
    rw [hw]
    subst hv
    refine V_st (st' := [.int y]) rfl ?_
    refine E_istore6 (q := 1001) dL_law_999 rfl rfl ?_
    refine E_aload2 (q := 1002) dL_law_1001 rfl ?_
    refine E_callVR (q := 1005) (ar := []) (rest := []) lk_L_138 (sp_X6_thrown h3) rc_X6 (rm1 (by decide)) (by show k + 1 + 0 + 0 ≤ 601024; omega) (by show n + 6 + 0 + 0 ≤ 7293034; omega) (Nat.le_of_ble_eq_true rfl) dL_law_1002 rfl rfl ?_
    rintro v w ⟨hv, hw⟩
    rw [hw]
    subst hv
    refine V_st (st' := [.int (nI 0)]) rfl ?_
    refine E_iload5 (q := 1007) dL_law_1005 rfl ?_
    refine E_icmp_eq (tgt := 1012) (q := 1010) dL_law_1007 (by decide) rfl (fun _ => ?_) (fun h => absurd rfl h)
    refine E_iload5 (q := 1014) dL_law_1012 rfl ?_
    refine E_if_ne (tgt := 1029) (q := 1017) dL_law_1014 (by decide) rfl (fun h => absurd (by decide) h) (fun _ => ?_)
    refine E_aload3 (q := 1018) dL_law_1017 rfl ?_
    refine E_iconst (v := nI 0) (q := 1019) dL_law_1018 (by decide) rfl ?_
    refine E_lald (q := 1020) sk_165 (by decide) (by decide) dL_law_1019 rfl ?_
    refine E_iload6 (q := 1022) dL_law_1020 rfl ?_
    refine E_i2l (q := 1023) dL_law_1022 rfl ?_
    refine E_lcmp (q := 1024) dL_law_1023 rfl ?_
    refine E_if_eq (tgt := 1029) (q := 1027) dL_law_1024 (by decide) rfl (fun _ => ?_) (fun h => absurd (out_cmp h4) h)
    refine E_goto (q := 2807) dL_law_1029 (by decide) ?_
    exact V_widen (k' := k + 4) (n' := n + 532) (by omega) (by omega) (by show k + 4 ≤ 601024; omega) (by show n + 532 ≤ 7293034; omega) (kk M2 _ _ _ _ hQ)
  · skip
    refine E_aload1 (q := 965) dL_law_964 rfl ?_
    refine E_aload0 (q := 966) dL_law_965 rfl ?_
    refine E_iload4 (q := 968) dL_law_966 rfl ?_
    refine E_iconst (v := nI 1) (q := 969) dL_law_968 (by decide) rfl ?_
    refine E_iaddN (q := 970) dL_law_969 rfl ?_
    refine E_sld (q := 971) (i := i + 1) (by omega) (by omega) dL_law_970 rfl ?_
    refine E_aload0 (q := 972) dL_law_971 rfl ?_
    refine E_iload4 (q := 974) dL_law_972 rfl ?_
    refine E_iconst (v := nI 2) (q := 975) dL_law_974 (by decide) rfl ?_
    refine E_iaddN (q := 976) dL_law_975 rfl ?_
    refine E_sld (q := 977) (i := i + 2) (by omega) (by omega) dL_law_976 rfl ?_
    refine E_aload3 (q := 978) dL_law_977 rfl ?_
    refine E_callSHR (q := 981) (ar := [.ref (ad 0), .int (xs (i + 1)), .int (xs (i + 2)), .ref (ad 165)]) (rest := []) lh_common h1 (rm1 (by decide)) (by show k + 1 ≤ 601024; omega) (by show n + 6 ≤ 7293034; omega) (Nat.le_of_ble_eq_true rfl) dL_law_978 rfl rfl ?_
    rintro v w ⟨hv, hw⟩
    rw [hw]
    subst hv
    refine V_st (st' := [.int (nI 1)]) rfl ?_
    refine E_istore5 (q := 983) dL_law_981 rfl rfl ?_
    refine E_aload2 (q := 984) dL_law_983 rfl ?_
    refine E_aload0 (q := 985) dL_law_984 rfl ?_
    refine E_iload4 (q := 987) dL_law_985 rfl ?_
    refine E_iconst (v := nI 1) (q := 988) dL_law_987 (by decide) rfl ?_
    refine E_iaddN (q := 989) dL_law_988 rfl ?_
    refine E_sld (q := 990) (i := i + 1) (by omega) (by omega) dL_law_989 rfl ?_
    refine E_aload0 (q := 991) dL_law_990 rfl ?_
    refine E_iload4 (q := 993) dL_law_991 rfl ?_
    refine E_iconst (v := nI 2) (q := 994) dL_law_993 (by decide) rfl ?_
    refine E_iaddN (q := 995) dL_law_994 rfl ?_
    refine E_sld (q := 996) (i := i + 2) (by omega) (by omega) dL_law_995 rfl ?_
    refine E_callVR (q := 999) (ar := [.int (xs (i + 1)), .int (xs (i + 2))]) (rest := []) lk_L_162 h2 rc_X6 (rm1 hd2) (by show k + 1 + 0 ≤ 601024; omega) (by show n + 6 + 0 ≤ 7293034; omega) (Nat.le_of_ble_eq_true rfl) dL_law_996 rfl rfl ?_
    rintro v w ⟨hv, hw⟩
    rw [hw]
    subst hv
    refine V_st (st' := [.int y]) rfl ?_
    refine E_istore6 (q := 1001) dL_law_999 rfl rfl ?_
    refine E_aload2 (q := 1002) dL_law_1001 rfl ?_
    refine E_callVR (q := 1005) (ar := []) (rest := []) lk_L_138 (sp_X6_thrown h3) rc_X6 (rm1 (by decide)) (by show k + 1 + 0 + 0 ≤ 601024; omega) (by show n + 6 + 0 + 0 ≤ 7293034; omega) (Nat.le_of_ble_eq_true rfl) dL_law_1002 rfl rfl ?_
    rintro v w ⟨hv, hw⟩
    rw [hw]
    subst hv
    refine V_st (st' := [.int (nI 1)]) rfl ?_
    refine E_iload5 (q := 1007) dL_law_1005 rfl ?_
    refine E_icmp_eq (tgt := 1012) (q := 1010) dL_law_1007 (by decide) rfl (fun _ => ?_) (fun h => absurd rfl h)
    refine E_iload5 (q := 1014) dL_law_1012 rfl ?_
    refine E_if_ne (tgt := 1029) (q := 1017) dL_law_1014 (by decide) rfl (fun _ => ?_) (fun h => absurd h (by decide))
    refine E_goto (q := 2807) dL_law_1029 (by decide) ?_
    exact V_widen (k' := k + 4) (n' := n + 532) (by omega) (by omega) (by show k + 4 ≤ 601024; omega) (by show n + 532 ≤ 7293034; omega) (kk M2 _ _ _ _ hQ)
theorem lw_blockAt (hi : i + 6 ≤ L) (hL : L ≤ 3072) (hk : k ≤ 600000) (hn : n ≤ 7000000) (hA : AnsT D ad M yL_blockAt cfL_blockAt [(0, 10, 13, 13)] yX6_blockAt cfX6_blockAt [.ref (ad 0), .int (xs (i + 1)), .int (xs (i + 2)), .ref (ad 165)] [.int (xs (i + 1)), .int (xs (i + 2))] Q) (kk : ∀ M2 l5 l6 l7 l8, Q M2 → V D FLaw room_1 (QG (StX sb L xs) Qf) (k + 4) (n + 532) 2807 [some (.ref sb), some (.ref (ad 0)), some (.ref (ad 157)), some (.ref (ad 165)), some (.int (nI i)), l5, l6, l7, l8] [] (wl D ad M2)) : V D FLaw room_1 (QG (StX sb L xs) Qf) k n 1032 [some (.ref sb), some (.ref (ad 0)), some (.ref (ad 157)), some (.ref (ad 165)), some (.int (nI i)), l5, l6, l7, l8] [] (wl D ad M) := by
  rcases hA with ⟨d2, y, M2, hd2, h1, h2, h3, h4, hQ⟩ | ⟨d2, y, M2, hd2, h1, h2, h3, hQ⟩
  · skip
    refine E_aload1 (q := 1033) dL_law_1032 rfl ?_
    refine E_aload0 (q := 1034) dL_law_1033 rfl ?_
    refine E_iload4 (q := 1036) dL_law_1034 rfl ?_
    refine E_iconst (v := nI 1) (q := 1037) dL_law_1036 (by decide) rfl ?_
    refine E_iaddN (q := 1038) dL_law_1037 rfl ?_
    refine E_sld (q := 1039) (i := i + 1) (by omega) (by omega) dL_law_1038 rfl ?_
    refine E_aload0 (q := 1040) dL_law_1039 rfl ?_
    refine E_iload4 (q := 1042) dL_law_1040 rfl ?_
    refine E_iconst (v := nI 2) (q := 1043) dL_law_1042 (by decide) rfl ?_
    refine E_iaddN (q := 1044) dL_law_1043 rfl ?_
    refine E_sld (q := 1045) (i := i + 2) (by omega) (by omega) dL_law_1044 rfl ?_
    refine E_aload3 (q := 1046) dL_law_1045 rfl ?_
    refine E_callSHR (q := 1049) (ar := [.ref (ad 0), .int (xs (i + 1)), .int (xs (i + 2)), .ref (ad 165)]) (rest := []) lh_blockAt h1 (rm1 (by decide)) (by show k + 1 ≤ 601024; omega) (by show n + 6 ≤ 7293034; omega) (Nat.le_of_ble_eq_true rfl) dL_law_1046 rfl rfl ?_
    rintro v w ⟨hv, hw⟩
    rw [hw]
    subst hv
    refine V_st (st' := [.int (nI 0)]) rfl ?_
    refine E_istore5 (q := 1051) dL_law_1049 rfl rfl ?_
    refine E_aload2 (q := 1052) dL_law_1051 rfl ?_
    refine E_aload0 (q := 1053) dL_law_1052 rfl ?_
    refine E_iload4 (q := 1055) dL_law_1053 rfl ?_
    refine E_iconst (v := nI 1) (q := 1056) dL_law_1055 (by decide) rfl ?_
    refine E_iaddN (q := 1057) dL_law_1056 rfl ?_
    refine E_sld (q := 1058) (i := i + 1) (by omega) (by omega) dL_law_1057 rfl ?_
    refine E_aload0 (q := 1059) dL_law_1058 rfl ?_
    refine E_iload4 (q := 1061) dL_law_1059 rfl ?_
    refine E_iconst (v := nI 2) (q := 1062) dL_law_1061 (by decide) rfl ?_
    refine E_iaddN (q := 1063) dL_law_1062 rfl ?_
    refine E_sld (q := 1064) (i := i + 2) (by omega) (by omega) dL_law_1063 rfl ?_
    refine E_callVR (q := 1067) (ar := [.int (xs (i + 1)), .int (xs (i + 2))]) (rest := []) lk_L_165 h2 rc_X6 (rm1 hd2) (by show k + 1 + 0 ≤ 601024; omega) (by show n + 6 + 0 ≤ 7293034; omega) (Nat.le_of_ble_eq_true rfl) dL_law_1064 rfl rfl ?_
    rintro v w ⟨hv, hw⟩
    rw [hw]
    subst hv
    refine V_st (st' := [.int y]) rfl ?_
    refine E_istore6 (q := 1069) dL_law_1067 rfl rfl ?_
    refine E_aload2 (q := 1070) dL_law_1069 rfl ?_
    refine E_callVR (q := 1073) (ar := []) (rest := []) lk_L_138 (sp_X6_thrown h3) rc_X6 (rm1 (by decide)) (by show k + 1 + 0 + 0 ≤ 601024; omega) (by show n + 6 + 0 + 0 ≤ 7293034; omega) (Nat.le_of_ble_eq_true rfl) dL_law_1070 rfl rfl ?_
    rintro v w ⟨hv, hw⟩
    rw [hw]
    subst hv
    refine V_st (st' := [.int (nI 0)]) rfl ?_
    refine E_iload5 (q := 1075) dL_law_1073 rfl ?_
    refine E_icmp_eq (tgt := 1080) (q := 1078) dL_law_1075 (by decide) rfl (fun _ => ?_) (fun h => absurd rfl h)
    refine E_iload5 (q := 1082) dL_law_1080 rfl ?_
    refine E_if_ne (tgt := 1097) (q := 1085) dL_law_1082 (by decide) rfl (fun h => absurd (by decide) h) (fun _ => ?_)
    refine E_aload3 (q := 1086) dL_law_1085 rfl ?_
    refine E_iconst (v := nI 0) (q := 1087) dL_law_1086 (by decide) rfl ?_
    refine E_lald (q := 1088) sk_165 (by decide) (by decide) dL_law_1087 rfl ?_
    refine E_iload6 (q := 1090) dL_law_1088 rfl ?_
    refine E_i2l (q := 1091) dL_law_1090 rfl ?_
    refine E_lcmp (q := 1092) dL_law_1091 rfl ?_
    refine E_if_eq (tgt := 1097) (q := 1095) dL_law_1092 (by decide) rfl (fun _ => ?_) (fun h => absurd (out_cmp h4) h)
    refine E_goto (q := 2807) dL_law_1097 (by decide) ?_
    exact V_widen (k' := k + 4) (n' := n + 532) (by omega) (by omega) (by show k + 4 ≤ 601024; omega) (by show n + 532 ≤ 7293034; omega) (kk M2 _ _ _ _ hQ)
  · skip
    refine E_aload1 (q := 1033) dL_law_1032 rfl ?_
    refine E_aload0 (q := 1034) dL_law_1033 rfl ?_
    refine E_iload4 (q := 1036) dL_law_1034 rfl ?_
    refine E_iconst (v := nI 1) (q := 1037) dL_law_1036 (by decide) rfl ?_
    refine E_iaddN (q := 1038) dL_law_1037 rfl ?_
    refine E_sld (q := 1039) (i := i + 1) (by omega) (by omega) dL_law_1038 rfl ?_
    refine E_aload0 (q := 1040) dL_law_1039 rfl ?_
    refine E_iload4 (q := 1042) dL_law_1040 rfl ?_
    refine E_iconst (v := nI 2) (q := 1043) dL_law_1042 (by decide) rfl ?_
    refine E_iaddN (q := 1044) dL_law_1043 rfl ?_
    refine E_sld (q := 1045) (i := i + 2) (by omega) (by omega) dL_law_1044 rfl ?_
    refine E_aload3 (q := 1046) dL_law_1045 rfl ?_
    refine E_callSHR (q := 1049) (ar := [.ref (ad 0), .int (xs (i + 1)), .int (xs (i + 2)), .ref (ad 165)]) (rest := []) lh_blockAt h1 (rm1 (by decide)) (by show k + 1 ≤ 601024; omega) (by show n + 6 ≤ 7293034; omega) (Nat.le_of_ble_eq_true rfl) dL_law_1046 rfl rfl ?_
    rintro v w ⟨hv, hw⟩
    rw [hw]
    subst hv
    refine V_st (st' := [.int (nI 1)]) rfl ?_
    refine E_istore5 (q := 1051) dL_law_1049 rfl rfl ?_
    refine E_aload2 (q := 1052) dL_law_1051 rfl ?_
    refine E_aload0 (q := 1053) dL_law_1052 rfl ?_
    refine E_iload4 (q := 1055) dL_law_1053 rfl ?_
    refine E_iconst (v := nI 1) (q := 1056) dL_law_1055 (by decide) rfl ?_
    refine E_iaddN (q := 1057) dL_law_1056 rfl ?_
    refine E_sld (q := 1058) (i := i + 1) (by omega) (by omega) dL_law_1057 rfl ?_
    refine E_aload0 (q := 1059) dL_law_1058 rfl ?_
    refine E_iload4 (q := 1061) dL_law_1059 rfl ?_
    refine E_iconst (v := nI 2) (q := 1062) dL_law_1061 (by decide) rfl ?_
    refine E_iaddN (q := 1063) dL_law_1062 rfl ?_
    refine E_sld (q := 1064) (i := i + 2) (by omega) (by omega) dL_law_1063 rfl ?_
    refine E_callVR (q := 1067) (ar := [.int (xs (i + 1)), .int (xs (i + 2))]) (rest := []) lk_L_165 h2 rc_X6 (rm1 hd2) (by show k + 1 + 0 ≤ 601024; omega) (by show n + 6 + 0 ≤ 7293034; omega) (Nat.le_of_ble_eq_true rfl) dL_law_1064 rfl rfl ?_
    rintro v w ⟨hv, hw⟩
    rw [hw]
    subst hv
    refine V_st (st' := [.int y]) rfl ?_
    refine E_istore6 (q := 1069) dL_law_1067 rfl rfl ?_
    refine E_aload2 (q := 1070) dL_law_1069 rfl ?_
    refine E_callVR (q := 1073) (ar := []) (rest := []) lk_L_138 (sp_X6_thrown h3) rc_X6 (rm1 (by decide)) (by show k + 1 + 0 + 0 ≤ 601024; omega) (by show n + 6 + 0 + 0 ≤ 7293034; omega) (Nat.le_of_ble_eq_true rfl) dL_law_1070 rfl rfl ?_
    rintro v w ⟨hv, hw⟩
    rw [hw]
    subst hv
    refine V_st (st' := [.int (nI 1)]) rfl ?_
    refine E_iload5 (q := 1075) dL_law_1073 rfl ?_
    refine E_icmp_eq (tgt := 1080) (q := 1078) dL_law_1075 (by decide) rfl (fun _ => ?_) (fun h => absurd rfl h)
    refine E_iload5 (q := 1082) dL_law_1080 rfl ?_
    refine E_if_ne (tgt := 1097) (q := 1085) dL_law_1082 (by decide) rfl (fun _ => ?_) (fun h => absurd h (by decide))
    refine E_goto (q := 2807) dL_law_1097 (by decide) ?_
    exact V_widen (k' := k + 4) (n' := n + 532) (by omega) (by omega) (by show k + 4 ≤ 601024; omega) (by show n + 532 ≤ 7293034; omega) (kk M2 _ _ _ _ hQ)
theorem lw_birthIn0 (hi : i + 6 ≤ L) (hL : L ≤ 3072) (hk : k ≤ 600000) (hn : n ≤ 7000000) (hb : xs (i + 2) = 0) (hA : AnsT D ad M yL_birthIn cfL_birthIn [(0, 10, 13, 13)] yX6_birthIn cfX6_birthIn [.ref (ad 0), .int (xs (i + 1)), .int (nI 0), .ref (ad 165)] [.int (xs (i + 1)), .int (nI 0)] Q) (kk : ∀ M2 l5 l6 l7 l8, Q M2 → V D FLaw room_1 (QG (StX sb L xs) Qf) (k + 4) (n + 532) 2807 [some (.ref sb), some (.ref (ad 0)), some (.ref (ad 157)), some (.ref (ad 165)), some (.int (nI i)), l5, l6, l7, l8] [] (wl D ad M2)) : V D FLaw room_1 (QG (StX sb L xs) Qf) k n 1100 [some (.ref sb), some (.ref (ad 0)), some (.ref (ad 157)), some (.ref (ad 165)), some (.int (nI i)), l5, l6, l7, l8] [] (wl D ad M) := by
  rcases hA with ⟨d2, y, M2, hd2, h1, h2, h3, h4, hQ⟩ | ⟨d2, y, M2, hd2, h1, h2, h3, hQ⟩
  · skip
    refine E_aload1 (q := 1101) dL_law_1100 rfl ?_
    refine E_aload0 (q := 1102) dL_law_1101 rfl ?_
    refine E_iload4 (q := 1104) dL_law_1102 rfl ?_
    refine E_iconst (v := nI 1) (q := 1105) dL_law_1104 (by decide) rfl ?_
    refine E_iaddN (q := 1106) dL_law_1105 rfl ?_
    refine E_sld (q := 1107) (i := i + 1) (by omega) (by omega) dL_law_1106 rfl ?_
    refine E_aload0 (q := 1108) dL_law_1107 rfl ?_
    refine E_iload4 (q := 1110) dL_law_1108 rfl ?_
    refine E_iconst (v := nI 2) (q := 1111) dL_law_1110 (by decide) rfl ?_
    refine E_iaddN (q := 1112) dL_law_1111 rfl ?_
    refine E_sld (q := 1113) (i := i + 2) (by omega) (by omega) dL_law_1112 rfl ?_
    refine E_if_eq (tgt := 1120) (q := 1116) dL_law_1113 (by decide) rfl (fun _ => ?_) (fun h => absurd hb h)
    refine E_iconst (v := nI 0) (q := 1121) dL_law_1120 (by decide) rfl ?_
    refine E_aload3 (q := 1122) dL_law_1121 rfl ?_
    refine E_callSHR (q := 1125) (ar := [.ref (ad 0), .int (xs (i + 1)), .int (nI 0), .ref (ad 165)]) (rest := []) lh_birthIn h1 (rm1 (by decide)) (by show k + 1 ≤ 601024; omega) (by show n + 6 ≤ 7293034; omega) (Nat.le_of_ble_eq_true rfl) dL_law_1122 rfl rfl ?_
    rintro v w ⟨hv, hw⟩
    rw [hw]
    subst hv
    refine V_st (st' := [.int (nI 0)]) rfl ?_
    refine E_istore5 (q := 1127) dL_law_1125 rfl rfl ?_
    refine E_aload2 (q := 1128) dL_law_1127 rfl ?_
    refine E_aload0 (q := 1129) dL_law_1128 rfl ?_
    refine E_iload4 (q := 1131) dL_law_1129 rfl ?_
    refine E_iconst (v := nI 1) (q := 1132) dL_law_1131 (by decide) rfl ?_
    refine E_iaddN (q := 1133) dL_law_1132 rfl ?_
    refine E_sld (q := 1134) (i := i + 1) (by omega) (by omega) dL_law_1133 rfl ?_
    refine E_aload0 (q := 1135) dL_law_1134 rfl ?_
    refine E_iload4 (q := 1137) dL_law_1135 rfl ?_
    refine E_iconst (v := nI 2) (q := 1138) dL_law_1137 (by decide) rfl ?_
    refine E_iaddN (q := 1139) dL_law_1138 rfl ?_
    refine E_sld (q := 1140) (i := i + 2) (by omega) (by omega) dL_law_1139 rfl ?_
    refine E_if_eq (tgt := 1147) (q := 1143) dL_law_1140 (by decide) rfl (fun _ => ?_) (fun h => absurd hb h)
    refine E_iconst (v := nI 0) (q := 1148) dL_law_1147 (by decide) rfl ?_
    refine E_callVR (q := 1151) (ar := [.int (xs (i + 1)), .int (nI 0)]) (rest := []) lk_L_169 h2 rc_X6 (rm1 hd2) (by show k + 1 + 0 ≤ 601024; omega) (by show n + 6 + 0 ≤ 7293034; omega) (Nat.le_of_ble_eq_true rfl) dL_law_1148 rfl rfl ?_
    rintro v w ⟨hv, hw⟩
    rw [hw]
    subst hv
    refine V_st (st' := [.int y]) rfl ?_
    refine E_istore6 (q := 1153) dL_law_1151 rfl rfl ?_
    refine E_aload2 (q := 1154) dL_law_1153 rfl ?_
    refine E_callVR (q := 1157) (ar := []) (rest := []) lk_L_138 (sp_X6_thrown h3) rc_X6 (rm1 (by decide)) (by show k + 1 + 0 + 0 ≤ 601024; omega) (by show n + 6 + 0 + 0 ≤ 7293034; omega) (Nat.le_of_ble_eq_true rfl) dL_law_1154 rfl rfl ?_
    rintro v w ⟨hv, hw⟩
    rw [hw]
    subst hv
    refine V_st (st' := [.int (nI 0)]) rfl ?_
    refine E_iload5 (q := 1159) dL_law_1157 rfl ?_
    refine E_icmp_eq (tgt := 1164) (q := 1162) dL_law_1159 (by decide) rfl (fun _ => ?_) (fun h => absurd rfl h)
    refine E_iload5 (q := 1166) dL_law_1164 rfl ?_
    refine E_if_ne (tgt := 1181) (q := 1169) dL_law_1166 (by decide) rfl (fun h => absurd (by decide) h) (fun _ => ?_)
    refine E_aload3 (q := 1170) dL_law_1169 rfl ?_
    refine E_iconst (v := nI 0) (q := 1171) dL_law_1170 (by decide) rfl ?_
    refine E_lald (q := 1172) sk_165 (by decide) (by decide) dL_law_1171 rfl ?_
    refine E_iload6 (q := 1174) dL_law_1172 rfl ?_
    refine E_i2l (q := 1175) dL_law_1174 rfl ?_
    refine E_lcmp (q := 1176) dL_law_1175 rfl ?_
    refine E_if_eq (tgt := 1181) (q := 1179) dL_law_1176 (by decide) rfl (fun _ => ?_) (fun h => absurd (out_cmp h4) h)
    refine E_goto (q := 2807) dL_law_1181 (by decide) ?_
    exact V_widen (k' := k + 4) (n' := n + 532) (by omega) (by omega) (by show k + 4 ≤ 601024; omega) (by show n + 532 ≤ 7293034; omega) (kk M2 _ _ _ _ hQ)
  · skip
    refine E_aload1 (q := 1101) dL_law_1100 rfl ?_
    refine E_aload0 (q := 1102) dL_law_1101 rfl ?_
    refine E_iload4 (q := 1104) dL_law_1102 rfl ?_
    refine E_iconst (v := nI 1) (q := 1105) dL_law_1104 (by decide) rfl ?_
    refine E_iaddN (q := 1106) dL_law_1105 rfl ?_
    refine E_sld (q := 1107) (i := i + 1) (by omega) (by omega) dL_law_1106 rfl ?_
    refine E_aload0 (q := 1108) dL_law_1107 rfl ?_
    refine E_iload4 (q := 1110) dL_law_1108 rfl ?_
    refine E_iconst (v := nI 2) (q := 1111) dL_law_1110 (by decide) rfl ?_
    refine E_iaddN (q := 1112) dL_law_1111 rfl ?_
    refine E_sld (q := 1113) (i := i + 2) (by omega) (by omega) dL_law_1112 rfl ?_
    refine E_if_eq (tgt := 1120) (q := 1116) dL_law_1113 (by decide) rfl (fun _ => ?_) (fun h => absurd hb h)
    refine E_iconst (v := nI 0) (q := 1121) dL_law_1120 (by decide) rfl ?_
    refine E_aload3 (q := 1122) dL_law_1121 rfl ?_
    refine E_callSHR (q := 1125) (ar := [.ref (ad 0), .int (xs (i + 1)), .int (nI 0), .ref (ad 165)]) (rest := []) lh_birthIn h1 (rm1 (by decide)) (by show k + 1 ≤ 601024; omega) (by show n + 6 ≤ 7293034; omega) (Nat.le_of_ble_eq_true rfl) dL_law_1122 rfl rfl ?_
    rintro v w ⟨hv, hw⟩
    rw [hw]
    subst hv
    refine V_st (st' := [.int (nI 1)]) rfl ?_
    refine E_istore5 (q := 1127) dL_law_1125 rfl rfl ?_
    refine E_aload2 (q := 1128) dL_law_1127 rfl ?_
    refine E_aload0 (q := 1129) dL_law_1128 rfl ?_
    refine E_iload4 (q := 1131) dL_law_1129 rfl ?_
    refine E_iconst (v := nI 1) (q := 1132) dL_law_1131 (by decide) rfl ?_
    refine E_iaddN (q := 1133) dL_law_1132 rfl ?_
    refine E_sld (q := 1134) (i := i + 1) (by omega) (by omega) dL_law_1133 rfl ?_
    refine E_aload0 (q := 1135) dL_law_1134 rfl ?_
    refine E_iload4 (q := 1137) dL_law_1135 rfl ?_
    refine E_iconst (v := nI 2) (q := 1138) dL_law_1137 (by decide) rfl ?_
    refine E_iaddN (q := 1139) dL_law_1138 rfl ?_
    refine E_sld (q := 1140) (i := i + 2) (by omega) (by omega) dL_law_1139 rfl ?_
    refine E_if_eq (tgt := 1147) (q := 1143) dL_law_1140 (by decide) rfl (fun _ => ?_) (fun h => absurd hb h)
    refine E_iconst (v := nI 0) (q := 1148) dL_law_1147 (by decide) rfl ?_
    refine E_callVR (q := 1151) (ar := [.int (xs (i + 1)), .int (nI 0)]) (rest := []) lk_L_169 h2 rc_X6 (rm1 hd2) (by show k + 1 + 0 ≤ 601024; omega) (by show n + 6 + 0 ≤ 7293034; omega) (Nat.le_of_ble_eq_true rfl) dL_law_1148 rfl rfl ?_
    rintro v w ⟨hv, hw⟩
    rw [hw]
    subst hv
    refine V_st (st' := [.int y]) rfl ?_
    refine E_istore6 (q := 1153) dL_law_1151 rfl rfl ?_
    refine E_aload2 (q := 1154) dL_law_1153 rfl ?_
    refine E_callVR (q := 1157) (ar := []) (rest := []) lk_L_138 (sp_X6_thrown h3) rc_X6 (rm1 (by decide)) (by show k + 1 + 0 + 0 ≤ 601024; omega) (by show n + 6 + 0 + 0 ≤ 7293034; omega) (Nat.le_of_ble_eq_true rfl) dL_law_1154 rfl rfl ?_
    rintro v w ⟨hv, hw⟩
    rw [hw]
    subst hv
    refine V_st (st' := [.int (nI 1)]) rfl ?_
    refine E_iload5 (q := 1159) dL_law_1157 rfl ?_
    refine E_icmp_eq (tgt := 1164) (q := 1162) dL_law_1159 (by decide) rfl (fun _ => ?_) (fun h => absurd rfl h)
    refine E_iload5 (q := 1166) dL_law_1164 rfl ?_
    refine E_if_ne (tgt := 1181) (q := 1169) dL_law_1166 (by decide) rfl (fun _ => ?_) (fun h => absurd h (by decide))
    refine E_goto (q := 2807) dL_law_1181 (by decide) ?_
    exact V_widen (k' := k + 4) (n' := n + 532) (by omega) (by omega) (by show k + 4 ≤ 601024; omega) (by show n + 532 ≤ 7293034; omega) (kk M2 _ _ _ _ hQ)
theorem lw_birthIn1 (hi : i + 6 ≤ L) (hL : L ≤ 3072) (hk : k ≤ 600000) (hn : n ≤ 7000000) (hb : ¬ xs (i + 2) = 0) (hA : AnsT D ad M yL_birthIn cfL_birthIn [(0, 10, 13, 13)] yX6_birthIn cfX6_birthIn [.ref (ad 0), .int (xs (i + 1)), .int (nI 1), .ref (ad 165)] [.int (xs (i + 1)), .int (nI 1)] Q) (kk : ∀ M2 l5 l6 l7 l8, Q M2 → V D FLaw room_1 (QG (StX sb L xs) Qf) (k + 4) (n + 532) 2807 [some (.ref sb), some (.ref (ad 0)), some (.ref (ad 157)), some (.ref (ad 165)), some (.int (nI i)), l5, l6, l7, l8] [] (wl D ad M2)) : V D FLaw room_1 (QG (StX sb L xs) Qf) k n 1100 [some (.ref sb), some (.ref (ad 0)), some (.ref (ad 157)), some (.ref (ad 165)), some (.int (nI i)), l5, l6, l7, l8] [] (wl D ad M) := by
  rcases hA with ⟨d2, y, M2, hd2, h1, h2, h3, h4, hQ⟩ | ⟨d2, y, M2, hd2, h1, h2, h3, hQ⟩
  · skip
    refine E_aload1 (q := 1101) dL_law_1100 rfl ?_
    refine E_aload0 (q := 1102) dL_law_1101 rfl ?_
    refine E_iload4 (q := 1104) dL_law_1102 rfl ?_
    refine E_iconst (v := nI 1) (q := 1105) dL_law_1104 (by decide) rfl ?_
    refine E_iaddN (q := 1106) dL_law_1105 rfl ?_
    refine E_sld (q := 1107) (i := i + 1) (by omega) (by omega) dL_law_1106 rfl ?_
    refine E_aload0 (q := 1108) dL_law_1107 rfl ?_
    refine E_iload4 (q := 1110) dL_law_1108 rfl ?_
    refine E_iconst (v := nI 2) (q := 1111) dL_law_1110 (by decide) rfl ?_
    refine E_iaddN (q := 1112) dL_law_1111 rfl ?_
    refine E_sld (q := 1113) (i := i + 2) (by omega) (by omega) dL_law_1112 rfl ?_
    refine E_if_eq (tgt := 1120) (q := 1116) dL_law_1113 (by decide) rfl (fun h => absurd h hb) (fun _ => ?_)
    refine E_iconst (v := nI 1) (q := 1117) dL_law_1116 (by decide) rfl ?_
    refine E_goto (q := 1121) dL_law_1117 (by decide) ?_
    refine E_aload3 (q := 1122) dL_law_1121 rfl ?_
    refine E_callSHR (q := 1125) (ar := [.ref (ad 0), .int (xs (i + 1)), .int (nI 1), .ref (ad 165)]) (rest := []) lh_birthIn h1 (rm1 (by decide)) (by show k + 1 ≤ 601024; omega) (by show n + 6 ≤ 7293034; omega) (Nat.le_of_ble_eq_true rfl) dL_law_1122 rfl rfl ?_
    rintro v w ⟨hv, hw⟩
    rw [hw]
    subst hv
    refine V_st (st' := [.int (nI 0)]) rfl ?_
    refine E_istore5 (q := 1127) dL_law_1125 rfl rfl ?_
    refine E_aload2 (q := 1128) dL_law_1127 rfl ?_
    refine E_aload0 (q := 1129) dL_law_1128 rfl ?_
    refine E_iload4 (q := 1131) dL_law_1129 rfl ?_
    refine E_iconst (v := nI 1) (q := 1132) dL_law_1131 (by decide) rfl ?_
    refine E_iaddN (q := 1133) dL_law_1132 rfl ?_
    refine E_sld (q := 1134) (i := i + 1) (by omega) (by omega) dL_law_1133 rfl ?_
    refine E_aload0 (q := 1135) dL_law_1134 rfl ?_
    refine E_iload4 (q := 1137) dL_law_1135 rfl ?_
    refine E_iconst (v := nI 2) (q := 1138) dL_law_1137 (by decide) rfl ?_
    refine E_iaddN (q := 1139) dL_law_1138 rfl ?_
    refine E_sld (q := 1140) (i := i + 2) (by omega) (by omega) dL_law_1139 rfl ?_
    refine E_if_eq (tgt := 1147) (q := 1143) dL_law_1140 (by decide) rfl (fun h => absurd h hb) (fun _ => ?_)
    refine E_iconst (v := nI 1) (q := 1144) dL_law_1143 (by decide) rfl ?_
    refine E_goto (q := 1148) dL_law_1144 (by decide) ?_
    refine E_callVR (q := 1151) (ar := [.int (xs (i + 1)), .int (nI 1)]) (rest := []) lk_L_169 h2 rc_X6 (rm1 hd2) (by show k + 1 + 0 ≤ 601024; omega) (by show n + 6 + 0 ≤ 7293034; omega) (Nat.le_of_ble_eq_true rfl) dL_law_1148 rfl rfl ?_
    rintro v w ⟨hv, hw⟩
    rw [hw]
    subst hv
    refine V_st (st' := [.int y]) rfl ?_
    refine E_istore6 (q := 1153) dL_law_1151 rfl rfl ?_
    refine E_aload2 (q := 1154) dL_law_1153 rfl ?_
    refine E_callVR (q := 1157) (ar := []) (rest := []) lk_L_138 (sp_X6_thrown h3) rc_X6 (rm1 (by decide)) (by show k + 1 + 0 + 0 ≤ 601024; omega) (by show n + 6 + 0 + 0 ≤ 7293034; omega) (Nat.le_of_ble_eq_true rfl) dL_law_1154 rfl rfl ?_
    rintro v w ⟨hv, hw⟩
    rw [hw]
    subst hv
    refine V_st (st' := [.int (nI 0)]) rfl ?_
    refine E_iload5 (q := 1159) dL_law_1157 rfl ?_
    refine E_icmp_eq (tgt := 1164) (q := 1162) dL_law_1159 (by decide) rfl (fun _ => ?_) (fun h => absurd rfl h)
    refine E_iload5 (q := 1166) dL_law_1164 rfl ?_
    refine E_if_ne (tgt := 1181) (q := 1169) dL_law_1166 (by decide) rfl (fun h => absurd (by decide) h) (fun _ => ?_)
    refine E_aload3 (q := 1170) dL_law_1169 rfl ?_
    refine E_iconst (v := nI 0) (q := 1171) dL_law_1170 (by decide) rfl ?_
    refine E_lald (q := 1172) sk_165 (by decide) (by decide) dL_law_1171 rfl ?_
    refine E_iload6 (q := 1174) dL_law_1172 rfl ?_
    refine E_i2l (q := 1175) dL_law_1174 rfl ?_
    refine E_lcmp (q := 1176) dL_law_1175 rfl ?_
    refine E_if_eq (tgt := 1181) (q := 1179) dL_law_1176 (by decide) rfl (fun _ => ?_) (fun h => absurd (out_cmp h4) h)
    refine E_goto (q := 2807) dL_law_1181 (by decide) ?_
    exact V_widen (k' := k + 4) (n' := n + 532) (by omega) (by omega) (by show k + 4 ≤ 601024; omega) (by show n + 532 ≤ 7293034; omega) (kk M2 _ _ _ _ hQ)
  · skip
    refine E_aload1 (q := 1101) dL_law_1100 rfl ?_
    refine E_aload0 (q := 1102) dL_law_1101 rfl ?_
    refine E_iload4 (q := 1104) dL_law_1102 rfl ?_
    refine E_iconst (v := nI 1) (q := 1105) dL_law_1104 (by decide) rfl ?_
    refine E_iaddN (q := 1106) dL_law_1105 rfl ?_
    refine E_sld (q := 1107) (i := i + 1) (by omega) (by omega) dL_law_1106 rfl ?_
    refine E_aload0 (q := 1108) dL_law_1107 rfl ?_
    refine E_iload4 (q := 1110) dL_law_1108 rfl ?_
    refine E_iconst (v := nI 2) (q := 1111) dL_law_1110 (by decide) rfl ?_
    refine E_iaddN (q := 1112) dL_law_1111 rfl ?_
    refine E_sld (q := 1113) (i := i + 2) (by omega) (by omega) dL_law_1112 rfl ?_
    refine E_if_eq (tgt := 1120) (q := 1116) dL_law_1113 (by decide) rfl (fun h => absurd h hb) (fun _ => ?_)
    refine E_iconst (v := nI 1) (q := 1117) dL_law_1116 (by decide) rfl ?_
    refine E_goto (q := 1121) dL_law_1117 (by decide) ?_
    refine E_aload3 (q := 1122) dL_law_1121 rfl ?_
    refine E_callSHR (q := 1125) (ar := [.ref (ad 0), .int (xs (i + 1)), .int (nI 1), .ref (ad 165)]) (rest := []) lh_birthIn h1 (rm1 (by decide)) (by show k + 1 ≤ 601024; omega) (by show n + 6 ≤ 7293034; omega) (Nat.le_of_ble_eq_true rfl) dL_law_1122 rfl rfl ?_
    rintro v w ⟨hv, hw⟩
    rw [hw]
    subst hv
    refine V_st (st' := [.int (nI 1)]) rfl ?_
    refine E_istore5 (q := 1127) dL_law_1125 rfl rfl ?_
    refine E_aload2 (q := 1128) dL_law_1127 rfl ?_
    refine E_aload0 (q := 1129) dL_law_1128 rfl ?_
    refine E_iload4 (q := 1131) dL_law_1129 rfl ?_
    refine E_iconst (v := nI 1) (q := 1132) dL_law_1131 (by decide) rfl ?_
    refine E_iaddN (q := 1133) dL_law_1132 rfl ?_
    refine E_sld (q := 1134) (i := i + 1) (by omega) (by omega) dL_law_1133 rfl ?_
    refine E_aload0 (q := 1135) dL_law_1134 rfl ?_
    refine E_iload4 (q := 1137) dL_law_1135 rfl ?_
    refine E_iconst (v := nI 2) (q := 1138) dL_law_1137 (by decide) rfl ?_
    refine E_iaddN (q := 1139) dL_law_1138 rfl ?_
    refine E_sld (q := 1140) (i := i + 2) (by omega) (by omega) dL_law_1139 rfl ?_
    refine E_if_eq (tgt := 1147) (q := 1143) dL_law_1140 (by decide) rfl (fun h => absurd h hb) (fun _ => ?_)
    refine E_iconst (v := nI 1) (q := 1144) dL_law_1143 (by decide) rfl ?_
    refine E_goto (q := 1148) dL_law_1144 (by decide) ?_
    refine E_callVR (q := 1151) (ar := [.int (xs (i + 1)), .int (nI 1)]) (rest := []) lk_L_169 h2 rc_X6 (rm1 hd2) (by show k + 1 + 0 ≤ 601024; omega) (by show n + 6 + 0 ≤ 7293034; omega) (Nat.le_of_ble_eq_true rfl) dL_law_1148 rfl rfl ?_
    rintro v w ⟨hv, hw⟩
    rw [hw]
    subst hv
    refine V_st (st' := [.int y]) rfl ?_
    refine E_istore6 (q := 1153) dL_law_1151 rfl rfl ?_
    refine E_aload2 (q := 1154) dL_law_1153 rfl ?_
    refine E_callVR (q := 1157) (ar := []) (rest := []) lk_L_138 (sp_X6_thrown h3) rc_X6 (rm1 (by decide)) (by show k + 1 + 0 + 0 ≤ 601024; omega) (by show n + 6 + 0 + 0 ≤ 7293034; omega) (Nat.le_of_ble_eq_true rfl) dL_law_1154 rfl rfl ?_
    rintro v w ⟨hv, hw⟩
    rw [hw]
    subst hv
    refine V_st (st' := [.int (nI 1)]) rfl ?_
    refine E_iload5 (q := 1159) dL_law_1157 rfl ?_
    refine E_icmp_eq (tgt := 1164) (q := 1162) dL_law_1159 (by decide) rfl (fun _ => ?_) (fun h => absurd rfl h)
    refine E_iload5 (q := 1166) dL_law_1164 rfl ?_
    refine E_if_ne (tgt := 1181) (q := 1169) dL_law_1166 (by decide) rfl (fun _ => ?_) (fun h => absurd h (by decide))
    refine E_goto (q := 2807) dL_law_1181 (by decide) ?_
    exact V_widen (k' := k + 4) (n' := n + 532) (by omega) (by omega) (by show k + 4 ≤ 601024; omega) (by show n + 532 ≤ 7293034; omega) (kk M2 _ _ _ _ hQ)
theorem lw_sameAt (hi : i + 6 ≤ L) (hL : L ≤ 3072) (hk : k ≤ 600000) (hn : n ≤ 7000000) (hA : AnsT D ad M yL_sameAt cfL_sameAt [(0, 10, 13, 13)] yX6_sameAt cfX6_sameAt [.ref (ad 0), .int (xs (i + 1)), .int (xs (i + 2)), .ref (ad 165)] [.int (xs (i + 1)), .int (xs (i + 2))] Q) (kk : ∀ M2 l5 l6 l7 l8, Q M2 → V D FLaw room_1 (QG (StX sb L xs) Qf) (k + 4) (n + 532) 2807 [some (.ref sb), some (.ref (ad 0)), some (.ref (ad 157)), some (.ref (ad 165)), some (.int (nI i)), l5, l6, l7, l8] [] (wl D ad M2)) : V D FLaw room_1 (QG (StX sb L xs) Qf) k n 1184 [some (.ref sb), some (.ref (ad 0)), some (.ref (ad 157)), some (.ref (ad 165)), some (.int (nI i)), l5, l6, l7, l8] [] (wl D ad M) := by
  rcases hA with ⟨d2, y, M2, hd2, h1, h2, h3, h4, hQ⟩ | ⟨d2, y, M2, hd2, h1, h2, h3, hQ⟩
  · skip
    refine E_aload1 (q := 1185) dL_law_1184 rfl ?_
    refine E_aload0 (q := 1186) dL_law_1185 rfl ?_
    refine E_iload4 (q := 1188) dL_law_1186 rfl ?_
    refine E_iconst (v := nI 1) (q := 1189) dL_law_1188 (by decide) rfl ?_
    refine E_iaddN (q := 1190) dL_law_1189 rfl ?_
    refine E_sld (q := 1191) (i := i + 1) (by omega) (by omega) dL_law_1190 rfl ?_
    refine E_aload0 (q := 1192) dL_law_1191 rfl ?_
    refine E_iload4 (q := 1194) dL_law_1192 rfl ?_
    refine E_iconst (v := nI 2) (q := 1195) dL_law_1194 (by decide) rfl ?_
    refine E_iaddN (q := 1196) dL_law_1195 rfl ?_
    refine E_sld (q := 1197) (i := i + 2) (by omega) (by omega) dL_law_1196 rfl ?_
    refine E_aload3 (q := 1198) dL_law_1197 rfl ?_
    refine E_callSHR (q := 1201) (ar := [.ref (ad 0), .int (xs (i + 1)), .int (xs (i + 2)), .ref (ad 165)]) (rest := []) lh_sameAt h1 (rm1 (by decide)) (by show k + 1 ≤ 601024; omega) (by show n + 6 ≤ 7293034; omega) (Nat.le_of_ble_eq_true rfl) dL_law_1198 rfl rfl ?_
    rintro v w ⟨hv, hw⟩
    rw [hw]
    subst hv
    refine V_st (st' := [.int (nI 0)]) rfl ?_
    refine E_istore5 (q := 1203) dL_law_1201 rfl rfl ?_
    refine E_aload2 (q := 1204) dL_law_1203 rfl ?_
    refine E_aload0 (q := 1205) dL_law_1204 rfl ?_
    refine E_iload4 (q := 1207) dL_law_1205 rfl ?_
    refine E_iconst (v := nI 1) (q := 1208) dL_law_1207 (by decide) rfl ?_
    refine E_iaddN (q := 1209) dL_law_1208 rfl ?_
    refine E_sld (q := 1210) (i := i + 1) (by omega) (by omega) dL_law_1209 rfl ?_
    refine E_aload0 (q := 1211) dL_law_1210 rfl ?_
    refine E_iload4 (q := 1213) dL_law_1211 rfl ?_
    refine E_iconst (v := nI 2) (q := 1214) dL_law_1213 (by decide) rfl ?_
    refine E_iaddN (q := 1215) dL_law_1214 rfl ?_
    refine E_sld (q := 1216) (i := i + 2) (by omega) (by omega) dL_law_1215 rfl ?_
    refine E_callVR (q := 1219) (ar := [.int (xs (i + 1)), .int (xs (i + 2))]) (rest := []) lk_L_172 h2 rc_X6 (rm1 hd2) (by show k + 1 + 0 ≤ 601024; omega) (by show n + 6 + 0 ≤ 7293034; omega) (Nat.le_of_ble_eq_true rfl) dL_law_1216 rfl rfl ?_
    rintro v w ⟨hv, hw⟩
    rw [hw]
    subst hv
    refine V_st (st' := [.int y]) rfl ?_
    refine E_istore6 (q := 1221) dL_law_1219 rfl rfl ?_
    refine E_aload2 (q := 1222) dL_law_1221 rfl ?_
    refine E_callVR (q := 1225) (ar := []) (rest := []) lk_L_138 (sp_X6_thrown h3) rc_X6 (rm1 (by decide)) (by show k + 1 + 0 + 0 ≤ 601024; omega) (by show n + 6 + 0 + 0 ≤ 7293034; omega) (Nat.le_of_ble_eq_true rfl) dL_law_1222 rfl rfl ?_
    rintro v w ⟨hv, hw⟩
    rw [hw]
    subst hv
    refine V_st (st' := [.int (nI 0)]) rfl ?_
    refine E_iload5 (q := 1227) dL_law_1225 rfl ?_
    refine E_icmp_eq (tgt := 1232) (q := 1230) dL_law_1227 (by decide) rfl (fun _ => ?_) (fun h => absurd rfl h)
    refine E_iload5 (q := 1234) dL_law_1232 rfl ?_
    refine E_if_ne (tgt := 1249) (q := 1237) dL_law_1234 (by decide) rfl (fun h => absurd (by decide) h) (fun _ => ?_)
    refine E_aload3 (q := 1238) dL_law_1237 rfl ?_
    refine E_iconst (v := nI 0) (q := 1239) dL_law_1238 (by decide) rfl ?_
    refine E_lald (q := 1240) sk_165 (by decide) (by decide) dL_law_1239 rfl ?_
    refine E_iload6 (q := 1242) dL_law_1240 rfl ?_
    refine E_i2l (q := 1243) dL_law_1242 rfl ?_
    refine E_lcmp (q := 1244) dL_law_1243 rfl ?_
    refine E_if_eq (tgt := 1249) (q := 1247) dL_law_1244 (by decide) rfl (fun _ => ?_) (fun h => absurd (out_cmp h4) h)
    refine E_goto (q := 2807) dL_law_1249 (by decide) ?_
    exact V_widen (k' := k + 4) (n' := n + 532) (by omega) (by omega) (by show k + 4 ≤ 601024; omega) (by show n + 532 ≤ 7293034; omega) (kk M2 _ _ _ _ hQ)
  · skip
    refine E_aload1 (q := 1185) dL_law_1184 rfl ?_
    refine E_aload0 (q := 1186) dL_law_1185 rfl ?_
    refine E_iload4 (q := 1188) dL_law_1186 rfl ?_
    refine E_iconst (v := nI 1) (q := 1189) dL_law_1188 (by decide) rfl ?_
    refine E_iaddN (q := 1190) dL_law_1189 rfl ?_
    refine E_sld (q := 1191) (i := i + 1) (by omega) (by omega) dL_law_1190 rfl ?_
    refine E_aload0 (q := 1192) dL_law_1191 rfl ?_
    refine E_iload4 (q := 1194) dL_law_1192 rfl ?_
    refine E_iconst (v := nI 2) (q := 1195) dL_law_1194 (by decide) rfl ?_
    refine E_iaddN (q := 1196) dL_law_1195 rfl ?_
    refine E_sld (q := 1197) (i := i + 2) (by omega) (by omega) dL_law_1196 rfl ?_
    refine E_aload3 (q := 1198) dL_law_1197 rfl ?_
    refine E_callSHR (q := 1201) (ar := [.ref (ad 0), .int (xs (i + 1)), .int (xs (i + 2)), .ref (ad 165)]) (rest := []) lh_sameAt h1 (rm1 (by decide)) (by show k + 1 ≤ 601024; omega) (by show n + 6 ≤ 7293034; omega) (Nat.le_of_ble_eq_true rfl) dL_law_1198 rfl rfl ?_
    rintro v w ⟨hv, hw⟩
    rw [hw]
    subst hv
    refine V_st (st' := [.int (nI 1)]) rfl ?_
    refine E_istore5 (q := 1203) dL_law_1201 rfl rfl ?_
    refine E_aload2 (q := 1204) dL_law_1203 rfl ?_
    refine E_aload0 (q := 1205) dL_law_1204 rfl ?_
    refine E_iload4 (q := 1207) dL_law_1205 rfl ?_
    refine E_iconst (v := nI 1) (q := 1208) dL_law_1207 (by decide) rfl ?_
    refine E_iaddN (q := 1209) dL_law_1208 rfl ?_
    refine E_sld (q := 1210) (i := i + 1) (by omega) (by omega) dL_law_1209 rfl ?_
    refine E_aload0 (q := 1211) dL_law_1210 rfl ?_
    refine E_iload4 (q := 1213) dL_law_1211 rfl ?_
    refine E_iconst (v := nI 2) (q := 1214) dL_law_1213 (by decide) rfl ?_
    refine E_iaddN (q := 1215) dL_law_1214 rfl ?_
    refine E_sld (q := 1216) (i := i + 2) (by omega) (by omega) dL_law_1215 rfl ?_
    refine E_callVR (q := 1219) (ar := [.int (xs (i + 1)), .int (xs (i + 2))]) (rest := []) lk_L_172 h2 rc_X6 (rm1 hd2) (by show k + 1 + 0 ≤ 601024; omega) (by show n + 6 + 0 ≤ 7293034; omega) (Nat.le_of_ble_eq_true rfl) dL_law_1216 rfl rfl ?_
    rintro v w ⟨hv, hw⟩
    rw [hw]
    subst hv
    refine V_st (st' := [.int y]) rfl ?_
    refine E_istore6 (q := 1221) dL_law_1219 rfl rfl ?_
    refine E_aload2 (q := 1222) dL_law_1221 rfl ?_
    refine E_callVR (q := 1225) (ar := []) (rest := []) lk_L_138 (sp_X6_thrown h3) rc_X6 (rm1 (by decide)) (by show k + 1 + 0 + 0 ≤ 601024; omega) (by show n + 6 + 0 + 0 ≤ 7293034; omega) (Nat.le_of_ble_eq_true rfl) dL_law_1222 rfl rfl ?_
    rintro v w ⟨hv, hw⟩
    rw [hw]
    subst hv
    refine V_st (st' := [.int (nI 1)]) rfl ?_
    refine E_iload5 (q := 1227) dL_law_1225 rfl ?_
    refine E_icmp_eq (tgt := 1232) (q := 1230) dL_law_1227 (by decide) rfl (fun _ => ?_) (fun h => absurd rfl h)
    refine E_iload5 (q := 1234) dL_law_1232 rfl ?_
    refine E_if_ne (tgt := 1249) (q := 1237) dL_law_1234 (by decide) rfl (fun _ => ?_) (fun h => absurd h (by decide))
    refine E_goto (q := 2807) dL_law_1249 (by decide) ?_
    exact V_widen (k' := k + 4) (n' := n + 532) (by omega) (by omega) (by show k + 4 ≤ 601024; omega) (by show n + 532 ≤ 7293034; omega) (kk M2 _ _ _ _ hQ)
theorem lw_besideOrigin (hi : i + 6 ≤ L) (hL : L ≤ 3072) (hk : k ≤ 600000) (hn : n ≤ 7000000) (hA : AnsT D ad M yL_besideOrigin cfL_besideOrigin [(0, 9, 12, 13)] yX6_besideOrigin cfX6_besideOrigin [.ref (ad 0), .int (xs (i + 1)), .ref (ad 165)] [.int (xs (i + 1))] Q) (kk : ∀ M2 l5 l6 l7 l8, Q M2 → V D FLaw room_1 (QG (StX sb L xs) Qf) (k + 4) (n + 532) 2807 [some (.ref sb), some (.ref (ad 0)), some (.ref (ad 157)), some (.ref (ad 165)), some (.int (nI i)), l5, l6, l7, l8] [] (wl D ad M2)) : V D FLaw room_1 (QG (StX sb L xs) Qf) k n 1252 [some (.ref sb), some (.ref (ad 0)), some (.ref (ad 157)), some (.ref (ad 165)), some (.int (nI i)), l5, l6, l7, l8] [] (wl D ad M) := by
  rcases hA with ⟨d2, y, M2, hd2, h1, h2, h3, h4, hQ⟩ | ⟨d2, y, M2, hd2, h1, h2, h3, hQ⟩
  · skip
    refine E_aload1 (q := 1253) dL_law_1252 rfl ?_
    refine E_aload0 (q := 1254) dL_law_1253 rfl ?_
    refine E_iload4 (q := 1256) dL_law_1254 rfl ?_
    refine E_iconst (v := nI 1) (q := 1257) dL_law_1256 (by decide) rfl ?_
    refine E_iaddN (q := 1258) dL_law_1257 rfl ?_
    refine E_sld (q := 1259) (i := i + 1) (by omega) (by omega) dL_law_1258 rfl ?_
    refine E_aload3 (q := 1260) dL_law_1259 rfl ?_
    refine E_callSHR (q := 1263) (ar := [.ref (ad 0), .int (xs (i + 1)), .ref (ad 165)]) (rest := []) lh_besideOrigin h1 (rm1 (by decide)) (by show k + 1 ≤ 601024; omega) (by show n + 6 ≤ 7293034; omega) (Nat.le_of_ble_eq_true rfl) dL_law_1260 rfl rfl ?_
    rintro v w ⟨hv, hw⟩
    rw [hw]
    subst hv
    refine V_st (st' := [.int (nI 0)]) rfl ?_
    refine E_istore5 (q := 1265) dL_law_1263 rfl rfl ?_
    refine E_aload2 (q := 1266) dL_law_1265 rfl ?_
    refine E_aload0 (q := 1267) dL_law_1266 rfl ?_
    refine E_iload4 (q := 1269) dL_law_1267 rfl ?_
    refine E_iconst (v := nI 1) (q := 1270) dL_law_1269 (by decide) rfl ?_
    refine E_iaddN (q := 1271) dL_law_1270 rfl ?_
    refine E_sld (q := 1272) (i := i + 1) (by omega) (by omega) dL_law_1271 rfl ?_
    refine E_callVR (q := 1275) (ar := [.int (xs (i + 1))]) (rest := []) lk_L_175 h2 rc_X6 (rm1 hd2) (by show k + 1 + 0 ≤ 601024; omega) (by show n + 6 + 0 ≤ 7293034; omega) (Nat.le_of_ble_eq_true rfl) dL_law_1272 rfl rfl ?_
    rintro v w ⟨hv, hw⟩
    rw [hw]
    subst hv
    refine V_st (st' := [.int y]) rfl ?_
    refine E_istore6 (q := 1277) dL_law_1275 rfl rfl ?_
    refine E_aload2 (q := 1278) dL_law_1277 rfl ?_
    refine E_callVR (q := 1281) (ar := []) (rest := []) lk_L_138 (sp_X6_thrown h3) rc_X6 (rm1 (by decide)) (by show k + 1 + 0 + 0 ≤ 601024; omega) (by show n + 6 + 0 + 0 ≤ 7293034; omega) (Nat.le_of_ble_eq_true rfl) dL_law_1278 rfl rfl ?_
    rintro v w ⟨hv, hw⟩
    rw [hw]
    subst hv
    refine V_st (st' := [.int (nI 0)]) rfl ?_
    refine E_iload5 (q := 1283) dL_law_1281 rfl ?_
    refine E_icmp_eq (tgt := 1288) (q := 1286) dL_law_1283 (by decide) rfl (fun _ => ?_) (fun h => absurd rfl h)
    refine E_iload5 (q := 1290) dL_law_1288 rfl ?_
    refine E_if_ne (tgt := 1305) (q := 1293) dL_law_1290 (by decide) rfl (fun h => absurd (by decide) h) (fun _ => ?_)
    refine E_aload3 (q := 1294) dL_law_1293 rfl ?_
    refine E_iconst (v := nI 0) (q := 1295) dL_law_1294 (by decide) rfl ?_
    refine E_lald (q := 1296) sk_165 (by decide) (by decide) dL_law_1295 rfl ?_
    refine E_iload6 (q := 1298) dL_law_1296 rfl ?_
    refine E_i2l (q := 1299) dL_law_1298 rfl ?_
    refine E_lcmp (q := 1300) dL_law_1299 rfl ?_
    refine E_if_eq (tgt := 1305) (q := 1303) dL_law_1300 (by decide) rfl (fun _ => ?_) (fun h => absurd (out_cmp h4) h)
    refine E_goto (q := 2807) dL_law_1305 (by decide) ?_
    exact V_widen (k' := k + 4) (n' := n + 532) (by omega) (by omega) (by show k + 4 ≤ 601024; omega) (by show n + 532 ≤ 7293034; omega) (kk M2 _ _ _ _ hQ)
  · skip
    refine E_aload1 (q := 1253) dL_law_1252 rfl ?_
    refine E_aload0 (q := 1254) dL_law_1253 rfl ?_
    refine E_iload4 (q := 1256) dL_law_1254 rfl ?_
    refine E_iconst (v := nI 1) (q := 1257) dL_law_1256 (by decide) rfl ?_
    refine E_iaddN (q := 1258) dL_law_1257 rfl ?_
    refine E_sld (q := 1259) (i := i + 1) (by omega) (by omega) dL_law_1258 rfl ?_
    refine E_aload3 (q := 1260) dL_law_1259 rfl ?_
    refine E_callSHR (q := 1263) (ar := [.ref (ad 0), .int (xs (i + 1)), .ref (ad 165)]) (rest := []) lh_besideOrigin h1 (rm1 (by decide)) (by show k + 1 ≤ 601024; omega) (by show n + 6 ≤ 7293034; omega) (Nat.le_of_ble_eq_true rfl) dL_law_1260 rfl rfl ?_
    rintro v w ⟨hv, hw⟩
    rw [hw]
    subst hv
    refine V_st (st' := [.int (nI 1)]) rfl ?_
    refine E_istore5 (q := 1265) dL_law_1263 rfl rfl ?_
    refine E_aload2 (q := 1266) dL_law_1265 rfl ?_
    refine E_aload0 (q := 1267) dL_law_1266 rfl ?_
    refine E_iload4 (q := 1269) dL_law_1267 rfl ?_
    refine E_iconst (v := nI 1) (q := 1270) dL_law_1269 (by decide) rfl ?_
    refine E_iaddN (q := 1271) dL_law_1270 rfl ?_
    refine E_sld (q := 1272) (i := i + 1) (by omega) (by omega) dL_law_1271 rfl ?_
    refine E_callVR (q := 1275) (ar := [.int (xs (i + 1))]) (rest := []) lk_L_175 h2 rc_X6 (rm1 hd2) (by show k + 1 + 0 ≤ 601024; omega) (by show n + 6 + 0 ≤ 7293034; omega) (Nat.le_of_ble_eq_true rfl) dL_law_1272 rfl rfl ?_
    rintro v w ⟨hv, hw⟩
    rw [hw]
    subst hv
    refine V_st (st' := [.int y]) rfl ?_
    refine E_istore6 (q := 1277) dL_law_1275 rfl rfl ?_
    refine E_aload2 (q := 1278) dL_law_1277 rfl ?_
    refine E_callVR (q := 1281) (ar := []) (rest := []) lk_L_138 (sp_X6_thrown h3) rc_X6 (rm1 (by decide)) (by show k + 1 + 0 + 0 ≤ 601024; omega) (by show n + 6 + 0 + 0 ≤ 7293034; omega) (Nat.le_of_ble_eq_true rfl) dL_law_1278 rfl rfl ?_
    rintro v w ⟨hv, hw⟩
    rw [hw]
    subst hv
    refine V_st (st' := [.int (nI 1)]) rfl ?_
    refine E_iload5 (q := 1283) dL_law_1281 rfl ?_
    refine E_icmp_eq (tgt := 1288) (q := 1286) dL_law_1283 (by decide) rfl (fun _ => ?_) (fun h => absurd rfl h)
    refine E_iload5 (q := 1290) dL_law_1288 rfl ?_
    refine E_if_ne (tgt := 1305) (q := 1293) dL_law_1290 (by decide) rfl (fun _ => ?_) (fun h => absurd h (by decide))
    refine E_goto (q := 2807) dL_law_1305 (by decide) ?_
    exact V_widen (k' := k + 4) (n' := n + 532) (by omega) (by omega) (by show k + 4 ≤ 601024; omega) (by show n + 532 ≤ 7293034; omega) (kk M2 _ _ _ _ hQ)
theorem lw_wouldFree (hi : i + 6 ≤ L) (hL : L ≤ 3072) (hk : k ≤ 600000) (hn : n ≤ 7000000) (hA : AnsT D ad M yL_wouldFree cfL_wouldFree [(0, 10, 13, 13)] yX6_wouldFree cfX6_wouldFree [.ref (ad 0), .int (xs (i + 1)), .int (xs (i + 2)), .ref (ad 165)] [.int (xs (i + 1)), .int (xs (i + 2))] Q) (kk : ∀ M2 l5 l6 l7 l8, Q M2 → V D FLaw room_1 (QG (StX sb L xs) Qf) (k + 4) (n + 532) 2807 [some (.ref sb), some (.ref (ad 0)), some (.ref (ad 157)), some (.ref (ad 165)), some (.int (nI i)), l5, l6, l7, l8] [] (wl D ad M2)) : V D FLaw room_1 (QG (StX sb L xs) Qf) k n 1308 [some (.ref sb), some (.ref (ad 0)), some (.ref (ad 157)), some (.ref (ad 165)), some (.int (nI i)), l5, l6, l7, l8] [] (wl D ad M) := by
  rcases hA with ⟨d2, y, M2, hd2, h1, h2, h3, h4, hQ⟩ | ⟨d2, y, M2, hd2, h1, h2, h3, hQ⟩
  · skip
    refine E_aload1 (q := 1309) dL_law_1308 rfl ?_
    refine E_aload0 (q := 1310) dL_law_1309 rfl ?_
    refine E_iload4 (q := 1312) dL_law_1310 rfl ?_
    refine E_iconst (v := nI 1) (q := 1313) dL_law_1312 (by decide) rfl ?_
    refine E_iaddN (q := 1314) dL_law_1313 rfl ?_
    refine E_sld (q := 1315) (i := i + 1) (by omega) (by omega) dL_law_1314 rfl ?_
    refine E_aload0 (q := 1316) dL_law_1315 rfl ?_
    refine E_iload4 (q := 1318) dL_law_1316 rfl ?_
    refine E_iconst (v := nI 2) (q := 1319) dL_law_1318 (by decide) rfl ?_
    refine E_iaddN (q := 1320) dL_law_1319 rfl ?_
    refine E_sld (q := 1321) (i := i + 2) (by omega) (by omega) dL_law_1320 rfl ?_
    refine E_aload3 (q := 1322) dL_law_1321 rfl ?_
    refine E_callSHR (q := 1325) (ar := [.ref (ad 0), .int (xs (i + 1)), .int (xs (i + 2)), .ref (ad 165)]) (rest := []) lh_wouldFree h1 (rm1 (by decide)) (by show k + 1 ≤ 601024; omega) (by show n + 6 ≤ 7293034; omega) (Nat.le_of_ble_eq_true rfl) dL_law_1322 rfl rfl ?_
    rintro v w ⟨hv, hw⟩
    rw [hw]
    subst hv
    refine V_st (st' := [.int (nI 0)]) rfl ?_
    refine E_istore5 (q := 1327) dL_law_1325 rfl rfl ?_
    refine E_aload2 (q := 1328) dL_law_1327 rfl ?_
    refine E_aload0 (q := 1329) dL_law_1328 rfl ?_
    refine E_iload4 (q := 1331) dL_law_1329 rfl ?_
    refine E_iconst (v := nI 1) (q := 1332) dL_law_1331 (by decide) rfl ?_
    refine E_iaddN (q := 1333) dL_law_1332 rfl ?_
    refine E_sld (q := 1334) (i := i + 1) (by omega) (by omega) dL_law_1333 rfl ?_
    refine E_aload0 (q := 1335) dL_law_1334 rfl ?_
    refine E_iload4 (q := 1337) dL_law_1335 rfl ?_
    refine E_iconst (v := nI 2) (q := 1338) dL_law_1337 (by decide) rfl ?_
    refine E_iaddN (q := 1339) dL_law_1338 rfl ?_
    refine E_sld (q := 1340) (i := i + 2) (by omega) (by omega) dL_law_1339 rfl ?_
    refine E_callVR (q := 1343) (ar := [.int (xs (i + 1)), .int (xs (i + 2))]) (rest := []) lk_L_178 h2 rc_X6 (rm1 hd2) (by show k + 1 + 0 ≤ 601024; omega) (by show n + 6 + 0 ≤ 7293034; omega) (Nat.le_of_ble_eq_true rfl) dL_law_1340 rfl rfl ?_
    rintro v w ⟨hv, hw⟩
    rw [hw]
    subst hv
    refine V_st (st' := [.int y]) rfl ?_
    refine E_istore6 (q := 1345) dL_law_1343 rfl rfl ?_
    refine E_aload2 (q := 1346) dL_law_1345 rfl ?_
    refine E_callVR (q := 1349) (ar := []) (rest := []) lk_L_138 (sp_X6_thrown h3) rc_X6 (rm1 (by decide)) (by show k + 1 + 0 + 0 ≤ 601024; omega) (by show n + 6 + 0 + 0 ≤ 7293034; omega) (Nat.le_of_ble_eq_true rfl) dL_law_1346 rfl rfl ?_
    rintro v w ⟨hv, hw⟩
    rw [hw]
    subst hv
    refine V_st (st' := [.int (nI 0)]) rfl ?_
    refine E_iload5 (q := 1351) dL_law_1349 rfl ?_
    refine E_icmp_eq (tgt := 1356) (q := 1354) dL_law_1351 (by decide) rfl (fun _ => ?_) (fun h => absurd rfl h)
    refine E_iload5 (q := 1358) dL_law_1356 rfl ?_
    refine E_if_ne (tgt := 1373) (q := 1361) dL_law_1358 (by decide) rfl (fun h => absurd (by decide) h) (fun _ => ?_)
    refine E_aload3 (q := 1362) dL_law_1361 rfl ?_
    refine E_iconst (v := nI 0) (q := 1363) dL_law_1362 (by decide) rfl ?_
    refine E_lald (q := 1364) sk_165 (by decide) (by decide) dL_law_1363 rfl ?_
    refine E_iload6 (q := 1366) dL_law_1364 rfl ?_
    refine E_i2l (q := 1367) dL_law_1366 rfl ?_
    refine E_lcmp (q := 1368) dL_law_1367 rfl ?_
    refine E_if_eq (tgt := 1373) (q := 1371) dL_law_1368 (by decide) rfl (fun _ => ?_) (fun h => absurd (out_cmp h4) h)
    refine E_goto (q := 2807) dL_law_1373 (by decide) ?_
    exact V_widen (k' := k + 4) (n' := n + 532) (by omega) (by omega) (by show k + 4 ≤ 601024; omega) (by show n + 532 ≤ 7293034; omega) (kk M2 _ _ _ _ hQ)
  · skip
    refine E_aload1 (q := 1309) dL_law_1308 rfl ?_
    refine E_aload0 (q := 1310) dL_law_1309 rfl ?_
    refine E_iload4 (q := 1312) dL_law_1310 rfl ?_
    refine E_iconst (v := nI 1) (q := 1313) dL_law_1312 (by decide) rfl ?_
    refine E_iaddN (q := 1314) dL_law_1313 rfl ?_
    refine E_sld (q := 1315) (i := i + 1) (by omega) (by omega) dL_law_1314 rfl ?_
    refine E_aload0 (q := 1316) dL_law_1315 rfl ?_
    refine E_iload4 (q := 1318) dL_law_1316 rfl ?_
    refine E_iconst (v := nI 2) (q := 1319) dL_law_1318 (by decide) rfl ?_
    refine E_iaddN (q := 1320) dL_law_1319 rfl ?_
    refine E_sld (q := 1321) (i := i + 2) (by omega) (by omega) dL_law_1320 rfl ?_
    refine E_aload3 (q := 1322) dL_law_1321 rfl ?_
    refine E_callSHR (q := 1325) (ar := [.ref (ad 0), .int (xs (i + 1)), .int (xs (i + 2)), .ref (ad 165)]) (rest := []) lh_wouldFree h1 (rm1 (by decide)) (by show k + 1 ≤ 601024; omega) (by show n + 6 ≤ 7293034; omega) (Nat.le_of_ble_eq_true rfl) dL_law_1322 rfl rfl ?_
    rintro v w ⟨hv, hw⟩
    rw [hw]
    subst hv
    refine V_st (st' := [.int (nI 1)]) rfl ?_
    refine E_istore5 (q := 1327) dL_law_1325 rfl rfl ?_
    refine E_aload2 (q := 1328) dL_law_1327 rfl ?_
    refine E_aload0 (q := 1329) dL_law_1328 rfl ?_
    refine E_iload4 (q := 1331) dL_law_1329 rfl ?_
    refine E_iconst (v := nI 1) (q := 1332) dL_law_1331 (by decide) rfl ?_
    refine E_iaddN (q := 1333) dL_law_1332 rfl ?_
    refine E_sld (q := 1334) (i := i + 1) (by omega) (by omega) dL_law_1333 rfl ?_
    refine E_aload0 (q := 1335) dL_law_1334 rfl ?_
    refine E_iload4 (q := 1337) dL_law_1335 rfl ?_
    refine E_iconst (v := nI 2) (q := 1338) dL_law_1337 (by decide) rfl ?_
    refine E_iaddN (q := 1339) dL_law_1338 rfl ?_
    refine E_sld (q := 1340) (i := i + 2) (by omega) (by omega) dL_law_1339 rfl ?_
    refine E_callVR (q := 1343) (ar := [.int (xs (i + 1)), .int (xs (i + 2))]) (rest := []) lk_L_178 h2 rc_X6 (rm1 hd2) (by show k + 1 + 0 ≤ 601024; omega) (by show n + 6 + 0 ≤ 7293034; omega) (Nat.le_of_ble_eq_true rfl) dL_law_1340 rfl rfl ?_
    rintro v w ⟨hv, hw⟩
    rw [hw]
    subst hv
    refine V_st (st' := [.int y]) rfl ?_
    refine E_istore6 (q := 1345) dL_law_1343 rfl rfl ?_
    refine E_aload2 (q := 1346) dL_law_1345 rfl ?_
    refine E_callVR (q := 1349) (ar := []) (rest := []) lk_L_138 (sp_X6_thrown h3) rc_X6 (rm1 (by decide)) (by show k + 1 + 0 + 0 ≤ 601024; omega) (by show n + 6 + 0 + 0 ≤ 7293034; omega) (Nat.le_of_ble_eq_true rfl) dL_law_1346 rfl rfl ?_
    rintro v w ⟨hv, hw⟩
    rw [hw]
    subst hv
    refine V_st (st' := [.int (nI 1)]) rfl ?_
    refine E_iload5 (q := 1351) dL_law_1349 rfl ?_
    refine E_icmp_eq (tgt := 1356) (q := 1354) dL_law_1351 (by decide) rfl (fun _ => ?_) (fun h => absurd rfl h)
    refine E_iload5 (q := 1358) dL_law_1356 rfl ?_
    refine E_if_ne (tgt := 1373) (q := 1361) dL_law_1358 (by decide) rfl (fun _ => ?_) (fun h => absurd h (by decide))
    refine E_goto (q := 2807) dL_law_1373 (by decide) ?_
    exact V_widen (k' := k + 4) (n' := n + 532) (by omega) (by omega) (by show k + 4 ≤ 601024; omega) (by show n + 532 ≤ 7293034; omega) (kk M2 _ _ _ _ hQ)
theorem lw_sizeOf (hi : i + 6 ≤ L) (hL : L ≤ 3072) (hk : k ≤ 600000) (hn : n ≤ 7000000) (hA : Ans D ad M yX5_sizeOf cfX5_sizeOf yX6_sizeOf cfX6_sizeOf [.int (xs (i + 1))] Q) (kk : ∀ M2 l5 l6 l7 l8, Q M2 → V D FLaw room_1 (QG (StX sb L xs) Qf) (k + 4) (n + 532) 2807 [some (.ref sb), some (.ref (ad 0)), some (.ref (ad 157)), some (.ref (ad 165)), some (.int (nI i)), l5, l6, l7, l8] [] (wl D ad M2)) : V D FLaw room_1 (QG (StX sb L xs) Qf) k n 1376 [some (.ref sb), some (.ref (ad 0)), some (.ref (ad 157)), some (.ref (ad 165)), some (.int (nI i)), l5, l6, l7, l8] [] (wl D ad M) := by
  obtain ⟨d1, d2, P, hd1, hd2, h1, h2⟩ := hA
  refine E_aload1 (q := 1377) dL_law_1376 rfl ?_
  refine E_aload0 (q := 1378) dL_law_1377 rfl ?_
  refine E_iload4 (q := 1380) dL_law_1378 rfl ?_
  refine E_iconst (v := nI 1) (q := 1381) dL_law_1380 (by decide) rfl ?_
  refine E_iaddN (q := 1382) dL_law_1381 rfl ?_
  refine E_sld (q := 1383) (i := i + 1) (by omega) (by omega) dL_law_1382 rfl ?_
  refine E_callVR (q := 1386) (ar := [.int (xs (i + 1))]) (rest := []) lk_L_179 h1 rc_X5 (rm1 hd1) (by show k + 0 ≤ 601024; omega) (by show n + 0 ≤ 7293034; omega) (Nat.le_of_ble_eq_true rfl) dL_law_1383 rfl rfl ?_
  rintro v w ⟨y, hv, M1, hw, hP⟩
  rw [hw]
  subst hv
  refine V_st (st' := [.int y]) rfl ?_
  refine E_aload2 (q := 1387) dL_law_1386 rfl ?_
  refine E_aload0 (q := 1388) dL_law_1387 rfl ?_
  refine E_iload4 (q := 1390) dL_law_1388 rfl ?_
  refine E_iconst (v := nI 1) (q := 1391) dL_law_1390 (by decide) rfl ?_
  refine E_iaddN (q := 1392) dL_law_1391 rfl ?_
  refine E_sld (q := 1393) (i := i + 1) (by omega) (by omega) dL_law_1392 rfl ?_
  refine E_callVR (q := 1396) (ar := [.int (xs (i + 1))]) (rest := [.int y]) lk_L_182 (h2 y M1 hP) rc_X6 (rm1 hd2) (by show k + 0 + 0 ≤ 601024; omega) (by show n + 0 + 0 ≤ 7293034; omega) (Nat.le_of_ble_eq_true rfl) dL_law_1393 rfl rfl ?_
  rintro v w ⟨z, hv, hz, M2, hw, hQ⟩
  rw [hw]
  subst hv
  subst hz
  refine V_st (st' := [.int z, .int z]) rfl ?_
  refine E_icmp_eq (tgt := 2807) (q := 1399) dL_law_1396 (by decide) rfl (fun _ => ?_) (fun h => absurd rfl h)
  exact V_widen (k' := k + 4) (n' := n + 532) (by omega) (by omega) (by show k + 4 ≤ 601024; omega) (by show n + 532 ≤ 7293034; omega) (kk M2 _ _ _ _ hQ)
theorem lw_holders (hi : i + 6 ≤ L) (hL : L ≤ 3072) (hk : k ≤ 600000) (hn : n ≤ 7000000) (hA : Ans D ad M yX5_holders cfX5_holders yX6_holders cfX6_holders [.int (xs (i + 1))] Q) (kk : ∀ M2 l5 l6 l7 l8, Q M2 → V D FLaw room_1 (QG (StX sb L xs) Qf) (k + 4) (n + 532) 2807 [some (.ref sb), some (.ref (ad 0)), some (.ref (ad 157)), some (.ref (ad 165)), some (.int (nI i)), l5, l6, l7, l8] [] (wl D ad M2)) : V D FLaw room_1 (QG (StX sb L xs) Qf) k n 1401 [some (.ref sb), some (.ref (ad 0)), some (.ref (ad 157)), some (.ref (ad 165)), some (.int (nI i)), l5, l6, l7, l8] [] (wl D ad M) := by
  obtain ⟨d1, d2, P, hd1, hd2, h1, h2⟩ := hA
  refine E_aload1 (q := 1402) dL_law_1401 rfl ?_
  refine E_aload0 (q := 1403) dL_law_1402 rfl ?_
  refine E_iload4 (q := 1405) dL_law_1403 rfl ?_
  refine E_iconst (v := nI 1) (q := 1406) dL_law_1405 (by decide) rfl ?_
  refine E_iaddN (q := 1407) dL_law_1406 rfl ?_
  refine E_sld (q := 1408) (i := i + 1) (by omega) (by omega) dL_law_1407 rfl ?_
  refine E_callVR (q := 1411) (ar := [.int (xs (i + 1))]) (rest := []) lk_L_183 h1 rc_X5 (rm1 hd1) (by show k + 0 ≤ 601024; omega) (by show n + 0 ≤ 7293034; omega) (Nat.le_of_ble_eq_true rfl) dL_law_1408 rfl rfl ?_
  rintro v w ⟨y, hv, M1, hw, hP⟩
  rw [hw]
  subst hv
  refine V_st (st' := [.int y]) rfl ?_
  refine E_aload2 (q := 1412) dL_law_1411 rfl ?_
  refine E_aload0 (q := 1413) dL_law_1412 rfl ?_
  refine E_iload4 (q := 1415) dL_law_1413 rfl ?_
  refine E_iconst (v := nI 1) (q := 1416) dL_law_1415 (by decide) rfl ?_
  refine E_iaddN (q := 1417) dL_law_1416 rfl ?_
  refine E_sld (q := 1418) (i := i + 1) (by omega) (by omega) dL_law_1417 rfl ?_
  refine E_callVR (q := 1421) (ar := [.int (xs (i + 1))]) (rest := [.int y]) lk_L_186 (h2 y M1 hP) rc_X6 (rm1 hd2) (by show k + 0 + 0 ≤ 601024; omega) (by show n + 0 + 0 ≤ 7293034; omega) (Nat.le_of_ble_eq_true rfl) dL_law_1418 rfl rfl ?_
  rintro v w ⟨z, hv, hz, M2, hw, hQ⟩
  rw [hw]
  subst hv
  subst hz
  refine V_st (st' := [.int z, .int z]) rfl ?_
  refine E_icmp_eq (tgt := 2807) (q := 1424) dL_law_1421 (by decide) rfl (fun _ => ?_) (fun h => absurd rfl h)
  exact V_widen (k' := k + 4) (n' := n + 532) (by omega) (by omega) (by show k + 4 ≤ 601024; omega) (by show n + 532 ≤ 7293034; omega) (kk M2 _ _ _ _ hQ)
theorem lw_used (hi : i + 6 ≤ L) (hL : L ≤ 3072) (hk : k ≤ 600000) (hn : n ≤ 7000000) (hA : Ans D ad M yX5_used cfX5_used yX6_used cfX6_used [] Q) (kk : ∀ M2 l5 l6 l7 l8, Q M2 → V D FLaw room_1 (QG (StX sb L xs) Qf) (k + 4) (n + 532) 2807 [some (.ref sb), some (.ref (ad 0)), some (.ref (ad 157)), some (.ref (ad 165)), some (.int (nI i)), l5, l6, l7, l8] [] (wl D ad M2)) : V D FLaw room_1 (QG (StX sb L xs) Qf) k n 1426 [some (.ref sb), some (.ref (ad 0)), some (.ref (ad 157)), some (.ref (ad 165)), some (.int (nI i)), l5, l6, l7, l8] [] (wl D ad M) := by
  obtain ⟨d1, d2, P, hd1, hd2, h1, h2⟩ := hA
  refine E_aload1 (q := 1427) dL_law_1426 rfl ?_
  refine E_callVR (q := 1430) (ar := []) (rest := []) lk_L_187 h1 rc_X5 (rm1 hd1) (by show k + 0 ≤ 601024; omega) (by show n + 0 ≤ 7293034; omega) (Nat.le_of_ble_eq_true rfl) dL_law_1427 rfl rfl ?_
  rintro v w ⟨y, hv, M1, hw, hP⟩
  rw [hw]
  subst hv
  refine V_st (st' := [.int y]) rfl ?_
  refine E_aload2 (q := 1431) dL_law_1430 rfl ?_
  refine E_callVR (q := 1434) (ar := []) (rest := [.int y]) lk_L_190 (h2 y M1 hP) rc_X6 (rm1 hd2) (by show k + 0 + 0 ≤ 601024; omega) (by show n + 0 + 0 ≤ 7293034; omega) (Nat.le_of_ble_eq_true rfl) dL_law_1431 rfl rfl ?_
  rintro v w ⟨z, hv, hz, M2, hw, hQ⟩
  rw [hw]
  subst hv
  subst hz
  refine V_st (st' := [.int z, .int z]) rfl ?_
  refine E_icmp_eq (tgt := 2807) (q := 1437) dL_law_1434 (by decide) rfl (fun _ => ?_) (fun h => absurd rfl h)
  exact V_widen (k' := k + 4) (n' := n + 532) (by omega) (by omega) (by show k + 4 ≤ 601024; omega) (by show n + 532 ≤ 7293034; omega) (kk M2 _ _ _ _ hQ)
theorem lw_referenced (hi : i + 6 ≤ L) (hL : L ≤ 3072) (hk : k ≤ 600000) (hn : n ≤ 7000000) (hA : AnsT D ad M yL_referenced cfL_referenced [(0, 9, 12, 13)] yX6_referenced cfX6_referenced [.ref (ad 0), .int (xs (i + 1)), .ref (ad 165)] [.int (xs (i + 1))] Q) (kk : ∀ M2 l5 l6 l7 l8, Q M2 → V D FLaw room_1 (QG (StX sb L xs) Qf) (k + 4) (n + 532) 2807 [some (.ref sb), some (.ref (ad 0)), some (.ref (ad 157)), some (.ref (ad 165)), some (.int (nI i)), l5, l6, l7, l8] [] (wl D ad M2)) : V D FLaw room_1 (QG (StX sb L xs) Qf) k n 1439 [some (.ref sb), some (.ref (ad 0)), some (.ref (ad 157)), some (.ref (ad 165)), some (.int (nI i)), l5, l6, l7, l8] [] (wl D ad M) := by
  rcases hA with ⟨d2, y, M2, hd2, h1, h2, h3, h4, hQ⟩ | ⟨d2, y, M2, hd2, h1, h2, h3, hQ⟩
  · skip
    refine E_aload1 (q := 1440) dL_law_1439 rfl ?_
    refine E_aload0 (q := 1441) dL_law_1440 rfl ?_
    refine E_iload4 (q := 1443) dL_law_1441 rfl ?_
    refine E_iconst (v := nI 1) (q := 1444) dL_law_1443 (by decide) rfl ?_
    refine E_iaddN (q := 1445) dL_law_1444 rfl ?_
    refine E_sld (q := 1446) (i := i + 1) (by omega) (by omega) dL_law_1445 rfl ?_
    refine E_aload3 (q := 1447) dL_law_1446 rfl ?_
    refine E_callSHR (q := 1450) (ar := [.ref (ad 0), .int (xs (i + 1)), .ref (ad 165)]) (rest := []) lh_referenced h1 (rm1 (by decide)) (by show k + 1 ≤ 601024; omega) (by show n + 6 ≤ 7293034; omega) (Nat.le_of_ble_eq_true rfl) dL_law_1447 rfl rfl ?_
    rintro v w ⟨hv, hw⟩
    rw [hw]
    subst hv
    refine V_st (st' := [.int (nI 0)]) rfl ?_
    refine E_istore5 (q := 1452) dL_law_1450 rfl rfl ?_
    refine E_aload2 (q := 1453) dL_law_1452 rfl ?_
    refine E_aload0 (q := 1454) dL_law_1453 rfl ?_
    refine E_iload4 (q := 1456) dL_law_1454 rfl ?_
    refine E_iconst (v := nI 1) (q := 1457) dL_law_1456 (by decide) rfl ?_
    refine E_iaddN (q := 1458) dL_law_1457 rfl ?_
    refine E_sld (q := 1459) (i := i + 1) (by omega) (by omega) dL_law_1458 rfl ?_
    refine E_callVR (q := 1462) (ar := [.int (xs (i + 1))]) (rest := []) lk_L_193 h2 rc_X6 (rm1 hd2) (by show k + 1 + 0 ≤ 601024; omega) (by show n + 6 + 0 ≤ 7293034; omega) (Nat.le_of_ble_eq_true rfl) dL_law_1459 rfl rfl ?_
    rintro v w ⟨hv, hw⟩
    rw [hw]
    subst hv
    refine V_st (st' := [.int y]) rfl ?_
    refine E_istore6 (q := 1464) dL_law_1462 rfl rfl ?_
    refine E_aload2 (q := 1465) dL_law_1464 rfl ?_
    refine E_callVR (q := 1468) (ar := []) (rest := []) lk_L_138 (sp_X6_thrown h3) rc_X6 (rm1 (by decide)) (by show k + 1 + 0 + 0 ≤ 601024; omega) (by show n + 6 + 0 + 0 ≤ 7293034; omega) (Nat.le_of_ble_eq_true rfl) dL_law_1465 rfl rfl ?_
    rintro v w ⟨hv, hw⟩
    rw [hw]
    subst hv
    refine V_st (st' := [.int (nI 0)]) rfl ?_
    refine E_iload5 (q := 1470) dL_law_1468 rfl ?_
    refine E_icmp_eq (tgt := 1475) (q := 1473) dL_law_1470 (by decide) rfl (fun _ => ?_) (fun h => absurd rfl h)
    refine E_iload5 (q := 1477) dL_law_1475 rfl ?_
    refine E_if_ne (tgt := 1492) (q := 1480) dL_law_1477 (by decide) rfl (fun h => absurd (by decide) h) (fun _ => ?_)
    refine E_aload3 (q := 1481) dL_law_1480 rfl ?_
    refine E_iconst (v := nI 0) (q := 1482) dL_law_1481 (by decide) rfl ?_
    refine E_lald (q := 1483) sk_165 (by decide) (by decide) dL_law_1482 rfl ?_
    refine E_iload6 (q := 1485) dL_law_1483 rfl ?_
    refine E_i2l (q := 1486) dL_law_1485 rfl ?_
    refine E_lcmp (q := 1487) dL_law_1486 rfl ?_
    refine E_if_eq (tgt := 1492) (q := 1490) dL_law_1487 (by decide) rfl (fun _ => ?_) (fun h => absurd (out_cmp h4) h)
    refine E_goto (q := 2807) dL_law_1492 (by decide) ?_
    exact V_widen (k' := k + 4) (n' := n + 532) (by omega) (by omega) (by show k + 4 ≤ 601024; omega) (by show n + 532 ≤ 7293034; omega) (kk M2 _ _ _ _ hQ)
  · skip
    refine E_aload1 (q := 1440) dL_law_1439 rfl ?_
    refine E_aload0 (q := 1441) dL_law_1440 rfl ?_
    refine E_iload4 (q := 1443) dL_law_1441 rfl ?_
    refine E_iconst (v := nI 1) (q := 1444) dL_law_1443 (by decide) rfl ?_
    refine E_iaddN (q := 1445) dL_law_1444 rfl ?_
    refine E_sld (q := 1446) (i := i + 1) (by omega) (by omega) dL_law_1445 rfl ?_
    refine E_aload3 (q := 1447) dL_law_1446 rfl ?_
    refine E_callSHR (q := 1450) (ar := [.ref (ad 0), .int (xs (i + 1)), .ref (ad 165)]) (rest := []) lh_referenced h1 (rm1 (by decide)) (by show k + 1 ≤ 601024; omega) (by show n + 6 ≤ 7293034; omega) (Nat.le_of_ble_eq_true rfl) dL_law_1447 rfl rfl ?_
    rintro v w ⟨hv, hw⟩
    rw [hw]
    subst hv
    refine V_st (st' := [.int (nI 1)]) rfl ?_
    refine E_istore5 (q := 1452) dL_law_1450 rfl rfl ?_
    refine E_aload2 (q := 1453) dL_law_1452 rfl ?_
    refine E_aload0 (q := 1454) dL_law_1453 rfl ?_
    refine E_iload4 (q := 1456) dL_law_1454 rfl ?_
    refine E_iconst (v := nI 1) (q := 1457) dL_law_1456 (by decide) rfl ?_
    refine E_iaddN (q := 1458) dL_law_1457 rfl ?_
    refine E_sld (q := 1459) (i := i + 1) (by omega) (by omega) dL_law_1458 rfl ?_
    refine E_callVR (q := 1462) (ar := [.int (xs (i + 1))]) (rest := []) lk_L_193 h2 rc_X6 (rm1 hd2) (by show k + 1 + 0 ≤ 601024; omega) (by show n + 6 + 0 ≤ 7293034; omega) (Nat.le_of_ble_eq_true rfl) dL_law_1459 rfl rfl ?_
    rintro v w ⟨hv, hw⟩
    rw [hw]
    subst hv
    refine V_st (st' := [.int y]) rfl ?_
    refine E_istore6 (q := 1464) dL_law_1462 rfl rfl ?_
    refine E_aload2 (q := 1465) dL_law_1464 rfl ?_
    refine E_callVR (q := 1468) (ar := []) (rest := []) lk_L_138 (sp_X6_thrown h3) rc_X6 (rm1 (by decide)) (by show k + 1 + 0 + 0 ≤ 601024; omega) (by show n + 6 + 0 + 0 ≤ 7293034; omega) (Nat.le_of_ble_eq_true rfl) dL_law_1465 rfl rfl ?_
    rintro v w ⟨hv, hw⟩
    rw [hw]
    subst hv
    refine V_st (st' := [.int (nI 1)]) rfl ?_
    refine E_iload5 (q := 1470) dL_law_1468 rfl ?_
    refine E_icmp_eq (tgt := 1475) (q := 1473) dL_law_1470 (by decide) rfl (fun _ => ?_) (fun h => absurd rfl h)
    refine E_iload5 (q := 1477) dL_law_1475 rfl ?_
    refine E_if_ne (tgt := 1492) (q := 1480) dL_law_1477 (by decide) rfl (fun _ => ?_) (fun h => absurd h (by decide))
    refine E_goto (q := 2807) dL_law_1492 (by decide) ?_
    exact V_widen (k' := k + 4) (n' := n + 532) (by omega) (by omega) (by show k + 4 ≤ 601024; omega) (by show n + 532 ≤ 7293034; omega) (kk M2 _ _ _ _ hQ)
theorem lw_exclusive (hi : i + 6 ≤ L) (hL : L ≤ 3072) (hk : k ≤ 600000) (hn : n ≤ 7000000) (hA : AnsT D ad M yL_exclusive cfL_exclusive [(0, 9, 12, 13)] yX6_exclusive cfX6_exclusive [.ref (ad 0), .int (xs (i + 1)), .ref (ad 165)] [.int (xs (i + 1))] Q) (kk : ∀ M2 l5 l6 l7 l8, Q M2 → V D FLaw room_1 (QG (StX sb L xs) Qf) (k + 4) (n + 532) 2807 [some (.ref sb), some (.ref (ad 0)), some (.ref (ad 157)), some (.ref (ad 165)), some (.int (nI i)), l5, l6, l7, l8] [] (wl D ad M2)) : V D FLaw room_1 (QG (StX sb L xs) Qf) k n 1495 [some (.ref sb), some (.ref (ad 0)), some (.ref (ad 157)), some (.ref (ad 165)), some (.int (nI i)), l5, l6, l7, l8] [] (wl D ad M) := by
  rcases hA with ⟨d2, y, M2, hd2, h1, h2, h3, h4, hQ⟩ | ⟨d2, y, M2, hd2, h1, h2, h3, hQ⟩
  · skip
    refine E_aload1 (q := 1496) dL_law_1495 rfl ?_
    refine E_aload0 (q := 1497) dL_law_1496 rfl ?_
    refine E_iload4 (q := 1499) dL_law_1497 rfl ?_
    refine E_iconst (v := nI 1) (q := 1500) dL_law_1499 (by decide) rfl ?_
    refine E_iaddN (q := 1501) dL_law_1500 rfl ?_
    refine E_sld (q := 1502) (i := i + 1) (by omega) (by omega) dL_law_1501 rfl ?_
    refine E_aload3 (q := 1503) dL_law_1502 rfl ?_
    refine E_callSHR (q := 1506) (ar := [.ref (ad 0), .int (xs (i + 1)), .ref (ad 165)]) (rest := []) lh_exclusive h1 (rm1 (by decide)) (by show k + 1 ≤ 601024; omega) (by show n + 6 ≤ 7293034; omega) (Nat.le_of_ble_eq_true rfl) dL_law_1503 rfl rfl ?_
    rintro v w ⟨hv, hw⟩
    rw [hw]
    subst hv
    refine V_st (st' := [.int (nI 0)]) rfl ?_
    refine E_istore5 (q := 1508) dL_law_1506 rfl rfl ?_
    refine E_aload2 (q := 1509) dL_law_1508 rfl ?_
    refine E_aload0 (q := 1510) dL_law_1509 rfl ?_
    refine E_iload4 (q := 1512) dL_law_1510 rfl ?_
    refine E_iconst (v := nI 1) (q := 1513) dL_law_1512 (by decide) rfl ?_
    refine E_iaddN (q := 1514) dL_law_1513 rfl ?_
    refine E_sld (q := 1515) (i := i + 1) (by omega) (by omega) dL_law_1514 rfl ?_
    refine E_callVR (q := 1518) (ar := [.int (xs (i + 1))]) (rest := []) lk_L_196 h2 rc_X6 (rm1 hd2) (by show k + 1 + 0 ≤ 601024; omega) (by show n + 6 + 0 ≤ 7293034; omega) (Nat.le_of_ble_eq_true rfl) dL_law_1515 rfl rfl ?_
    rintro v w ⟨hv, hw⟩
    rw [hw]
    subst hv
    refine V_st (st' := [.int y]) rfl ?_
    refine E_istore6 (q := 1520) dL_law_1518 rfl rfl ?_
    refine E_aload2 (q := 1521) dL_law_1520 rfl ?_
    refine E_callVR (q := 1524) (ar := []) (rest := []) lk_L_138 (sp_X6_thrown h3) rc_X6 (rm1 (by decide)) (by show k + 1 + 0 + 0 ≤ 601024; omega) (by show n + 6 + 0 + 0 ≤ 7293034; omega) (Nat.le_of_ble_eq_true rfl) dL_law_1521 rfl rfl ?_
    rintro v w ⟨hv, hw⟩
    rw [hw]
    subst hv
    refine V_st (st' := [.int (nI 0)]) rfl ?_
    refine E_iload5 (q := 1526) dL_law_1524 rfl ?_
    refine E_icmp_eq (tgt := 1531) (q := 1529) dL_law_1526 (by decide) rfl (fun _ => ?_) (fun h => absurd rfl h)
    refine E_iload5 (q := 1533) dL_law_1531 rfl ?_
    refine E_if_ne (tgt := 1548) (q := 1536) dL_law_1533 (by decide) rfl (fun h => absurd (by decide) h) (fun _ => ?_)
    refine E_aload3 (q := 1537) dL_law_1536 rfl ?_
    refine E_iconst (v := nI 0) (q := 1538) dL_law_1537 (by decide) rfl ?_
    refine E_lald (q := 1539) sk_165 (by decide) (by decide) dL_law_1538 rfl ?_
    refine E_iload6 (q := 1541) dL_law_1539 rfl ?_
    refine E_i2l (q := 1542) dL_law_1541 rfl ?_
    refine E_lcmp (q := 1543) dL_law_1542 rfl ?_
    refine E_if_eq (tgt := 1548) (q := 1546) dL_law_1543 (by decide) rfl (fun _ => ?_) (fun h => absurd (out_cmp h4) h)
    refine E_goto (q := 2807) dL_law_1548 (by decide) ?_
    exact V_widen (k' := k + 4) (n' := n + 532) (by omega) (by omega) (by show k + 4 ≤ 601024; omega) (by show n + 532 ≤ 7293034; omega) (kk M2 _ _ _ _ hQ)
  · skip
    refine E_aload1 (q := 1496) dL_law_1495 rfl ?_
    refine E_aload0 (q := 1497) dL_law_1496 rfl ?_
    refine E_iload4 (q := 1499) dL_law_1497 rfl ?_
    refine E_iconst (v := nI 1) (q := 1500) dL_law_1499 (by decide) rfl ?_
    refine E_iaddN (q := 1501) dL_law_1500 rfl ?_
    refine E_sld (q := 1502) (i := i + 1) (by omega) (by omega) dL_law_1501 rfl ?_
    refine E_aload3 (q := 1503) dL_law_1502 rfl ?_
    refine E_callSHR (q := 1506) (ar := [.ref (ad 0), .int (xs (i + 1)), .ref (ad 165)]) (rest := []) lh_exclusive h1 (rm1 (by decide)) (by show k + 1 ≤ 601024; omega) (by show n + 6 ≤ 7293034; omega) (Nat.le_of_ble_eq_true rfl) dL_law_1503 rfl rfl ?_
    rintro v w ⟨hv, hw⟩
    rw [hw]
    subst hv
    refine V_st (st' := [.int (nI 1)]) rfl ?_
    refine E_istore5 (q := 1508) dL_law_1506 rfl rfl ?_
    refine E_aload2 (q := 1509) dL_law_1508 rfl ?_
    refine E_aload0 (q := 1510) dL_law_1509 rfl ?_
    refine E_iload4 (q := 1512) dL_law_1510 rfl ?_
    refine E_iconst (v := nI 1) (q := 1513) dL_law_1512 (by decide) rfl ?_
    refine E_iaddN (q := 1514) dL_law_1513 rfl ?_
    refine E_sld (q := 1515) (i := i + 1) (by omega) (by omega) dL_law_1514 rfl ?_
    refine E_callVR (q := 1518) (ar := [.int (xs (i + 1))]) (rest := []) lk_L_196 h2 rc_X6 (rm1 hd2) (by show k + 1 + 0 ≤ 601024; omega) (by show n + 6 + 0 ≤ 7293034; omega) (Nat.le_of_ble_eq_true rfl) dL_law_1515 rfl rfl ?_
    rintro v w ⟨hv, hw⟩
    rw [hw]
    subst hv
    refine V_st (st' := [.int y]) rfl ?_
    refine E_istore6 (q := 1520) dL_law_1518 rfl rfl ?_
    refine E_aload2 (q := 1521) dL_law_1520 rfl ?_
    refine E_callVR (q := 1524) (ar := []) (rest := []) lk_L_138 (sp_X6_thrown h3) rc_X6 (rm1 (by decide)) (by show k + 1 + 0 + 0 ≤ 601024; omega) (by show n + 6 + 0 + 0 ≤ 7293034; omega) (Nat.le_of_ble_eq_true rfl) dL_law_1521 rfl rfl ?_
    rintro v w ⟨hv, hw⟩
    rw [hw]
    subst hv
    refine V_st (st' := [.int (nI 1)]) rfl ?_
    refine E_iload5 (q := 1526) dL_law_1524 rfl ?_
    refine E_icmp_eq (tgt := 1531) (q := 1529) dL_law_1526 (by decide) rfl (fun _ => ?_) (fun h => absurd rfl h)
    refine E_iload5 (q := 1533) dL_law_1531 rfl ?_
    refine E_if_ne (tgt := 1548) (q := 1536) dL_law_1533 (by decide) rfl (fun _ => ?_) (fun h => absurd h (by decide))
    refine E_goto (q := 2807) dL_law_1548 (by decide) ?_
    exact V_widen (k' := k + 4) (n' := n + 532) (by omega) (by omega) (by show k + 4 ≤ 601024; omega) (by show n + 532 ≤ 7293034; omega) (kk M2 _ _ _ _ hQ)
theorem lw_shared (hi : i + 6 ≤ L) (hL : L ≤ 3072) (hk : k ≤ 600000) (hn : n ≤ 7000000) (hA : AnsT D ad M yL_shared cfL_shared [(0, 10, 13, 13)] yX6_shared cfX6_shared [.ref (ad 0), .int (xs (i + 1)), .int (xs (i + 2)), .ref (ad 165)] [.int (xs (i + 1)), .int (xs (i + 2))] Q) (kk : ∀ M2 l5 l6 l7 l8, Q M2 → V D FLaw room_1 (QG (StX sb L xs) Qf) (k + 4) (n + 532) 2807 [some (.ref sb), some (.ref (ad 0)), some (.ref (ad 157)), some (.ref (ad 165)), some (.int (nI i)), l5, l6, l7, l8] [] (wl D ad M2)) : V D FLaw room_1 (QG (StX sb L xs) Qf) k n 1551 [some (.ref sb), some (.ref (ad 0)), some (.ref (ad 157)), some (.ref (ad 165)), some (.int (nI i)), l5, l6, l7, l8] [] (wl D ad M) := by
  rcases hA with ⟨d2, y, M2, hd2, h1, h2, h3, h4, hQ⟩ | ⟨d2, y, M2, hd2, h1, h2, h3, hQ⟩
  · skip
    refine E_aload1 (q := 1552) dL_law_1551 rfl ?_
    refine E_aload0 (q := 1553) dL_law_1552 rfl ?_
    refine E_iload4 (q := 1555) dL_law_1553 rfl ?_
    refine E_iconst (v := nI 1) (q := 1556) dL_law_1555 (by decide) rfl ?_
    refine E_iaddN (q := 1557) dL_law_1556 rfl ?_
    refine E_sld (q := 1558) (i := i + 1) (by omega) (by omega) dL_law_1557 rfl ?_
    refine E_aload0 (q := 1559) dL_law_1558 rfl ?_
    refine E_iload4 (q := 1561) dL_law_1559 rfl ?_
    refine E_iconst (v := nI 2) (q := 1562) dL_law_1561 (by decide) rfl ?_
    refine E_iaddN (q := 1563) dL_law_1562 rfl ?_
    refine E_sld (q := 1564) (i := i + 2) (by omega) (by omega) dL_law_1563 rfl ?_
    refine E_aload3 (q := 1565) dL_law_1564 rfl ?_
    refine E_callSHR (q := 1568) (ar := [.ref (ad 0), .int (xs (i + 1)), .int (xs (i + 2)), .ref (ad 165)]) (rest := []) lh_shared h1 (rm1 (by decide)) (by show k + 1 ≤ 601024; omega) (by show n + 6 ≤ 7293034; omega) (Nat.le_of_ble_eq_true rfl) dL_law_1565 rfl rfl ?_
    rintro v w ⟨hv, hw⟩
    rw [hw]
    subst hv
    refine V_st (st' := [.int (nI 0)]) rfl ?_
    refine E_istore5 (q := 1570) dL_law_1568 rfl rfl ?_
    refine E_aload2 (q := 1571) dL_law_1570 rfl ?_
    refine E_aload0 (q := 1572) dL_law_1571 rfl ?_
    refine E_iload4 (q := 1574) dL_law_1572 rfl ?_
    refine E_iconst (v := nI 1) (q := 1575) dL_law_1574 (by decide) rfl ?_
    refine E_iaddN (q := 1576) dL_law_1575 rfl ?_
    refine E_sld (q := 1577) (i := i + 1) (by omega) (by omega) dL_law_1576 rfl ?_
    refine E_aload0 (q := 1578) dL_law_1577 rfl ?_
    refine E_iload4 (q := 1580) dL_law_1578 rfl ?_
    refine E_iconst (v := nI 2) (q := 1581) dL_law_1580 (by decide) rfl ?_
    refine E_iaddN (q := 1582) dL_law_1581 rfl ?_
    refine E_sld (q := 1583) (i := i + 2) (by omega) (by omega) dL_law_1582 rfl ?_
    refine E_callVR (q := 1586) (ar := [.int (xs (i + 1)), .int (xs (i + 2))]) (rest := []) lk_L_199 h2 rc_X6 (rm1 hd2) (by show k + 1 + 0 ≤ 601024; omega) (by show n + 6 + 0 ≤ 7293034; omega) (Nat.le_of_ble_eq_true rfl) dL_law_1583 rfl rfl ?_
    rintro v w ⟨hv, hw⟩
    rw [hw]
    subst hv
    refine V_st (st' := [.int y]) rfl ?_
    refine E_istore6 (q := 1588) dL_law_1586 rfl rfl ?_
    refine E_aload2 (q := 1589) dL_law_1588 rfl ?_
    refine E_callVR (q := 1592) (ar := []) (rest := []) lk_L_138 (sp_X6_thrown h3) rc_X6 (rm1 (by decide)) (by show k + 1 + 0 + 0 ≤ 601024; omega) (by show n + 6 + 0 + 0 ≤ 7293034; omega) (Nat.le_of_ble_eq_true rfl) dL_law_1589 rfl rfl ?_
    rintro v w ⟨hv, hw⟩
    rw [hw]
    subst hv
    refine V_st (st' := [.int (nI 0)]) rfl ?_
    refine E_iload5 (q := 1594) dL_law_1592 rfl ?_
    refine E_icmp_eq (tgt := 1599) (q := 1597) dL_law_1594 (by decide) rfl (fun _ => ?_) (fun h => absurd rfl h)
    refine E_iload5 (q := 1601) dL_law_1599 rfl ?_
    refine E_if_ne (tgt := 1616) (q := 1604) dL_law_1601 (by decide) rfl (fun h => absurd (by decide) h) (fun _ => ?_)
    refine E_aload3 (q := 1605) dL_law_1604 rfl ?_
    refine E_iconst (v := nI 0) (q := 1606) dL_law_1605 (by decide) rfl ?_
    refine E_lald (q := 1607) sk_165 (by decide) (by decide) dL_law_1606 rfl ?_
    refine E_iload6 (q := 1609) dL_law_1607 rfl ?_
    refine E_i2l (q := 1610) dL_law_1609 rfl ?_
    refine E_lcmp (q := 1611) dL_law_1610 rfl ?_
    refine E_if_eq (tgt := 1616) (q := 1614) dL_law_1611 (by decide) rfl (fun _ => ?_) (fun h => absurd (out_cmp h4) h)
    refine E_goto (q := 2807) dL_law_1616 (by decide) ?_
    exact V_widen (k' := k + 4) (n' := n + 532) (by omega) (by omega) (by show k + 4 ≤ 601024; omega) (by show n + 532 ≤ 7293034; omega) (kk M2 _ _ _ _ hQ)
  · skip
    refine E_aload1 (q := 1552) dL_law_1551 rfl ?_
    refine E_aload0 (q := 1553) dL_law_1552 rfl ?_
    refine E_iload4 (q := 1555) dL_law_1553 rfl ?_
    refine E_iconst (v := nI 1) (q := 1556) dL_law_1555 (by decide) rfl ?_
    refine E_iaddN (q := 1557) dL_law_1556 rfl ?_
    refine E_sld (q := 1558) (i := i + 1) (by omega) (by omega) dL_law_1557 rfl ?_
    refine E_aload0 (q := 1559) dL_law_1558 rfl ?_
    refine E_iload4 (q := 1561) dL_law_1559 rfl ?_
    refine E_iconst (v := nI 2) (q := 1562) dL_law_1561 (by decide) rfl ?_
    refine E_iaddN (q := 1563) dL_law_1562 rfl ?_
    refine E_sld (q := 1564) (i := i + 2) (by omega) (by omega) dL_law_1563 rfl ?_
    refine E_aload3 (q := 1565) dL_law_1564 rfl ?_
    refine E_callSHR (q := 1568) (ar := [.ref (ad 0), .int (xs (i + 1)), .int (xs (i + 2)), .ref (ad 165)]) (rest := []) lh_shared h1 (rm1 (by decide)) (by show k + 1 ≤ 601024; omega) (by show n + 6 ≤ 7293034; omega) (Nat.le_of_ble_eq_true rfl) dL_law_1565 rfl rfl ?_
    rintro v w ⟨hv, hw⟩
    rw [hw]
    subst hv
    refine V_st (st' := [.int (nI 1)]) rfl ?_
    refine E_istore5 (q := 1570) dL_law_1568 rfl rfl ?_
    refine E_aload2 (q := 1571) dL_law_1570 rfl ?_
    refine E_aload0 (q := 1572) dL_law_1571 rfl ?_
    refine E_iload4 (q := 1574) dL_law_1572 rfl ?_
    refine E_iconst (v := nI 1) (q := 1575) dL_law_1574 (by decide) rfl ?_
    refine E_iaddN (q := 1576) dL_law_1575 rfl ?_
    refine E_sld (q := 1577) (i := i + 1) (by omega) (by omega) dL_law_1576 rfl ?_
    refine E_aload0 (q := 1578) dL_law_1577 rfl ?_
    refine E_iload4 (q := 1580) dL_law_1578 rfl ?_
    refine E_iconst (v := nI 2) (q := 1581) dL_law_1580 (by decide) rfl ?_
    refine E_iaddN (q := 1582) dL_law_1581 rfl ?_
    refine E_sld (q := 1583) (i := i + 2) (by omega) (by omega) dL_law_1582 rfl ?_
    refine E_callVR (q := 1586) (ar := [.int (xs (i + 1)), .int (xs (i + 2))]) (rest := []) lk_L_199 h2 rc_X6 (rm1 hd2) (by show k + 1 + 0 ≤ 601024; omega) (by show n + 6 + 0 ≤ 7293034; omega) (Nat.le_of_ble_eq_true rfl) dL_law_1583 rfl rfl ?_
    rintro v w ⟨hv, hw⟩
    rw [hw]
    subst hv
    refine V_st (st' := [.int y]) rfl ?_
    refine E_istore6 (q := 1588) dL_law_1586 rfl rfl ?_
    refine E_aload2 (q := 1589) dL_law_1588 rfl ?_
    refine E_callVR (q := 1592) (ar := []) (rest := []) lk_L_138 (sp_X6_thrown h3) rc_X6 (rm1 (by decide)) (by show k + 1 + 0 + 0 ≤ 601024; omega) (by show n + 6 + 0 + 0 ≤ 7293034; omega) (Nat.le_of_ble_eq_true rfl) dL_law_1589 rfl rfl ?_
    rintro v w ⟨hv, hw⟩
    rw [hw]
    subst hv
    refine V_st (st' := [.int (nI 1)]) rfl ?_
    refine E_iload5 (q := 1594) dL_law_1592 rfl ?_
    refine E_icmp_eq (tgt := 1599) (q := 1597) dL_law_1594 (by decide) rfl (fun _ => ?_) (fun h => absurd rfl h)
    refine E_iload5 (q := 1601) dL_law_1599 rfl ?_
    refine E_if_ne (tgt := 1616) (q := 1604) dL_law_1601 (by decide) rfl (fun _ => ?_) (fun h => absurd h (by decide))
    refine E_goto (q := 2807) dL_law_1616 (by decide) ?_
    exact V_widen (k' := k + 4) (n' := n + 532) (by omega) (by omega) (by show k + 4 ≤ 601024; omega) (by show n + 532 ≤ 7293034; omega) (kk M2 _ _ _ _ hQ)
theorem lw_unlike (hi : i + 6 ≤ L) (hL : L ≤ 3072) (hk : k ≤ 600000) (hn : n ≤ 7000000) (hA : AnsT D ad M yL_unlike cfL_unlike [(0, 10, 13, 13)] yX6_unlike cfX6_unlike [.ref (ad 0), .int (xs (i + 1)), .int (xs (i + 2)), .ref (ad 165)] [.int (xs (i + 1)), .int (xs (i + 2))] Q) (kk : ∀ M2 l5 l6 l7 l8, Q M2 → V D FLaw room_1 (QG (StX sb L xs) Qf) (k + 4) (n + 532) 2807 [some (.ref sb), some (.ref (ad 0)), some (.ref (ad 157)), some (.ref (ad 165)), some (.int (nI i)), l5, l6, l7, l8] [] (wl D ad M2)) : V D FLaw room_1 (QG (StX sb L xs) Qf) k n 1619 [some (.ref sb), some (.ref (ad 0)), some (.ref (ad 157)), some (.ref (ad 165)), some (.int (nI i)), l5, l6, l7, l8] [] (wl D ad M) := by
  rcases hA with ⟨d2, y, M2, hd2, h1, h2, h3, h4, hQ⟩ | ⟨d2, y, M2, hd2, h1, h2, h3, hQ⟩
  · skip
    refine E_aload1 (q := 1620) dL_law_1619 rfl ?_
    refine E_aload0 (q := 1621) dL_law_1620 rfl ?_
    refine E_iload4 (q := 1623) dL_law_1621 rfl ?_
    refine E_iconst (v := nI 1) (q := 1624) dL_law_1623 (by decide) rfl ?_
    refine E_iaddN (q := 1625) dL_law_1624 rfl ?_
    refine E_sld (q := 1626) (i := i + 1) (by omega) (by omega) dL_law_1625 rfl ?_
    refine E_aload0 (q := 1627) dL_law_1626 rfl ?_
    refine E_iload4 (q := 1629) dL_law_1627 rfl ?_
    refine E_iconst (v := nI 2) (q := 1630) dL_law_1629 (by decide) rfl ?_
    refine E_iaddN (q := 1631) dL_law_1630 rfl ?_
    refine E_sld (q := 1632) (i := i + 2) (by omega) (by omega) dL_law_1631 rfl ?_
    refine E_aload3 (q := 1633) dL_law_1632 rfl ?_
    refine E_callSHR (q := 1636) (ar := [.ref (ad 0), .int (xs (i + 1)), .int (xs (i + 2)), .ref (ad 165)]) (rest := []) lh_unlike h1 (rm1 (by decide)) (by show k + 1 ≤ 601024; omega) (by show n + 6 ≤ 7293034; omega) (Nat.le_of_ble_eq_true rfl) dL_law_1633 rfl rfl ?_
    rintro v w ⟨hv, hw⟩
    rw [hw]
    subst hv
    refine V_st (st' := [.int (nI 0)]) rfl ?_
    refine E_istore5 (q := 1638) dL_law_1636 rfl rfl ?_
    refine E_aload2 (q := 1639) dL_law_1638 rfl ?_
    refine E_aload0 (q := 1640) dL_law_1639 rfl ?_
    refine E_iload4 (q := 1642) dL_law_1640 rfl ?_
    refine E_iconst (v := nI 1) (q := 1643) dL_law_1642 (by decide) rfl ?_
    refine E_iaddN (q := 1644) dL_law_1643 rfl ?_
    refine E_sld (q := 1645) (i := i + 1) (by omega) (by omega) dL_law_1644 rfl ?_
    refine E_aload0 (q := 1646) dL_law_1645 rfl ?_
    refine E_iload4 (q := 1648) dL_law_1646 rfl ?_
    refine E_iconst (v := nI 2) (q := 1649) dL_law_1648 (by decide) rfl ?_
    refine E_iaddN (q := 1650) dL_law_1649 rfl ?_
    refine E_sld (q := 1651) (i := i + 2) (by omega) (by omega) dL_law_1650 rfl ?_
    refine E_callVR (q := 1654) (ar := [.int (xs (i + 1)), .int (xs (i + 2))]) (rest := []) lk_L_202 h2 rc_X6 (rm1 hd2) (by show k + 1 + 0 ≤ 601024; omega) (by show n + 6 + 0 ≤ 7293034; omega) (Nat.le_of_ble_eq_true rfl) dL_law_1651 rfl rfl ?_
    rintro v w ⟨hv, hw⟩
    rw [hw]
    subst hv
    refine V_st (st' := [.int y]) rfl ?_
    refine E_istore6 (q := 1656) dL_law_1654 rfl rfl ?_
    refine E_aload2 (q := 1657) dL_law_1656 rfl ?_
    refine E_callVR (q := 1660) (ar := []) (rest := []) lk_L_138 (sp_X6_thrown h3) rc_X6 (rm1 (by decide)) (by show k + 1 + 0 + 0 ≤ 601024; omega) (by show n + 6 + 0 + 0 ≤ 7293034; omega) (Nat.le_of_ble_eq_true rfl) dL_law_1657 rfl rfl ?_
    rintro v w ⟨hv, hw⟩
    rw [hw]
    subst hv
    refine V_st (st' := [.int (nI 0)]) rfl ?_
    refine E_iload5 (q := 1662) dL_law_1660 rfl ?_
    refine E_icmp_eq (tgt := 1667) (q := 1665) dL_law_1662 (by decide) rfl (fun _ => ?_) (fun h => absurd rfl h)
    refine E_iload5 (q := 1669) dL_law_1667 rfl ?_
    refine E_if_ne (tgt := 1684) (q := 1672) dL_law_1669 (by decide) rfl (fun h => absurd (by decide) h) (fun _ => ?_)
    refine E_aload3 (q := 1673) dL_law_1672 rfl ?_
    refine E_iconst (v := nI 0) (q := 1674) dL_law_1673 (by decide) rfl ?_
    refine E_lald (q := 1675) sk_165 (by decide) (by decide) dL_law_1674 rfl ?_
    refine E_iload6 (q := 1677) dL_law_1675 rfl ?_
    refine E_i2l (q := 1678) dL_law_1677 rfl ?_
    refine E_lcmp (q := 1679) dL_law_1678 rfl ?_
    refine E_if_eq (tgt := 1684) (q := 1682) dL_law_1679 (by decide) rfl (fun _ => ?_) (fun h => absurd (out_cmp h4) h)
    refine E_goto (q := 2807) dL_law_1684 (by decide) ?_
    exact V_widen (k' := k + 4) (n' := n + 532) (by omega) (by omega) (by show k + 4 ≤ 601024; omega) (by show n + 532 ≤ 7293034; omega) (kk M2 _ _ _ _ hQ)
  · skip
    refine E_aload1 (q := 1620) dL_law_1619 rfl ?_
    refine E_aload0 (q := 1621) dL_law_1620 rfl ?_
    refine E_iload4 (q := 1623) dL_law_1621 rfl ?_
    refine E_iconst (v := nI 1) (q := 1624) dL_law_1623 (by decide) rfl ?_
    refine E_iaddN (q := 1625) dL_law_1624 rfl ?_
    refine E_sld (q := 1626) (i := i + 1) (by omega) (by omega) dL_law_1625 rfl ?_
    refine E_aload0 (q := 1627) dL_law_1626 rfl ?_
    refine E_iload4 (q := 1629) dL_law_1627 rfl ?_
    refine E_iconst (v := nI 2) (q := 1630) dL_law_1629 (by decide) rfl ?_
    refine E_iaddN (q := 1631) dL_law_1630 rfl ?_
    refine E_sld (q := 1632) (i := i + 2) (by omega) (by omega) dL_law_1631 rfl ?_
    refine E_aload3 (q := 1633) dL_law_1632 rfl ?_
    refine E_callSHR (q := 1636) (ar := [.ref (ad 0), .int (xs (i + 1)), .int (xs (i + 2)), .ref (ad 165)]) (rest := []) lh_unlike h1 (rm1 (by decide)) (by show k + 1 ≤ 601024; omega) (by show n + 6 ≤ 7293034; omega) (Nat.le_of_ble_eq_true rfl) dL_law_1633 rfl rfl ?_
    rintro v w ⟨hv, hw⟩
    rw [hw]
    subst hv
    refine V_st (st' := [.int (nI 1)]) rfl ?_
    refine E_istore5 (q := 1638) dL_law_1636 rfl rfl ?_
    refine E_aload2 (q := 1639) dL_law_1638 rfl ?_
    refine E_aload0 (q := 1640) dL_law_1639 rfl ?_
    refine E_iload4 (q := 1642) dL_law_1640 rfl ?_
    refine E_iconst (v := nI 1) (q := 1643) dL_law_1642 (by decide) rfl ?_
    refine E_iaddN (q := 1644) dL_law_1643 rfl ?_
    refine E_sld (q := 1645) (i := i + 1) (by omega) (by omega) dL_law_1644 rfl ?_
    refine E_aload0 (q := 1646) dL_law_1645 rfl ?_
    refine E_iload4 (q := 1648) dL_law_1646 rfl ?_
    refine E_iconst (v := nI 2) (q := 1649) dL_law_1648 (by decide) rfl ?_
    refine E_iaddN (q := 1650) dL_law_1649 rfl ?_
    refine E_sld (q := 1651) (i := i + 2) (by omega) (by omega) dL_law_1650 rfl ?_
    refine E_callVR (q := 1654) (ar := [.int (xs (i + 1)), .int (xs (i + 2))]) (rest := []) lk_L_202 h2 rc_X6 (rm1 hd2) (by show k + 1 + 0 ≤ 601024; omega) (by show n + 6 + 0 ≤ 7293034; omega) (Nat.le_of_ble_eq_true rfl) dL_law_1651 rfl rfl ?_
    rintro v w ⟨hv, hw⟩
    rw [hw]
    subst hv
    refine V_st (st' := [.int y]) rfl ?_
    refine E_istore6 (q := 1656) dL_law_1654 rfl rfl ?_
    refine E_aload2 (q := 1657) dL_law_1656 rfl ?_
    refine E_callVR (q := 1660) (ar := []) (rest := []) lk_L_138 (sp_X6_thrown h3) rc_X6 (rm1 (by decide)) (by show k + 1 + 0 + 0 ≤ 601024; omega) (by show n + 6 + 0 + 0 ≤ 7293034; omega) (Nat.le_of_ble_eq_true rfl) dL_law_1657 rfl rfl ?_
    rintro v w ⟨hv, hw⟩
    rw [hw]
    subst hv
    refine V_st (st' := [.int (nI 1)]) rfl ?_
    refine E_iload5 (q := 1662) dL_law_1660 rfl ?_
    refine E_icmp_eq (tgt := 1667) (q := 1665) dL_law_1662 (by decide) rfl (fun _ => ?_) (fun h => absurd rfl h)
    refine E_iload5 (q := 1669) dL_law_1667 rfl ?_
    refine E_if_ne (tgt := 1684) (q := 1672) dL_law_1669 (by decide) rfl (fun _ => ?_) (fun h => absurd h (by decide))
    refine E_goto (q := 2807) dL_law_1684 (by decide) ?_
    exact V_widen (k' := k + 4) (n' := n + 532) (by omega) (by omega) (by show k + 4 ≤ 601024; omega) (by show n + 532 ≤ 7293034; omega) (kk M2 _ _ _ _ hQ)
theorem lw_writtenSince (hi : i + 6 ≤ L) (hL : L ≤ 3072) (hk : k ≤ 600000) (hn : n ≤ 7000000) (hA : AnsT D ad M yL_writtenSince cfL_writtenSince [(0, 10, 13, 13)] yX6_writtenSince cfX6_writtenSince [.ref (ad 0), .int (xs (i + 1)), .int (xs (i + 2)), .ref (ad 165)] [.int (xs (i + 1)), .int (xs (i + 2))] Q) (kk : ∀ M2 l5 l6 l7 l8, Q M2 → V D FLaw room_1 (QG (StX sb L xs) Qf) (k + 4) (n + 532) 2807 [some (.ref sb), some (.ref (ad 0)), some (.ref (ad 157)), some (.ref (ad 165)), some (.int (nI i)), l5, l6, l7, l8] [] (wl D ad M2)) : V D FLaw room_1 (QG (StX sb L xs) Qf) k n 1687 [some (.ref sb), some (.ref (ad 0)), some (.ref (ad 157)), some (.ref (ad 165)), some (.int (nI i)), l5, l6, l7, l8] [] (wl D ad M) := by
  rcases hA with ⟨d2, y, M2, hd2, h1, h2, h3, h4, hQ⟩ | ⟨d2, y, M2, hd2, h1, h2, h3, hQ⟩
  · skip
    refine E_aload1 (q := 1688) dL_law_1687 rfl ?_
    refine E_aload0 (q := 1689) dL_law_1688 rfl ?_
    refine E_iload4 (q := 1691) dL_law_1689 rfl ?_
    refine E_iconst (v := nI 1) (q := 1692) dL_law_1691 (by decide) rfl ?_
    refine E_iaddN (q := 1693) dL_law_1692 rfl ?_
    refine E_sld (q := 1694) (i := i + 1) (by omega) (by omega) dL_law_1693 rfl ?_
    refine E_aload0 (q := 1695) dL_law_1694 rfl ?_
    refine E_iload4 (q := 1697) dL_law_1695 rfl ?_
    refine E_iconst (v := nI 2) (q := 1698) dL_law_1697 (by decide) rfl ?_
    refine E_iaddN (q := 1699) dL_law_1698 rfl ?_
    refine E_sld (q := 1700) (i := i + 2) (by omega) (by omega) dL_law_1699 rfl ?_
    refine E_aload3 (q := 1701) dL_law_1700 rfl ?_
    refine E_callSHR (q := 1704) (ar := [.ref (ad 0), .int (xs (i + 1)), .int (xs (i + 2)), .ref (ad 165)]) (rest := []) lh_writtenSince h1 (rm1 (by decide)) (by show k + 1 ≤ 601024; omega) (by show n + 6 ≤ 7293034; omega) (Nat.le_of_ble_eq_true rfl) dL_law_1701 rfl rfl ?_
    rintro v w ⟨hv, hw⟩
    rw [hw]
    subst hv
    refine V_st (st' := [.int (nI 0)]) rfl ?_
    refine E_istore5 (q := 1706) dL_law_1704 rfl rfl ?_
    refine E_aload2 (q := 1707) dL_law_1706 rfl ?_
    refine E_aload0 (q := 1708) dL_law_1707 rfl ?_
    refine E_iload4 (q := 1710) dL_law_1708 rfl ?_
    refine E_iconst (v := nI 1) (q := 1711) dL_law_1710 (by decide) rfl ?_
    refine E_iaddN (q := 1712) dL_law_1711 rfl ?_
    refine E_sld (q := 1713) (i := i + 1) (by omega) (by omega) dL_law_1712 rfl ?_
    refine E_aload0 (q := 1714) dL_law_1713 rfl ?_
    refine E_iload4 (q := 1716) dL_law_1714 rfl ?_
    refine E_iconst (v := nI 2) (q := 1717) dL_law_1716 (by decide) rfl ?_
    refine E_iaddN (q := 1718) dL_law_1717 rfl ?_
    refine E_sld (q := 1719) (i := i + 2) (by omega) (by omega) dL_law_1718 rfl ?_
    refine E_callVR (q := 1722) (ar := [.int (xs (i + 1)), .int (xs (i + 2))]) (rest := []) lk_L_205 h2 rc_X6 (rm1 hd2) (by show k + 1 + 0 ≤ 601024; omega) (by show n + 6 + 0 ≤ 7293034; omega) (Nat.le_of_ble_eq_true rfl) dL_law_1719 rfl rfl ?_
    rintro v w ⟨hv, hw⟩
    rw [hw]
    subst hv
    refine V_st (st' := [.int y]) rfl ?_
    refine E_istore6 (q := 1724) dL_law_1722 rfl rfl ?_
    refine E_aload2 (q := 1725) dL_law_1724 rfl ?_
    refine E_callVR (q := 1728) (ar := []) (rest := []) lk_L_138 (sp_X6_thrown h3) rc_X6 (rm1 (by decide)) (by show k + 1 + 0 + 0 ≤ 601024; omega) (by show n + 6 + 0 + 0 ≤ 7293034; omega) (Nat.le_of_ble_eq_true rfl) dL_law_1725 rfl rfl ?_
    rintro v w ⟨hv, hw⟩
    rw [hw]
    subst hv
    refine V_st (st' := [.int (nI 0)]) rfl ?_
    refine E_iload5 (q := 1730) dL_law_1728 rfl ?_
    refine E_icmp_eq (tgt := 1735) (q := 1733) dL_law_1730 (by decide) rfl (fun _ => ?_) (fun h => absurd rfl h)
    refine E_iload5 (q := 1737) dL_law_1735 rfl ?_
    refine E_if_ne (tgt := 1752) (q := 1740) dL_law_1737 (by decide) rfl (fun h => absurd (by decide) h) (fun _ => ?_)
    refine E_aload3 (q := 1741) dL_law_1740 rfl ?_
    refine E_iconst (v := nI 0) (q := 1742) dL_law_1741 (by decide) rfl ?_
    refine E_lald (q := 1743) sk_165 (by decide) (by decide) dL_law_1742 rfl ?_
    refine E_iload6 (q := 1745) dL_law_1743 rfl ?_
    refine E_i2l (q := 1746) dL_law_1745 rfl ?_
    refine E_lcmp (q := 1747) dL_law_1746 rfl ?_
    refine E_if_eq (tgt := 1752) (q := 1750) dL_law_1747 (by decide) rfl (fun _ => ?_) (fun h => absurd (out_cmp h4) h)
    refine E_goto (q := 2807) dL_law_1752 (by decide) ?_
    exact V_widen (k' := k + 4) (n' := n + 532) (by omega) (by omega) (by show k + 4 ≤ 601024; omega) (by show n + 532 ≤ 7293034; omega) (kk M2 _ _ _ _ hQ)
  · skip
    refine E_aload1 (q := 1688) dL_law_1687 rfl ?_
    refine E_aload0 (q := 1689) dL_law_1688 rfl ?_
    refine E_iload4 (q := 1691) dL_law_1689 rfl ?_
    refine E_iconst (v := nI 1) (q := 1692) dL_law_1691 (by decide) rfl ?_
    refine E_iaddN (q := 1693) dL_law_1692 rfl ?_
    refine E_sld (q := 1694) (i := i + 1) (by omega) (by omega) dL_law_1693 rfl ?_
    refine E_aload0 (q := 1695) dL_law_1694 rfl ?_
    refine E_iload4 (q := 1697) dL_law_1695 rfl ?_
    refine E_iconst (v := nI 2) (q := 1698) dL_law_1697 (by decide) rfl ?_
    refine E_iaddN (q := 1699) dL_law_1698 rfl ?_
    refine E_sld (q := 1700) (i := i + 2) (by omega) (by omega) dL_law_1699 rfl ?_
    refine E_aload3 (q := 1701) dL_law_1700 rfl ?_
    refine E_callSHR (q := 1704) (ar := [.ref (ad 0), .int (xs (i + 1)), .int (xs (i + 2)), .ref (ad 165)]) (rest := []) lh_writtenSince h1 (rm1 (by decide)) (by show k + 1 ≤ 601024; omega) (by show n + 6 ≤ 7293034; omega) (Nat.le_of_ble_eq_true rfl) dL_law_1701 rfl rfl ?_
    rintro v w ⟨hv, hw⟩
    rw [hw]
    subst hv
    refine V_st (st' := [.int (nI 1)]) rfl ?_
    refine E_istore5 (q := 1706) dL_law_1704 rfl rfl ?_
    refine E_aload2 (q := 1707) dL_law_1706 rfl ?_
    refine E_aload0 (q := 1708) dL_law_1707 rfl ?_
    refine E_iload4 (q := 1710) dL_law_1708 rfl ?_
    refine E_iconst (v := nI 1) (q := 1711) dL_law_1710 (by decide) rfl ?_
    refine E_iaddN (q := 1712) dL_law_1711 rfl ?_
    refine E_sld (q := 1713) (i := i + 1) (by omega) (by omega) dL_law_1712 rfl ?_
    refine E_aload0 (q := 1714) dL_law_1713 rfl ?_
    refine E_iload4 (q := 1716) dL_law_1714 rfl ?_
    refine E_iconst (v := nI 2) (q := 1717) dL_law_1716 (by decide) rfl ?_
    refine E_iaddN (q := 1718) dL_law_1717 rfl ?_
    refine E_sld (q := 1719) (i := i + 2) (by omega) (by omega) dL_law_1718 rfl ?_
    refine E_callVR (q := 1722) (ar := [.int (xs (i + 1)), .int (xs (i + 2))]) (rest := []) lk_L_205 h2 rc_X6 (rm1 hd2) (by show k + 1 + 0 ≤ 601024; omega) (by show n + 6 + 0 ≤ 7293034; omega) (Nat.le_of_ble_eq_true rfl) dL_law_1719 rfl rfl ?_
    rintro v w ⟨hv, hw⟩
    rw [hw]
    subst hv
    refine V_st (st' := [.int y]) rfl ?_
    refine E_istore6 (q := 1724) dL_law_1722 rfl rfl ?_
    refine E_aload2 (q := 1725) dL_law_1724 rfl ?_
    refine E_callVR (q := 1728) (ar := []) (rest := []) lk_L_138 (sp_X6_thrown h3) rc_X6 (rm1 (by decide)) (by show k + 1 + 0 + 0 ≤ 601024; omega) (by show n + 6 + 0 + 0 ≤ 7293034; omega) (Nat.le_of_ble_eq_true rfl) dL_law_1725 rfl rfl ?_
    rintro v w ⟨hv, hw⟩
    rw [hw]
    subst hv
    refine V_st (st' := [.int (nI 1)]) rfl ?_
    refine E_iload5 (q := 1730) dL_law_1728 rfl ?_
    refine E_icmp_eq (tgt := 1735) (q := 1733) dL_law_1730 (by decide) rfl (fun _ => ?_) (fun h => absurd rfl h)
    refine E_iload5 (q := 1737) dL_law_1735 rfl ?_
    refine E_if_ne (tgt := 1752) (q := 1740) dL_law_1737 (by decide) rfl (fun _ => ?_) (fun h => absurd h (by decide))
    refine E_goto (q := 2807) dL_law_1752 (by decide) ?_
    exact V_widen (k' := k + 4) (n' := n + 532) (by omega) (by omega) (by show k + 4 ≤ 601024; omega) (by show n + 532 ≤ 7293034; omega) (kk M2 _ _ _ _ hQ)
theorem lw_deadCount (hi : i + 6 ≤ L) (hL : L ≤ 3072) (hk : k ≤ 600000) (hn : n ≤ 7000000) (hA : AnsT D ad M yL_deadCount cfL_deadCount [(0, 9, 12, 13)] yX6_deadCount cfX6_deadCount [.ref (ad 0), .int (xs (i + 1)), .ref (ad 165)] [.int (xs (i + 1))] Q) (kk : ∀ M2 l5 l6 l7 l8, Q M2 → V D FLaw room_1 (QG (StX sb L xs) Qf) (k + 4) (n + 532) 2807 [some (.ref sb), some (.ref (ad 0)), some (.ref (ad 157)), some (.ref (ad 165)), some (.int (nI i)), l5, l6, l7, l8] [] (wl D ad M2)) : V D FLaw room_1 (QG (StX sb L xs) Qf) k n 1755 [some (.ref sb), some (.ref (ad 0)), some (.ref (ad 157)), some (.ref (ad 165)), some (.int (nI i)), l5, l6, l7, l8] [] (wl D ad M) := by
  rcases hA with ⟨d2, y, M2, hd2, h1, h2, h3, h4, hQ⟩ | ⟨d2, y, M2, hd2, h1, h2, h3, hQ⟩
  · skip
    refine E_aload1 (q := 1756) dL_law_1755 rfl ?_
    refine E_aload0 (q := 1757) dL_law_1756 rfl ?_
    refine E_iload4 (q := 1759) dL_law_1757 rfl ?_
    refine E_iconst (v := nI 1) (q := 1760) dL_law_1759 (by decide) rfl ?_
    refine E_iaddN (q := 1761) dL_law_1760 rfl ?_
    refine E_sld (q := 1762) (i := i + 1) (by omega) (by omega) dL_law_1761 rfl ?_
    refine E_aload3 (q := 1763) dL_law_1762 rfl ?_
    refine E_callSHR (q := 1766) (ar := [.ref (ad 0), .int (xs (i + 1)), .ref (ad 165)]) (rest := []) lh_deadCount h1 (rm1 (by decide)) (by show k + 1 ≤ 601024; omega) (by show n + 6 ≤ 7293034; omega) (Nat.le_of_ble_eq_true rfl) dL_law_1763 rfl rfl ?_
    rintro v w ⟨hv, hw⟩
    rw [hw]
    subst hv
    refine V_st (st' := [.int (nI 0)]) rfl ?_
    refine E_istore5 (q := 1768) dL_law_1766 rfl rfl ?_
    refine E_aload2 (q := 1769) dL_law_1768 rfl ?_
    refine E_aload0 (q := 1770) dL_law_1769 rfl ?_
    refine E_iload4 (q := 1772) dL_law_1770 rfl ?_
    refine E_iconst (v := nI 1) (q := 1773) dL_law_1772 (by decide) rfl ?_
    refine E_iaddN (q := 1774) dL_law_1773 rfl ?_
    refine E_sld (q := 1775) (i := i + 1) (by omega) (by omega) dL_law_1774 rfl ?_
    refine E_callVR (q := 1778) (ar := [.int (xs (i + 1))]) (rest := []) lk_L_208 h2 rc_X6 (rm1 hd2) (by show k + 1 + 0 ≤ 601024; omega) (by show n + 6 + 0 ≤ 7293034; omega) (Nat.le_of_ble_eq_true rfl) dL_law_1775 rfl rfl ?_
    rintro v w ⟨hv, hw⟩
    rw [hw]
    subst hv
    refine V_st (st' := [.int y]) rfl ?_
    refine E_istore6 (q := 1780) dL_law_1778 rfl rfl ?_
    refine E_aload2 (q := 1781) dL_law_1780 rfl ?_
    refine E_callVR (q := 1784) (ar := []) (rest := []) lk_L_138 (sp_X6_thrown h3) rc_X6 (rm1 (by decide)) (by show k + 1 + 0 + 0 ≤ 601024; omega) (by show n + 6 + 0 + 0 ≤ 7293034; omega) (Nat.le_of_ble_eq_true rfl) dL_law_1781 rfl rfl ?_
    rintro v w ⟨hv, hw⟩
    rw [hw]
    subst hv
    refine V_st (st' := [.int (nI 0)]) rfl ?_
    refine E_iload5 (q := 1786) dL_law_1784 rfl ?_
    refine E_icmp_eq (tgt := 1791) (q := 1789) dL_law_1786 (by decide) rfl (fun _ => ?_) (fun h => absurd rfl h)
    refine E_iload5 (q := 1793) dL_law_1791 rfl ?_
    refine E_if_ne (tgt := 1808) (q := 1796) dL_law_1793 (by decide) rfl (fun h => absurd (by decide) h) (fun _ => ?_)
    refine E_aload3 (q := 1797) dL_law_1796 rfl ?_
    refine E_iconst (v := nI 0) (q := 1798) dL_law_1797 (by decide) rfl ?_
    refine E_lald (q := 1799) sk_165 (by decide) (by decide) dL_law_1798 rfl ?_
    refine E_iload6 (q := 1801) dL_law_1799 rfl ?_
    refine E_i2l (q := 1802) dL_law_1801 rfl ?_
    refine E_lcmp (q := 1803) dL_law_1802 rfl ?_
    refine E_if_eq (tgt := 1808) (q := 1806) dL_law_1803 (by decide) rfl (fun _ => ?_) (fun h => absurd (out_cmp h4) h)
    refine E_goto (q := 2807) dL_law_1808 (by decide) ?_
    exact V_widen (k' := k + 4) (n' := n + 532) (by omega) (by omega) (by show k + 4 ≤ 601024; omega) (by show n + 532 ≤ 7293034; omega) (kk M2 _ _ _ _ hQ)
  · skip
    refine E_aload1 (q := 1756) dL_law_1755 rfl ?_
    refine E_aload0 (q := 1757) dL_law_1756 rfl ?_
    refine E_iload4 (q := 1759) dL_law_1757 rfl ?_
    refine E_iconst (v := nI 1) (q := 1760) dL_law_1759 (by decide) rfl ?_
    refine E_iaddN (q := 1761) dL_law_1760 rfl ?_
    refine E_sld (q := 1762) (i := i + 1) (by omega) (by omega) dL_law_1761 rfl ?_
    refine E_aload3 (q := 1763) dL_law_1762 rfl ?_
    refine E_callSHR (q := 1766) (ar := [.ref (ad 0), .int (xs (i + 1)), .ref (ad 165)]) (rest := []) lh_deadCount h1 (rm1 (by decide)) (by show k + 1 ≤ 601024; omega) (by show n + 6 ≤ 7293034; omega) (Nat.le_of_ble_eq_true rfl) dL_law_1763 rfl rfl ?_
    rintro v w ⟨hv, hw⟩
    rw [hw]
    subst hv
    refine V_st (st' := [.int (nI 1)]) rfl ?_
    refine E_istore5 (q := 1768) dL_law_1766 rfl rfl ?_
    refine E_aload2 (q := 1769) dL_law_1768 rfl ?_
    refine E_aload0 (q := 1770) dL_law_1769 rfl ?_
    refine E_iload4 (q := 1772) dL_law_1770 rfl ?_
    refine E_iconst (v := nI 1) (q := 1773) dL_law_1772 (by decide) rfl ?_
    refine E_iaddN (q := 1774) dL_law_1773 rfl ?_
    refine E_sld (q := 1775) (i := i + 1) (by omega) (by omega) dL_law_1774 rfl ?_
    refine E_callVR (q := 1778) (ar := [.int (xs (i + 1))]) (rest := []) lk_L_208 h2 rc_X6 (rm1 hd2) (by show k + 1 + 0 ≤ 601024; omega) (by show n + 6 + 0 ≤ 7293034; omega) (Nat.le_of_ble_eq_true rfl) dL_law_1775 rfl rfl ?_
    rintro v w ⟨hv, hw⟩
    rw [hw]
    subst hv
    refine V_st (st' := [.int y]) rfl ?_
    refine E_istore6 (q := 1780) dL_law_1778 rfl rfl ?_
    refine E_aload2 (q := 1781) dL_law_1780 rfl ?_
    refine E_callVR (q := 1784) (ar := []) (rest := []) lk_L_138 (sp_X6_thrown h3) rc_X6 (rm1 (by decide)) (by show k + 1 + 0 + 0 ≤ 601024; omega) (by show n + 6 + 0 + 0 ≤ 7293034; omega) (Nat.le_of_ble_eq_true rfl) dL_law_1781 rfl rfl ?_
    rintro v w ⟨hv, hw⟩
    rw [hw]
    subst hv
    refine V_st (st' := [.int (nI 1)]) rfl ?_
    refine E_iload5 (q := 1786) dL_law_1784 rfl ?_
    refine E_icmp_eq (tgt := 1791) (q := 1789) dL_law_1786 (by decide) rfl (fun _ => ?_) (fun h => absurd rfl h)
    refine E_iload5 (q := 1793) dL_law_1791 rfl ?_
    refine E_if_ne (tgt := 1808) (q := 1796) dL_law_1793 (by decide) rfl (fun _ => ?_) (fun h => absurd h (by decide))
    refine E_goto (q := 2807) dL_law_1808 (by decide) ?_
    exact V_widen (k' := k + 4) (n' := n + 532) (by omega) (by omega) (by show k + 4 ≤ 601024; omega) (by show n + 532 ≤ 7293034; omega) (kk M2 _ _ _ _ hQ)
theorem lw_deadBlock (hi : i + 6 ≤ L) (hL : L ≤ 3072) (hk : k ≤ 600000) (hn : n ≤ 7000000) (hA : AnsT D ad M yL_deadBlock cfL_deadBlock [(0, 10, 13, 13)] yX6_deadBlock cfX6_deadBlock [.ref (ad 0), .int (xs (i + 1)), .int (xs (i + 2)), .ref (ad 165)] [.int (xs (i + 1)), .int (xs (i + 2))] Q) (kk : ∀ M2 l5 l6 l7 l8, Q M2 → V D FLaw room_1 (QG (StX sb L xs) Qf) (k + 4) (n + 532) 2807 [some (.ref sb), some (.ref (ad 0)), some (.ref (ad 157)), some (.ref (ad 165)), some (.int (nI i)), l5, l6, l7, l8] [] (wl D ad M2)) : V D FLaw room_1 (QG (StX sb L xs) Qf) k n 1811 [some (.ref sb), some (.ref (ad 0)), some (.ref (ad 157)), some (.ref (ad 165)), some (.int (nI i)), l5, l6, l7, l8] [] (wl D ad M) := by
  rcases hA with ⟨d2, y, M2, hd2, h1, h2, h3, h4, hQ⟩ | ⟨d2, y, M2, hd2, h1, h2, h3, hQ⟩
  · skip
    refine E_aload1 (q := 1812) dL_law_1811 rfl ?_
    refine E_aload0 (q := 1813) dL_law_1812 rfl ?_
    refine E_iload4 (q := 1815) dL_law_1813 rfl ?_
    refine E_iconst (v := nI 1) (q := 1816) dL_law_1815 (by decide) rfl ?_
    refine E_iaddN (q := 1817) dL_law_1816 rfl ?_
    refine E_sld (q := 1818) (i := i + 1) (by omega) (by omega) dL_law_1817 rfl ?_
    refine E_aload0 (q := 1819) dL_law_1818 rfl ?_
    refine E_iload4 (q := 1821) dL_law_1819 rfl ?_
    refine E_iconst (v := nI 2) (q := 1822) dL_law_1821 (by decide) rfl ?_
    refine E_iaddN (q := 1823) dL_law_1822 rfl ?_
    refine E_sld (q := 1824) (i := i + 2) (by omega) (by omega) dL_law_1823 rfl ?_
    refine E_aload3 (q := 1825) dL_law_1824 rfl ?_
    refine E_callSHR (q := 1828) (ar := [.ref (ad 0), .int (xs (i + 1)), .int (xs (i + 2)), .ref (ad 165)]) (rest := []) lh_deadBlock h1 (rm1 (by decide)) (by show k + 1 ≤ 601024; omega) (by show n + 6 ≤ 7293034; omega) (Nat.le_of_ble_eq_true rfl) dL_law_1825 rfl rfl ?_
    rintro v w ⟨hv, hw⟩
    rw [hw]
    subst hv
    refine V_st (st' := [.int (nI 0)]) rfl ?_
    refine E_istore5 (q := 1830) dL_law_1828 rfl rfl ?_
    refine E_aload2 (q := 1831) dL_law_1830 rfl ?_
    refine E_aload0 (q := 1832) dL_law_1831 rfl ?_
    refine E_iload4 (q := 1834) dL_law_1832 rfl ?_
    refine E_iconst (v := nI 1) (q := 1835) dL_law_1834 (by decide) rfl ?_
    refine E_iaddN (q := 1836) dL_law_1835 rfl ?_
    refine E_sld (q := 1837) (i := i + 1) (by omega) (by omega) dL_law_1836 rfl ?_
    refine E_aload0 (q := 1838) dL_law_1837 rfl ?_
    refine E_iload4 (q := 1840) dL_law_1838 rfl ?_
    refine E_iconst (v := nI 2) (q := 1841) dL_law_1840 (by decide) rfl ?_
    refine E_iaddN (q := 1842) dL_law_1841 rfl ?_
    refine E_sld (q := 1843) (i := i + 2) (by omega) (by omega) dL_law_1842 rfl ?_
    refine E_callVR (q := 1846) (ar := [.int (xs (i + 1)), .int (xs (i + 2))]) (rest := []) lk_L_211 h2 rc_X6 (rm1 hd2) (by show k + 1 + 0 ≤ 601024; omega) (by show n + 6 + 0 ≤ 7293034; omega) (Nat.le_of_ble_eq_true rfl) dL_law_1843 rfl rfl ?_
    rintro v w ⟨hv, hw⟩
    rw [hw]
    subst hv
    refine V_st (st' := [.int y]) rfl ?_
    refine E_istore6 (q := 1848) dL_law_1846 rfl rfl ?_
    refine E_aload2 (q := 1849) dL_law_1848 rfl ?_
    refine E_callVR (q := 1852) (ar := []) (rest := []) lk_L_138 (sp_X6_thrown h3) rc_X6 (rm1 (by decide)) (by show k + 1 + 0 + 0 ≤ 601024; omega) (by show n + 6 + 0 + 0 ≤ 7293034; omega) (Nat.le_of_ble_eq_true rfl) dL_law_1849 rfl rfl ?_
    rintro v w ⟨hv, hw⟩
    rw [hw]
    subst hv
    refine V_st (st' := [.int (nI 0)]) rfl ?_
    refine E_iload5 (q := 1854) dL_law_1852 rfl ?_
    refine E_icmp_eq (tgt := 1859) (q := 1857) dL_law_1854 (by decide) rfl (fun _ => ?_) (fun h => absurd rfl h)
    refine E_iload5 (q := 1861) dL_law_1859 rfl ?_
    refine E_if_ne (tgt := 1876) (q := 1864) dL_law_1861 (by decide) rfl (fun h => absurd (by decide) h) (fun _ => ?_)
    refine E_aload3 (q := 1865) dL_law_1864 rfl ?_
    refine E_iconst (v := nI 0) (q := 1866) dL_law_1865 (by decide) rfl ?_
    refine E_lald (q := 1867) sk_165 (by decide) (by decide) dL_law_1866 rfl ?_
    refine E_iload6 (q := 1869) dL_law_1867 rfl ?_
    refine E_i2l (q := 1870) dL_law_1869 rfl ?_
    refine E_lcmp (q := 1871) dL_law_1870 rfl ?_
    refine E_if_eq (tgt := 1876) (q := 1874) dL_law_1871 (by decide) rfl (fun _ => ?_) (fun h => absurd (out_cmp h4) h)
    refine E_goto (q := 2807) dL_law_1876 (by decide) ?_
    exact V_widen (k' := k + 4) (n' := n + 532) (by omega) (by omega) (by show k + 4 ≤ 601024; omega) (by show n + 532 ≤ 7293034; omega) (kk M2 _ _ _ _ hQ)
  · skip
    refine E_aload1 (q := 1812) dL_law_1811 rfl ?_
    refine E_aload0 (q := 1813) dL_law_1812 rfl ?_
    refine E_iload4 (q := 1815) dL_law_1813 rfl ?_
    refine E_iconst (v := nI 1) (q := 1816) dL_law_1815 (by decide) rfl ?_
    refine E_iaddN (q := 1817) dL_law_1816 rfl ?_
    refine E_sld (q := 1818) (i := i + 1) (by omega) (by omega) dL_law_1817 rfl ?_
    refine E_aload0 (q := 1819) dL_law_1818 rfl ?_
    refine E_iload4 (q := 1821) dL_law_1819 rfl ?_
    refine E_iconst (v := nI 2) (q := 1822) dL_law_1821 (by decide) rfl ?_
    refine E_iaddN (q := 1823) dL_law_1822 rfl ?_
    refine E_sld (q := 1824) (i := i + 2) (by omega) (by omega) dL_law_1823 rfl ?_
    refine E_aload3 (q := 1825) dL_law_1824 rfl ?_
    refine E_callSHR (q := 1828) (ar := [.ref (ad 0), .int (xs (i + 1)), .int (xs (i + 2)), .ref (ad 165)]) (rest := []) lh_deadBlock h1 (rm1 (by decide)) (by show k + 1 ≤ 601024; omega) (by show n + 6 ≤ 7293034; omega) (Nat.le_of_ble_eq_true rfl) dL_law_1825 rfl rfl ?_
    rintro v w ⟨hv, hw⟩
    rw [hw]
    subst hv
    refine V_st (st' := [.int (nI 1)]) rfl ?_
    refine E_istore5 (q := 1830) dL_law_1828 rfl rfl ?_
    refine E_aload2 (q := 1831) dL_law_1830 rfl ?_
    refine E_aload0 (q := 1832) dL_law_1831 rfl ?_
    refine E_iload4 (q := 1834) dL_law_1832 rfl ?_
    refine E_iconst (v := nI 1) (q := 1835) dL_law_1834 (by decide) rfl ?_
    refine E_iaddN (q := 1836) dL_law_1835 rfl ?_
    refine E_sld (q := 1837) (i := i + 1) (by omega) (by omega) dL_law_1836 rfl ?_
    refine E_aload0 (q := 1838) dL_law_1837 rfl ?_
    refine E_iload4 (q := 1840) dL_law_1838 rfl ?_
    refine E_iconst (v := nI 2) (q := 1841) dL_law_1840 (by decide) rfl ?_
    refine E_iaddN (q := 1842) dL_law_1841 rfl ?_
    refine E_sld (q := 1843) (i := i + 2) (by omega) (by omega) dL_law_1842 rfl ?_
    refine E_callVR (q := 1846) (ar := [.int (xs (i + 1)), .int (xs (i + 2))]) (rest := []) lk_L_211 h2 rc_X6 (rm1 hd2) (by show k + 1 + 0 ≤ 601024; omega) (by show n + 6 + 0 ≤ 7293034; omega) (Nat.le_of_ble_eq_true rfl) dL_law_1843 rfl rfl ?_
    rintro v w ⟨hv, hw⟩
    rw [hw]
    subst hv
    refine V_st (st' := [.int y]) rfl ?_
    refine E_istore6 (q := 1848) dL_law_1846 rfl rfl ?_
    refine E_aload2 (q := 1849) dL_law_1848 rfl ?_
    refine E_callVR (q := 1852) (ar := []) (rest := []) lk_L_138 (sp_X6_thrown h3) rc_X6 (rm1 (by decide)) (by show k + 1 + 0 + 0 ≤ 601024; omega) (by show n + 6 + 0 + 0 ≤ 7293034; omega) (Nat.le_of_ble_eq_true rfl) dL_law_1849 rfl rfl ?_
    rintro v w ⟨hv, hw⟩
    rw [hw]
    subst hv
    refine V_st (st' := [.int (nI 1)]) rfl ?_
    refine E_iload5 (q := 1854) dL_law_1852 rfl ?_
    refine E_icmp_eq (tgt := 1859) (q := 1857) dL_law_1854 (by decide) rfl (fun _ => ?_) (fun h => absurd rfl h)
    refine E_iload5 (q := 1861) dL_law_1859 rfl ?_
    refine E_if_ne (tgt := 1876) (q := 1864) dL_law_1861 (by decide) rfl (fun _ => ?_) (fun h => absurd h (by decide))
    refine E_goto (q := 2807) dL_law_1876 (by decide) ?_
    exact V_widen (k' := k + 4) (n' := n + 532) (by omega) (by omega) (by show k + 4 ≤ 601024; omega) (by show n + 532 ≤ 7293034; omega) (kk M2 _ _ _ _ hQ)
theorem lw_byDeadBlocks (hi : i + 6 ≤ L) (hL : L ≤ 3072) (hk : k ≤ 600000) (hn : n ≤ 7000000) (hA : AnsT D ad M yL_byDeadBlocks cfL_byDeadBlocks [(0, 9, 12, 13)] yX6_byDeadBlocks cfX6_byDeadBlocks [.ref (ad 0), .int (xs (i + 1)), .ref (ad 165)] [.int (xs (i + 1))] Q) (kk : ∀ M2 l5 l6 l7 l8, Q M2 → V D FLaw room_1 (QG (StX sb L xs) Qf) (k + 4) (n + 532) 2807 [some (.ref sb), some (.ref (ad 0)), some (.ref (ad 157)), some (.ref (ad 165)), some (.int (nI i)), l5, l6, l7, l8] [] (wl D ad M2)) : V D FLaw room_1 (QG (StX sb L xs) Qf) k n 1879 [some (.ref sb), some (.ref (ad 0)), some (.ref (ad 157)), some (.ref (ad 165)), some (.int (nI i)), l5, l6, l7, l8] [] (wl D ad M) := by
  rcases hA with ⟨d2, y, M2, hd2, h1, h2, h3, h4, hQ⟩ | ⟨d2, y, M2, hd2, h1, h2, h3, hQ⟩
  · skip
    refine E_aload1 (q := 1880) dL_law_1879 rfl ?_
    refine E_aload0 (q := 1881) dL_law_1880 rfl ?_
    refine E_iload4 (q := 1883) dL_law_1881 rfl ?_
    refine E_iconst (v := nI 1) (q := 1884) dL_law_1883 (by decide) rfl ?_
    refine E_iaddN (q := 1885) dL_law_1884 rfl ?_
    refine E_sld (q := 1886) (i := i + 1) (by omega) (by omega) dL_law_1885 rfl ?_
    refine E_aload3 (q := 1887) dL_law_1886 rfl ?_
    refine E_callSHR (q := 1890) (ar := [.ref (ad 0), .int (xs (i + 1)), .ref (ad 165)]) (rest := []) lh_byDeadBlocks h1 (rm1 (by decide)) (by show k + 1 ≤ 601024; omega) (by show n + 6 ≤ 7293034; omega) (Nat.le_of_ble_eq_true rfl) dL_law_1887 rfl rfl ?_
    rintro v w ⟨hv, hw⟩
    rw [hw]
    subst hv
    refine V_st (st' := [.int (nI 0)]) rfl ?_
    refine E_istore5 (q := 1892) dL_law_1890 rfl rfl ?_
    refine E_aload2 (q := 1893) dL_law_1892 rfl ?_
    refine E_aload0 (q := 1894) dL_law_1893 rfl ?_
    refine E_iload4 (q := 1896) dL_law_1894 rfl ?_
    refine E_iconst (v := nI 1) (q := 1897) dL_law_1896 (by decide) rfl ?_
    refine E_iaddN (q := 1898) dL_law_1897 rfl ?_
    refine E_sld (q := 1899) (i := i + 1) (by omega) (by omega) dL_law_1898 rfl ?_
    refine E_callVR (q := 1902) (ar := [.int (xs (i + 1))]) (rest := []) lk_L_214 h2 rc_X6 (rm1 hd2) (by show k + 1 + 0 ≤ 601024; omega) (by show n + 6 + 0 ≤ 7293034; omega) (Nat.le_of_ble_eq_true rfl) dL_law_1899 rfl rfl ?_
    rintro v w ⟨hv, hw⟩
    rw [hw]
    subst hv
    refine V_st (st' := [.int y]) rfl ?_
    refine E_istore6 (q := 1904) dL_law_1902 rfl rfl ?_
    refine E_aload2 (q := 1905) dL_law_1904 rfl ?_
    refine E_callVR (q := 1908) (ar := []) (rest := []) lk_L_138 (sp_X6_thrown h3) rc_X6 (rm1 (by decide)) (by show k + 1 + 0 + 0 ≤ 601024; omega) (by show n + 6 + 0 + 0 ≤ 7293034; omega) (Nat.le_of_ble_eq_true rfl) dL_law_1905 rfl rfl ?_
    rintro v w ⟨hv, hw⟩
    rw [hw]
    subst hv
    refine V_st (st' := [.int (nI 0)]) rfl ?_
    refine E_iload5 (q := 1910) dL_law_1908 rfl ?_
    refine E_icmp_eq (tgt := 1915) (q := 1913) dL_law_1910 (by decide) rfl (fun _ => ?_) (fun h => absurd rfl h)
    refine E_iload5 (q := 1917) dL_law_1915 rfl ?_
    refine E_if_ne (tgt := 1932) (q := 1920) dL_law_1917 (by decide) rfl (fun h => absurd (by decide) h) (fun _ => ?_)
    refine E_aload3 (q := 1921) dL_law_1920 rfl ?_
    refine E_iconst (v := nI 0) (q := 1922) dL_law_1921 (by decide) rfl ?_
    refine E_lald (q := 1923) sk_165 (by decide) (by decide) dL_law_1922 rfl ?_
    refine E_iload6 (q := 1925) dL_law_1923 rfl ?_
    refine E_i2l (q := 1926) dL_law_1925 rfl ?_
    refine E_lcmp (q := 1927) dL_law_1926 rfl ?_
    refine E_if_eq (tgt := 1932) (q := 1930) dL_law_1927 (by decide) rfl (fun _ => ?_) (fun h => absurd (out_cmp h4) h)
    refine E_goto (q := 2807) dL_law_1932 (by decide) ?_
    exact V_widen (k' := k + 4) (n' := n + 532) (by omega) (by omega) (by show k + 4 ≤ 601024; omega) (by show n + 532 ≤ 7293034; omega) (kk M2 _ _ _ _ hQ)
  · skip
    refine E_aload1 (q := 1880) dL_law_1879 rfl ?_
    refine E_aload0 (q := 1881) dL_law_1880 rfl ?_
    refine E_iload4 (q := 1883) dL_law_1881 rfl ?_
    refine E_iconst (v := nI 1) (q := 1884) dL_law_1883 (by decide) rfl ?_
    refine E_iaddN (q := 1885) dL_law_1884 rfl ?_
    refine E_sld (q := 1886) (i := i + 1) (by omega) (by omega) dL_law_1885 rfl ?_
    refine E_aload3 (q := 1887) dL_law_1886 rfl ?_
    refine E_callSHR (q := 1890) (ar := [.ref (ad 0), .int (xs (i + 1)), .ref (ad 165)]) (rest := []) lh_byDeadBlocks h1 (rm1 (by decide)) (by show k + 1 ≤ 601024; omega) (by show n + 6 ≤ 7293034; omega) (Nat.le_of_ble_eq_true rfl) dL_law_1887 rfl rfl ?_
    rintro v w ⟨hv, hw⟩
    rw [hw]
    subst hv
    refine V_st (st' := [.int (nI 1)]) rfl ?_
    refine E_istore5 (q := 1892) dL_law_1890 rfl rfl ?_
    refine E_aload2 (q := 1893) dL_law_1892 rfl ?_
    refine E_aload0 (q := 1894) dL_law_1893 rfl ?_
    refine E_iload4 (q := 1896) dL_law_1894 rfl ?_
    refine E_iconst (v := nI 1) (q := 1897) dL_law_1896 (by decide) rfl ?_
    refine E_iaddN (q := 1898) dL_law_1897 rfl ?_
    refine E_sld (q := 1899) (i := i + 1) (by omega) (by omega) dL_law_1898 rfl ?_
    refine E_callVR (q := 1902) (ar := [.int (xs (i + 1))]) (rest := []) lk_L_214 h2 rc_X6 (rm1 hd2) (by show k + 1 + 0 ≤ 601024; omega) (by show n + 6 + 0 ≤ 7293034; omega) (Nat.le_of_ble_eq_true rfl) dL_law_1899 rfl rfl ?_
    rintro v w ⟨hv, hw⟩
    rw [hw]
    subst hv
    refine V_st (st' := [.int y]) rfl ?_
    refine E_istore6 (q := 1904) dL_law_1902 rfl rfl ?_
    refine E_aload2 (q := 1905) dL_law_1904 rfl ?_
    refine E_callVR (q := 1908) (ar := []) (rest := []) lk_L_138 (sp_X6_thrown h3) rc_X6 (rm1 (by decide)) (by show k + 1 + 0 + 0 ≤ 601024; omega) (by show n + 6 + 0 + 0 ≤ 7293034; omega) (Nat.le_of_ble_eq_true rfl) dL_law_1905 rfl rfl ?_
    rintro v w ⟨hv, hw⟩
    rw [hw]
    subst hv
    refine V_st (st' := [.int (nI 1)]) rfl ?_
    refine E_iload5 (q := 1910) dL_law_1908 rfl ?_
    refine E_icmp_eq (tgt := 1915) (q := 1913) dL_law_1910 (by decide) rfl (fun _ => ?_) (fun h => absurd rfl h)
    refine E_iload5 (q := 1917) dL_law_1915 rfl ?_
    refine E_if_ne (tgt := 1932) (q := 1920) dL_law_1917 (by decide) rfl (fun _ => ?_) (fun h => absurd h (by decide))
    refine E_goto (q := 2807) dL_law_1932 (by decide) ?_
    exact V_widen (k' := k + 4) (n' := n + 532) (by omega) (by omega) (by show k + 4 ≤ 601024; omega) (by show n + 532 ≤ 7293034; omega) (kk M2 _ _ _ _ hQ)
theorem lw_freedBy (hi : i + 6 ≤ L) (hL : L ≤ 3072) (hk : k ≤ 600000) (hn : n ≤ 7000000) (hA : Ans D ad M yX5_freedBy cfX5_freedBy yX6_freedBy cfX6_freedBy [.int (xs (i + 1))] Q) (kk : ∀ M2 l5 l6 l7 l8, Q M2 → V D FLaw room_1 (QG (StX sb L xs) Qf) (k + 4) (n + 532) 2807 [some (.ref sb), some (.ref (ad 0)), some (.ref (ad 157)), some (.ref (ad 165)), some (.int (nI i)), l5, l6, l7, l8] [] (wl D ad M2)) : V D FLaw room_1 (QG (StX sb L xs) Qf) k n 1935 [some (.ref sb), some (.ref (ad 0)), some (.ref (ad 157)), some (.ref (ad 165)), some (.int (nI i)), l5, l6, l7, l8] [] (wl D ad M) := by
  obtain ⟨d1, d2, P, hd1, hd2, h1, h2⟩ := hA
  refine E_aload1 (q := 1936) dL_law_1935 rfl ?_
  refine E_aload0 (q := 1937) dL_law_1936 rfl ?_
  refine E_iload4 (q := 1939) dL_law_1937 rfl ?_
  refine E_iconst (v := nI 1) (q := 1940) dL_law_1939 (by decide) rfl ?_
  refine E_iaddN (q := 1941) dL_law_1940 rfl ?_
  refine E_sld (q := 1942) (i := i + 1) (by omega) (by omega) dL_law_1941 rfl ?_
  refine E_callVR (q := 1945) (ar := [.int (xs (i + 1))]) (rest := []) lk_L_215 h1 rc_X5 (rm1 hd1) (by show k + 0 ≤ 601024; omega) (by show n + 0 ≤ 7293034; omega) (Nat.le_of_ble_eq_true rfl) dL_law_1942 rfl rfl ?_
  rintro v w ⟨y, hv, M1, hw, hP⟩
  rw [hw]
  subst hv
  refine V_st (st' := [.int y]) rfl ?_
  refine E_aload2 (q := 1946) dL_law_1945 rfl ?_
  refine E_aload0 (q := 1947) dL_law_1946 rfl ?_
  refine E_iload4 (q := 1949) dL_law_1947 rfl ?_
  refine E_iconst (v := nI 1) (q := 1950) dL_law_1949 (by decide) rfl ?_
  refine E_iaddN (q := 1951) dL_law_1950 rfl ?_
  refine E_sld (q := 1952) (i := i + 1) (by omega) (by omega) dL_law_1951 rfl ?_
  refine E_callVR (q := 1955) (ar := [.int (xs (i + 1))]) (rest := [.int y]) lk_L_218 (h2 y M1 hP) rc_X6 (rm1 hd2) (by show k + 0 + 0 ≤ 601024; omega) (by show n + 0 + 0 ≤ 7293034; omega) (Nat.le_of_ble_eq_true rfl) dL_law_1952 rfl rfl ?_
  rintro v w ⟨z, hv, hz, M2, hw, hQ⟩
  rw [hw]
  subst hv
  subst hz
  refine V_st (st' := [.int z, .int z]) rfl ?_
  refine E_icmp_eq (tgt := 2807) (q := 1958) dL_law_1955 (by decide) rfl (fun _ => ?_) (fun h => absurd rfl h)
  exact V_widen (k' := k + 4) (n' := n + 532) (by omega) (by omega) (by show k + 4 ≤ 601024; omega) (by show n + 532 ≤ 7293034; omega) (kk M2 _ _ _ _ hQ)
theorem lw_freedByVolume (hi : i + 6 ≤ L) (hL : L ≤ 3072) (hk : k ≤ 600000) (hn : n ≤ 7000000) (hA : AnsT D ad M yL_freedByVolume cfL_freedByVolume [(0, 9, 12, 13)] yX6_freedByVolume cfX6_freedByVolume [.ref (ad 0), .int (xs (i + 1)), .ref (ad 165)] [.int (xs (i + 1))] Q) (kk : ∀ M2 l5 l6 l7 l8, Q M2 → V D FLaw room_1 (QG (StX sb L xs) Qf) (k + 4) (n + 532) 2807 [some (.ref sb), some (.ref (ad 0)), some (.ref (ad 157)), some (.ref (ad 165)), some (.int (nI i)), l5, l6, l7, l8] [] (wl D ad M2)) : V D FLaw room_1 (QG (StX sb L xs) Qf) k n 1960 [some (.ref sb), some (.ref (ad 0)), some (.ref (ad 157)), some (.ref (ad 165)), some (.int (nI i)), l5, l6, l7, l8] [] (wl D ad M) := by
  rcases hA with ⟨d2, y, M2, hd2, h1, h2, h3, h4, hQ⟩ | ⟨d2, y, M2, hd2, h1, h2, h3, hQ⟩
  · skip
    refine E_aload1 (q := 1961) dL_law_1960 rfl ?_
    refine E_aload0 (q := 1962) dL_law_1961 rfl ?_
    refine E_iload4 (q := 1964) dL_law_1962 rfl ?_
    refine E_iconst (v := nI 1) (q := 1965) dL_law_1964 (by decide) rfl ?_
    refine E_iaddN (q := 1966) dL_law_1965 rfl ?_
    refine E_sld (q := 1967) (i := i + 1) (by omega) (by omega) dL_law_1966 rfl ?_
    refine E_aload3 (q := 1968) dL_law_1967 rfl ?_
    refine E_callSHR (q := 1971) (ar := [.ref (ad 0), .int (xs (i + 1)), .ref (ad 165)]) (rest := []) lh_freedByVolume h1 (rm1 (by decide)) (by show k + 1 ≤ 601024; omega) (by show n + 6 ≤ 7293034; omega) (Nat.le_of_ble_eq_true rfl) dL_law_1968 rfl rfl ?_
    rintro v w ⟨hv, hw⟩
    rw [hw]
    subst hv
    refine V_st (st' := [.int (nI 0)]) rfl ?_
    refine E_istore5 (q := 1973) dL_law_1971 rfl rfl ?_
    refine E_aload2 (q := 1974) dL_law_1973 rfl ?_
    refine E_aload0 (q := 1975) dL_law_1974 rfl ?_
    refine E_iload4 (q := 1977) dL_law_1975 rfl ?_
    refine E_iconst (v := nI 1) (q := 1978) dL_law_1977 (by decide) rfl ?_
    refine E_iaddN (q := 1979) dL_law_1978 rfl ?_
    refine E_sld (q := 1980) (i := i + 1) (by omega) (by omega) dL_law_1979 rfl ?_
    refine E_callVR (q := 1983) (ar := [.int (xs (i + 1))]) (rest := []) lk_L_221 h2 rc_X6 (rm1 hd2) (by show k + 1 + 0 ≤ 601024; omega) (by show n + 6 + 0 ≤ 7293034; omega) (Nat.le_of_ble_eq_true rfl) dL_law_1980 rfl rfl ?_
    rintro v w ⟨hv, hw⟩
    rw [hw]
    subst hv
    refine V_st (st' := [.int y]) rfl ?_
    refine E_istore6 (q := 1985) dL_law_1983 rfl rfl ?_
    refine E_aload2 (q := 1986) dL_law_1985 rfl ?_
    refine E_callVR (q := 1989) (ar := []) (rest := []) lk_L_138 (sp_X6_thrown h3) rc_X6 (rm1 (by decide)) (by show k + 1 + 0 + 0 ≤ 601024; omega) (by show n + 6 + 0 + 0 ≤ 7293034; omega) (Nat.le_of_ble_eq_true rfl) dL_law_1986 rfl rfl ?_
    rintro v w ⟨hv, hw⟩
    rw [hw]
    subst hv
    refine V_st (st' := [.int (nI 0)]) rfl ?_
    refine E_iload5 (q := 1991) dL_law_1989 rfl ?_
    refine E_icmp_eq (tgt := 1996) (q := 1994) dL_law_1991 (by decide) rfl (fun _ => ?_) (fun h => absurd rfl h)
    refine E_iload5 (q := 1998) dL_law_1996 rfl ?_
    refine E_if_ne (tgt := 2013) (q := 2001) dL_law_1998 (by decide) rfl (fun h => absurd (by decide) h) (fun _ => ?_)
    refine E_aload3 (q := 2002) dL_law_2001 rfl ?_
    refine E_iconst (v := nI 0) (q := 2003) dL_law_2002 (by decide) rfl ?_
    refine E_lald (q := 2004) sk_165 (by decide) (by decide) dL_law_2003 rfl ?_
    refine E_iload6 (q := 2006) dL_law_2004 rfl ?_
    refine E_i2l (q := 2007) dL_law_2006 rfl ?_
    refine E_lcmp (q := 2008) dL_law_2007 rfl ?_
    refine E_if_eq (tgt := 2013) (q := 2011) dL_law_2008 (by decide) rfl (fun _ => ?_) (fun h => absurd (out_cmp h4) h)
    refine E_goto (q := 2807) dL_law_2013 (by decide) ?_
    exact V_widen (k' := k + 4) (n' := n + 532) (by omega) (by omega) (by show k + 4 ≤ 601024; omega) (by show n + 532 ≤ 7293034; omega) (kk M2 _ _ _ _ hQ)
  · skip
    refine E_aload1 (q := 1961) dL_law_1960 rfl ?_
    refine E_aload0 (q := 1962) dL_law_1961 rfl ?_
    refine E_iload4 (q := 1964) dL_law_1962 rfl ?_
    refine E_iconst (v := nI 1) (q := 1965) dL_law_1964 (by decide) rfl ?_
    refine E_iaddN (q := 1966) dL_law_1965 rfl ?_
    refine E_sld (q := 1967) (i := i + 1) (by omega) (by omega) dL_law_1966 rfl ?_
    refine E_aload3 (q := 1968) dL_law_1967 rfl ?_
    refine E_callSHR (q := 1971) (ar := [.ref (ad 0), .int (xs (i + 1)), .ref (ad 165)]) (rest := []) lh_freedByVolume h1 (rm1 (by decide)) (by show k + 1 ≤ 601024; omega) (by show n + 6 ≤ 7293034; omega) (Nat.le_of_ble_eq_true rfl) dL_law_1968 rfl rfl ?_
    rintro v w ⟨hv, hw⟩
    rw [hw]
    subst hv
    refine V_st (st' := [.int (nI 1)]) rfl ?_
    refine E_istore5 (q := 1973) dL_law_1971 rfl rfl ?_
    refine E_aload2 (q := 1974) dL_law_1973 rfl ?_
    refine E_aload0 (q := 1975) dL_law_1974 rfl ?_
    refine E_iload4 (q := 1977) dL_law_1975 rfl ?_
    refine E_iconst (v := nI 1) (q := 1978) dL_law_1977 (by decide) rfl ?_
    refine E_iaddN (q := 1979) dL_law_1978 rfl ?_
    refine E_sld (q := 1980) (i := i + 1) (by omega) (by omega) dL_law_1979 rfl ?_
    refine E_callVR (q := 1983) (ar := [.int (xs (i + 1))]) (rest := []) lk_L_221 h2 rc_X6 (rm1 hd2) (by show k + 1 + 0 ≤ 601024; omega) (by show n + 6 + 0 ≤ 7293034; omega) (Nat.le_of_ble_eq_true rfl) dL_law_1980 rfl rfl ?_
    rintro v w ⟨hv, hw⟩
    rw [hw]
    subst hv
    refine V_st (st' := [.int y]) rfl ?_
    refine E_istore6 (q := 1985) dL_law_1983 rfl rfl ?_
    refine E_aload2 (q := 1986) dL_law_1985 rfl ?_
    refine E_callVR (q := 1989) (ar := []) (rest := []) lk_L_138 (sp_X6_thrown h3) rc_X6 (rm1 (by decide)) (by show k + 1 + 0 + 0 ≤ 601024; omega) (by show n + 6 + 0 + 0 ≤ 7293034; omega) (Nat.le_of_ble_eq_true rfl) dL_law_1986 rfl rfl ?_
    rintro v w ⟨hv, hw⟩
    rw [hw]
    subst hv
    refine V_st (st' := [.int (nI 1)]) rfl ?_
    refine E_iload5 (q := 1991) dL_law_1989 rfl ?_
    refine E_icmp_eq (tgt := 1996) (q := 1994) dL_law_1991 (by decide) rfl (fun _ => ?_) (fun h => absurd rfl h)
    refine E_iload5 (q := 1998) dL_law_1996 rfl ?_
    refine E_if_ne (tgt := 2013) (q := 2001) dL_law_1998 (by decide) rfl (fun _ => ?_) (fun h => absurd h (by decide))
    refine E_goto (q := 2807) dL_law_2013 (by decide) ?_
    exact V_widen (k' := k + 4) (n' := n + 532) (by omega) (by omega) (by show k + 4 ≤ 601024; omega) (by show n + 532 ≤ 7293034; omega) (kk M2 _ _ _ _ hQ)
theorem lw_usedBySnapshots (hi : i + 6 ≤ L) (hL : L ≤ 3072) (hk : k ≤ 600000) (hn : n ≤ 7000000) (hA : AnsT D ad M yL_usedBySnapshots cfL_usedBySnapshots [(0, 9, 12, 13)] yX6_usedBySnapshots cfX6_usedBySnapshots [.ref (ad 0), .int (xs (i + 1)), .ref (ad 165)] [.int (xs (i + 1))] Q) (kk : ∀ M2 l5 l6 l7 l8, Q M2 → V D FLaw room_1 (QG (StX sb L xs) Qf) (k + 4) (n + 532) 2807 [some (.ref sb), some (.ref (ad 0)), some (.ref (ad 157)), some (.ref (ad 165)), some (.int (nI i)), l5, l6, l7, l8] [] (wl D ad M2)) : V D FLaw room_1 (QG (StX sb L xs) Qf) k n 2016 [some (.ref sb), some (.ref (ad 0)), some (.ref (ad 157)), some (.ref (ad 165)), some (.int (nI i)), l5, l6, l7, l8] [] (wl D ad M) := by
  rcases hA with ⟨d2, y, M2, hd2, h1, h2, h3, h4, hQ⟩ | ⟨d2, y, M2, hd2, h1, h2, h3, hQ⟩
  · skip
    refine E_aload1 (q := 2017) dL_law_2016 rfl ?_
    refine E_aload0 (q := 2018) dL_law_2017 rfl ?_
    refine E_iload4 (q := 2020) dL_law_2018 rfl ?_
    refine E_iconst (v := nI 1) (q := 2021) dL_law_2020 (by decide) rfl ?_
    refine E_iaddN (q := 2022) dL_law_2021 rfl ?_
    refine E_sld (q := 2023) (i := i + 1) (by omega) (by omega) dL_law_2022 rfl ?_
    refine E_aload3 (q := 2024) dL_law_2023 rfl ?_
    refine E_callSHR (q := 2027) (ar := [.ref (ad 0), .int (xs (i + 1)), .ref (ad 165)]) (rest := []) lh_usedBySnapshots h1 (rm1 (by decide)) (by show k + 1 ≤ 601024; omega) (by show n + 6 ≤ 7293034; omega) (Nat.le_of_ble_eq_true rfl) dL_law_2024 rfl rfl ?_
    rintro v w ⟨hv, hw⟩
    rw [hw]
    subst hv
    refine V_st (st' := [.int (nI 0)]) rfl ?_
    refine E_istore5 (q := 2029) dL_law_2027 rfl rfl ?_
    refine E_aload2 (q := 2030) dL_law_2029 rfl ?_
    refine E_aload0 (q := 2031) dL_law_2030 rfl ?_
    refine E_iload4 (q := 2033) dL_law_2031 rfl ?_
    refine E_iconst (v := nI 1) (q := 2034) dL_law_2033 (by decide) rfl ?_
    refine E_iaddN (q := 2035) dL_law_2034 rfl ?_
    refine E_sld (q := 2036) (i := i + 1) (by omega) (by omega) dL_law_2035 rfl ?_
    refine E_callVR (q := 2039) (ar := [.int (xs (i + 1))]) (rest := []) lk_L_224 h2 rc_X6 (rm1 hd2) (by show k + 1 + 0 ≤ 601024; omega) (by show n + 6 + 0 ≤ 7293034; omega) (Nat.le_of_ble_eq_true rfl) dL_law_2036 rfl rfl ?_
    rintro v w ⟨hv, hw⟩
    rw [hw]
    subst hv
    refine V_st (st' := [.int y]) rfl ?_
    refine E_istore6 (q := 2041) dL_law_2039 rfl rfl ?_
    refine E_aload2 (q := 2042) dL_law_2041 rfl ?_
    refine E_callVR (q := 2045) (ar := []) (rest := []) lk_L_138 (sp_X6_thrown h3) rc_X6 (rm1 (by decide)) (by show k + 1 + 0 + 0 ≤ 601024; omega) (by show n + 6 + 0 + 0 ≤ 7293034; omega) (Nat.le_of_ble_eq_true rfl) dL_law_2042 rfl rfl ?_
    rintro v w ⟨hv, hw⟩
    rw [hw]
    subst hv
    refine V_st (st' := [.int (nI 0)]) rfl ?_
    refine E_iload5 (q := 2047) dL_law_2045 rfl ?_
    refine E_icmp_eq (tgt := 2052) (q := 2050) dL_law_2047 (by decide) rfl (fun _ => ?_) (fun h => absurd rfl h)
    refine E_iload5 (q := 2054) dL_law_2052 rfl ?_
    refine E_if_ne (tgt := 2069) (q := 2057) dL_law_2054 (by decide) rfl (fun h => absurd (by decide) h) (fun _ => ?_)
    refine E_aload3 (q := 2058) dL_law_2057 rfl ?_
    refine E_iconst (v := nI 0) (q := 2059) dL_law_2058 (by decide) rfl ?_
    refine E_lald (q := 2060) sk_165 (by decide) (by decide) dL_law_2059 rfl ?_
    refine E_iload6 (q := 2062) dL_law_2060 rfl ?_
    refine E_i2l (q := 2063) dL_law_2062 rfl ?_
    refine E_lcmp (q := 2064) dL_law_2063 rfl ?_
    refine E_if_eq (tgt := 2069) (q := 2067) dL_law_2064 (by decide) rfl (fun _ => ?_) (fun h => absurd (out_cmp h4) h)
    refine E_goto (q := 2807) dL_law_2069 (by decide) ?_
    exact V_widen (k' := k + 4) (n' := n + 532) (by omega) (by omega) (by show k + 4 ≤ 601024; omega) (by show n + 532 ≤ 7293034; omega) (kk M2 _ _ _ _ hQ)
  · skip
    refine E_aload1 (q := 2017) dL_law_2016 rfl ?_
    refine E_aload0 (q := 2018) dL_law_2017 rfl ?_
    refine E_iload4 (q := 2020) dL_law_2018 rfl ?_
    refine E_iconst (v := nI 1) (q := 2021) dL_law_2020 (by decide) rfl ?_
    refine E_iaddN (q := 2022) dL_law_2021 rfl ?_
    refine E_sld (q := 2023) (i := i + 1) (by omega) (by omega) dL_law_2022 rfl ?_
    refine E_aload3 (q := 2024) dL_law_2023 rfl ?_
    refine E_callSHR (q := 2027) (ar := [.ref (ad 0), .int (xs (i + 1)), .ref (ad 165)]) (rest := []) lh_usedBySnapshots h1 (rm1 (by decide)) (by show k + 1 ≤ 601024; omega) (by show n + 6 ≤ 7293034; omega) (Nat.le_of_ble_eq_true rfl) dL_law_2024 rfl rfl ?_
    rintro v w ⟨hv, hw⟩
    rw [hw]
    subst hv
    refine V_st (st' := [.int (nI 1)]) rfl ?_
    refine E_istore5 (q := 2029) dL_law_2027 rfl rfl ?_
    refine E_aload2 (q := 2030) dL_law_2029 rfl ?_
    refine E_aload0 (q := 2031) dL_law_2030 rfl ?_
    refine E_iload4 (q := 2033) dL_law_2031 rfl ?_
    refine E_iconst (v := nI 1) (q := 2034) dL_law_2033 (by decide) rfl ?_
    refine E_iaddN (q := 2035) dL_law_2034 rfl ?_
    refine E_sld (q := 2036) (i := i + 1) (by omega) (by omega) dL_law_2035 rfl ?_
    refine E_callVR (q := 2039) (ar := [.int (xs (i + 1))]) (rest := []) lk_L_224 h2 rc_X6 (rm1 hd2) (by show k + 1 + 0 ≤ 601024; omega) (by show n + 6 + 0 ≤ 7293034; omega) (Nat.le_of_ble_eq_true rfl) dL_law_2036 rfl rfl ?_
    rintro v w ⟨hv, hw⟩
    rw [hw]
    subst hv
    refine V_st (st' := [.int y]) rfl ?_
    refine E_istore6 (q := 2041) dL_law_2039 rfl rfl ?_
    refine E_aload2 (q := 2042) dL_law_2041 rfl ?_
    refine E_callVR (q := 2045) (ar := []) (rest := []) lk_L_138 (sp_X6_thrown h3) rc_X6 (rm1 (by decide)) (by show k + 1 + 0 + 0 ≤ 601024; omega) (by show n + 6 + 0 + 0 ≤ 7293034; omega) (Nat.le_of_ble_eq_true rfl) dL_law_2042 rfl rfl ?_
    rintro v w ⟨hv, hw⟩
    rw [hw]
    subst hv
    refine V_st (st' := [.int (nI 1)]) rfl ?_
    refine E_iload5 (q := 2047) dL_law_2045 rfl ?_
    refine E_icmp_eq (tgt := 2052) (q := 2050) dL_law_2047 (by decide) rfl (fun _ => ?_) (fun h => absurd rfl h)
    refine E_iload5 (q := 2054) dL_law_2052 rfl ?_
    refine E_if_ne (tgt := 2069) (q := 2057) dL_law_2054 (by decide) rfl (fun _ => ?_) (fun h => absurd h (by decide))
    refine E_goto (q := 2807) dL_law_2069 (by decide) ?_
    exact V_widen (k' := k + 4) (n' := n + 532) (by omega) (by omega) (by show k + 4 ≤ 601024; omega) (by show n + 532 ≤ 7293034; omega) (kk M2 _ _ _ _ hQ)
theorem lw_whyKept (hi : i + 6 ≤ L) (hL : L ≤ 3072) (hk : k ≤ 600000) (hn : n ≤ 7000000) (hA : AnsT D ad M yL_whyKept cfL_whyKept [(0, 9, 12, 13)] yX6_whyKept cfX6_whyKept [.ref (ad 0), .int (xs (i + 1)), .ref (ad 165)] [.int (xs (i + 1))] Q) (kk : ∀ M2 l5 l6 l7 l8, Q M2 → V D FLaw room_1 (QG (StX sb L xs) Qf) (k + 4) (n + 532) 2807 [some (.ref sb), some (.ref (ad 0)), some (.ref (ad 157)), some (.ref (ad 165)), some (.int (nI i)), l5, l6, l7, l8] [] (wl D ad M2)) : V D FLaw room_1 (QG (StX sb L xs) Qf) k n 2072 [some (.ref sb), some (.ref (ad 0)), some (.ref (ad 157)), some (.ref (ad 165)), some (.int (nI i)), l5, l6, l7, l8] [] (wl D ad M) := by
  rcases hA with ⟨d2, y, M2, hd2, h1, h2, h3, h4, hQ⟩ | ⟨d2, y, M2, hd2, h1, h2, h3, hQ⟩
  · skip
    refine E_aload1 (q := 2073) dL_law_2072 rfl ?_
    refine E_aload0 (q := 2074) dL_law_2073 rfl ?_
    refine E_iload4 (q := 2076) dL_law_2074 rfl ?_
    refine E_iconst (v := nI 1) (q := 2077) dL_law_2076 (by decide) rfl ?_
    refine E_iaddN (q := 2078) dL_law_2077 rfl ?_
    refine E_sld (q := 2079) (i := i + 1) (by omega) (by omega) dL_law_2078 rfl ?_
    refine E_aload3 (q := 2080) dL_law_2079 rfl ?_
    refine E_callSHR (q := 2083) (ar := [.ref (ad 0), .int (xs (i + 1)), .ref (ad 165)]) (rest := []) lh_whyKept h1 (rm1 (by decide)) (by show k + 1 ≤ 601024; omega) (by show n + 6 ≤ 7293034; omega) (Nat.le_of_ble_eq_true rfl) dL_law_2080 rfl rfl ?_
    rintro v w ⟨hv, hw⟩
    rw [hw]
    subst hv
    refine V_st (st' := [.int (nI 0)]) rfl ?_
    refine E_istore5 (q := 2085) dL_law_2083 rfl rfl ?_
    refine E_aload2 (q := 2086) dL_law_2085 rfl ?_
    refine E_aload0 (q := 2087) dL_law_2086 rfl ?_
    refine E_iload4 (q := 2089) dL_law_2087 rfl ?_
    refine E_iconst (v := nI 1) (q := 2090) dL_law_2089 (by decide) rfl ?_
    refine E_iaddN (q := 2091) dL_law_2090 rfl ?_
    refine E_sld (q := 2092) (i := i + 1) (by omega) (by omega) dL_law_2091 rfl ?_
    refine E_callVR (q := 2095) (ar := [.int (xs (i + 1))]) (rest := []) lk_L_227 h2 rc_X6 (rm1 hd2) (by show k + 1 + 0 ≤ 601024; omega) (by show n + 6 + 0 ≤ 7293034; omega) (Nat.le_of_ble_eq_true rfl) dL_law_2092 rfl rfl ?_
    rintro v w ⟨hv, hw⟩
    rw [hw]
    subst hv
    refine V_st (st' := [.int y]) rfl ?_
    refine E_istore6 (q := 2097) dL_law_2095 rfl rfl ?_
    refine E_aload2 (q := 2098) dL_law_2097 rfl ?_
    refine E_callVR (q := 2101) (ar := []) (rest := []) lk_L_138 (sp_X6_thrown h3) rc_X6 (rm1 (by decide)) (by show k + 1 + 0 + 0 ≤ 601024; omega) (by show n + 6 + 0 + 0 ≤ 7293034; omega) (Nat.le_of_ble_eq_true rfl) dL_law_2098 rfl rfl ?_
    rintro v w ⟨hv, hw⟩
    rw [hw]
    subst hv
    refine V_st (st' := [.int (nI 0)]) rfl ?_
    refine E_iload5 (q := 2103) dL_law_2101 rfl ?_
    refine E_icmp_eq (tgt := 2108) (q := 2106) dL_law_2103 (by decide) rfl (fun _ => ?_) (fun h => absurd rfl h)
    refine E_iload5 (q := 2110) dL_law_2108 rfl ?_
    refine E_if_ne (tgt := 2125) (q := 2113) dL_law_2110 (by decide) rfl (fun h => absurd (by decide) h) (fun _ => ?_)
    refine E_aload3 (q := 2114) dL_law_2113 rfl ?_
    refine E_iconst (v := nI 0) (q := 2115) dL_law_2114 (by decide) rfl ?_
    refine E_lald (q := 2116) sk_165 (by decide) (by decide) dL_law_2115 rfl ?_
    refine E_iload6 (q := 2118) dL_law_2116 rfl ?_
    refine E_i2l (q := 2119) dL_law_2118 rfl ?_
    refine E_lcmp (q := 2120) dL_law_2119 rfl ?_
    refine E_if_eq (tgt := 2125) (q := 2123) dL_law_2120 (by decide) rfl (fun _ => ?_) (fun h => absurd (out_cmp h4) h)
    refine E_goto (q := 2807) dL_law_2125 (by decide) ?_
    exact V_widen (k' := k + 4) (n' := n + 532) (by omega) (by omega) (by show k + 4 ≤ 601024; omega) (by show n + 532 ≤ 7293034; omega) (kk M2 _ _ _ _ hQ)
  · skip
    refine E_aload1 (q := 2073) dL_law_2072 rfl ?_
    refine E_aload0 (q := 2074) dL_law_2073 rfl ?_
    refine E_iload4 (q := 2076) dL_law_2074 rfl ?_
    refine E_iconst (v := nI 1) (q := 2077) dL_law_2076 (by decide) rfl ?_
    refine E_iaddN (q := 2078) dL_law_2077 rfl ?_
    refine E_sld (q := 2079) (i := i + 1) (by omega) (by omega) dL_law_2078 rfl ?_
    refine E_aload3 (q := 2080) dL_law_2079 rfl ?_
    refine E_callSHR (q := 2083) (ar := [.ref (ad 0), .int (xs (i + 1)), .ref (ad 165)]) (rest := []) lh_whyKept h1 (rm1 (by decide)) (by show k + 1 ≤ 601024; omega) (by show n + 6 ≤ 7293034; omega) (Nat.le_of_ble_eq_true rfl) dL_law_2080 rfl rfl ?_
    rintro v w ⟨hv, hw⟩
    rw [hw]
    subst hv
    refine V_st (st' := [.int (nI 1)]) rfl ?_
    refine E_istore5 (q := 2085) dL_law_2083 rfl rfl ?_
    refine E_aload2 (q := 2086) dL_law_2085 rfl ?_
    refine E_aload0 (q := 2087) dL_law_2086 rfl ?_
    refine E_iload4 (q := 2089) dL_law_2087 rfl ?_
    refine E_iconst (v := nI 1) (q := 2090) dL_law_2089 (by decide) rfl ?_
    refine E_iaddN (q := 2091) dL_law_2090 rfl ?_
    refine E_sld (q := 2092) (i := i + 1) (by omega) (by omega) dL_law_2091 rfl ?_
    refine E_callVR (q := 2095) (ar := [.int (xs (i + 1))]) (rest := []) lk_L_227 h2 rc_X6 (rm1 hd2) (by show k + 1 + 0 ≤ 601024; omega) (by show n + 6 + 0 ≤ 7293034; omega) (Nat.le_of_ble_eq_true rfl) dL_law_2092 rfl rfl ?_
    rintro v w ⟨hv, hw⟩
    rw [hw]
    subst hv
    refine V_st (st' := [.int y]) rfl ?_
    refine E_istore6 (q := 2097) dL_law_2095 rfl rfl ?_
    refine E_aload2 (q := 2098) dL_law_2097 rfl ?_
    refine E_callVR (q := 2101) (ar := []) (rest := []) lk_L_138 (sp_X6_thrown h3) rc_X6 (rm1 (by decide)) (by show k + 1 + 0 + 0 ≤ 601024; omega) (by show n + 6 + 0 + 0 ≤ 7293034; omega) (Nat.le_of_ble_eq_true rfl) dL_law_2098 rfl rfl ?_
    rintro v w ⟨hv, hw⟩
    rw [hw]
    subst hv
    refine V_st (st' := [.int (nI 1)]) rfl ?_
    refine E_iload5 (q := 2103) dL_law_2101 rfl ?_
    refine E_icmp_eq (tgt := 2108) (q := 2106) dL_law_2103 (by decide) rfl (fun _ => ?_) (fun h => absurd rfl h)
    refine E_iload5 (q := 2110) dL_law_2108 rfl ?_
    refine E_if_ne (tgt := 2125) (q := 2113) dL_law_2110 (by decide) rfl (fun _ => ?_) (fun h => absurd h (by decide))
    refine E_goto (q := 2807) dL_law_2125 (by decide) ?_
    exact V_widen (k' := k + 4) (n' := n + 532) (by omega) (by omega) (by show k + 4 ≤ 601024; omega) (by show n + 532 ≤ 7293034; omega) (kk M2 _ _ _ _ hQ)
theorem lw_fewestToFree (hi : i + 6 ≤ L) (hL : L ≤ 3072) (hk : k ≤ 600000) (hn : n ≤ 7000000) (hA : Ans D ad M yX5_fewestToFree cfX5_fewestToFree yX6_fewestToFree cfX6_fewestToFree [.int (xs (i + 1))] Q) (kk : ∀ M2 l5 l6 l7 l8, Q M2 → V D FLaw room_1 (QG (StX sb L xs) Qf) (k + 4) (n + 532) 2807 [some (.ref sb), some (.ref (ad 0)), some (.ref (ad 157)), some (.ref (ad 165)), some (.int (nI i)), l5, l6, l7, l8] [] (wl D ad M2)) : V D FLaw room_1 (QG (StX sb L xs) Qf) k n 2128 [some (.ref sb), some (.ref (ad 0)), some (.ref (ad 157)), some (.ref (ad 165)), some (.int (nI i)), l5, l6, l7, l8] [] (wl D ad M) := by
  obtain ⟨d1, d2, P, hd1, hd2, h1, h2⟩ := hA
  refine E_aload1 (q := 2129) dL_law_2128 rfl ?_
  refine E_aload0 (q := 2130) dL_law_2129 rfl ?_
  refine E_iload4 (q := 2132) dL_law_2130 rfl ?_
  refine E_iconst (v := nI 1) (q := 2133) dL_law_2132 (by decide) rfl ?_
  refine E_iaddN (q := 2134) dL_law_2133 rfl ?_
  refine E_sld (q := 2135) (i := i + 1) (by omega) (by omega) dL_law_2134 rfl ?_
  refine E_callVR (q := 2138) (ar := [.int (xs (i + 1))]) (rest := []) lk_L_228 h1 rc_X5 (rm1 hd1) (by show k + 0 ≤ 601024; omega) (by show n + 0 ≤ 7293034; omega) (Nat.le_of_ble_eq_true rfl) dL_law_2135 rfl rfl ?_
  rintro v w ⟨y, hv, M1, hw, hP⟩
  rw [hw]
  subst hv
  refine V_st (st' := [.int y]) rfl ?_
  refine E_aload2 (q := 2139) dL_law_2138 rfl ?_
  refine E_aload0 (q := 2140) dL_law_2139 rfl ?_
  refine E_iload4 (q := 2142) dL_law_2140 rfl ?_
  refine E_iconst (v := nI 1) (q := 2143) dL_law_2142 (by decide) rfl ?_
  refine E_iaddN (q := 2144) dL_law_2143 rfl ?_
  refine E_sld (q := 2145) (i := i + 1) (by omega) (by omega) dL_law_2144 rfl ?_
  refine E_callVR (q := 2148) (ar := [.int (xs (i + 1))]) (rest := [.int y]) lk_L_231 (h2 y M1 hP) rc_X6 (rm1 hd2) (by show k + 0 + 0 ≤ 601024; omega) (by show n + 0 + 0 ≤ 7293034; omega) (Nat.le_of_ble_eq_true rfl) dL_law_2145 rfl rfl ?_
  rintro v w ⟨z, hv, hz, M2, hw, hQ⟩
  rw [hw]
  subst hv
  subst hz
  refine V_st (st' := [.int z, .int z]) rfl ?_
  refine E_icmp_eq (tgt := 2807) (q := 2151) dL_law_2148 (by decide) rfl (fun _ => ?_) (fun h => absurd rfl h)
  exact V_widen (k' := k + 4) (n' := n + 532) (by omega) (by omega) (by show k + 4 ≤ 601024; omega) (by show n + 532 ≤ 7293034; omega) (kk M2 _ _ _ _ hQ)
theorem lw_mostExclusive (hi : i + 6 ≤ L) (hL : L ≤ 3072) (hk : k ≤ 600000) (hn : n ≤ 7000000) (hA : Ans D ad M yX5_mostExclusive cfX5_mostExclusive yX6_mostExclusive cfX6_mostExclusive [] Q) (kk : ∀ M2 l5 l6 l7 l8, Q M2 → V D FLaw room_1 (QG (StX sb L xs) Qf) (k + 4) (n + 532) 2807 [some (.ref sb), some (.ref (ad 0)), some (.ref (ad 157)), some (.ref (ad 165)), some (.int (nI i)), l5, l6, l7, l8] [] (wl D ad M2)) : V D FLaw room_1 (QG (StX sb L xs) Qf) k n 2153 [some (.ref sb), some (.ref (ad 0)), some (.ref (ad 157)), some (.ref (ad 165)), some (.int (nI i)), l5, l6, l7, l8] [] (wl D ad M) := by
  obtain ⟨d1, d2, P, hd1, hd2, h1, h2⟩ := hA
  refine E_aload1 (q := 2154) dL_law_2153 rfl ?_
  refine E_callVR (q := 2157) (ar := []) (rest := []) lk_L_232 h1 rc_X5 (rm1 hd1) (by show k + 0 ≤ 601024; omega) (by show n + 0 ≤ 7293034; omega) (Nat.le_of_ble_eq_true rfl) dL_law_2154 rfl rfl ?_
  rintro v w ⟨y, hv, M1, hw, hP⟩
  rw [hw]
  subst hv
  refine V_st (st' := [.int y]) rfl ?_
  refine E_aload2 (q := 2158) dL_law_2157 rfl ?_
  refine E_callVR (q := 2161) (ar := []) (rest := [.int y]) lk_L_235 (h2 y M1 hP) rc_X6 (rm1 hd2) (by show k + 0 + 0 ≤ 601024; omega) (by show n + 0 + 0 ≤ 7293034; omega) (Nat.le_of_ble_eq_true rfl) dL_law_2158 rfl rfl ?_
  rintro v w ⟨z, hv, hz, M2, hw, hQ⟩
  rw [hw]
  subst hv
  subst hz
  refine V_st (st' := [.int z, .int z]) rfl ?_
  refine E_icmp_eq (tgt := 2807) (q := 2164) dL_law_2161 (by decide) rfl (fun _ => ?_) (fun h => absurd rfl h)
  exact V_widen (k' := k + 4) (n' := n + 532) (by omega) (by omega) (by show k + 4 ≤ 601024; omega) (by show n + 532 ≤ 7293034; omega) (kk M2 _ _ _ _ hQ)
theorem lw_wouldMove (hi : i + 6 ≤ L) (hL : L ≤ 3072) (hk : k ≤ 600000) (hn : n ≤ 7000000) (hA : AnsT D ad M yL_wouldMove cfL_wouldMove [(0, 9, 12, 13)] yX6_wouldMove cfX6_wouldMove [.ref (ad 0), .int (xs (i + 1)), .ref (ad 165)] [.int (xs (i + 1))] Q) (kk : ∀ M2 l5 l6 l7 l8, Q M2 → V D FLaw room_1 (QG (StX sb L xs) Qf) (k + 4) (n + 532) 2807 [some (.ref sb), some (.ref (ad 0)), some (.ref (ad 157)), some (.ref (ad 165)), some (.int (nI i)), l5, l6, l7, l8] [] (wl D ad M2)) : V D FLaw room_1 (QG (StX sb L xs) Qf) k n 2166 [some (.ref sb), some (.ref (ad 0)), some (.ref (ad 157)), some (.ref (ad 165)), some (.int (nI i)), l5, l6, l7, l8] [] (wl D ad M) := by
  rcases hA with ⟨d2, y, M2, hd2, h1, h2, h3, h4, hQ⟩ | ⟨d2, y, M2, hd2, h1, h2, h3, hQ⟩
  · skip
    refine E_aload1 (q := 2167) dL_law_2166 rfl ?_
    refine E_aload0 (q := 2168) dL_law_2167 rfl ?_
    refine E_iload4 (q := 2170) dL_law_2168 rfl ?_
    refine E_iconst (v := nI 1) (q := 2171) dL_law_2170 (by decide) rfl ?_
    refine E_iaddN (q := 2172) dL_law_2171 rfl ?_
    refine E_sld (q := 2173) (i := i + 1) (by omega) (by omega) dL_law_2172 rfl ?_
    refine E_aload3 (q := 2174) dL_law_2173 rfl ?_
    refine E_callSHR (q := 2177) (ar := [.ref (ad 0), .int (xs (i + 1)), .ref (ad 165)]) (rest := []) lh_wouldMove h1 (rm1 (by decide)) (by show k + 1 ≤ 601024; omega) (by show n + 6 ≤ 7293034; omega) (Nat.le_of_ble_eq_true rfl) dL_law_2174 rfl rfl ?_
    rintro v w ⟨hv, hw⟩
    rw [hw]
    subst hv
    refine V_st (st' := [.int (nI 0)]) rfl ?_
    refine E_istore5 (q := 2179) dL_law_2177 rfl rfl ?_
    refine E_aload2 (q := 2180) dL_law_2179 rfl ?_
    refine E_aload0 (q := 2181) dL_law_2180 rfl ?_
    refine E_iload4 (q := 2183) dL_law_2181 rfl ?_
    refine E_iconst (v := nI 1) (q := 2184) dL_law_2183 (by decide) rfl ?_
    refine E_iaddN (q := 2185) dL_law_2184 rfl ?_
    refine E_sld (q := 2186) (i := i + 1) (by omega) (by omega) dL_law_2185 rfl ?_
    refine E_callVR (q := 2189) (ar := [.int (xs (i + 1))]) (rest := []) lk_L_238 h2 rc_X6 (rm1 hd2) (by show k + 1 + 0 ≤ 601024; omega) (by show n + 6 + 0 ≤ 7293034; omega) (Nat.le_of_ble_eq_true rfl) dL_law_2186 rfl rfl ?_
    rintro v w ⟨hv, hw⟩
    rw [hw]
    subst hv
    refine V_st (st' := [.int y]) rfl ?_
    refine E_istore6 (q := 2191) dL_law_2189 rfl rfl ?_
    refine E_aload2 (q := 2192) dL_law_2191 rfl ?_
    refine E_callVR (q := 2195) (ar := []) (rest := []) lk_L_138 (sp_X6_thrown h3) rc_X6 (rm1 (by decide)) (by show k + 1 + 0 + 0 ≤ 601024; omega) (by show n + 6 + 0 + 0 ≤ 7293034; omega) (Nat.le_of_ble_eq_true rfl) dL_law_2192 rfl rfl ?_
    rintro v w ⟨hv, hw⟩
    rw [hw]
    subst hv
    refine V_st (st' := [.int (nI 0)]) rfl ?_
    refine E_iload5 (q := 2197) dL_law_2195 rfl ?_
    refine E_icmp_eq (tgt := 2202) (q := 2200) dL_law_2197 (by decide) rfl (fun _ => ?_) (fun h => absurd rfl h)
    refine E_iload5 (q := 2204) dL_law_2202 rfl ?_
    refine E_if_ne (tgt := 2219) (q := 2207) dL_law_2204 (by decide) rfl (fun h => absurd (by decide) h) (fun _ => ?_)
    refine E_aload3 (q := 2208) dL_law_2207 rfl ?_
    refine E_iconst (v := nI 0) (q := 2209) dL_law_2208 (by decide) rfl ?_
    refine E_lald (q := 2210) sk_165 (by decide) (by decide) dL_law_2209 rfl ?_
    refine E_iload6 (q := 2212) dL_law_2210 rfl ?_
    refine E_i2l (q := 2213) dL_law_2212 rfl ?_
    refine E_lcmp (q := 2214) dL_law_2213 rfl ?_
    refine E_if_eq (tgt := 2219) (q := 2217) dL_law_2214 (by decide) rfl (fun _ => ?_) (fun h => absurd (out_cmp h4) h)
    refine E_goto (q := 2807) dL_law_2219 (by decide) ?_
    exact V_widen (k' := k + 4) (n' := n + 532) (by omega) (by omega) (by show k + 4 ≤ 601024; omega) (by show n + 532 ≤ 7293034; omega) (kk M2 _ _ _ _ hQ)
  · skip
    refine E_aload1 (q := 2167) dL_law_2166 rfl ?_
    refine E_aload0 (q := 2168) dL_law_2167 rfl ?_
    refine E_iload4 (q := 2170) dL_law_2168 rfl ?_
    refine E_iconst (v := nI 1) (q := 2171) dL_law_2170 (by decide) rfl ?_
    refine E_iaddN (q := 2172) dL_law_2171 rfl ?_
    refine E_sld (q := 2173) (i := i + 1) (by omega) (by omega) dL_law_2172 rfl ?_
    refine E_aload3 (q := 2174) dL_law_2173 rfl ?_
    refine E_callSHR (q := 2177) (ar := [.ref (ad 0), .int (xs (i + 1)), .ref (ad 165)]) (rest := []) lh_wouldMove h1 (rm1 (by decide)) (by show k + 1 ≤ 601024; omega) (by show n + 6 ≤ 7293034; omega) (Nat.le_of_ble_eq_true rfl) dL_law_2174 rfl rfl ?_
    rintro v w ⟨hv, hw⟩
    rw [hw]
    subst hv
    refine V_st (st' := [.int (nI 1)]) rfl ?_
    refine E_istore5 (q := 2179) dL_law_2177 rfl rfl ?_
    refine E_aload2 (q := 2180) dL_law_2179 rfl ?_
    refine E_aload0 (q := 2181) dL_law_2180 rfl ?_
    refine E_iload4 (q := 2183) dL_law_2181 rfl ?_
    refine E_iconst (v := nI 1) (q := 2184) dL_law_2183 (by decide) rfl ?_
    refine E_iaddN (q := 2185) dL_law_2184 rfl ?_
    refine E_sld (q := 2186) (i := i + 1) (by omega) (by omega) dL_law_2185 rfl ?_
    refine E_callVR (q := 2189) (ar := [.int (xs (i + 1))]) (rest := []) lk_L_238 h2 rc_X6 (rm1 hd2) (by show k + 1 + 0 ≤ 601024; omega) (by show n + 6 + 0 ≤ 7293034; omega) (Nat.le_of_ble_eq_true rfl) dL_law_2186 rfl rfl ?_
    rintro v w ⟨hv, hw⟩
    rw [hw]
    subst hv
    refine V_st (st' := [.int y]) rfl ?_
    refine E_istore6 (q := 2191) dL_law_2189 rfl rfl ?_
    refine E_aload2 (q := 2192) dL_law_2191 rfl ?_
    refine E_callVR (q := 2195) (ar := []) (rest := []) lk_L_138 (sp_X6_thrown h3) rc_X6 (rm1 (by decide)) (by show k + 1 + 0 + 0 ≤ 601024; omega) (by show n + 6 + 0 + 0 ≤ 7293034; omega) (Nat.le_of_ble_eq_true rfl) dL_law_2192 rfl rfl ?_
    rintro v w ⟨hv, hw⟩
    rw [hw]
    subst hv
    refine V_st (st' := [.int (nI 1)]) rfl ?_
    refine E_iload5 (q := 2197) dL_law_2195 rfl ?_
    refine E_icmp_eq (tgt := 2202) (q := 2200) dL_law_2197 (by decide) rfl (fun _ => ?_) (fun h => absurd rfl h)
    refine E_iload5 (q := 2204) dL_law_2202 rfl ?_
    refine E_if_ne (tgt := 2219) (q := 2207) dL_law_2204 (by decide) rfl (fun _ => ?_) (fun h => absurd h (by decide))
    refine E_goto (q := 2807) dL_law_2219 (by decide) ?_
    exact V_widen (k' := k + 4) (n' := n + 532) (by omega) (by omega) (by show k + 4 ≤ 601024; omega) (by show n + 532 ≤ 7293034; omega) (kk M2 _ _ _ _ hQ)
theorem lw_wouldWrite (hi : i + 6 ≤ L) (hL : L ≤ 3072) (hk : k ≤ 600000) (hn : n ≤ 7000000) (hA : Ans D ad M yX5_wouldWrite cfX5_wouldWrite yX6_wouldWrite cfX6_wouldWrite [.int (xs (i + 1)), .int (xs (i + 2)), .int (xs (i + 3))] Q) (kk : ∀ M2 l5 l6 l7 l8, Q M2 → V D FLaw room_1 (QG (StX sb L xs) Qf) (k + 4) (n + 532) 2807 [some (.ref sb), some (.ref (ad 0)), some (.ref (ad 157)), some (.ref (ad 165)), some (.int (nI i)), l5, l6, l7, l8] [] (wl D ad M2)) : V D FLaw room_1 (QG (StX sb L xs) Qf) k n 2222 [some (.ref sb), some (.ref (ad 0)), some (.ref (ad 157)), some (.ref (ad 165)), some (.int (nI i)), l5, l6, l7, l8] [] (wl D ad M) := by
  obtain ⟨d1, d2, P, hd1, hd2, h1, h2⟩ := hA
  refine E_aload1 (q := 2223) dL_law_2222 rfl ?_
  refine E_aload0 (q := 2224) dL_law_2223 rfl ?_
  refine E_iload4 (q := 2226) dL_law_2224 rfl ?_
  refine E_iconst (v := nI 1) (q := 2227) dL_law_2226 (by decide) rfl ?_
  refine E_iaddN (q := 2228) dL_law_2227 rfl ?_
  refine E_sld (q := 2229) (i := i + 1) (by omega) (by omega) dL_law_2228 rfl ?_
  refine E_aload0 (q := 2230) dL_law_2229 rfl ?_
  refine E_iload4 (q := 2232) dL_law_2230 rfl ?_
  refine E_iconst (v := nI 2) (q := 2233) dL_law_2232 (by decide) rfl ?_
  refine E_iaddN (q := 2234) dL_law_2233 rfl ?_
  refine E_sld (q := 2235) (i := i + 2) (by omega) (by omega) dL_law_2234 rfl ?_
  refine E_aload0 (q := 2236) dL_law_2235 rfl ?_
  refine E_iload4 (q := 2238) dL_law_2236 rfl ?_
  refine E_iconst (v := nI 3) (q := 2239) dL_law_2238 (by decide) rfl ?_
  refine E_iaddN (q := 2240) dL_law_2239 rfl ?_
  refine E_sld (q := 2241) (i := i + 3) (by omega) (by omega) dL_law_2240 rfl ?_
  refine E_callVR (q := 2244) (ar := [.int (xs (i + 1)), .int (xs (i + 2)), .int (xs (i + 3))]) (rest := []) lk_L_239 h1 rc_X5 (rm1 hd1) (by show k + 0 ≤ 601024; omega) (by show n + 0 ≤ 7293034; omega) (Nat.le_of_ble_eq_true rfl) dL_law_2241 rfl rfl ?_
  rintro v w ⟨y, hv, M1, hw, hP⟩
  rw [hw]
  subst hv
  refine V_st (st' := [.int y]) rfl ?_
  refine E_aload2 (q := 2245) dL_law_2244 rfl ?_
  refine E_aload0 (q := 2246) dL_law_2245 rfl ?_
  refine E_iload4 (q := 2248) dL_law_2246 rfl ?_
  refine E_iconst (v := nI 1) (q := 2249) dL_law_2248 (by decide) rfl ?_
  refine E_iaddN (q := 2250) dL_law_2249 rfl ?_
  refine E_sld (q := 2251) (i := i + 1) (by omega) (by omega) dL_law_2250 rfl ?_
  refine E_aload0 (q := 2252) dL_law_2251 rfl ?_
  refine E_iload4 (q := 2254) dL_law_2252 rfl ?_
  refine E_iconst (v := nI 2) (q := 2255) dL_law_2254 (by decide) rfl ?_
  refine E_iaddN (q := 2256) dL_law_2255 rfl ?_
  refine E_sld (q := 2257) (i := i + 2) (by omega) (by omega) dL_law_2256 rfl ?_
  refine E_aload0 (q := 2258) dL_law_2257 rfl ?_
  refine E_iload4 (q := 2260) dL_law_2258 rfl ?_
  refine E_iconst (v := nI 3) (q := 2261) dL_law_2260 (by decide) rfl ?_
  refine E_iaddN (q := 2262) dL_law_2261 rfl ?_
  refine E_sld (q := 2263) (i := i + 3) (by omega) (by omega) dL_law_2262 rfl ?_
  refine E_callVR (q := 2266) (ar := [.int (xs (i + 1)), .int (xs (i + 2)), .int (xs (i + 3))]) (rest := [.int y]) lk_L_243 (h2 y M1 hP) rc_X6 (rm1 hd2) (by show k + 0 + 0 ≤ 601024; omega) (by show n + 0 + 0 ≤ 7293034; omega) (Nat.le_of_ble_eq_true rfl) dL_law_2263 rfl rfl ?_
  rintro v w ⟨z, hv, hz, M2, hw, hQ⟩
  rw [hw]
  subst hv
  subst hz
  refine V_st (st' := [.int z, .int z]) rfl ?_
  refine E_icmp_eq (tgt := 2807) (q := 2269) dL_law_2266 (by decide) rfl (fun _ => ?_) (fun h => absurd rfl h)
  exact V_widen (k' := k + 4) (n' := n + 532) (by omega) (by omega) (by show k + 4 ≤ 601024; omega) (by show n + 532 ≤ 7293034; omega) (kk M2 _ _ _ _ hQ)
theorem lw_newVolume (hi : i + 6 ≤ L) (hL : L ≤ 3072) (hk : k ≤ 600000) (hn : n ≤ 7000000) (hA : Ans D ad M yX5_newVolume cfX5_newVolume yX6_newVolume cfX6_newVolume [] Q) (kk : ∀ M2 l5 l6 l7 l8, Q M2 → V D FLaw room_1 (QG (StX sb L xs) Qf) (k + 4) (n + 532) 2807 [some (.ref sb), some (.ref (ad 0)), some (.ref (ad 157)), some (.ref (ad 165)), some (.int (nI i)), l5, l6, l7, l8] [] (wl D ad M2)) : V D FLaw room_1 (QG (StX sb L xs) Qf) k n 2312 [some (.ref sb), some (.ref (ad 0)), some (.ref (ad 157)), some (.ref (ad 165)), some (.int (nI i)), l5, l6, l7, l8] [] (wl D ad M) := by
  obtain ⟨d1, d2, P, hd1, hd2, h1, h2⟩ := hA
  refine E_aload1 (q := 2313) dL_law_2312 rfl ?_
  refine E_callVR (q := 2316) (ar := []) (rest := []) lk_L_249 h1 rc_X5 (rm1 hd1) (by show k + 0 ≤ 601024; omega) (by show n + 0 ≤ 7293034; omega) (Nat.le_of_ble_eq_true rfl) dL_law_2313 rfl rfl ?_
  rintro v w ⟨y, hv, M1, hw, hP⟩
  rw [hw]
  subst hv
  refine V_st (st' := [.int y]) rfl ?_
  refine E_aload2 (q := 2317) dL_law_2316 rfl ?_
  refine E_callVR (q := 2320) (ar := []) (rest := [.int y]) lk_L_252 (h2 y M1 hP) rc_X6 (rm1 hd2) (by show k + 0 + 0 ≤ 601024; omega) (by show n + 0 + 0 ≤ 7293034; omega) (Nat.le_of_ble_eq_true rfl) dL_law_2317 rfl rfl ?_
  rintro v w ⟨z, hv, hz, M2, hw, hQ⟩
  rw [hw]
  subst hv
  subst hz
  refine V_st (st' := [.int z, .int z]) rfl ?_
  refine E_icmp_eq (tgt := 2807) (q := 2323) dL_law_2320 (by decide) rfl (fun _ => ?_) (fun h => absurd rfl h)
  exact V_widen (k' := k + 4) (n' := n + 532) (by omega) (by omega) (by show k + 4 ≤ 601024; omega) (by show n + 532 ≤ 7293034; omega) (kk M2 _ _ _ _ hQ)
theorem lw_write (hi : i + 6 ≤ L) (hL : L ≤ 3072) (hk : k ≤ 600000) (hn : n ≤ 7000000) (hA : Ans D ad M yX5_write cfX5_write yX6_write cfX6_write [.int (xs (i + 1)), .int (xs (i + 2)), .int (xs (i + 3))] Q) (kk : ∀ M2 l5 l6 l7 l8, Q M2 → V D FLaw room_1 (QG (StX sb L xs) Qf) (k + 4) (n + 532) 2807 [some (.ref sb), some (.ref (ad 0)), some (.ref (ad 157)), some (.ref (ad 165)), some (.int (nI i)), l5, l6, l7, l8] [] (wl D ad M2)) : V D FLaw room_1 (QG (StX sb L xs) Qf) k n 2325 [some (.ref sb), some (.ref (ad 0)), some (.ref (ad 157)), some (.ref (ad 165)), some (.int (nI i)), l5, l6, l7, l8] [] (wl D ad M) := by
  obtain ⟨d1, d2, P, hd1, hd2, h1, h2⟩ := hA
  refine E_aload1 (q := 2326) dL_law_2325 rfl ?_
  refine E_aload0 (q := 2327) dL_law_2326 rfl ?_
  refine E_iload4 (q := 2329) dL_law_2327 rfl ?_
  refine E_iconst (v := nI 1) (q := 2330) dL_law_2329 (by decide) rfl ?_
  refine E_iaddN (q := 2331) dL_law_2330 rfl ?_
  refine E_sld (q := 2332) (i := i + 1) (by omega) (by omega) dL_law_2331 rfl ?_
  refine E_aload0 (q := 2333) dL_law_2332 rfl ?_
  refine E_iload4 (q := 2335) dL_law_2333 rfl ?_
  refine E_iconst (v := nI 2) (q := 2336) dL_law_2335 (by decide) rfl ?_
  refine E_iaddN (q := 2337) dL_law_2336 rfl ?_
  refine E_sld (q := 2338) (i := i + 2) (by omega) (by omega) dL_law_2337 rfl ?_
  refine E_aload0 (q := 2339) dL_law_2338 rfl ?_
  refine E_iload4 (q := 2341) dL_law_2339 rfl ?_
  refine E_iconst (v := nI 3) (q := 2342) dL_law_2341 (by decide) rfl ?_
  refine E_iaddN (q := 2343) dL_law_2342 rfl ?_
  refine E_sld (q := 2344) (i := i + 3) (by omega) (by omega) dL_law_2343 rfl ?_
  refine E_callVR (q := 2347) (ar := [.int (xs (i + 1)), .int (xs (i + 2)), .int (xs (i + 3))]) (rest := []) lk_L_253 h1 rc_X5 (rm1 hd1) (by show k + 0 ≤ 601024; omega) (by show n + 0 ≤ 7293034; omega) (Nat.le_of_ble_eq_true rfl) dL_law_2344 rfl rfl ?_
  rintro v w ⟨y, hv, M1, hw, hP⟩
  rw [hw]
  subst hv
  refine V_st (st' := [.int y]) rfl ?_
  refine E_aload2 (q := 2348) dL_law_2347 rfl ?_
  refine E_aload0 (q := 2349) dL_law_2348 rfl ?_
  refine E_iload4 (q := 2351) dL_law_2349 rfl ?_
  refine E_iconst (v := nI 1) (q := 2352) dL_law_2351 (by decide) rfl ?_
  refine E_iaddN (q := 2353) dL_law_2352 rfl ?_
  refine E_sld (q := 2354) (i := i + 1) (by omega) (by omega) dL_law_2353 rfl ?_
  refine E_aload0 (q := 2355) dL_law_2354 rfl ?_
  refine E_iload4 (q := 2357) dL_law_2355 rfl ?_
  refine E_iconst (v := nI 2) (q := 2358) dL_law_2357 (by decide) rfl ?_
  refine E_iaddN (q := 2359) dL_law_2358 rfl ?_
  refine E_sld (q := 2360) (i := i + 2) (by omega) (by omega) dL_law_2359 rfl ?_
  refine E_aload0 (q := 2361) dL_law_2360 rfl ?_
  refine E_iload4 (q := 2363) dL_law_2361 rfl ?_
  refine E_iconst (v := nI 3) (q := 2364) dL_law_2363 (by decide) rfl ?_
  refine E_iaddN (q := 2365) dL_law_2364 rfl ?_
  refine E_sld (q := 2366) (i := i + 3) (by omega) (by omega) dL_law_2365 rfl ?_
  refine E_callVR (q := 2369) (ar := [.int (xs (i + 1)), .int (xs (i + 2)), .int (xs (i + 3))]) (rest := [.int y]) lk_L_256 (h2 y M1 hP) rc_X6 (rm1 hd2) (by show k + 0 + 0 ≤ 601024; omega) (by show n + 0 + 0 ≤ 7293034; omega) (Nat.le_of_ble_eq_true rfl) dL_law_2366 rfl rfl ?_
  rintro v w ⟨z, hv, hz, M2, hw, hQ⟩
  rw [hw]
  subst hv
  subst hz
  refine V_st (st' := [.int z, .int z]) rfl ?_
  refine E_icmp_eq (tgt := 2807) (q := 2372) dL_law_2369 (by decide) rfl (fun _ => ?_) (fun h => absurd rfl h)
  exact V_widen (k' := k + 4) (n' := n + 532) (by omega) (by omega) (by show k + 4 ≤ 601024; omega) (by show n + 532 ≤ 7293034; omega) (kk M2 _ _ _ _ hQ)
theorem lw_trim (hi : i + 6 ≤ L) (hL : L ≤ 3072) (hk : k ≤ 600000) (hn : n ≤ 7000000) (hA : Ans D ad M yX5_trim cfX5_trim yX6_trim cfX6_trim [.int (xs (i + 1)), .int (xs (i + 2))] Q) (kk : ∀ M2 l5 l6 l7 l8, Q M2 → V D FLaw room_1 (QG (StX sb L xs) Qf) (k + 4) (n + 532) 2807 [some (.ref sb), some (.ref (ad 0)), some (.ref (ad 157)), some (.ref (ad 165)), some (.int (nI i)), l5, l6, l7, l8] [] (wl D ad M2)) : V D FLaw room_1 (QG (StX sb L xs) Qf) k n 2374 [some (.ref sb), some (.ref (ad 0)), some (.ref (ad 157)), some (.ref (ad 165)), some (.int (nI i)), l5, l6, l7, l8] [] (wl D ad M) := by
  obtain ⟨d1, d2, P, hd1, hd2, h1, h2⟩ := hA
  refine E_aload1 (q := 2375) dL_law_2374 rfl ?_
  refine E_aload0 (q := 2376) dL_law_2375 rfl ?_
  refine E_iload4 (q := 2378) dL_law_2376 rfl ?_
  refine E_iconst (v := nI 1) (q := 2379) dL_law_2378 (by decide) rfl ?_
  refine E_iaddN (q := 2380) dL_law_2379 rfl ?_
  refine E_sld (q := 2381) (i := i + 1) (by omega) (by omega) dL_law_2380 rfl ?_
  refine E_aload0 (q := 2382) dL_law_2381 rfl ?_
  refine E_iload4 (q := 2384) dL_law_2382 rfl ?_
  refine E_iconst (v := nI 2) (q := 2385) dL_law_2384 (by decide) rfl ?_
  refine E_iaddN (q := 2386) dL_law_2385 rfl ?_
  refine E_sld (q := 2387) (i := i + 2) (by omega) (by omega) dL_law_2386 rfl ?_
  refine E_callVR (q := 2390) (ar := [.int (xs (i + 1)), .int (xs (i + 2))]) (rest := []) lk_L_257 h1 rc_X5 (rm1 hd1) (by show k + 0 ≤ 601024; omega) (by show n + 0 ≤ 7293034; omega) (Nat.le_of_ble_eq_true rfl) dL_law_2387 rfl rfl ?_
  rintro v w ⟨y, hv, M1, hw, hP⟩
  rw [hw]
  subst hv
  refine V_st (st' := [.int y]) rfl ?_
  refine E_aload2 (q := 2391) dL_law_2390 rfl ?_
  refine E_aload0 (q := 2392) dL_law_2391 rfl ?_
  refine E_iload4 (q := 2394) dL_law_2392 rfl ?_
  refine E_iconst (v := nI 1) (q := 2395) dL_law_2394 (by decide) rfl ?_
  refine E_iaddN (q := 2396) dL_law_2395 rfl ?_
  refine E_sld (q := 2397) (i := i + 1) (by omega) (by omega) dL_law_2396 rfl ?_
  refine E_aload0 (q := 2398) dL_law_2397 rfl ?_
  refine E_iload4 (q := 2400) dL_law_2398 rfl ?_
  refine E_iconst (v := nI 2) (q := 2401) dL_law_2400 (by decide) rfl ?_
  refine E_iaddN (q := 2402) dL_law_2401 rfl ?_
  refine E_sld (q := 2403) (i := i + 2) (by omega) (by omega) dL_law_2402 rfl ?_
  refine E_callVR (q := 2406) (ar := [.int (xs (i + 1)), .int (xs (i + 2))]) (rest := [.int y]) lk_L_260 (h2 y M1 hP) rc_X6 (rm1 hd2) (by show k + 0 + 0 ≤ 601024; omega) (by show n + 0 + 0 ≤ 7293034; omega) (Nat.le_of_ble_eq_true rfl) dL_law_2403 rfl rfl ?_
  rintro v w ⟨z, hv, hz, M2, hw, hQ⟩
  rw [hw]
  subst hv
  subst hz
  refine V_st (st' := [.int z, .int z]) rfl ?_
  refine E_icmp_eq (tgt := 2807) (q := 2409) dL_law_2406 (by decide) rfl (fun _ => ?_) (fun h => absurd rfl h)
  exact V_widen (k' := k + 4) (n' := n + 532) (by omega) (by omega) (by show k + 4 ≤ 601024; omega) (by show n + 532 ≤ 7293034; omega) (kk M2 _ _ _ _ hQ)
theorem lw_take (hi : i + 6 ≤ L) (hL : L ≤ 3072) (hk : k ≤ 600000) (hn : n ≤ 7000000) (hA : Ans D ad M yX5_take cfX5_take yX6_take cfX6_take [.int (xs (i + 1))] Q) (kk : ∀ M2 l5 l6 l7 l8, Q M2 → V D FLaw room_1 (QG (StX sb L xs) Qf) (k + 4) (n + 532) 2807 [some (.ref sb), some (.ref (ad 0)), some (.ref (ad 157)), some (.ref (ad 165)), some (.int (nI i)), l5, l6, l7, l8] [] (wl D ad M2)) : V D FLaw room_1 (QG (StX sb L xs) Qf) k n 2411 [some (.ref sb), some (.ref (ad 0)), some (.ref (ad 157)), some (.ref (ad 165)), some (.int (nI i)), l5, l6, l7, l8] [] (wl D ad M) := by
  obtain ⟨d1, d2, P, hd1, hd2, h1, h2⟩ := hA
  refine E_aload1 (q := 2412) dL_law_2411 rfl ?_
  refine E_aload0 (q := 2413) dL_law_2412 rfl ?_
  refine E_iload4 (q := 2415) dL_law_2413 rfl ?_
  refine E_iconst (v := nI 1) (q := 2416) dL_law_2415 (by decide) rfl ?_
  refine E_iaddN (q := 2417) dL_law_2416 rfl ?_
  refine E_sld (q := 2418) (i := i + 1) (by omega) (by omega) dL_law_2417 rfl ?_
  refine E_callVR (q := 2421) (ar := [.int (xs (i + 1))]) (rest := []) lk_L_261 h1 rc_X5 (rm1 hd1) (by show k + 0 ≤ 601024; omega) (by show n + 0 ≤ 7293034; omega) (Nat.le_of_ble_eq_true rfl) dL_law_2418 rfl rfl ?_
  rintro v w ⟨y, hv, M1, hw, hP⟩
  rw [hw]
  subst hv
  refine V_st (st' := [.int y]) rfl ?_
  refine E_aload2 (q := 2422) dL_law_2421 rfl ?_
  refine E_aload0 (q := 2423) dL_law_2422 rfl ?_
  refine E_iload4 (q := 2425) dL_law_2423 rfl ?_
  refine E_iconst (v := nI 1) (q := 2426) dL_law_2425 (by decide) rfl ?_
  refine E_iaddN (q := 2427) dL_law_2426 rfl ?_
  refine E_sld (q := 2428) (i := i + 1) (by omega) (by omega) dL_law_2427 rfl ?_
  refine E_callVR (q := 2431) (ar := [.int (xs (i + 1))]) (rest := [.int y]) lk_L_264 (h2 y M1 hP) rc_X6 (rm1 hd2) (by show k + 0 + 0 ≤ 601024; omega) (by show n + 0 + 0 ≤ 7293034; omega) (Nat.le_of_ble_eq_true rfl) dL_law_2428 rfl rfl ?_
  rintro v w ⟨z, hv, hz, M2, hw, hQ⟩
  rw [hw]
  subst hv
  subst hz
  refine V_st (st' := [.int z, .int z]) rfl ?_
  refine E_icmp_eq (tgt := 2807) (q := 2434) dL_law_2431 (by decide) rfl (fun _ => ?_) (fun h => absurd rfl h)
  exact V_widen (k' := k + 4) (n' := n + 532) (by omega) (by omega) (by show k + 4 ≤ 601024; omega) (by show n + 532 ≤ 7293034; omega) (kk M2 _ _ _ _ hQ)
theorem lw_clone (hi : i + 6 ≤ L) (hL : L ≤ 3072) (hk : k ≤ 600000) (hn : n ≤ 7000000) (hA : Ans D ad M yX5_clone cfX5_clone yX6_clone cfX6_clone [.int (xs (i + 1))] Q) (kk : ∀ M2 l5 l6 l7 l8, Q M2 → V D FLaw room_1 (QG (StX sb L xs) Qf) (k + 4) (n + 532) 2807 [some (.ref sb), some (.ref (ad 0)), some (.ref (ad 157)), some (.ref (ad 165)), some (.int (nI i)), l5, l6, l7, l8] [] (wl D ad M2)) : V D FLaw room_1 (QG (StX sb L xs) Qf) k n 2436 [some (.ref sb), some (.ref (ad 0)), some (.ref (ad 157)), some (.ref (ad 165)), some (.int (nI i)), l5, l6, l7, l8] [] (wl D ad M) := by
  obtain ⟨d1, d2, P, hd1, hd2, h1, h2⟩ := hA
  refine E_aload1 (q := 2437) dL_law_2436 rfl ?_
  refine E_aload0 (q := 2438) dL_law_2437 rfl ?_
  refine E_iload4 (q := 2440) dL_law_2438 rfl ?_
  refine E_iconst (v := nI 1) (q := 2441) dL_law_2440 (by decide) rfl ?_
  refine E_iaddN (q := 2442) dL_law_2441 rfl ?_
  refine E_sld (q := 2443) (i := i + 1) (by omega) (by omega) dL_law_2442 rfl ?_
  refine E_callVR (q := 2446) (ar := [.int (xs (i + 1))]) (rest := []) lk_L_265 h1 rc_X5 (rm1 hd1) (by show k + 0 ≤ 601024; omega) (by show n + 0 ≤ 7293034; omega) (Nat.le_of_ble_eq_true rfl) dL_law_2443 rfl rfl ?_
  rintro v w ⟨y, hv, M1, hw, hP⟩
  rw [hw]
  subst hv
  refine V_st (st' := [.int y]) rfl ?_
  refine E_aload2 (q := 2447) dL_law_2446 rfl ?_
  refine E_aload0 (q := 2448) dL_law_2447 rfl ?_
  refine E_iload4 (q := 2450) dL_law_2448 rfl ?_
  refine E_iconst (v := nI 1) (q := 2451) dL_law_2450 (by decide) rfl ?_
  refine E_iaddN (q := 2452) dL_law_2451 rfl ?_
  refine E_sld (q := 2453) (i := i + 1) (by omega) (by omega) dL_law_2452 rfl ?_
  refine E_callVR (q := 2456) (ar := [.int (xs (i + 1))]) (rest := [.int y]) lk_L_268 (h2 y M1 hP) rc_X6 (rm1 hd2) (by show k + 0 + 0 ≤ 601024; omega) (by show n + 0 + 0 ≤ 7293034; omega) (Nat.le_of_ble_eq_true rfl) dL_law_2453 rfl rfl ?_
  rintro v w ⟨z, hv, hz, M2, hw, hQ⟩
  rw [hw]
  subst hv
  subst hz
  refine V_st (st' := [.int z, .int z]) rfl ?_
  refine E_icmp_eq (tgt := 2807) (q := 2459) dL_law_2456 (by decide) rfl (fun _ => ?_) (fun h => absurd rfl h)
  exact V_widen (k' := k + 4) (n' := n + 532) (by omega) (by omega) (by show k + 4 ≤ 601024; omega) (by show n + 532 ≤ 7293034; omega) (kk M2 _ _ _ _ hQ)
theorem lw_promote (hi : i + 6 ≤ L) (hL : L ≤ 3072) (hk : k ≤ 600000) (hn : n ≤ 7000000) (hA : Ans D ad M yX5_promote cfX5_promote yX6_promote cfX6_promote [.int (xs (i + 1))] Q) (kk : ∀ M2 l5 l6 l7 l8, Q M2 → V D FLaw room_1 (QG (StX sb L xs) Qf) (k + 4) (n + 532) 2807 [some (.ref sb), some (.ref (ad 0)), some (.ref (ad 157)), some (.ref (ad 165)), some (.int (nI i)), l5, l6, l7, l8] [] (wl D ad M2)) : V D FLaw room_1 (QG (StX sb L xs) Qf) k n 2461 [some (.ref sb), some (.ref (ad 0)), some (.ref (ad 157)), some (.ref (ad 165)), some (.int (nI i)), l5, l6, l7, l8] [] (wl D ad M) := by
  obtain ⟨d1, d2, P, hd1, hd2, h1, h2⟩ := hA
  refine E_aload1 (q := 2462) dL_law_2461 rfl ?_
  refine E_aload0 (q := 2463) dL_law_2462 rfl ?_
  refine E_iload4 (q := 2465) dL_law_2463 rfl ?_
  refine E_iconst (v := nI 1) (q := 2466) dL_law_2465 (by decide) rfl ?_
  refine E_iaddN (q := 2467) dL_law_2466 rfl ?_
  refine E_sld (q := 2468) (i := i + 1) (by omega) (by omega) dL_law_2467 rfl ?_
  refine E_callVR (q := 2471) (ar := [.int (xs (i + 1))]) (rest := []) lk_L_269 h1 rc_X5 (rm1 hd1) (by show k + 0 ≤ 601024; omega) (by show n + 0 ≤ 7293034; omega) (Nat.le_of_ble_eq_true rfl) dL_law_2468 rfl rfl ?_
  rintro v w ⟨y, hv, M1, hw, hP⟩
  rw [hw]
  subst hv
  refine V_st (st' := [.int y]) rfl ?_
  refine E_aload2 (q := 2472) dL_law_2471 rfl ?_
  refine E_aload0 (q := 2473) dL_law_2472 rfl ?_
  refine E_iload4 (q := 2475) dL_law_2473 rfl ?_
  refine E_iconst (v := nI 1) (q := 2476) dL_law_2475 (by decide) rfl ?_
  refine E_iaddN (q := 2477) dL_law_2476 rfl ?_
  refine E_sld (q := 2478) (i := i + 1) (by omega) (by omega) dL_law_2477 rfl ?_
  refine E_callVR (q := 2481) (ar := [.int (xs (i + 1))]) (rest := [.int y]) lk_L_272 (h2 y M1 hP) rc_X6 (rm1 hd2) (by show k + 0 + 0 ≤ 601024; omega) (by show n + 0 + 0 ≤ 7293034; omega) (Nat.le_of_ble_eq_true rfl) dL_law_2478 rfl rfl ?_
  rintro v w ⟨z, hv, hz, M2, hw, hQ⟩
  rw [hw]
  subst hv
  subst hz
  refine V_st (st' := [.int z, .int z]) rfl ?_
  refine E_icmp_eq (tgt := 2807) (q := 2484) dL_law_2481 (by decide) rfl (fun _ => ?_) (fun h => absurd rfl h)
  exact V_widen (k' := k + 4) (n' := n + 532) (by omega) (by omega) (by show k + 4 ≤ 601024; omega) (by show n + 532 ≤ 7293034; omega) (kk M2 _ _ _ _ hQ)
theorem lw_destroy (hi : i + 6 ≤ L) (hL : L ≤ 3072) (hk : k ≤ 600000) (hn : n ≤ 7000000) (hA : Ans D ad M yX5_destroy cfX5_destroy yX6_destroy cfX6_destroy [.int (xs (i + 1))] Q) (kk : ∀ M2 l5 l6 l7 l8, Q M2 → V D FLaw room_1 (QG (StX sb L xs) Qf) (k + 4) (n + 532) 2807 [some (.ref sb), some (.ref (ad 0)), some (.ref (ad 157)), some (.ref (ad 165)), some (.int (nI i)), l5, l6, l7, l8] [] (wl D ad M2)) : V D FLaw room_1 (QG (StX sb L xs) Qf) k n 2486 [some (.ref sb), some (.ref (ad 0)), some (.ref (ad 157)), some (.ref (ad 165)), some (.int (nI i)), l5, l6, l7, l8] [] (wl D ad M) := by
  obtain ⟨d1, d2, P, hd1, hd2, h1, h2⟩ := hA
  refine E_aload1 (q := 2487) dL_law_2486 rfl ?_
  refine E_aload0 (q := 2488) dL_law_2487 rfl ?_
  refine E_iload4 (q := 2490) dL_law_2488 rfl ?_
  refine E_iconst (v := nI 1) (q := 2491) dL_law_2490 (by decide) rfl ?_
  refine E_iaddN (q := 2492) dL_law_2491 rfl ?_
  refine E_sld (q := 2493) (i := i + 1) (by omega) (by omega) dL_law_2492 rfl ?_
  refine E_callVR (q := 2496) (ar := [.int (xs (i + 1))]) (rest := []) lk_L_273 h1 rc_X5 (rm1 hd1) (by show k + 0 ≤ 601024; omega) (by show n + 0 ≤ 7293034; omega) (Nat.le_of_ble_eq_true rfl) dL_law_2493 rfl rfl ?_
  rintro v w ⟨y, hv, M1, hw, hP⟩
  rw [hw]
  subst hv
  refine V_st (st' := [.int y]) rfl ?_
  refine E_aload2 (q := 2497) dL_law_2496 rfl ?_
  refine E_aload0 (q := 2498) dL_law_2497 rfl ?_
  refine E_iload4 (q := 2500) dL_law_2498 rfl ?_
  refine E_iconst (v := nI 1) (q := 2501) dL_law_2500 (by decide) rfl ?_
  refine E_iaddN (q := 2502) dL_law_2501 rfl ?_
  refine E_sld (q := 2503) (i := i + 1) (by omega) (by omega) dL_law_2502 rfl ?_
  refine E_callVR (q := 2506) (ar := [.int (xs (i + 1))]) (rest := [.int y]) lk_L_276 (h2 y M1 hP) rc_X6 (rm1 hd2) (by show k + 0 + 0 ≤ 601024; omega) (by show n + 0 + 0 ≤ 7293034; omega) (Nat.le_of_ble_eq_true rfl) dL_law_2503 rfl rfl ?_
  rintro v w ⟨z, hv, hz, M2, hw, hQ⟩
  rw [hw]
  subst hv
  subst hz
  refine V_st (st' := [.int z, .int z]) rfl ?_
  refine E_icmp_eq (tgt := 2807) (q := 2509) dL_law_2506 (by decide) rfl (fun _ => ?_) (fun h => absurd rfl h)
  exact V_widen (k' := k + 4) (n' := n + 532) (by omega) (by omega) (by show k + 4 ≤ 601024; omega) (by show n + 532 ≤ 7293034; omega) (kk M2 _ _ _ _ hQ)
theorem lw_destroySet (hi : i + 6 ≤ L) (hL : L ≤ 3072) (hk : k ≤ 600000) (hn : n ≤ 7000000) (hA : Ans D ad M yX5_destroySet cfX5_destroySet yX6_destroySet cfX6_destroySet [.int (xs (i + 1))] Q) (kk : ∀ M2 l5 l6 l7 l8, Q M2 → V D FLaw room_1 (QG (StX sb L xs) Qf) (k + 4) (n + 532) 2807 [some (.ref sb), some (.ref (ad 0)), some (.ref (ad 157)), some (.ref (ad 165)), some (.int (nI i)), l5, l6, l7, l8] [] (wl D ad M2)) : V D FLaw room_1 (QG (StX sb L xs) Qf) k n 2511 [some (.ref sb), some (.ref (ad 0)), some (.ref (ad 157)), some (.ref (ad 165)), some (.int (nI i)), l5, l6, l7, l8] [] (wl D ad M) := by
  obtain ⟨d1, d2, P, hd1, hd2, h1, h2⟩ := hA
  refine E_aload1 (q := 2512) dL_law_2511 rfl ?_
  refine E_aload0 (q := 2513) dL_law_2512 rfl ?_
  refine E_iload4 (q := 2515) dL_law_2513 rfl ?_
  refine E_iconst (v := nI 1) (q := 2516) dL_law_2515 (by decide) rfl ?_
  refine E_iaddN (q := 2517) dL_law_2516 rfl ?_
  refine E_sld (q := 2518) (i := i + 1) (by omega) (by omega) dL_law_2517 rfl ?_
  refine E_callVR (q := 2521) (ar := [.int (xs (i + 1))]) (rest := []) lk_L_277 h1 rc_X5 (rm1 hd1) (by show k + 0 ≤ 601024; omega) (by show n + 0 ≤ 7293034; omega) (Nat.le_of_ble_eq_true rfl) dL_law_2518 rfl rfl ?_
  rintro v w ⟨y, hv, M1, hw, hP⟩
  rw [hw]
  subst hv
  refine V_st (st' := [.int y]) rfl ?_
  refine E_aload2 (q := 2522) dL_law_2521 rfl ?_
  refine E_aload0 (q := 2523) dL_law_2522 rfl ?_
  refine E_iload4 (q := 2525) dL_law_2523 rfl ?_
  refine E_iconst (v := nI 1) (q := 2526) dL_law_2525 (by decide) rfl ?_
  refine E_iaddN (q := 2527) dL_law_2526 rfl ?_
  refine E_sld (q := 2528) (i := i + 1) (by omega) (by omega) dL_law_2527 rfl ?_
  refine E_callVR (q := 2531) (ar := [.int (xs (i + 1))]) (rest := [.int y]) lk_L_280 (h2 y M1 hP) rc_X6 (rm1 hd2) (by show k + 0 + 0 ≤ 601024; omega) (by show n + 0 + 0 ≤ 7293034; omega) (Nat.le_of_ble_eq_true rfl) dL_law_2528 rfl rfl ?_
  rintro v w ⟨z, hv, hz, M2, hw, hQ⟩
  rw [hw]
  subst hv
  subst hz
  refine V_st (st' := [.int z, .int z]) rfl ?_
  refine E_icmp_eq (tgt := 2807) (q := 2534) dL_law_2531 (by decide) rfl (fun _ => ?_) (fun h => absurd rfl h)
  exact V_widen (k' := k + 4) (n' := n + 532) (by omega) (by omega) (by show k + 4 ≤ 601024; omega) (by show n + 532 ≤ 7293034; omega) (kk M2 _ _ _ _ hQ)
theorem lw_destroyVolume (hi : i + 6 ≤ L) (hL : L ≤ 3072) (hk : k ≤ 600000) (hn : n ≤ 7000000) (hA : Ans D ad M yX5_destroyVolume cfX5_destroyVolume yX6_destroyVolume cfX6_destroyVolume [.int (xs (i + 1))] Q) (kk : ∀ M2 l5 l6 l7 l8, Q M2 → V D FLaw room_1 (QG (StX sb L xs) Qf) (k + 4) (n + 532) 2807 [some (.ref sb), some (.ref (ad 0)), some (.ref (ad 157)), some (.ref (ad 165)), some (.int (nI i)), l5, l6, l7, l8] [] (wl D ad M2)) : V D FLaw room_1 (QG (StX sb L xs) Qf) k n 2536 [some (.ref sb), some (.ref (ad 0)), some (.ref (ad 157)), some (.ref (ad 165)), some (.int (nI i)), l5, l6, l7, l8] [] (wl D ad M) := by
  obtain ⟨d1, d2, P, hd1, hd2, h1, h2⟩ := hA
  refine E_aload1 (q := 2537) dL_law_2536 rfl ?_
  refine E_aload0 (q := 2538) dL_law_2537 rfl ?_
  refine E_iload4 (q := 2540) dL_law_2538 rfl ?_
  refine E_iconst (v := nI 1) (q := 2541) dL_law_2540 (by decide) rfl ?_
  refine E_iaddN (q := 2542) dL_law_2541 rfl ?_
  refine E_sld (q := 2543) (i := i + 1) (by omega) (by omega) dL_law_2542 rfl ?_
  refine E_callVR (q := 2546) (ar := [.int (xs (i + 1))]) (rest := []) lk_L_281 h1 rc_X5 (rm1 hd1) (by show k + 0 ≤ 601024; omega) (by show n + 0 ≤ 7293034; omega) (Nat.le_of_ble_eq_true rfl) dL_law_2543 rfl rfl ?_
  rintro v w ⟨y, hv, M1, hw, hP⟩
  rw [hw]
  subst hv
  refine V_st (st' := [.int y]) rfl ?_
  refine E_aload2 (q := 2547) dL_law_2546 rfl ?_
  refine E_aload0 (q := 2548) dL_law_2547 rfl ?_
  refine E_iload4 (q := 2550) dL_law_2548 rfl ?_
  refine E_iconst (v := nI 1) (q := 2551) dL_law_2550 (by decide) rfl ?_
  refine E_iaddN (q := 2552) dL_law_2551 rfl ?_
  refine E_sld (q := 2553) (i := i + 1) (by omega) (by omega) dL_law_2552 rfl ?_
  refine E_callVR (q := 2556) (ar := [.int (xs (i + 1))]) (rest := [.int y]) lk_L_284 (h2 y M1 hP) rc_X6 (rm1 hd2) (by show k + 0 + 0 ≤ 601024; omega) (by show n + 0 + 0 ≤ 7293034; omega) (Nat.le_of_ble_eq_true rfl) dL_law_2553 rfl rfl ?_
  rintro v w ⟨z, hv, hz, M2, hw, hQ⟩
  rw [hw]
  subst hv
  subst hz
  refine V_st (st' := [.int z, .int z]) rfl ?_
  refine E_icmp_eq (tgt := 2807) (q := 2559) dL_law_2556 (by decide) rfl (fun _ => ?_) (fun h => absurd rfl h)
  exact V_widen (k' := k + 4) (n' := n + 532) (by omega) (by omega) (by show k + 4 ≤ 601024; omega) (by show n + 532 ≤ 7293034; omega) (kk M2 _ _ _ _ hQ)
theorem lw_rollBack (hi : i + 6 ≤ L) (hL : L ≤ 3072) (hk : k ≤ 600000) (hn : n ≤ 7000000) (hA : Ans D ad M yX5_rollBack cfX5_rollBack yX6_rollBack cfX6_rollBack [.int (xs (i + 1))] Q) (kk : ∀ M2 l5 l6 l7 l8, Q M2 → V D FLaw room_1 (QG (StX sb L xs) Qf) (k + 4) (n + 532) 2807 [some (.ref sb), some (.ref (ad 0)), some (.ref (ad 157)), some (.ref (ad 165)), some (.int (nI i)), l5, l6, l7, l8] [] (wl D ad M2)) : V D FLaw room_1 (QG (StX sb L xs) Qf) k n 2561 [some (.ref sb), some (.ref (ad 0)), some (.ref (ad 157)), some (.ref (ad 165)), some (.int (nI i)), l5, l6, l7, l8] [] (wl D ad M) := by
  obtain ⟨d1, d2, P, hd1, hd2, h1, h2⟩ := hA
  refine E_aload1 (q := 2562) dL_law_2561 rfl ?_
  refine E_aload0 (q := 2563) dL_law_2562 rfl ?_
  refine E_iload4 (q := 2565) dL_law_2563 rfl ?_
  refine E_iconst (v := nI 1) (q := 2566) dL_law_2565 (by decide) rfl ?_
  refine E_iaddN (q := 2567) dL_law_2566 rfl ?_
  refine E_sld (q := 2568) (i := i + 1) (by omega) (by omega) dL_law_2567 rfl ?_
  refine E_callVR (q := 2571) (ar := [.int (xs (i + 1))]) (rest := []) lk_L_285 h1 rc_X5 (rm1 hd1) (by show k + 0 ≤ 601024; omega) (by show n + 0 ≤ 7293034; omega) (Nat.le_of_ble_eq_true rfl) dL_law_2568 rfl rfl ?_
  rintro v w ⟨y, hv, M1, hw, hP⟩
  rw [hw]
  subst hv
  refine V_st (st' := [.int y]) rfl ?_
  refine E_aload2 (q := 2572) dL_law_2571 rfl ?_
  refine E_aload0 (q := 2573) dL_law_2572 rfl ?_
  refine E_iload4 (q := 2575) dL_law_2573 rfl ?_
  refine E_iconst (v := nI 1) (q := 2576) dL_law_2575 (by decide) rfl ?_
  refine E_iaddN (q := 2577) dL_law_2576 rfl ?_
  refine E_sld (q := 2578) (i := i + 1) (by omega) (by omega) dL_law_2577 rfl ?_
  refine E_callVR (q := 2581) (ar := [.int (xs (i + 1))]) (rest := [.int y]) lk_L_288 (h2 y M1 hP) rc_X6 (rm1 hd2) (by show k + 0 + 0 ≤ 601024; omega) (by show n + 0 + 0 ≤ 7293034; omega) (Nat.le_of_ble_eq_true rfl) dL_law_2578 rfl rfl ?_
  rintro v w ⟨z, hv, hz, M2, hw, hQ⟩
  rw [hw]
  subst hv
  subst hz
  refine V_st (st' := [.int z, .int z]) rfl ?_
  refine E_icmp_eq (tgt := 2807) (q := 2584) dL_law_2581 (by decide) rfl (fun _ => ?_) (fun h => absurd rfl h)
  exact V_widen (k' := k + 4) (n' := n + 532) (by omega) (by omega) (by show k + 4 ≤ 601024; omega) (by show n + 532 ≤ 7293034; omega) (kk M2 _ _ _ _ hQ)
theorem lw_hold0 (hi : i + 6 ≤ L) (hL : L ≤ 3072) (hk : k ≤ 600000) (hn : n ≤ 7000000) (hb : xs (i + 2) = 0) (hA : Ans D ad M yX5_hold cfX5_hold yX6_hold cfX6_hold [.int (xs (i + 1)), .int (nI 0)] Q) (kk : ∀ M2 l5 l6 l7 l8, Q M2 → V D FLaw room_1 (QG (StX sb L xs) Qf) (k + 4) (n + 532) 2807 [some (.ref sb), some (.ref (ad 0)), some (.ref (ad 157)), some (.ref (ad 165)), some (.int (nI i)), l5, l6, l7, l8] [] (wl D ad M2)) : V D FLaw room_1 (QG (StX sb L xs) Qf) k n 2586 [some (.ref sb), some (.ref (ad 0)), some (.ref (ad 157)), some (.ref (ad 165)), some (.int (nI i)), l5, l6, l7, l8] [] (wl D ad M) := by
  obtain ⟨d1, d2, P, hd1, hd2, h1, h2⟩ := hA
  refine E_aload1 (q := 2587) dL_law_2586 rfl ?_
  refine E_aload0 (q := 2588) dL_law_2587 rfl ?_
  refine E_iload4 (q := 2590) dL_law_2588 rfl ?_
  refine E_iconst (v := nI 1) (q := 2591) dL_law_2590 (by decide) rfl ?_
  refine E_iaddN (q := 2592) dL_law_2591 rfl ?_
  refine E_sld (q := 2593) (i := i + 1) (by omega) (by omega) dL_law_2592 rfl ?_
  refine E_aload0 (q := 2594) dL_law_2593 rfl ?_
  refine E_iload4 (q := 2596) dL_law_2594 rfl ?_
  refine E_iconst (v := nI 2) (q := 2597) dL_law_2596 (by decide) rfl ?_
  refine E_iaddN (q := 2598) dL_law_2597 rfl ?_
  refine E_sld (q := 2599) (i := i + 2) (by omega) (by omega) dL_law_2598 rfl ?_
  refine E_if_eq (tgt := 2606) (q := 2602) dL_law_2599 (by decide) rfl (fun _ => ?_) (fun h => absurd hb h)
  refine E_iconst (v := nI 0) (q := 2607) dL_law_2606 (by decide) rfl ?_
  refine E_callVR (q := 2610) (ar := [.int (xs (i + 1)), .int (nI 0)]) (rest := []) lk_L_289 h1 rc_X5 (rm1 hd1) (by show k + 0 ≤ 601024; omega) (by show n + 0 ≤ 7293034; omega) (Nat.le_of_ble_eq_true rfl) dL_law_2607 rfl rfl ?_
  rintro v w ⟨y, hv, M1, hw, hP⟩
  rw [hw]
  subst hv
  refine V_st (st' := [.int y]) rfl ?_
  refine E_aload2 (q := 2611) dL_law_2610 rfl ?_
  refine E_aload0 (q := 2612) dL_law_2611 rfl ?_
  refine E_iload4 (q := 2614) dL_law_2612 rfl ?_
  refine E_iconst (v := nI 1) (q := 2615) dL_law_2614 (by decide) rfl ?_
  refine E_iaddN (q := 2616) dL_law_2615 rfl ?_
  refine E_sld (q := 2617) (i := i + 1) (by omega) (by omega) dL_law_2616 rfl ?_
  refine E_aload0 (q := 2618) dL_law_2617 rfl ?_
  refine E_iload4 (q := 2620) dL_law_2618 rfl ?_
  refine E_iconst (v := nI 2) (q := 2621) dL_law_2620 (by decide) rfl ?_
  refine E_iaddN (q := 2622) dL_law_2621 rfl ?_
  refine E_sld (q := 2623) (i := i + 2) (by omega) (by omega) dL_law_2622 rfl ?_
  refine E_if_eq (tgt := 2630) (q := 2626) dL_law_2623 (by decide) rfl (fun _ => ?_) (fun h => absurd hb h)
  refine E_iconst (v := nI 0) (q := 2631) dL_law_2630 (by decide) rfl ?_
  refine E_callVR (q := 2634) (ar := [.int (xs (i + 1)), .int (nI 0)]) (rest := [.int y]) lk_L_292 (h2 y M1 hP) rc_X6 (rm1 hd2) (by show k + 0 + 0 ≤ 601024; omega) (by show n + 0 + 0 ≤ 7293034; omega) (Nat.le_of_ble_eq_true rfl) dL_law_2631 rfl rfl ?_
  rintro v w ⟨z, hv, hz, M2, hw, hQ⟩
  rw [hw]
  subst hv
  subst hz
  refine V_st (st' := [.int z, .int z]) rfl ?_
  refine E_icmp_eq (tgt := 2807) (q := 2637) dL_law_2634 (by decide) rfl (fun _ => ?_) (fun h => absurd rfl h)
  exact V_widen (k' := k + 4) (n' := n + 532) (by omega) (by omega) (by show k + 4 ≤ 601024; omega) (by show n + 532 ≤ 7293034; omega) (kk M2 _ _ _ _ hQ)
theorem lw_hold1 (hi : i + 6 ≤ L) (hL : L ≤ 3072) (hk : k ≤ 600000) (hn : n ≤ 7000000) (hb : ¬ xs (i + 2) = 0) (hA : Ans D ad M yX5_hold cfX5_hold yX6_hold cfX6_hold [.int (xs (i + 1)), .int (nI 1)] Q) (kk : ∀ M2 l5 l6 l7 l8, Q M2 → V D FLaw room_1 (QG (StX sb L xs) Qf) (k + 4) (n + 532) 2807 [some (.ref sb), some (.ref (ad 0)), some (.ref (ad 157)), some (.ref (ad 165)), some (.int (nI i)), l5, l6, l7, l8] [] (wl D ad M2)) : V D FLaw room_1 (QG (StX sb L xs) Qf) k n 2586 [some (.ref sb), some (.ref (ad 0)), some (.ref (ad 157)), some (.ref (ad 165)), some (.int (nI i)), l5, l6, l7, l8] [] (wl D ad M) := by
  obtain ⟨d1, d2, P, hd1, hd2, h1, h2⟩ := hA
  refine E_aload1 (q := 2587) dL_law_2586 rfl ?_
  refine E_aload0 (q := 2588) dL_law_2587 rfl ?_
  refine E_iload4 (q := 2590) dL_law_2588 rfl ?_
  refine E_iconst (v := nI 1) (q := 2591) dL_law_2590 (by decide) rfl ?_
  refine E_iaddN (q := 2592) dL_law_2591 rfl ?_
  refine E_sld (q := 2593) (i := i + 1) (by omega) (by omega) dL_law_2592 rfl ?_
  refine E_aload0 (q := 2594) dL_law_2593 rfl ?_
  refine E_iload4 (q := 2596) dL_law_2594 rfl ?_
  refine E_iconst (v := nI 2) (q := 2597) dL_law_2596 (by decide) rfl ?_
  refine E_iaddN (q := 2598) dL_law_2597 rfl ?_
  refine E_sld (q := 2599) (i := i + 2) (by omega) (by omega) dL_law_2598 rfl ?_
  refine E_if_eq (tgt := 2606) (q := 2602) dL_law_2599 (by decide) rfl (fun h => absurd h hb) (fun _ => ?_)
  refine E_iconst (v := nI 1) (q := 2603) dL_law_2602 (by decide) rfl ?_
  refine E_goto (q := 2607) dL_law_2603 (by decide) ?_
  refine E_callVR (q := 2610) (ar := [.int (xs (i + 1)), .int (nI 1)]) (rest := []) lk_L_289 h1 rc_X5 (rm1 hd1) (by show k + 0 ≤ 601024; omega) (by show n + 0 ≤ 7293034; omega) (Nat.le_of_ble_eq_true rfl) dL_law_2607 rfl rfl ?_
  rintro v w ⟨y, hv, M1, hw, hP⟩
  rw [hw]
  subst hv
  refine V_st (st' := [.int y]) rfl ?_
  refine E_aload2 (q := 2611) dL_law_2610 rfl ?_
  refine E_aload0 (q := 2612) dL_law_2611 rfl ?_
  refine E_iload4 (q := 2614) dL_law_2612 rfl ?_
  refine E_iconst (v := nI 1) (q := 2615) dL_law_2614 (by decide) rfl ?_
  refine E_iaddN (q := 2616) dL_law_2615 rfl ?_
  refine E_sld (q := 2617) (i := i + 1) (by omega) (by omega) dL_law_2616 rfl ?_
  refine E_aload0 (q := 2618) dL_law_2617 rfl ?_
  refine E_iload4 (q := 2620) dL_law_2618 rfl ?_
  refine E_iconst (v := nI 2) (q := 2621) dL_law_2620 (by decide) rfl ?_
  refine E_iaddN (q := 2622) dL_law_2621 rfl ?_
  refine E_sld (q := 2623) (i := i + 2) (by omega) (by omega) dL_law_2622 rfl ?_
  refine E_if_eq (tgt := 2630) (q := 2626) dL_law_2623 (by decide) rfl (fun h => absurd h hb) (fun _ => ?_)
  refine E_iconst (v := nI 1) (q := 2627) dL_law_2626 (by decide) rfl ?_
  refine E_goto (q := 2631) dL_law_2627 (by decide) ?_
  refine E_callVR (q := 2634) (ar := [.int (xs (i + 1)), .int (nI 1)]) (rest := [.int y]) lk_L_292 (h2 y M1 hP) rc_X6 (rm1 hd2) (by show k + 0 + 0 ≤ 601024; omega) (by show n + 0 + 0 ≤ 7293034; omega) (Nat.le_of_ble_eq_true rfl) dL_law_2631 rfl rfl ?_
  rintro v w ⟨z, hv, hz, M2, hw, hQ⟩
  rw [hw]
  subst hv
  subst hz
  refine V_st (st' := [.int z, .int z]) rfl ?_
  refine E_icmp_eq (tgt := 2807) (q := 2637) dL_law_2634 (by decide) rfl (fun _ => ?_) (fun h => absurd rfl h)
  exact V_widen (k' := k + 4) (n' := n + 532) (by omega) (by omega) (by show k + 4 ≤ 601024; omega) (by show n + 532 ≤ 7293034; omega) (kk M2 _ _ _ _ hQ)
theorem lw_setQuota (hi : i + 6 ≤ L) (hL : L ≤ 3072) (hk : k ≤ 600000) (hn : n ≤ 7000000) (hA : Ans D ad M yX5_setQuota cfX5_setQuota yX6_setQuota cfX6_setQuota [.int (xs (i + 1)), .int (xs (i + 2))] Q) (kk : ∀ M2 l5 l6 l7 l8, Q M2 → V D FLaw room_1 (QG (StX sb L xs) Qf) (k + 4) (n + 532) 2807 [some (.ref sb), some (.ref (ad 0)), some (.ref (ad 157)), some (.ref (ad 165)), some (.int (nI i)), l5, l6, l7, l8] [] (wl D ad M2)) : V D FLaw room_1 (QG (StX sb L xs) Qf) k n 2639 [some (.ref sb), some (.ref (ad 0)), some (.ref (ad 157)), some (.ref (ad 165)), some (.int (nI i)), l5, l6, l7, l8] [] (wl D ad M) := by
  obtain ⟨d1, d2, P, hd1, hd2, h1, h2⟩ := hA
  refine E_aload1 (q := 2640) dL_law_2639 rfl ?_
  refine E_aload0 (q := 2641) dL_law_2640 rfl ?_
  refine E_iload4 (q := 2643) dL_law_2641 rfl ?_
  refine E_iconst (v := nI 1) (q := 2644) dL_law_2643 (by decide) rfl ?_
  refine E_iaddN (q := 2645) dL_law_2644 rfl ?_
  refine E_sld (q := 2646) (i := i + 1) (by omega) (by omega) dL_law_2645 rfl ?_
  refine E_aload0 (q := 2647) dL_law_2646 rfl ?_
  refine E_iload4 (q := 2649) dL_law_2647 rfl ?_
  refine E_iconst (v := nI 2) (q := 2650) dL_law_2649 (by decide) rfl ?_
  refine E_iaddN (q := 2651) dL_law_2650 rfl ?_
  refine E_sld (q := 2652) (i := i + 2) (by omega) (by omega) dL_law_2651 rfl ?_
  refine E_callVR (q := 2655) (ar := [.int (xs (i + 1)), .int (xs (i + 2))]) (rest := []) lk_L_293 h1 rc_X5 (rm1 hd1) (by show k + 0 ≤ 601024; omega) (by show n + 0 ≤ 7293034; omega) (Nat.le_of_ble_eq_true rfl) dL_law_2652 rfl rfl ?_
  rintro v w ⟨y, hv, M1, hw, hP⟩
  rw [hw]
  subst hv
  refine V_st (st' := [.int y]) rfl ?_
  refine E_aload2 (q := 2656) dL_law_2655 rfl ?_
  refine E_aload0 (q := 2657) dL_law_2656 rfl ?_
  refine E_iload4 (q := 2659) dL_law_2657 rfl ?_
  refine E_iconst (v := nI 1) (q := 2660) dL_law_2659 (by decide) rfl ?_
  refine E_iaddN (q := 2661) dL_law_2660 rfl ?_
  refine E_sld (q := 2662) (i := i + 1) (by omega) (by omega) dL_law_2661 rfl ?_
  refine E_aload0 (q := 2663) dL_law_2662 rfl ?_
  refine E_iload4 (q := 2665) dL_law_2663 rfl ?_
  refine E_iconst (v := nI 2) (q := 2666) dL_law_2665 (by decide) rfl ?_
  refine E_iaddN (q := 2667) dL_law_2666 rfl ?_
  refine E_sld (q := 2668) (i := i + 2) (by omega) (by omega) dL_law_2667 rfl ?_
  refine E_callVR (q := 2671) (ar := [.int (xs (i + 1)), .int (xs (i + 2))]) (rest := [.int y]) lk_L_296 (h2 y M1 hP) rc_X6 (rm1 hd2) (by show k + 0 + 0 ≤ 601024; omega) (by show n + 0 + 0 ≤ 7293034; omega) (Nat.le_of_ble_eq_true rfl) dL_law_2668 rfl rfl ?_
  rintro v w ⟨z, hv, hz, M2, hw, hQ⟩
  rw [hw]
  subst hv
  subst hz
  refine V_st (st' := [.int z, .int z]) rfl ?_
  refine E_icmp_eq (tgt := 2807) (q := 2674) dL_law_2671 (by decide) rfl (fun _ => ?_) (fun h => absurd rfl h)
  exact V_widen (k' := k + 4) (n' := n + 532) (by omega) (by omega) (by show k + 4 ≤ 601024; omega) (by show n + 532 ≤ 7293034; omega) (kk M2 _ _ _ _ hQ)
theorem lw_setSetting (hi : i + 6 ≤ L) (hL : L ≤ 3072) (hk : k ≤ 600000) (hn : n ≤ 7000000) (hA : Ans D ad M yX5_setSetting cfX5_setSetting yX6_setSetting cfX6_setSetting [.int (xs (i + 1)), .int (xs (i + 2))] Q) (kk : ∀ M2 l5 l6 l7 l8, Q M2 → V D FLaw room_1 (QG (StX sb L xs) Qf) (k + 4) (n + 532) 2807 [some (.ref sb), some (.ref (ad 0)), some (.ref (ad 157)), some (.ref (ad 165)), some (.int (nI i)), l5, l6, l7, l8] [] (wl D ad M2)) : V D FLaw room_1 (QG (StX sb L xs) Qf) k n 2676 [some (.ref sb), some (.ref (ad 0)), some (.ref (ad 157)), some (.ref (ad 165)), some (.int (nI i)), l5, l6, l7, l8] [] (wl D ad M) := by
  obtain ⟨d1, d2, P, hd1, hd2, h1, h2⟩ := hA
  refine E_aload1 (q := 2677) dL_law_2676 rfl ?_
  refine E_aload0 (q := 2678) dL_law_2677 rfl ?_
  refine E_iload4 (q := 2680) dL_law_2678 rfl ?_
  refine E_iconst (v := nI 1) (q := 2681) dL_law_2680 (by decide) rfl ?_
  refine E_iaddN (q := 2682) dL_law_2681 rfl ?_
  refine E_sld (q := 2683) (i := i + 1) (by omega) (by omega) dL_law_2682 rfl ?_
  refine E_aload0 (q := 2684) dL_law_2683 rfl ?_
  refine E_iload4 (q := 2686) dL_law_2684 rfl ?_
  refine E_iconst (v := nI 2) (q := 2687) dL_law_2686 (by decide) rfl ?_
  refine E_iaddN (q := 2688) dL_law_2687 rfl ?_
  refine E_sld (q := 2689) (i := i + 2) (by omega) (by omega) dL_law_2688 rfl ?_
  refine E_callVR (q := 2692) (ar := [.int (xs (i + 1)), .int (xs (i + 2))]) (rest := []) lk_L_297 h1 rc_X5 (rm1 hd1) (by show k + 0 ≤ 601024; omega) (by show n + 0 ≤ 7293034; omega) (Nat.le_of_ble_eq_true rfl) dL_law_2689 rfl rfl ?_
  rintro v w ⟨y, hv, M1, hw, hP⟩
  rw [hw]
  subst hv
  refine V_st (st' := [.int y]) rfl ?_
  refine E_aload2 (q := 2693) dL_law_2692 rfl ?_
  refine E_aload0 (q := 2694) dL_law_2693 rfl ?_
  refine E_iload4 (q := 2696) dL_law_2694 rfl ?_
  refine E_iconst (v := nI 1) (q := 2697) dL_law_2696 (by decide) rfl ?_
  refine E_iaddN (q := 2698) dL_law_2697 rfl ?_
  refine E_sld (q := 2699) (i := i + 1) (by omega) (by omega) dL_law_2698 rfl ?_
  refine E_aload0 (q := 2700) dL_law_2699 rfl ?_
  refine E_iload4 (q := 2702) dL_law_2700 rfl ?_
  refine E_iconst (v := nI 2) (q := 2703) dL_law_2702 (by decide) rfl ?_
  refine E_iaddN (q := 2704) dL_law_2703 rfl ?_
  refine E_sld (q := 2705) (i := i + 2) (by omega) (by omega) dL_law_2704 rfl ?_
  refine E_callVR (q := 2708) (ar := [.int (xs (i + 1)), .int (xs (i + 2))]) (rest := [.int y]) lk_L_300 (h2 y M1 hP) rc_X6 (rm1 hd2) (by show k + 0 + 0 ≤ 601024; omega) (by show n + 0 + 0 ≤ 7293034; omega) (Nat.le_of_ble_eq_true rfl) dL_law_2705 rfl rfl ?_
  rintro v w ⟨z, hv, hz, M2, hw, hQ⟩
  rw [hw]
  subst hv
  subst hz
  refine V_st (st' := [.int z, .int z]) rfl ?_
  refine E_icmp_eq (tgt := 2807) (q := 2711) dL_law_2708 (by decide) rfl (fun _ => ?_) (fun h => absurd rfl h)
  exact V_widen (k' := k + 4) (n' := n + 532) (by omega) (by omega) (by show k + 4 ≤ 601024; omega) (by show n + 532 ≤ 7293034; omega) (kk M2 _ _ _ _ hQ)
theorem lw_undo (hi : i + 6 ≤ L) (hL : L ≤ 3072) (hk : k ≤ 600000) (hn : n ≤ 7000000) (hA : Ans D ad M yX5_undo cfX5_undo yX6_undo cfX6_undo [] Q) (kk : ∀ M2 l5 l6 l7 l8, Q M2 → V D FLaw room_1 (QG (StX sb L xs) Qf) (k + 4) (n + 532) 2807 [some (.ref sb), some (.ref (ad 0)), some (.ref (ad 157)), some (.ref (ad 165)), some (.int (nI i)), l5, l6, l7, l8] [] (wl D ad M2)) : V D FLaw room_1 (QG (StX sb L xs) Qf) k n 2713 [some (.ref sb), some (.ref (ad 0)), some (.ref (ad 157)), some (.ref (ad 165)), some (.int (nI i)), l5, l6, l7, l8] [] (wl D ad M) := by
  obtain ⟨d1, d2, P, hd1, hd2, h1, h2⟩ := hA
  refine E_aload1 (q := 2714) dL_law_2713 rfl ?_
  refine E_callVR (q := 2717) (ar := []) (rest := []) lk_L_301 h1 rc_X5 (rm1 hd1) (by show k + 0 ≤ 601024; omega) (by show n + 0 ≤ 7293034; omega) (Nat.le_of_ble_eq_true rfl) dL_law_2714 rfl rfl ?_
  rintro v w ⟨y, hv, M1, hw, hP⟩
  rw [hw]
  subst hv
  refine V_st (st' := [.int y]) rfl ?_
  refine E_aload2 (q := 2718) dL_law_2717 rfl ?_
  refine E_callVR (q := 2721) (ar := []) (rest := [.int y]) lk_L_304 (h2 y M1 hP) rc_X6 (rm1 hd2) (by show k + 0 + 0 ≤ 601024; omega) (by show n + 0 + 0 ≤ 7293034; omega) (Nat.le_of_ble_eq_true rfl) dL_law_2718 rfl rfl ?_
  rintro v w ⟨z, hv, hz, M2, hw, hQ⟩
  rw [hw]
  subst hv
  subst hz
  refine V_st (st' := [.int z, .int z]) rfl ?_
  refine E_icmp_eq (tgt := 2807) (q := 2724) dL_law_2721 (by decide) rfl (fun _ => ?_) (fun h => absurd rfl h)
  exact V_widen (k' := k + 4) (n' := n + 532) (by omega) (by omega) (by show k + 4 ≤ 601024; omega) (by show n + 532 ≤ 7293034; omega) (kk M2 _ _ _ _ hQ)
theorem lw_outputAt (hi : i + 6 ≤ L) (hL : L ≤ 3072) (hk : k ≤ 600000) (hn : n ≤ 7000000) (hA : Ans D ad M yX5_outputAt cfX5_outputAt yX6_outputAt cfX6_outputAt [.int (xs (i + 1))] Q) (kk : ∀ M2 l5 l6 l7 l8, Q M2 → V D FLaw room_1 (QG (StX sb L xs) Qf) (k + 4) (n + 532) 2807 [some (.ref sb), some (.ref (ad 0)), some (.ref (ad 157)), some (.ref (ad 165)), some (.int (nI i)), l5, l6, l7, l8] [] (wl D ad M2)) : V D FLaw room_1 (QG (StX sb L xs) Qf) k n 2782 [some (.ref sb), some (.ref (ad 0)), some (.ref (ad 157)), some (.ref (ad 165)), some (.int (nI i)), l5, l6, l7, l8] [] (wl D ad M) := by
  obtain ⟨d1, d2, P, hd1, hd2, h1, h2⟩ := hA
  refine E_aload1 (q := 2783) dL_law_2782 rfl ?_
  refine E_aload0 (q := 2784) dL_law_2783 rfl ?_
  refine E_iload4 (q := 2786) dL_law_2784 rfl ?_
  refine E_iconst (v := nI 1) (q := 2787) dL_law_2786 (by decide) rfl ?_
  refine E_iaddN (q := 2788) dL_law_2787 rfl ?_
  refine E_sld (q := 2789) (i := i + 1) (by omega) (by omega) dL_law_2788 rfl ?_
  refine E_callVR (q := 2792) (ar := [.int (xs (i + 1))]) (rest := []) lk_L_308 h1 rc_X5 (rm1 hd1) (by show k + 0 ≤ 601024; omega) (by show n + 0 ≤ 7293034; omega) (Nat.le_of_ble_eq_true rfl) dL_law_2789 rfl rfl ?_
  rintro v w ⟨y, hv, M1, hw, hP⟩
  rw [hw]
  subst hv
  refine V_st (st' := [.int y]) rfl ?_
  refine E_aload2 (q := 2793) dL_law_2792 rfl ?_
  refine E_aload0 (q := 2794) dL_law_2793 rfl ?_
  refine E_iload4 (q := 2796) dL_law_2794 rfl ?_
  refine E_iconst (v := nI 1) (q := 2797) dL_law_2796 (by decide) rfl ?_
  refine E_iaddN (q := 2798) dL_law_2797 rfl ?_
  refine E_sld (q := 2799) (i := i + 1) (by omega) (by omega) dL_law_2798 rfl ?_
  refine E_callVR (q := 2802) (ar := [.int (xs (i + 1))]) (rest := [.int y]) lk_L_311 (h2 y M1 hP) rc_X6 (rm1 hd2) (by show k + 0 + 0 ≤ 601024; omega) (by show n + 0 + 0 ≤ 7293034; omega) (Nat.le_of_ble_eq_true rfl) dL_law_2799 rfl rfl ?_
  rintro v w ⟨z, hv, hz, M2, hw, hQ⟩
  rw [hw]
  subst hv
  subst hz
  refine V_st (st' := [.int z, .int z]) rfl ?_
  refine E_icmp_eq (tgt := 2807) (q := 2805) dL_law_2802 (by decide) rfl (fun _ => ?_) (fun h => absurd rfl h)
  exact V_widen (k' := k + 4) (n' := n + 532) (by omega) (by omega) (by show k + 4 ≤ 601024; omega) (by show n + 532 ≤ 7293034; omega) (kk M2 _ _ _ _ hQ)
end LAWC
