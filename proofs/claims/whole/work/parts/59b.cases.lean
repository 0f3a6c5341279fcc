/-! the law, case after case: put, set, pull, play -/
section LawCasesb
variable {p : Program} {l : Launch} {e : Env} {s : State} {m : MethodId} {below : List Frame} {meth : Method} {c : Code} {Q : State → Prop} {C : q_C} {sA L x ou sC j : Nat} {xs : Nat → Int32} {nw tr hq iq tt mo : Nat → Nat} {ba : Nat → Nat → Nat}
set_option maxHeartbeats 4000000 in
set_option maxRecDepth 100000 in
theorem lw_put (hc : lwC p l s m meth c C sA L xs) (hj : 6 * j + 6 ≤ L) (K : lwAt p l e s m below meth c Q C sA x ou sC nw tr hq iq tt ba mo j 1507 (j + 1)) : lwAt p l e s m below meth c Q C sA x ou sC nw tr hq iq tt ba mo j 336 j := by
  intro x0 z b b2 ph r n t f v o y cd tw pl fl tl v2 o2 gm pa td cells slots H locs ls okx hce hsl hP hD hS hl
  obtain ⟨hok, hph, hfr, hy60, hcd, hpa⟩ := okx
  have hB : OkB b := hok.1
  have hU : sumU b ≤ 9999 := hok.2
  have hr6 : r < 6 := hph.1
  have hn6 : n ≤ 6 := hph.2.1
  have hc0 := hc
  obtain ⟨hx, hb, hml, hown, hts, hK, hV, hE, hX, hsb, hL, hl0⟩ := hc0
  rcases cl2 (xs (6 * j + 1)) (xs (6 * j + 2)) with h0 | ⟨a1, a2, e1, e2, ha1, ha2⟩
  · skip
    refine lv_aload_n hx hb dL_law_336 rfl (lv_at hl 2 rfl) ?_
    refine lw_rd hc hj 1 (by decide) hS 1 0 hl rfl rfl dL_law_337 dL_law_338 dL_law_340 (by decide) dL_law_341 dL_law_342 rfl ?_
    refine lw_rd hc hj 2 (by decide) hS 1 0 hl rfl rfl dL_law_343 dL_law_344 dL_law_346 (by decide) dL_law_347 dL_law_348 rfl ?_
    refine lv_aload_n hx hb dL_law_349 rfl (lv_at hl 4 rfl) ?_
    refine q_SWB1 (Bs := [wU C ou x0, wF C x nw tr hq iq tt sC ba z b b2 ph r n t f v o y cd, mF C mo (nI n) (nI y) tw pl fl tl v2 o2 b gm pa cd td]) (cs := [wU C ou x0, wF C x nw tr hq iq tt sC ba z b b2 ph r n t f v o y cd]) (As := [.ref x, .int (xs (6 * j + 1)), .int (xs (6 * j + 2)), .ref ou]) (rest := []) ⟨hx, hb, hml, hown, hts⟩ (W1_put l hl0 C x (xs (6 * j + 1)) (xs (6 * j + 2)) nw tr hq iq tt sC ba z b b2 r n ph t f v o y cd ou x0 h0) (vx_cwSW 4 hts gL_law_L_put rfl rfl rfl (by decide +kernel) ⟨Nat.le_of_ble_eq_true rfl, Nat.le_of_ble_eq_true rfl⟩) hK hV hE hP hD hS (fun _ h => h) [0, 1] (by decide) rfl rfl hl.1 rfl (Nat.le_of_ble_eq_true rfl) dL_law_350 (lw_c1 hce hj hL) (lw_s1 hsl hj hL) (fun r w1 H locs hQ hF hS => ?_)
    obtain ⟨rfl, rfl⟩ := hQ
    obtain ⟨hP, hD⟩ := hF [wU C ou x0, wF C x nw tr hq iq tt sC ba z b b2 ph r n t f v o y cd] rfl rfl
    have hP : va_P C.1 vwCl (List.flatten [wU C ou x0, wF C x nw tr hq iq tt sC ba z b b2 ph r n t f v o y cd, mF C mo (nI n) (nI y) tw pl fl tl v2 o2 b gm pa cd td]) H := hP
    have hD : va_D (lwA s) (List.flatten [wU C ou x0, wF C x nw tr hq iq tt sC ba z b b2 ph r n t f v o y cd, mF C mo (nI n) (nI y) tw pl fl tl v2 o2 b gm pa cd td]) := hD
    refine W.eq (g2 := F0 m 353 ls [.int (nI 1)]) rfl ?_
    have hce : cells + 1 ≤ 100 + j + 1 := Nat.succ_le_succ hce
    have hsl : slots + 6 ≤ 2000 + 6 * j + 6 := Nat.add_le_add_right hsl 6
    refine lv_istore (lv' := [(5, .int (nI 1)), (4, .int (nI (6 * j))), (0, .ref sA), (1, .ref x), (2, .ref (mo 0)), (3, .ref ou)]) hx hb dL_law_353 hl (by decide) rfl (fun ls hl => ?_)
    refine lv_aload_n hx hb dL_law_355 rfl (lv_at hl 4 rfl) ?_
    refine lw_rd hc hj 1 (by decide) hS 2 1 hl rfl rfl dL_law_356 dL_law_357 dL_law_359 (by decide) dL_law_360 dL_law_361 rfl ?_
    refine lw_rd hc hj 2 (by decide) hS 2 1 hl rfl rfl dL_law_362 dL_law_363 dL_law_365 (by decide) dL_law_366 dL_law_367 rfl ?_
    refine q_VBE (Bs := [wU C ou x0, wF C x nw tr hq iq tt sC ba z b b2 ph r n t f v o y cd, mF C mo (nI n) (nI y) tw pl fl tl v2 o2 b gm pa cd td]) (cs := [mF C mo (nI n) (nI y) tw pl fl tl v2 o2 b gm pa cd td]) (As := [.int (xs (6 * j + 1)), .int (xs (6 * j + 2))]) (rest := []) ⟨hx, hb, hml, hown, hts⟩ (M1_put l C mo (nI n) (nI y) tw pl fl tl v2 o2 (xs (6 * j + 1)) (xs (6 * j + 2)) b gm pa cd td h0).one (cwV 2 hts gL_law_X5_put rfl rfl rfl (by decide +kernel) ⟨Nat.le_of_ble_eq_true rfl, Nat.le_of_ble_eq_true rfl⟩) hK hV hE hP hD hS (fun _ h => h) [2] (by decide) rfl 76 rfl rfl rfl rfl hl.1 rfl (Nat.le_of_ble_eq_true rfl) dL_law_368 (lw_c0 hce hj hL) (lw_s0 hsl hj hL) (fun r w1 H locs hQ hF hS => ?_)
    obtain ⟨rfl, rfl⟩ := hQ
    obtain ⟨hP, hD⟩ := hF [mF C mo (nI n) (nI y) (nI 1) pl fl tl v2 o2 b gm pa cd td] (flat_one _).symm rfl
    have hP : va_P C.1 vwCl (List.flatten [wU C ou x0, wF C x nw tr hq iq tt sC ba z b b2 ph r n t f v o y cd, mF C mo (nI n) (nI y) (nI 1) pl fl tl v2 o2 b gm pa cd td]) H := hP
    have hD : va_D (lwA s) (List.flatten [wU C ou x0, wF C x nw tr hq iq tt sC ba z b b2 ph r n t f v o y cd, mF C mo (nI n) (nI y) (nI 1) pl fl tl v2 o2 b gm pa cd td]) := hD
    refine W.eq (g2 := F0 m 371 ls [.int (nI 0)]) rfl ?_
    refine lv_istore (lv' := [(6, .int (nI 0)), (5, .int (nI 1)), (4, .int (nI (6 * j))), (0, .ref sA), (1, .ref x), (2, .ref (mo 0)), (3, .ref ou)]) hx hb dL_law_371 hl (by decide) rfl (fun ls hl => ?_)
    have hP : va_P C.1 vwCl (List.flatten [wU C ou x0, wF C x nw tr hq iq tt sC ba z b b2 ph r n t f v o y cd, mF C mo (nI n) (nI y) (nI 1) pl fl tl v2 o2 b gm pa cd td]) H := hP
    have hD : va_D (lwA s) (List.flatten [wU C ou x0, wF C x nw tr hq iq tt sC ba z b b2 ph r n t f v o y cd, mF C mo (nI n) (nI y) (nI 1) pl fl tl v2 o2 b gm pa cd td]) := hD
    exact lw_tailT hc hj K 1 (by decide) (by decide) ⟨hok, hph, hfr, hy60, hcd, hpa⟩ (by omega) (by omega) hP hD hS hl 5 rfl 1 rfl [2, 3, 4, 5, 6] rfl 28 (by decide) dL_law_373 dL_law_374 dL_law_377 dL_law_379 dL_law_384 dL_law_386 dL_law_401 (by decide)
  · skip
    refine lv_aload_n hx hb dL_law_336 rfl (lv_at hl 2 rfl) ?_
    refine lw_rd hc hj 1 (by decide) hS 1 0 hl rfl rfl dL_law_337 dL_law_338 dL_law_340 (by decide) dL_law_341 dL_law_342 e1 ?_
    refine lw_rd hc hj 2 (by decide) hS 1 0 hl rfl rfl dL_law_343 dL_law_344 dL_law_346 (by decide) dL_law_347 dL_law_348 e2 ?_
    refine lv_aload_n hx hb dL_law_349 rfl (lv_at hl 4 rfl) ?_
    refine q_SWB (Bs := [wU C ou x0, wF C x nw tr hq iq tt sC ba z b b2 ph r n t f v o y cd, mF C mo (nI n) (nI y) tw pl fl tl v2 o2 b gm pa cd td]) (cs := [wU C ou x0, wF C x nw tr hq iq tt sC ba z b b2 ph r n t f v o y cd]) (As := [.ref x, .int (nI a1), .int (nI a2), .ref ou]) (rest := []) ⟨hx, hb, hml, hown, hts⟩ (W_put l C x nw tr hq iq tt sC z ba ph r n b a1 a2 b2 t f v o y cd ou x0 hr6 hn6 (by omega) (by omega)) (vx_cwSW 4 hts gL_law_L_put rfl rfl rfl (by decide +kernel) ⟨Nat.le_of_ble_eq_true rfl, Nat.le_of_ble_eq_true rfl⟩) hK hV hE hP hD hS (fun _ h => h) [0, 1] (by decide) rfl rfl hl.1 rfl (Nat.le_of_ble_eq_true rfl) dL_law_350 (lw_c0 hce hj hL) (lw_s0 hsl hj hL) (fun r w1 H locs hQ hF hS => ?_)
    obtain ⟨rfl, rfl⟩ := hQ
    obtain ⟨hP, hD⟩ := hF [wU C ou ((nI (bp b a1)).toInt64), wF C x nw tr hq iq tt sC ba z (sp b (upN (bp b) a1 a2)) b2 (upB ph (kJ n r) b) (kR n r) (kC n) t f v o y cd] rfl rfl
    have hP : va_P C.1 vwCl (List.flatten [wU C ou ((nI (bp b a1)).toInt64), wF C x nw tr hq iq tt sC ba z (sp b (upN (bp b) a1 a2)) b2 (upB ph (kJ n r) b) (kR n r) (kC n) t f v o y cd, mF C mo (nI n) (nI y) tw pl fl tl v2 o2 b gm pa cd td]) H := hP
    have hD : va_D (lwA s) (List.flatten [wU C ou ((nI (bp b a1)).toInt64), wF C x nw tr hq iq tt sC ba z (sp b (upN (bp b) a1 a2)) b2 (upB ph (kJ n r) b) (kR n r) (kC n) t f v o y cd, mF C mo (nI n) (nI y) tw pl fl tl v2 o2 b gm pa cd td]) := hD
    refine W.eq (g2 := F0 m 353 ls [.int (nI 0)]) rfl ?_
    refine lv_istore (lv' := [(5, .int (nI 0)), (4, .int (nI (6 * j))), (0, .ref sA), (1, .ref x), (2, .ref (mo 0)), (3, .ref ou)]) hx hb dL_law_353 hl (by decide) rfl (fun ls hl => ?_)
    refine lv_aload_n hx hb dL_law_355 rfl (lv_at hl 4 rfl) ?_
    refine lw_rd hc hj 1 (by decide) hS 2 1 hl rfl rfl dL_law_356 dL_law_357 dL_law_359 (by decide) dL_law_360 dL_law_361 e1 ?_
    refine lw_rd hc hj 2 (by decide) hS 2 1 hl rfl rfl dL_law_362 dL_law_363 dL_law_365 (by decide) dL_law_366 dL_law_367 e2 ?_
    refine q_VBE (Bs := [wU C ou ((nI (bp b a1)).toInt64), wF C x nw tr hq iq tt sC ba z (sp b (upN (bp b) a1 a2)) b2 (upB ph (kJ n r) b) (kR n r) (kC n) t f v o y cd, mF C mo (nI n) (nI y) tw pl fl tl v2 o2 b gm pa cd td]) (cs := [mF C mo (nI n) (nI y) tw pl fl tl v2 o2 b gm pa cd td]) (As := [.int (nI a1), .int (nI a2)]) (rest := []) ⟨hx, hb, hml, hown, hts⟩ (M_put l C mo (nI y) tw pl fl tl v2 o2 ph r n pa b a1 a2 gm cd td hr6 hn6 hpa (by omega) (by omega)).one (cwV 2 hts gL_law_X5_put rfl rfl rfl (by decide +kernel) ⟨Nat.le_of_ble_eq_true rfl, Nat.le_of_ble_eq_true rfl⟩) hK hV hE hP hD hS (fun _ h => h) [2] (by decide) rfl 76 rfl rfl rfl rfl hl.1 rfl (Nat.le_of_ble_eq_true rfl) dL_law_368 (lw_c0 hce hj hL) (lw_s0 hsl hj hL) (fun r w1 H locs hQ hF hS => ?_)
    obtain ⟨paq4, rfl, rfl, hmh⟩ := hQ
    obtain ⟨hP, hD⟩ := hF [mF C mo (nI (kC n)) (nI y) (nI 0) pl fl tl v2 o2 (sp b (upN (bp b) a1 a2)) gm paq4 cd td] (flat_one _).symm rfl
    have hP : va_P C.1 vwCl (List.flatten [wU C ou ((nI (bp b a1)).toInt64), wF C x nw tr hq iq tt sC ba z (sp b (upN (bp b) a1 a2)) b2 (upB ph (kJ n r) b) (kR n r) (kC n) t f v o y cd, mF C mo (nI (kC n)) (nI y) (nI 0) pl fl tl v2 o2 (sp b (upN (bp b) a1 a2)) gm paq4 cd td]) H := hP
    have hD : va_D (lwA s) (List.flatten [wU C ou ((nI (bp b a1)).toInt64), wF C x nw tr hq iq tt sC ba z (sp b (upN (bp b) a1 a2)) b2 (upB ph (kJ n r) b) (kR n r) (kC n) t f v o y cd, mF C mo (nI (kC n)) (nI y) (nI 0) pl fl tl v2 o2 (sp b (upN (bp b) a1 a2)) gm paq4 cd td]) := hD
    refine W.eq (g2 := F0 m 371 ls [.int (nI (bp b a1))]) rfl ?_
    refine lv_istore (lv' := [(6, .int (nI (bp b a1))), (5, .int (nI 0)), (4, .int (nI (6 * j))), (0, .ref sA), (1, .ref x), (2, .ref (mo 0)), (3, .ref ou)]) hx hb dL_law_371 hl (by decide) rfl (fun ls hl => ?_)
    have hP : va_P C.1 vwCl (List.flatten [wU C ou ((nI (bp b a1)).toInt64), wF C x nw tr hq iq tt sC ba z (sp b (upN (bp b) a1 a2)) b2 (upB ph (kJ n r) b) (kR n r) (kC n) t f v o y cd, mF C mo (nI (kC n)) (nI y) (nI 0) pl fl tl v2 o2 (sp b (upN (bp b) a1 a2)) gm paq4 cd td]) H := hP
    have hD : va_D (lwA s) (List.flatten [wU C ou ((nI (bp b a1)).toInt64), wF C x nw tr hq iq tt sC ba z (sp b (upN (bp b) a1 a2)) b2 (upB ph (kJ n r) b) (kR n r) (kC n) t f v o y cd, mF C mo (nI (kC n)) (nI y) (nI 0) pl fl tl v2 o2 (sp b (upN (bp b) a1 a2)) gm paq4 cd td]) := hD
    exact lw_tailI hc hj K ⟨okS_sp hok (by omega), okH_keep hph hok, frB_of hfr rfl, hy60, hcd, hmh⟩ (by omega) (by omega) hP hD hS hl 5 rfl 1 rfl 6 rfl 0 rfl [2, 3, 4, 5, 6] rfl dL_law_373 dL_law_374 dL_law_377 dL_law_379 dL_law_384 dL_law_386 dL_law_389 dL_law_390 dL_law_391 dL_law_392 dL_law_394 dL_law_395 dL_law_396 dL_law_401 (by decide)
set_option maxHeartbeats 4000000 in
set_option maxRecDepth 100000 in
theorem lw_set (hc : lwC p l s m meth c C sA L xs) (hj : 6 * j + 6 ≤ L) (K : lwAt p l e s m below meth c Q C sA x ou sC nw tr hq iq tt ba mo j 1507 (j + 1)) : lwAt p l e s m below meth c Q C sA x ou sC nw tr hq iq tt ba mo j 404 j := by
  intro x0 z b b2 ph r n t f v o y cd tw pl fl tl v2 o2 gm pa td cells slots H locs ls okx hce hsl hP hD hS hl
  obtain ⟨hok, hph, hfr, hy60, hcd, hpa⟩ := okx
  have hB : OkB b := hok.1
  have hU : sumU b ≤ 9999 := hok.2
  have hr6 : r < 6 := hph.1
  have hn6 : n ≤ 6 := hph.2.1
  have hc0 := hc
  obtain ⟨hx, hb, hml, hown, hts, hK, hV, hE, hX, hsb, hL, hl0⟩ := hc0
  rcases cl1 (xs (6 * j + 1)) (lo := 0) (hi := 3) (by decide) (by decide) with h0 | ⟨a1, e1, ha1, hb1⟩
  · skip
    refine lv_aload_n hx hb dL_law_404 rfl (lv_at hl 2 rfl) ?_
    refine lw_rd hc hj 1 (by decide) hS 1 0 hl rfl rfl dL_law_405 dL_law_406 dL_law_408 (by decide) dL_law_409 dL_law_410 rfl ?_
    refine lw_rd hc hj 2 (by decide) hS 1 0 hl rfl rfl dL_law_411 dL_law_412 dL_law_414 (by decide) dL_law_415 dL_law_416 rfl ?_
    refine lv_aload_n hx hb dL_law_417 rfl (lv_at hl 4 rfl) ?_
    refine q_SWB1 (Bs := [wU C ou x0, wF C x nw tr hq iq tt sC ba z b b2 ph r n t f v o y cd, mF C mo (nI n) (nI y) tw pl fl tl v2 o2 b gm pa cd td]) (cs := [wU C ou x0, wF C x nw tr hq iq tt sC ba z b b2 ph r n t f v o y cd]) (As := [.ref x, .int (xs (6 * j + 1)), .int (xs (6 * j + 2)), .ref ou]) (rest := []) ⟨hx, hb, hml, hown, hts⟩ (W1_set l hl0 C x (xs (6 * j + 1)) (xs (6 * j + 2)) nw tr hq iq tt sC ba z b b2 r n ph t f v o y cd ou x0 h0) (vx_cwSW 4 hts gL_law_L_set rfl rfl rfl (by decide +kernel) ⟨Nat.le_of_ble_eq_true rfl, Nat.le_of_ble_eq_true rfl⟩) hK hV hE hP hD hS (fun _ h => h) [0, 1] (by decide) rfl rfl hl.1 rfl (Nat.le_of_ble_eq_true rfl) dL_law_418 (lw_c1 hce hj hL) (lw_s1 hsl hj hL) (fun r w1 H locs hQ hF hS => ?_)
    obtain ⟨rfl, rfl⟩ := hQ
    obtain ⟨hP, hD⟩ := hF [wU C ou x0, wF C x nw tr hq iq tt sC ba z b b2 ph r n t f v o y cd] rfl rfl
    have hP : va_P C.1 vwCl (List.flatten [wU C ou x0, wF C x nw tr hq iq tt sC ba z b b2 ph r n t f v o y cd, mF C mo (nI n) (nI y) tw pl fl tl v2 o2 b gm pa cd td]) H := hP
    have hD : va_D (lwA s) (List.flatten [wU C ou x0, wF C x nw tr hq iq tt sC ba z b b2 ph r n t f v o y cd, mF C mo (nI n) (nI y) tw pl fl tl v2 o2 b gm pa cd td]) := hD
    refine W.eq (g2 := F0 m 421 ls [.int (nI 1)]) rfl ?_
    have hce : cells + 1 ≤ 100 + j + 1 := Nat.succ_le_succ hce
    have hsl : slots + 6 ≤ 2000 + 6 * j + 6 := Nat.add_le_add_right hsl 6
    refine lv_istore (lv' := [(5, .int (nI 1)), (4, .int (nI (6 * j))), (0, .ref sA), (1, .ref x), (2, .ref (mo 0)), (3, .ref ou)]) hx hb dL_law_421 hl (by decide) rfl (fun ls hl => ?_)
    refine lv_aload_n hx hb dL_law_423 rfl (lv_at hl 4 rfl) ?_
    refine lw_rd hc hj 1 (by decide) hS 2 1 hl rfl rfl dL_law_424 dL_law_425 dL_law_427 (by decide) dL_law_428 dL_law_429 rfl ?_
    refine lw_rd hc hj 2 (by decide) hS 2 1 hl rfl rfl dL_law_430 dL_law_431 dL_law_433 (by decide) dL_law_434 dL_law_435 rfl ?_
    refine q_VBE (Bs := [wU C ou x0, wF C x nw tr hq iq tt sC ba z b b2 ph r n t f v o y cd, mF C mo (nI n) (nI y) tw pl fl tl v2 o2 b gm pa cd td]) (cs := [mF C mo (nI n) (nI y) tw pl fl tl v2 o2 b gm pa cd td]) (As := [.int (xs (6 * j + 1)), .int (xs (6 * j + 2))]) (rest := []) ⟨hx, hb, hml, hown, hts⟩ (M1_set l C mo (nI n) (nI y) tw pl fl tl v2 o2 (xs (6 * j + 1)) (xs (6 * j + 2)) b gm pa cd td h0).one (cwV 2 hts gL_law_X5_set rfl rfl rfl (by decide +kernel) ⟨Nat.le_of_ble_eq_true rfl, Nat.le_of_ble_eq_true rfl⟩) hK hV hE hP hD hS (fun _ h => h) [2] (by decide) rfl 76 rfl rfl rfl rfl hl.1 rfl (Nat.le_of_ble_eq_true rfl) dL_law_436 (lw_c0 hce hj hL) (lw_s0 hsl hj hL) (fun r w1 H locs hQ hF hS => ?_)
    obtain ⟨rfl, rfl⟩ := hQ
    obtain ⟨hP, hD⟩ := hF [mF C mo (nI n) (nI y) (nI 1) pl fl tl v2 o2 b gm pa cd td] (flat_one _).symm rfl
    have hP : va_P C.1 vwCl (List.flatten [wU C ou x0, wF C x nw tr hq iq tt sC ba z b b2 ph r n t f v o y cd, mF C mo (nI n) (nI y) (nI 1) pl fl tl v2 o2 b gm pa cd td]) H := hP
    have hD : va_D (lwA s) (List.flatten [wU C ou x0, wF C x nw tr hq iq tt sC ba z b b2 ph r n t f v o y cd, mF C mo (nI n) (nI y) (nI 1) pl fl tl v2 o2 b gm pa cd td]) := hD
    refine W.eq (g2 := F0 m 439 ls [.int (nI 0)]) rfl ?_
    refine lv_istore (lv' := [(6, .int (nI 0)), (5, .int (nI 1)), (4, .int (nI (6 * j))), (0, .ref sA), (1, .ref x), (2, .ref (mo 0)), (3, .ref ou)]) hx hb dL_law_439 hl (by decide) rfl (fun ls hl => ?_)
    have hP : va_P C.1 vwCl (List.flatten [wU C ou x0, wF C x nw tr hq iq tt sC ba z b b2 ph r n t f v o y cd, mF C mo (nI n) (nI y) (nI 1) pl fl tl v2 o2 b gm pa cd td]) H := hP
    have hD : va_D (lwA s) (List.flatten [wU C ou x0, wF C x nw tr hq iq tt sC ba z b b2 ph r n t f v o y cd, mF C mo (nI n) (nI y) (nI 1) pl fl tl v2 o2 b gm pa cd td]) := hD
    exact lw_tailT hc hj K 1 (by decide) (by decide) ⟨hok, hph, hfr, hy60, hcd, hpa⟩ (by omega) (by omega) hP hD hS hl 5 rfl 1 rfl [2, 3, 4, 5, 6] rfl 28 (by decide) dL_law_441 dL_law_442 dL_law_445 dL_law_447 dL_law_452 dL_law_454 dL_law_469 (by decide)
  · skip
    rcases cl1 (xs (6 * j + 2)) (lo := (leS a1)) (hi := (grS a1)) (Nat.lt_of_le_of_lt (grS_le a1) (by decide)) (leS_le a1) with h1 | ⟨a2, e2, ha2, hb2⟩
    · skip
      refine lv_aload_n hx hb dL_law_404 rfl (lv_at hl 2 rfl) ?_
      refine lw_rd hc hj 1 (by decide) hS 1 0 hl rfl rfl dL_law_405 dL_law_406 dL_law_408 (by decide) dL_law_409 dL_law_410 e1 ?_
      refine lw_rd hc hj 2 (by decide) hS 1 0 hl rfl rfl dL_law_411 dL_law_412 dL_law_414 (by decide) dL_law_415 dL_law_416 rfl ?_
      refine lv_aload_n hx hb dL_law_417 rfl (lv_at hl 4 rfl) ?_
      refine q_SWB1 (Bs := [wU C ou x0, wF C x nw tr hq iq tt sC ba z b b2 ph r n t f v o y cd, mF C mo (nI n) (nI y) tw pl fl tl v2 o2 b gm pa cd td]) (cs := [wU C ou x0, wF C x nw tr hq iq tt sC ba z b b2 ph r n t f v o y cd]) (As := [.ref x, .int (nI a1), .int (xs (6 * j + 2)), .ref ou]) (rest := []) ⟨hx, hb, hml, hown, hts⟩ (W2_set l hl0 C x a1 (xs (6 * j + 2)) nw tr hq iq tt sC ba z b b2 r n ph t f v o y cd ou x0 (by omega) h1) (vx_cwSW 4 hts gL_law_L_set rfl rfl rfl (by decide +kernel) ⟨Nat.le_of_ble_eq_true rfl, Nat.le_of_ble_eq_true rfl⟩) hK hV hE hP hD hS (fun _ h => h) [0, 1] (by decide) rfl rfl hl.1 rfl (Nat.le_of_ble_eq_true rfl) dL_law_418 (lw_c1 hce hj hL) (lw_s1 hsl hj hL) (fun r w1 H locs hQ hF hS => ?_)
      obtain ⟨rfl, rfl⟩ := hQ
      obtain ⟨hP, hD⟩ := hF [wU C ou x0, wF C x nw tr hq iq tt sC ba z b b2 ph r n t f v o y cd] rfl rfl
      have hP : va_P C.1 vwCl (List.flatten [wU C ou x0, wF C x nw tr hq iq tt sC ba z b b2 ph r n t f v o y cd, mF C mo (nI n) (nI y) tw pl fl tl v2 o2 b gm pa cd td]) H := hP
      have hD : va_D (lwA s) (List.flatten [wU C ou x0, wF C x nw tr hq iq tt sC ba z b b2 ph r n t f v o y cd, mF C mo (nI n) (nI y) tw pl fl tl v2 o2 b gm pa cd td]) := hD
      refine W.eq (g2 := F0 m 421 ls [.int (nI 2)]) rfl ?_
      have hce : cells + 1 ≤ 100 + j + 1 := Nat.succ_le_succ hce
      have hsl : slots + 6 ≤ 2000 + 6 * j + 6 := Nat.add_le_add_right hsl 6
      refine lv_istore (lv' := [(5, .int (nI 2)), (4, .int (nI (6 * j))), (0, .ref sA), (1, .ref x), (2, .ref (mo 0)), (3, .ref ou)]) hx hb dL_law_421 hl (by decide) rfl (fun ls hl => ?_)
      refine lv_aload_n hx hb dL_law_423 rfl (lv_at hl 4 rfl) ?_
      refine lw_rd hc hj 1 (by decide) hS 2 1 hl rfl rfl dL_law_424 dL_law_425 dL_law_427 (by decide) dL_law_428 dL_law_429 e1 ?_
      refine lw_rd hc hj 2 (by decide) hS 2 1 hl rfl rfl dL_law_430 dL_law_431 dL_law_433 (by decide) dL_law_434 dL_law_435 rfl ?_
      refine q_VBE (Bs := [wU C ou x0, wF C x nw tr hq iq tt sC ba z b b2 ph r n t f v o y cd, mF C mo (nI n) (nI y) tw pl fl tl v2 o2 b gm pa cd td]) (cs := [mF C mo (nI n) (nI y) tw pl fl tl v2 o2 b gm pa cd td]) (As := [.int (nI a1), .int (xs (6 * j + 2))]) (rest := []) ⟨hx, hb, hml, hown, hts⟩ (M2_set l C mo (nI n) (nI y) tw pl fl tl v2 o2 a1 (xs (6 * j + 2)) b gm pa cd td (by omega) h1).one (cwV 2 hts gL_law_X5_set rfl rfl rfl (by decide +kernel) ⟨Nat.le_of_ble_eq_true rfl, Nat.le_of_ble_eq_true rfl⟩) hK hV hE hP hD hS (fun _ h => h) [2] (by decide) rfl 76 rfl rfl rfl rfl hl.1 rfl (Nat.le_of_ble_eq_true rfl) dL_law_436 (lw_c0 hce hj hL) (lw_s0 hsl hj hL) (fun r w1 H locs hQ hF hS => ?_)
      obtain ⟨rfl, rfl⟩ := hQ
      obtain ⟨hP, hD⟩ := hF [mF C mo (nI n) (nI y) (nI 2) pl fl tl v2 o2 b gm pa cd td] (flat_one _).symm rfl
      have hP : va_P C.1 vwCl (List.flatten [wU C ou x0, wF C x nw tr hq iq tt sC ba z b b2 ph r n t f v o y cd, mF C mo (nI n) (nI y) (nI 2) pl fl tl v2 o2 b gm pa cd td]) H := hP
      have hD : va_D (lwA s) (List.flatten [wU C ou x0, wF C x nw tr hq iq tt sC ba z b b2 ph r n t f v o y cd, mF C mo (nI n) (nI y) (nI 2) pl fl tl v2 o2 b gm pa cd td]) := hD
      refine W.eq (g2 := F0 m 439 ls [.int (nI 0)]) rfl ?_
      refine lv_istore (lv' := [(6, .int (nI 0)), (5, .int (nI 2)), (4, .int (nI (6 * j))), (0, .ref sA), (1, .ref x), (2, .ref (mo 0)), (3, .ref ou)]) hx hb dL_law_439 hl (by decide) rfl (fun ls hl => ?_)
      have hP : va_P C.1 vwCl (List.flatten [wU C ou x0, wF C x nw tr hq iq tt sC ba z b b2 ph r n t f v o y cd, mF C mo (nI n) (nI y) (nI 2) pl fl tl v2 o2 b gm pa cd td]) H := hP
      have hD : va_D (lwA s) (List.flatten [wU C ou x0, wF C x nw tr hq iq tt sC ba z b b2 ph r n t f v o y cd, mF C mo (nI n) (nI y) (nI 2) pl fl tl v2 o2 b gm pa cd td]) := hD
      exact lw_tailT hc hj K 2 (by decide) (by decide) ⟨hok, hph, hfr, hy60, hcd, hpa⟩ (by omega) (by omega) hP hD hS hl 5 rfl 1 rfl [2, 3, 4, 5, 6] rfl 28 (by decide) dL_law_441 dL_law_442 dL_law_445 dL_law_447 dL_law_452 dL_law_454 dL_law_469 (by decide)
    · skip
      have hlo : leS a1 ≤ a2 := ha2
      have hhi : a2 ≤ grS a1 := hb2
      refine lv_aload_n hx hb dL_law_404 rfl (lv_at hl 2 rfl) ?_
      refine lw_rd hc hj 1 (by decide) hS 1 0 hl rfl rfl dL_law_405 dL_law_406 dL_law_408 (by decide) dL_law_409 dL_law_410 e1 ?_
      refine lw_rd hc hj 2 (by decide) hS 1 0 hl rfl rfl dL_law_411 dL_law_412 dL_law_414 (by decide) dL_law_415 dL_law_416 e2 ?_
      refine lv_aload_n hx hb dL_law_417 rfl (lv_at hl 4 rfl) ?_
      refine q_SWB (Bs := [wU C ou x0, wF C x nw tr hq iq tt sC ba z b b2 ph r n t f v o y cd, mF C mo (nI n) (nI y) tw pl fl tl v2 o2 b gm pa cd td]) (cs := [wU C ou x0, wF C x nw tr hq iq tt sC ba z b b2 ph r n t f v o y cd]) (As := [.ref x, .int (nI a1), .int (nI a2), .ref ou]) (rest := []) ⟨hx, hb, hml, hown, hts⟩ (W_set l C x nw tr hq iq tt sC z ba ph r n b t f v o a1 a2 b2 y cd ou x0 hr6 hn6 (by omega) (by omega) (by omega) (grS_le _)) (vx_cwSW 4 hts gL_law_L_set rfl rfl rfl (by decide +kernel) ⟨Nat.le_of_ble_eq_true rfl, Nat.le_of_ble_eq_true rfl⟩) hK hV hE hP hD hS (fun _ h => h) [0, 1] (by decide) rfl rfl hl.1 rfl (Nat.le_of_ble_eq_true rfl) dL_law_418 (lw_c0 hce hj hL) (lw_s0 hsl hj hL) (fun r w1 H locs hQ hF hS => ?_)
      obtain ⟨rfl, rfl⟩ := hQ
      obtain ⟨hP, hD⟩ := hF [wU C ou ((nI (bs b a1)).toInt64), wF C x nw tr hq iq tt sC ba z (ss b (upN (bs b) a1 a2)) b2 (upB ph (kJ n r) b) (kR n r) (kC n) t (upN (upN (upN (upN f 0 0) 1 0) 2 0) 3 0) v o y cd] rfl rfl
      have hP : va_P C.1 vwCl (List.flatten [wU C ou ((nI (bs b a1)).toInt64), wF C x nw tr hq iq tt sC ba z (ss b (upN (bs b) a1 a2)) b2 (upB ph (kJ n r) b) (kR n r) (kC n) t (upN (upN (upN (upN f 0 0) 1 0) 2 0) 3 0) v o y cd, mF C mo (nI n) (nI y) tw pl fl tl v2 o2 b gm pa cd td]) H := hP
      have hD : va_D (lwA s) (List.flatten [wU C ou ((nI (bs b a1)).toInt64), wF C x nw tr hq iq tt sC ba z (ss b (upN (bs b) a1 a2)) b2 (upB ph (kJ n r) b) (kR n r) (kC n) t (upN (upN (upN (upN f 0 0) 1 0) 2 0) 3 0) v o y cd, mF C mo (nI n) (nI y) tw pl fl tl v2 o2 b gm pa cd td]) := hD
      refine W.eq (g2 := F0 m 421 ls [.int (nI 0)]) rfl ?_
      refine lv_istore (lv' := [(5, .int (nI 0)), (4, .int (nI (6 * j))), (0, .ref sA), (1, .ref x), (2, .ref (mo 0)), (3, .ref ou)]) hx hb dL_law_421 hl (by decide) rfl (fun ls hl => ?_)
      refine lv_aload_n hx hb dL_law_423 rfl (lv_at hl 4 rfl) ?_
      refine lw_rd hc hj 1 (by decide) hS 2 1 hl rfl rfl dL_law_424 dL_law_425 dL_law_427 (by decide) dL_law_428 dL_law_429 e1 ?_
      refine lw_rd hc hj 2 (by decide) hS 2 1 hl rfl rfl dL_law_430 dL_law_431 dL_law_433 (by decide) dL_law_434 dL_law_435 e2 ?_
      refine q_VBE (Bs := [wU C ou ((nI (bs b a1)).toInt64), wF C x nw tr hq iq tt sC ba z (ss b (upN (bs b) a1 a2)) b2 (upB ph (kJ n r) b) (kR n r) (kC n) t (upN (upN (upN (upN f 0 0) 1 0) 2 0) 3 0) v o y cd, mF C mo (nI n) (nI y) tw pl fl tl v2 o2 b gm pa cd td]) (cs := [mF C mo (nI n) (nI y) tw pl fl tl v2 o2 b gm pa cd td]) (As := [.int (nI a1), .int (nI a2)]) (rest := []) ⟨hx, hb, hml, hown, hts⟩ (M_set l C mo (nI y) tw pl fl tl v2 o2 ph r n pa b a1 a2 gm cd td hr6 hn6 hpa (by omega) (by omega) (by omega) (grS_le _)).one (cwV 2 hts gL_law_X5_set rfl rfl rfl (by decide +kernel) ⟨Nat.le_of_ble_eq_true rfl, Nat.le_of_ble_eq_true rfl⟩) hK hV hE hP hD hS (fun _ h => h) [2] (by decide) rfl 76 rfl rfl rfl rfl hl.1 rfl (Nat.le_of_ble_eq_true rfl) dL_law_436 (lw_c0 hce hj hL) (lw_s0 hsl hj hL) (fun r w1 H locs hQ hF hS => ?_)
      obtain ⟨paq6, rfl, rfl, hmh⟩ := hQ
      obtain ⟨hP, hD⟩ := hF [mF C mo (nI (kC n)) (nI y) (nI 0) pl fl tl v2 o2 (ss b (upN (bs b) a1 a2)) gm paq6 cd td] (flat_one _).symm rfl
      have hP : va_P C.1 vwCl (List.flatten [wU C ou ((nI (bs b a1)).toInt64), wF C x nw tr hq iq tt sC ba z (ss b (upN (bs b) a1 a2)) b2 (upB ph (kJ n r) b) (kR n r) (kC n) t (upN (upN (upN (upN f 0 0) 1 0) 2 0) 3 0) v o y cd, mF C mo (nI (kC n)) (nI y) (nI 0) pl fl tl v2 o2 (ss b (upN (bs b) a1 a2)) gm paq6 cd td]) H := hP
      have hD : va_D (lwA s) (List.flatten [wU C ou ((nI (bs b a1)).toInt64), wF C x nw tr hq iq tt sC ba z (ss b (upN (bs b) a1 a2)) b2 (upB ph (kJ n r) b) (kR n r) (kC n) t (upN (upN (upN (upN f 0 0) 1 0) 2 0) 3 0) v o y cd, mF C mo (nI (kC n)) (nI y) (nI 0) pl fl tl v2 o2 (ss b (upN (bs b) a1 a2)) gm paq6 cd td]) := hD
      refine W.eq (g2 := F0 m 439 ls [.int (nI (bs b a1))]) rfl ?_
      refine lv_istore (lv' := [(6, .int (nI (bs b a1))), (5, .int (nI 0)), (4, .int (nI (6 * j))), (0, .ref sA), (1, .ref x), (2, .ref (mo 0)), (3, .ref ou)]) hx hb dL_law_439 hl (by decide) rfl (fun ls hl => ?_)
      have hP : va_P C.1 vwCl (List.flatten [wU C ou ((nI (bs b a1)).toInt64), wF C x nw tr hq iq tt sC ba z (ss b (upN (bs b) a1 a2)) b2 (upB ph (kJ n r) b) (kR n r) (kC n) t (upN (upN (upN (upN f 0 0) 1 0) 2 0) 3 0) v o y cd, mF C mo (nI (kC n)) (nI y) (nI 0) pl fl tl v2 o2 (ss b (upN (bs b) a1 a2)) gm paq6 cd td]) H := hP
      have hD : va_D (lwA s) (List.flatten [wU C ou ((nI (bs b a1)).toInt64), wF C x nw tr hq iq tt sC ba z (ss b (upN (bs b) a1 a2)) b2 (upB ph (kJ n r) b) (kR n r) (kC n) t (upN (upN (upN (upN f 0 0) 1 0) 2 0) 3 0) v o y cd, mF C mo (nI (kC n)) (nI y) (nI 0) pl fl tl v2 o2 (ss b (upN (bs b) a1 a2)) gm paq6 cd td]) := hD
      exact lw_tailI hc hj K ⟨okS_ss hok (by omega) hlo hhi, okH_keep hph hok, frB_0 _ _ _, hy60, hcd, hmh⟩ (by omega) (by omega) hP hD hS hl 5 rfl 1 rfl 6 rfl 0 rfl [2, 3, 4, 5, 6] rfl dL_law_441 dL_law_442 dL_law_445 dL_law_447 dL_law_452 dL_law_454 dL_law_457 dL_law_458 dL_law_459 dL_law_460 dL_law_462 dL_law_463 dL_law_464 dL_law_469 (by decide)
set_option maxHeartbeats 4000000 in
set_option maxRecDepth 100000 in
theorem lw_pull (hc : lwC p l s m meth c C sA L xs) (hj : 6 * j + 6 ≤ L) (K : lwAt p l e s m below meth c Q C sA x ou sC nw tr hq iq tt ba mo j 1507 (j + 1)) : lwAt p l e s m below meth c Q C sA x ou sC nw tr hq iq tt ba mo j 472 j := by
  intro x0 z b b2 ph r n t f v o y cd tw pl fl tl v2 o2 gm pa td cells slots H locs ls okx hce hsl hP hD hS hl
  obtain ⟨hok, hph, hfr, hy60, hcd, hpa⟩ := okx
  have hB : OkB b := hok.1
  have hU : sumU b ≤ 9999 := hok.2
  have hr6 : r < 6 := hph.1
  have hn6 : n ≤ 6 := hph.2.1
  have hc0 := hc
  obtain ⟨hx, hb, hml, hown, hts, hK, hV, hE, hX, hsb, hL, hl0⟩ := hc0
  rcases cl1 (xs (6 * j + 1)) (lo := 0) (hi := 3) (by decide) (by decide) with h0 | ⟨a1, e1, ha1, hb1⟩
  · skip
    refine lv_aload_n hx hb dL_law_472 rfl (lv_at hl 2 rfl) ?_
    refine lw_rd hc hj 1 (by decide) hS 1 0 hl rfl rfl dL_law_473 dL_law_474 dL_law_476 (by decide) dL_law_477 dL_law_478 rfl ?_
    refine lv_aload_n hx hb dL_law_479 rfl (lv_at hl 4 rfl) ?_
    refine q_SWB1 (Bs := [wU C ou x0, wF C x nw tr hq iq tt sC ba z b b2 ph r n t f v o y cd, mF C mo (nI n) (nI y) tw pl fl tl v2 o2 b gm pa cd td]) (cs := [wU C ou x0, wF C x nw tr hq iq tt sC ba z b b2 ph r n t f v o y cd]) (As := [.ref x, .int (xs (6 * j + 1)), .ref ou]) (rest := []) ⟨hx, hb, hml, hown, hts⟩ (W1_pull l hl0 C x (xs (6 * j + 1)) nw tr hq iq tt sC ba z b b2 r n ph t f v o y cd ou x0 h0) (vx_cwSW 3 hts gL_law_L_pull rfl rfl rfl (by decide +kernel) ⟨Nat.le_of_ble_eq_true rfl, Nat.le_of_ble_eq_true rfl⟩) hK hV hE hP hD hS (fun _ h => h) [0, 1] (by decide) rfl rfl hl.1 rfl (Nat.le_of_ble_eq_true rfl) dL_law_480 (lw_c1 hce hj hL) (lw_s1 hsl hj hL) (fun r w1 H locs hQ hF hS => ?_)
    obtain ⟨rfl, rfl⟩ := hQ
    obtain ⟨hP, hD⟩ := hF [wU C ou x0, wF C x nw tr hq iq tt sC ba z b b2 ph r n t f v o y cd] rfl rfl
    have hP : va_P C.1 vwCl (List.flatten [wU C ou x0, wF C x nw tr hq iq tt sC ba z b b2 ph r n t f v o y cd, mF C mo (nI n) (nI y) tw pl fl tl v2 o2 b gm pa cd td]) H := hP
    have hD : va_D (lwA s) (List.flatten [wU C ou x0, wF C x nw tr hq iq tt sC ba z b b2 ph r n t f v o y cd, mF C mo (nI n) (nI y) tw pl fl tl v2 o2 b gm pa cd td]) := hD
    refine W.eq (g2 := F0 m 483 ls [.int (nI 1)]) rfl ?_
    have hce : cells + 1 ≤ 100 + j + 1 := Nat.succ_le_succ hce
    have hsl : slots + 6 ≤ 2000 + 6 * j + 6 := Nat.add_le_add_right hsl 6
    refine lv_istore (lv' := [(5, .int (nI 1)), (4, .int (nI (6 * j))), (0, .ref sA), (1, .ref x), (2, .ref (mo 0)), (3, .ref ou)]) hx hb dL_law_483 hl (by decide) rfl (fun ls hl => ?_)
    refine lv_aload_n hx hb dL_law_485 rfl (lv_at hl 4 rfl) ?_
    refine lw_rd hc hj 1 (by decide) hS 2 1 hl rfl rfl dL_law_486 dL_law_487 dL_law_489 (by decide) dL_law_490 dL_law_491 rfl ?_
    refine q_VBE (Bs := [wU C ou x0, wF C x nw tr hq iq tt sC ba z b b2 ph r n t f v o y cd, mF C mo (nI n) (nI y) tw pl fl tl v2 o2 b gm pa cd td]) (cs := [mF C mo (nI n) (nI y) tw pl fl tl v2 o2 b gm pa cd td]) (As := [.int (xs (6 * j + 1))]) (rest := []) ⟨hx, hb, hml, hown, hts⟩ (M1_pull l C mo (nI n) (nI y) tw pl fl tl v2 o2 (xs (6 * j + 1)) b gm pa cd td h0).one (cwV 1 hts gL_law_X5_pull rfl rfl rfl (by decide +kernel) ⟨Nat.le_of_ble_eq_true rfl, Nat.le_of_ble_eq_true rfl⟩) hK hV hE hP hD hS (fun _ h => h) [2] (by decide) rfl 76 rfl rfl rfl rfl hl.1 rfl (Nat.le_of_ble_eq_true rfl) dL_law_492 (lw_c0 hce hj hL) (lw_s0 hsl hj hL) (fun r w1 H locs hQ hF hS => ?_)
    obtain ⟨rfl, rfl⟩ := hQ
    obtain ⟨hP, hD⟩ := hF [mF C mo (nI n) (nI y) (nI 1) pl fl tl v2 o2 b gm pa cd td] (flat_one _).symm rfl
    have hP : va_P C.1 vwCl (List.flatten [wU C ou x0, wF C x nw tr hq iq tt sC ba z b b2 ph r n t f v o y cd, mF C mo (nI n) (nI y) (nI 1) pl fl tl v2 o2 b gm pa cd td]) H := hP
    have hD : va_D (lwA s) (List.flatten [wU C ou x0, wF C x nw tr hq iq tt sC ba z b b2 ph r n t f v o y cd, mF C mo (nI n) (nI y) (nI 1) pl fl tl v2 o2 b gm pa cd td]) := hD
    refine W.eq (g2 := F0 m 495 ls [.int (nI 0)]) rfl ?_
    refine lv_istore (lv' := [(6, .int (nI 0)), (5, .int (nI 1)), (4, .int (nI (6 * j))), (0, .ref sA), (1, .ref x), (2, .ref (mo 0)), (3, .ref ou)]) hx hb dL_law_495 hl (by decide) rfl (fun ls hl => ?_)
    have hP : va_P C.1 vwCl (List.flatten [wU C ou x0, wF C x nw tr hq iq tt sC ba z b b2 ph r n t f v o y cd, mF C mo (nI n) (nI y) (nI 1) pl fl tl v2 o2 b gm pa cd td]) H := hP
    have hD : va_D (lwA s) (List.flatten [wU C ou x0, wF C x nw tr hq iq tt sC ba z b b2 ph r n t f v o y cd, mF C mo (nI n) (nI y) (nI 1) pl fl tl v2 o2 b gm pa cd td]) := hD
    exact lw_tailT hc hj K 1 (by decide) (by decide) ⟨hok, hph, hfr, hy60, hcd, hpa⟩ (by omega) (by omega) hP hD hS hl 5 rfl 1 rfl [2, 3, 4, 5, 6] rfl 28 (by decide) dL_law_497 dL_law_498 dL_law_501 dL_law_503 dL_law_508 dL_law_510 dL_law_525 (by decide)
  · skip
    by_cases hs : sumU b < 9999
    · skip
      refine lv_aload_n hx hb dL_law_472 rfl (lv_at hl 2 rfl) ?_
      refine lw_rd hc hj 1 (by decide) hS 1 0 hl rfl rfl dL_law_473 dL_law_474 dL_law_476 (by decide) dL_law_477 dL_law_478 e1 ?_
      refine lv_aload_n hx hb dL_law_479 rfl (lv_at hl 4 rfl) ?_
      refine q_SWB (Bs := [wU C ou x0, wF C x nw tr hq iq tt sC ba z b b2 ph r n t f v o y cd, mF C mo (nI n) (nI y) tw pl fl tl v2 o2 b gm pa cd td]) (cs := [wU C ou x0, wF C x nw tr hq iq tt sC ba z b b2 ph r n t f v o y cd]) (As := [.ref x, .int (nI a1), .ref ou]) (rest := []) ⟨hx, hb, hml, hown, hts⟩ (W_pull l C x nw tr hq iq tt sC z ba ph r n b a1 b2 t f v o y cd ou x0 hr6 hn6 hB (by omega) (by omega)) (vx_cwSW 3 hts gL_law_L_pull rfl rfl rfl (by decide +kernel) ⟨Nat.le_of_ble_eq_true rfl, Nat.le_of_ble_eq_true rfl⟩) hK hV hE hP hD hS (fun _ h => h) [0, 1] (by decide) rfl rfl hl.1 rfl (Nat.le_of_ble_eq_true rfl) dL_law_480 (lw_c0 hce hj hL) (lw_s0 hsl hj hL) (fun r w1 H locs hQ hF hS => ?_)
      obtain ⟨rfl, rfl⟩ := hQ
      obtain ⟨hP, hD⟩ := hF [wU C ou ((nI (bp (pulB b a1) a1)).toInt64), wF C x nw tr hq iq tt sC ba z (pulB b a1) b2 (upB ph (kJ n r) b) (kR n r) (kC n) t f v o y cd] rfl rfl
      have hP : va_P C.1 vwCl (List.flatten [wU C ou ((nI (bp (pulB b a1) a1)).toInt64), wF C x nw tr hq iq tt sC ba z (pulB b a1) b2 (upB ph (kJ n r) b) (kR n r) (kC n) t f v o y cd, mF C mo (nI n) (nI y) tw pl fl tl v2 o2 b gm pa cd td]) H := hP
      have hD : va_D (lwA s) (List.flatten [wU C ou ((nI (bp (pulB b a1) a1)).toInt64), wF C x nw tr hq iq tt sC ba z (pulB b a1) b2 (upB ph (kJ n r) b) (kR n r) (kC n) t f v o y cd, mF C mo (nI n) (nI y) tw pl fl tl v2 o2 b gm pa cd td]) := hD
      refine W.eq (g2 := F0 m 483 ls [.int (nI 0)]) rfl ?_
      refine lv_istore (lv' := [(5, .int (nI 0)), (4, .int (nI (6 * j))), (0, .ref sA), (1, .ref x), (2, .ref (mo 0)), (3, .ref ou)]) hx hb dL_law_483 hl (by decide) rfl (fun ls hl => ?_)
      refine lv_aload_n hx hb dL_law_485 rfl (lv_at hl 4 rfl) ?_
      refine lw_rd hc hj 1 (by decide) hS 2 1 hl rfl rfl dL_law_486 dL_law_487 dL_law_489 (by decide) dL_law_490 dL_law_491 e1 ?_
      refine q_VBE (Bs := [wU C ou ((nI (bp (pulB b a1) a1)).toInt64), wF C x nw tr hq iq tt sC ba z (pulB b a1) b2 (upB ph (kJ n r) b) (kR n r) (kC n) t f v o y cd, mF C mo (nI n) (nI y) tw pl fl tl v2 o2 b gm pa cd td]) (cs := [mF C mo (nI n) (nI y) tw pl fl tl v2 o2 b gm pa cd td]) (As := [.int (nI a1)]) (rest := []) ⟨hx, hb, hml, hown, hts⟩ (M_pull l C mo (nI y) tw pl fl tl v2 o2 ph r n pa b a1 gm cd td hr6 hn6 hpa hB (by omega) (by omega)).one (cwV 1 hts gL_law_X5_pull rfl rfl rfl (by decide +kernel) ⟨Nat.le_of_ble_eq_true rfl, Nat.le_of_ble_eq_true rfl⟩) hK hV hE hP hD hS (fun _ h => h) [2] (by decide) rfl 76 rfl rfl rfl rfl hl.1 rfl (Nat.le_of_ble_eq_true rfl) dL_law_492 (lw_c0 hce hj hL) (lw_s0 hsl hj hL) (fun r w1 H locs hQ hF hS => ?_)
      obtain ⟨paq4, rfl, rfl, hmh⟩ := hQ
      obtain ⟨hP, hD⟩ := hF [mF C mo (nI (kC n)) (nI y) (nI 0) pl fl tl v2 o2 (pulB b a1) gm paq4 cd td] (flat_one _).symm rfl
      have hP : va_P C.1 vwCl (List.flatten [wU C ou ((nI (bp (pulB b a1) a1)).toInt64), wF C x nw tr hq iq tt sC ba z (pulB b a1) b2 (upB ph (kJ n r) b) (kR n r) (kC n) t f v o y cd, mF C mo (nI (kC n)) (nI y) (nI 0) pl fl tl v2 o2 (pulB b a1) gm paq4 cd td]) H := hP
      have hD : va_D (lwA s) (List.flatten [wU C ou ((nI (bp (pulB b a1) a1)).toInt64), wF C x nw tr hq iq tt sC ba z (pulB b a1) b2 (upB ph (kJ n r) b) (kR n r) (kC n) t f v o y cd, mF C mo (nI (kC n)) (nI y) (nI 0) pl fl tl v2 o2 (pulB b a1) gm paq4 cd td]) := hD
      refine W.eq (g2 := F0 m 495 ls [.int (nI (bp (pulB b a1) a1))]) rfl ?_
      refine lv_istore (lv' := [(6, .int (nI (bp (pulB b a1) a1))), (5, .int (nI 0)), (4, .int (nI (6 * j))), (0, .ref sA), (1, .ref x), (2, .ref (mo 0)), (3, .ref ou)]) hx hb dL_law_495 hl (by decide) rfl (fun ls hl => ?_)
      have hP : va_P C.1 vwCl (List.flatten [wU C ou ((nI (bp (pulB b a1) a1)).toInt64), wF C x nw tr hq iq tt sC ba z (pulB b a1) b2 (upB ph (kJ n r) b) (kR n r) (kC n) t f v o y cd, mF C mo (nI (kC n)) (nI y) (nI 0) pl fl tl v2 o2 (pulB b a1) gm paq4 cd td]) H := hP
      have hD : va_D (lwA s) (List.flatten [wU C ou ((nI (bp (pulB b a1) a1)).toInt64), wF C x nw tr hq iq tt sC ba z (pulB b a1) b2 (upB ph (kJ n r) b) (kR n r) (kC n) t f v o y cd, mF C mo (nI (kC n)) (nI y) (nI 0) pl fl tl v2 o2 (pulB b a1) gm paq4 cd td]) := hD
      exact lw_tailI hc hj K ⟨okS_pul hok (by omega) (by omega), okH_keep hph hok, frB_of hfr (ixOf_pulB _ _), hy60, hcd, hmh⟩ (by omega) (by omega) hP hD hS hl 5 rfl 1 rfl 6 rfl 0 rfl [2, 3, 4, 5, 6] rfl dL_law_497 dL_law_498 dL_law_501 dL_law_503 dL_law_508 dL_law_510 dL_law_513 dL_law_514 dL_law_515 dL_law_516 dL_law_518 dL_law_519 dL_law_520 dL_law_525 (by decide)
    · skip
      refine lv_aload_n hx hb dL_law_472 rfl (lv_at hl 2 rfl) ?_
      refine lw_rd hc hj 1 (by decide) hS 1 0 hl rfl rfl dL_law_473 dL_law_474 dL_law_476 (by decide) dL_law_477 dL_law_478 e1 ?_
      refine lv_aload_n hx hb dL_law_479 rfl (lv_at hl 4 rfl) ?_
      refine q_SWB1 (Bs := [wU C ou x0, wF C x nw tr hq iq tt sC ba z b b2 ph r n t f v o y cd, mF C mo (nI n) (nI y) tw pl fl tl v2 o2 b gm pa cd td]) (cs := [wU C ou x0, wF C x nw tr hq iq tt sC ba z b b2 ph r n t f v o y cd]) (As := [.ref x, .int (nI a1), .ref ou]) (rest := []) ⟨hx, hb, hml, hown, hts⟩ (W2_pull l hl0 C x nw tr hq iq tt sC z b a1 ba b2 r n ph t f v o y cd ou x0 (by omega) (by omega)) (vx_cwSW 3 hts gL_law_L_pull rfl rfl rfl (by decide +kernel) ⟨Nat.le_of_ble_eq_true rfl, Nat.le_of_ble_eq_true rfl⟩) hK hV hE hP hD hS (fun _ h => h) [0, 1] (by decide) rfl rfl hl.1 rfl (Nat.le_of_ble_eq_true rfl) dL_law_480 (lw_c1 hce hj hL) (lw_s1 hsl hj hL) (fun r w1 H locs hQ hF hS => ?_)
      obtain ⟨rfl, rfl⟩ := hQ
      obtain ⟨hP, hD⟩ := hF [wU C ou x0, wF C x nw tr hq iq tt sC ba z b b2 ph r n t f v o y cd] rfl rfl
      have hP : va_P C.1 vwCl (List.flatten [wU C ou x0, wF C x nw tr hq iq tt sC ba z b b2 ph r n t f v o y cd, mF C mo (nI n) (nI y) tw pl fl tl v2 o2 b gm pa cd td]) H := hP
      have hD : va_D (lwA s) (List.flatten [wU C ou x0, wF C x nw tr hq iq tt sC ba z b b2 ph r n t f v o y cd, mF C mo (nI n) (nI y) tw pl fl tl v2 o2 b gm pa cd td]) := hD
      refine W.eq (g2 := F0 m 483 ls [.int (nI 2)]) rfl ?_
      have hce : cells + 1 ≤ 100 + j + 1 := Nat.succ_le_succ hce
      have hsl : slots + 6 ≤ 2000 + 6 * j + 6 := Nat.add_le_add_right hsl 6
      refine lv_istore (lv' := [(5, .int (nI 2)), (4, .int (nI (6 * j))), (0, .ref sA), (1, .ref x), (2, .ref (mo 0)), (3, .ref ou)]) hx hb dL_law_483 hl (by decide) rfl (fun ls hl => ?_)
      refine lv_aload_n hx hb dL_law_485 rfl (lv_at hl 4 rfl) ?_
      refine lw_rd hc hj 1 (by decide) hS 2 1 hl rfl rfl dL_law_486 dL_law_487 dL_law_489 (by decide) dL_law_490 dL_law_491 e1 ?_
      refine q_VBE (Bs := [wU C ou x0, wF C x nw tr hq iq tt sC ba z b b2 ph r n t f v o y cd, mF C mo (nI n) (nI y) tw pl fl tl v2 o2 b gm pa cd td]) (cs := [mF C mo (nI n) (nI y) tw pl fl tl v2 o2 b gm pa cd td]) (As := [.int (nI a1)]) (rest := []) ⟨hx, hb, hml, hown, hts⟩ (M2_pull l C mo (nI n) (nI y) tw pl fl tl v2 o2 b a1 gm pa cd td (by omega) (by omega)).one (cwV 1 hts gL_law_X5_pull rfl rfl rfl (by decide +kernel) ⟨Nat.le_of_ble_eq_true rfl, Nat.le_of_ble_eq_true rfl⟩) hK hV hE hP hD hS (fun _ h => h) [2] (by decide) rfl 76 rfl rfl rfl rfl hl.1 rfl (Nat.le_of_ble_eq_true rfl) dL_law_492 (lw_c0 hce hj hL) (lw_s0 hsl hj hL) (fun r w1 H locs hQ hF hS => ?_)
      obtain ⟨rfl, rfl⟩ := hQ
      obtain ⟨hP, hD⟩ := hF [mF C mo (nI n) (nI y) (nI 2) pl fl tl v2 o2 b gm pa cd td] (flat_one _).symm rfl
      have hP : va_P C.1 vwCl (List.flatten [wU C ou x0, wF C x nw tr hq iq tt sC ba z b b2 ph r n t f v o y cd, mF C mo (nI n) (nI y) (nI 2) pl fl tl v2 o2 b gm pa cd td]) H := hP
      have hD : va_D (lwA s) (List.flatten [wU C ou x0, wF C x nw tr hq iq tt sC ba z b b2 ph r n t f v o y cd, mF C mo (nI n) (nI y) (nI 2) pl fl tl v2 o2 b gm pa cd td]) := hD
      refine W.eq (g2 := F0 m 495 ls [.int (nI 0)]) rfl ?_
      refine lv_istore (lv' := [(6, .int (nI 0)), (5, .int (nI 2)), (4, .int (nI (6 * j))), (0, .ref sA), (1, .ref x), (2, .ref (mo 0)), (3, .ref ou)]) hx hb dL_law_495 hl (by decide) rfl (fun ls hl => ?_)
      have hP : va_P C.1 vwCl (List.flatten [wU C ou x0, wF C x nw tr hq iq tt sC ba z b b2 ph r n t f v o y cd, mF C mo (nI n) (nI y) (nI 2) pl fl tl v2 o2 b gm pa cd td]) H := hP
      have hD : va_D (lwA s) (List.flatten [wU C ou x0, wF C x nw tr hq iq tt sC ba z b b2 ph r n t f v o y cd, mF C mo (nI n) (nI y) (nI 2) pl fl tl v2 o2 b gm pa cd td]) := hD
      exact lw_tailT hc hj K 2 (by decide) (by decide) ⟨hok, hph, hfr, hy60, hcd, hpa⟩ (by omega) (by omega) hP hD hS hl 5 rfl 1 rfl [2, 3, 4, 5, 6] rfl 28 (by decide) dL_law_497 dL_law_498 dL_law_501 dL_law_503 dL_law_508 dL_law_510 dL_law_525 (by decide)
set_option maxHeartbeats 4000000 in
set_option maxRecDepth 100000 in
theorem lw_play (hc : lwC p l s m meth c C sA L xs) (hj : 6 * j + 6 ≤ L) (K : lwAt p l e s m below meth c Q C sA x ou sC nw tr hq iq tt ba mo j 1507 (j + 1)) : lwAt p l e s m below meth c Q C sA x ou sC nw tr hq iq tt ba mo j 528 j := by
  intro x0 z b b2 ph r n t f v o y cd tw pl fl tl v2 o2 gm pa td cells slots H locs ls okx hce hsl hP hD hS hl
  obtain ⟨hok, hph, hfr, hy60, hcd, hpa⟩ := okx
  have hB : OkB b := hok.1
  have hU : sumU b ≤ 9999 := hok.2
  have hr6 : r < 6 := hph.1
  have hn6 : n ≤ 6 := hph.2.1
  have hc0 := hc
  obtain ⟨hx, hb, hml, hown, hts, hK, hV, hE, hX, hsb, hL, hl0⟩ := hc0
  rcases cl1 (xs (6 * j + 1)) (lo := 0) (hi := 2) (by decide) (by decide) with h0 | ⟨a1, e1, ha1, hb1⟩
  · skip
    refine lv_aload_n hx hb dL_law_528 rfl (lv_at hl 2 rfl) ?_
    refine lw_rd hc hj 1 (by decide) hS 1 0 hl rfl rfl dL_law_529 dL_law_530 dL_law_532 (by decide) dL_law_533 dL_law_534 rfl ?_
    refine lw_rd hc hj 2 (by decide) hS 1 0 hl rfl rfl dL_law_535 dL_law_536 dL_law_538 (by decide) dL_law_539 dL_law_540 rfl ?_
    refine lv_aload_n hx hb dL_law_541 rfl (lv_at hl 4 rfl) ?_
    refine q_SWB1 (Bs := [wU C ou x0, wF C x nw tr hq iq tt sC ba z b b2 ph r n t f v o y cd, mF C mo (nI n) (nI y) tw pl fl tl v2 o2 b gm pa cd td]) (cs := [wU C ou x0, wF C x nw tr hq iq tt sC ba z b b2 ph r n t f v o y cd]) (As := [.ref x, .int (xs (6 * j + 1)), .int (xs (6 * j + 2)), .ref ou]) (rest := []) ⟨hx, hb, hml, hown, hts⟩ (W1a_play l hl0 C x (xs (6 * j + 1)) (xs (6 * j + 2)) nw tr hq iq tt sC ba z b b2 r n ph t f v o y cd ou x0 h0) (vx_cwSW 4 hts gL_law_L_play rfl rfl rfl (by decide +kernel) ⟨Nat.le_of_ble_eq_true rfl, Nat.le_of_ble_eq_true rfl⟩) hK hV hE hP hD hS (fun _ h => h) [0, 1] (by decide) rfl rfl hl.1 rfl (Nat.le_of_ble_eq_true rfl) dL_law_542 (lw_c1 hce hj hL) (lw_s1 hsl hj hL) (fun r w1 H locs hQ hF hS => ?_)
    obtain ⟨rfl, rfl⟩ := hQ
    obtain ⟨hP, hD⟩ := hF [wU C ou x0, wF C x nw tr hq iq tt sC ba z b b2 ph r n t f v o y cd] rfl rfl
    have hP : va_P C.1 vwCl (List.flatten [wU C ou x0, wF C x nw tr hq iq tt sC ba z b b2 ph r n t f v o y cd, mF C mo (nI n) (nI y) tw pl fl tl v2 o2 b gm pa cd td]) H := hP
    have hD : va_D (lwA s) (List.flatten [wU C ou x0, wF C x nw tr hq iq tt sC ba z b b2 ph r n t f v o y cd, mF C mo (nI n) (nI y) tw pl fl tl v2 o2 b gm pa cd td]) := hD
    refine W.eq (g2 := F0 m 545 ls [.int (nI 1)]) rfl ?_
    have hce : cells + 1 ≤ 100 + j + 1 := Nat.succ_le_succ hce
    have hsl : slots + 6 ≤ 2000 + 6 * j + 6 := Nat.add_le_add_right hsl 6
    refine lv_istore (lv' := [(5, .int (nI 1)), (4, .int (nI (6 * j))), (0, .ref sA), (1, .ref x), (2, .ref (mo 0)), (3, .ref ou)]) hx hb dL_law_545 hl (by decide) rfl (fun ls hl => ?_)
    refine lv_aload_n hx hb dL_law_547 rfl (lv_at hl 4 rfl) ?_
    refine lw_rd hc hj 1 (by decide) hS 2 1 hl rfl rfl dL_law_548 dL_law_549 dL_law_551 (by decide) dL_law_552 dL_law_553 rfl ?_
    refine lw_rd hc hj 2 (by decide) hS 2 1 hl rfl rfl dL_law_554 dL_law_555 dL_law_557 (by decide) dL_law_558 dL_law_559 rfl ?_
    refine q_VBE (Bs := [wU C ou x0, wF C x nw tr hq iq tt sC ba z b b2 ph r n t f v o y cd, mF C mo (nI n) (nI y) tw pl fl tl v2 o2 b gm pa cd td]) (cs := [mF C mo (nI n) (nI y) tw pl fl tl v2 o2 b gm pa cd td]) (As := [.int (xs (6 * j + 1)), .int (xs (6 * j + 2))]) (rest := []) ⟨hx, hb, hml, hown, hts⟩ (M1_play l C mo (nI n) (nI y) tw pl fl tl v2 o2 (xs (6 * j + 1)) (xs (6 * j + 2)) b gm pa cd td (by rw [h0, Bool.false_and])).one (cwV 2 hts gL_law_X5_play rfl rfl rfl (by decide +kernel) ⟨Nat.le_of_ble_eq_true rfl, Nat.le_of_ble_eq_true rfl⟩) hK hV hE hP hD hS (fun _ h => h) [2] (by decide) rfl 76 rfl rfl rfl rfl hl.1 rfl (Nat.le_of_ble_eq_true rfl) dL_law_560 (lw_c0 hce hj hL) (lw_s0 hsl hj hL) (fun r w1 H locs hQ hF hS => ?_)
    obtain ⟨rfl, rfl⟩ := hQ
    obtain ⟨hP, hD⟩ := hF [mF C mo (nI n) (nI y) (nI 1) pl fl tl v2 o2 b gm pa cd td] (flat_one _).symm rfl
    have hP : va_P C.1 vwCl (List.flatten [wU C ou x0, wF C x nw tr hq iq tt sC ba z b b2 ph r n t f v o y cd, mF C mo (nI n) (nI y) (nI 1) pl fl tl v2 o2 b gm pa cd td]) H := hP
    have hD : va_D (lwA s) (List.flatten [wU C ou x0, wF C x nw tr hq iq tt sC ba z b b2 ph r n t f v o y cd, mF C mo (nI n) (nI y) (nI 1) pl fl tl v2 o2 b gm pa cd td]) := hD
    refine W.eq (g2 := F0 m 563 ls [.int (nI 0)]) rfl ?_
    refine lv_istore (lv' := [(6, .int (nI 0)), (5, .int (nI 1)), (4, .int (nI (6 * j))), (0, .ref sA), (1, .ref x), (2, .ref (mo 0)), (3, .ref ou)]) hx hb dL_law_563 hl (by decide) rfl (fun ls hl => ?_)
    have hP : va_P C.1 vwCl (List.flatten [wU C ou x0, wF C x nw tr hq iq tt sC ba z b b2 ph r n t f v o y cd, mF C mo (nI n) (nI y) (nI 1) pl fl tl v2 o2 b gm pa cd td]) H := hP
    have hD : va_D (lwA s) (List.flatten [wU C ou x0, wF C x nw tr hq iq tt sC ba z b b2 ph r n t f v o y cd, mF C mo (nI n) (nI y) (nI 1) pl fl tl v2 o2 b gm pa cd td]) := hD
    exact lw_tailT hc hj K 1 (by decide) (by decide) ⟨hok, hph, hfr, hy60, hcd, hpa⟩ (by omega) (by omega) hP hD hS hl 5 rfl 1 rfl [2, 3, 4, 5, 6] rfl 28 (by decide) dL_law_565 dL_law_566 dL_law_569 dL_law_571 dL_law_576 dL_law_578 dL_law_593 (by decide)
  · skip
    rcases cl1 (xs (6 * j + 2)) (lo := 1) (hi := 99) (by decide) (by decide) with h1 | ⟨a2, e2, ha2, hb2⟩
    · skip
      refine lv_aload_n hx hb dL_law_528 rfl (lv_at hl 2 rfl) ?_
      refine lw_rd hc hj 1 (by decide) hS 1 0 hl rfl rfl dL_law_529 dL_law_530 dL_law_532 (by decide) dL_law_533 dL_law_534 e1 ?_
      refine lw_rd hc hj 2 (by decide) hS 1 0 hl rfl rfl dL_law_535 dL_law_536 dL_law_538 (by decide) dL_law_539 dL_law_540 rfl ?_
      refine lv_aload_n hx hb dL_law_541 rfl (lv_at hl 4 rfl) ?_
      refine q_SWB1 (Bs := [wU C ou x0, wF C x nw tr hq iq tt sC ba z b b2 ph r n t f v o y cd, mF C mo (nI n) (nI y) tw pl fl tl v2 o2 b gm pa cd td]) (cs := [wU C ou x0, wF C x nw tr hq iq tt sC ba z b b2 ph r n t f v o y cd]) (As := [.ref x, .int (nI a1), .int (xs (6 * j + 2)), .ref ou]) (rest := []) ⟨hx, hb, hml, hown, hts⟩ (W1b_play l hl0 C x a1 (xs (6 * j + 2)) nw tr hq iq tt sC ba z b b2 r n ph t f v o y cd ou x0 (by omega) h1) (vx_cwSW 4 hts gL_law_L_play rfl rfl rfl (by decide +kernel) ⟨Nat.le_of_ble_eq_true rfl, Nat.le_of_ble_eq_true rfl⟩) hK hV hE hP hD hS (fun _ h => h) [0, 1] (by decide) rfl rfl hl.1 rfl (Nat.le_of_ble_eq_true rfl) dL_law_542 (lw_c1 hce hj hL) (lw_s1 hsl hj hL) (fun r w1 H locs hQ hF hS => ?_)
      obtain ⟨rfl, rfl⟩ := hQ
      obtain ⟨hP, hD⟩ := hF [wU C ou x0, wF C x nw tr hq iq tt sC ba z b b2 ph r n t f v o y cd] rfl rfl
      have hP : va_P C.1 vwCl (List.flatten [wU C ou x0, wF C x nw tr hq iq tt sC ba z b b2 ph r n t f v o y cd, mF C mo (nI n) (nI y) tw pl fl tl v2 o2 b gm pa cd td]) H := hP
      have hD : va_D (lwA s) (List.flatten [wU C ou x0, wF C x nw tr hq iq tt sC ba z b b2 ph r n t f v o y cd, mF C mo (nI n) (nI y) tw pl fl tl v2 o2 b gm pa cd td]) := hD
      refine W.eq (g2 := F0 m 545 ls [.int (nI 1)]) rfl ?_
      have hce : cells + 1 ≤ 100 + j + 1 := Nat.succ_le_succ hce
      have hsl : slots + 6 ≤ 2000 + 6 * j + 6 := Nat.add_le_add_right hsl 6
      refine lv_istore (lv' := [(5, .int (nI 1)), (4, .int (nI (6 * j))), (0, .ref sA), (1, .ref x), (2, .ref (mo 0)), (3, .ref ou)]) hx hb dL_law_545 hl (by decide) rfl (fun ls hl => ?_)
      refine lv_aload_n hx hb dL_law_547 rfl (lv_at hl 4 rfl) ?_
      refine lw_rd hc hj 1 (by decide) hS 2 1 hl rfl rfl dL_law_548 dL_law_549 dL_law_551 (by decide) dL_law_552 dL_law_553 e1 ?_
      refine lw_rd hc hj 2 (by decide) hS 2 1 hl rfl rfl dL_law_554 dL_law_555 dL_law_557 (by decide) dL_law_558 dL_law_559 rfl ?_
      refine q_VBE (Bs := [wU C ou x0, wF C x nw tr hq iq tt sC ba z b b2 ph r n t f v o y cd, mF C mo (nI n) (nI y) tw pl fl tl v2 o2 b gm pa cd td]) (cs := [mF C mo (nI n) (nI y) tw pl fl tl v2 o2 b gm pa cd td]) (As := [.int (nI a1), .int (xs (6 * j + 2))]) (rest := []) ⟨hx, hb, hml, hown, hts⟩ (M1_play l C mo (nI n) (nI y) tw pl fl tl v2 o2 (nI a1) (xs (6 * j + 2)) b gm pa cd td (by rw [h1, Bool.and_false])).one (cwV 2 hts gL_law_X5_play rfl rfl rfl (by decide +kernel) ⟨Nat.le_of_ble_eq_true rfl, Nat.le_of_ble_eq_true rfl⟩) hK hV hE hP hD hS (fun _ h => h) [2] (by decide) rfl 76 rfl rfl rfl rfl hl.1 rfl (Nat.le_of_ble_eq_true rfl) dL_law_560 (lw_c0 hce hj hL) (lw_s0 hsl hj hL) (fun r w1 H locs hQ hF hS => ?_)
      obtain ⟨rfl, rfl⟩ := hQ
      obtain ⟨hP, hD⟩ := hF [mF C mo (nI n) (nI y) (nI 1) pl fl tl v2 o2 b gm pa cd td] (flat_one _).symm rfl
      have hP : va_P C.1 vwCl (List.flatten [wU C ou x0, wF C x nw tr hq iq tt sC ba z b b2 ph r n t f v o y cd, mF C mo (nI n) (nI y) (nI 1) pl fl tl v2 o2 b gm pa cd td]) H := hP
      have hD : va_D (lwA s) (List.flatten [wU C ou x0, wF C x nw tr hq iq tt sC ba z b b2 ph r n t f v o y cd, mF C mo (nI n) (nI y) (nI 1) pl fl tl v2 o2 b gm pa cd td]) := hD
      refine W.eq (g2 := F0 m 563 ls [.int (nI 0)]) rfl ?_
      refine lv_istore (lv' := [(6, .int (nI 0)), (5, .int (nI 1)), (4, .int (nI (6 * j))), (0, .ref sA), (1, .ref x), (2, .ref (mo 0)), (3, .ref ou)]) hx hb dL_law_563 hl (by decide) rfl (fun ls hl => ?_)
      have hP : va_P C.1 vwCl (List.flatten [wU C ou x0, wF C x nw tr hq iq tt sC ba z b b2 ph r n t f v o y cd, mF C mo (nI n) (nI y) (nI 1) pl fl tl v2 o2 b gm pa cd td]) H := hP
      have hD : va_D (lwA s) (List.flatten [wU C ou x0, wF C x nw tr hq iq tt sC ba z b b2 ph r n t f v o y cd, mF C mo (nI n) (nI y) (nI 1) pl fl tl v2 o2 b gm pa cd td]) := hD
      exact lw_tailT hc hj K 1 (by decide) (by decide) ⟨hok, hph, hfr, hy60, hcd, hpa⟩ (by omega) (by omega) hP hD hS hl 5 rfl 1 rfl [2, 3, 4, 5, 6] rfl 28 (by decide) dL_law_565 dL_law_566 dL_law_569 dL_law_571 dL_law_576 dL_law_578 dL_law_593 (by decide)
    · skip
      by_cases hs : sumU b + a2 ≤ 9999
      · skip
        refine lv_aload_n hx hb dL_law_528 rfl (lv_at hl 2 rfl) ?_
        refine lw_rd hc hj 1 (by decide) hS 1 0 hl rfl rfl dL_law_529 dL_law_530 dL_law_532 (by decide) dL_law_533 dL_law_534 e1 ?_
        refine lw_rd hc hj 2 (by decide) hS 1 0 hl rfl rfl dL_law_535 dL_law_536 dL_law_538 (by decide) dL_law_539 dL_law_540 e2 ?_
        refine lv_aload_n hx hb dL_law_541 rfl (lv_at hl 4 rfl) ?_
        refine q_SWB (Bs := [wU C ou x0, wF C x nw tr hq iq tt sC ba z b b2 ph r n t f v o y cd, mF C mo (nI n) (nI y) tw pl fl tl v2 o2 b gm pa cd td]) (cs := [wU C ou x0, wF C x nw tr hq iq tt sC ba z b b2 ph r n t f v o y cd]) (As := [.ref x, .int (nI a1), .int (nI a2), .ref ou]) (rest := []) ⟨hx, hb, hml, hown, hts⟩ (W_play l C x nw tr hq iq tt sC z ba ph r n b t f v o a1 a2 b2 y cd ou x0 hr6 hn6 hB (by omega) (by omega) (by omega) (by omega) hfr) (vx_cwSW 4 hts gL_law_L_play rfl rfl rfl (by decide +kernel) ⟨Nat.le_of_ble_eq_true rfl, Nat.le_of_ble_eq_true rfl⟩) hK hV hE hP hD hS (fun _ h => h) [0, 1] (by decide) rfl rfl hl.1 rfl (Nat.le_of_ble_eq_true rfl) dL_law_542 (lw_c0 hce hj hL) (lw_s0 hsl hj hL) (fun r w1 H locs hQ hF hS => ?_)
        obtain ⟨zq5, vq5, oq5, rfl, rfl⟩ := hQ
        obtain ⟨hP, hD⟩ := hF [wU C ou ((nI (bx (plN b (idxT b) a1 a2)) - nI (bx b)).toInt64), wF C x nw tr hq iq tt sC ba zq5 (plN b (idxT b) a1 a2) b2 (upB ph (kJ n r) b) (kR n r) (kC n) (idxT b) (fun _ => 1) vq5 oq5 y cd] rfl rfl
        have hP : va_P C.1 vwCl (List.flatten [wU C ou ((nI (bx (plN b (idxT b) a1 a2)) - nI (bx b)).toInt64), wF C x nw tr hq iq tt sC ba zq5 (plN b (idxT b) a1 a2) b2 (upB ph (kJ n r) b) (kR n r) (kC n) (idxT b) (fun _ => 1) vq5 oq5 y cd, mF C mo (nI n) (nI y) tw pl fl tl v2 o2 b gm pa cd td]) H := hP
        have hD : va_D (lwA s) (List.flatten [wU C ou ((nI (bx (plN b (idxT b) a1 a2)) - nI (bx b)).toInt64), wF C x nw tr hq iq tt sC ba zq5 (plN b (idxT b) a1 a2) b2 (upB ph (kJ n r) b) (kR n r) (kC n) (idxT b) (fun _ => 1) vq5 oq5 y cd, mF C mo (nI n) (nI y) tw pl fl tl v2 o2 b gm pa cd td]) := hD
        refine W.eq (g2 := F0 m 545 ls [.int (nI 0)]) rfl ?_
        refine lv_istore (lv' := [(5, .int (nI 0)), (4, .int (nI (6 * j))), (0, .ref sA), (1, .ref x), (2, .ref (mo 0)), (3, .ref ou)]) hx hb dL_law_545 hl (by decide) rfl (fun ls hl => ?_)
        refine lv_aload_n hx hb dL_law_547 rfl (lv_at hl 4 rfl) ?_
        refine lw_rd hc hj 1 (by decide) hS 2 1 hl rfl rfl dL_law_548 dL_law_549 dL_law_551 (by decide) dL_law_552 dL_law_553 e1 ?_
        refine lw_rd hc hj 2 (by decide) hS 2 1 hl rfl rfl dL_law_554 dL_law_555 dL_law_557 (by decide) dL_law_558 dL_law_559 e2 ?_
        refine q_VBE (Bs := [wU C ou ((nI (bx (plN b (idxT b) a1 a2)) - nI (bx b)).toInt64), wF C x nw tr hq iq tt sC ba zq5 (plN b (idxT b) a1 a2) b2 (upB ph (kJ n r) b) (kR n r) (kC n) (idxT b) (fun _ => 1) vq5 oq5 y cd, mF C mo (nI n) (nI y) tw pl fl tl v2 o2 b gm pa cd td]) (cs := [mF C mo (nI n) (nI y) tw pl fl tl v2 o2 b gm pa cd td]) (As := [.int (nI a1), .int (nI a2)]) (rest := []) ⟨hx, hb, hml, hown, hts⟩ (M_play l C mo (nI y) tw pl fl tl v2 o2 ph r n pa b a1 a2 gm cd td hr6 hn6 hpa hB (by omega) (by omega) (by omega) (by omega)).one (cwV 2 hts gL_law_X5_play rfl rfl rfl (by decide +kernel) ⟨Nat.le_of_ble_eq_true rfl, Nat.le_of_ble_eq_true rfl⟩) hK hV hE hP hD hS (fun _ h => h) [2] (by decide) rfl 76 rfl rfl rfl rfl hl.1 rfl (Nat.le_of_ble_eq_true rfl) dL_law_560 (lw_c0 hce hj hL) (lw_s0 hsl hj hL) (fun r w1 H locs hQ hF hS => ?_)
        obtain ⟨paq6, vq6, oq6, rfl, rfl, hmh⟩ := hQ
        obtain ⟨hP, hD⟩ := hF [mF C mo (nI (kC n)) (nI y) (nI 0) pl fl tl vq6 oq6 (plN b (idxT b) a1 a2) gm paq6 cd td] (flat_one _).symm rfl
        have hP : va_P C.1 vwCl (List.flatten [wU C ou ((nI (bx (plN b (idxT b) a1 a2)) - nI (bx b)).toInt64), wF C x nw tr hq iq tt sC ba zq5 (plN b (idxT b) a1 a2) b2 (upB ph (kJ n r) b) (kR n r) (kC n) (idxT b) (fun _ => 1) vq5 oq5 y cd, mF C mo (nI (kC n)) (nI y) (nI 0) pl fl tl vq6 oq6 (plN b (idxT b) a1 a2) gm paq6 cd td]) H := hP
        have hD : va_D (lwA s) (List.flatten [wU C ou ((nI (bx (plN b (idxT b) a1 a2)) - nI (bx b)).toInt64), wF C x nw tr hq iq tt sC ba zq5 (plN b (idxT b) a1 a2) b2 (upB ph (kJ n r) b) (kR n r) (kC n) (idxT b) (fun _ => 1) vq5 oq5 y cd, mF C mo (nI (kC n)) (nI y) (nI 0) pl fl tl vq6 oq6 (plN b (idxT b) a1 a2) gm paq6 cd td]) := hD
        refine W.eq (g2 := F0 m 563 ls [.int (nI (bx (plN b (idxT b) a1 a2)) - nI (bx b))]) rfl ?_
        refine lv_istore (lv' := [(6, .int (nI (bx (plN b (idxT b) a1 a2)) - nI (bx b))), (5, .int (nI 0)), (4, .int (nI (6 * j))), (0, .ref sA), (1, .ref x), (2, .ref (mo 0)), (3, .ref ou)]) hx hb dL_law_563 hl (by decide) rfl (fun ls hl => ?_)
        have hP : va_P C.1 vwCl (List.flatten [wU C ou ((nI (bx (plN b (idxT b) a1 a2)) - nI (bx b)).toInt64), wF C x nw tr hq iq tt sC ba zq5 (plN b (idxT b) a1 a2) b2 (upB ph (kJ n r) b) (kR n r) (kC n) (idxT b) (fun _ => 1) vq5 oq5 y cd, mF C mo (nI (kC n)) (nI y) (nI 0) pl fl tl vq6 oq6 (plN b (idxT b) a1 a2) gm paq6 cd td]) H := hP
        have hD : va_D (lwA s) (List.flatten [wU C ou ((nI (bx (plN b (idxT b) a1 a2)) - nI (bx b)).toInt64), wF C x nw tr hq iq tt sC ba zq5 (plN b (idxT b) a1 a2) b2 (upB ph (kJ n r) b) (kR n r) (kC n) (idxT b) (fun _ => 1) vq5 oq5 y cd, mF C mo (nI (kC n)) (nI y) (nI 0) pl fl tl vq6 oq6 (plN b (idxT b) a1 a2) gm paq6 cd td]) := hD
        exact lw_tailI hc hj K ⟨okS_pl hok (by omega), okH_keep hph hok, frB_pl _ _ _, hy60, hcd, hmh⟩ (by omega) (by omega) hP hD hS hl 5 rfl 1 rfl 6 rfl 0 rfl [2, 3, 4, 5, 6] rfl dL_law_565 dL_law_566 dL_law_569 dL_law_571 dL_law_576 dL_law_578 dL_law_581 dL_law_582 dL_law_583 dL_law_584 dL_law_586 dL_law_587 dL_law_588 dL_law_593 (by decide)
      · skip
        refine lv_aload_n hx hb dL_law_528 rfl (lv_at hl 2 rfl) ?_
        refine lw_rd hc hj 1 (by decide) hS 1 0 hl rfl rfl dL_law_529 dL_law_530 dL_law_532 (by decide) dL_law_533 dL_law_534 e1 ?_
        refine lw_rd hc hj 2 (by decide) hS 1 0 hl rfl rfl dL_law_535 dL_law_536 dL_law_538 (by decide) dL_law_539 dL_law_540 e2 ?_
        refine lv_aload_n hx hb dL_law_541 rfl (lv_at hl 4 rfl) ?_
        refine q_SWB1 (Bs := [wU C ou x0, wF C x nw tr hq iq tt sC ba z b b2 ph r n t f v o y cd, mF C mo (nI n) (nI y) tw pl fl tl v2 o2 b gm pa cd td]) (cs := [wU C ou x0, wF C x nw tr hq iq tt sC ba z b b2 ph r n t f v o y cd]) (As := [.ref x, .int (nI a1), .int (nI a2), .ref ou]) (rest := []) ⟨hx, hb, hml, hown, hts⟩ (W2_play l hl0 C x nw tr hq iq tt sC z b a1 a2 ba b2 r n ph t f v o y cd ou x0 (by omega) (by omega) (by omega) hU (by omega)) (vx_cwSW 4 hts gL_law_L_play rfl rfl rfl (by decide +kernel) ⟨Nat.le_of_ble_eq_true rfl, Nat.le_of_ble_eq_true rfl⟩) hK hV hE hP hD hS (fun _ h => h) [0, 1] (by decide) rfl rfl hl.1 rfl (Nat.le_of_ble_eq_true rfl) dL_law_542 (lw_c1 hce hj hL) (lw_s1 hsl hj hL) (fun r w1 H locs hQ hF hS => ?_)
        obtain ⟨rfl, rfl⟩ := hQ
        obtain ⟨hP, hD⟩ := hF [wU C ou x0, wF C x nw tr hq iq tt sC ba z b b2 ph r n t f v o y cd] rfl rfl
        have hP : va_P C.1 vwCl (List.flatten [wU C ou x0, wF C x nw tr hq iq tt sC ba z b b2 ph r n t f v o y cd, mF C mo (nI n) (nI y) tw pl fl tl v2 o2 b gm pa cd td]) H := hP
        have hD : va_D (lwA s) (List.flatten [wU C ou x0, wF C x nw tr hq iq tt sC ba z b b2 ph r n t f v o y cd, mF C mo (nI n) (nI y) tw pl fl tl v2 o2 b gm pa cd td]) := hD
        refine W.eq (g2 := F0 m 545 ls [.int (nI 2)]) rfl ?_
        have hce : cells + 1 ≤ 100 + j + 1 := Nat.succ_le_succ hce
        have hsl : slots + 6 ≤ 2000 + 6 * j + 6 := Nat.add_le_add_right hsl 6
        refine lv_istore (lv' := [(5, .int (nI 2)), (4, .int (nI (6 * j))), (0, .ref sA), (1, .ref x), (2, .ref (mo 0)), (3, .ref ou)]) hx hb dL_law_545 hl (by decide) rfl (fun ls hl => ?_)
        refine lv_aload_n hx hb dL_law_547 rfl (lv_at hl 4 rfl) ?_
        refine lw_rd hc hj 1 (by decide) hS 2 1 hl rfl rfl dL_law_548 dL_law_549 dL_law_551 (by decide) dL_law_552 dL_law_553 e1 ?_
        refine lw_rd hc hj 2 (by decide) hS 2 1 hl rfl rfl dL_law_554 dL_law_555 dL_law_557 (by decide) dL_law_558 dL_law_559 e2 ?_
        refine q_VBE (Bs := [wU C ou x0, wF C x nw tr hq iq tt sC ba z b b2 ph r n t f v o y cd, mF C mo (nI n) (nI y) tw pl fl tl v2 o2 b gm pa cd td]) (cs := [mF C mo (nI n) (nI y) tw pl fl tl v2 o2 b gm pa cd td]) (As := [.int (nI a1), .int (nI a2)]) (rest := []) ⟨hx, hb, hml, hown, hts⟩ (M2_play l C mo (nI n) (nI y) tw pl fl tl v2 o2 b a1 a2 gm pa cd td (by omega) (by omega) (by omega) hU (by omega)).one (cwV 2 hts gL_law_X5_play rfl rfl rfl (by decide +kernel) ⟨Nat.le_of_ble_eq_true rfl, Nat.le_of_ble_eq_true rfl⟩) hK hV hE hP hD hS (fun _ h => h) [2] (by decide) rfl 76 rfl rfl rfl rfl hl.1 rfl (Nat.le_of_ble_eq_true rfl) dL_law_560 (lw_c0 hce hj hL) (lw_s0 hsl hj hL) (fun r w1 H locs hQ hF hS => ?_)
        obtain ⟨rfl, rfl⟩ := hQ
        obtain ⟨hP, hD⟩ := hF [mF C mo (nI n) (nI y) (nI 2) pl fl tl v2 o2 b gm pa cd td] (flat_one _).symm rfl
        have hP : va_P C.1 vwCl (List.flatten [wU C ou x0, wF C x nw tr hq iq tt sC ba z b b2 ph r n t f v o y cd, mF C mo (nI n) (nI y) (nI 2) pl fl tl v2 o2 b gm pa cd td]) H := hP
        have hD : va_D (lwA s) (List.flatten [wU C ou x0, wF C x nw tr hq iq tt sC ba z b b2 ph r n t f v o y cd, mF C mo (nI n) (nI y) (nI 2) pl fl tl v2 o2 b gm pa cd td]) := hD
        refine W.eq (g2 := F0 m 563 ls [.int (nI 0)]) rfl ?_
        refine lv_istore (lv' := [(6, .int (nI 0)), (5, .int (nI 2)), (4, .int (nI (6 * j))), (0, .ref sA), (1, .ref x), (2, .ref (mo 0)), (3, .ref ou)]) hx hb dL_law_563 hl (by decide) rfl (fun ls hl => ?_)
        have hP : va_P C.1 vwCl (List.flatten [wU C ou x0, wF C x nw tr hq iq tt sC ba z b b2 ph r n t f v o y cd, mF C mo (nI n) (nI y) (nI 2) pl fl tl v2 o2 b gm pa cd td]) H := hP
        have hD : va_D (lwA s) (List.flatten [wU C ou x0, wF C x nw tr hq iq tt sC ba z b b2 ph r n t f v o y cd, mF C mo (nI n) (nI y) (nI 2) pl fl tl v2 o2 b gm pa cd td]) := hD
        exact lw_tailT hc hj K 2 (by decide) (by decide) ⟨hok, hph, hfr, hy60, hcd, hpa⟩ (by omega) (by omega) hP hD hS hl 5 rfl 1 rfl [2, 3, 4, 5, 6] rfl 28 (by decide) dL_law_565 dL_law_566 dL_law_569 dL_law_571 dL_law_576 dL_law_578 dL_law_593 (by decide)
end LawCasesb
