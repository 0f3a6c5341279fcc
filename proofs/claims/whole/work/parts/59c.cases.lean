/-! the law, case after case: begin, append, clearBuffer, firstError, read, undo -/
section LawCasesc
variable {p : Program} {l : Launch} {e : Env} {s : State} {m : MethodId} {below : List Frame} {meth : Method} {c : Code} {Q : State → Prop} {C : q_C} {sA L x ou sC j : Nat} {xs : Nat → Int32} {nw tr hq iq tt mo : Nat → Nat} {ba : Nat → Nat → Nat}
set_option maxHeartbeats 4000000 in
set_option maxRecDepth 100000 in
theorem lw_begin (hc : lwC p l s m meth c C sA L xs) (hj : 6 * j + 6 ≤ L) (K : lwAt p l e s m below meth c Q C sA x ou sC nw tr hq iq tt ba mo j 1507 (j + 1)) : lwAt p l e s m below meth c Q C sA x ou sC nw tr hq iq tt ba mo j 596 j := by
  intro x0 z b b2 ph r n t f v o y cd tw pl fl tl v2 o2 gm pa td cells slots H locs ls okx hce hsl hP hD hS hl
  obtain ⟨hok, hph, hfr, hy60, hcd, hpa⟩ := okx
  have hB : OkB b := hok.1
  have hU : sumU b ≤ 9999 := hok.2
  have hr6 : r < 6 := hph.1
  have hn6 : n ≤ 6 := hph.2.1
  have hc0 := hc
  obtain ⟨hx, hb, hml, hown, hts, hK, hV, hE, hX, hsb, hL, hl0⟩ := hc0
  refine lv_aload_n hx hb dL_law_596 rfl (lv_at hl 2 rfl) ?_
  refine lw_rd hc hj 1 (by decide) hS 1 0 hl rfl rfl dL_law_597 dL_law_598 dL_law_600 (by decide) dL_law_601 dL_law_602 rfl ?_
  refine lv_i2l (v := (xs (6 * j + 1)).toInt64) hx hb dL_law_603 rfl ?_
  refine lv_bipush (v := nI 32) hx hb dL_law_604 (by decide) ?_
  refine lv_lshl (v := (xs (6 * j + 1)).toInt64 <<< ((nI 32).toInt64 &&& 63)) hx hb dL_law_606 rfl ?_
  refine lw_rd hc hj 2 (by decide) hS 1 0 hl rfl rfl dL_law_607 dL_law_608 dL_law_610 (by decide) dL_law_611 dL_law_612 rfl ?_
  refine lv_i2l (v := (xs (6 * j + 2)).toInt64) hx hb dL_law_613 rfl ?_
  refine lv_ldc2 hx hb hown (hts (.constantLong RL 110 (4294967295)) (by decide +kernel)) dL_law_614 ?_
  refine q_tl (y := 4294967295) (by decide) ?_
  refine lv_land hx hb dL_law_617 ?_
  refine lv_lor hx hb dL_law_618 ?_
  obtain ⟨xb, hxb⟩ : ∃ q, q = ((xs (6 * j + 1)).toInt64 <<< ((nI 32).toInt64 &&& 63) ||| (xs (6 * j + 2)).toInt64 &&& 4294967295) := ⟨_, rfl⟩
  rw [← hxb]
  refine q_VBE (Bs := [wU C ou x0, wF C x nw tr hq iq tt sC ba z b b2 ph r n t f v o y cd, mF C mo (nI n) (nI y) tw pl fl tl v2 o2 b gm pa cd td]) (cs := [wF C x nw tr hq iq tt sC ba z b b2 ph r n t f v o y cd]) (As := [.long xb]) (rest := []) ⟨hx, hb, hml, hown, hts⟩ (F_begin l C x nw tr hq iq tt sC z ba ph r n b xb b2 t f v o y cd hr6 hn6).one (cwV 1 hts gL_law_X4_begin rfl rfl rfl (by decide +kernel) ⟨Nat.le_of_ble_eq_true rfl, Nat.le_of_ble_eq_true rfl⟩) hK hV hE hP hD hS (fun _ h => h) [1] (by decide) rfl 1 rfl rfl rfl rfl hl.1 rfl (Nat.le_of_ble_eq_true rfl) dL_law_619 (lw_c0 hce hj hL) (lw_s0 hsl hj hL) (fun r w1 H locs hQ hF hS => ?_)
  obtain ⟨rfl, rfl⟩ := hQ
  obtain ⟨hP, hD⟩ := hF [wF C x nw tr hq iq tt sC ba z (begB b xb) b2 (upB ph (kJ n r) b) (kR n r) (kC n) t f v o y cd] (flat_one _).symm rfl
  have hP : va_P C.1 vwCl (List.flatten [wU C ou x0, wF C x nw tr hq iq tt sC ba z (begB b xb) b2 (upB ph (kJ n r) b) (kR n r) (kC n) t f v o y cd, mF C mo (nI n) (nI y) tw pl fl tl v2 o2 b gm pa cd td]) H := hP
  have hD : va_D (lwA s) (List.flatten [wU C ou x0, wF C x nw tr hq iq tt sC ba z (begB b xb) b2 (upB ph (kJ n r) b) (kR n r) (kC n) t f v o y cd, mF C mo (nI n) (nI y) tw pl fl tl v2 o2 b gm pa cd td]) := hD
  refine W.eq (g2 := F0 m 622 ls [.int (nI (sumU b))]) rfl ?_
  refine lv_aload_n hx hb dL_law_622 rfl (lv_at hl 3 rfl) ?_
  refine lw_rd hc hj 1 (by decide) hS 1 0 hl rfl rfl dL_law_623 dL_law_624 dL_law_626 (by decide) dL_law_627 dL_law_628 rfl ?_
  refine lv_i2l (v := (xs (6 * j + 1)).toInt64) hx hb dL_law_629 rfl ?_
  refine lv_bipush (v := nI 32) hx hb dL_law_630 (by decide) ?_
  refine lv_lshl (v := (xs (6 * j + 1)).toInt64 <<< ((nI 32).toInt64 &&& 63)) hx hb dL_law_632 rfl ?_
  refine lw_rd hc hj 2 (by decide) hS 1 0 hl rfl rfl dL_law_633 dL_law_634 dL_law_636 (by decide) dL_law_637 dL_law_638 rfl ?_
  refine lv_i2l (v := (xs (6 * j + 2)).toInt64) hx hb dL_law_639 rfl ?_
  refine lv_ldc2 hx hb hown (hts (.constantLong RL 110 (4294967295)) (by decide +kernel)) dL_law_640 ?_
  refine q_tl (y := 4294967295) (by decide) ?_
  refine lv_land hx hb dL_law_643 ?_
  refine lv_lor hx hb dL_law_644 ?_
  rw [← hxb]
  refine q_VBE (Bs := [wU C ou x0, wF C x nw tr hq iq tt sC ba z (begB b xb) b2 (upB ph (kJ n r) b) (kR n r) (kC n) t f v o y cd, mF C mo (nI n) (nI y) tw pl fl tl v2 o2 b gm pa cd td]) (cs := [mF C mo (nI n) (nI y) tw pl fl tl v2 o2 b gm pa cd td]) (As := [.long xb]) (rest := [.int (nI (sumU b))]) ⟨hx, hb, hml, hown, hts⟩ (M_begin l C mo (nI y) tw pl fl tl v2 o2 ph r n pa b xb gm cd td hr6 hn6 hpa).one (cwV 1 hts gL_law_X5_begin rfl rfl rfl (by decide +kernel) ⟨Nat.le_of_ble_eq_true rfl, Nat.le_of_ble_eq_true rfl⟩) hK hV hE hP hD hS (fun _ h => h) [2] (by decide) rfl 76 rfl rfl rfl rfl hl.1 rfl (Nat.le_of_ble_eq_true rfl) dL_law_645 (lw_c0 hce hj hL) (lw_s0 hsl hj hL) (fun r w1 H locs hQ hF hS => ?_)
  obtain ⟨paq2, rfl, rfl, hmh⟩ := hQ
  obtain ⟨hP, hD⟩ := hF [mF C mo (nI (kC n)) (nI y) (nI 0) pl fl tl v2 o2 (begB b xb) gm paq2 cd td] (flat_one _).symm rfl
  have hP : va_P C.1 vwCl (List.flatten [wU C ou x0, wF C x nw tr hq iq tt sC ba z (begB b xb) b2 (upB ph (kJ n r) b) (kR n r) (kC n) t f v o y cd, mF C mo (nI (kC n)) (nI y) (nI 0) pl fl tl v2 o2 (begB b xb) gm paq2 cd td]) H := hP
  have hD : va_D (lwA s) (List.flatten [wU C ou x0, wF C x nw tr hq iq tt sC ba z (begB b xb) b2 (upB ph (kJ n r) b) (kR n r) (kC n) t f v o y cd, mF C mo (nI (kC n)) (nI y) (nI 0) pl fl tl v2 o2 (begB b xb) gm paq2 cd td]) := hD
  refine W.eq (g2 := F0 m 648 ls [.int (nI (sumU b)), .int (nI (sumU b))]) rfl ?_
  have hP : va_P C.1 vwCl (List.flatten [wU C ou x0, wF C x nw tr hq iq tt sC ba z (begB b xb) b2 (upB ph (kJ n r) b) (kR n r) (kC n) t f v o y cd, mF C mo (nI (kC n)) (nI y) (nI 0) pl fl tl v2 o2 (begB b xb) gm paq2 cd td]) H := hP
  have hD : va_D (lwA s) (List.flatten [wU C ou x0, wF C x nw tr hq iq tt sC ba z (begB b xb) b2 (upB ph (kJ n r) b) (kR n r) (kC n) t f v o y cd, mF C mo (nI (kC n)) (nI y) (nI 0) pl fl tl v2 o2 (begB b xb) gm paq2 cd td]) := hD
  refine lv_icmp_eq (tgt := 1507) hx hb dL_law_648 (by decide) (fun _ => ?_) (fun q => absurd rfl q)
  exact K _ _ _ _ _ _ _ _ _ _ _ _ _ _ _ _ _ _ _ _ _ _ _ _ _ _ _ ⟨okS_beg hok, okH_keep hph hok, frB_of hfr rfl, hy60, hcd, hmh⟩ (by omega) (by omega) hP hD hS (lv_sub hl [0, 1, 2, 3, 4] rfl)
set_option maxHeartbeats 4000000 in
set_option maxRecDepth 100000 in
theorem lw_append (hc : lwC p l s m meth c C sA L xs) (hj : 6 * j + 6 ≤ L) (K : lwAt p l e s m below meth c Q C sA x ou sC nw tr hq iq tt ba mo j 1507 (j + 1)) : lwAt p l e s m below meth c Q C sA x ou sC nw tr hq iq tt ba mo j 653 j := by
  intro x0 z b b2 ph r n t f v o y cd tw pl fl tl v2 o2 gm pa td cells slots H locs ls okx hce hsl hP hD hS hl
  obtain ⟨hok, hph, hfr, hy60, hcd, hpa⟩ := okx
  have hB : OkB b := hok.1
  have hU : sumU b ≤ 9999 := hok.2
  have hr6 : r < 6 := hph.1
  have hn6 : n ≤ 6 := hph.2.1
  have hc0 := hc
  obtain ⟨hx, hb, hml, hown, hts, hK, hV, hE, hX, hsb, hL, hl0⟩ := hc0
  rcases cl1 (xs (6 * j + 1)) (lo := 33) (hi := 126) (by decide) (by decide) with h0 | ⟨a1, e1, ha1, hb1⟩
  · skip
    refine lv_aload_n hx hb dL_law_653 rfl (lv_at hl 2 rfl) ?_
    refine lw_rd hc hj 1 (by decide) hS 1 0 hl rfl rfl dL_law_654 dL_law_655 dL_law_657 (by decide) dL_law_658 dL_law_659 rfl ?_
    refine lv_aload_n hx hb dL_law_660 rfl (lv_at hl 4 rfl) ?_
    refine q_SWB1 (Bs := [wU C ou x0, wF C x nw tr hq iq tt sC ba z b b2 ph r n t f v o y cd, mF C mo (nI n) (nI y) tw pl fl tl v2 o2 b gm pa cd td]) (cs := [wU C ou x0, wF C x nw tr hq iq tt sC ba z b b2 ph r n t f v o y cd]) (As := [.ref x, .int (xs (6 * j + 1)), .ref ou]) (rest := []) ⟨hx, hb, hml, hown, hts⟩ (W1_append l hl0 C x (xs (6 * j + 1)) nw tr hq iq tt sC ba z b b2 r n ph t f v o y cd ou x0 h0) (vx_cwSW 3 hts gL_law_L_append rfl rfl rfl (by decide +kernel) ⟨Nat.le_of_ble_eq_true rfl, Nat.le_of_ble_eq_true rfl⟩) hK hV hE hP hD hS (fun _ h => h) [0, 1] (by decide) rfl rfl hl.1 rfl (Nat.le_of_ble_eq_true rfl) dL_law_661 (lw_c1 hce hj hL) (lw_s1 hsl hj hL) (fun r w1 H locs hQ hF hS => ?_)
    obtain ⟨rfl, rfl⟩ := hQ
    obtain ⟨hP, hD⟩ := hF [wU C ou x0, wF C x nw tr hq iq tt sC ba z b b2 ph r n t f v o y cd] rfl rfl
    have hP : va_P C.1 vwCl (List.flatten [wU C ou x0, wF C x nw tr hq iq tt sC ba z b b2 ph r n t f v o y cd, mF C mo (nI n) (nI y) tw pl fl tl v2 o2 b gm pa cd td]) H := hP
    have hD : va_D (lwA s) (List.flatten [wU C ou x0, wF C x nw tr hq iq tt sC ba z b b2 ph r n t f v o y cd, mF C mo (nI n) (nI y) tw pl fl tl v2 o2 b gm pa cd td]) := hD
    refine W.eq (g2 := F0 m 664 ls [.int (nI 1)]) rfl ?_
    have hce : cells + 1 ≤ 100 + j + 1 := Nat.succ_le_succ hce
    have hsl : slots + 6 ≤ 2000 + 6 * j + 6 := Nat.add_le_add_right hsl 6
    refine lv_istore (lv' := [(5, .int (nI 1)), (4, .int (nI (6 * j))), (0, .ref sA), (1, .ref x), (2, .ref (mo 0)), (3, .ref ou)]) hx hb dL_law_664 hl (by decide) rfl (fun ls hl => ?_)
    refine lv_aload_n hx hb dL_law_666 rfl (lv_at hl 4 rfl) ?_
    refine lw_rd hc hj 1 (by decide) hS 2 1 hl rfl rfl dL_law_667 dL_law_668 dL_law_670 (by decide) dL_law_671 dL_law_672 rfl ?_
    refine q_VBE (Bs := [wU C ou x0, wF C x nw tr hq iq tt sC ba z b b2 ph r n t f v o y cd, mF C mo (nI n) (nI y) tw pl fl tl v2 o2 b gm pa cd td]) (cs := [mF C mo (nI n) (nI y) tw pl fl tl v2 o2 b gm pa cd td]) (As := [.int (xs (6 * j + 1))]) (rest := []) ⟨hx, hb, hml, hown, hts⟩ (M1_append l C mo (nI n) (nI y) tw pl fl tl v2 o2 (xs (6 * j + 1)) b gm pa cd td h0).one (cwV 1 hts gL_law_X5_append rfl rfl rfl (by decide +kernel) ⟨Nat.le_of_ble_eq_true rfl, Nat.le_of_ble_eq_true rfl⟩) hK hV hE hP hD hS (fun _ h => h) [2] (by decide) rfl 76 rfl rfl rfl rfl hl.1 rfl (Nat.le_of_ble_eq_true rfl) dL_law_673 (lw_c0 hce hj hL) (lw_s0 hsl hj hL) (fun r w1 H locs hQ hF hS => ?_)
    obtain ⟨rfl, rfl⟩ := hQ
    obtain ⟨hP, hD⟩ := hF [mF C mo (nI n) (nI y) (nI 1) pl fl tl v2 o2 b gm pa cd td] (flat_one _).symm rfl
    have hP : va_P C.1 vwCl (List.flatten [wU C ou x0, wF C x nw tr hq iq tt sC ba z b b2 ph r n t f v o y cd, mF C mo (nI n) (nI y) (nI 1) pl fl tl v2 o2 b gm pa cd td]) H := hP
    have hD : va_D (lwA s) (List.flatten [wU C ou x0, wF C x nw tr hq iq tt sC ba z b b2 ph r n t f v o y cd, mF C mo (nI n) (nI y) (nI 1) pl fl tl v2 o2 b gm pa cd td]) := hD
    refine W.eq (g2 := F0 m 676 ls [.int (nI 0)]) rfl ?_
    refine lv_istore (lv' := [(6, .int (nI 0)), (5, .int (nI 1)), (4, .int (nI (6 * j))), (0, .ref sA), (1, .ref x), (2, .ref (mo 0)), (3, .ref ou)]) hx hb dL_law_676 hl (by decide) rfl (fun ls hl => ?_)
    have hP : va_P C.1 vwCl (List.flatten [wU C ou x0, wF C x nw tr hq iq tt sC ba z b b2 ph r n t f v o y cd, mF C mo (nI n) (nI y) (nI 1) pl fl tl v2 o2 b gm pa cd td]) H := hP
    have hD : va_D (lwA s) (List.flatten [wU C ou x0, wF C x nw tr hq iq tt sC ba z b b2 ph r n t f v o y cd, mF C mo (nI n) (nI y) (nI 1) pl fl tl v2 o2 b gm pa cd td]) := hD
    exact lw_tailT hc hj K 1 (by decide) (by decide) ⟨hok, hph, hfr, hy60, hcd, hpa⟩ (by omega) (by omega) hP hD hS hl 5 rfl 1 rfl [2, 3, 4, 5, 6] rfl 28 (by decide) dL_law_678 dL_law_679 dL_law_682 dL_law_684 dL_law_689 dL_law_691 dL_law_706 (by decide)
  · skip
    by_cases hs : y < 60
    · skip
      refine lv_aload_n hx hb dL_law_653 rfl (lv_at hl 2 rfl) ?_
      refine lw_rd hc hj 1 (by decide) hS 1 0 hl rfl rfl dL_law_654 dL_law_655 dL_law_657 (by decide) dL_law_658 dL_law_659 e1 ?_
      refine lv_aload_n hx hb dL_law_660 rfl (lv_at hl 4 rfl) ?_
      refine q_SWB (Bs := [wU C ou x0, wF C x nw tr hq iq tt sC ba z b b2 ph r n t f v o y cd, mF C mo (nI n) (nI y) tw pl fl tl v2 o2 b gm pa cd td]) (cs := [wU C ou x0, wF C x nw tr hq iq tt sC ba z b b2 ph r n t f v o y cd]) (As := [.ref x, .int (nI a1), .ref ou]) (rest := []) ⟨hx, hb, hml, hown, hts⟩ (W_append l C x nw tr hq iq tt sC z y cd a1 ba b b2 r n ph t f v o ou x0 (by omega) (by omega) (by omega)) (vx_cwSW 3 hts gL_law_L_append rfl rfl rfl (by decide +kernel) ⟨Nat.le_of_ble_eq_true rfl, Nat.le_of_ble_eq_true rfl⟩) hK hV hE hP hD hS (fun _ h => h) [0, 1] (by decide) rfl rfl hl.1 rfl (Nat.le_of_ble_eq_true rfl) dL_law_661 (lw_c0 hce hj hL) (lw_s0 hsl hj hL) (fun r w1 H locs hQ hF hS => ?_)
      obtain ⟨rfl, rfl⟩ := hQ
      obtain ⟨hP, hD⟩ := hF [wU C ou ((nI (y + 1)).toInt64), wF C x nw tr hq iq tt sC ba z b b2 ph r n t f v o (y + 1) (upN cd y a1)] rfl rfl
      have hP : va_P C.1 vwCl (List.flatten [wU C ou ((nI (y + 1)).toInt64), wF C x nw tr hq iq tt sC ba z b b2 ph r n t f v o (y + 1) (upN cd y a1), mF C mo (nI n) (nI y) tw pl fl tl v2 o2 b gm pa cd td]) H := hP
      have hD : va_D (lwA s) (List.flatten [wU C ou ((nI (y + 1)).toInt64), wF C x nw tr hq iq tt sC ba z b b2 ph r n t f v o (y + 1) (upN cd y a1), mF C mo (nI n) (nI y) tw pl fl tl v2 o2 b gm pa cd td]) := hD
      refine W.eq (g2 := F0 m 664 ls [.int (nI 0)]) rfl ?_
      refine lv_istore (lv' := [(5, .int (nI 0)), (4, .int (nI (6 * j))), (0, .ref sA), (1, .ref x), (2, .ref (mo 0)), (3, .ref ou)]) hx hb dL_law_664 hl (by decide) rfl (fun ls hl => ?_)
      refine lv_aload_n hx hb dL_law_666 rfl (lv_at hl 4 rfl) ?_
      refine lw_rd hc hj 1 (by decide) hS 2 1 hl rfl rfl dL_law_667 dL_law_668 dL_law_670 (by decide) dL_law_671 dL_law_672 e1 ?_
      refine q_VBE (Bs := [wU C ou ((nI (y + 1)).toInt64), wF C x nw tr hq iq tt sC ba z b b2 ph r n t f v o (y + 1) (upN cd y a1), mF C mo (nI n) (nI y) tw pl fl tl v2 o2 b gm pa cd td]) (cs := [mF C mo (nI n) (nI y) tw pl fl tl v2 o2 b gm pa cd td]) (As := [.int (nI a1)]) (rest := []) ⟨hx, hb, hml, hown, hts⟩ (M_append l C mo (nI n) tw pl fl tl v2 o2 y a1 cd b gm pa td (by omega) (by omega) (by omega)).one (cwV 1 hts gL_law_X5_append rfl rfl rfl (by decide +kernel) ⟨Nat.le_of_ble_eq_true rfl, Nat.le_of_ble_eq_true rfl⟩) hK hV hE hP hD hS (fun _ h => h) [2] (by decide) rfl 76 rfl rfl rfl rfl hl.1 rfl (Nat.le_of_ble_eq_true rfl) dL_law_673 (lw_c0 hce hj hL) (lw_s0 hsl hj hL) (fun r w1 H locs hQ hF hS => ?_)
      obtain ⟨rfl, rfl⟩ := hQ
      obtain ⟨hP, hD⟩ := hF [mF C mo (nI n) (nI (y + 1)) (nI 0) pl fl tl v2 o2 b gm pa (upN cd y a1) td] (flat_one _).symm rfl
      have hP : va_P C.1 vwCl (List.flatten [wU C ou ((nI (y + 1)).toInt64), wF C x nw tr hq iq tt sC ba z b b2 ph r n t f v o (y + 1) (upN cd y a1), mF C mo (nI n) (nI (y + 1)) (nI 0) pl fl tl v2 o2 b gm pa (upN cd y a1) td]) H := hP
      have hD : va_D (lwA s) (List.flatten [wU C ou ((nI (y + 1)).toInt64), wF C x nw tr hq iq tt sC ba z b b2 ph r n t f v o (y + 1) (upN cd y a1), mF C mo (nI n) (nI (y + 1)) (nI 0) pl fl tl v2 o2 b gm pa (upN cd y a1) td]) := hD
      refine W.eq (g2 := F0 m 676 ls [.int (nI (y + 1))]) rfl ?_
      refine lv_istore (lv' := [(6, .int (nI (y + 1))), (5, .int (nI 0)), (4, .int (nI (6 * j))), (0, .ref sA), (1, .ref x), (2, .ref (mo 0)), (3, .ref ou)]) hx hb dL_law_676 hl (by decide) rfl (fun ls hl => ?_)
      have hP : va_P C.1 vwCl (List.flatten [wU C ou ((nI (y + 1)).toInt64), wF C x nw tr hq iq tt sC ba z b b2 ph r n t f v o (y + 1) (upN cd y a1), mF C mo (nI n) (nI (y + 1)) (nI 0) pl fl tl v2 o2 b gm pa (upN cd y a1) td]) H := hP
      have hD : va_D (lwA s) (List.flatten [wU C ou ((nI (y + 1)).toInt64), wF C x nw tr hq iq tt sC ba z b b2 ph r n t f v o (y + 1) (upN cd y a1), mF C mo (nI n) (nI (y + 1)) (nI 0) pl fl tl v2 o2 b gm pa (upN cd y a1) td]) := hD
      exact lw_tailI hc hj K ⟨hok, hph, hfr, (by omega), lw_app hcd (by omega), hpa⟩ (by omega) (by omega) hP hD hS hl 5 rfl 1 rfl 6 rfl 0 rfl [2, 3, 4, 5, 6] rfl dL_law_678 dL_law_679 dL_law_682 dL_law_684 dL_law_689 dL_law_691 dL_law_694 dL_law_695 dL_law_696 dL_law_697 dL_law_699 dL_law_700 dL_law_701 dL_law_706 (by decide)
    · skip
      obtain rfl : y = 60 := by omega
      refine lv_aload_n hx hb dL_law_653 rfl (lv_at hl 2 rfl) ?_
      refine lw_rd hc hj 1 (by decide) hS 1 0 hl rfl rfl dL_law_654 dL_law_655 dL_law_657 (by decide) dL_law_658 dL_law_659 e1 ?_
      refine lv_aload_n hx hb dL_law_660 rfl (lv_at hl 4 rfl) ?_
      refine q_SWB1 (Bs := [wU C ou x0, wF C x nw tr hq iq tt sC ba z b b2 ph r n t f v o 60 cd, mF C mo (nI n) (nI 60) tw pl fl tl v2 o2 b gm pa cd td]) (cs := [wU C ou x0, wF C x nw tr hq iq tt sC ba z b b2 ph r n t f v o 60 cd]) (As := [.ref x, .int (nI a1), .ref ou]) (rest := []) ⟨hx, hb, hml, hown, hts⟩ (W2_append l hl0 C x nw tr hq iq tt sC z cd a1 ba b b2 r n ph t f v o ou x0 (by omega) (by omega)) (vx_cwSW 3 hts gL_law_L_append rfl rfl rfl (by decide +kernel) ⟨Nat.le_of_ble_eq_true rfl, Nat.le_of_ble_eq_true rfl⟩) hK hV hE hP hD hS (fun _ h => h) [0, 1] (by decide) rfl rfl hl.1 rfl (Nat.le_of_ble_eq_true rfl) dL_law_661 (lw_c1 hce hj hL) (lw_s1 hsl hj hL) (fun r w1 H locs hQ hF hS => ?_)
      obtain ⟨rfl, rfl⟩ := hQ
      obtain ⟨hP, hD⟩ := hF [wU C ou x0, wF C x nw tr hq iq tt sC ba z b b2 ph r n t f v o 60 cd] rfl rfl
      have hP : va_P C.1 vwCl (List.flatten [wU C ou x0, wF C x nw tr hq iq tt sC ba z b b2 ph r n t f v o 60 cd, mF C mo (nI n) (nI 60) tw pl fl tl v2 o2 b gm pa cd td]) H := hP
      have hD : va_D (lwA s) (List.flatten [wU C ou x0, wF C x nw tr hq iq tt sC ba z b b2 ph r n t f v o 60 cd, mF C mo (nI n) (nI 60) tw pl fl tl v2 o2 b gm pa cd td]) := hD
      refine W.eq (g2 := F0 m 664 ls [.int (nI 2)]) rfl ?_
      have hce : cells + 1 ≤ 100 + j + 1 := Nat.succ_le_succ hce
      have hsl : slots + 6 ≤ 2000 + 6 * j + 6 := Nat.add_le_add_right hsl 6
      refine lv_istore (lv' := [(5, .int (nI 2)), (4, .int (nI (6 * j))), (0, .ref sA), (1, .ref x), (2, .ref (mo 0)), (3, .ref ou)]) hx hb dL_law_664 hl (by decide) rfl (fun ls hl => ?_)
      refine lv_aload_n hx hb dL_law_666 rfl (lv_at hl 4 rfl) ?_
      refine lw_rd hc hj 1 (by decide) hS 2 1 hl rfl rfl dL_law_667 dL_law_668 dL_law_670 (by decide) dL_law_671 dL_law_672 e1 ?_
      refine q_VBE (Bs := [wU C ou x0, wF C x nw tr hq iq tt sC ba z b b2 ph r n t f v o 60 cd, mF C mo (nI n) (nI 60) tw pl fl tl v2 o2 b gm pa cd td]) (cs := [mF C mo (nI n) (nI 60) tw pl fl tl v2 o2 b gm pa cd td]) (As := [.int (nI a1)]) (rest := []) ⟨hx, hb, hml, hown, hts⟩ (M2_append l C mo (nI n) tw pl fl tl v2 o2 a1 b gm pa cd td (by omega) (by omega)).one (cwV 1 hts gL_law_X5_append rfl rfl rfl (by decide +kernel) ⟨Nat.le_of_ble_eq_true rfl, Nat.le_of_ble_eq_true rfl⟩) hK hV hE hP hD hS (fun _ h => h) [2] (by decide) rfl 76 rfl rfl rfl rfl hl.1 rfl (Nat.le_of_ble_eq_true rfl) dL_law_673 (lw_c0 hce hj hL) (lw_s0 hsl hj hL) (fun r w1 H locs hQ hF hS => ?_)
      obtain ⟨rfl, rfl⟩ := hQ
      obtain ⟨hP, hD⟩ := hF [mF C mo (nI n) (nI 60) (nI 2) pl fl tl v2 o2 b gm pa cd td] (flat_one _).symm rfl
      have hP : va_P C.1 vwCl (List.flatten [wU C ou x0, wF C x nw tr hq iq tt sC ba z b b2 ph r n t f v o 60 cd, mF C mo (nI n) (nI 60) (nI 2) pl fl tl v2 o2 b gm pa cd td]) H := hP
      have hD : va_D (lwA s) (List.flatten [wU C ou x0, wF C x nw tr hq iq tt sC ba z b b2 ph r n t f v o 60 cd, mF C mo (nI n) (nI 60) (nI 2) pl fl tl v2 o2 b gm pa cd td]) := hD
      refine W.eq (g2 := F0 m 676 ls [.int (nI 0)]) rfl ?_
      refine lv_istore (lv' := [(6, .int (nI 0)), (5, .int (nI 2)), (4, .int (nI (6 * j))), (0, .ref sA), (1, .ref x), (2, .ref (mo 0)), (3, .ref ou)]) hx hb dL_law_676 hl (by decide) rfl (fun ls hl => ?_)
      have hP : va_P C.1 vwCl (List.flatten [wU C ou x0, wF C x nw tr hq iq tt sC ba z b b2 ph r n t f v o 60 cd, mF C mo (nI n) (nI 60) (nI 2) pl fl tl v2 o2 b gm pa cd td]) H := hP
      have hD : va_D (lwA s) (List.flatten [wU C ou x0, wF C x nw tr hq iq tt sC ba z b b2 ph r n t f v o 60 cd, mF C mo (nI n) (nI 60) (nI 2) pl fl tl v2 o2 b gm pa cd td]) := hD
      exact lw_tailT hc hj K 2 (by decide) (by decide) ⟨hok, hph, hfr, hy60, hcd, hpa⟩ (by omega) (by omega) hP hD hS hl 5 rfl 1 rfl [2, 3, 4, 5, 6] rfl 28 (by decide) dL_law_678 dL_law_679 dL_law_682 dL_law_684 dL_law_689 dL_law_691 dL_law_706 (by decide)
set_option maxHeartbeats 4000000 in
set_option maxRecDepth 100000 in
theorem lw_clearBuffer (hc : lwC p l s m meth c C sA L xs) (hj : 6 * j + 6 ≤ L) (K : lwAt p l e s m below meth c Q C sA x ou sC nw tr hq iq tt ba mo j 1507 (j + 1)) : lwAt p l e s m below meth c Q C sA x ou sC nw tr hq iq tt ba mo j 709 j := by
  intro x0 z b b2 ph r n t f v o y cd tw pl fl tl v2 o2 gm pa td cells slots H locs ls okx hce hsl hP hD hS hl
  obtain ⟨hok, hph, hfr, hy60, hcd, hpa⟩ := okx
  have hB : OkB b := hok.1
  have hU : sumU b ≤ 9999 := hok.2
  have hr6 : r < 6 := hph.1
  have hn6 : n ≤ 6 := hph.2.1
  have hc0 := hc
  obtain ⟨hx, hb, hml, hown, hts, hK, hV, hE, hX, hsb, hL, hl0⟩ := hc0
  refine lv_aload_n hx hb dL_law_709 rfl (lv_at hl 2 rfl) ?_
  refine q_VBE (Bs := [wU C ou x0, wF C x nw tr hq iq tt sC ba z b b2 ph r n t f v o y cd, mF C mo (nI n) (nI y) tw pl fl tl v2 o2 b gm pa cd td]) (cs := [wF C x nw tr hq iq tt sC ba z b b2 ph r n t f v o y cd]) (As := []) (rest := []) ⟨hx, hb, hml, hown, hts⟩ (F_clearBuffer l C x nw tr hq iq tt sC z y cd ba b b2 r n ph t f v o).one (cwV 0 hts gL_law_X4_clearBuffer rfl rfl rfl (by decide +kernel) ⟨Nat.le_of_ble_eq_true rfl, Nat.le_of_ble_eq_true rfl⟩) hK hV hE hP hD hS (fun _ h => h) [1] (by decide) rfl 1 rfl rfl rfl rfl hl.1 rfl (Nat.le_of_ble_eq_true rfl) dL_law_710 (lw_c0 hce hj hL) (lw_s0 hsl hj hL) (fun r w1 H locs hQ hF hS => ?_)
  obtain ⟨rfl, rfl⟩ := hQ
  obtain ⟨hP, hD⟩ := hF [wF C x nw tr hq iq tt sC ba z b b2 ph r n t f v o 0 cd] (flat_one _).symm rfl
  have hP : va_P C.1 vwCl (List.flatten [wU C ou x0, wF C x nw tr hq iq tt sC ba z b b2 ph r n t f v o 0 cd, mF C mo (nI n) (nI y) tw pl fl tl v2 o2 b gm pa cd td]) H := hP
  have hD : va_D (lwA s) (List.flatten [wU C ou x0, wF C x nw tr hq iq tt sC ba z b b2 ph r n t f v o 0 cd, mF C mo (nI n) (nI y) tw pl fl tl v2 o2 b gm pa cd td]) := hD
  refine W.eq (g2 := F0 m 713 ls [.int (nI y)]) rfl ?_
  refine lv_aload_n hx hb dL_law_713 rfl (lv_at hl 3 rfl) ?_
  refine q_VBE (Bs := [wU C ou x0, wF C x nw tr hq iq tt sC ba z b b2 ph r n t f v o 0 cd, mF C mo (nI n) (nI y) tw pl fl tl v2 o2 b gm pa cd td]) (cs := [mF C mo (nI n) (nI y) tw pl fl tl v2 o2 b gm pa cd td]) (As := []) (rest := [.int (nI y)]) ⟨hx, hb, hml, hown, hts⟩ (M_clearBuffer l C mo (nI n) tw pl fl tl v2 o2 y b gm pa cd td).one (cwV 0 hts gL_law_X5_clearBuffer rfl rfl rfl (by decide +kernel) ⟨Nat.le_of_ble_eq_true rfl, Nat.le_of_ble_eq_true rfl⟩) hK hV hE hP hD hS (fun _ h => h) [2] (by decide) rfl 76 rfl rfl rfl rfl hl.1 rfl (Nat.le_of_ble_eq_true rfl) dL_law_714 (lw_c0 hce hj hL) (lw_s0 hsl hj hL) (fun r w1 H locs hQ hF hS => ?_)
  obtain ⟨rfl, rfl⟩ := hQ
  obtain ⟨hP, hD⟩ := hF [mF C mo (nI n) (nI 0) (nI 0) pl fl tl v2 o2 b gm pa cd td] (flat_one _).symm rfl
  have hP : va_P C.1 vwCl (List.flatten [wU C ou x0, wF C x nw tr hq iq tt sC ba z b b2 ph r n t f v o 0 cd, mF C mo (nI n) (nI 0) (nI 0) pl fl tl v2 o2 b gm pa cd td]) H := hP
  have hD : va_D (lwA s) (List.flatten [wU C ou x0, wF C x nw tr hq iq tt sC ba z b b2 ph r n t f v o 0 cd, mF C mo (nI n) (nI 0) (nI 0) pl fl tl v2 o2 b gm pa cd td]) := hD
  refine W.eq (g2 := F0 m 717 ls [.int (nI y), .int (nI y)]) rfl ?_
  have hP : va_P C.1 vwCl (List.flatten [wU C ou x0, wF C x nw tr hq iq tt sC ba z b b2 ph r n t f v o 0 cd, mF C mo (nI n) (nI 0) (nI 0) pl fl tl v2 o2 b gm pa cd td]) H := hP
  have hD : va_D (lwA s) (List.flatten [wU C ou x0, wF C x nw tr hq iq tt sC ba z b b2 ph r n t f v o 0 cd, mF C mo (nI n) (nI 0) (nI 0) pl fl tl v2 o2 b gm pa cd td]) := hD
  refine lv_icmp_eq (tgt := 1507) hx hb dL_law_717 (by decide) (fun _ => ?_) (fun q => absurd rfl q)
  exact K _ _ _ _ _ _ _ _ _ _ _ _ _ _ _ _ _ _ _ _ _ _ _ _ _ _ _ ⟨hok, hph, hfr, Nat.zero_le _, fun k hk => absurd hk (Nat.not_lt_zero k), hpa⟩ (by omega) (by omega) hP hD hS (lv_sub hl [0, 1, 2, 3, 4] rfl)
set_option maxHeartbeats 4000000 in
set_option maxRecDepth 100000 in
theorem lw_firstError (hc : lwC p l s m meth c C sA L xs) (hj : 6 * j + 6 ≤ L) (K : lwAt p l e s m below meth c Q C sA x ou sC nw tr hq iq tt ba mo j 1507 (j + 1)) : lwAt p l e s m below meth c Q C sA x ou sC nw tr hq iq tt ba mo j 722 j := by
  intro x0 z b b2 ph r n t f v o y cd tw pl fl tl v2 o2 gm pa td cells slots H locs ls okx hce hsl hP hD hS hl
  obtain ⟨hok, hph, hfr, hy60, hcd, hpa⟩ := okx
  have hB : OkB b := hok.1
  have hU : sumU b ≤ 9999 := hok.2
  have hr6 : r < 6 := hph.1
  have hn6 : n ≤ 6 := hph.2.1
  have hc0 := hc
  obtain ⟨hx, hb, hml, hown, hts, hK, hV, hE, hX, hsb, hL, hl0⟩ := hc0
  refine lv_aload_n hx hb dL_law_722 rfl (lv_at hl 2 rfl) ?_
  refine q_VBE (Bs := [wU C ou x0, wF C x nw tr hq iq tt sC ba z b b2 ph r n t f v o y cd, mF C mo (nI n) (nI y) tw pl fl tl v2 o2 b gm pa cd td]) (cs := [wF C x nw tr hq iq tt sC ba z b b2 ph r n t f v o y cd]) (As := []) (rest := []) ⟨hx, hb, hml, hown, hts⟩ (F_firstError l C x nw tr hq iq tt sC z y cd ba b b2 r n ph t f v o hy60 hcd).one (cwV 0 hts gL_law_X4_firstError rfl rfl rfl (by decide +kernel) ⟨Nat.le_of_ble_eq_true rfl, Nat.le_of_ble_eq_true rfl⟩) hK hV hE hP hD hS (fun _ h => h) [1] (by decide) rfl 1 rfl rfl rfl rfl hl.1 rfl (Nat.le_of_ble_eq_true rfl) dL_law_723 (lw_c0 hce hj hL) (lw_s0 hsl hj hL) (fun r w1 H locs hQ hF hS => ?_)
  obtain ⟨rfl, rfl⟩ := hQ
  obtain ⟨hP, hD⟩ := hF [wF C x nw tr hq iq tt sC ba z b b2 ph r n t f v o y cd] (flat_one _).symm rfl
  have hP : va_P C.1 vwCl (List.flatten [wU C ou x0, wF C x nw tr hq iq tt sC ba z b b2 ph r n t f v o y cd, mF C mo (nI n) (nI y) tw pl fl tl v2 o2 b gm pa cd td]) H := hP
  have hD : va_D (lwA s) (List.flatten [wU C ou x0, wF C x nw tr hq iq tt sC ba z b b2 ph r n t f v o y cd, mF C mo (nI n) (nI y) tw pl fl tl v2 o2 b gm pa cd td]) := hD
  refine W.eq (g2 := F0 m 726 ls [.int (nI (errN cd y))]) rfl ?_
  refine lv_aload_n hx hb dL_law_726 rfl (lv_at hl 3 rfl) ?_
  refine q_VBE (Bs := [wU C ou x0, wF C x nw tr hq iq tt sC ba z b b2 ph r n t f v o y cd, mF C mo (nI n) (nI y) tw pl fl tl v2 o2 b gm pa cd td]) (cs := [mF C mo (nI n) (nI y) tw pl fl tl v2 o2 b gm pa cd td]) (As := []) (rest := [.int (nI (errN cd y))]) ⟨hx, hb, hml, hown, hts⟩ (M_firstError l C mo (nI n) tw pl fl tl v2 o2 y cd td b gm pa hy60 hcd).one (cwV 0 hts gL_law_X5_firstError rfl rfl rfl (by decide +kernel) ⟨Nat.le_of_ble_eq_true rfl, Nat.le_of_ble_eq_true rfl⟩) hK hV hE hP hD hS (fun _ h => h) [2] (by decide) rfl 76 rfl rfl rfl rfl hl.1 rfl (Nat.le_of_ble_eq_true rfl) dL_law_727 (lw_c0 hce hj hL) (lw_s0 hsl hj hL) (fun r w1 H locs hQ hF hS => ?_)
  obtain ⟨pq2, fq2, jq2, tdq2, rfl, rfl⟩ := hQ
  obtain ⟨hP, hD⟩ := hF [mF C mo (nI n) (nI y) (nI 0) (nI pq2) (nI fq2) (nI jq2) v2 o2 b gm pa cd tdq2] (flat_one _).symm rfl
  have hP : va_P C.1 vwCl (List.flatten [wU C ou x0, wF C x nw tr hq iq tt sC ba z b b2 ph r n t f v o y cd, mF C mo (nI n) (nI y) (nI 0) (nI pq2) (nI fq2) (nI jq2) v2 o2 b gm pa cd tdq2]) H := hP
  have hD : va_D (lwA s) (List.flatten [wU C ou x0, wF C x nw tr hq iq tt sC ba z b b2 ph r n t f v o y cd, mF C mo (nI n) (nI y) (nI 0) (nI pq2) (nI fq2) (nI jq2) v2 o2 b gm pa cd tdq2]) := hD
  refine W.eq (g2 := F0 m 730 ls [.int (nI (errN cd y)), .int (nI (errN cd y))]) rfl ?_
  have hP : va_P C.1 vwCl (List.flatten [wU C ou x0, wF C x nw tr hq iq tt sC ba z b b2 ph r n t f v o y cd, mF C mo (nI n) (nI y) (nI 0) (nI pq2) (nI fq2) (nI jq2) v2 o2 b gm pa cd tdq2]) H := hP
  have hD : va_D (lwA s) (List.flatten [wU C ou x0, wF C x nw tr hq iq tt sC ba z b b2 ph r n t f v o y cd, mF C mo (nI n) (nI y) (nI 0) (nI pq2) (nI fq2) (nI jq2) v2 o2 b gm pa cd tdq2]) := hD
  refine lv_icmp_eq (tgt := 1507) hx hb dL_law_730 (by decide) (fun _ => ?_) (fun q => absurd rfl q)
  exact K _ _ _ _ _ _ _ _ _ _ _ _ _ _ _ _ _ _ _ _ _ _ _ _ _ _ _ ⟨hok, hph, hfr, hy60, hcd, hpa⟩ (by omega) (by omega) hP hD hS (lv_sub hl [0, 1, 2, 3, 4] rfl)
set_option maxHeartbeats 4000000 in
set_option maxRecDepth 100000 in
theorem lw_read (hc : lwC p l s m meth c C sA L xs) (hj : 6 * j + 6 ≤ L) (K : lwAt p l e s m below meth c Q C sA x ou sC nw tr hq iq tt ba mo j 1507 (j + 1)) : lwAt p l e s m below meth c Q C sA x ou sC nw tr hq iq tt ba mo j 735 j := by
  intro x0 z b b2 ph r n t f v o y cd tw pl fl tl v2 o2 gm pa td cells slots H locs ls okx hce hsl hP hD hS hl
  obtain ⟨hok, hph, hfr, hy60, hcd, hpa⟩ := okx
  have hB : OkB b := hok.1
  have hU : sumU b ≤ 9999 := hok.2
  have hr6 : r < 6 := hph.1
  have hn6 : n ≤ 6 := hph.2.1
  have hc0 := hc
  obtain ⟨hx, hb, hml, hown, hts, hK, hV, hE, hX, hsb, hL, hl0⟩ := hc0
  cases hw : wholeN cd y with
  | false =>
    refine lv_aload_n hx hb dL_law_735 rfl (lv_at hl 2 rfl) ?_
    refine lv_aload_n hx hb dL_law_736 rfl (lv_at hl 4 rfl) ?_
    refine q_SWB1 (Bs := [wU C ou x0, wF C x nw tr hq iq tt sC ba z b b2 ph r n t f v o y cd, mF C mo (nI n) (nI y) tw pl fl tl v2 o2 b gm pa cd td]) (cs := [wU C ou x0, wF C x nw tr hq iq tt sC ba z b b2 ph r n t f v o y cd]) (As := [.ref x, .ref ou]) (rest := []) ⟨hx, hb, hml, hown, hts⟩ (W1_read l hl0 C x nw tr hq iq tt sC z y cd ba b b2 r n ph t f v o ou x0 hy60 hcd hw) (vx_cwSW 2 hts gL_law_L_read rfl rfl rfl (by decide +kernel) ⟨Nat.le_of_ble_eq_true rfl, Nat.le_of_ble_eq_true rfl⟩) hK hV hE hP hD hS (fun _ h => h) [0, 1] (by decide) rfl rfl hl.1 rfl (Nat.le_of_ble_eq_true rfl) dL_law_737 (lw_c1 hce hj hL) (lw_s1 hsl hj hL) (fun r w1 H locs hQ hF hS => ?_)
    obtain ⟨rfl, rfl⟩ := hQ
    obtain ⟨hP, hD⟩ := hF [wU C ou x0, wF C x nw tr hq iq tt sC ba z b b2 ph r n t f v o y cd] rfl rfl
    have hP : va_P C.1 vwCl (List.flatten [wU C ou x0, wF C x nw tr hq iq tt sC ba z b b2 ph r n t f v o y cd, mF C mo (nI n) (nI y) tw pl fl tl v2 o2 b gm pa cd td]) H := hP
    have hD : va_D (lwA s) (List.flatten [wU C ou x0, wF C x nw tr hq iq tt sC ba z b b2 ph r n t f v o y cd, mF C mo (nI n) (nI y) tw pl fl tl v2 o2 b gm pa cd td]) := hD
    refine W.eq (g2 := F0 m 740 ls [.int (nI 1)]) rfl ?_
    have hce : cells + 1 ≤ 100 + j + 1 := Nat.succ_le_succ hce
    have hsl : slots + 6 ≤ 2000 + 6 * j + 6 := Nat.add_le_add_right hsl 6
    refine lv_istore (lv' := [(5, .int (nI 1)), (4, .int (nI (6 * j))), (0, .ref sA), (1, .ref x), (2, .ref (mo 0)), (3, .ref ou)]) hx hb dL_law_740 hl (by decide) rfl (fun ls hl => ?_)
    refine lv_aload_n hx hb dL_law_742 rfl (lv_at hl 4 rfl) ?_
    refine q_VBE (Bs := [wU C ou x0, wF C x nw tr hq iq tt sC ba z b b2 ph r n t f v o y cd, mF C mo (nI n) (nI y) tw pl fl tl v2 o2 b gm pa cd td]) (cs := [mF C mo (nI n) (nI y) tw pl fl tl v2 o2 b gm pa cd td]) (As := []) (rest := []) ⟨hx, hb, hml, hown, hts⟩ (M1_read l C mo (nI n) tw pl fl tl v2 o2 y cd td b gm pa hy60 hcd hw).one (cwV 0 hts gL_law_X5_read rfl rfl rfl (by decide +kernel) ⟨Nat.le_of_ble_eq_true rfl, Nat.le_of_ble_eq_true rfl⟩) hK hV hE hP hD hS (fun _ h => h) [2] (by decide) rfl 76 rfl rfl rfl rfl hl.1 rfl (Nat.le_of_ble_eq_true rfl) dL_law_743 (lw_c0 hce hj hL) (lw_s0 hsl hj hL) (fun r w1 H locs hQ hF hS => ?_)
    obtain ⟨pq2, fq2, jq2, tdq2, rfl, rfl⟩ := hQ
    obtain ⟨hP, hD⟩ := hF [mF C mo (nI n) (nI y) (nI 1) (nI pq2) (nI fq2) (nI jq2) v2 o2 b gm pa cd tdq2] (flat_one _).symm rfl
    have hP : va_P C.1 vwCl (List.flatten [wU C ou x0, wF C x nw tr hq iq tt sC ba z b b2 ph r n t f v o y cd, mF C mo (nI n) (nI y) (nI 1) (nI pq2) (nI fq2) (nI jq2) v2 o2 b gm pa cd tdq2]) H := hP
    have hD : va_D (lwA s) (List.flatten [wU C ou x0, wF C x nw tr hq iq tt sC ba z b b2 ph r n t f v o y cd, mF C mo (nI n) (nI y) (nI 1) (nI pq2) (nI fq2) (nI jq2) v2 o2 b gm pa cd tdq2]) := hD
    refine W.eq (g2 := F0 m 746 ls [.int (nI 0)]) rfl ?_
    refine lv_istore (lv' := [(6, .int (nI 0)), (5, .int (nI 1)), (4, .int (nI (6 * j))), (0, .ref sA), (1, .ref x), (2, .ref (mo 0)), (3, .ref ou)]) hx hb dL_law_746 hl (by decide) rfl (fun ls hl => ?_)
    have hP : va_P C.1 vwCl (List.flatten [wU C ou x0, wF C x nw tr hq iq tt sC ba z b b2 ph r n t f v o y cd, mF C mo (nI n) (nI y) (nI 1) (nI pq2) (nI fq2) (nI jq2) v2 o2 b gm pa cd tdq2]) H := hP
    have hD : va_D (lwA s) (List.flatten [wU C ou x0, wF C x nw tr hq iq tt sC ba z b b2 ph r n t f v o y cd, mF C mo (nI n) (nI y) (nI 1) (nI pq2) (nI fq2) (nI jq2) v2 o2 b gm pa cd tdq2]) := hD
    exact lw_tailT hc hj K 1 (by decide) (by decide) ⟨hok, hph, hfr, hy60, hcd, hpa⟩ (by omega) (by omega) hP hD hS hl 5 rfl 1 rfl [2, 3, 4, 5, 6] rfl 28 (by decide) dL_law_748 dL_law_749 dL_law_752 dL_law_754 dL_law_759 dL_law_761 dL_law_776 (by decide)
  | true =>
    refine lv_aload_n hx hb dL_law_735 rfl (lv_at hl 2 rfl) ?_
    refine lv_aload_n hx hb dL_law_736 rfl (lv_at hl 4 rfl) ?_
    refine q_SWB (Bs := [wU C ou x0, wF C x nw tr hq iq tt sC ba z b b2 ph r n t f v o y cd, mF C mo (nI n) (nI y) tw pl fl tl v2 o2 b gm pa cd td]) (cs := [wU C ou x0, wF C x nw tr hq iq tt sC ba z b b2 ph r n t f v o y cd]) (As := [.ref x, .ref ou]) (rest := []) ⟨hx, hb, hml, hown, hts⟩ (W_read l C x nw tr hq iq tt sC z ba ph r n b t f v o y cd b2 ou x0 hr6 hn6 hy60 hcd hw) (vx_cwSW 2 hts gL_law_L_read rfl rfl rfl (by decide +kernel) ⟨Nat.le_of_ble_eq_true rfl, Nat.le_of_ble_eq_true rfl⟩) hK hV hE hP hD hS (fun _ h => h) [0, 1] (by decide) rfl rfl hl.1 rfl (Nat.le_of_ble_eq_true rfl) dL_law_737 (lw_c0 hce hj hL) (lw_s0 hsl hj hL) (fun r w1 H locs hQ hF hS => ?_)
    obtain ⟨rfl, rfl⟩ := hQ
    obtain ⟨hP, hD⟩ := hF [wU C ou ((nI (mvN cd b y).1).toInt64), wF C x nw tr hq iq tt sC ba z ((mvN cd b y).2.2.2) b2 (upB ph (kJ n r) b) (kR n r) (kC n) t (upN (upN (upN (upN f 0 0) 1 0) 2 0) 3 0) v o 0 cd] rfl rfl
    have hP : va_P C.1 vwCl (List.flatten [wU C ou ((nI (mvN cd b y).1).toInt64), wF C x nw tr hq iq tt sC ba z ((mvN cd b y).2.2.2) b2 (upB ph (kJ n r) b) (kR n r) (kC n) t (upN (upN (upN (upN f 0 0) 1 0) 2 0) 3 0) v o 0 cd, mF C mo (nI n) (nI y) tw pl fl tl v2 o2 b gm pa cd td]) H := hP
    have hD : va_D (lwA s) (List.flatten [wU C ou ((nI (mvN cd b y).1).toInt64), wF C x nw tr hq iq tt sC ba z ((mvN cd b y).2.2.2) b2 (upB ph (kJ n r) b) (kR n r) (kC n) t (upN (upN (upN (upN f 0 0) 1 0) 2 0) 3 0) v o 0 cd, mF C mo (nI n) (nI y) tw pl fl tl v2 o2 b gm pa cd td]) := hD
    refine W.eq (g2 := F0 m 740 ls [.int (nI 0)]) rfl ?_
    refine lv_istore (lv' := [(5, .int (nI 0)), (4, .int (nI (6 * j))), (0, .ref sA), (1, .ref x), (2, .ref (mo 0)), (3, .ref ou)]) hx hb dL_law_740 hl (by decide) rfl (fun ls hl => ?_)
    refine lv_aload_n hx hb dL_law_742 rfl (lv_at hl 4 rfl) ?_
    refine q_VBE (Bs := [wU C ou ((nI (mvN cd b y).1).toInt64), wF C x nw tr hq iq tt sC ba z ((mvN cd b y).2.2.2) b2 (upB ph (kJ n r) b) (kR n r) (kC n) t (upN (upN (upN (upN f 0 0) 1 0) 2 0) 3 0) v o 0 cd, mF C mo (nI n) (nI y) tw pl fl tl v2 o2 b gm pa cd td]) (cs := [mF C mo (nI n) (nI y) tw pl fl tl v2 o2 b gm pa cd td]) (As := []) (rest := []) ⟨hx, hb, hml, hown, hts⟩ (M_read l C mo tw pl fl tl v2 o2 y cd td ph r n pa b gm hy60 hcd hr6 hn6 hpa hw).one (cwV 0 hts gL_law_X5_read rfl rfl rfl (by decide +kernel) ⟨Nat.le_of_ble_eq_true rfl, Nat.le_of_ble_eq_true rfl⟩) hK hV hE hP hD hS (fun _ h => h) [2] (by decide) rfl 76 rfl rfl rfl rfl hl.1 rfl (Nat.le_of_ble_eq_true rfl) dL_law_743 (lw_c0 hce hj hL) (lw_s0 hsl hj hL) (fun r w1 H locs hQ hF hS => ?_)
    obtain ⟨paq4, pq4, fq4, jq4, tdq4, rfl, rfl, hmh⟩ := hQ
    obtain ⟨hP, hD⟩ := hF [mF C mo (nI (kC n)) (nI 0) (nI 0) (nI pq4) (nI fq4) (nI jq4) v2 o2 ((mvN cd b y).2.2.2) gm paq4 cd tdq4] (flat_one _).symm rfl
    have hP : va_P C.1 vwCl (List.flatten [wU C ou ((nI (mvN cd b y).1).toInt64), wF C x nw tr hq iq tt sC ba z ((mvN cd b y).2.2.2) b2 (upB ph (kJ n r) b) (kR n r) (kC n) t (upN (upN (upN (upN f 0 0) 1 0) 2 0) 3 0) v o 0 cd, mF C mo (nI (kC n)) (nI 0) (nI 0) (nI pq4) (nI fq4) (nI jq4) v2 o2 ((mvN cd b y).2.2.2) gm paq4 cd tdq4]) H := hP
    have hD : va_D (lwA s) (List.flatten [wU C ou ((nI (mvN cd b y).1).toInt64), wF C x nw tr hq iq tt sC ba z ((mvN cd b y).2.2.2) b2 (upB ph (kJ n r) b) (kR n r) (kC n) t (upN (upN (upN (upN f 0 0) 1 0) 2 0) 3 0) v o 0 cd, mF C mo (nI (kC n)) (nI 0) (nI 0) (nI pq4) (nI fq4) (nI jq4) v2 o2 ((mvN cd b y).2.2.2) gm paq4 cd tdq4]) := hD
    refine W.eq (g2 := F0 m 746 ls [.int (nI (mvN cd b y).1)]) rfl ?_
    refine lv_istore (lv' := [(6, .int (nI (mvN cd b y).1)), (5, .int (nI 0)), (4, .int (nI (6 * j))), (0, .ref sA), (1, .ref x), (2, .ref (mo 0)), (3, .ref ou)]) hx hb dL_law_746 hl (by decide) rfl (fun ls hl => ?_)
    have hP : va_P C.1 vwCl (List.flatten [wU C ou ((nI (mvN cd b y).1).toInt64), wF C x nw tr hq iq tt sC ba z ((mvN cd b y).2.2.2) b2 (upB ph (kJ n r) b) (kR n r) (kC n) t (upN (upN (upN (upN f 0 0) 1 0) 2 0) 3 0) v o 0 cd, mF C mo (nI (kC n)) (nI 0) (nI 0) (nI pq4) (nI fq4) (nI jq4) v2 o2 ((mvN cd b y).2.2.2) gm paq4 cd tdq4]) H := hP
    have hD : va_D (lwA s) (List.flatten [wU C ou ((nI (mvN cd b y).1).toInt64), wF C x nw tr hq iq tt sC ba z ((mvN cd b y).2.2.2) b2 (upB ph (kJ n r) b) (kR n r) (kC n) t (upN (upN (upN (upN f 0 0) 1 0) 2 0) 3 0) v o 0 cd, mF C mo (nI (kC n)) (nI 0) (nI 0) (nI pq4) (nI fq4) (nI jq4) v2 o2 ((mvN cd b y).2.2.2) gm paq4 cd tdq4]) := hD
    exact lw_tailI hc hj K ⟨okS_mv hok _, okH_keep hph hok, frB_0 _ _ _, Nat.zero_le _, fun k hk => absurd hk (Nat.not_lt_zero k), hmh⟩ (by omega) (by omega) hP hD hS hl 5 rfl 1 rfl 6 rfl 0 rfl [2, 3, 4, 5, 6] rfl dL_law_748 dL_law_749 dL_law_752 dL_law_754 dL_law_759 dL_law_761 dL_law_764 dL_law_765 dL_law_766 dL_law_767 dL_law_769 dL_law_770 dL_law_771 dL_law_776 (by decide)
set_option maxHeartbeats 4000000 in
set_option maxRecDepth 100000 in
theorem lw_undo (hc : lwC p l s m meth c C sA L xs) (hj : 6 * j + 6 ≤ L) (K : lwAt p l e s m below meth c Q C sA x ou sC nw tr hq iq tt ba mo j 1507 (j + 1)) : lwAt p l e s m below meth c Q C sA x ou sC nw tr hq iq tt ba mo j 779 j := by
  intro x0 z b b2 ph r n t f v o y cd tw pl fl tl v2 o2 gm pa td cells slots H locs ls okx hce hsl hP hD hS hl
  obtain ⟨hok, hph, hfr, hy60, hcd, hpa⟩ := okx
  have hB : OkB b := hok.1
  have hU : sumU b ≤ 9999 := hok.2
  have hr6 : r < 6 := hph.1
  have hn6 : n ≤ 6 := hph.2.1
  have hc0 := hc
  obtain ⟨hx, hb, hml, hown, hts, hK, hV, hE, hX, hsb, hL, hl0⟩ := hc0
  by_cases hs : 0 < n
  · skip
    refine lv_aload_n hx hb dL_law_779 rfl (lv_at hl 2 rfl) ?_
    refine lv_aload_n hx hb dL_law_780 rfl (lv_at hl 4 rfl) ?_
    refine q_SWB (Bs := [wU C ou x0, wF C x nw tr hq iq tt sC ba z b b2 ph r n t f v o y cd, mF C mo (nI n) (nI y) tw pl fl tl v2 o2 b gm pa cd td]) (cs := [wU C ou x0, wF C x nw tr hq iq tt sC ba z b b2 ph r n t f v o y cd]) (As := [.ref x, .ref ou]) (rest := []) ⟨hx, hb, hml, hown, hts⟩ (W_undo l C x nw tr hq iq tt sC z ba ph r n b t f v o b2 y cd ou x0 hr6 hn6 (by omega)) (vx_cwSW 2 hts gL_law_L_undo rfl rfl rfl (by decide +kernel) ⟨Nat.le_of_ble_eq_true rfl, Nat.le_of_ble_eq_true rfl⟩) hK hV hE hP hD hS (fun _ h => h) [0, 1] (by decide) rfl rfl hl.1 rfl (Nat.le_of_ble_eq_true rfl) dL_law_781 (lw_c0 hce hj hL) (lw_s0 hsl hj hL) (fun r w1 H locs hQ hF hS => ?_)
    obtain ⟨rfl, rfl⟩ := hQ
    obtain ⟨hP, hD⟩ := hF [wU C ou ((nI (n - 1)).toInt64), wF C x nw tr hq iq tt sC ba z (ph ((n - 1 + r) % 6)) b2 ph r (n - 1) t (upN (upN (upN (upN f 0 0) 1 0) 2 0) 3 0) v o y cd] rfl rfl
    have hP : va_P C.1 vwCl (List.flatten [wU C ou ((nI (n - 1)).toInt64), wF C x nw tr hq iq tt sC ba z (ph ((n - 1 + r) % 6)) b2 ph r (n - 1) t (upN (upN (upN (upN f 0 0) 1 0) 2 0) 3 0) v o y cd, mF C mo (nI n) (nI y) tw pl fl tl v2 o2 b gm pa cd td]) H := hP
    have hD : va_D (lwA s) (List.flatten [wU C ou ((nI (n - 1)).toInt64), wF C x nw tr hq iq tt sC ba z (ph ((n - 1 + r) % 6)) b2 ph r (n - 1) t (upN (upN (upN (upN f 0 0) 1 0) 2 0) 3 0) v o y cd, mF C mo (nI n) (nI y) tw pl fl tl v2 o2 b gm pa cd td]) := hD
    refine W.eq (g2 := F0 m 784 ls [.int (nI 0)]) rfl ?_
    refine lv_istore (lv' := [(5, .int (nI 0)), (4, .int (nI (6 * j))), (0, .ref sA), (1, .ref x), (2, .ref (mo 0)), (3, .ref ou)]) hx hb dL_law_784 hl (by decide) rfl (fun ls hl => ?_)
    refine lv_aload_n hx hb dL_law_786 rfl (lv_at hl 4 rfl) ?_
    refine q_VBE (Bs := [wU C ou ((nI (n - 1)).toInt64), wF C x nw tr hq iq tt sC ba z (ph ((n - 1 + r) % 6)) b2 ph r (n - 1) t (upN (upN (upN (upN f 0 0) 1 0) 2 0) 3 0) v o y cd, mF C mo (nI n) (nI y) tw pl fl tl v2 o2 b gm pa cd td]) (cs := [mF C mo (nI n) (nI y) tw pl fl tl v2 o2 b gm pa cd td]) (As := []) (rest := []) ⟨hx, hb, hml, hown, hts⟩ (M_undo l C mo (nI y) tw pl fl tl v2 o2 ph r n pa b gm cd td hr6 hn6 (by omega) hpa).one (cwV 0 hts gL_law_X5_undo rfl rfl rfl (by decide +kernel) ⟨Nat.le_of_ble_eq_true rfl, Nat.le_of_ble_eq_true rfl⟩) hK hV hE hP hD hS (fun _ h => h) [2] (by decide) rfl 76 rfl rfl rfl rfl hl.1 rfl (Nat.le_of_ble_eq_true rfl) dL_law_787 (lw_c0 hce hj hL) (lw_s0 hsl hj hL) (fun r w1 H locs hQ hF hS => ?_)
    obtain ⟨rfl, rfl⟩ := hQ
    obtain ⟨hP, hD⟩ := hF [mF C mo (nI (n - 1)) (nI y) (nI 0) pl fl tl v2 o2 (ph ((n - 1 + r) % 6)) gm pa cd td] (flat_one _).symm rfl
    have hP : va_P C.1 vwCl (List.flatten [wU C ou ((nI (n - 1)).toInt64), wF C x nw tr hq iq tt sC ba z (ph ((n - 1 + r) % 6)) b2 ph r (n - 1) t (upN (upN (upN (upN f 0 0) 1 0) 2 0) 3 0) v o y cd, mF C mo (nI (n - 1)) (nI y) (nI 0) pl fl tl v2 o2 (ph ((n - 1 + r) % 6)) gm pa cd td]) H := hP
    have hD : va_D (lwA s) (List.flatten [wU C ou ((nI (n - 1)).toInt64), wF C x nw tr hq iq tt sC ba z (ph ((n - 1 + r) % 6)) b2 ph r (n - 1) t (upN (upN (upN (upN f 0 0) 1 0) 2 0) 3 0) v o y cd, mF C mo (nI (n - 1)) (nI y) (nI 0) pl fl tl v2 o2 (ph ((n - 1 + r) % 6)) gm pa cd td]) := hD
    refine W.eq (g2 := F0 m 790 ls [.int (nI (n - 1))]) rfl ?_
    refine lv_istore (lv' := [(6, .int (nI (n - 1))), (5, .int (nI 0)), (4, .int (nI (6 * j))), (0, .ref sA), (1, .ref x), (2, .ref (mo 0)), (3, .ref ou)]) hx hb dL_law_790 hl (by decide) rfl (fun ls hl => ?_)
    have hP : va_P C.1 vwCl (List.flatten [wU C ou ((nI (n - 1)).toInt64), wF C x nw tr hq iq tt sC ba z (ph ((n - 1 + r) % 6)) b2 ph r (n - 1) t (upN (upN (upN (upN f 0 0) 1 0) 2 0) 3 0) v o y cd, mF C mo (nI (n - 1)) (nI y) (nI 0) pl fl tl v2 o2 (ph ((n - 1 + r) % 6)) gm pa cd td]) H := hP
    have hD : va_D (lwA s) (List.flatten [wU C ou ((nI (n - 1)).toInt64), wF C x nw tr hq iq tt sC ba z (ph ((n - 1 + r) % 6)) b2 ph r (n - 1) t (upN (upN (upN (upN f 0 0) 1 0) 2 0) 3 0) v o y cd, mF C mo (nI (n - 1)) (nI y) (nI 0) pl fl tl v2 o2 (ph ((n - 1 + r) % 6)) gm pa cd td]) := hD
    exact lw_tailI hc hj K ⟨hph.2.2 _ (by omega), okH_less hph, frB_0 _ _ _, hy60, hcd, fun j k hj hk => hpa j k (by omega) hk⟩ (by omega) (by omega) hP hD hS hl 5 rfl 1 rfl 6 rfl 0 rfl [2, 3, 4, 5, 6] rfl dL_law_792 dL_law_793 dL_law_796 dL_law_798 dL_law_803 dL_law_805 dL_law_808 dL_law_809 dL_law_810 dL_law_811 dL_law_813 dL_law_814 dL_law_815 dL_law_820 (by decide)
  · skip
    obtain rfl : n = 0 := by omega
    refine lv_aload_n hx hb dL_law_779 rfl (lv_at hl 2 rfl) ?_
    refine lv_aload_n hx hb dL_law_780 rfl (lv_at hl 4 rfl) ?_
    refine q_SWB1 (Bs := [wU C ou x0, wF C x nw tr hq iq tt sC ba z b b2 ph r 0 t f v o y cd, mF C mo (nI 0) (nI y) tw pl fl tl v2 o2 b gm pa cd td]) (cs := [wU C ou x0, wF C x nw tr hq iq tt sC ba z b b2 ph r 0 t f v o y cd]) (As := [.ref x, .ref ou]) (rest := []) ⟨hx, hb, hml, hown, hts⟩ (W1_undo l hl0 C x nw tr hq iq tt sC z ba r b b2 ph t f v o y cd ou x0) (vx_cwSW 2 hts gL_law_L_undo rfl rfl rfl (by decide +kernel) ⟨Nat.le_of_ble_eq_true rfl, Nat.le_of_ble_eq_true rfl⟩) hK hV hE hP hD hS (fun _ h => h) [0, 1] (by decide) rfl rfl hl.1 rfl (Nat.le_of_ble_eq_true rfl) dL_law_781 (lw_c1 hce hj hL) (lw_s1 hsl hj hL) (fun r w1 H locs hQ hF hS => ?_)
    obtain ⟨rfl, rfl⟩ := hQ
    obtain ⟨hP, hD⟩ := hF [wU C ou x0, wF C x nw tr hq iq tt sC ba z b b2 ph r 0 t f v o y cd] rfl rfl
    have hP : va_P C.1 vwCl (List.flatten [wU C ou x0, wF C x nw tr hq iq tt sC ba z b b2 ph r 0 t f v o y cd, mF C mo (nI 0) (nI y) tw pl fl tl v2 o2 b gm pa cd td]) H := hP
    have hD : va_D (lwA s) (List.flatten [wU C ou x0, wF C x nw tr hq iq tt sC ba z b b2 ph r 0 t f v o y cd, mF C mo (nI 0) (nI y) tw pl fl tl v2 o2 b gm pa cd td]) := hD
    refine W.eq (g2 := F0 m 784 ls [.int (nI 1)]) rfl ?_
    have hce : cells + 1 ≤ 100 + j + 1 := Nat.succ_le_succ hce
    have hsl : slots + 6 ≤ 2000 + 6 * j + 6 := Nat.add_le_add_right hsl 6
    refine lv_istore (lv' := [(5, .int (nI 1)), (4, .int (nI (6 * j))), (0, .ref sA), (1, .ref x), (2, .ref (mo 0)), (3, .ref ou)]) hx hb dL_law_784 hl (by decide) rfl (fun ls hl => ?_)
    refine lv_aload_n hx hb dL_law_786 rfl (lv_at hl 4 rfl) ?_
    refine q_VBE (Bs := [wU C ou x0, wF C x nw tr hq iq tt sC ba z b b2 ph r 0 t f v o y cd, mF C mo (nI 0) (nI y) tw pl fl tl v2 o2 b gm pa cd td]) (cs := [mF C mo (nI 0) (nI y) tw pl fl tl v2 o2 b gm pa cd td]) (As := []) (rest := []) ⟨hx, hb, hml, hown, hts⟩ (M1_undo l C mo (nI y) tw pl fl tl v2 o2 b gm pa cd td).one (cwV 0 hts gL_law_X5_undo rfl rfl rfl (by decide +kernel) ⟨Nat.le_of_ble_eq_true rfl, Nat.le_of_ble_eq_true rfl⟩) hK hV hE hP hD hS (fun _ h => h) [2] (by decide) rfl 76 rfl rfl rfl rfl hl.1 rfl (Nat.le_of_ble_eq_true rfl) dL_law_787 (lw_c0 hce hj hL) (lw_s0 hsl hj hL) (fun r w1 H locs hQ hF hS => ?_)
    obtain ⟨rfl, rfl⟩ := hQ
    obtain ⟨hP, hD⟩ := hF [mF C mo (nI 0) (nI y) (nI 1) pl fl tl v2 o2 b gm pa cd td] (flat_one _).symm rfl
    have hP : va_P C.1 vwCl (List.flatten [wU C ou x0, wF C x nw tr hq iq tt sC ba z b b2 ph r 0 t f v o y cd, mF C mo (nI 0) (nI y) (nI 1) pl fl tl v2 o2 b gm pa cd td]) H := hP
    have hD : va_D (lwA s) (List.flatten [wU C ou x0, wF C x nw tr hq iq tt sC ba z b b2 ph r 0 t f v o y cd, mF C mo (nI 0) (nI y) (nI 1) pl fl tl v2 o2 b gm pa cd td]) := hD
    refine W.eq (g2 := F0 m 790 ls [.int (nI 0)]) rfl ?_
    refine lv_istore (lv' := [(6, .int (nI 0)), (5, .int (nI 1)), (4, .int (nI (6 * j))), (0, .ref sA), (1, .ref x), (2, .ref (mo 0)), (3, .ref ou)]) hx hb dL_law_790 hl (by decide) rfl (fun ls hl => ?_)
    have hP : va_P C.1 vwCl (List.flatten [wU C ou x0, wF C x nw tr hq iq tt sC ba z b b2 ph r 0 t f v o y cd, mF C mo (nI 0) (nI y) (nI 1) pl fl tl v2 o2 b gm pa cd td]) H := hP
    have hD : va_D (lwA s) (List.flatten [wU C ou x0, wF C x nw tr hq iq tt sC ba z b b2 ph r 0 t f v o y cd, mF C mo (nI 0) (nI y) (nI 1) pl fl tl v2 o2 b gm pa cd td]) := hD
    exact lw_tailT hc hj K 1 (by decide) (by decide) ⟨hok, hph, hfr, hy60, hcd, hpa⟩ (by omega) (by omega) hP hD hS hl 5 rfl 1 rfl [2, 3, 4, 5, 6] rfl 28 (by decide) dL_law_792 dL_law_793 dL_law_796 dL_law_798 dL_law_803 dL_law_805 dL_law_820 (by decide)
end LawCasesc
