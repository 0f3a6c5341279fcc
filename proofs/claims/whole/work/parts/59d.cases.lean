/-! the law, case after case: stateOf, index, arm, count, sum -/
section LawCasesd
variable {p : Program} {l : Launch} {e : Env} {s : State} {m : MethodId} {below : List Frame} {meth : Method} {c : Code} {Q : State → Prop} {C : q_C} {sA L x ou sC j : Nat} {xs : Nat → Int32} {nw tr hq iq tt mo : Nat → Nat} {ba : Nat → Nat → Nat}
set_option maxHeartbeats 4000000 in
set_option maxRecDepth 100000 in
theorem lw_stateOf (hc : lwC p l s m meth c C sA L xs) (hj : 6 * j + 6 ≤ L) (K : lwAt p l e s m below meth c Q C sA x ou sC nw tr hq iq tt ba mo j 1507 (j + 1)) : lwAt p l e s m below meth c Q C sA x ou sC nw tr hq iq tt ba mo j 823 j := by
  intro x0 z b b2 ph r n t f v o y cd tw pl fl tl v2 o2 gm pa td cells slots H locs ls okx hce hsl hP hD hS hl
  obtain ⟨hok, hph, hfr, hy60, hcd, hpa⟩ := okx
  have hB : OkB b := hok.1
  have hU : sumU b ≤ 9999 := hok.2
  have hr6 : r < 6 := hph.1
  have hn6 : n ≤ 6 := hph.2.1
  have hc0 := hc
  obtain ⟨hx, hb, hml, hown, hts, hK, hV, hE, hX, hsb, hL, hl0⟩ := hc0
  rcases cl2 (xs (6 * j + 1)) (xs (6 * j + 2)) with h0 | ⟨a1, a2, e1, e2, ha1, ha2⟩
  · skip
    refine lv_aload_n hx hb dL_law_823 rfl (lv_at hl 2 rfl) ?_
    refine lw_rd hc hj 1 (by decide) hS 1 0 hl rfl rfl dL_law_824 dL_law_825 dL_law_827 (by decide) dL_law_828 dL_law_829 rfl ?_
    refine lw_rd hc hj 2 (by decide) hS 1 0 hl rfl rfl dL_law_830 dL_law_831 dL_law_833 (by decide) dL_law_834 dL_law_835 rfl ?_
    refine lw_rd hc hj 3 (by decide) hS 1 0 hl rfl rfl dL_law_836 dL_law_837 dL_law_839 (by decide) dL_law_840 dL_law_841 rfl ?_
    refine lv_aload_n hx hb dL_law_842 rfl (lv_at hl 4 rfl) ?_
    refine q_SWB1 (Bs := [wU C ou x0, wF C x nw tr hq iq tt sC ba z b b2 ph r n t f v o y cd, mF C mo (nI n) (nI y) tw pl fl tl v2 o2 b gm pa cd td]) (cs := [wU C ou x0, wF C x nw tr hq iq tt sC ba z b b2 ph r n t f v o y cd]) (As := [.ref x, .int (xs (6 * j + 1)), .int (xs (6 * j + 2)), .int (xs (6 * j + 3)), .ref ou]) (rest := []) ⟨hx, hb, hml, hown, hts⟩ (W1_stateOf l hl0 C x (xs (6 * j + 1)) (xs (6 * j + 2)) (xs (6 * j + 3)) nw tr hq iq tt sC ba z b b2 r n ph t f v o y cd ou x0 h0) (vx_cwSW 5 hts gL_law_L_stateOf rfl rfl rfl (by decide +kernel) ⟨Nat.le_of_ble_eq_true rfl, Nat.le_of_ble_eq_true rfl⟩) hK hV hE hP hD hS (fun _ h => h) [0, 1] (by decide) rfl rfl hl.1 rfl (Nat.le_of_ble_eq_true rfl) dL_law_843 (lw_c1 hce hj hL) (lw_s1 hsl hj hL) (fun r w1 H locs hQ hF hS => ?_)
    obtain ⟨rfl, rfl⟩ := hQ
    obtain ⟨hP, hD⟩ := hF [wU C ou x0, wF C x nw tr hq iq tt sC ba z b b2 ph r n t f v o y cd] rfl rfl
    have hP : va_P C.1 vwCl (List.flatten [wU C ou x0, wF C x nw tr hq iq tt sC ba z b b2 ph r n t f v o y cd, mF C mo (nI n) (nI y) tw pl fl tl v2 o2 b gm pa cd td]) H := hP
    have hD : va_D (lwA s) (List.flatten [wU C ou x0, wF C x nw tr hq iq tt sC ba z b b2 ph r n t f v o y cd, mF C mo (nI n) (nI y) tw pl fl tl v2 o2 b gm pa cd td]) := hD
    refine W.eq (g2 := F0 m 846 ls [.int (nI 1)]) rfl ?_
    have hce : cells + 1 ≤ 100 + j + 1 := Nat.succ_le_succ hce
    have hsl : slots + 6 ≤ 2000 + 6 * j + 6 := Nat.add_le_add_right hsl 6
    refine lv_istore (lv' := [(5, .int (nI 1)), (4, .int (nI (6 * j))), (0, .ref sA), (1, .ref x), (2, .ref (mo 0)), (3, .ref ou)]) hx hb dL_law_846 hl (by decide) rfl (fun ls hl => ?_)
    refine lv_aload_n hx hb dL_law_848 rfl (lv_at hl 4 rfl) ?_
    refine lw_rd hc hj 1 (by decide) hS 2 1 hl rfl rfl dL_law_849 dL_law_850 dL_law_852 (by decide) dL_law_853 dL_law_854 rfl ?_
    refine lw_rd hc hj 2 (by decide) hS 2 1 hl rfl rfl dL_law_855 dL_law_856 dL_law_858 (by decide) dL_law_859 dL_law_860 rfl ?_
    refine lw_rd hc hj 3 (by decide) hS 2 1 hl rfl rfl dL_law_861 dL_law_862 dL_law_864 (by decide) dL_law_865 dL_law_866 rfl ?_
    refine q_VBE (Bs := [wU C ou x0, wF C x nw tr hq iq tt sC ba z b b2 ph r n t f v o y cd, mF C mo (nI n) (nI y) tw pl fl tl v2 o2 b gm pa cd td]) (cs := [mF C mo (nI n) (nI y) tw pl fl tl v2 o2 b gm pa cd td]) (As := [.int (xs (6 * j + 1)), .int (xs (6 * j + 2)), .int (xs (6 * j + 3))]) (rest := []) ⟨hx, hb, hml, hown, hts⟩ (M1_stateOf l C mo (nI n) (nI y) tw pl fl tl v2 o2 (xs (6 * j + 1)) (xs (6 * j + 2)) (xs (6 * j + 3)) b gm pa cd td h0).one (cwV 3 hts gL_law_X5_stateOf rfl rfl rfl (by decide +kernel) ⟨Nat.le_of_ble_eq_true rfl, Nat.le_of_ble_eq_true rfl⟩) hK hV hE hP hD hS (fun _ h => h) [2] (by decide) rfl 76 rfl rfl rfl rfl hl.1 rfl (Nat.le_of_ble_eq_true rfl) dL_law_867 (lw_c0 hce hj hL) (lw_s0 hsl hj hL) (fun r w1 H locs hQ hF hS => ?_)
    obtain ⟨rfl, rfl⟩ := hQ
    obtain ⟨hP, hD⟩ := hF [mF C mo (nI n) (nI y) (nI 1) pl fl tl v2 o2 b gm pa cd td] (flat_one _).symm rfl
    have hP : va_P C.1 vwCl (List.flatten [wU C ou x0, wF C x nw tr hq iq tt sC ba z b b2 ph r n t f v o y cd, mF C mo (nI n) (nI y) (nI 1) pl fl tl v2 o2 b gm pa cd td]) H := hP
    have hD : va_D (lwA s) (List.flatten [wU C ou x0, wF C x nw tr hq iq tt sC ba z b b2 ph r n t f v o y cd, mF C mo (nI n) (nI y) (nI 1) pl fl tl v2 o2 b gm pa cd td]) := hD
    refine W.eq (g2 := F0 m 870 ls [.int (nI 0)]) rfl ?_
    refine lv_istore (lv' := [(6, .int (nI 0)), (5, .int (nI 1)), (4, .int (nI (6 * j))), (0, .ref sA), (1, .ref x), (2, .ref (mo 0)), (3, .ref ou)]) hx hb dL_law_870 hl (by decide) rfl (fun ls hl => ?_)
    have hP : va_P C.1 vwCl (List.flatten [wU C ou x0, wF C x nw tr hq iq tt sC ba z b b2 ph r n t f v o y cd, mF C mo (nI n) (nI y) (nI 1) pl fl tl v2 o2 b gm pa cd td]) H := hP
    have hD : va_D (lwA s) (List.flatten [wU C ou x0, wF C x nw tr hq iq tt sC ba z b b2 ph r n t f v o y cd, mF C mo (nI n) (nI y) (nI 1) pl fl tl v2 o2 b gm pa cd td]) := hD
    exact lw_tailT hc hj K 1 (by decide) (by decide) ⟨hok, hph, hfr, hy60, hcd, hpa⟩ (by omega) (by omega) hP hD hS hl 5 rfl 1 rfl [2, 3, 4, 5, 6] rfl 28 (by decide) dL_law_872 dL_law_873 dL_law_876 dL_law_878 dL_law_883 dL_law_885 dL_law_900 (by decide)
  · skip
    rcases cl1 (xs (6 * j + 3)) (lo := 0) (hi := 4) (by decide) (by decide) with h1 | ⟨a3, e3, ha3, hb3⟩
    · skip
      refine lv_aload_n hx hb dL_law_823 rfl (lv_at hl 2 rfl) ?_
      refine lw_rd hc hj 1 (by decide) hS 1 0 hl rfl rfl dL_law_824 dL_law_825 dL_law_827 (by decide) dL_law_828 dL_law_829 e1 ?_
      refine lw_rd hc hj 2 (by decide) hS 1 0 hl rfl rfl dL_law_830 dL_law_831 dL_law_833 (by decide) dL_law_834 dL_law_835 e2 ?_
      refine lw_rd hc hj 3 (by decide) hS 1 0 hl rfl rfl dL_law_836 dL_law_837 dL_law_839 (by decide) dL_law_840 dL_law_841 rfl ?_
      refine lv_aload_n hx hb dL_law_842 rfl (lv_at hl 4 rfl) ?_
      refine q_SWB1 (Bs := [wU C ou x0, wF C x nw tr hq iq tt sC ba z b b2 ph r n t f v o y cd, mF C mo (nI n) (nI y) tw pl fl tl v2 o2 b gm pa cd td]) (cs := [wU C ou x0, wF C x nw tr hq iq tt sC ba z b b2 ph r n t f v o y cd]) (As := [.ref x, .int (nI a1), .int (nI a2), .int (xs (6 * j + 3)), .ref ou]) (rest := []) ⟨hx, hb, hml, hown, hts⟩ (W2_stateOf l hl0 C x a1 a2 (xs (6 * j + 3)) nw tr hq iq tt sC ba z b b2 r n ph t f v o y cd ou x0 (by omega) (by omega) h1) (vx_cwSW 5 hts gL_law_L_stateOf rfl rfl rfl (by decide +kernel) ⟨Nat.le_of_ble_eq_true rfl, Nat.le_of_ble_eq_true rfl⟩) hK hV hE hP hD hS (fun _ h => h) [0, 1] (by decide) rfl rfl hl.1 rfl (Nat.le_of_ble_eq_true rfl) dL_law_843 (lw_c1 hce hj hL) (lw_s1 hsl hj hL) (fun r w1 H locs hQ hF hS => ?_)
      obtain ⟨rfl, rfl⟩ := hQ
      obtain ⟨hP, hD⟩ := hF [wU C ou x0, wF C x nw tr hq iq tt sC ba z b b2 ph r n t f v o y cd] rfl rfl
      have hP : va_P C.1 vwCl (List.flatten [wU C ou x0, wF C x nw tr hq iq tt sC ba z b b2 ph r n t f v o y cd, mF C mo (nI n) (nI y) tw pl fl tl v2 o2 b gm pa cd td]) H := hP
      have hD : va_D (lwA s) (List.flatten [wU C ou x0, wF C x nw tr hq iq tt sC ba z b b2 ph r n t f v o y cd, mF C mo (nI n) (nI y) tw pl fl tl v2 o2 b gm pa cd td]) := hD
      refine W.eq (g2 := F0 m 846 ls [.int (nI 2)]) rfl ?_
      have hce : cells + 1 ≤ 100 + j + 1 := Nat.succ_le_succ hce
      have hsl : slots + 6 ≤ 2000 + 6 * j + 6 := Nat.add_le_add_right hsl 6
      refine lv_istore (lv' := [(5, .int (nI 2)), (4, .int (nI (6 * j))), (0, .ref sA), (1, .ref x), (2, .ref (mo 0)), (3, .ref ou)]) hx hb dL_law_846 hl (by decide) rfl (fun ls hl => ?_)
      refine lv_aload_n hx hb dL_law_848 rfl (lv_at hl 4 rfl) ?_
      refine lw_rd hc hj 1 (by decide) hS 2 1 hl rfl rfl dL_law_849 dL_law_850 dL_law_852 (by decide) dL_law_853 dL_law_854 e1 ?_
      refine lw_rd hc hj 2 (by decide) hS 2 1 hl rfl rfl dL_law_855 dL_law_856 dL_law_858 (by decide) dL_law_859 dL_law_860 e2 ?_
      refine lw_rd hc hj 3 (by decide) hS 2 1 hl rfl rfl dL_law_861 dL_law_862 dL_law_864 (by decide) dL_law_865 dL_law_866 rfl ?_
      refine q_VBE (Bs := [wU C ou x0, wF C x nw tr hq iq tt sC ba z b b2 ph r n t f v o y cd, mF C mo (nI n) (nI y) tw pl fl tl v2 o2 b gm pa cd td]) (cs := [mF C mo (nI n) (nI y) tw pl fl tl v2 o2 b gm pa cd td]) (As := [.int (nI a1), .int (nI a2), .int (xs (6 * j + 3))]) (rest := []) ⟨hx, hb, hml, hown, hts⟩ (M2_stateOf l C mo (nI n) (nI y) tw pl fl tl v2 o2 a1 a2 (xs (6 * j + 3)) b gm pa cd td (by omega) (by omega) h1).one (cwV 3 hts gL_law_X5_stateOf rfl rfl rfl (by decide +kernel) ⟨Nat.le_of_ble_eq_true rfl, Nat.le_of_ble_eq_true rfl⟩) hK hV hE hP hD hS (fun _ h => h) [2] (by decide) rfl 76 rfl rfl rfl rfl hl.1 rfl (Nat.le_of_ble_eq_true rfl) dL_law_867 (lw_c0 hce hj hL) (lw_s0 hsl hj hL) (fun r w1 H locs hQ hF hS => ?_)
      obtain ⟨rfl, rfl⟩ := hQ
      obtain ⟨hP, hD⟩ := hF [mF C mo (nI n) (nI y) (nI 2) pl fl tl v2 o2 b gm pa cd td] (flat_one _).symm rfl
      have hP : va_P C.1 vwCl (List.flatten [wU C ou x0, wF C x nw tr hq iq tt sC ba z b b2 ph r n t f v o y cd, mF C mo (nI n) (nI y) (nI 2) pl fl tl v2 o2 b gm pa cd td]) H := hP
      have hD : va_D (lwA s) (List.flatten [wU C ou x0, wF C x nw tr hq iq tt sC ba z b b2 ph r n t f v o y cd, mF C mo (nI n) (nI y) (nI 2) pl fl tl v2 o2 b gm pa cd td]) := hD
      refine W.eq (g2 := F0 m 870 ls [.int (nI 0)]) rfl ?_
      refine lv_istore (lv' := [(6, .int (nI 0)), (5, .int (nI 2)), (4, .int (nI (6 * j))), (0, .ref sA), (1, .ref x), (2, .ref (mo 0)), (3, .ref ou)]) hx hb dL_law_870 hl (by decide) rfl (fun ls hl => ?_)
      have hP : va_P C.1 vwCl (List.flatten [wU C ou x0, wF C x nw tr hq iq tt sC ba z b b2 ph r n t f v o y cd, mF C mo (nI n) (nI y) (nI 2) pl fl tl v2 o2 b gm pa cd td]) H := hP
      have hD : va_D (lwA s) (List.flatten [wU C ou x0, wF C x nw tr hq iq tt sC ba z b b2 ph r n t f v o y cd, mF C mo (nI n) (nI y) (nI 2) pl fl tl v2 o2 b gm pa cd td]) := hD
      exact lw_tailT hc hj K 2 (by decide) (by decide) ⟨hok, hph, hfr, hy60, hcd, hpa⟩ (by omega) (by omega) hP hD hS hl 5 rfl 1 rfl [2, 3, 4, 5, 6] rfl 28 (by decide) dL_law_872 dL_law_873 dL_law_876 dL_law_878 dL_law_883 dL_law_885 dL_law_900 (by decide)
    · skip
      refine lv_aload_n hx hb dL_law_823 rfl (lv_at hl 2 rfl) ?_
      refine lw_rd hc hj 1 (by decide) hS 1 0 hl rfl rfl dL_law_824 dL_law_825 dL_law_827 (by decide) dL_law_828 dL_law_829 e1 ?_
      refine lw_rd hc hj 2 (by decide) hS 1 0 hl rfl rfl dL_law_830 dL_law_831 dL_law_833 (by decide) dL_law_834 dL_law_835 e2 ?_
      refine lw_rd hc hj 3 (by decide) hS 1 0 hl rfl rfl dL_law_836 dL_law_837 dL_law_839 (by decide) dL_law_840 dL_law_841 e3 ?_
      refine lv_aload_n hx hb dL_law_842 rfl (lv_at hl 4 rfl) ?_
      refine q_SWB (Bs := [wU C ou x0, wF C x nw tr hq iq tt sC ba z b b2 ph r n t f v o y cd, mF C mo (nI n) (nI y) tw pl fl tl v2 o2 b gm pa cd td]) (cs := [wU C ou x0, wF C x nw tr hq iq tt sC ba z b b2 ph r n t f v o y cd]) (As := [.ref x, .int (nI a1), .int (nI a2), .int (nI a3), .ref ou]) (rest := []) ⟨hx, hb, hml, hown, hts⟩ (W_stateOf l C x nw tr hq iq tt sC z b a1 a2 a3 ba b2 r n ph t f v o y cd ou x0 hB (by omega) (by omega) (by omega)) (vx_cwSW 5 hts gL_law_L_stateOf rfl rfl rfl (by decide +kernel) ⟨Nat.le_of_ble_eq_true rfl, Nat.le_of_ble_eq_true rfl⟩) hK hV hE hP hD hS (fun _ h => h) [0, 1] (by decide) rfl rfl hl.1 rfl (Nat.le_of_ble_eq_true rfl) dL_law_843 (lw_c0 hce hj hL) (lw_s0 hsl hj hL) (fun r w1 H locs hQ hF hS => ?_)
      obtain ⟨rfl, rfl⟩ := hQ
      obtain ⟨hP, hD⟩ := hF [wU C ou ((nI (osN b a1 a2 a3)).toInt64), wF C x nw tr hq iq tt sC ba z b b2 ph r n t f v o y cd] rfl rfl
      have hP : va_P C.1 vwCl (List.flatten [wU C ou ((nI (osN b a1 a2 a3)).toInt64), wF C x nw tr hq iq tt sC ba z b b2 ph r n t f v o y cd, mF C mo (nI n) (nI y) tw pl fl tl v2 o2 b gm pa cd td]) H := hP
      have hD : va_D (lwA s) (List.flatten [wU C ou ((nI (osN b a1 a2 a3)).toInt64), wF C x nw tr hq iq tt sC ba z b b2 ph r n t f v o y cd, mF C mo (nI n) (nI y) tw pl fl tl v2 o2 b gm pa cd td]) := hD
      refine W.eq (g2 := F0 m 846 ls [.int (nI 0)]) rfl ?_
      refine lv_istore (lv' := [(5, .int (nI 0)), (4, .int (nI (6 * j))), (0, .ref sA), (1, .ref x), (2, .ref (mo 0)), (3, .ref ou)]) hx hb dL_law_846 hl (by decide) rfl (fun ls hl => ?_)
      refine lv_aload_n hx hb dL_law_848 rfl (lv_at hl 4 rfl) ?_
      refine lw_rd hc hj 1 (by decide) hS 2 1 hl rfl rfl dL_law_849 dL_law_850 dL_law_852 (by decide) dL_law_853 dL_law_854 e1 ?_
      refine lw_rd hc hj 2 (by decide) hS 2 1 hl rfl rfl dL_law_855 dL_law_856 dL_law_858 (by decide) dL_law_859 dL_law_860 e2 ?_
      refine lw_rd hc hj 3 (by decide) hS 2 1 hl rfl rfl dL_law_861 dL_law_862 dL_law_864 (by decide) dL_law_865 dL_law_866 e3 ?_
      refine q_VBE (Bs := [wU C ou ((nI (osN b a1 a2 a3)).toInt64), wF C x nw tr hq iq tt sC ba z b b2 ph r n t f v o y cd, mF C mo (nI n) (nI y) tw pl fl tl v2 o2 b gm pa cd td]) (cs := [mF C mo (nI n) (nI y) tw pl fl tl v2 o2 b gm pa cd td]) (As := [.int (nI a1), .int (nI a2), .int (nI a3)]) (rest := []) ⟨hx, hb, hml, hown, hts⟩ (M_stateOf l C mo (nI n) (nI y) tw pl fl tl v2 o2 b a1 a2 a3 gm pa cd td hB (by omega) (by omega) (by omega)).one (cwV 3 hts gL_law_X5_stateOf rfl rfl rfl (by decide +kernel) ⟨Nat.le_of_ble_eq_true rfl, Nat.le_of_ble_eq_true rfl⟩) hK hV hE hP hD hS (fun _ h => h) [2] (by decide) rfl 76 rfl rfl rfl rfl hl.1 rfl (Nat.le_of_ble_eq_true rfl) dL_law_867 (lw_c0 hce hj hL) (lw_s0 hsl hj hL) (fun r w1 H locs hQ hF hS => ?_)
      obtain ⟨rfl, rfl⟩ := hQ
      obtain ⟨hP, hD⟩ := hF [mF C mo (nI n) (nI y) (nI 0) pl fl tl v2 o2 b gm pa cd td] (flat_one _).symm rfl
      have hP : va_P C.1 vwCl (List.flatten [wU C ou ((nI (osN b a1 a2 a3)).toInt64), wF C x nw tr hq iq tt sC ba z b b2 ph r n t f v o y cd, mF C mo (nI n) (nI y) (nI 0) pl fl tl v2 o2 b gm pa cd td]) H := hP
      have hD : va_D (lwA s) (List.flatten [wU C ou ((nI (osN b a1 a2 a3)).toInt64), wF C x nw tr hq iq tt sC ba z b b2 ph r n t f v o y cd, mF C mo (nI n) (nI y) (nI 0) pl fl tl v2 o2 b gm pa cd td]) := hD
      refine W.eq (g2 := F0 m 870 ls [.int (nI (osN b a1 a2 a3))]) rfl ?_
      refine lv_istore (lv' := [(6, .int (nI (osN b a1 a2 a3))), (5, .int (nI 0)), (4, .int (nI (6 * j))), (0, .ref sA), (1, .ref x), (2, .ref (mo 0)), (3, .ref ou)]) hx hb dL_law_870 hl (by decide) rfl (fun ls hl => ?_)
      have hP : va_P C.1 vwCl (List.flatten [wU C ou ((nI (osN b a1 a2 a3)).toInt64), wF C x nw tr hq iq tt sC ba z b b2 ph r n t f v o y cd, mF C mo (nI n) (nI y) (nI 0) pl fl tl v2 o2 b gm pa cd td]) H := hP
      have hD : va_D (lwA s) (List.flatten [wU C ou ((nI (osN b a1 a2 a3)).toInt64), wF C x nw tr hq iq tt sC ba z b b2 ph r n t f v o y cd, mF C mo (nI n) (nI y) (nI 0) pl fl tl v2 o2 b gm pa cd td]) := hD
      exact lw_tailI hc hj K ⟨hok, hph, hfr, hy60, hcd, hpa⟩ (by omega) (by omega) hP hD hS hl 5 rfl 1 rfl 6 rfl 0 rfl [2, 3, 4, 5, 6] rfl dL_law_872 dL_law_873 dL_law_876 dL_law_878 dL_law_883 dL_law_885 dL_law_888 dL_law_889 dL_law_890 dL_law_891 dL_law_893 dL_law_894 dL_law_895 dL_law_900 (by decide)
set_option maxHeartbeats 4000000 in
set_option maxRecDepth 100000 in
theorem lw_index (hc : lwC p l s m meth c C sA L xs) (hj : 6 * j + 6 ≤ L) (K : lwAt p l e s m below meth c Q C sA x ou sC nw tr hq iq tt ba mo j 1507 (j + 1)) : lwAt p l e s m below meth c Q C sA x ou sC nw tr hq iq tt ba mo j 903 j := by
  intro x0 z b b2 ph r n t f v o y cd tw pl fl tl v2 o2 gm pa td cells slots H locs ls okx hce hsl hP hD hS hl
  obtain ⟨hok, hph, hfr, hy60, hcd, hpa⟩ := okx
  have hB : OkB b := hok.1
  have hU : sumU b ≤ 9999 := hok.2
  have hr6 : r < 6 := hph.1
  have hn6 : n ≤ 6 := hph.2.1
  have hc0 := hc
  obtain ⟨hx, hb, hml, hown, hts, hK, hV, hE, hX, hsb, hL, hl0⟩ := hc0
  rcases cl2 (xs (6 * j + 1)) (xs (6 * j + 2)) with h0 | ⟨a1, a2, e1, e2, ha1, ha2⟩
  · skip
    refine lv_aload_n hx hb dL_law_903 rfl (lv_at hl 2 rfl) ?_
    refine lw_rd hc hj 1 (by decide) hS 1 0 hl rfl rfl dL_law_904 dL_law_905 dL_law_907 (by decide) dL_law_908 dL_law_909 rfl ?_
    refine lw_rd hc hj 2 (by decide) hS 1 0 hl rfl rfl dL_law_910 dL_law_911 dL_law_913 (by decide) dL_law_914 dL_law_915 rfl ?_
    refine lv_aload_n hx hb dL_law_916 rfl (lv_at hl 4 rfl) ?_
    refine q_SWB1 (Bs := [wU C ou x0, wF C x nw tr hq iq tt sC ba z b b2 ph r n t f v o y cd, mF C mo (nI n) (nI y) tw pl fl tl v2 o2 b gm pa cd td]) (cs := [wU C ou x0, wF C x nw tr hq iq tt sC ba z b b2 ph r n t f v o y cd]) (As := [.ref x, .int (xs (6 * j + 1)), .int (xs (6 * j + 2)), .ref ou]) (rest := []) ⟨hx, hb, hml, hown, hts⟩ (W1_index l hl0 C x (xs (6 * j + 1)) (xs (6 * j + 2)) nw tr hq iq tt sC ba z b b2 r n ph t f v o y cd ou x0 h0) (vx_cwSW 4 hts gL_law_L_index rfl rfl rfl (by decide +kernel) ⟨Nat.le_of_ble_eq_true rfl, Nat.le_of_ble_eq_true rfl⟩) hK hV hE hP hD hS (fun _ h => h) [0, 1] (by decide) rfl rfl hl.1 rfl (Nat.le_of_ble_eq_true rfl) dL_law_917 (lw_c1 hce hj hL) (lw_s1 hsl hj hL) (fun r w1 H locs hQ hF hS => ?_)
    obtain ⟨rfl, rfl⟩ := hQ
    obtain ⟨hP, hD⟩ := hF [wU C ou x0, wF C x nw tr hq iq tt sC ba z b b2 ph r n t f v o y cd] rfl rfl
    have hP : va_P C.1 vwCl (List.flatten [wU C ou x0, wF C x nw tr hq iq tt sC ba z b b2 ph r n t f v o y cd, mF C mo (nI n) (nI y) tw pl fl tl v2 o2 b gm pa cd td]) H := hP
    have hD : va_D (lwA s) (List.flatten [wU C ou x0, wF C x nw tr hq iq tt sC ba z b b2 ph r n t f v o y cd, mF C mo (nI n) (nI y) tw pl fl tl v2 o2 b gm pa cd td]) := hD
    refine W.eq (g2 := F0 m 920 ls [.int (nI 1)]) rfl ?_
    have hce : cells + 1 ≤ 100 + j + 1 := Nat.succ_le_succ hce
    have hsl : slots + 6 ≤ 2000 + 6 * j + 6 := Nat.add_le_add_right hsl 6
    refine lv_istore (lv' := [(5, .int (nI 1)), (4, .int (nI (6 * j))), (0, .ref sA), (1, .ref x), (2, .ref (mo 0)), (3, .ref ou)]) hx hb dL_law_920 hl (by decide) rfl (fun ls hl => ?_)
    refine lv_aload_n hx hb dL_law_922 rfl (lv_at hl 4 rfl) ?_
    refine lw_rd hc hj 1 (by decide) hS 2 1 hl rfl rfl dL_law_923 dL_law_924 dL_law_926 (by decide) dL_law_927 dL_law_928 rfl ?_
    refine lw_rd hc hj 2 (by decide) hS 2 1 hl rfl rfl dL_law_929 dL_law_930 dL_law_932 (by decide) dL_law_933 dL_law_934 rfl ?_
    refine q_VBE (Bs := [wU C ou x0, wF C x nw tr hq iq tt sC ba z b b2 ph r n t f v o y cd, mF C mo (nI n) (nI y) tw pl fl tl v2 o2 b gm pa cd td]) (cs := [mF C mo (nI n) (nI y) tw pl fl tl v2 o2 b gm pa cd td]) (As := [.int (xs (6 * j + 1)), .int (xs (6 * j + 2))]) (rest := []) ⟨hx, hb, hml, hown, hts⟩ (M1_index l C mo (nI n) (nI y) tw pl fl tl v2 o2 (xs (6 * j + 1)) (xs (6 * j + 2)) b gm pa cd td h0).one (cwV 2 hts gL_law_X5_index rfl rfl rfl (by decide +kernel) ⟨Nat.le_of_ble_eq_true rfl, Nat.le_of_ble_eq_true rfl⟩) hK hV hE hP hD hS (fun _ h => h) [2] (by decide) rfl 76 rfl rfl rfl rfl hl.1 rfl (Nat.le_of_ble_eq_true rfl) dL_law_935 (lw_c0 hce hj hL) (lw_s0 hsl hj hL) (fun r w1 H locs hQ hF hS => ?_)
    obtain ⟨rfl, rfl⟩ := hQ
    obtain ⟨hP, hD⟩ := hF [mF C mo (nI n) (nI y) (nI 1) pl fl tl v2 o2 b gm pa cd td] (flat_one _).symm rfl
    have hP : va_P C.1 vwCl (List.flatten [wU C ou x0, wF C x nw tr hq iq tt sC ba z b b2 ph r n t f v o y cd, mF C mo (nI n) (nI y) (nI 1) pl fl tl v2 o2 b gm pa cd td]) H := hP
    have hD : va_D (lwA s) (List.flatten [wU C ou x0, wF C x nw tr hq iq tt sC ba z b b2 ph r n t f v o y cd, mF C mo (nI n) (nI y) (nI 1) pl fl tl v2 o2 b gm pa cd td]) := hD
    refine W.eq (g2 := F0 m 938 ls [.long (lN 0)]) rfl ?_
    refine lv_lstore (lv' := [(6, .long (lN 0)), (5, .int (nI 1)), (4, .int (nI (6 * j))), (0, .ref sA), (1, .ref x), (2, .ref (mo 0)), (3, .ref ou)]) hx hb dL_law_938 hl (by decide) rfl (fun ls hl => ?_)
    have hP : va_P C.1 vwCl (List.flatten [wU C ou x0, wF C x nw tr hq iq tt sC ba z b b2 ph r n t f v o y cd, mF C mo (nI n) (nI y) (nI 1) pl fl tl v2 o2 b gm pa cd td]) H := hP
    have hD : va_D (lwA s) (List.flatten [wU C ou x0, wF C x nw tr hq iq tt sC ba z b b2 ph r n t f v o y cd, mF C mo (nI n) (nI y) (nI 1) pl fl tl v2 o2 b gm pa cd td]) := hD
    exact lw_tailT hc hj K 1 (by decide) (by decide) ⟨hok, hph, hfr, hy60, hcd, hpa⟩ (by omega) (by omega) hP hD hS hl 5 rfl 1 rfl [2, 3, 4, 5, 6] rfl 27 (by decide) dL_law_940 dL_law_941 dL_law_944 dL_law_946 dL_law_951 dL_law_953 dL_law_967 (by decide)
  · skip
    refine lv_aload_n hx hb dL_law_903 rfl (lv_at hl 2 rfl) ?_
    refine lw_rd hc hj 1 (by decide) hS 1 0 hl rfl rfl dL_law_904 dL_law_905 dL_law_907 (by decide) dL_law_908 dL_law_909 e1 ?_
    refine lw_rd hc hj 2 (by decide) hS 1 0 hl rfl rfl dL_law_910 dL_law_911 dL_law_913 (by decide) dL_law_914 dL_law_915 e2 ?_
    refine lv_aload_n hx hb dL_law_916 rfl (lv_at hl 4 rfl) ?_
    refine q_SWB (Bs := [wU C ou x0, wF C x nw tr hq iq tt sC ba z b b2 ph r n t f v o y cd, mF C mo (nI n) (nI y) tw pl fl tl v2 o2 b gm pa cd td]) (cs := [wU C ou x0, wF C x nw tr hq iq tt sC ba z b b2 ph r n t f v o y cd]) (As := [.ref x, .int (nI a1), .int (nI a2), .ref ou]) (rest := []) ⟨hx, hb, hml, hown, hts⟩ (W_index l C x nw tr hq iq tt sC z b t f v o a1 a2 ba b2 r n ph y cd ou x0 hB (by omega) (by omega) hfr) (vx_cwSW 4 hts gL_law_L_index rfl rfl rfl (by decide +kernel) ⟨Nat.le_of_ble_eq_true rfl, Nat.le_of_ble_eq_true rfl⟩) hK hV hE hP hD hS (fun _ h => h) [0, 1] (by decide) rfl rfl hl.1 rfl (Nat.le_of_ble_eq_true rfl) dL_law_917 (lw_c0 hce hj hL) (lw_s0 hsl hj hL) (fun r w1 H locs hQ hF hS => ?_)
    obtain ⟨vq3, oq3, rfl, rfl⟩ := hQ
    obtain ⟨hP, hD⟩ := hF [wU C ou (lN (idxN b a1 a2)), wF C x nw tr hq iq tt sC ba z b b2 ph r n (idxT b) (fun _ => 1) vq3 oq3 y cd] rfl rfl
    have hP : va_P C.1 vwCl (List.flatten [wU C ou (lN (idxN b a1 a2)), wF C x nw tr hq iq tt sC ba z b b2 ph r n (idxT b) (fun _ => 1) vq3 oq3 y cd, mF C mo (nI n) (nI y) tw pl fl tl v2 o2 b gm pa cd td]) H := hP
    have hD : va_D (lwA s) (List.flatten [wU C ou (lN (idxN b a1 a2)), wF C x nw tr hq iq tt sC ba z b b2 ph r n (idxT b) (fun _ => 1) vq3 oq3 y cd, mF C mo (nI n) (nI y) tw pl fl tl v2 o2 b gm pa cd td]) := hD
    refine W.eq (g2 := F0 m 920 ls [.int (nI 0)]) rfl ?_
    refine lv_istore (lv' := [(5, .int (nI 0)), (4, .int (nI (6 * j))), (0, .ref sA), (1, .ref x), (2, .ref (mo 0)), (3, .ref ou)]) hx hb dL_law_920 hl (by decide) rfl (fun ls hl => ?_)
    refine lv_aload_n hx hb dL_law_922 rfl (lv_at hl 4 rfl) ?_
    refine lw_rd hc hj 1 (by decide) hS 2 1 hl rfl rfl dL_law_923 dL_law_924 dL_law_926 (by decide) dL_law_927 dL_law_928 e1 ?_
    refine lw_rd hc hj 2 (by decide) hS 2 1 hl rfl rfl dL_law_929 dL_law_930 dL_law_932 (by decide) dL_law_933 dL_law_934 e2 ?_
    refine q_VBE (Bs := [wU C ou (lN (idxN b a1 a2)), wF C x nw tr hq iq tt sC ba z b b2 ph r n (idxT b) (fun _ => 1) vq3 oq3 y cd, mF C mo (nI n) (nI y) tw pl fl tl v2 o2 b gm pa cd td]) (cs := [mF C mo (nI n) (nI y) tw pl fl tl v2 o2 b gm pa cd td]) (As := [.int (nI a1), .int (nI a2)]) (rest := []) ⟨hx, hb, hml, hown, hts⟩ (M_index l C mo (nI n) (nI y) tw pl fl tl v2 o2 b a1 a2 gm pa cd td hB (by omega) (by omega)).one (cwV 2 hts gL_law_X5_index rfl rfl rfl (by decide +kernel) ⟨Nat.le_of_ble_eq_true rfl, Nat.le_of_ble_eq_true rfl⟩) hK hV hE hP hD hS (fun _ h => h) [2] (by decide) rfl 76 rfl rfl rfl rfl hl.1 rfl (Nat.le_of_ble_eq_true rfl) dL_law_935 (lw_c0 hce hj hL) (lw_s0 hsl hj hL) (fun r w1 H locs hQ hF hS => ?_)
    obtain ⟨vq4, oq4, rfl, rfl⟩ := hQ
    obtain ⟨hP, hD⟩ := hF [mF C mo (nI n) (nI y) (nI 0) pl fl tl vq4 oq4 b gm pa cd td] (flat_one _).symm rfl
    have hP : va_P C.1 vwCl (List.flatten [wU C ou (lN (idxN b a1 a2)), wF C x nw tr hq iq tt sC ba z b b2 ph r n (idxT b) (fun _ => 1) vq3 oq3 y cd, mF C mo (nI n) (nI y) (nI 0) pl fl tl vq4 oq4 b gm pa cd td]) H := hP
    have hD : va_D (lwA s) (List.flatten [wU C ou (lN (idxN b a1 a2)), wF C x nw tr hq iq tt sC ba z b b2 ph r n (idxT b) (fun _ => 1) vq3 oq3 y cd, mF C mo (nI n) (nI y) (nI 0) pl fl tl vq4 oq4 b gm pa cd td]) := hD
    refine W.eq (g2 := F0 m 938 ls [.long (lN (idxN b a1 a2))]) rfl ?_
    refine lv_lstore (lv' := [(6, .long (lN (idxN b a1 a2))), (5, .int (nI 0)), (4, .int (nI (6 * j))), (0, .ref sA), (1, .ref x), (2, .ref (mo 0)), (3, .ref ou)]) hx hb dL_law_938 hl (by decide) rfl (fun ls hl => ?_)
    have hP : va_P C.1 vwCl (List.flatten [wU C ou (lN (idxN b a1 a2)), wF C x nw tr hq iq tt sC ba z b b2 ph r n (idxT b) (fun _ => 1) vq3 oq3 y cd, mF C mo (nI n) (nI y) (nI 0) pl fl tl vq4 oq4 b gm pa cd td]) H := hP
    have hD : va_D (lwA s) (List.flatten [wU C ou (lN (idxN b a1 a2)), wF C x nw tr hq iq tt sC ba z b b2 ph r n (idxT b) (fun _ => 1) vq3 oq3 y cd, mF C mo (nI n) (nI y) (nI 0) pl fl tl vq4 oq4 b gm pa cd td]) := hD
    exact lw_tailL hc hj K ⟨hok, hph, frB_1 b, hy60, hcd, hpa⟩ (by omega) (by omega) hP hD hS hl 5 rfl 1 rfl 6 rfl 0 rfl [2, 3, 4, 5, 6] rfl dL_law_940 dL_law_941 dL_law_944 dL_law_946 dL_law_951 dL_law_953 dL_law_956 dL_law_957 dL_law_958 dL_law_959 dL_law_961 dL_law_962 dL_law_967 (by decide)
set_option maxHeartbeats 4000000 in
set_option maxRecDepth 100000 in
theorem lw_arm (hc : lwC p l s m meth c C sA L xs) (hj : 6 * j + 6 ≤ L) (K : lwAt p l e s m below meth c Q C sA x ou sC nw tr hq iq tt ba mo j 1507 (j + 1)) : lwAt p l e s m below meth c Q C sA x ou sC nw tr hq iq tt ba mo j 970 j := by
  intro x0 z b b2 ph r n t f v o y cd tw pl fl tl v2 o2 gm pa td cells slots H locs ls okx hce hsl hP hD hS hl
  obtain ⟨hok, hph, hfr, hy60, hcd, hpa⟩ := okx
  have hB : OkB b := hok.1
  have hU : sumU b ≤ 9999 := hok.2
  have hr6 : r < 6 := hph.1
  have hn6 : n ≤ 6 := hph.2.1
  have hc0 := hc
  obtain ⟨hx, hb, hml, hown, hts, hK, hV, hE, hX, hsb, hL, hl0⟩ := hc0
  rcases cl1 (xs (6 * j + 1)) (lo := 0) (hi := 3) (by decide) (by decide) with h0 | ⟨a1, e1, ha1, hb1⟩
  · skip
    refine lv_aload_n hx hb dL_law_970 rfl (lv_at hl 2 rfl) ?_
    refine lw_rd hc hj 1 (by decide) hS 1 0 hl rfl rfl dL_law_971 dL_law_972 dL_law_974 (by decide) dL_law_975 dL_law_976 rfl ?_
    refine lw_rd hc hj 2 (by decide) hS 1 0 hl rfl rfl dL_law_977 dL_law_978 dL_law_980 (by decide) dL_law_981 dL_law_982 rfl ?_
    refine lv_aload_n hx hb dL_law_983 rfl (lv_at hl 4 rfl) ?_
    refine q_SWB1 (Bs := [wU C ou x0, wF C x nw tr hq iq tt sC ba z b b2 ph r n t f v o y cd, mF C mo (nI n) (nI y) tw pl fl tl v2 o2 b gm pa cd td]) (cs := [wU C ou x0, wF C x nw tr hq iq tt sC ba z b b2 ph r n t f v o y cd]) (As := [.ref x, .int (xs (6 * j + 1)), .int (xs (6 * j + 2)), .ref ou]) (rest := []) ⟨hx, hb, hml, hown, hts⟩ (W1_arm l hl0 C x (xs (6 * j + 1)) (xs (6 * j + 2)) nw tr hq iq tt sC ba z b b2 r n ph t f v o y cd ou x0 h0) (vx_cwSW 4 hts gL_law_L_arm rfl rfl rfl (by decide +kernel) ⟨Nat.le_of_ble_eq_true rfl, Nat.le_of_ble_eq_true rfl⟩) hK hV hE hP hD hS (fun _ h => h) [0, 1] (by decide) rfl rfl hl.1 rfl (Nat.le_of_ble_eq_true rfl) dL_law_984 (lw_c1 hce hj hL) (lw_s1 hsl hj hL) (fun r w1 H locs hQ hF hS => ?_)
    obtain ⟨rfl, rfl⟩ := hQ
    obtain ⟨hP, hD⟩ := hF [wU C ou x0, wF C x nw tr hq iq tt sC ba z b b2 ph r n t f v o y cd] rfl rfl
    have hP : va_P C.1 vwCl (List.flatten [wU C ou x0, wF C x nw tr hq iq tt sC ba z b b2 ph r n t f v o y cd, mF C mo (nI n) (nI y) tw pl fl tl v2 o2 b gm pa cd td]) H := hP
    have hD : va_D (lwA s) (List.flatten [wU C ou x0, wF C x nw tr hq iq tt sC ba z b b2 ph r n t f v o y cd, mF C mo (nI n) (nI y) tw pl fl tl v2 o2 b gm pa cd td]) := hD
    refine W.eq (g2 := F0 m 987 ls [.int (nI 1)]) rfl ?_
    have hce : cells + 1 ≤ 100 + j + 1 := Nat.succ_le_succ hce
    have hsl : slots + 6 ≤ 2000 + 6 * j + 6 := Nat.add_le_add_right hsl 6
    refine lv_istore (lv' := [(5, .int (nI 1)), (4, .int (nI (6 * j))), (0, .ref sA), (1, .ref x), (2, .ref (mo 0)), (3, .ref ou)]) hx hb dL_law_987 hl (by decide) rfl (fun ls hl => ?_)
    refine lv_aload_n hx hb dL_law_989 rfl (lv_at hl 4 rfl) ?_
    refine lw_rd hc hj 1 (by decide) hS 2 1 hl rfl rfl dL_law_990 dL_law_991 dL_law_993 (by decide) dL_law_994 dL_law_995 rfl ?_
    refine lw_rd hc hj 2 (by decide) hS 2 1 hl rfl rfl dL_law_996 dL_law_997 dL_law_999 (by decide) dL_law_1000 dL_law_1001 rfl ?_
    refine q_VBE (Bs := [wU C ou x0, wF C x nw tr hq iq tt sC ba z b b2 ph r n t f v o y cd, mF C mo (nI n) (nI y) tw pl fl tl v2 o2 b gm pa cd td]) (cs := [mF C mo (nI n) (nI y) tw pl fl tl v2 o2 b gm pa cd td]) (As := [.int (xs (6 * j + 1)), .int (xs (6 * j + 2))]) (rest := []) ⟨hx, hb, hml, hown, hts⟩ (M1_arm l C mo (nI n) (nI y) tw pl fl tl v2 o2 (xs (6 * j + 1)) (xs (6 * j + 2)) b gm pa cd td h0).one (cwV 2 hts gL_law_X5_arm rfl rfl rfl (by decide +kernel) ⟨Nat.le_of_ble_eq_true rfl, Nat.le_of_ble_eq_true rfl⟩) hK hV hE hP hD hS (fun _ h => h) [2] (by decide) rfl 76 rfl rfl rfl rfl hl.1 rfl (Nat.le_of_ble_eq_true rfl) dL_law_1002 (lw_c0 hce hj hL) (lw_s0 hsl hj hL) (fun r w1 H locs hQ hF hS => ?_)
    obtain ⟨rfl, rfl⟩ := hQ
    obtain ⟨hP, hD⟩ := hF [mF C mo (nI n) (nI y) (nI 1) pl fl tl v2 o2 b gm pa cd td] (flat_one _).symm rfl
    have hP : va_P C.1 vwCl (List.flatten [wU C ou x0, wF C x nw tr hq iq tt sC ba z b b2 ph r n t f v o y cd, mF C mo (nI n) (nI y) (nI 1) pl fl tl v2 o2 b gm pa cd td]) H := hP
    have hD : va_D (lwA s) (List.flatten [wU C ou x0, wF C x nw tr hq iq tt sC ba z b b2 ph r n t f v o y cd, mF C mo (nI n) (nI y) (nI 1) pl fl tl v2 o2 b gm pa cd td]) := hD
    refine W.eq (g2 := F0 m 1005 ls [.int (nI 0)]) rfl ?_
    refine lv_istore (lv' := [(6, .int (nI 0)), (5, .int (nI 1)), (4, .int (nI (6 * j))), (0, .ref sA), (1, .ref x), (2, .ref (mo 0)), (3, .ref ou)]) hx hb dL_law_1005 hl (by decide) rfl (fun ls hl => ?_)
    have hP : va_P C.1 vwCl (List.flatten [wU C ou x0, wF C x nw tr hq iq tt sC ba z b b2 ph r n t f v o y cd, mF C mo (nI n) (nI y) (nI 1) pl fl tl v2 o2 b gm pa cd td]) H := hP
    have hD : va_D (lwA s) (List.flatten [wU C ou x0, wF C x nw tr hq iq tt sC ba z b b2 ph r n t f v o y cd, mF C mo (nI n) (nI y) (nI 1) pl fl tl v2 o2 b gm pa cd td]) := hD
    exact lw_tailT hc hj K 1 (by decide) (by decide) ⟨hok, hph, hfr, hy60, hcd, hpa⟩ (by omega) (by omega) hP hD hS hl 5 rfl 1 rfl [2, 3, 4, 5, 6] rfl 28 (by decide) dL_law_1007 dL_law_1008 dL_law_1011 dL_law_1013 dL_law_1018 dL_law_1020 dL_law_1035 (by decide)
  · skip
    rcases cl1 (xs (6 * j + 2)) (lo := 0) (hi := 3) (by decide) (by decide) with h1 | ⟨a2, e2, ha2, hb2⟩
    · skip
      refine lv_aload_n hx hb dL_law_970 rfl (lv_at hl 2 rfl) ?_
      refine lw_rd hc hj 1 (by decide) hS 1 0 hl rfl rfl dL_law_971 dL_law_972 dL_law_974 (by decide) dL_law_975 dL_law_976 e1 ?_
      refine lw_rd hc hj 2 (by decide) hS 1 0 hl rfl rfl dL_law_977 dL_law_978 dL_law_980 (by decide) dL_law_981 dL_law_982 rfl ?_
      refine lv_aload_n hx hb dL_law_983 rfl (lv_at hl 4 rfl) ?_
      refine q_SWB1 (Bs := [wU C ou x0, wF C x nw tr hq iq tt sC ba z b b2 ph r n t f v o y cd, mF C mo (nI n) (nI y) tw pl fl tl v2 o2 b gm pa cd td]) (cs := [wU C ou x0, wF C x nw tr hq iq tt sC ba z b b2 ph r n t f v o y cd]) (As := [.ref x, .int (nI a1), .int (xs (6 * j + 2)), .ref ou]) (rest := []) ⟨hx, hb, hml, hown, hts⟩ (W2_arm l hl0 C x a1 (xs (6 * j + 2)) nw tr hq iq tt sC ba z b b2 r n ph t f v o y cd ou x0 (by omega) h1) (vx_cwSW 4 hts gL_law_L_arm rfl rfl rfl (by decide +kernel) ⟨Nat.le_of_ble_eq_true rfl, Nat.le_of_ble_eq_true rfl⟩) hK hV hE hP hD hS (fun _ h => h) [0, 1] (by decide) rfl rfl hl.1 rfl (Nat.le_of_ble_eq_true rfl) dL_law_984 (lw_c1 hce hj hL) (lw_s1 hsl hj hL) (fun r w1 H locs hQ hF hS => ?_)
      obtain ⟨rfl, rfl⟩ := hQ
      obtain ⟨hP, hD⟩ := hF [wU C ou x0, wF C x nw tr hq iq tt sC ba z b b2 ph r n t f v o y cd] rfl rfl
      have hP : va_P C.1 vwCl (List.flatten [wU C ou x0, wF C x nw tr hq iq tt sC ba z b b2 ph r n t f v o y cd, mF C mo (nI n) (nI y) tw pl fl tl v2 o2 b gm pa cd td]) H := hP
      have hD : va_D (lwA s) (List.flatten [wU C ou x0, wF C x nw tr hq iq tt sC ba z b b2 ph r n t f v o y cd, mF C mo (nI n) (nI y) tw pl fl tl v2 o2 b gm pa cd td]) := hD
      refine W.eq (g2 := F0 m 987 ls [.int (nI 2)]) rfl ?_
      have hce : cells + 1 ≤ 100 + j + 1 := Nat.succ_le_succ hce
      have hsl : slots + 6 ≤ 2000 + 6 * j + 6 := Nat.add_le_add_right hsl 6
      refine lv_istore (lv' := [(5, .int (nI 2)), (4, .int (nI (6 * j))), (0, .ref sA), (1, .ref x), (2, .ref (mo 0)), (3, .ref ou)]) hx hb dL_law_987 hl (by decide) rfl (fun ls hl => ?_)
      refine lv_aload_n hx hb dL_law_989 rfl (lv_at hl 4 rfl) ?_
      refine lw_rd hc hj 1 (by decide) hS 2 1 hl rfl rfl dL_law_990 dL_law_991 dL_law_993 (by decide) dL_law_994 dL_law_995 e1 ?_
      refine lw_rd hc hj 2 (by decide) hS 2 1 hl rfl rfl dL_law_996 dL_law_997 dL_law_999 (by decide) dL_law_1000 dL_law_1001 rfl ?_
      refine q_VBE (Bs := [wU C ou x0, wF C x nw tr hq iq tt sC ba z b b2 ph r n t f v o y cd, mF C mo (nI n) (nI y) tw pl fl tl v2 o2 b gm pa cd td]) (cs := [mF C mo (nI n) (nI y) tw pl fl tl v2 o2 b gm pa cd td]) (As := [.int (nI a1), .int (xs (6 * j + 2))]) (rest := []) ⟨hx, hb, hml, hown, hts⟩ (M2_arm l C mo (nI n) (nI y) tw pl fl tl v2 o2 a1 (xs (6 * j + 2)) b gm pa cd td (by omega) h1).one (cwV 2 hts gL_law_X5_arm rfl rfl rfl (by decide +kernel) ⟨Nat.le_of_ble_eq_true rfl, Nat.le_of_ble_eq_true rfl⟩) hK hV hE hP hD hS (fun _ h => h) [2] (by decide) rfl 76 rfl rfl rfl rfl hl.1 rfl (Nat.le_of_ble_eq_true rfl) dL_law_1002 (lw_c0 hce hj hL) (lw_s0 hsl hj hL) (fun r w1 H locs hQ hF hS => ?_)
      obtain ⟨rfl, rfl⟩ := hQ
      obtain ⟨hP, hD⟩ := hF [mF C mo (nI n) (nI y) (nI 2) pl fl tl v2 o2 b gm pa cd td] (flat_one _).symm rfl
      have hP : va_P C.1 vwCl (List.flatten [wU C ou x0, wF C x nw tr hq iq tt sC ba z b b2 ph r n t f v o y cd, mF C mo (nI n) (nI y) (nI 2) pl fl tl v2 o2 b gm pa cd td]) H := hP
      have hD : va_D (lwA s) (List.flatten [wU C ou x0, wF C x nw tr hq iq tt sC ba z b b2 ph r n t f v o y cd, mF C mo (nI n) (nI y) (nI 2) pl fl tl v2 o2 b gm pa cd td]) := hD
      refine W.eq (g2 := F0 m 1005 ls [.int (nI 0)]) rfl ?_
      refine lv_istore (lv' := [(6, .int (nI 0)), (5, .int (nI 2)), (4, .int (nI (6 * j))), (0, .ref sA), (1, .ref x), (2, .ref (mo 0)), (3, .ref ou)]) hx hb dL_law_1005 hl (by decide) rfl (fun ls hl => ?_)
      have hP : va_P C.1 vwCl (List.flatten [wU C ou x0, wF C x nw tr hq iq tt sC ba z b b2 ph r n t f v o y cd, mF C mo (nI n) (nI y) (nI 2) pl fl tl v2 o2 b gm pa cd td]) H := hP
      have hD : va_D (lwA s) (List.flatten [wU C ou x0, wF C x nw tr hq iq tt sC ba z b b2 ph r n t f v o y cd, mF C mo (nI n) (nI y) (nI 2) pl fl tl v2 o2 b gm pa cd td]) := hD
      exact lw_tailT hc hj K 2 (by decide) (by decide) ⟨hok, hph, hfr, hy60, hcd, hpa⟩ (by omega) (by omega) hP hD hS hl 5 rfl 1 rfl [2, 3, 4, 5, 6] rfl 28 (by decide) dL_law_1007 dL_law_1008 dL_law_1011 dL_law_1013 dL_law_1018 dL_law_1020 dL_law_1035 (by decide)
    · skip
      refine lv_aload_n hx hb dL_law_970 rfl (lv_at hl 2 rfl) ?_
      refine lw_rd hc hj 1 (by decide) hS 1 0 hl rfl rfl dL_law_971 dL_law_972 dL_law_974 (by decide) dL_law_975 dL_law_976 e1 ?_
      refine lw_rd hc hj 2 (by decide) hS 1 0 hl rfl rfl dL_law_977 dL_law_978 dL_law_980 (by decide) dL_law_981 dL_law_982 e2 ?_
      refine lv_aload_n hx hb dL_law_983 rfl (lv_at hl 4 rfl) ?_
      refine q_SWB (Bs := [wU C ou x0, wF C x nw tr hq iq tt sC ba z b b2 ph r n t f v o y cd, mF C mo (nI n) (nI y) tw pl fl tl v2 o2 b gm pa cd td]) (cs := [wU C ou x0, wF C x nw tr hq iq tt sC ba z b b2 ph r n t f v o y cd]) (As := [.ref x, .int (nI a1), .int (nI a2), .ref ou]) (rest := []) ⟨hx, hb, hml, hown, hts⟩ (W_arm l C x nw tr hq iq tt sC z b t f v o a1 a2 ba b2 r n ph y cd ou x0 hB (by omega) (by omega) hfr) (vx_cwSW 4 hts gL_law_L_arm rfl rfl rfl (by decide +kernel) ⟨Nat.le_of_ble_eq_true rfl, Nat.le_of_ble_eq_true rfl⟩) hK hV hE hP hD hS (fun _ h => h) [0, 1] (by decide) rfl rfl hl.1 rfl (Nat.le_of_ble_eq_true rfl) dL_law_984 (lw_c0 hce hj hL) (lw_s0 hsl hj hL) (fun r w1 H locs hQ hF hS => ?_)
      obtain ⟨tq5, fq5, vq5, oq5, rfl, rfl, hfq⟩ := hQ
      obtain ⟨hP, hD⟩ := hF [wU C ou ((nI (oaN b a1 a2)).toInt64), wF C x nw tr hq iq tt sC ba z b b2 ph r n tq5 fq5 vq5 oq5 y cd] rfl rfl
      have hP : va_P C.1 vwCl (List.flatten [wU C ou ((nI (oaN b a1 a2)).toInt64), wF C x nw tr hq iq tt sC ba z b b2 ph r n tq5 fq5 vq5 oq5 y cd, mF C mo (nI n) (nI y) tw pl fl tl v2 o2 b gm pa cd td]) H := hP
      have hD : va_D (lwA s) (List.flatten [wU C ou ((nI (oaN b a1 a2)).toInt64), wF C x nw tr hq iq tt sC ba z b b2 ph r n tq5 fq5 vq5 oq5 y cd, mF C mo (nI n) (nI y) tw pl fl tl v2 o2 b gm pa cd td]) := hD
      refine W.eq (g2 := F0 m 987 ls [.int (nI 0)]) rfl ?_
      refine lv_istore (lv' := [(5, .int (nI 0)), (4, .int (nI (6 * j))), (0, .ref sA), (1, .ref x), (2, .ref (mo 0)), (3, .ref ou)]) hx hb dL_law_987 hl (by decide) rfl (fun ls hl => ?_)
      refine lv_aload_n hx hb dL_law_989 rfl (lv_at hl 4 rfl) ?_
      refine lw_rd hc hj 1 (by decide) hS 2 1 hl rfl rfl dL_law_990 dL_law_991 dL_law_993 (by decide) dL_law_994 dL_law_995 e1 ?_
      refine lw_rd hc hj 2 (by decide) hS 2 1 hl rfl rfl dL_law_996 dL_law_997 dL_law_999 (by decide) dL_law_1000 dL_law_1001 e2 ?_
      refine q_VBE (Bs := [wU C ou ((nI (oaN b a1 a2)).toInt64), wF C x nw tr hq iq tt sC ba z b b2 ph r n tq5 fq5 vq5 oq5 y cd, mF C mo (nI n) (nI y) tw pl fl tl v2 o2 b gm pa cd td]) (cs := [mF C mo (nI n) (nI y) tw pl fl tl v2 o2 b gm pa cd td]) (As := [.int (nI a1), .int (nI a2)]) (rest := []) ⟨hx, hb, hml, hown, hts⟩ (M_arm l C mo (nI n) (nI y) tw pl fl tl v2 o2 b a1 a2 gm pa cd td hB (by omega) (by omega)).one (cwV 2 hts gL_law_X5_arm rfl rfl rfl (by decide +kernel) ⟨Nat.le_of_ble_eq_true rfl, Nat.le_of_ble_eq_true rfl⟩) hK hV hE hP hD hS (fun _ h => h) [2] (by decide) rfl 76 rfl rfl rfl rfl hl.1 rfl (Nat.le_of_ble_eq_true rfl) dL_law_1002 (lw_c0 hce hj hL) (lw_s0 hsl hj hL) (fun r w1 H locs hQ hF hS => ?_)
      obtain ⟨vq6, oq6, rfl, rfl⟩ := hQ
      obtain ⟨hP, hD⟩ := hF [mF C mo (nI n) (nI y) (nI 0) pl fl tl vq6 oq6 b gm pa cd td] (flat_one _).symm rfl
      have hP : va_P C.1 vwCl (List.flatten [wU C ou ((nI (oaN b a1 a2)).toInt64), wF C x nw tr hq iq tt sC ba z b b2 ph r n tq5 fq5 vq5 oq5 y cd, mF C mo (nI n) (nI y) (nI 0) pl fl tl vq6 oq6 b gm pa cd td]) H := hP
      have hD : va_D (lwA s) (List.flatten [wU C ou ((nI (oaN b a1 a2)).toInt64), wF C x nw tr hq iq tt sC ba z b b2 ph r n tq5 fq5 vq5 oq5 y cd, mF C mo (nI n) (nI y) (nI 0) pl fl tl vq6 oq6 b gm pa cd td]) := hD
      refine W.eq (g2 := F0 m 1005 ls [.int (nI (oaN b a1 a2))]) rfl ?_
      refine lv_istore (lv' := [(6, .int (nI (oaN b a1 a2))), (5, .int (nI 0)), (4, .int (nI (6 * j))), (0, .ref sA), (1, .ref x), (2, .ref (mo 0)), (3, .ref ou)]) hx hb dL_law_1005 hl (by decide) rfl (fun ls hl => ?_)
      have hP : va_P C.1 vwCl (List.flatten [wU C ou ((nI (oaN b a1 a2)).toInt64), wF C x nw tr hq iq tt sC ba z b b2 ph r n tq5 fq5 vq5 oq5 y cd, mF C mo (nI n) (nI y) (nI 0) pl fl tl vq6 oq6 b gm pa cd td]) H := hP
      have hD : va_D (lwA s) (List.flatten [wU C ou ((nI (oaN b a1 a2)).toInt64), wF C x nw tr hq iq tt sC ba z b b2 ph r n tq5 fq5 vq5 oq5 y cd, mF C mo (nI n) (nI y) (nI 0) pl fl tl vq6 oq6 b gm pa cd td]) := hD
      exact lw_tailI hc hj K ⟨hok, hph, hfq, hy60, hcd, hpa⟩ (by omega) (by omega) hP hD hS hl 5 rfl 1 rfl 6 rfl 0 rfl [2, 3, 4, 5, 6] rfl dL_law_1007 dL_law_1008 dL_law_1011 dL_law_1013 dL_law_1018 dL_law_1020 dL_law_1023 dL_law_1024 dL_law_1025 dL_law_1026 dL_law_1028 dL_law_1029 dL_law_1030 dL_law_1035 (by decide)
set_option maxHeartbeats 4000000 in
set_option maxRecDepth 100000 in
theorem lw_count (hc : lwC p l s m meth c C sA L xs) (hj : 6 * j + 6 ≤ L) (K : lwAt p l e s m below meth c Q C sA x ou sC nw tr hq iq tt ba mo j 1507 (j + 1)) : lwAt p l e s m below meth c Q C sA x ou sC nw tr hq iq tt ba mo j 1038 j := by
  intro x0 z b b2 ph r n t f v o y cd tw pl fl tl v2 o2 gm pa td cells slots H locs ls okx hce hsl hP hD hS hl
  obtain ⟨hok, hph, hfr, hy60, hcd, hpa⟩ := okx
  have hB : OkB b := hok.1
  have hU : sumU b ≤ 9999 := hok.2
  have hr6 : r < 6 := hph.1
  have hn6 : n ≤ 6 := hph.2.1
  have hc0 := hc
  obtain ⟨hx, hb, hml, hown, hts, hK, hV, hE, hX, hsb, hL, hl0⟩ := hc0
  rcases cl1 (xs (6 * j + 1)) (lo := 0) (hi := 3) (by decide) (by decide) with h0 | ⟨a1, e1, ha1, hb1⟩
  · skip
    refine lv_aload_n hx hb dL_law_1038 rfl (lv_at hl 2 rfl) ?_
    refine lw_rd hc hj 1 (by decide) hS 1 0 hl rfl rfl dL_law_1039 dL_law_1040 dL_law_1042 (by decide) dL_law_1043 dL_law_1044 rfl ?_
    refine lv_aload_n hx hb dL_law_1045 rfl (lv_at hl 4 rfl) ?_
    refine q_SWB1 (Bs := [wU C ou x0, wF C x nw tr hq iq tt sC ba z b b2 ph r n t f v o y cd, mF C mo (nI n) (nI y) tw pl fl tl v2 o2 b gm pa cd td]) (cs := [wU C ou x0, wF C x nw tr hq iq tt sC ba z b b2 ph r n t f v o y cd]) (As := [.ref x, .int (xs (6 * j + 1)), .ref ou]) (rest := []) ⟨hx, hb, hml, hown, hts⟩ (W1_count l hl0 C x (xs (6 * j + 1)) nw tr hq iq tt sC ba z b b2 r n ph t f v o y cd ou x0 h0) (vx_cwSW 3 hts gL_law_L_count rfl rfl rfl (by decide +kernel) ⟨Nat.le_of_ble_eq_true rfl, Nat.le_of_ble_eq_true rfl⟩) hK hV hE hP hD hS (fun _ h => h) [0, 1] (by decide) rfl rfl hl.1 rfl (Nat.le_of_ble_eq_true rfl) dL_law_1046 (lw_c1 hce hj hL) (lw_s1 hsl hj hL) (fun r w1 H locs hQ hF hS => ?_)
    obtain ⟨rfl, rfl⟩ := hQ
    obtain ⟨hP, hD⟩ := hF [wU C ou x0, wF C x nw tr hq iq tt sC ba z b b2 ph r n t f v o y cd] rfl rfl
    have hP : va_P C.1 vwCl (List.flatten [wU C ou x0, wF C x nw tr hq iq tt sC ba z b b2 ph r n t f v o y cd, mF C mo (nI n) (nI y) tw pl fl tl v2 o2 b gm pa cd td]) H := hP
    have hD : va_D (lwA s) (List.flatten [wU C ou x0, wF C x nw tr hq iq tt sC ba z b b2 ph r n t f v o y cd, mF C mo (nI n) (nI y) tw pl fl tl v2 o2 b gm pa cd td]) := hD
    refine W.eq (g2 := F0 m 1049 ls [.int (nI 1)]) rfl ?_
    have hce : cells + 1 ≤ 100 + j + 1 := Nat.succ_le_succ hce
    have hsl : slots + 6 ≤ 2000 + 6 * j + 6 := Nat.add_le_add_right hsl 6
    refine lv_istore (lv' := [(5, .int (nI 1)), (4, .int (nI (6 * j))), (0, .ref sA), (1, .ref x), (2, .ref (mo 0)), (3, .ref ou)]) hx hb dL_law_1049 hl (by decide) rfl (fun ls hl => ?_)
    refine lv_aload_n hx hb dL_law_1051 rfl (lv_at hl 4 rfl) ?_
    refine lw_rd hc hj 1 (by decide) hS 2 1 hl rfl rfl dL_law_1052 dL_law_1053 dL_law_1055 (by decide) dL_law_1056 dL_law_1057 rfl ?_
    refine q_VBE (Bs := [wU C ou x0, wF C x nw tr hq iq tt sC ba z b b2 ph r n t f v o y cd, mF C mo (nI n) (nI y) tw pl fl tl v2 o2 b gm pa cd td]) (cs := [mF C mo (nI n) (nI y) tw pl fl tl v2 o2 b gm pa cd td]) (As := [.int (xs (6 * j + 1))]) (rest := []) ⟨hx, hb, hml, hown, hts⟩ (M1_count l C mo (nI n) (nI y) tw pl fl tl v2 o2 (xs (6 * j + 1)) b gm pa cd td h0).one (cwV 1 hts gL_law_X5_count rfl rfl rfl (by decide +kernel) ⟨Nat.le_of_ble_eq_true rfl, Nat.le_of_ble_eq_true rfl⟩) hK hV hE hP hD hS (fun _ h => h) [2] (by decide) rfl 76 rfl rfl rfl rfl hl.1 rfl (Nat.le_of_ble_eq_true rfl) dL_law_1058 (lw_c0 hce hj hL) (lw_s0 hsl hj hL) (fun r w1 H locs hQ hF hS => ?_)
    obtain ⟨rfl, rfl⟩ := hQ
    obtain ⟨hP, hD⟩ := hF [mF C mo (nI n) (nI y) (nI 1) pl fl tl v2 o2 b gm pa cd td] (flat_one _).symm rfl
    have hP : va_P C.1 vwCl (List.flatten [wU C ou x0, wF C x nw tr hq iq tt sC ba z b b2 ph r n t f v o y cd, mF C mo (nI n) (nI y) (nI 1) pl fl tl v2 o2 b gm pa cd td]) H := hP
    have hD : va_D (lwA s) (List.flatten [wU C ou x0, wF C x nw tr hq iq tt sC ba z b b2 ph r n t f v o y cd, mF C mo (nI n) (nI y) (nI 1) pl fl tl v2 o2 b gm pa cd td]) := hD
    refine W.eq (g2 := F0 m 1061 ls [.int (nI 0)]) rfl ?_
    refine lv_istore (lv' := [(6, .int (nI 0)), (5, .int (nI 1)), (4, .int (nI (6 * j))), (0, .ref sA), (1, .ref x), (2, .ref (mo 0)), (3, .ref ou)]) hx hb dL_law_1061 hl (by decide) rfl (fun ls hl => ?_)
    have hP : va_P C.1 vwCl (List.flatten [wU C ou x0, wF C x nw tr hq iq tt sC ba z b b2 ph r n t f v o y cd, mF C mo (nI n) (nI y) (nI 1) pl fl tl v2 o2 b gm pa cd td]) H := hP
    have hD : va_D (lwA s) (List.flatten [wU C ou x0, wF C x nw tr hq iq tt sC ba z b b2 ph r n t f v o y cd, mF C mo (nI n) (nI y) (nI 1) pl fl tl v2 o2 b gm pa cd td]) := hD
    exact lw_tailT hc hj K 1 (by decide) (by decide) ⟨hok, hph, hfr, hy60, hcd, hpa⟩ (by omega) (by omega) hP hD hS hl 5 rfl 1 rfl [2, 3, 4, 5, 6] rfl 28 (by decide) dL_law_1063 dL_law_1064 dL_law_1067 dL_law_1069 dL_law_1074 dL_law_1076 dL_law_1091 (by decide)
  · skip
    refine lv_aload_n hx hb dL_law_1038 rfl (lv_at hl 2 rfl) ?_
    refine lw_rd hc hj 1 (by decide) hS 1 0 hl rfl rfl dL_law_1039 dL_law_1040 dL_law_1042 (by decide) dL_law_1043 dL_law_1044 e1 ?_
    refine lv_aload_n hx hb dL_law_1045 rfl (lv_at hl 4 rfl) ?_
    refine q_SWB (Bs := [wU C ou x0, wF C x nw tr hq iq tt sC ba z b b2 ph r n t f v o y cd, mF C mo (nI n) (nI y) tw pl fl tl v2 o2 b gm pa cd td]) (cs := [wU C ou x0, wF C x nw tr hq iq tt sC ba z b b2 ph r n t f v o y cd]) (As := [.ref x, .int (nI a1), .ref ou]) (rest := []) ⟨hx, hb, hml, hown, hts⟩ (W_count l C x nw tr hq iq tt sC z b ba r n a1 b2 ph t f v o y cd ou x0 (by omega)) (vx_cwSW 3 hts gL_law_L_count rfl rfl rfl (by decide +kernel) ⟨Nat.le_of_ble_eq_true rfl, Nat.le_of_ble_eq_true rfl⟩) hK hV hE hP hD hS (fun _ h => h) [0, 1] (by decide) rfl rfl hl.1 rfl (Nat.le_of_ble_eq_true rfl) dL_law_1046 (lw_c0 hce hj hL) (lw_s0 hsl hj hL) (fun r w1 H locs hQ hF hS => ?_)
    obtain ⟨rfl, rfl⟩ := hQ
    obtain ⟨hP, hD⟩ := hF [wU C ou ((cnI b n a1).toInt64), wF C x nw tr hq iq tt sC ba z b b2 ph r n t f v o y cd] rfl rfl
    have hP : va_P C.1 vwCl (List.flatten [wU C ou ((cnI b n a1).toInt64), wF C x nw tr hq iq tt sC ba z b b2 ph r n t f v o y cd, mF C mo (nI n) (nI y) tw pl fl tl v2 o2 b gm pa cd td]) H := hP
    have hD : va_D (lwA s) (List.flatten [wU C ou ((cnI b n a1).toInt64), wF C x nw tr hq iq tt sC ba z b b2 ph r n t f v o y cd, mF C mo (nI n) (nI y) tw pl fl tl v2 o2 b gm pa cd td]) := hD
    refine W.eq (g2 := F0 m 1049 ls [.int (nI 0)]) rfl ?_
    refine lv_istore (lv' := [(5, .int (nI 0)), (4, .int (nI (6 * j))), (0, .ref sA), (1, .ref x), (2, .ref (mo 0)), (3, .ref ou)]) hx hb dL_law_1049 hl (by decide) rfl (fun ls hl => ?_)
    refine lv_aload_n hx hb dL_law_1051 rfl (lv_at hl 4 rfl) ?_
    refine lw_rd hc hj 1 (by decide) hS 2 1 hl rfl rfl dL_law_1052 dL_law_1053 dL_law_1055 (by decide) dL_law_1056 dL_law_1057 e1 ?_
    refine q_VBE (Bs := [wU C ou ((cnI b n a1).toInt64), wF C x nw tr hq iq tt sC ba z b b2 ph r n t f v o y cd, mF C mo (nI n) (nI y) tw pl fl tl v2 o2 b gm pa cd td]) (cs := [mF C mo (nI n) (nI y) tw pl fl tl v2 o2 b gm pa cd td]) (As := [.int (nI a1)]) (rest := []) ⟨hx, hb, hml, hown, hts⟩ (M_count l C mo (nI y) tw pl fl tl v2 o2 b n a1 gm pa cd td (by omega)).one (cwV 1 hts gL_law_X5_count rfl rfl rfl (by decide +kernel) ⟨Nat.le_of_ble_eq_true rfl, Nat.le_of_ble_eq_true rfl⟩) hK hV hE hP hD hS (fun _ h => h) [2] (by decide) rfl 76 rfl rfl rfl rfl hl.1 rfl (Nat.le_of_ble_eq_true rfl) dL_law_1058 (lw_c0 hce hj hL) (lw_s0 hsl hj hL) (fun r w1 H locs hQ hF hS => ?_)
    obtain ⟨rfl, rfl⟩ := hQ
    obtain ⟨hP, hD⟩ := hF [mF C mo (nI n) (nI y) (nI 0) pl fl tl v2 o2 b gm pa cd td] (flat_one _).symm rfl
    have hP : va_P C.1 vwCl (List.flatten [wU C ou ((cnI b n a1).toInt64), wF C x nw tr hq iq tt sC ba z b b2 ph r n t f v o y cd, mF C mo (nI n) (nI y) (nI 0) pl fl tl v2 o2 b gm pa cd td]) H := hP
    have hD : va_D (lwA s) (List.flatten [wU C ou ((cnI b n a1).toInt64), wF C x nw tr hq iq tt sC ba z b b2 ph r n t f v o y cd, mF C mo (nI n) (nI y) (nI 0) pl fl tl v2 o2 b gm pa cd td]) := hD
    refine W.eq (g2 := F0 m 1061 ls [.int (cnI b n a1)]) rfl ?_
    refine lv_istore (lv' := [(6, .int (cnI b n a1)), (5, .int (nI 0)), (4, .int (nI (6 * j))), (0, .ref sA), (1, .ref x), (2, .ref (mo 0)), (3, .ref ou)]) hx hb dL_law_1061 hl (by decide) rfl (fun ls hl => ?_)
    have hP : va_P C.1 vwCl (List.flatten [wU C ou ((cnI b n a1).toInt64), wF C x nw tr hq iq tt sC ba z b b2 ph r n t f v o y cd, mF C mo (nI n) (nI y) (nI 0) pl fl tl v2 o2 b gm pa cd td]) H := hP
    have hD : va_D (lwA s) (List.flatten [wU C ou ((cnI b n a1).toInt64), wF C x nw tr hq iq tt sC ba z b b2 ph r n t f v o y cd, mF C mo (nI n) (nI y) (nI 0) pl fl tl v2 o2 b gm pa cd td]) := hD
    exact lw_tailI hc hj K ⟨hok, hph, hfr, hy60, hcd, hpa⟩ (by omega) (by omega) hP hD hS hl 5 rfl 1 rfl 6 rfl 0 rfl [2, 3, 4, 5, 6] rfl dL_law_1063 dL_law_1064 dL_law_1067 dL_law_1069 dL_law_1074 dL_law_1076 dL_law_1079 dL_law_1080 dL_law_1081 dL_law_1082 dL_law_1084 dL_law_1085 dL_law_1086 dL_law_1091 (by decide)
set_option maxHeartbeats 4000000 in
set_option maxRecDepth 100000 in
theorem lw_sum (hc : lwC p l s m meth c C sA L xs) (hj : 6 * j + 6 ≤ L) (K : lwAt p l e s m below meth c Q C sA x ou sC nw tr hq iq tt ba mo j 1507 (j + 1)) : lwAt p l e s m below meth c Q C sA x ou sC nw tr hq iq tt ba mo j 1094 j := by
  intro x0 z b b2 ph r n t f v o y cd tw pl fl tl v2 o2 gm pa td cells slots H locs ls okx hce hsl hP hD hS hl
  obtain ⟨hok, hph, hfr, hy60, hcd, hpa⟩ := okx
  have hB : OkB b := hok.1
  have hU : sumU b ≤ 9999 := hok.2
  have hr6 : r < 6 := hph.1
  have hn6 : n ≤ 6 := hph.2.1
  have hc0 := hc
  obtain ⟨hx, hb, hml, hown, hts, hK, hV, hE, hX, hsb, hL, hl0⟩ := hc0
  rcases cl1 (xs (6 * j + 1)) (lo := 0) (hi := 2) (by decide) (by decide) with h0 | ⟨a1, e1, ha1, hb1⟩
  · skip
    refine lv_aload_n hx hb dL_law_1094 rfl (lv_at hl 2 rfl) ?_
    refine lw_rd hc hj 1 (by decide) hS 1 0 hl rfl rfl dL_law_1095 dL_law_1096 dL_law_1098 (by decide) dL_law_1099 dL_law_1100 rfl ?_
    refine lv_aload_n hx hb dL_law_1101 rfl (lv_at hl 4 rfl) ?_
    refine q_SWB1 (Bs := [wU C ou x0, wF C x nw tr hq iq tt sC ba z b b2 ph r n t f v o y cd, mF C mo (nI n) (nI y) tw pl fl tl v2 o2 b gm pa cd td]) (cs := [wU C ou x0, wF C x nw tr hq iq tt sC ba z b b2 ph r n t f v o y cd]) (As := [.ref x, .int (xs (6 * j + 1)), .ref ou]) (rest := []) ⟨hx, hb, hml, hown, hts⟩ (W1_sum l hl0 C x (xs (6 * j + 1)) nw tr hq iq tt sC ba z b b2 r n ph t f v o y cd ou x0 h0) (vx_cwSW 3 hts gL_law_L_sum rfl rfl rfl (by decide +kernel) ⟨Nat.le_of_ble_eq_true rfl, Nat.le_of_ble_eq_true rfl⟩) hK hV hE hP hD hS (fun _ h => h) [0, 1] (by decide) rfl rfl hl.1 rfl (Nat.le_of_ble_eq_true rfl) dL_law_1102 (lw_c1 hce hj hL) (lw_s1 hsl hj hL) (fun r w1 H locs hQ hF hS => ?_)
    obtain ⟨rfl, rfl⟩ := hQ
    obtain ⟨hP, hD⟩ := hF [wU C ou x0, wF C x nw tr hq iq tt sC ba z b b2 ph r n t f v o y cd] rfl rfl
    have hP : va_P C.1 vwCl (List.flatten [wU C ou x0, wF C x nw tr hq iq tt sC ba z b b2 ph r n t f v o y cd, mF C mo (nI n) (nI y) tw pl fl tl v2 o2 b gm pa cd td]) H := hP
    have hD : va_D (lwA s) (List.flatten [wU C ou x0, wF C x nw tr hq iq tt sC ba z b b2 ph r n t f v o y cd, mF C mo (nI n) (nI y) tw pl fl tl v2 o2 b gm pa cd td]) := hD
    refine W.eq (g2 := F0 m 1105 ls [.int (nI 1)]) rfl ?_
    have hce : cells + 1 ≤ 100 + j + 1 := Nat.succ_le_succ hce
    have hsl : slots + 6 ≤ 2000 + 6 * j + 6 := Nat.add_le_add_right hsl 6
    refine lv_istore (lv' := [(5, .int (nI 1)), (4, .int (nI (6 * j))), (0, .ref sA), (1, .ref x), (2, .ref (mo 0)), (3, .ref ou)]) hx hb dL_law_1105 hl (by decide) rfl (fun ls hl => ?_)
    refine lv_aload_n hx hb dL_law_1107 rfl (lv_at hl 4 rfl) ?_
    refine lw_rd hc hj 1 (by decide) hS 2 1 hl rfl rfl dL_law_1108 dL_law_1109 dL_law_1111 (by decide) dL_law_1112 dL_law_1113 rfl ?_
    refine q_VBE (Bs := [wU C ou x0, wF C x nw tr hq iq tt sC ba z b b2 ph r n t f v o y cd, mF C mo (nI n) (nI y) tw pl fl tl v2 o2 b gm pa cd td]) (cs := [mF C mo (nI n) (nI y) tw pl fl tl v2 o2 b gm pa cd td]) (As := [.int (xs (6 * j + 1))]) (rest := []) ⟨hx, hb, hml, hown, hts⟩ (M1_sum l C mo (nI n) (nI y) tw pl fl tl v2 o2 (xs (6 * j + 1)) b gm pa cd td h0).one (cwV 1 hts gL_law_X5_sum rfl rfl rfl (by decide +kernel) ⟨Nat.le_of_ble_eq_true rfl, Nat.le_of_ble_eq_true rfl⟩) hK hV hE hP hD hS (fun _ h => h) [2] (by decide) rfl 76 rfl rfl rfl rfl hl.1 rfl (Nat.le_of_ble_eq_true rfl) dL_law_1114 (lw_c0 hce hj hL) (lw_s0 hsl hj hL) (fun r w1 H locs hQ hF hS => ?_)
    obtain ⟨rfl, rfl⟩ := hQ
    obtain ⟨hP, hD⟩ := hF [mF C mo (nI n) (nI y) (nI 1) pl fl tl v2 o2 b gm pa cd td] (flat_one _).symm rfl
    have hP : va_P C.1 vwCl (List.flatten [wU C ou x0, wF C x nw tr hq iq tt sC ba z b b2 ph r n t f v o y cd, mF C mo (nI n) (nI y) (nI 1) pl fl tl v2 o2 b gm pa cd td]) H := hP
    have hD : va_D (lwA s) (List.flatten [wU C ou x0, wF C x nw tr hq iq tt sC ba z b b2 ph r n t f v o y cd, mF C mo (nI n) (nI y) (nI 1) pl fl tl v2 o2 b gm pa cd td]) := hD
    refine W.eq (g2 := F0 m 1117 ls [.long (lN 0)]) rfl ?_
    refine lv_lstore (lv' := [(6, .long (lN 0)), (5, .int (nI 1)), (4, .int (nI (6 * j))), (0, .ref sA), (1, .ref x), (2, .ref (mo 0)), (3, .ref ou)]) hx hb dL_law_1117 hl (by decide) rfl (fun ls hl => ?_)
    have hP : va_P C.1 vwCl (List.flatten [wU C ou x0, wF C x nw tr hq iq tt sC ba z b b2 ph r n t f v o y cd, mF C mo (nI n) (nI y) (nI 1) pl fl tl v2 o2 b gm pa cd td]) H := hP
    have hD : va_D (lwA s) (List.flatten [wU C ou x0, wF C x nw tr hq iq tt sC ba z b b2 ph r n t f v o y cd, mF C mo (nI n) (nI y) (nI 1) pl fl tl v2 o2 b gm pa cd td]) := hD
    exact lw_tailT hc hj K 1 (by decide) (by decide) ⟨hok, hph, hfr, hy60, hcd, hpa⟩ (by omega) (by omega) hP hD hS hl 5 rfl 1 rfl [2, 3, 4, 5, 6] rfl 27 (by decide) dL_law_1119 dL_law_1120 dL_law_1123 dL_law_1125 dL_law_1130 dL_law_1132 dL_law_1146 (by decide)
  · skip
    refine lv_aload_n hx hb dL_law_1094 rfl (lv_at hl 2 rfl) ?_
    refine lw_rd hc hj 1 (by decide) hS 1 0 hl rfl rfl dL_law_1095 dL_law_1096 dL_law_1098 (by decide) dL_law_1099 dL_law_1100 e1 ?_
    refine lv_aload_n hx hb dL_law_1101 rfl (lv_at hl 4 rfl) ?_
    refine q_SWB (Bs := [wU C ou x0, wF C x nw tr hq iq tt sC ba z b b2 ph r n t f v o y cd, mF C mo (nI n) (nI y) tw pl fl tl v2 o2 b gm pa cd td]) (cs := [wU C ou x0, wF C x nw tr hq iq tt sC ba z b b2 ph r n t f v o y cd]) (As := [.ref x, .int (nI a1), .ref ou]) (rest := []) ⟨hx, hb, hml, hown, hts⟩ (W_sum l C x nw tr hq iq tt sC z b a1 ba b2 r n ph t f v o y cd ou x0 (by omega)) (vx_cwSW 3 hts gL_law_L_sum rfl rfl rfl (by decide +kernel) ⟨Nat.le_of_ble_eq_true rfl, Nat.le_of_ble_eq_true rfl⟩) hK hV hE hP hD hS (fun _ h => h) [0, 1] (by decide) rfl rfl hl.1 rfl (Nat.le_of_ble_eq_true rfl) dL_law_1102 (lw_c0 hce hj hL) (lw_s0 hsl hj hL) (fun r w1 H locs hQ hF hS => ?_)
    obtain ⟨rfl, rfl⟩ := hQ
    obtain ⟨hP, hD⟩ := hF [wU C ou (suL b a1), wF C x nw tr hq iq tt sC ba z b b2 ph r n t f v o y cd] rfl rfl
    have hP : va_P C.1 vwCl (List.flatten [wU C ou (suL b a1), wF C x nw tr hq iq tt sC ba z b b2 ph r n t f v o y cd, mF C mo (nI n) (nI y) tw pl fl tl v2 o2 b gm pa cd td]) H := hP
    have hD : va_D (lwA s) (List.flatten [wU C ou (suL b a1), wF C x nw tr hq iq tt sC ba z b b2 ph r n t f v o y cd, mF C mo (nI n) (nI y) tw pl fl tl v2 o2 b gm pa cd td]) := hD
    refine W.eq (g2 := F0 m 1105 ls [.int (nI 0)]) rfl ?_
    refine lv_istore (lv' := [(5, .int (nI 0)), (4, .int (nI (6 * j))), (0, .ref sA), (1, .ref x), (2, .ref (mo 0)), (3, .ref ou)]) hx hb dL_law_1105 hl (by decide) rfl (fun ls hl => ?_)
    refine lv_aload_n hx hb dL_law_1107 rfl (lv_at hl 4 rfl) ?_
    refine lw_rd hc hj 1 (by decide) hS 2 1 hl rfl rfl dL_law_1108 dL_law_1109 dL_law_1111 (by decide) dL_law_1112 dL_law_1113 e1 ?_
    refine q_VBE (Bs := [wU C ou (suL b a1), wF C x nw tr hq iq tt sC ba z b b2 ph r n t f v o y cd, mF C mo (nI n) (nI y) tw pl fl tl v2 o2 b gm pa cd td]) (cs := [mF C mo (nI n) (nI y) tw pl fl tl v2 o2 b gm pa cd td]) (As := [.int (nI a1)]) (rest := []) ⟨hx, hb, hml, hown, hts⟩ (M_sum l C mo (nI n) (nI y) tw pl fl tl v2 o2 b a1 gm pa cd td (by omega)).one (cwV 1 hts gL_law_X5_sum rfl rfl rfl (by decide +kernel) ⟨Nat.le_of_ble_eq_true rfl, Nat.le_of_ble_eq_true rfl⟩) hK hV hE hP hD hS (fun _ h => h) [2] (by decide) rfl 76 rfl rfl rfl rfl hl.1 rfl (Nat.le_of_ble_eq_true rfl) dL_law_1114 (lw_c0 hce hj hL) (lw_s0 hsl hj hL) (fun r w1 H locs hQ hF hS => ?_)
    obtain ⟨rfl, rfl⟩ := hQ
    obtain ⟨hP, hD⟩ := hF [mF C mo (nI n) (nI y) (nI 0) pl fl tl v2 o2 b gm pa cd td] (flat_one _).symm rfl
    have hP : va_P C.1 vwCl (List.flatten [wU C ou (suL b a1), wF C x nw tr hq iq tt sC ba z b b2 ph r n t f v o y cd, mF C mo (nI n) (nI y) (nI 0) pl fl tl v2 o2 b gm pa cd td]) H := hP
    have hD : va_D (lwA s) (List.flatten [wU C ou (suL b a1), wF C x nw tr hq iq tt sC ba z b b2 ph r n t f v o y cd, mF C mo (nI n) (nI y) (nI 0) pl fl tl v2 o2 b gm pa cd td]) := hD
    refine W.eq (g2 := F0 m 1117 ls [.long (suL b a1)]) rfl ?_
    refine lv_lstore (lv' := [(6, .long (suL b a1)), (5, .int (nI 0)), (4, .int (nI (6 * j))), (0, .ref sA), (1, .ref x), (2, .ref (mo 0)), (3, .ref ou)]) hx hb dL_law_1117 hl (by decide) rfl (fun ls hl => ?_)
    have hP : va_P C.1 vwCl (List.flatten [wU C ou (suL b a1), wF C x nw tr hq iq tt sC ba z b b2 ph r n t f v o y cd, mF C mo (nI n) (nI y) (nI 0) pl fl tl v2 o2 b gm pa cd td]) H := hP
    have hD : va_D (lwA s) (List.flatten [wU C ou (suL b a1), wF C x nw tr hq iq tt sC ba z b b2 ph r n t f v o y cd, mF C mo (nI n) (nI y) (nI 0) pl fl tl v2 o2 b gm pa cd td]) := hD
    exact lw_tailL hc hj K ⟨hok, hph, hfr, hy60, hcd, hpa⟩ (by omega) (by omega) hP hD hS hl 5 rfl 1 rfl 6 rfl 0 rfl [2, 3, 4, 5, 6] rfl dL_law_1119 dL_law_1120 dL_law_1123 dL_law_1125 dL_law_1130 dL_law_1132 dL_law_1135 dL_law_1136 dL_law_1137 dL_law_1138 dL_law_1140 dL_law_1141 dL_law_1146 (by decide)
end LawCasesd
