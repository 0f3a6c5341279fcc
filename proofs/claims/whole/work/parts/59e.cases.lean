/-! the law, case after case: setting, choice, ifPlayed, bestRule, giftFor, evenness, digest -/
section LawCasese
variable {p : Program} {l : Launch} {e : Env} {s : State} {m : MethodId} {below : List Frame} {meth : Method} {c : Code} {Q : State → Prop} {C : q_C} {sA L x ou sC j : Nat} {xs : Nat → Int32} {nw tr hq iq tt mo : Nat → Nat} {ba : Nat → Nat → Nat}
set_option maxHeartbeats 4000000 in
set_option maxRecDepth 100000 in
theorem lw_setting (hc : lwC p l s m meth c C sA L xs) (hj : 6 * j + 6 ≤ L) (K : lwAt p l e s m below meth c Q C sA x ou sC nw tr hq iq tt ba mo j 1507 (j + 1)) : lwAt p l e s m below meth c Q C sA x ou sC nw tr hq iq tt ba mo j 1149 j := by
  intro x0 z b b2 ph r n t f v o y cd tw pl fl tl v2 o2 gm pa td cells slots H locs ls okx hce hsl hP hD hS hl
  obtain ⟨hok, hph, hfr, hy60, hcd, hpa⟩ := okx
  have hB : OkB b := hok.1
  have hU : sumU b ≤ 9999 := hok.2
  have hr6 : r < 6 := hph.1
  have hn6 : n ≤ 6 := hph.2.1
  have hc0 := hc
  obtain ⟨hx, hb, hml, hown, hts, hK, hV, hE, hX, hsb, hL, hl0⟩ := hc0
  rcases cl1 (xs (6 * j + 1)) (lo := 0) (hi := 3) (by decide) (by decide) with h0 | ⟨a1, e1, ha1, hb1⟩
  · skip
    refine lv_aload_n hx hb dL_law_1149 rfl (lv_at hl 2 rfl) ?_
    refine lw_rd hc hj 1 (by decide) hS 1 0 hl rfl rfl dL_law_1150 dL_law_1151 dL_law_1153 (by decide) dL_law_1154 dL_law_1155 rfl ?_
    refine lv_aload_n hx hb dL_law_1156 rfl (lv_at hl 4 rfl) ?_
    refine q_SWB1 (Bs := [wU C ou x0, wF C x nw tr hq iq tt sC ba z b b2 ph r n t f v o y cd, mF C mo (nI n) (nI y) tw pl fl tl v2 o2 b gm pa cd td]) (cs := [wU C ou x0, wF C x nw tr hq iq tt sC ba z b b2 ph r n t f v o y cd]) (As := [.ref x, .int (xs (6 * j + 1)), .ref ou]) (rest := []) ⟨hx, hb, hml, hown, hts⟩ (W1_setting l hl0 C x (xs (6 * j + 1)) nw tr hq iq tt sC ba z b b2 r n ph t f v o y cd ou x0 h0) (vx_cwSW 3 hts gL_law_L_setting rfl rfl rfl (by decide +kernel) ⟨Nat.le_of_ble_eq_true rfl, Nat.le_of_ble_eq_true rfl⟩) hK hV hE hP hD hS (fun _ h => h) [0, 1] (by decide) rfl rfl hl.1 rfl (Nat.le_of_ble_eq_true rfl) dL_law_1157 (lw_c1 hce hj hL) (lw_s1 hsl hj hL) (fun r w1 H locs hQ hF hS => ?_)
    obtain ⟨rfl, rfl⟩ := hQ
    obtain ⟨hP, hD⟩ := hF [wU C ou x0, wF C x nw tr hq iq tt sC ba z b b2 ph r n t f v o y cd] rfl rfl
    have hP : va_P C.1 vwCl (List.flatten [wU C ou x0, wF C x nw tr hq iq tt sC ba z b b2 ph r n t f v o y cd, mF C mo (nI n) (nI y) tw pl fl tl v2 o2 b gm pa cd td]) H := hP
    have hD : va_D (lwA s) (List.flatten [wU C ou x0, wF C x nw tr hq iq tt sC ba z b b2 ph r n t f v o y cd, mF C mo (nI n) (nI y) tw pl fl tl v2 o2 b gm pa cd td]) := hD
    refine W.eq (g2 := F0 m 1160 ls [.int (nI 1)]) rfl ?_
    have hce : cells + 1 ≤ 100 + j + 1 := Nat.succ_le_succ hce
    have hsl : slots + 6 ≤ 2000 + 6 * j + 6 := Nat.add_le_add_right hsl 6
    refine lv_istore (lv' := [(5, .int (nI 1)), (4, .int (nI (6 * j))), (0, .ref sA), (1, .ref x), (2, .ref (mo 0)), (3, .ref ou)]) hx hb dL_law_1160 hl (by decide) rfl (fun ls hl => ?_)
    refine lv_aload_n hx hb dL_law_1162 rfl (lv_at hl 4 rfl) ?_
    refine lw_rd hc hj 1 (by decide) hS 2 1 hl rfl rfl dL_law_1163 dL_law_1164 dL_law_1166 (by decide) dL_law_1167 dL_law_1168 rfl ?_
    refine q_VBE (Bs := [wU C ou x0, wF C x nw tr hq iq tt sC ba z b b2 ph r n t f v o y cd, mF C mo (nI n) (nI y) tw pl fl tl v2 o2 b gm pa cd td]) (cs := [mF C mo (nI n) (nI y) tw pl fl tl v2 o2 b gm pa cd td]) (As := [.int (xs (6 * j + 1))]) (rest := []) ⟨hx, hb, hml, hown, hts⟩ (M1_setting l C mo (nI n) (nI y) tw pl fl tl v2 o2 (xs (6 * j + 1)) b gm pa cd td h0).one (cwV 1 hts gL_law_X5_setting rfl rfl rfl (by decide +kernel) ⟨Nat.le_of_ble_eq_true rfl, Nat.le_of_ble_eq_true rfl⟩) hK hV hE hP hD hS (fun _ h => h) [2] (by decide) rfl 76 rfl rfl rfl rfl hl.1 rfl (Nat.le_of_ble_eq_true rfl) dL_law_1169 (lw_c0 hce hj hL) (lw_s0 hsl hj hL) (fun r w1 H locs hQ hF hS => ?_)
    obtain ⟨rfl, rfl⟩ := hQ
    obtain ⟨hP, hD⟩ := hF [mF C mo (nI n) (nI y) (nI 1) pl fl tl v2 o2 b gm pa cd td] (flat_one _).symm rfl
    have hP : va_P C.1 vwCl (List.flatten [wU C ou x0, wF C x nw tr hq iq tt sC ba z b b2 ph r n t f v o y cd, mF C mo (nI n) (nI y) (nI 1) pl fl tl v2 o2 b gm pa cd td]) H := hP
    have hD : va_D (lwA s) (List.flatten [wU C ou x0, wF C x nw tr hq iq tt sC ba z b b2 ph r n t f v o y cd, mF C mo (nI n) (nI y) (nI 1) pl fl tl v2 o2 b gm pa cd td]) := hD
    refine W.eq (g2 := F0 m 1172 ls [.int (nI 0)]) rfl ?_
    refine lv_istore (lv' := [(6, .int (nI 0)), (5, .int (nI 1)), (4, .int (nI (6 * j))), (0, .ref sA), (1, .ref x), (2, .ref (mo 0)), (3, .ref ou)]) hx hb dL_law_1172 hl (by decide) rfl (fun ls hl => ?_)
    have hP : va_P C.1 vwCl (List.flatten [wU C ou x0, wF C x nw tr hq iq tt sC ba z b b2 ph r n t f v o y cd, mF C mo (nI n) (nI y) (nI 1) pl fl tl v2 o2 b gm pa cd td]) H := hP
    have hD : va_D (lwA s) (List.flatten [wU C ou x0, wF C x nw tr hq iq tt sC ba z b b2 ph r n t f v o y cd, mF C mo (nI n) (nI y) (nI 1) pl fl tl v2 o2 b gm pa cd td]) := hD
    exact lw_tailT hc hj K 1 (by decide) (by decide) ⟨hok, hph, hfr, hy60, hcd, hpa⟩ (by omega) (by omega) hP hD hS hl 5 rfl 1 rfl [2, 3, 4, 5, 6] rfl 28 (by decide) dL_law_1174 dL_law_1175 dL_law_1178 dL_law_1180 dL_law_1185 dL_law_1187 dL_law_1202 (by decide)
  · skip
    refine lv_aload_n hx hb dL_law_1149 rfl (lv_at hl 2 rfl) ?_
    refine lw_rd hc hj 1 (by decide) hS 1 0 hl rfl rfl dL_law_1150 dL_law_1151 dL_law_1153 (by decide) dL_law_1154 dL_law_1155 e1 ?_
    refine lv_aload_n hx hb dL_law_1156 rfl (lv_at hl 4 rfl) ?_
    refine q_SWB (Bs := [wU C ou x0, wF C x nw tr hq iq tt sC ba z b b2 ph r n t f v o y cd, mF C mo (nI n) (nI y) tw pl fl tl v2 o2 b gm pa cd td]) (cs := [wU C ou x0, wF C x nw tr hq iq tt sC ba z b b2 ph r n t f v o y cd]) (As := [.ref x, .int (nI a1), .ref ou]) (rest := []) ⟨hx, hb, hml, hown, hts⟩ (W_setting l C x nw tr hq iq tt sC z b a1 ba b2 r n ph t f v o y cd ou x0 (by omega)) (vx_cwSW 3 hts gL_law_L_setting rfl rfl rfl (by decide +kernel) ⟨Nat.le_of_ble_eq_true rfl, Nat.le_of_ble_eq_true rfl⟩) hK hV hE hP hD hS (fun _ h => h) [0, 1] (by decide) rfl rfl hl.1 rfl (Nat.le_of_ble_eq_true rfl) dL_law_1157 (lw_c0 hce hj hL) (lw_s0 hsl hj hL) (fun r w1 H locs hQ hF hS => ?_)
    obtain ⟨rfl, rfl⟩ := hQ
    obtain ⟨hP, hD⟩ := hF [wU C ou ((nI (bs b a1)).toInt64), wF C x nw tr hq iq tt sC ba z b b2 ph r n t f v o y cd] rfl rfl
    have hP : va_P C.1 vwCl (List.flatten [wU C ou ((nI (bs b a1)).toInt64), wF C x nw tr hq iq tt sC ba z b b2 ph r n t f v o y cd, mF C mo (nI n) (nI y) tw pl fl tl v2 o2 b gm pa cd td]) H := hP
    have hD : va_D (lwA s) (List.flatten [wU C ou ((nI (bs b a1)).toInt64), wF C x nw tr hq iq tt sC ba z b b2 ph r n t f v o y cd, mF C mo (nI n) (nI y) tw pl fl tl v2 o2 b gm pa cd td]) := hD
    refine W.eq (g2 := F0 m 1160 ls [.int (nI 0)]) rfl ?_
    refine lv_istore (lv' := [(5, .int (nI 0)), (4, .int (nI (6 * j))), (0, .ref sA), (1, .ref x), (2, .ref (mo 0)), (3, .ref ou)]) hx hb dL_law_1160 hl (by decide) rfl (fun ls hl => ?_)
    refine lv_aload_n hx hb dL_law_1162 rfl (lv_at hl 4 rfl) ?_
    refine lw_rd hc hj 1 (by decide) hS 2 1 hl rfl rfl dL_law_1163 dL_law_1164 dL_law_1166 (by decide) dL_law_1167 dL_law_1168 e1 ?_
    refine q_VBE (Bs := [wU C ou ((nI (bs b a1)).toInt64), wF C x nw tr hq iq tt sC ba z b b2 ph r n t f v o y cd, mF C mo (nI n) (nI y) tw pl fl tl v2 o2 b gm pa cd td]) (cs := [mF C mo (nI n) (nI y) tw pl fl tl v2 o2 b gm pa cd td]) (As := [.int (nI a1)]) (rest := []) ⟨hx, hb, hml, hown, hts⟩ (M_setting l C mo (nI n) (nI y) tw pl fl tl v2 o2 b a1 gm pa cd td (by omega)).one (cwV 1 hts gL_law_X5_setting rfl rfl rfl (by decide +kernel) ⟨Nat.le_of_ble_eq_true rfl, Nat.le_of_ble_eq_true rfl⟩) hK hV hE hP hD hS (fun _ h => h) [2] (by decide) rfl 76 rfl rfl rfl rfl hl.1 rfl (Nat.le_of_ble_eq_true rfl) dL_law_1169 (lw_c0 hce hj hL) (lw_s0 hsl hj hL) (fun r w1 H locs hQ hF hS => ?_)
    obtain ⟨rfl, rfl⟩ := hQ
    obtain ⟨hP, hD⟩ := hF [mF C mo (nI n) (nI y) (nI 0) pl fl tl v2 o2 b gm pa cd td] (flat_one _).symm rfl
    have hP : va_P C.1 vwCl (List.flatten [wU C ou ((nI (bs b a1)).toInt64), wF C x nw tr hq iq tt sC ba z b b2 ph r n t f v o y cd, mF C mo (nI n) (nI y) (nI 0) pl fl tl v2 o2 b gm pa cd td]) H := hP
    have hD : va_D (lwA s) (List.flatten [wU C ou ((nI (bs b a1)).toInt64), wF C x nw tr hq iq tt sC ba z b b2 ph r n t f v o y cd, mF C mo (nI n) (nI y) (nI 0) pl fl tl v2 o2 b gm pa cd td]) := hD
    refine W.eq (g2 := F0 m 1172 ls [.int (nI (bs b a1))]) rfl ?_
    refine lv_istore (lv' := [(6, .int (nI (bs b a1))), (5, .int (nI 0)), (4, .int (nI (6 * j))), (0, .ref sA), (1, .ref x), (2, .ref (mo 0)), (3, .ref ou)]) hx hb dL_law_1172 hl (by decide) rfl (fun ls hl => ?_)
    have hP : va_P C.1 vwCl (List.flatten [wU C ou ((nI (bs b a1)).toInt64), wF C x nw tr hq iq tt sC ba z b b2 ph r n t f v o y cd, mF C mo (nI n) (nI y) (nI 0) pl fl tl v2 o2 b gm pa cd td]) H := hP
    have hD : va_D (lwA s) (List.flatten [wU C ou ((nI (bs b a1)).toInt64), wF C x nw tr hq iq tt sC ba z b b2 ph r n t f v o y cd, mF C mo (nI n) (nI y) (nI 0) pl fl tl v2 o2 b gm pa cd td]) := hD
    exact lw_tailI hc hj K ⟨hok, hph, hfr, hy60, hcd, hpa⟩ (by omega) (by omega) hP hD hS hl 5 rfl 1 rfl 6 rfl 0 rfl [2, 3, 4, 5, 6] rfl dL_law_1174 dL_law_1175 dL_law_1178 dL_law_1180 dL_law_1185 dL_law_1187 dL_law_1190 dL_law_1191 dL_law_1192 dL_law_1193 dL_law_1195 dL_law_1196 dL_law_1197 dL_law_1202 (by decide)
set_option maxHeartbeats 4000000 in
set_option maxRecDepth 100000 in
theorem lw_choice (hc : lwC p l s m meth c C sA L xs) (hj : 6 * j + 6 ≤ L) (K : lwAt p l e s m below meth c Q C sA x ou sC nw tr hq iq tt ba mo j 1507 (j + 1)) : lwAt p l e s m below meth c Q C sA x ou sC nw tr hq iq tt ba mo j 1205 j := by
  intro x0 z b b2 ph r n t f v o y cd tw pl fl tl v2 o2 gm pa td cells slots H locs ls okx hce hsl hP hD hS hl
  obtain ⟨hok, hph, hfr, hy60, hcd, hpa⟩ := okx
  have hB : OkB b := hok.1
  have hU : sumU b ≤ 9999 := hok.2
  have hr6 : r < 6 := hph.1
  have hn6 : n ≤ 6 := hph.2.1
  have hc0 := hc
  obtain ⟨hx, hb, hml, hown, hts, hK, hV, hE, hX, hsb, hL, hl0⟩ := hc0
  rcases cl1 (xs (6 * j + 1)) (lo := 0) (hi := 2) (by decide) (by decide) with h0 | ⟨a1, e1, ha1, hb1⟩
  · skip
    refine lv_aload_n hx hb dL_law_1205 rfl (lv_at hl 2 rfl) ?_
    refine lw_rd hc hj 1 (by decide) hS 1 0 hl rfl rfl dL_law_1206 dL_law_1207 dL_law_1209 (by decide) dL_law_1210 dL_law_1211 rfl ?_
    refine lv_aload_n hx hb dL_law_1212 rfl (lv_at hl 4 rfl) ?_
    refine q_SWB1 (Bs := [wU C ou x0, wF C x nw tr hq iq tt sC ba z b b2 ph r n t f v o y cd, mF C mo (nI n) (nI y) tw pl fl tl v2 o2 b gm pa cd td]) (cs := [wU C ou x0, wF C x nw tr hq iq tt sC ba z b b2 ph r n t f v o y cd]) (As := [.ref x, .int (xs (6 * j + 1)), .ref ou]) (rest := []) ⟨hx, hb, hml, hown, hts⟩ (W1_choice l hl0 C x (xs (6 * j + 1)) nw tr hq iq tt sC ba z b b2 r n ph t f v o y cd ou x0 h0) (vx_cwSW 3 hts gL_law_L_choice rfl rfl rfl (by decide +kernel) ⟨Nat.le_of_ble_eq_true rfl, Nat.le_of_ble_eq_true rfl⟩) hK hV hE hP hD hS (fun _ h => h) [0, 1] (by decide) rfl rfl hl.1 rfl (Nat.le_of_ble_eq_true rfl) dL_law_1213 (lw_c1 hce hj hL) (lw_s1 hsl hj hL) (fun r w1 H locs hQ hF hS => ?_)
    obtain ⟨rfl, rfl⟩ := hQ
    obtain ⟨hP, hD⟩ := hF [wU C ou x0, wF C x nw tr hq iq tt sC ba z b b2 ph r n t f v o y cd] rfl rfl
    have hP : va_P C.1 vwCl (List.flatten [wU C ou x0, wF C x nw tr hq iq tt sC ba z b b2 ph r n t f v o y cd, mF C mo (nI n) (nI y) tw pl fl tl v2 o2 b gm pa cd td]) H := hP
    have hD : va_D (lwA s) (List.flatten [wU C ou x0, wF C x nw tr hq iq tt sC ba z b b2 ph r n t f v o y cd, mF C mo (nI n) (nI y) tw pl fl tl v2 o2 b gm pa cd td]) := hD
    refine W.eq (g2 := F0 m 1216 ls [.int (nI 1)]) rfl ?_
    have hce : cells + 1 ≤ 100 + j + 1 := Nat.succ_le_succ hce
    have hsl : slots + 6 ≤ 2000 + 6 * j + 6 := Nat.add_le_add_right hsl 6
    refine lv_istore (lv' := [(5, .int (nI 1)), (4, .int (nI (6 * j))), (0, .ref sA), (1, .ref x), (2, .ref (mo 0)), (3, .ref ou)]) hx hb dL_law_1216 hl (by decide) rfl (fun ls hl => ?_)
    refine lv_aload_n hx hb dL_law_1218 rfl (lv_at hl 4 rfl) ?_
    refine lw_rd hc hj 1 (by decide) hS 2 1 hl rfl rfl dL_law_1219 dL_law_1220 dL_law_1222 (by decide) dL_law_1223 dL_law_1224 rfl ?_
    refine q_VBE (Bs := [wU C ou x0, wF C x nw tr hq iq tt sC ba z b b2 ph r n t f v o y cd, mF C mo (nI n) (nI y) tw pl fl tl v2 o2 b gm pa cd td]) (cs := [mF C mo (nI n) (nI y) tw pl fl tl v2 o2 b gm pa cd td]) (As := [.int (xs (6 * j + 1))]) (rest := []) ⟨hx, hb, hml, hown, hts⟩ (M1_choice l C mo (nI n) (nI y) tw pl fl tl v2 o2 (xs (6 * j + 1)) b gm pa cd td h0).one (cwV 1 hts gL_law_X5_choice rfl rfl rfl (by decide +kernel) ⟨Nat.le_of_ble_eq_true rfl, Nat.le_of_ble_eq_true rfl⟩) hK hV hE hP hD hS (fun _ h => h) [2] (by decide) rfl 76 rfl rfl rfl rfl hl.1 rfl (Nat.le_of_ble_eq_true rfl) dL_law_1225 (lw_c0 hce hj hL) (lw_s0 hsl hj hL) (fun r w1 H locs hQ hF hS => ?_)
    obtain ⟨rfl, rfl⟩ := hQ
    obtain ⟨hP, hD⟩ := hF [mF C mo (nI n) (nI y) (nI 1) pl fl tl v2 o2 b gm pa cd td] (flat_one _).symm rfl
    have hP : va_P C.1 vwCl (List.flatten [wU C ou x0, wF C x nw tr hq iq tt sC ba z b b2 ph r n t f v o y cd, mF C mo (nI n) (nI y) (nI 1) pl fl tl v2 o2 b gm pa cd td]) H := hP
    have hD : va_D (lwA s) (List.flatten [wU C ou x0, wF C x nw tr hq iq tt sC ba z b b2 ph r n t f v o y cd, mF C mo (nI n) (nI y) (nI 1) pl fl tl v2 o2 b gm pa cd td]) := hD
    refine W.eq (g2 := F0 m 1228 ls [.int (nI 0)]) rfl ?_
    refine lv_istore (lv' := [(6, .int (nI 0)), (5, .int (nI 1)), (4, .int (nI (6 * j))), (0, .ref sA), (1, .ref x), (2, .ref (mo 0)), (3, .ref ou)]) hx hb dL_law_1228 hl (by decide) rfl (fun ls hl => ?_)
    have hP : va_P C.1 vwCl (List.flatten [wU C ou x0, wF C x nw tr hq iq tt sC ba z b b2 ph r n t f v o y cd, mF C mo (nI n) (nI y) (nI 1) pl fl tl v2 o2 b gm pa cd td]) H := hP
    have hD : va_D (lwA s) (List.flatten [wU C ou x0, wF C x nw tr hq iq tt sC ba z b b2 ph r n t f v o y cd, mF C mo (nI n) (nI y) (nI 1) pl fl tl v2 o2 b gm pa cd td]) := hD
    exact lw_tailT hc hj K 1 (by decide) (by decide) ⟨hok, hph, hfr, hy60, hcd, hpa⟩ (by omega) (by omega) hP hD hS hl 5 rfl 1 rfl [2, 3, 4, 5, 6] rfl 28 (by decide) dL_law_1230 dL_law_1231 dL_law_1234 dL_law_1236 dL_law_1241 dL_law_1243 dL_law_1258 (by decide)
  · skip
    refine lv_aload_n hx hb dL_law_1205 rfl (lv_at hl 2 rfl) ?_
    refine lw_rd hc hj 1 (by decide) hS 1 0 hl rfl rfl dL_law_1206 dL_law_1207 dL_law_1209 (by decide) dL_law_1210 dL_law_1211 e1 ?_
    refine lv_aload_n hx hb dL_law_1212 rfl (lv_at hl 4 rfl) ?_
    refine q_SWB (Bs := [wU C ou x0, wF C x nw tr hq iq tt sC ba z b b2 ph r n t f v o y cd, mF C mo (nI n) (nI y) tw pl fl tl v2 o2 b gm pa cd td]) (cs := [wU C ou x0, wF C x nw tr hq iq tt sC ba z b b2 ph r n t f v o y cd]) (As := [.ref x, .int (nI a1), .ref ou]) (rest := []) ⟨hx, hb, hml, hown, hts⟩ (W_choice l C x nw tr hq iq tt sC z b t f v o a1 ba b2 r n ph y cd ou x0 hB (by omega) hfr) (vx_cwSW 3 hts gL_law_L_choice rfl rfl rfl (by decide +kernel) ⟨Nat.le_of_ble_eq_true rfl, Nat.le_of_ble_eq_true rfl⟩) hK hV hE hP hD hS (fun _ h => h) [0, 1] (by decide) rfl rfl hl.1 rfl (Nat.le_of_ble_eq_true rfl) dL_law_1213 (lw_c0 hce hj hL) (lw_s0 hsl hj hL) (fun r w1 H locs hQ hF hS => ?_)
    obtain ⟨zq3, vq3, oq3, rfl, rfl⟩ := hQ
    obtain ⟨hP, hD⟩ := hF [wU C ou ((nI (choN b (idxT b) a1)).toInt64), wF C x nw tr hq iq tt sC ba zq3 b b2 ph r n (idxT b) (fun _ => 1) vq3 oq3 y cd] rfl rfl
    have hP : va_P C.1 vwCl (List.flatten [wU C ou ((nI (choN b (idxT b) a1)).toInt64), wF C x nw tr hq iq tt sC ba zq3 b b2 ph r n (idxT b) (fun _ => 1) vq3 oq3 y cd, mF C mo (nI n) (nI y) tw pl fl tl v2 o2 b gm pa cd td]) H := hP
    have hD : va_D (lwA s) (List.flatten [wU C ou ((nI (choN b (idxT b) a1)).toInt64), wF C x nw tr hq iq tt sC ba zq3 b b2 ph r n (idxT b) (fun _ => 1) vq3 oq3 y cd, mF C mo (nI n) (nI y) tw pl fl tl v2 o2 b gm pa cd td]) := hD
    refine W.eq (g2 := F0 m 1216 ls [.int (nI 0)]) rfl ?_
    refine lv_istore (lv' := [(5, .int (nI 0)), (4, .int (nI (6 * j))), (0, .ref sA), (1, .ref x), (2, .ref (mo 0)), (3, .ref ou)]) hx hb dL_law_1216 hl (by decide) rfl (fun ls hl => ?_)
    refine lv_aload_n hx hb dL_law_1218 rfl (lv_at hl 4 rfl) ?_
    refine lw_rd hc hj 1 (by decide) hS 2 1 hl rfl rfl dL_law_1219 dL_law_1220 dL_law_1222 (by decide) dL_law_1223 dL_law_1224 e1 ?_
    refine q_VBE (Bs := [wU C ou ((nI (choN b (idxT b) a1)).toInt64), wF C x nw tr hq iq tt sC ba zq3 b b2 ph r n (idxT b) (fun _ => 1) vq3 oq3 y cd, mF C mo (nI n) (nI y) tw pl fl tl v2 o2 b gm pa cd td]) (cs := [mF C mo (nI n) (nI y) tw pl fl tl v2 o2 b gm pa cd td]) (As := [.int (nI a1)]) (rest := []) ⟨hx, hb, hml, hown, hts⟩ (M_choice l C mo (nI n) (nI y) tw pl fl tl v2 o2 b a1 gm pa cd td hB (by omega)).one (cwV 1 hts gL_law_X5_choice rfl rfl rfl (by decide +kernel) ⟨Nat.le_of_ble_eq_true rfl, Nat.le_of_ble_eq_true rfl⟩) hK hV hE hP hD hS (fun _ h => h) [2] (by decide) rfl 76 rfl rfl rfl rfl hl.1 rfl (Nat.le_of_ble_eq_true rfl) dL_law_1225 (lw_c0 hce hj hL) (lw_s0 hsl hj hL) (fun r w1 H locs hQ hF hS => ?_)
    obtain ⟨vq4, oq4, rfl, rfl⟩ := hQ
    obtain ⟨hP, hD⟩ := hF [mF C mo (nI n) (nI y) (nI 0) pl fl tl vq4 oq4 b gm pa cd td] (flat_one _).symm rfl
    have hP : va_P C.1 vwCl (List.flatten [wU C ou ((nI (choN b (idxT b) a1)).toInt64), wF C x nw tr hq iq tt sC ba zq3 b b2 ph r n (idxT b) (fun _ => 1) vq3 oq3 y cd, mF C mo (nI n) (nI y) (nI 0) pl fl tl vq4 oq4 b gm pa cd td]) H := hP
    have hD : va_D (lwA s) (List.flatten [wU C ou ((nI (choN b (idxT b) a1)).toInt64), wF C x nw tr hq iq tt sC ba zq3 b b2 ph r n (idxT b) (fun _ => 1) vq3 oq3 y cd, mF C mo (nI n) (nI y) (nI 0) pl fl tl vq4 oq4 b gm pa cd td]) := hD
    refine W.eq (g2 := F0 m 1228 ls [.int (nI (choN b (idxT b) a1))]) rfl ?_
    refine lv_istore (lv' := [(6, .int (nI (choN b (idxT b) a1))), (5, .int (nI 0)), (4, .int (nI (6 * j))), (0, .ref sA), (1, .ref x), (2, .ref (mo 0)), (3, .ref ou)]) hx hb dL_law_1228 hl (by decide) rfl (fun ls hl => ?_)
    have hP : va_P C.1 vwCl (List.flatten [wU C ou ((nI (choN b (idxT b) a1)).toInt64), wF C x nw tr hq iq tt sC ba zq3 b b2 ph r n (idxT b) (fun _ => 1) vq3 oq3 y cd, mF C mo (nI n) (nI y) (nI 0) pl fl tl vq4 oq4 b gm pa cd td]) H := hP
    have hD : va_D (lwA s) (List.flatten [wU C ou ((nI (choN b (idxT b) a1)).toInt64), wF C x nw tr hq iq tt sC ba zq3 b b2 ph r n (idxT b) (fun _ => 1) vq3 oq3 y cd, mF C mo (nI n) (nI y) (nI 0) pl fl tl vq4 oq4 b gm pa cd td]) := hD
    exact lw_tailI hc hj K ⟨hok, hph, frB_1 b, hy60, hcd, hpa⟩ (by omega) (by omega) hP hD hS hl 5 rfl 1 rfl 6 rfl 0 rfl [2, 3, 4, 5, 6] rfl dL_law_1230 dL_law_1231 dL_law_1234 dL_law_1236 dL_law_1241 dL_law_1243 dL_law_1246 dL_law_1247 dL_law_1248 dL_law_1249 dL_law_1251 dL_law_1252 dL_law_1253 dL_law_1258 (by decide)
set_option maxHeartbeats 4000000 in
set_option maxRecDepth 100000 in
theorem lw_ifPlayed (hc : lwC p l s m meth c C sA L xs) (hj : 6 * j + 6 ≤ L) (K : lwAt p l e s m below meth c Q C sA x ou sC nw tr hq iq tt ba mo j 1507 (j + 1)) : lwAt p l e s m below meth c Q C sA x ou sC nw tr hq iq tt ba mo j 1261 j := by
  intro x0 z b b2 ph r n t f v o y cd tw pl fl tl v2 o2 gm pa td cells slots H locs ls okx hce hsl hP hD hS hl
  obtain ⟨hok, hph, hfr, hy60, hcd, hpa⟩ := okx
  have hB : OkB b := hok.1
  have hU : sumU b ≤ 9999 := hok.2
  have hr6 : r < 6 := hph.1
  have hn6 : n ≤ 6 := hph.2.1
  have hc0 := hc
  obtain ⟨hx, hb, hml, hown, hts, hK, hV, hE, hX, hsb, hL, hl0⟩ := hc0
  rcases cl1 (xs (6 * j + 1)) (lo := 0) (hi := 2) (by decide) (by decide) with h0 | ⟨a1, e1, ha1, hb1⟩
  · skip
    refine lv_aload_n hx hb dL_law_1261 rfl (lv_at hl 2 rfl) ?_
    refine lw_rd hc hj 1 (by decide) hS 1 0 hl rfl rfl dL_law_1262 dL_law_1263 dL_law_1265 (by decide) dL_law_1266 dL_law_1267 rfl ?_
    refine lw_rd hc hj 2 (by decide) hS 1 0 hl rfl rfl dL_law_1268 dL_law_1269 dL_law_1271 (by decide) dL_law_1272 dL_law_1273 rfl ?_
    refine lv_aload_n hx hb dL_law_1274 rfl (lv_at hl 4 rfl) ?_
    refine q_SWB1 (Bs := [wU C ou x0, wF C x nw tr hq iq tt sC ba z b b2 ph r n t f v o y cd, mF C mo (nI n) (nI y) tw pl fl tl v2 o2 b gm pa cd td]) (cs := [wU C ou x0, wF C x nw tr hq iq tt sC ba z b b2 ph r n t f v o y cd]) (As := [.ref x, .int (xs (6 * j + 1)), .int (xs (6 * j + 2)), .ref ou]) (rest := []) ⟨hx, hb, hml, hown, hts⟩ (W1a_ifPlayed l hl0 C x (xs (6 * j + 1)) (xs (6 * j + 2)) nw tr hq iq tt sC ba z b b2 r n ph t f v o y cd ou x0 h0) (vx_cwSW 4 hts gL_law_L_ifPlayed rfl rfl rfl (by decide +kernel) ⟨Nat.le_of_ble_eq_true rfl, Nat.le_of_ble_eq_true rfl⟩) hK hV hE hP hD hS (fun _ h => h) [0, 1] (by decide) rfl rfl hl.1 rfl (Nat.le_of_ble_eq_true rfl) dL_law_1275 (lw_c1 hce hj hL) (lw_s1 hsl hj hL) (fun r w1 H locs hQ hF hS => ?_)
    obtain ⟨rfl, rfl⟩ := hQ
    obtain ⟨hP, hD⟩ := hF [wU C ou x0, wF C x nw tr hq iq tt sC ba z b b2 ph r n t f v o y cd] rfl rfl
    have hP : va_P C.1 vwCl (List.flatten [wU C ou x0, wF C x nw tr hq iq tt sC ba z b b2 ph r n t f v o y cd, mF C mo (nI n) (nI y) tw pl fl tl v2 o2 b gm pa cd td]) H := hP
    have hD : va_D (lwA s) (List.flatten [wU C ou x0, wF C x nw tr hq iq tt sC ba z b b2 ph r n t f v o y cd, mF C mo (nI n) (nI y) tw pl fl tl v2 o2 b gm pa cd td]) := hD
    refine W.eq (g2 := F0 m 1278 ls [.int (nI 1)]) rfl ?_
    have hce : cells + 1 ≤ 100 + j + 1 := Nat.succ_le_succ hce
    have hsl : slots + 6 ≤ 2000 + 6 * j + 6 := Nat.add_le_add_right hsl 6
    refine lv_istore (lv' := [(5, .int (nI 1)), (4, .int (nI (6 * j))), (0, .ref sA), (1, .ref x), (2, .ref (mo 0)), (3, .ref ou)]) hx hb dL_law_1278 hl (by decide) rfl (fun ls hl => ?_)
    refine lv_aload_n hx hb dL_law_1280 rfl (lv_at hl 4 rfl) ?_
    refine lw_rd hc hj 1 (by decide) hS 2 1 hl rfl rfl dL_law_1281 dL_law_1282 dL_law_1284 (by decide) dL_law_1285 dL_law_1286 rfl ?_
    refine lw_rd hc hj 2 (by decide) hS 2 1 hl rfl rfl dL_law_1287 dL_law_1288 dL_law_1290 (by decide) dL_law_1291 dL_law_1292 rfl ?_
    refine q_VBE (Bs := [wU C ou x0, wF C x nw tr hq iq tt sC ba z b b2 ph r n t f v o y cd, mF C mo (nI n) (nI y) tw pl fl tl v2 o2 b gm pa cd td]) (cs := [mF C mo (nI n) (nI y) tw pl fl tl v2 o2 b gm pa cd td]) (As := [.int (xs (6 * j + 1)), .int (xs (6 * j + 2))]) (rest := []) ⟨hx, hb, hml, hown, hts⟩ (M1_ifPlayed l C mo (nI n) (nI y) tw pl fl tl v2 o2 (xs (6 * j + 1)) (xs (6 * j + 2)) b gm pa cd td (by rw [h0, Bool.false_and])).one (cwV 2 hts gL_law_X5_ifPlayed rfl rfl rfl (by decide +kernel) ⟨Nat.le_of_ble_eq_true rfl, Nat.le_of_ble_eq_true rfl⟩) hK hV hE hP hD hS (fun _ h => h) [2] (by decide) rfl 76 rfl rfl rfl rfl hl.1 rfl (Nat.le_of_ble_eq_true rfl) dL_law_1293 (lw_c0 hce hj hL) (lw_s0 hsl hj hL) (fun r w1 H locs hQ hF hS => ?_)
    obtain ⟨rfl, rfl⟩ := hQ
    obtain ⟨hP, hD⟩ := hF [mF C mo (nI n) (nI y) (nI 1) pl fl tl v2 o2 b gm pa cd td] (flat_one _).symm rfl
    have hP : va_P C.1 vwCl (List.flatten [wU C ou x0, wF C x nw tr hq iq tt sC ba z b b2 ph r n t f v o y cd, mF C mo (nI n) (nI y) (nI 1) pl fl tl v2 o2 b gm pa cd td]) H := hP
    have hD : va_D (lwA s) (List.flatten [wU C ou x0, wF C x nw tr hq iq tt sC ba z b b2 ph r n t f v o y cd, mF C mo (nI n) (nI y) (nI 1) pl fl tl v2 o2 b gm pa cd td]) := hD
    refine W.eq (g2 := F0 m 1296 ls [.long (lN 0)]) rfl ?_
    refine lv_lstore (lv' := [(6, .long (lN 0)), (5, .int (nI 1)), (4, .int (nI (6 * j))), (0, .ref sA), (1, .ref x), (2, .ref (mo 0)), (3, .ref ou)]) hx hb dL_law_1296 hl (by decide) rfl (fun ls hl => ?_)
    have hP : va_P C.1 vwCl (List.flatten [wU C ou x0, wF C x nw tr hq iq tt sC ba z b b2 ph r n t f v o y cd, mF C mo (nI n) (nI y) (nI 1) pl fl tl v2 o2 b gm pa cd td]) H := hP
    have hD : va_D (lwA s) (List.flatten [wU C ou x0, wF C x nw tr hq iq tt sC ba z b b2 ph r n t f v o y cd, mF C mo (nI n) (nI y) (nI 1) pl fl tl v2 o2 b gm pa cd td]) := hD
    exact lw_tailT hc hj K 1 (by decide) (by decide) ⟨hok, hph, hfr, hy60, hcd, hpa⟩ (by omega) (by omega) hP hD hS hl 5 rfl 1 rfl [2, 3, 4, 5, 6] rfl 27 (by decide) dL_law_1298 dL_law_1299 dL_law_1302 dL_law_1304 dL_law_1309 dL_law_1311 dL_law_1325 (by decide)
  · skip
    rcases cl1 (xs (6 * j + 2)) (lo := 1) (hi := 99) (by decide) (by decide) with h1 | ⟨a2, e2, ha2, hb2⟩
    · skip
      refine lv_aload_n hx hb dL_law_1261 rfl (lv_at hl 2 rfl) ?_
      refine lw_rd hc hj 1 (by decide) hS 1 0 hl rfl rfl dL_law_1262 dL_law_1263 dL_law_1265 (by decide) dL_law_1266 dL_law_1267 e1 ?_
      refine lw_rd hc hj 2 (by decide) hS 1 0 hl rfl rfl dL_law_1268 dL_law_1269 dL_law_1271 (by decide) dL_law_1272 dL_law_1273 rfl ?_
      refine lv_aload_n hx hb dL_law_1274 rfl (lv_at hl 4 rfl) ?_
      refine q_SWB1 (Bs := [wU C ou x0, wF C x nw tr hq iq tt sC ba z b b2 ph r n t f v o y cd, mF C mo (nI n) (nI y) tw pl fl tl v2 o2 b gm pa cd td]) (cs := [wU C ou x0, wF C x nw tr hq iq tt sC ba z b b2 ph r n t f v o y cd]) (As := [.ref x, .int (nI a1), .int (xs (6 * j + 2)), .ref ou]) (rest := []) ⟨hx, hb, hml, hown, hts⟩ (W1b_ifPlayed l hl0 C x a1 (xs (6 * j + 2)) nw tr hq iq tt sC ba z b b2 r n ph t f v o y cd ou x0 (by omega) h1) (vx_cwSW 4 hts gL_law_L_ifPlayed rfl rfl rfl (by decide +kernel) ⟨Nat.le_of_ble_eq_true rfl, Nat.le_of_ble_eq_true rfl⟩) hK hV hE hP hD hS (fun _ h => h) [0, 1] (by decide) rfl rfl hl.1 rfl (Nat.le_of_ble_eq_true rfl) dL_law_1275 (lw_c1 hce hj hL) (lw_s1 hsl hj hL) (fun r w1 H locs hQ hF hS => ?_)
      obtain ⟨rfl, rfl⟩ := hQ
      obtain ⟨hP, hD⟩ := hF [wU C ou x0, wF C x nw tr hq iq tt sC ba z b b2 ph r n t f v o y cd] rfl rfl
      have hP : va_P C.1 vwCl (List.flatten [wU C ou x0, wF C x nw tr hq iq tt sC ba z b b2 ph r n t f v o y cd, mF C mo (nI n) (nI y) tw pl fl tl v2 o2 b gm pa cd td]) H := hP
      have hD : va_D (lwA s) (List.flatten [wU C ou x0, wF C x nw tr hq iq tt sC ba z b b2 ph r n t f v o y cd, mF C mo (nI n) (nI y) tw pl fl tl v2 o2 b gm pa cd td]) := hD
      refine W.eq (g2 := F0 m 1278 ls [.int (nI 1)]) rfl ?_
      have hce : cells + 1 ≤ 100 + j + 1 := Nat.succ_le_succ hce
      have hsl : slots + 6 ≤ 2000 + 6 * j + 6 := Nat.add_le_add_right hsl 6
      refine lv_istore (lv' := [(5, .int (nI 1)), (4, .int (nI (6 * j))), (0, .ref sA), (1, .ref x), (2, .ref (mo 0)), (3, .ref ou)]) hx hb dL_law_1278 hl (by decide) rfl (fun ls hl => ?_)
      refine lv_aload_n hx hb dL_law_1280 rfl (lv_at hl 4 rfl) ?_
      refine lw_rd hc hj 1 (by decide) hS 2 1 hl rfl rfl dL_law_1281 dL_law_1282 dL_law_1284 (by decide) dL_law_1285 dL_law_1286 e1 ?_
      refine lw_rd hc hj 2 (by decide) hS 2 1 hl rfl rfl dL_law_1287 dL_law_1288 dL_law_1290 (by decide) dL_law_1291 dL_law_1292 rfl ?_
      refine q_VBE (Bs := [wU C ou x0, wF C x nw tr hq iq tt sC ba z b b2 ph r n t f v o y cd, mF C mo (nI n) (nI y) tw pl fl tl v2 o2 b gm pa cd td]) (cs := [mF C mo (nI n) (nI y) tw pl fl tl v2 o2 b gm pa cd td]) (As := [.int (nI a1), .int (xs (6 * j + 2))]) (rest := []) ⟨hx, hb, hml, hown, hts⟩ (M1_ifPlayed l C mo (nI n) (nI y) tw pl fl tl v2 o2 (nI a1) (xs (6 * j + 2)) b gm pa cd td (by rw [h1, Bool.and_false])).one (cwV 2 hts gL_law_X5_ifPlayed rfl rfl rfl (by decide +kernel) ⟨Nat.le_of_ble_eq_true rfl, Nat.le_of_ble_eq_true rfl⟩) hK hV hE hP hD hS (fun _ h => h) [2] (by decide) rfl 76 rfl rfl rfl rfl hl.1 rfl (Nat.le_of_ble_eq_true rfl) dL_law_1293 (lw_c0 hce hj hL) (lw_s0 hsl hj hL) (fun r w1 H locs hQ hF hS => ?_)
      obtain ⟨rfl, rfl⟩ := hQ
      obtain ⟨hP, hD⟩ := hF [mF C mo (nI n) (nI y) (nI 1) pl fl tl v2 o2 b gm pa cd td] (flat_one _).symm rfl
      have hP : va_P C.1 vwCl (List.flatten [wU C ou x0, wF C x nw tr hq iq tt sC ba z b b2 ph r n t f v o y cd, mF C mo (nI n) (nI y) (nI 1) pl fl tl v2 o2 b gm pa cd td]) H := hP
      have hD : va_D (lwA s) (List.flatten [wU C ou x0, wF C x nw tr hq iq tt sC ba z b b2 ph r n t f v o y cd, mF C mo (nI n) (nI y) (nI 1) pl fl tl v2 o2 b gm pa cd td]) := hD
      refine W.eq (g2 := F0 m 1296 ls [.long (lN 0)]) rfl ?_
      refine lv_lstore (lv' := [(6, .long (lN 0)), (5, .int (nI 1)), (4, .int (nI (6 * j))), (0, .ref sA), (1, .ref x), (2, .ref (mo 0)), (3, .ref ou)]) hx hb dL_law_1296 hl (by decide) rfl (fun ls hl => ?_)
      have hP : va_P C.1 vwCl (List.flatten [wU C ou x0, wF C x nw tr hq iq tt sC ba z b b2 ph r n t f v o y cd, mF C mo (nI n) (nI y) (nI 1) pl fl tl v2 o2 b gm pa cd td]) H := hP
      have hD : va_D (lwA s) (List.flatten [wU C ou x0, wF C x nw tr hq iq tt sC ba z b b2 ph r n t f v o y cd, mF C mo (nI n) (nI y) (nI 1) pl fl tl v2 o2 b gm pa cd td]) := hD
      exact lw_tailT hc hj K 1 (by decide) (by decide) ⟨hok, hph, hfr, hy60, hcd, hpa⟩ (by omega) (by omega) hP hD hS hl 5 rfl 1 rfl [2, 3, 4, 5, 6] rfl 27 (by decide) dL_law_1298 dL_law_1299 dL_law_1302 dL_law_1304 dL_law_1309 dL_law_1311 dL_law_1325 (by decide)
    · skip
      refine lv_aload_n hx hb dL_law_1261 rfl (lv_at hl 2 rfl) ?_
      refine lw_rd hc hj 1 (by decide) hS 1 0 hl rfl rfl dL_law_1262 dL_law_1263 dL_law_1265 (by decide) dL_law_1266 dL_law_1267 e1 ?_
      refine lw_rd hc hj 2 (by decide) hS 1 0 hl rfl rfl dL_law_1268 dL_law_1269 dL_law_1271 (by decide) dL_law_1272 dL_law_1273 e2 ?_
      refine lv_aload_n hx hb dL_law_1274 rfl (lv_at hl 4 rfl) ?_
      refine q_SWB (Bs := [wU C ou x0, wF C x nw tr hq iq tt sC ba z b b2 ph r n t f v o y cd, mF C mo (nI n) (nI y) tw pl fl tl v2 o2 b gm pa cd td]) (cs := [wU C ou x0, wF C x nw tr hq iq tt sC ba z b b2 ph r n t f v o y cd]) (As := [.ref x, .int (nI a1), .int (nI a2), .ref ou]) (rest := []) ⟨hx, hb, hml, hown, hts⟩ (W_ifPlayed l C x nw tr hq iq tt sC z b b2 t f v o a1 a2 ba r n ph y cd ou x0 hB (by omega) (by omega) (by omega) hfr) (vx_cwSW 4 hts gL_law_L_ifPlayed rfl rfl rfl (by decide +kernel) ⟨Nat.le_of_ble_eq_true rfl, Nat.le_of_ble_eq_true rfl⟩) hK hV hE hP hD hS (fun _ h => h) [0, 1] (by decide) rfl rfl hl.1 rfl (Nat.le_of_ble_eq_true rfl) dL_law_1275 (lw_c0 hce hj hL) (lw_s0 hsl hj hL) (fun r w1 H locs hQ hF hS => ?_)
      obtain ⟨zq5, bq5, vq5, oq5, rfl, rfl⟩ := hQ
      obtain ⟨hP, hD⟩ := hF [wU C ou (gnN b a1 a2), wF C x nw tr hq iq tt sC ba zq5 b bq5 ph r n (idxT b) (fun _ => 1) vq5 oq5 y cd] rfl rfl
      have hP : va_P C.1 vwCl (List.flatten [wU C ou (gnN b a1 a2), wF C x nw tr hq iq tt sC ba zq5 b bq5 ph r n (idxT b) (fun _ => 1) vq5 oq5 y cd, mF C mo (nI n) (nI y) tw pl fl tl v2 o2 b gm pa cd td]) H := hP
      have hD : va_D (lwA s) (List.flatten [wU C ou (gnN b a1 a2), wF C x nw tr hq iq tt sC ba zq5 b bq5 ph r n (idxT b) (fun _ => 1) vq5 oq5 y cd, mF C mo (nI n) (nI y) tw pl fl tl v2 o2 b gm pa cd td]) := hD
      refine W.eq (g2 := F0 m 1278 ls [.int (nI 0)]) rfl ?_
      refine lv_istore (lv' := [(5, .int (nI 0)), (4, .int (nI (6 * j))), (0, .ref sA), (1, .ref x), (2, .ref (mo 0)), (3, .ref ou)]) hx hb dL_law_1278 hl (by decide) rfl (fun ls hl => ?_)
      refine lv_aload_n hx hb dL_law_1280 rfl (lv_at hl 4 rfl) ?_
      refine lw_rd hc hj 1 (by decide) hS 2 1 hl rfl rfl dL_law_1281 dL_law_1282 dL_law_1284 (by decide) dL_law_1285 dL_law_1286 e1 ?_
      refine lw_rd hc hj 2 (by decide) hS 2 1 hl rfl rfl dL_law_1287 dL_law_1288 dL_law_1290 (by decide) dL_law_1291 dL_law_1292 e2 ?_
      refine q_VBE (Bs := [wU C ou (gnN b a1 a2), wF C x nw tr hq iq tt sC ba zq5 b bq5 ph r n (idxT b) (fun _ => 1) vq5 oq5 y cd, mF C mo (nI n) (nI y) tw pl fl tl v2 o2 b gm pa cd td]) (cs := [mF C mo (nI n) (nI y) tw pl fl tl v2 o2 b gm pa cd td]) (As := [.int (nI a1), .int (nI a2)]) (rest := []) ⟨hx, hb, hml, hown, hts⟩ (M_ifPlayed l C mo (nI n) (nI y) tw pl fl tl v2 o2 b gm a1 a2 pa cd td hB (by omega) (by omega) (by omega)).one (cwV 2 hts gL_law_X5_ifPlayed rfl rfl rfl (by decide +kernel) ⟨Nat.le_of_ble_eq_true rfl, Nat.le_of_ble_eq_true rfl⟩) hK hV hE hP hD hS (fun _ h => h) [2] (by decide) rfl 76 rfl rfl rfl rfl hl.1 rfl (Nat.le_of_ble_eq_true rfl) dL_law_1293 (lw_c0 hce hj hL) (lw_s0 hsl hj hL) (fun r w1 H locs hQ hF hS => ?_)
      obtain ⟨vq6, oq6, gq6, rfl, rfl⟩ := hQ
      obtain ⟨hP, hD⟩ := hF [mF C mo (nI n) (nI y) (nI 0) pl fl tl vq6 oq6 b gq6 pa cd td] (flat_one _).symm rfl
      have hP : va_P C.1 vwCl (List.flatten [wU C ou (gnN b a1 a2), wF C x nw tr hq iq tt sC ba zq5 b bq5 ph r n (idxT b) (fun _ => 1) vq5 oq5 y cd, mF C mo (nI n) (nI y) (nI 0) pl fl tl vq6 oq6 b gq6 pa cd td]) H := hP
      have hD : va_D (lwA s) (List.flatten [wU C ou (gnN b a1 a2), wF C x nw tr hq iq tt sC ba zq5 b bq5 ph r n (idxT b) (fun _ => 1) vq5 oq5 y cd, mF C mo (nI n) (nI y) (nI 0) pl fl tl vq6 oq6 b gq6 pa cd td]) := hD
      refine W.eq (g2 := F0 m 1296 ls [.long (gnN b a1 a2)]) rfl ?_
      refine lv_lstore (lv' := [(6, .long (gnN b a1 a2)), (5, .int (nI 0)), (4, .int (nI (6 * j))), (0, .ref sA), (1, .ref x), (2, .ref (mo 0)), (3, .ref ou)]) hx hb dL_law_1296 hl (by decide) rfl (fun ls hl => ?_)
      have hP : va_P C.1 vwCl (List.flatten [wU C ou (gnN b a1 a2), wF C x nw tr hq iq tt sC ba zq5 b bq5 ph r n (idxT b) (fun _ => 1) vq5 oq5 y cd, mF C mo (nI n) (nI y) (nI 0) pl fl tl vq6 oq6 b gq6 pa cd td]) H := hP
      have hD : va_D (lwA s) (List.flatten [wU C ou (gnN b a1 a2), wF C x nw tr hq iq tt sC ba zq5 b bq5 ph r n (idxT b) (fun _ => 1) vq5 oq5 y cd, mF C mo (nI n) (nI y) (nI 0) pl fl tl vq6 oq6 b gq6 pa cd td]) := hD
      exact lw_tailL hc hj K ⟨hok, hph, frB_1 b, hy60, hcd, hpa⟩ (by omega) (by omega) hP hD hS hl 5 rfl 1 rfl 6 rfl 0 rfl [2, 3, 4, 5, 6] rfl dL_law_1298 dL_law_1299 dL_law_1302 dL_law_1304 dL_law_1309 dL_law_1311 dL_law_1314 dL_law_1315 dL_law_1316 dL_law_1317 dL_law_1319 dL_law_1320 dL_law_1325 (by decide)
set_option maxHeartbeats 4000000 in
set_option maxRecDepth 100000 in
theorem lw_bestRule (hc : lwC p l s m meth c C sA L xs) (hj : 6 * j + 6 ≤ L) (K : lwAt p l e s m below meth c Q C sA x ou sC nw tr hq iq tt ba mo j 1507 (j + 1)) : lwAt p l e s m below meth c Q C sA x ou sC nw tr hq iq tt ba mo j 1328 j := by
  intro x0 z b b2 ph r n t f v o y cd tw pl fl tl v2 o2 gm pa td cells slots H locs ls okx hce hsl hP hD hS hl
  obtain ⟨hok, hph, hfr, hy60, hcd, hpa⟩ := okx
  have hB : OkB b := hok.1
  have hU : sumU b ≤ 9999 := hok.2
  have hr6 : r < 6 := hph.1
  have hn6 : n ≤ 6 := hph.2.1
  have hc0 := hc
  obtain ⟨hx, hb, hml, hown, hts, hK, hV, hE, hX, hsb, hL, hl0⟩ := hc0
  rcases cl1 (xs (6 * j + 1)) (lo := 1) (hi := 99) (by decide) (by decide) with h0 | ⟨a1, e1, ha1, hb1⟩
  · skip
    refine lv_aload_n hx hb dL_law_1328 rfl (lv_at hl 2 rfl) ?_
    refine lw_rd hc hj 1 (by decide) hS 1 0 hl rfl rfl dL_law_1329 dL_law_1330 dL_law_1332 (by decide) dL_law_1333 dL_law_1334 rfl ?_
    refine lv_aload_n hx hb dL_law_1335 rfl (lv_at hl 4 rfl) ?_
    refine q_SWB1 (Bs := [wU C ou x0, wF C x nw tr hq iq tt sC ba z b b2 ph r n t f v o y cd, mF C mo (nI n) (nI y) tw pl fl tl v2 o2 b gm pa cd td]) (cs := [wU C ou x0, wF C x nw tr hq iq tt sC ba z b b2 ph r n t f v o y cd]) (As := [.ref x, .int (xs (6 * j + 1)), .ref ou]) (rest := []) ⟨hx, hb, hml, hown, hts⟩ (W1_bestRule l hl0 C x (xs (6 * j + 1)) nw tr hq iq tt sC ba z b b2 r n ph t f v o y cd ou x0 h0) (vx_cwSW 3 hts gL_law_L_bestRule rfl rfl rfl (by decide +kernel) ⟨Nat.le_of_ble_eq_true rfl, Nat.le_of_ble_eq_true rfl⟩) hK hV hE hP hD hS (fun _ h => h) [0, 1] (by decide) rfl rfl hl.1 rfl (Nat.le_of_ble_eq_true rfl) dL_law_1336 (lw_c1 hce hj hL) (lw_s1 hsl hj hL) (fun r w1 H locs hQ hF hS => ?_)
    obtain ⟨rfl, rfl⟩ := hQ
    obtain ⟨hP, hD⟩ := hF [wU C ou x0, wF C x nw tr hq iq tt sC ba z b b2 ph r n t f v o y cd] rfl rfl
    have hP : va_P C.1 vwCl (List.flatten [wU C ou x0, wF C x nw tr hq iq tt sC ba z b b2 ph r n t f v o y cd, mF C mo (nI n) (nI y) tw pl fl tl v2 o2 b gm pa cd td]) H := hP
    have hD : va_D (lwA s) (List.flatten [wU C ou x0, wF C x nw tr hq iq tt sC ba z b b2 ph r n t f v o y cd, mF C mo (nI n) (nI y) tw pl fl tl v2 o2 b gm pa cd td]) := hD
    refine W.eq (g2 := F0 m 1339 ls [.int (nI 1)]) rfl ?_
    have hce : cells + 1 ≤ 100 + j + 1 := Nat.succ_le_succ hce
    have hsl : slots + 6 ≤ 2000 + 6 * j + 6 := Nat.add_le_add_right hsl 6
    refine lv_istore (lv' := [(5, .int (nI 1)), (4, .int (nI (6 * j))), (0, .ref sA), (1, .ref x), (2, .ref (mo 0)), (3, .ref ou)]) hx hb dL_law_1339 hl (by decide) rfl (fun ls hl => ?_)
    refine lv_aload_n hx hb dL_law_1341 rfl (lv_at hl 4 rfl) ?_
    refine lw_rd hc hj 1 (by decide) hS 2 1 hl rfl rfl dL_law_1342 dL_law_1343 dL_law_1345 (by decide) dL_law_1346 dL_law_1347 rfl ?_
    refine q_VBE (Bs := [wU C ou x0, wF C x nw tr hq iq tt sC ba z b b2 ph r n t f v o y cd, mF C mo (nI n) (nI y) tw pl fl tl v2 o2 b gm pa cd td]) (cs := [mF C mo (nI n) (nI y) tw pl fl tl v2 o2 b gm pa cd td]) (As := [.int (xs (6 * j + 1))]) (rest := []) ⟨hx, hb, hml, hown, hts⟩ (M1_bestRule l C mo (nI n) (nI y) tw pl fl tl v2 o2 (xs (6 * j + 1)) b gm pa cd td h0).one (cwV 1 hts gL_law_X5_bestRule rfl rfl rfl (by decide +kernel) ⟨Nat.le_of_ble_eq_true rfl, Nat.le_of_ble_eq_true rfl⟩) hK hV hE hP hD hS (fun _ h => h) [2] (by decide) rfl 76 rfl rfl rfl rfl hl.1 rfl (Nat.le_of_ble_eq_true rfl) dL_law_1348 (lw_c0 hce hj hL) (lw_s0 hsl hj hL) (fun r w1 H locs hQ hF hS => ?_)
    obtain ⟨rfl, rfl⟩ := hQ
    obtain ⟨hP, hD⟩ := hF [mF C mo (nI n) (nI y) (nI 1) pl fl tl v2 o2 b gm pa cd td] (flat_one _).symm rfl
    have hP : va_P C.1 vwCl (List.flatten [wU C ou x0, wF C x nw tr hq iq tt sC ba z b b2 ph r n t f v o y cd, mF C mo (nI n) (nI y) (nI 1) pl fl tl v2 o2 b gm pa cd td]) H := hP
    have hD : va_D (lwA s) (List.flatten [wU C ou x0, wF C x nw tr hq iq tt sC ba z b b2 ph r n t f v o y cd, mF C mo (nI n) (nI y) (nI 1) pl fl tl v2 o2 b gm pa cd td]) := hD
    refine W.eq (g2 := F0 m 1351 ls [.int (nI 0)]) rfl ?_
    refine lv_istore (lv' := [(6, .int (nI 0)), (5, .int (nI 1)), (4, .int (nI (6 * j))), (0, .ref sA), (1, .ref x), (2, .ref (mo 0)), (3, .ref ou)]) hx hb dL_law_1351 hl (by decide) rfl (fun ls hl => ?_)
    have hP : va_P C.1 vwCl (List.flatten [wU C ou x0, wF C x nw tr hq iq tt sC ba z b b2 ph r n t f v o y cd, mF C mo (nI n) (nI y) (nI 1) pl fl tl v2 o2 b gm pa cd td]) H := hP
    have hD : va_D (lwA s) (List.flatten [wU C ou x0, wF C x nw tr hq iq tt sC ba z b b2 ph r n t f v o y cd, mF C mo (nI n) (nI y) (nI 1) pl fl tl v2 o2 b gm pa cd td]) := hD
    exact lw_tailT hc hj K 1 (by decide) (by decide) ⟨hok, hph, hfr, hy60, hcd, hpa⟩ (by omega) (by omega) hP hD hS hl 5 rfl 1 rfl [2, 3, 4, 5, 6] rfl 28 (by decide) dL_law_1353 dL_law_1354 dL_law_1357 dL_law_1359 dL_law_1364 dL_law_1366 dL_law_1381 (by decide)
  · skip
    refine lv_aload_n hx hb dL_law_1328 rfl (lv_at hl 2 rfl) ?_
    refine lw_rd hc hj 1 (by decide) hS 1 0 hl rfl rfl dL_law_1329 dL_law_1330 dL_law_1332 (by decide) dL_law_1333 dL_law_1334 e1 ?_
    refine lv_aload_n hx hb dL_law_1335 rfl (lv_at hl 4 rfl) ?_
    refine q_SWB (Bs := [wU C ou x0, wF C x nw tr hq iq tt sC ba z b b2 ph r n t f v o y cd, mF C mo (nI n) (nI y) tw pl fl tl v2 o2 b gm pa cd td]) (cs := [wU C ou x0, wF C x nw tr hq iq tt sC ba z b b2 ph r n t f v o y cd]) (As := [.ref x, .int (nI a1), .ref ou]) (rest := []) ⟨hx, hb, hml, hown, hts⟩ (W_bestRule l C x nw tr hq iq tt sC z b b2 t f v o a1 ba r n ph y cd ou x0 hB (by omega) (by omega) hfr) (vx_cwSW 3 hts gL_law_L_bestRule rfl rfl rfl (by decide +kernel) ⟨Nat.le_of_ble_eq_true rfl, Nat.le_of_ble_eq_true rfl⟩) hK hV hE hP hD hS (fun _ h => h) [0, 1] (by decide) rfl rfl hl.1 rfl (Nat.le_of_ble_eq_true rfl) dL_law_1336 (lw_c0 hce hj hL) (lw_s0 hsl hj hL) (fun r w1 H locs hQ hF hS => ?_)
    obtain ⟨zq3, bq3, vq3, oq3, rfl, rfl⟩ := hQ
    obtain ⟨hP, hD⟩ := hF [wU C ou ((nI (bsrN b a1 2)).toInt64), wF C x nw tr hq iq tt sC ba zq3 b bq3 ph r n (idxT b) (fun _ => 1) vq3 oq3 y cd] rfl rfl
    have hP : va_P C.1 vwCl (List.flatten [wU C ou ((nI (bsrN b a1 2)).toInt64), wF C x nw tr hq iq tt sC ba zq3 b bq3 ph r n (idxT b) (fun _ => 1) vq3 oq3 y cd, mF C mo (nI n) (nI y) tw pl fl tl v2 o2 b gm pa cd td]) H := hP
    have hD : va_D (lwA s) (List.flatten [wU C ou ((nI (bsrN b a1 2)).toInt64), wF C x nw tr hq iq tt sC ba zq3 b bq3 ph r n (idxT b) (fun _ => 1) vq3 oq3 y cd, mF C mo (nI n) (nI y) tw pl fl tl v2 o2 b gm pa cd td]) := hD
    refine W.eq (g2 := F0 m 1339 ls [.int (nI 0)]) rfl ?_
    refine lv_istore (lv' := [(5, .int (nI 0)), (4, .int (nI (6 * j))), (0, .ref sA), (1, .ref x), (2, .ref (mo 0)), (3, .ref ou)]) hx hb dL_law_1339 hl (by decide) rfl (fun ls hl => ?_)
    refine lv_aload_n hx hb dL_law_1341 rfl (lv_at hl 4 rfl) ?_
    refine lw_rd hc hj 1 (by decide) hS 2 1 hl rfl rfl dL_law_1342 dL_law_1343 dL_law_1345 (by decide) dL_law_1346 dL_law_1347 e1 ?_
    refine q_VBE (Bs := [wU C ou ((nI (bsrN b a1 2)).toInt64), wF C x nw tr hq iq tt sC ba zq3 b bq3 ph r n (idxT b) (fun _ => 1) vq3 oq3 y cd, mF C mo (nI n) (nI y) tw pl fl tl v2 o2 b gm pa cd td]) (cs := [mF C mo (nI n) (nI y) tw pl fl tl v2 o2 b gm pa cd td]) (As := [.int (nI a1)]) (rest := []) ⟨hx, hb, hml, hown, hts⟩ (M_bestRule l C mo (nI n) (nI y) tw pl fl tl v2 o2 b gm a1 pa cd td hB (by omega) (by omega)).one (cwV 1 hts gL_law_X5_bestRule rfl rfl rfl (by decide +kernel) ⟨Nat.le_of_ble_eq_true rfl, Nat.le_of_ble_eq_true rfl⟩) hK hV hE hP hD hS (fun _ h => h) [2] (by decide) rfl 76 rfl rfl rfl rfl hl.1 rfl (Nat.le_of_ble_eq_true rfl) dL_law_1348 (lw_c0 hce hj hL) (lw_s0 hsl hj hL) (fun r w1 H locs hQ hF hS => ?_)
    obtain ⟨vq4, oq4, gq4, rfl, rfl⟩ := hQ
    obtain ⟨hP, hD⟩ := hF [mF C mo (nI n) (nI y) (nI 0) pl fl tl vq4 oq4 b gq4 pa cd td] (flat_one _).symm rfl
    have hP : va_P C.1 vwCl (List.flatten [wU C ou ((nI (bsrN b a1 2)).toInt64), wF C x nw tr hq iq tt sC ba zq3 b bq3 ph r n (idxT b) (fun _ => 1) vq3 oq3 y cd, mF C mo (nI n) (nI y) (nI 0) pl fl tl vq4 oq4 b gq4 pa cd td]) H := hP
    have hD : va_D (lwA s) (List.flatten [wU C ou ((nI (bsrN b a1 2)).toInt64), wF C x nw tr hq iq tt sC ba zq3 b bq3 ph r n (idxT b) (fun _ => 1) vq3 oq3 y cd, mF C mo (nI n) (nI y) (nI 0) pl fl tl vq4 oq4 b gq4 pa cd td]) := hD
    refine W.eq (g2 := F0 m 1351 ls [.int (nI (bsrN b a1 2))]) rfl ?_
    refine lv_istore (lv' := [(6, .int (nI (bsrN b a1 2))), (5, .int (nI 0)), (4, .int (nI (6 * j))), (0, .ref sA), (1, .ref x), (2, .ref (mo 0)), (3, .ref ou)]) hx hb dL_law_1351 hl (by decide) rfl (fun ls hl => ?_)
    have hP : va_P C.1 vwCl (List.flatten [wU C ou ((nI (bsrN b a1 2)).toInt64), wF C x nw tr hq iq tt sC ba zq3 b bq3 ph r n (idxT b) (fun _ => 1) vq3 oq3 y cd, mF C mo (nI n) (nI y) (nI 0) pl fl tl vq4 oq4 b gq4 pa cd td]) H := hP
    have hD : va_D (lwA s) (List.flatten [wU C ou ((nI (bsrN b a1 2)).toInt64), wF C x nw tr hq iq tt sC ba zq3 b bq3 ph r n (idxT b) (fun _ => 1) vq3 oq3 y cd, mF C mo (nI n) (nI y) (nI 0) pl fl tl vq4 oq4 b gq4 pa cd td]) := hD
    exact lw_tailI hc hj K ⟨hok, hph, frB_1 b, hy60, hcd, hpa⟩ (by omega) (by omega) hP hD hS hl 5 rfl 1 rfl 6 rfl 0 rfl [2, 3, 4, 5, 6] rfl dL_law_1353 dL_law_1354 dL_law_1357 dL_law_1359 dL_law_1364 dL_law_1366 dL_law_1369 dL_law_1370 dL_law_1371 dL_law_1372 dL_law_1374 dL_law_1375 dL_law_1376 dL_law_1381 (by decide)
set_option maxHeartbeats 4000000 in
set_option maxRecDepth 100000 in
theorem lw_giftFor (hc : lwC p l s m meth c C sA L xs) (hj : 6 * j + 6 ≤ L) (K : lwAt p l e s m below meth c Q C sA x ou sC nw tr hq iq tt ba mo j 1507 (j + 1)) : lwAt p l e s m below meth c Q C sA x ou sC nw tr hq iq tt ba mo j 1384 j := by
  intro x0 z b b2 ph r n t f v o y cd tw pl fl tl v2 o2 gm pa td cells slots H locs ls okx hce hsl hP hD hS hl
  obtain ⟨hok, hph, hfr, hy60, hcd, hpa⟩ := okx
  have hB : OkB b := hok.1
  have hU : sumU b ≤ 9999 := hok.2
  have hr6 : r < 6 := hph.1
  have hn6 : n ≤ 6 := hph.2.1
  have hc0 := hc
  obtain ⟨hx, hb, hml, hown, hts, hK, hV, hE, hX, hsb, hL, hl0⟩ := hc0
  rcases cl2 (xs (6 * j + 1)) (xs (6 * j + 2)) with h0 | ⟨a1, a2, e1, e2, ha1, ha2⟩
  · skip
    refine lv_aload_n hx hb dL_law_1384 rfl (lv_at hl 2 rfl) ?_
    refine lw_rd hc hj 1 (by decide) hS 1 0 hl rfl rfl dL_law_1385 dL_law_1386 dL_law_1388 (by decide) dL_law_1389 dL_law_1390 rfl ?_
    refine lw_rd hc hj 2 (by decide) hS 1 0 hl rfl rfl dL_law_1391 dL_law_1392 dL_law_1394 (by decide) dL_law_1395 dL_law_1396 rfl ?_
    refine lv_aload_n hx hb dL_law_1397 rfl (lv_at hl 4 rfl) ?_
    refine q_SWB1 (Bs := [wU C ou x0, wF C x nw tr hq iq tt sC ba z b b2 ph r n t f v o y cd, mF C mo (nI n) (nI y) tw pl fl tl v2 o2 b gm pa cd td]) (cs := [wU C ou x0, wF C x nw tr hq iq tt sC ba z b b2 ph r n t f v o y cd]) (As := [.ref x, .int (xs (6 * j + 1)), .int (xs (6 * j + 2)), .ref ou]) (rest := []) ⟨hx, hb, hml, hown, hts⟩ (W1_giftFor l hl0 C x (xs (6 * j + 1)) (xs (6 * j + 2)) nw tr hq iq tt sC ba z b b2 r n ph t f v o y cd ou x0 h0) (vx_cwSW 4 hts gL_law_L_giftFor rfl rfl rfl (by decide +kernel) ⟨Nat.le_of_ble_eq_true rfl, Nat.le_of_ble_eq_true rfl⟩) hK hV hE hP hD hS (fun _ h => h) [0, 1] (by decide) rfl rfl hl.1 rfl (Nat.le_of_ble_eq_true rfl) dL_law_1398 (lw_c1 hce hj hL) (lw_s1 hsl hj hL) (fun r w1 H locs hQ hF hS => ?_)
    obtain ⟨rfl, rfl⟩ := hQ
    obtain ⟨hP, hD⟩ := hF [wU C ou x0, wF C x nw tr hq iq tt sC ba z b b2 ph r n t f v o y cd] rfl rfl
    have hP : va_P C.1 vwCl (List.flatten [wU C ou x0, wF C x nw tr hq iq tt sC ba z b b2 ph r n t f v o y cd, mF C mo (nI n) (nI y) tw pl fl tl v2 o2 b gm pa cd td]) H := hP
    have hD : va_D (lwA s) (List.flatten [wU C ou x0, wF C x nw tr hq iq tt sC ba z b b2 ph r n t f v o y cd, mF C mo (nI n) (nI y) tw pl fl tl v2 o2 b gm pa cd td]) := hD
    refine W.eq (g2 := F0 m 1401 ls [.int (nI 1)]) rfl ?_
    have hce : cells + 1 ≤ 100 + j + 1 := Nat.succ_le_succ hce
    have hsl : slots + 6 ≤ 2000 + 6 * j + 6 := Nat.add_le_add_right hsl 6
    refine lv_istore (lv' := [(5, .int (nI 1)), (4, .int (nI (6 * j))), (0, .ref sA), (1, .ref x), (2, .ref (mo 0)), (3, .ref ou)]) hx hb dL_law_1401 hl (by decide) rfl (fun ls hl => ?_)
    refine lv_aload_n hx hb dL_law_1403 rfl (lv_at hl 4 rfl) ?_
    refine lw_rd hc hj 1 (by decide) hS 2 1 hl rfl rfl dL_law_1404 dL_law_1405 dL_law_1407 (by decide) dL_law_1408 dL_law_1409 rfl ?_
    refine lw_rd hc hj 2 (by decide) hS 2 1 hl rfl rfl dL_law_1410 dL_law_1411 dL_law_1413 (by decide) dL_law_1414 dL_law_1415 rfl ?_
    refine q_VBE (Bs := [wU C ou x0, wF C x nw tr hq iq tt sC ba z b b2 ph r n t f v o y cd, mF C mo (nI n) (nI y) tw pl fl tl v2 o2 b gm pa cd td]) (cs := [mF C mo (nI n) (nI y) tw pl fl tl v2 o2 b gm pa cd td]) (As := [.int (xs (6 * j + 1)), .int (xs (6 * j + 2))]) (rest := []) ⟨hx, hb, hml, hown, hts⟩ (M1_giftFor l C mo (nI n) (nI y) tw pl fl tl v2 o2 (xs (6 * j + 1)) (xs (6 * j + 2)) b gm pa cd td h0).one (cwV 2 hts gL_law_X5_giftFor rfl rfl rfl (by decide +kernel) ⟨Nat.le_of_ble_eq_true rfl, Nat.le_of_ble_eq_true rfl⟩) hK hV hE hP hD hS (fun _ h => h) [2] (by decide) rfl 76 rfl rfl rfl rfl hl.1 rfl (Nat.le_of_ble_eq_true rfl) dL_law_1416 (lw_c0 hce hj hL) (lw_s0 hsl hj hL) (fun r w1 H locs hQ hF hS => ?_)
    obtain ⟨rfl, rfl⟩ := hQ
    obtain ⟨hP, hD⟩ := hF [mF C mo (nI n) (nI y) (nI 1) pl fl tl v2 o2 b gm pa cd td] (flat_one _).symm rfl
    have hP : va_P C.1 vwCl (List.flatten [wU C ou x0, wF C x nw tr hq iq tt sC ba z b b2 ph r n t f v o y cd, mF C mo (nI n) (nI y) (nI 1) pl fl tl v2 o2 b gm pa cd td]) H := hP
    have hD : va_D (lwA s) (List.flatten [wU C ou x0, wF C x nw tr hq iq tt sC ba z b b2 ph r n t f v o y cd, mF C mo (nI n) (nI y) (nI 1) pl fl tl v2 o2 b gm pa cd td]) := hD
    refine W.eq (g2 := F0 m 1419 ls [.int (nI 0)]) rfl ?_
    refine lv_istore (lv' := [(6, .int (nI 0)), (5, .int (nI 1)), (4, .int (nI (6 * j))), (0, .ref sA), (1, .ref x), (2, .ref (mo 0)), (3, .ref ou)]) hx hb dL_law_1419 hl (by decide) rfl (fun ls hl => ?_)
    have hP : va_P C.1 vwCl (List.flatten [wU C ou x0, wF C x nw tr hq iq tt sC ba z b b2 ph r n t f v o y cd, mF C mo (nI n) (nI y) (nI 1) pl fl tl v2 o2 b gm pa cd td]) H := hP
    have hD : va_D (lwA s) (List.flatten [wU C ou x0, wF C x nw tr hq iq tt sC ba z b b2 ph r n t f v o y cd, mF C mo (nI n) (nI y) (nI 1) pl fl tl v2 o2 b gm pa cd td]) := hD
    exact lw_tailT hc hj K 1 (by decide) (by decide) ⟨hok, hph, hfr, hy60, hcd, hpa⟩ (by omega) (by omega) hP hD hS hl 5 rfl 1 rfl [2, 3, 4, 5, 6] rfl 28 (by decide) dL_law_1421 dL_law_1422 dL_law_1425 dL_law_1427 dL_law_1432 dL_law_1434 dL_law_1449 (by decide)
  · skip
    refine lv_aload_n hx hb dL_law_1384 rfl (lv_at hl 2 rfl) ?_
    refine lw_rd hc hj 1 (by decide) hS 1 0 hl rfl rfl dL_law_1385 dL_law_1386 dL_law_1388 (by decide) dL_law_1389 dL_law_1390 e1 ?_
    refine lw_rd hc hj 2 (by decide) hS 1 0 hl rfl rfl dL_law_1391 dL_law_1392 dL_law_1394 (by decide) dL_law_1395 dL_law_1396 e2 ?_
    refine lv_aload_n hx hb dL_law_1397 rfl (lv_at hl 4 rfl) ?_
    refine q_SWB (Bs := [wU C ou x0, wF C x nw tr hq iq tt sC ba z b b2 ph r n t f v o y cd, mF C mo (nI n) (nI y) tw pl fl tl v2 o2 b gm pa cd td]) (cs := [wU C ou x0, wF C x nw tr hq iq tt sC ba z b b2 ph r n t f v o y cd]) (As := [.ref x, .int (nI a1), .int (nI a2), .ref ou]) (rest := []) ⟨hx, hb, hml, hown, hts⟩ (W_giftFor l C x nw tr hq iq tt sC z b b2 t f v o a1 a2 ba r n ph y cd ou x0 hB (by omega) (by omega) hfr) (vx_cwSW 4 hts gL_law_L_giftFor rfl rfl rfl (by decide +kernel) ⟨Nat.le_of_ble_eq_true rfl, Nat.le_of_ble_eq_true rfl⟩) hK hV hE hP hD hS (fun _ h => h) [0, 1] (by decide) rfl rfl hl.1 rfl (Nat.le_of_ble_eq_true rfl) dL_law_1398 (lw_c0 hce hj hL) (lw_s0 hsl hj hL) (fun r w1 H locs hQ hF hS => ?_)
    obtain ⟨zq3, bq3, vq3, oq3, rfl, rfl⟩ := hQ
    obtain ⟨hP, hD⟩ := hF [wU C ou ((lgI (lgN b a1 a2)).toInt64), wF C x nw tr hq iq tt sC ba zq3 b bq3 ph r n (idxT b) (fun _ => 1) vq3 oq3 y cd] rfl rfl
    have hP : va_P C.1 vwCl (List.flatten [wU C ou ((lgI (lgN b a1 a2)).toInt64), wF C x nw tr hq iq tt sC ba zq3 b bq3 ph r n (idxT b) (fun _ => 1) vq3 oq3 y cd, mF C mo (nI n) (nI y) tw pl fl tl v2 o2 b gm pa cd td]) H := hP
    have hD : va_D (lwA s) (List.flatten [wU C ou ((lgI (lgN b a1 a2)).toInt64), wF C x nw tr hq iq tt sC ba zq3 b bq3 ph r n (idxT b) (fun _ => 1) vq3 oq3 y cd, mF C mo (nI n) (nI y) tw pl fl tl v2 o2 b gm pa cd td]) := hD
    refine W.eq (g2 := F0 m 1401 ls [.int (nI 0)]) rfl ?_
    refine lv_istore (lv' := [(5, .int (nI 0)), (4, .int (nI (6 * j))), (0, .ref sA), (1, .ref x), (2, .ref (mo 0)), (3, .ref ou)]) hx hb dL_law_1401 hl (by decide) rfl (fun ls hl => ?_)
    refine lv_aload_n hx hb dL_law_1403 rfl (lv_at hl 4 rfl) ?_
    refine lw_rd hc hj 1 (by decide) hS 2 1 hl rfl rfl dL_law_1404 dL_law_1405 dL_law_1407 (by decide) dL_law_1408 dL_law_1409 e1 ?_
    refine lw_rd hc hj 2 (by decide) hS 2 1 hl rfl rfl dL_law_1410 dL_law_1411 dL_law_1413 (by decide) dL_law_1414 dL_law_1415 e2 ?_
    refine q_VBE (Bs := [wU C ou ((lgI (lgN b a1 a2)).toInt64), wF C x nw tr hq iq tt sC ba zq3 b bq3 ph r n (idxT b) (fun _ => 1) vq3 oq3 y cd, mF C mo (nI n) (nI y) tw pl fl tl v2 o2 b gm pa cd td]) (cs := [mF C mo (nI n) (nI y) tw pl fl tl v2 o2 b gm pa cd td]) (As := [.int (nI a1), .int (nI a2)]) (rest := []) ⟨hx, hb, hml, hown, hts⟩ (M_giftFor l C mo (nI n) (nI y) tw pl fl tl v2 o2 b gm a1 a2 pa cd td hB (by omega) (by omega)).one (cwV 2 hts gL_law_X5_giftFor rfl rfl rfl (by decide +kernel) ⟨Nat.le_of_ble_eq_true rfl, Nat.le_of_ble_eq_true rfl⟩) hK hV hE hP hD hS (fun _ h => h) [2] (by decide) rfl 76 rfl rfl rfl rfl hl.1 rfl (Nat.le_of_ble_eq_true rfl) dL_law_1416 (lw_c0 hce hj hL) (lw_s0 hsl hj hL) (fun r w1 H locs hQ hF hS => ?_)
    obtain ⟨vq4, oq4, gq4, rfl, rfl⟩ := hQ
    obtain ⟨hP, hD⟩ := hF [mF C mo (nI n) (nI y) (nI 0) pl fl tl vq4 oq4 b gq4 pa cd td] (flat_one _).symm rfl
    have hP : va_P C.1 vwCl (List.flatten [wU C ou ((lgI (lgN b a1 a2)).toInt64), wF C x nw tr hq iq tt sC ba zq3 b bq3 ph r n (idxT b) (fun _ => 1) vq3 oq3 y cd, mF C mo (nI n) (nI y) (nI 0) pl fl tl vq4 oq4 b gq4 pa cd td]) H := hP
    have hD : va_D (lwA s) (List.flatten [wU C ou ((lgI (lgN b a1 a2)).toInt64), wF C x nw tr hq iq tt sC ba zq3 b bq3 ph r n (idxT b) (fun _ => 1) vq3 oq3 y cd, mF C mo (nI n) (nI y) (nI 0) pl fl tl vq4 oq4 b gq4 pa cd td]) := hD
    refine W.eq (g2 := F0 m 1419 ls [.int (lgI (lgN b a1 a2))]) rfl ?_
    refine lv_istore (lv' := [(6, .int (lgI (lgN b a1 a2))), (5, .int (nI 0)), (4, .int (nI (6 * j))), (0, .ref sA), (1, .ref x), (2, .ref (mo 0)), (3, .ref ou)]) hx hb dL_law_1419 hl (by decide) rfl (fun ls hl => ?_)
    have hP : va_P C.1 vwCl (List.flatten [wU C ou ((lgI (lgN b a1 a2)).toInt64), wF C x nw tr hq iq tt sC ba zq3 b bq3 ph r n (idxT b) (fun _ => 1) vq3 oq3 y cd, mF C mo (nI n) (nI y) (nI 0) pl fl tl vq4 oq4 b gq4 pa cd td]) H := hP
    have hD : va_D (lwA s) (List.flatten [wU C ou ((lgI (lgN b a1 a2)).toInt64), wF C x nw tr hq iq tt sC ba zq3 b bq3 ph r n (idxT b) (fun _ => 1) vq3 oq3 y cd, mF C mo (nI n) (nI y) (nI 0) pl fl tl vq4 oq4 b gq4 pa cd td]) := hD
    exact lw_tailI hc hj K ⟨hok, hph, frB_1 b, hy60, hcd, hpa⟩ (by omega) (by omega) hP hD hS hl 5 rfl 1 rfl 6 rfl 0 rfl [2, 3, 4, 5, 6] rfl dL_law_1421 dL_law_1422 dL_law_1425 dL_law_1427 dL_law_1432 dL_law_1434 dL_law_1437 dL_law_1438 dL_law_1439 dL_law_1440 dL_law_1442 dL_law_1443 dL_law_1444 dL_law_1449 (by decide)
set_option maxHeartbeats 4000000 in
set_option maxRecDepth 100000 in
theorem lw_evenness (hc : lwC p l s m meth c C sA L xs) (hj : 6 * j + 6 ≤ L) (K : lwAt p l e s m below meth c Q C sA x ou sC nw tr hq iq tt ba mo j 1507 (j + 1)) : lwAt p l e s m below meth c Q C sA x ou sC nw tr hq iq tt ba mo j 1452 j := by
  intro x0 z b b2 ph r n t f v o y cd tw pl fl tl v2 o2 gm pa td cells slots H locs ls okx hce hsl hP hD hS hl
  obtain ⟨hok, hph, hfr, hy60, hcd, hpa⟩ := okx
  have hB : OkB b := hok.1
  have hU : sumU b ≤ 9999 := hok.2
  have hr6 : r < 6 := hph.1
  have hn6 : n ≤ 6 := hph.2.1
  have hc0 := hc
  obtain ⟨hx, hb, hml, hown, hts, hK, hV, hE, hX, hsb, hL, hl0⟩ := hc0
  refine lv_aload_n hx hb dL_law_1452 rfl (lv_at hl 2 rfl) ?_
  refine q_VBE (Bs := [wU C ou x0, wF C x nw tr hq iq tt sC ba z b b2 ph r n t f v o y cd, mF C mo (nI n) (nI y) tw pl fl tl v2 o2 b gm pa cd td]) (cs := [wF C x nw tr hq iq tt sC ba z b b2 ph r n t f v o y cd]) (As := []) (rest := []) ⟨hx, hb, hml, hown, hts⟩ (F_evenness l C x nw tr hq iq tt sC z b ba b2 r n ph t f v o y cd hU).one (cwV 0 hts gL_law_X4_evenness rfl rfl rfl (by decide +kernel) ⟨Nat.le_of_ble_eq_true rfl, Nat.le_of_ble_eq_true rfl⟩) hK hV hE hP hD hS (fun _ h => h) [1] (by decide) rfl 1 rfl rfl rfl rfl hl.1 rfl (Nat.le_of_ble_eq_true rfl) dL_law_1453 (lw_c0 hce hj hL) (lw_s0 hsl hj hL) (fun r w1 H locs hQ hF hS => ?_)
  obtain ⟨rfl, rfl⟩ := hQ
  obtain ⟨hP, hD⟩ := hF [wF C x nw tr hq iq tt sC ba z b b2 ph r n t f v o y cd] (flat_one _).symm rfl
  have hP : va_P C.1 vwCl (List.flatten [wU C ou x0, wF C x nw tr hq iq tt sC ba z b b2 ph r n t f v o y cd, mF C mo (nI n) (nI y) tw pl fl tl v2 o2 b gm pa cd td]) H := hP
  have hD : va_D (lwA s) (List.flatten [wU C ou x0, wF C x nw tr hq iq tt sC ba z b b2 ph r n t f v o y cd, mF C mo (nI n) (nI y) tw pl fl tl v2 o2 b gm pa cd td]) := hD
  refine W.eq (g2 := F0 m 1456 ls [.double (evD b)]) rfl ?_
  refine lv_dstore (lv' := [(5, .double (evD b)), (4, .int (nI (6 * j))), (0, .ref sA), (1, .ref x), (2, .ref (mo 0)), (3, .ref ou)]) hx hb dL_law_1456 hl (by decide) rfl (fun ls hl => ?_)
  refine lv_aload_n hx hb dL_law_1458 rfl (lv_at hl 4 rfl) ?_
  refine q_VBE (Bs := [wU C ou x0, wF C x nw tr hq iq tt sC ba z b b2 ph r n t f v o y cd, mF C mo (nI n) (nI y) tw pl fl tl v2 o2 b gm pa cd td]) (cs := [mF C mo (nI n) (nI y) tw pl fl tl v2 o2 b gm pa cd td]) (As := []) (rest := []) ⟨hx, hb, hml, hown, hts⟩ (M_evenness l C mo (nI n) (nI y) tw pl fl tl v2 o2 b gm pa cd td hU).one (cwV 0 hts gL_law_X5_evenness rfl rfl rfl (by decide +kernel) ⟨Nat.le_of_ble_eq_true rfl, Nat.le_of_ble_eq_true rfl⟩) hK hV hE hP hD hS (fun _ h => h) [2] (by decide) rfl 76 rfl rfl rfl rfl hl.1 rfl (Nat.le_of_ble_eq_true rfl) dL_law_1459 (lw_c0 hce hj hL) (lw_s0 hsl hj hL) (fun r w1 H locs hQ hF hS => ?_)
  obtain ⟨rfl, rfl⟩ := hQ
  obtain ⟨hP, hD⟩ := hF [mF C mo (nI n) (nI y) (nI 0) pl fl tl v2 o2 b gm pa cd td] (flat_one _).symm rfl
  have hP : va_P C.1 vwCl (List.flatten [wU C ou x0, wF C x nw tr hq iq tt sC ba z b b2 ph r n t f v o y cd, mF C mo (nI n) (nI y) (nI 0) pl fl tl v2 o2 b gm pa cd td]) H := hP
  have hD : va_D (lwA s) (List.flatten [wU C ou x0, wF C x nw tr hq iq tt sC ba z b b2 ph r n t f v o y cd, mF C mo (nI n) (nI y) (nI 0) pl fl tl v2 o2 b gm pa cd td]) := hD
  refine W.eq (g2 := F0 m 1462 ls [.double (evD b)]) rfl ?_
  have hP : va_P C.1 vwCl (List.flatten [wU C ou x0, wF C x nw tr hq iq tt sC ba z b b2 ph r n t f v o y cd, mF C mo (nI n) (nI y) (nI 0) pl fl tl v2 o2 b gm pa cd td]) H := hP
  have hD : va_D (lwA s) (List.flatten [wU C ou x0, wF C x nw tr hq iq tt sC ba z b b2 ph r n t f v o y cd, mF C mo (nI n) (nI y) (nI 0) pl fl tl v2 o2 b gm pa cd td]) := hD
  refine lv_dstore (lv' := [(7, .double (evD b)), (5, .double (evD b)), (4, .int (nI (6 * j))), (0, .ref sA), (1, .ref x), (2, .ref (mo 0)), (3, .ref ou)]) hx hb dL_law_1462 hl (by decide) rfl (fun ls hl => ?_)
  refine lv_dload hx hb dL_law_1464 (lv_at hl 1 rfl) ?_
  refine lv_dload hx hb dL_law_1466 (lv_at hl 0 rfl) ?_
  refine lv_dcmp hx hb dL_law_1468 ?_
  rw [fp_rf (evD_sh hU)]
  refine lv_if_eq (tgt := 1490) hx hb dL_law_1469 (by decide) (fun _ => ?_) (fun q => absurd rfl q)
  refine lv_goto (tgt := 1507) hx hb dL_law_1490 (by decide) ?_
  exact K _ _ _ _ _ _ _ _ _ _ _ _ _ _ _ _ _ _ _ _ _ _ _ _ _ _ _ ⟨hok, hph, hfr, hy60, hcd, hpa⟩ (by omega) (by omega) hP hD hS (lv_sub hl [2, 3, 4, 5, 6] rfl)
set_option maxHeartbeats 4000000 in
set_option maxRecDepth 100000 in
theorem lw_digest (hc : lwC p l s m meth c C sA L xs) (hj : 6 * j + 6 ≤ L) (K : lwAt p l e s m below meth c Q C sA x ou sC nw tr hq iq tt ba mo j 1507 (j + 1)) : lwAt p l e s m below meth c Q C sA x ou sC nw tr hq iq tt ba mo j 1493 j := by
  intro x0 z b b2 ph r n t f v o y cd tw pl fl tl v2 o2 gm pa td cells slots H locs ls okx hce hsl hP hD hS hl
  obtain ⟨hok, hph, hfr, hy60, hcd, hpa⟩ := okx
  have hB : OkB b := hok.1
  have hU : sumU b ≤ 9999 := hok.2
  have hr6 : r < 6 := hph.1
  have hn6 : n ≤ 6 := hph.2.1
  have hc0 := hc
  obtain ⟨hx, hb, hml, hown, hts, hK, hV, hE, hX, hsb, hL, hl0⟩ := hc0
  refine lv_aload_n hx hb dL_law_1493 rfl (lv_at hl 2 rfl) ?_
  refine q_VBE (Bs := [wU C ou x0, wF C x nw tr hq iq tt sC ba z b b2 ph r n t f v o y cd, mF C mo (nI n) (nI y) tw pl fl tl v2 o2 b gm pa cd td]) (cs := [wF C x nw tr hq iq tt sC ba z b b2 ph r n t f v o y cd]) (As := []) (rest := []) ⟨hx, hb, hml, hown, hts⟩ (F_digest l C x nw tr hq iq tt sC z ba r n b b2 t f v o y cd ph hB hU hy60 hcd hfr).one (cwV 0 hts gL_law_X4_digest rfl rfl rfl (by decide +kernel) ⟨Nat.le_of_ble_eq_true rfl, Nat.le_of_ble_eq_true rfl⟩) hK hV hE hP hD hS (fun _ h => h) [1] (by decide) rfl 1 rfl rfl rfl rfl hl.1 rfl (Nat.le_of_ble_eq_true rfl) dL_law_1494 (lw_c0 hce hj hL) (lw_s0 hsl hj hL) (fun r w1 H locs hQ hF hS => ?_)
  obtain ⟨zq1, bq1, tq1, fq1, vq1, oq1, rfl, rfl, hfq⟩ := hQ
  obtain ⟨hP, hD⟩ := hF [wF C x nw tr hq iq tt sC ba zq1 b bq1 ph r n tq1 fq1 vq1 oq1 y cd] (flat_one _).symm rfl
  have hP : va_P C.1 vwCl (List.flatten [wU C ou x0, wF C x nw tr hq iq tt sC ba zq1 b bq1 ph r n tq1 fq1 vq1 oq1 y cd, mF C mo (nI n) (nI y) tw pl fl tl v2 o2 b gm pa cd td]) H := hP
  have hD : va_D (lwA s) (List.flatten [wU C ou x0, wF C x nw tr hq iq tt sC ba zq1 b bq1 ph r n tq1 fq1 vq1 oq1 y cd, mF C mo (nI n) (nI y) tw pl fl tl v2 o2 b gm pa cd td]) := hD
  refine W.eq (g2 := F0 m 1497 ls [.long (dgL b n y cd)]) rfl ?_
  refine lv_aload_n hx hb dL_law_1497 rfl (lv_at hl 3 rfl) ?_
  refine q_VBE (Bs := [wU C ou x0, wF C x nw tr hq iq tt sC ba zq1 b bq1 ph r n tq1 fq1 vq1 oq1 y cd, mF C mo (nI n) (nI y) tw pl fl tl v2 o2 b gm pa cd td]) (cs := [mF C mo (nI n) (nI y) tw pl fl tl v2 o2 b gm pa cd td]) (As := []) (rest := [.long (dgL b n y cd)]) ⟨hx, hb, hml, hown, hts⟩ (M_digest l C mo tw pl fl tl v2 o2 b gm n y cd pa td hB hU hy60 hcd).one (cwV 0 hts gL_law_X5_digest rfl rfl rfl (by decide +kernel) ⟨Nat.le_of_ble_eq_true rfl, Nat.le_of_ble_eq_true rfl⟩) hK hV hE hP hD hS (fun _ h => h) [2] (by decide) rfl 76 rfl rfl rfl rfl hl.1 rfl (Nat.le_of_ble_eq_true rfl) dL_law_1498 (lw_c0 hce hj hL) (lw_s0 hsl hj hL) (fun r w1 H locs hQ hF hS => ?_)
  obtain ⟨vq2, oq2, gq2, rfl, rfl⟩ := hQ
  obtain ⟨hP, hD⟩ := hF [mF C mo (nI n) (nI y) (nI 0) pl fl tl vq2 oq2 b gq2 pa cd td] (flat_one _).symm rfl
  have hP : va_P C.1 vwCl (List.flatten [wU C ou x0, wF C x nw tr hq iq tt sC ba zq1 b bq1 ph r n tq1 fq1 vq1 oq1 y cd, mF C mo (nI n) (nI y) (nI 0) pl fl tl vq2 oq2 b gq2 pa cd td]) H := hP
  have hD : va_D (lwA s) (List.flatten [wU C ou x0, wF C x nw tr hq iq tt sC ba zq1 b bq1 ph r n tq1 fq1 vq1 oq1 y cd, mF C mo (nI n) (nI y) (nI 0) pl fl tl vq2 oq2 b gq2 pa cd td]) := hD
  refine W.eq (g2 := F0 m 1501 ls [.long (dgL b n y cd), .long (dgL b n y cd)]) rfl ?_
  have hP : va_P C.1 vwCl (List.flatten [wU C ou x0, wF C x nw tr hq iq tt sC ba zq1 b bq1 ph r n tq1 fq1 vq1 oq1 y cd, mF C mo (nI n) (nI y) (nI 0) pl fl tl vq2 oq2 b gq2 pa cd td]) H := hP
  have hD : va_D (lwA s) (List.flatten [wU C ou x0, wF C x nw tr hq iq tt sC ba zq1 b bq1 ph r n tq1 fq1 vq1 oq1 y cd, mF C mo (nI n) (nI y) (nI 0) pl fl tl vq2 oq2 b gq2 pa cd td]) := hD
  refine W.lcmp hx hb dL_law_1501 ?_
  refine lv_if_eq (tgt := 1507) hx hb dL_law_1502 (by decide) (fun _ => ?_) (fun q => absurd (lw_cmp _) q)
  exact K _ _ _ _ _ _ _ _ _ _ _ _ _ _ _ _ _ _ _ _ _ _ _ _ _ _ _ ⟨hok, hph, hfq, hy60, hcd, hpa⟩ (by omega) (by omega) hP hD hS (lv_sub hl [0, 1, 2, 3, 4] rfl)
end LawCasese
