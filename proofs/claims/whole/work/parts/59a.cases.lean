/-! the law, case after case: gift, way -/
section LawCasesa
variable {p : Program} {l : Launch} {e : Env} {s : State} {m : MethodId} {below : List Frame} {meth : Method} {c : Code} {Q : State → Prop} {C : q_C} {sA L x ou sC j : Nat} {xs : Nat → Int32} {nw tr hq iq tt mo : Nat → Nat} {ba : Nat → Nat → Nat}
set_option maxHeartbeats 4000000 in
set_option maxRecDepth 100000 in
theorem lw_gift (hc : lwC p l s m meth c C sA L xs) (hj : 6 * j + 6 ≤ L) (K : lwAt p l e s m below meth c Q C sA x ou sC nw tr hq iq tt ba mo j 1507 (j + 1)) : lwAt p l e s m below meth c Q C sA x ou sC nw tr hq iq tt ba mo j 152 j := by
  intro x0 z b b2 ph r n t f v o y cd tw pl fl tl v2 o2 gm pa td cells slots H locs ls okx hce hsl hP hD hS hl
  obtain ⟨hok, hph, hfr, hy60, hcd, hpa⟩ := okx
  have hB : OkB b := hok.1
  have hU : sumU b ≤ 9999 := hok.2
  have hr6 : r < 6 := hph.1
  have hn6 : n ≤ 6 := hph.2.1
  have hc0 := hc
  obtain ⟨hx, hb, hml, hown, hts, hK, hV, hE, hX, hsb, hL, hl0⟩ := hc0
  rcases cl2 (xs (6 * j + 1)) (xs (6 * j + 2)) with h0 | ⟨a1, a2, e1, e2, ha1, ha2⟩
  · skip
    refine lv_aload_n hx hb dL_law_152 rfl (lv_at hl 2 rfl) ?_
    refine lw_rd hc hj 1 (by decide) hS 1 0 hl rfl rfl dL_law_153 dL_law_154 dL_law_156 (by decide) dL_law_157 dL_law_158 rfl ?_
    refine lw_rd hc hj 2 (by decide) hS 1 0 hl rfl rfl dL_law_159 dL_law_160 dL_law_162 (by decide) dL_law_163 dL_law_164 rfl ?_
    refine lw_rd hc hj 3 (by decide) hS 1 0 hl rfl rfl dL_law_165 dL_law_166 dL_law_168 (by decide) dL_law_169 dL_law_170 rfl ?_
    refine lv_aload_n hx hb dL_law_171 rfl (lv_at hl 4 rfl) ?_
    refine q_SWB1 (Bs := [wU C ou x0, wF C x nw tr hq iq tt sC ba z b b2 ph r n t f v o y cd, mF C mo (nI n) (nI y) tw pl fl tl v2 o2 b gm pa cd td]) (cs := [wU C ou x0, wF C x nw tr hq iq tt sC ba z b b2 ph r n t f v o y cd]) (As := [.ref x, .int (xs (6 * j + 1)), .int (xs (6 * j + 2)), .int (xs (6 * j + 3)), .ref ou]) (rest := []) ⟨hx, hb, hml, hown, hts⟩ (W1_gift l hl0 C x (xs (6 * j + 1)) (xs (6 * j + 2)) (xs (6 * j + 3)) nw tr hq iq tt sC ba z b b2 r n ph t f v o y cd ou x0 h0) (vx_cwSW 5 hts gL_law_L_gift rfl rfl rfl (by decide +kernel) ⟨Nat.le_of_ble_eq_true rfl, Nat.le_of_ble_eq_true rfl⟩) hK hV hE hP hD hS (fun _ h => h) [0, 1] (by decide) rfl rfl hl.1 rfl (Nat.le_of_ble_eq_true rfl) dL_law_172 (lw_c1 hce hj hL) (lw_s1 hsl hj hL) (fun r w1 H locs hQ hF hS => ?_)
    obtain ⟨rfl, rfl⟩ := hQ
    obtain ⟨hP, hD⟩ := hF [wU C ou x0, wF C x nw tr hq iq tt sC ba z b b2 ph r n t f v o y cd] rfl rfl
    have hP : va_P C.1 vwCl (List.flatten [wU C ou x0, wF C x nw tr hq iq tt sC ba z b b2 ph r n t f v o y cd, mF C mo (nI n) (nI y) tw pl fl tl v2 o2 b gm pa cd td]) H := hP
    have hD : va_D (lwA s) (List.flatten [wU C ou x0, wF C x nw tr hq iq tt sC ba z b b2 ph r n t f v o y cd, mF C mo (nI n) (nI y) tw pl fl tl v2 o2 b gm pa cd td]) := hD
    refine W.eq (g2 := F0 m 175 ls [.int (nI 1)]) rfl ?_
    have hce : cells + 1 ≤ 100 + j + 1 := Nat.succ_le_succ hce
    have hsl : slots + 6 ≤ 2000 + 6 * j + 6 := Nat.add_le_add_right hsl 6
    refine lv_istore (lv' := [(5, .int (nI 1)), (4, .int (nI (6 * j))), (0, .ref sA), (1, .ref x), (2, .ref (mo 0)), (3, .ref ou)]) hx hb dL_law_175 hl (by decide) rfl (fun ls hl => ?_)
    refine lv_aload_n hx hb dL_law_177 rfl (lv_at hl 4 rfl) ?_
    refine lw_rd hc hj 1 (by decide) hS 2 1 hl rfl rfl dL_law_178 dL_law_179 dL_law_181 (by decide) dL_law_182 dL_law_183 rfl ?_
    refine lw_rd hc hj 2 (by decide) hS 2 1 hl rfl rfl dL_law_184 dL_law_185 dL_law_187 (by decide) dL_law_188 dL_law_189 rfl ?_
    refine lw_rd hc hj 3 (by decide) hS 2 1 hl rfl rfl dL_law_190 dL_law_191 dL_law_193 (by decide) dL_law_194 dL_law_195 rfl ?_
    refine q_VBE (Bs := [wU C ou x0, wF C x nw tr hq iq tt sC ba z b b2 ph r n t f v o y cd, mF C mo (nI n) (nI y) tw pl fl tl v2 o2 b gm pa cd td]) (cs := [mF C mo (nI n) (nI y) tw pl fl tl v2 o2 b gm pa cd td]) (As := [.int (xs (6 * j + 1)), .int (xs (6 * j + 2)), .int (xs (6 * j + 3))]) (rest := []) ⟨hx, hb, hml, hown, hts⟩ (M1_gift l C mo (nI n) (nI y) tw pl fl tl v2 o2 (xs (6 * j + 1)) (xs (6 * j + 2)) (xs (6 * j + 3)) b gm pa cd td h0).one (cwV 3 hts gL_law_X5_gift rfl rfl rfl (by decide +kernel) ⟨Nat.le_of_ble_eq_true rfl, Nat.le_of_ble_eq_true rfl⟩) hK hV hE hP hD hS (fun _ h => h) [2] (by decide) rfl 76 rfl rfl rfl rfl hl.1 rfl (Nat.le_of_ble_eq_true rfl) dL_law_196 (lw_c0 hce hj hL) (lw_s0 hsl hj hL) (fun r w1 H locs hQ hF hS => ?_)
    obtain ⟨rfl, rfl⟩ := hQ
    obtain ⟨hP, hD⟩ := hF [mF C mo (nI n) (nI y) (nI 1) pl fl tl v2 o2 b gm pa cd td] (flat_one _).symm rfl
    have hP : va_P C.1 vwCl (List.flatten [wU C ou x0, wF C x nw tr hq iq tt sC ba z b b2 ph r n t f v o y cd, mF C mo (nI n) (nI y) (nI 1) pl fl tl v2 o2 b gm pa cd td]) H := hP
    have hD : va_D (lwA s) (List.flatten [wU C ou x0, wF C x nw tr hq iq tt sC ba z b b2 ph r n t f v o y cd, mF C mo (nI n) (nI y) (nI 1) pl fl tl v2 o2 b gm pa cd td]) := hD
    refine W.eq (g2 := F0 m 199 ls [.int (nI 0)]) rfl ?_
    refine lv_istore (lv' := [(6, .int (nI 0)), (5, .int (nI 1)), (4, .int (nI (6 * j))), (0, .ref sA), (1, .ref x), (2, .ref (mo 0)), (3, .ref ou)]) hx hb dL_law_199 hl (by decide) rfl (fun ls hl => ?_)
    have hP : va_P C.1 vwCl (List.flatten [wU C ou x0, wF C x nw tr hq iq tt sC ba z b b2 ph r n t f v o y cd, mF C mo (nI n) (nI y) (nI 1) pl fl tl v2 o2 b gm pa cd td]) H := hP
    have hD : va_D (lwA s) (List.flatten [wU C ou x0, wF C x nw tr hq iq tt sC ba z b b2 ph r n t f v o y cd, mF C mo (nI n) (nI y) (nI 1) pl fl tl v2 o2 b gm pa cd td]) := hD
    exact lw_tailT hc hj K 1 (by decide) (by decide) ⟨hok, hph, hfr, hy60, hcd, hpa⟩ (by omega) (by omega) hP hD hS hl 5 rfl 1 rfl [2, 3, 4, 5, 6] rfl 28 (by decide) dL_law_201 dL_law_202 dL_law_205 dL_law_207 dL_law_212 dL_law_214 dL_law_229 (by decide)
  · skip
    rcases cl1 (xs (6 * j + 3)) (lo := 0) (hi := 99) (by decide) (by decide) with h1 | ⟨a3, e3, ha3, hb3⟩
    · skip
      refine lv_aload_n hx hb dL_law_152 rfl (lv_at hl 2 rfl) ?_
      refine lw_rd hc hj 1 (by decide) hS 1 0 hl rfl rfl dL_law_153 dL_law_154 dL_law_156 (by decide) dL_law_157 dL_law_158 e1 ?_
      refine lw_rd hc hj 2 (by decide) hS 1 0 hl rfl rfl dL_law_159 dL_law_160 dL_law_162 (by decide) dL_law_163 dL_law_164 e2 ?_
      refine lw_rd hc hj 3 (by decide) hS 1 0 hl rfl rfl dL_law_165 dL_law_166 dL_law_168 (by decide) dL_law_169 dL_law_170 rfl ?_
      refine lv_aload_n hx hb dL_law_171 rfl (lv_at hl 4 rfl) ?_
      refine q_SWB1 (Bs := [wU C ou x0, wF C x nw tr hq iq tt sC ba z b b2 ph r n t f v o y cd, mF C mo (nI n) (nI y) tw pl fl tl v2 o2 b gm pa cd td]) (cs := [wU C ou x0, wF C x nw tr hq iq tt sC ba z b b2 ph r n t f v o y cd]) (As := [.ref x, .int (nI a1), .int (nI a2), .int (xs (6 * j + 3)), .ref ou]) (rest := []) ⟨hx, hb, hml, hown, hts⟩ (W2_gift l hl0 C x a1 a2 (xs (6 * j + 3)) nw tr hq iq tt sC ba z b b2 r n ph t f v o y cd ou x0 (by omega) (by omega) h1) (vx_cwSW 5 hts gL_law_L_gift rfl rfl rfl (by decide +kernel) ⟨Nat.le_of_ble_eq_true rfl, Nat.le_of_ble_eq_true rfl⟩) hK hV hE hP hD hS (fun _ h => h) [0, 1] (by decide) rfl rfl hl.1 rfl (Nat.le_of_ble_eq_true rfl) dL_law_172 (lw_c1 hce hj hL) (lw_s1 hsl hj hL) (fun r w1 H locs hQ hF hS => ?_)
      obtain ⟨rfl, rfl⟩ := hQ
      obtain ⟨hP, hD⟩ := hF [wU C ou x0, wF C x nw tr hq iq tt sC ba z b b2 ph r n t f v o y cd] rfl rfl
      have hP : va_P C.1 vwCl (List.flatten [wU C ou x0, wF C x nw tr hq iq tt sC ba z b b2 ph r n t f v o y cd, mF C mo (nI n) (nI y) tw pl fl tl v2 o2 b gm pa cd td]) H := hP
      have hD : va_D (lwA s) (List.flatten [wU C ou x0, wF C x nw tr hq iq tt sC ba z b b2 ph r n t f v o y cd, mF C mo (nI n) (nI y) tw pl fl tl v2 o2 b gm pa cd td]) := hD
      refine W.eq (g2 := F0 m 175 ls [.int (nI 2)]) rfl ?_
      have hce : cells + 1 ≤ 100 + j + 1 := Nat.succ_le_succ hce
      have hsl : slots + 6 ≤ 2000 + 6 * j + 6 := Nat.add_le_add_right hsl 6
      refine lv_istore (lv' := [(5, .int (nI 2)), (4, .int (nI (6 * j))), (0, .ref sA), (1, .ref x), (2, .ref (mo 0)), (3, .ref ou)]) hx hb dL_law_175 hl (by decide) rfl (fun ls hl => ?_)
      refine lv_aload_n hx hb dL_law_177 rfl (lv_at hl 4 rfl) ?_
      refine lw_rd hc hj 1 (by decide) hS 2 1 hl rfl rfl dL_law_178 dL_law_179 dL_law_181 (by decide) dL_law_182 dL_law_183 e1 ?_
      refine lw_rd hc hj 2 (by decide) hS 2 1 hl rfl rfl dL_law_184 dL_law_185 dL_law_187 (by decide) dL_law_188 dL_law_189 e2 ?_
      refine lw_rd hc hj 3 (by decide) hS 2 1 hl rfl rfl dL_law_190 dL_law_191 dL_law_193 (by decide) dL_law_194 dL_law_195 rfl ?_
      refine q_VBE (Bs := [wU C ou x0, wF C x nw tr hq iq tt sC ba z b b2 ph r n t f v o y cd, mF C mo (nI n) (nI y) tw pl fl tl v2 o2 b gm pa cd td]) (cs := [mF C mo (nI n) (nI y) tw pl fl tl v2 o2 b gm pa cd td]) (As := [.int (nI a1), .int (nI a2), .int (xs (6 * j + 3))]) (rest := []) ⟨hx, hb, hml, hown, hts⟩ (M2_gift l C mo (nI n) (nI y) tw pl fl tl v2 o2 a1 a2 (xs (6 * j + 3)) b gm pa cd td (by omega) (by omega) h1).one (cwV 3 hts gL_law_X5_gift rfl rfl rfl (by decide +kernel) ⟨Nat.le_of_ble_eq_true rfl, Nat.le_of_ble_eq_true rfl⟩) hK hV hE hP hD hS (fun _ h => h) [2] (by decide) rfl 76 rfl rfl rfl rfl hl.1 rfl (Nat.le_of_ble_eq_true rfl) dL_law_196 (lw_c0 hce hj hL) (lw_s0 hsl hj hL) (fun r w1 H locs hQ hF hS => ?_)
      obtain ⟨rfl, rfl⟩ := hQ
      obtain ⟨hP, hD⟩ := hF [mF C mo (nI n) (nI y) (nI 2) pl fl tl v2 o2 b gm pa cd td] (flat_one _).symm rfl
      have hP : va_P C.1 vwCl (List.flatten [wU C ou x0, wF C x nw tr hq iq tt sC ba z b b2 ph r n t f v o y cd, mF C mo (nI n) (nI y) (nI 2) pl fl tl v2 o2 b gm pa cd td]) H := hP
      have hD : va_D (lwA s) (List.flatten [wU C ou x0, wF C x nw tr hq iq tt sC ba z b b2 ph r n t f v o y cd, mF C mo (nI n) (nI y) (nI 2) pl fl tl v2 o2 b gm pa cd td]) := hD
      refine W.eq (g2 := F0 m 199 ls [.int (nI 0)]) rfl ?_
      refine lv_istore (lv' := [(6, .int (nI 0)), (5, .int (nI 2)), (4, .int (nI (6 * j))), (0, .ref sA), (1, .ref x), (2, .ref (mo 0)), (3, .ref ou)]) hx hb dL_law_199 hl (by decide) rfl (fun ls hl => ?_)
      have hP : va_P C.1 vwCl (List.flatten [wU C ou x0, wF C x nw tr hq iq tt sC ba z b b2 ph r n t f v o y cd, mF C mo (nI n) (nI y) (nI 2) pl fl tl v2 o2 b gm pa cd td]) H := hP
      have hD : va_D (lwA s) (List.flatten [wU C ou x0, wF C x nw tr hq iq tt sC ba z b b2 ph r n t f v o y cd, mF C mo (nI n) (nI y) (nI 2) pl fl tl v2 o2 b gm pa cd td]) := hD
      exact lw_tailT hc hj K 2 (by decide) (by decide) ⟨hok, hph, hfr, hy60, hcd, hpa⟩ (by omega) (by omega) hP hD hS hl 5 rfl 1 rfl [2, 3, 4, 5, 6] rfl 28 (by decide) dL_law_201 dL_law_202 dL_law_205 dL_law_207 dL_law_212 dL_law_214 dL_law_229 (by decide)
    · skip
      refine lv_aload_n hx hb dL_law_152 rfl (lv_at hl 2 rfl) ?_
      refine lw_rd hc hj 1 (by decide) hS 1 0 hl rfl rfl dL_law_153 dL_law_154 dL_law_156 (by decide) dL_law_157 dL_law_158 e1 ?_
      refine lw_rd hc hj 2 (by decide) hS 1 0 hl rfl rfl dL_law_159 dL_law_160 dL_law_162 (by decide) dL_law_163 dL_law_164 e2 ?_
      refine lw_rd hc hj 3 (by decide) hS 1 0 hl rfl rfl dL_law_165 dL_law_166 dL_law_168 (by decide) dL_law_169 dL_law_170 e3 ?_
      refine lv_aload_n hx hb dL_law_171 rfl (lv_at hl 4 rfl) ?_
      refine q_SWB (Bs := [wU C ou x0, wF C x nw tr hq iq tt sC ba z b b2 ph r n t f v o y cd, mF C mo (nI n) (nI y) tw pl fl tl v2 o2 b gm pa cd td]) (cs := [wU C ou x0, wF C x nw tr hq iq tt sC ba z b b2 ph r n t f v o y cd]) (As := [.ref x, .int (nI a1), .int (nI a2), .int (nI a3), .ref ou]) (rest := []) ⟨hx, hb, hml, hown, hts⟩ (W_gift l C x nw tr hq iq tt sC z ba ph r n b t f v o a1 a2 a3 b2 y cd ou x0 hr6 hn6 (by omega) (by omega) (by omega)) (vx_cwSW 5 hts gL_law_L_gift rfl rfl rfl (by decide +kernel) ⟨Nat.le_of_ble_eq_true rfl, Nat.le_of_ble_eq_true rfl⟩) hK hV hE hP hD hS (fun _ h => h) [0, 1] (by decide) rfl rfl hl.1 rfl (Nat.le_of_ble_eq_true rfl) dL_law_172 (lw_c0 hce hj hL) (lw_s0 hsl hj hL) (fun r w1 H locs hQ hF hS => ?_)
      obtain ⟨rfl, rfl⟩ := hQ
      obtain ⟨hP, hD⟩ := hF [wU C ou ((nI (bg b (4 * a1 + a2))).toInt64), wF C x nw tr hq iq tt sC ba z (sg b (upN (bg b) (4 * a1 + a2) a3)) b2 (upB ph (kJ n r) b) (kR n r) (kC n) t (upN f a1 0) v o y cd] rfl rfl
      have hP : va_P C.1 vwCl (List.flatten [wU C ou ((nI (bg b (4 * a1 + a2))).toInt64), wF C x nw tr hq iq tt sC ba z (sg b (upN (bg b) (4 * a1 + a2) a3)) b2 (upB ph (kJ n r) b) (kR n r) (kC n) t (upN f a1 0) v o y cd, mF C mo (nI n) (nI y) tw pl fl tl v2 o2 b gm pa cd td]) H := hP
      have hD : va_D (lwA s) (List.flatten [wU C ou ((nI (bg b (4 * a1 + a2))).toInt64), wF C x nw tr hq iq tt sC ba z (sg b (upN (bg b) (4 * a1 + a2) a3)) b2 (upB ph (kJ n r) b) (kR n r) (kC n) t (upN f a1 0) v o y cd, mF C mo (nI n) (nI y) tw pl fl tl v2 o2 b gm pa cd td]) := hD
      refine W.eq (g2 := F0 m 175 ls [.int (nI 0)]) rfl ?_
      refine lv_istore (lv' := [(5, .int (nI 0)), (4, .int (nI (6 * j))), (0, .ref sA), (1, .ref x), (2, .ref (mo 0)), (3, .ref ou)]) hx hb dL_law_175 hl (by decide) rfl (fun ls hl => ?_)
      refine lv_aload_n hx hb dL_law_177 rfl (lv_at hl 4 rfl) ?_
      refine lw_rd hc hj 1 (by decide) hS 2 1 hl rfl rfl dL_law_178 dL_law_179 dL_law_181 (by decide) dL_law_182 dL_law_183 e1 ?_
      refine lw_rd hc hj 2 (by decide) hS 2 1 hl rfl rfl dL_law_184 dL_law_185 dL_law_187 (by decide) dL_law_188 dL_law_189 e2 ?_
      refine lw_rd hc hj 3 (by decide) hS 2 1 hl rfl rfl dL_law_190 dL_law_191 dL_law_193 (by decide) dL_law_194 dL_law_195 e3 ?_
      refine q_VBE (Bs := [wU C ou ((nI (bg b (4 * a1 + a2))).toInt64), wF C x nw tr hq iq tt sC ba z (sg b (upN (bg b) (4 * a1 + a2) a3)) b2 (upB ph (kJ n r) b) (kR n r) (kC n) t (upN f a1 0) v o y cd, mF C mo (nI n) (nI y) tw pl fl tl v2 o2 b gm pa cd td]) (cs := [mF C mo (nI n) (nI y) tw pl fl tl v2 o2 b gm pa cd td]) (As := [.int (nI a1), .int (nI a2), .int (nI a3)]) (rest := []) ⟨hx, hb, hml, hown, hts⟩ (M_gift l C mo (nI y) tw pl fl tl v2 o2 ph r n pa b a1 a2 a3 gm cd td hr6 hn6 hpa (by omega) (by omega) (by omega)).one (cwV 3 hts gL_law_X5_gift rfl rfl rfl (by decide +kernel) ⟨Nat.le_of_ble_eq_true rfl, Nat.le_of_ble_eq_true rfl⟩) hK hV hE hP hD hS (fun _ h => h) [2] (by decide) rfl 76 rfl rfl rfl rfl hl.1 rfl (Nat.le_of_ble_eq_true rfl) dL_law_196 (lw_c0 hce hj hL) (lw_s0 hsl hj hL) (fun r w1 H locs hQ hF hS => ?_)
      obtain ⟨paq6, rfl, rfl, hmh⟩ := hQ
      obtain ⟨hP, hD⟩ := hF [mF C mo (nI (kC n)) (nI y) (nI 0) pl fl tl v2 o2 (sg b (upN (bg b) (4 * a1 + a2) a3)) gm paq6 cd td] (flat_one _).symm rfl
      have hP : va_P C.1 vwCl (List.flatten [wU C ou ((nI (bg b (4 * a1 + a2))).toInt64), wF C x nw tr hq iq tt sC ba z (sg b (upN (bg b) (4 * a1 + a2) a3)) b2 (upB ph (kJ n r) b) (kR n r) (kC n) t (upN f a1 0) v o y cd, mF C mo (nI (kC n)) (nI y) (nI 0) pl fl tl v2 o2 (sg b (upN (bg b) (4 * a1 + a2) a3)) gm paq6 cd td]) H := hP
      have hD : va_D (lwA s) (List.flatten [wU C ou ((nI (bg b (4 * a1 + a2))).toInt64), wF C x nw tr hq iq tt sC ba z (sg b (upN (bg b) (4 * a1 + a2) a3)) b2 (upB ph (kJ n r) b) (kR n r) (kC n) t (upN f a1 0) v o y cd, mF C mo (nI (kC n)) (nI y) (nI 0) pl fl tl v2 o2 (sg b (upN (bg b) (4 * a1 + a2) a3)) gm paq6 cd td]) := hD
      refine W.eq (g2 := F0 m 199 ls [.int (nI (bg b (4 * a1 + a2)))]) rfl ?_
      refine lv_istore (lv' := [(6, .int (nI (bg b (4 * a1 + a2)))), (5, .int (nI 0)), (4, .int (nI (6 * j))), (0, .ref sA), (1, .ref x), (2, .ref (mo 0)), (3, .ref ou)]) hx hb dL_law_199 hl (by decide) rfl (fun ls hl => ?_)
      have hP : va_P C.1 vwCl (List.flatten [wU C ou ((nI (bg b (4 * a1 + a2))).toInt64), wF C x nw tr hq iq tt sC ba z (sg b (upN (bg b) (4 * a1 + a2) a3)) b2 (upB ph (kJ n r) b) (kR n r) (kC n) t (upN f a1 0) v o y cd, mF C mo (nI (kC n)) (nI y) (nI 0) pl fl tl v2 o2 (sg b (upN (bg b) (4 * a1 + a2) a3)) gm paq6 cd td]) H := hP
      have hD : va_D (lwA s) (List.flatten [wU C ou ((nI (bg b (4 * a1 + a2))).toInt64), wF C x nw tr hq iq tt sC ba z (sg b (upN (bg b) (4 * a1 + a2) a3)) b2 (upB ph (kJ n r) b) (kR n r) (kC n) t (upN f a1 0) v o y cd, mF C mo (nI (kC n)) (nI y) (nI 0) pl fl tl v2 o2 (sg b (upN (bg b) (4 * a1 + a2) a3)) gm paq6 cd td]) := hD
      exact lw_tailI hc hj K ⟨okS_sg hok (by omega), okH_keep hph hok, frB_gift hB hfr (by omega), hy60, hcd, hmh⟩ (by omega) (by omega) hP hD hS hl 5 rfl 1 rfl 6 rfl 0 rfl [2, 3, 4, 5, 6] rfl dL_law_201 dL_law_202 dL_law_205 dL_law_207 dL_law_212 dL_law_214 dL_law_217 dL_law_218 dL_law_219 dL_law_220 dL_law_222 dL_law_223 dL_law_224 dL_law_229 (by decide)
set_option maxHeartbeats 4000000 in
set_option maxRecDepth 100000 in
theorem lw_way (hc : lwC p l s m meth c C sA L xs) (hj : 6 * j + 6 ≤ L) (K : lwAt p l e s m below meth c Q C sA x ou sC nw tr hq iq tt ba mo j 1507 (j + 1)) : lwAt p l e s m below meth c Q C sA x ou sC nw tr hq iq tt ba mo j 232 j := by
  intro x0 z b b2 ph r n t f v o y cd tw pl fl tl v2 o2 gm pa td cells slots H locs ls okx hce hsl hP hD hS hl
  obtain ⟨hok, hph, hfr, hy60, hcd, hpa⟩ := okx
  have hB : OkB b := hok.1
  have hU : sumU b ≤ 9999 := hok.2
  have hr6 : r < 6 := hph.1
  have hn6 : n ≤ 6 := hph.2.1
  have hc0 := hc
  obtain ⟨hx, hb, hml, hown, hts, hK, hV, hE, hX, hsb, hL, hl0⟩ := hc0
  rcases cl2 (xs (6 * j + 1)) (xs (6 * j + 2)) with h0 | ⟨a1, a2, e1, e2, ha1, ha2⟩
  · skip
    refine lv_aload_n hx hb dL_law_232 rfl (lv_at hl 2 rfl) ?_
    refine lw_rd hc hj 1 (by decide) hS 1 0 hl rfl rfl dL_law_233 dL_law_234 dL_law_236 (by decide) dL_law_237 dL_law_238 rfl ?_
    refine lw_rd hc hj 2 (by decide) hS 1 0 hl rfl rfl dL_law_239 dL_law_240 dL_law_242 (by decide) dL_law_243 dL_law_244 rfl ?_
    refine lw_rd hc hj 3 (by decide) hS 1 0 hl rfl rfl dL_law_245 dL_law_246 dL_law_248 (by decide) dL_law_249 dL_law_250 rfl ?_
    refine lw_rd hc hj 4 (by decide) hS 1 0 hl rfl rfl dL_law_251 dL_law_252 dL_law_254 (by decide) dL_law_255 dL_law_256 rfl ?_
    refine lw_rd hc hj 5 (by decide) hS 1 0 hl rfl rfl dL_law_257 dL_law_258 dL_law_260 (by decide) dL_law_261 dL_law_262 rfl ?_
    refine lv_aload_n hx hb dL_law_263 rfl (lv_at hl 4 rfl) ?_
    refine q_SWB1 (Bs := [wU C ou x0, wF C x nw tr hq iq tt sC ba z b b2 ph r n t f v o y cd, mF C mo (nI n) (nI y) tw pl fl tl v2 o2 b gm pa cd td]) (cs := [wU C ou x0, wF C x nw tr hq iq tt sC ba z b b2 ph r n t f v o y cd]) (As := [.ref x, .int (xs (6 * j + 1)), .int (xs (6 * j + 2)), .int (xs (6 * j + 3)), .int (xs (6 * j + 4)), .int (xs (6 * j + 5)), .ref ou]) (rest := []) ⟨hx, hb, hml, hown, hts⟩ (W1a_way l hl0 C x (xs (6 * j + 1)) (xs (6 * j + 2)) (xs (6 * j + 3)) (xs (6 * j + 4)) (xs (6 * j + 5)) nw tr hq iq tt sC ba z b b2 r n ph t f v o y cd ou x0 h0) (vx_cwSW 7 hts gL_law_L_way rfl rfl rfl (by decide +kernel) ⟨Nat.le_of_ble_eq_true rfl, Nat.le_of_ble_eq_true rfl⟩) hK hV hE hP hD hS (fun _ h => h) [0, 1] (by decide) rfl rfl hl.1 rfl (Nat.le_of_ble_eq_true rfl) dL_law_264 (lw_c1 hce hj hL) (lw_s1 hsl hj hL) (fun r w1 H locs hQ hF hS => ?_)
    obtain ⟨rfl, rfl⟩ := hQ
    obtain ⟨hP, hD⟩ := hF [wU C ou x0, wF C x nw tr hq iq tt sC ba z b b2 ph r n t f v o y cd] rfl rfl
    have hP : va_P C.1 vwCl (List.flatten [wU C ou x0, wF C x nw tr hq iq tt sC ba z b b2 ph r n t f v o y cd, mF C mo (nI n) (nI y) tw pl fl tl v2 o2 b gm pa cd td]) H := hP
    have hD : va_D (lwA s) (List.flatten [wU C ou x0, wF C x nw tr hq iq tt sC ba z b b2 ph r n t f v o y cd, mF C mo (nI n) (nI y) tw pl fl tl v2 o2 b gm pa cd td]) := hD
    refine W.eq (g2 := F0 m 267 ls [.int (nI 1)]) rfl ?_
    have hce : cells + 1 ≤ 100 + j + 1 := Nat.succ_le_succ hce
    have hsl : slots + 6 ≤ 2000 + 6 * j + 6 := Nat.add_le_add_right hsl 6
    refine lv_istore (lv' := [(5, .int (nI 1)), (4, .int (nI (6 * j))), (0, .ref sA), (1, .ref x), (2, .ref (mo 0)), (3, .ref ou)]) hx hb dL_law_267 hl (by decide) rfl (fun ls hl => ?_)
    refine lv_aload_n hx hb dL_law_269 rfl (lv_at hl 4 rfl) ?_
    refine lw_rd hc hj 1 (by decide) hS 2 1 hl rfl rfl dL_law_270 dL_law_271 dL_law_273 (by decide) dL_law_274 dL_law_275 rfl ?_
    refine lw_rd hc hj 2 (by decide) hS 2 1 hl rfl rfl dL_law_276 dL_law_277 dL_law_279 (by decide) dL_law_280 dL_law_281 rfl ?_
    refine lw_rd hc hj 3 (by decide) hS 2 1 hl rfl rfl dL_law_282 dL_law_283 dL_law_285 (by decide) dL_law_286 dL_law_287 rfl ?_
    refine lw_rd hc hj 4 (by decide) hS 2 1 hl rfl rfl dL_law_288 dL_law_289 dL_law_291 (by decide) dL_law_292 dL_law_293 rfl ?_
    refine lw_rd hc hj 5 (by decide) hS 2 1 hl rfl rfl dL_law_294 dL_law_295 dL_law_297 (by decide) dL_law_298 dL_law_299 rfl ?_
    refine q_VBE (Bs := [wU C ou x0, wF C x nw tr hq iq tt sC ba z b b2 ph r n t f v o y cd, mF C mo (nI n) (nI y) tw pl fl tl v2 o2 b gm pa cd td]) (cs := [mF C mo (nI n) (nI y) tw pl fl tl v2 o2 b gm pa cd td]) (As := [.int (xs (6 * j + 1)), .int (xs (6 * j + 2)), .int (xs (6 * j + 3)), .int (xs (6 * j + 4)), .int (xs (6 * j + 5))]) (rest := []) ⟨hx, hb, hml, hown, hts⟩ (M1_way l C mo (nI n) (nI y) tw pl fl tl v2 o2 (xs (6 * j + 1)) (xs (6 * j + 2)) (xs (6 * j + 3)) (xs (6 * j + 4)) (xs (6 * j + 5)) b gm pa cd td (by rw [h0, Bool.false_and, Bool.false_and])).one (cwV 5 hts gL_law_X5_way rfl rfl rfl (by decide +kernel) ⟨Nat.le_of_ble_eq_true rfl, Nat.le_of_ble_eq_true rfl⟩) hK hV hE hP hD hS (fun _ h => h) [2] (by decide) rfl 76 rfl rfl rfl rfl hl.1 rfl (Nat.le_of_ble_eq_true rfl) dL_law_300 (lw_c0 hce hj hL) (lw_s0 hsl hj hL) (fun r w1 H locs hQ hF hS => ?_)
    obtain ⟨rfl, rfl⟩ := hQ
    obtain ⟨hP, hD⟩ := hF [mF C mo (nI n) (nI y) (nI 1) pl fl tl v2 o2 b gm pa cd td] (flat_one _).symm rfl
    have hP : va_P C.1 vwCl (List.flatten [wU C ou x0, wF C x nw tr hq iq tt sC ba z b b2 ph r n t f v o y cd, mF C mo (nI n) (nI y) (nI 1) pl fl tl v2 o2 b gm pa cd td]) H := hP
    have hD : va_D (lwA s) (List.flatten [wU C ou x0, wF C x nw tr hq iq tt sC ba z b b2 ph r n t f v o y cd, mF C mo (nI n) (nI y) (nI 1) pl fl tl v2 o2 b gm pa cd td]) := hD
    refine W.eq (g2 := F0 m 303 ls [.int (nI 0)]) rfl ?_
    refine lv_istore (lv' := [(6, .int (nI 0)), (5, .int (nI 1)), (4, .int (nI (6 * j))), (0, .ref sA), (1, .ref x), (2, .ref (mo 0)), (3, .ref ou)]) hx hb dL_law_303 hl (by decide) rfl (fun ls hl => ?_)
    have hP : va_P C.1 vwCl (List.flatten [wU C ou x0, wF C x nw tr hq iq tt sC ba z b b2 ph r n t f v o y cd, mF C mo (nI n) (nI y) (nI 1) pl fl tl v2 o2 b gm pa cd td]) H := hP
    have hD : va_D (lwA s) (List.flatten [wU C ou x0, wF C x nw tr hq iq tt sC ba z b b2 ph r n t f v o y cd, mF C mo (nI n) (nI y) (nI 1) pl fl tl v2 o2 b gm pa cd td]) := hD
    exact lw_tailT hc hj K 1 (by decide) (by decide) ⟨hok, hph, hfr, hy60, hcd, hpa⟩ (by omega) (by omega) hP hD hS hl 5 rfl 1 rfl [2, 3, 4, 5, 6] rfl 28 (by decide) dL_law_305 dL_law_306 dL_law_309 dL_law_311 dL_law_316 dL_law_318 dL_law_333 (by decide)
  · skip
    rcases cl1 (xs (6 * j + 3)) (lo := 0) (hi := 3) (by decide) (by decide) with h1 | ⟨a3, e3, ha3, hb3⟩
    · skip
      refine lv_aload_n hx hb dL_law_232 rfl (lv_at hl 2 rfl) ?_
      refine lw_rd hc hj 1 (by decide) hS 1 0 hl rfl rfl dL_law_233 dL_law_234 dL_law_236 (by decide) dL_law_237 dL_law_238 e1 ?_
      refine lw_rd hc hj 2 (by decide) hS 1 0 hl rfl rfl dL_law_239 dL_law_240 dL_law_242 (by decide) dL_law_243 dL_law_244 e2 ?_
      refine lw_rd hc hj 3 (by decide) hS 1 0 hl rfl rfl dL_law_245 dL_law_246 dL_law_248 (by decide) dL_law_249 dL_law_250 rfl ?_
      refine lw_rd hc hj 4 (by decide) hS 1 0 hl rfl rfl dL_law_251 dL_law_252 dL_law_254 (by decide) dL_law_255 dL_law_256 rfl ?_
      refine lw_rd hc hj 5 (by decide) hS 1 0 hl rfl rfl dL_law_257 dL_law_258 dL_law_260 (by decide) dL_law_261 dL_law_262 rfl ?_
      refine lv_aload_n hx hb dL_law_263 rfl (lv_at hl 4 rfl) ?_
      refine q_SWB1 (Bs := [wU C ou x0, wF C x nw tr hq iq tt sC ba z b b2 ph r n t f v o y cd, mF C mo (nI n) (nI y) tw pl fl tl v2 o2 b gm pa cd td]) (cs := [wU C ou x0, wF C x nw tr hq iq tt sC ba z b b2 ph r n t f v o y cd]) (As := [.ref x, .int (nI a1), .int (nI a2), .int (xs (6 * j + 3)), .int (xs (6 * j + 4)), .int (xs (6 * j + 5)), .ref ou]) (rest := []) ⟨hx, hb, hml, hown, hts⟩ (W1b_way l hl0 C x a1 a2 (xs (6 * j + 3)) (xs (6 * j + 4)) (xs (6 * j + 5)) nw tr hq iq tt sC ba z b b2 r n ph t f v o y cd ou x0 (by omega) (by omega) (by rw [h1, Bool.and_false])) (vx_cwSW 7 hts gL_law_L_way rfl rfl rfl (by decide +kernel) ⟨Nat.le_of_ble_eq_true rfl, Nat.le_of_ble_eq_true rfl⟩) hK hV hE hP hD hS (fun _ h => h) [0, 1] (by decide) rfl rfl hl.1 rfl (Nat.le_of_ble_eq_true rfl) dL_law_264 (lw_c1 hce hj hL) (lw_s1 hsl hj hL) (fun r w1 H locs hQ hF hS => ?_)
      obtain ⟨rfl, rfl⟩ := hQ
      obtain ⟨hP, hD⟩ := hF [wU C ou x0, wF C x nw tr hq iq tt sC ba z b b2 ph r n t f v o y cd] rfl rfl
      have hP : va_P C.1 vwCl (List.flatten [wU C ou x0, wF C x nw tr hq iq tt sC ba z b b2 ph r n t f v o y cd, mF C mo (nI n) (nI y) tw pl fl tl v2 o2 b gm pa cd td]) H := hP
      have hD : va_D (lwA s) (List.flatten [wU C ou x0, wF C x nw tr hq iq tt sC ba z b b2 ph r n t f v o y cd, mF C mo (nI n) (nI y) tw pl fl tl v2 o2 b gm pa cd td]) := hD
      refine W.eq (g2 := F0 m 267 ls [.int (nI 1)]) rfl ?_
      have hce : cells + 1 ≤ 100 + j + 1 := Nat.succ_le_succ hce
      have hsl : slots + 6 ≤ 2000 + 6 * j + 6 := Nat.add_le_add_right hsl 6
      refine lv_istore (lv' := [(5, .int (nI 1)), (4, .int (nI (6 * j))), (0, .ref sA), (1, .ref x), (2, .ref (mo 0)), (3, .ref ou)]) hx hb dL_law_267 hl (by decide) rfl (fun ls hl => ?_)
      refine lv_aload_n hx hb dL_law_269 rfl (lv_at hl 4 rfl) ?_
      refine lw_rd hc hj 1 (by decide) hS 2 1 hl rfl rfl dL_law_270 dL_law_271 dL_law_273 (by decide) dL_law_274 dL_law_275 e1 ?_
      refine lw_rd hc hj 2 (by decide) hS 2 1 hl rfl rfl dL_law_276 dL_law_277 dL_law_279 (by decide) dL_law_280 dL_law_281 e2 ?_
      refine lw_rd hc hj 3 (by decide) hS 2 1 hl rfl rfl dL_law_282 dL_law_283 dL_law_285 (by decide) dL_law_286 dL_law_287 rfl ?_
      refine lw_rd hc hj 4 (by decide) hS 2 1 hl rfl rfl dL_law_288 dL_law_289 dL_law_291 (by decide) dL_law_292 dL_law_293 rfl ?_
      refine lw_rd hc hj 5 (by decide) hS 2 1 hl rfl rfl dL_law_294 dL_law_295 dL_law_297 (by decide) dL_law_298 dL_law_299 rfl ?_
      refine q_VBE (Bs := [wU C ou x0, wF C x nw tr hq iq tt sC ba z b b2 ph r n t f v o y cd, mF C mo (nI n) (nI y) tw pl fl tl v2 o2 b gm pa cd td]) (cs := [mF C mo (nI n) (nI y) tw pl fl tl v2 o2 b gm pa cd td]) (As := [.int (nI a1), .int (nI a2), .int (xs (6 * j + 3)), .int (xs (6 * j + 4)), .int (xs (6 * j + 5))]) (rest := []) ⟨hx, hb, hml, hown, hts⟩ (M1_way l C mo (nI n) (nI y) tw pl fl tl v2 o2 (nI a1) (nI a2) (xs (6 * j + 3)) (xs (6 * j + 4)) (xs (6 * j + 5)) b gm pa cd td (by rw [h1, Bool.and_false, Bool.false_and])).one (cwV 5 hts gL_law_X5_way rfl rfl rfl (by decide +kernel) ⟨Nat.le_of_ble_eq_true rfl, Nat.le_of_ble_eq_true rfl⟩) hK hV hE hP hD hS (fun _ h => h) [2] (by decide) rfl 76 rfl rfl rfl rfl hl.1 rfl (Nat.le_of_ble_eq_true rfl) dL_law_300 (lw_c0 hce hj hL) (lw_s0 hsl hj hL) (fun r w1 H locs hQ hF hS => ?_)
      obtain ⟨rfl, rfl⟩ := hQ
      obtain ⟨hP, hD⟩ := hF [mF C mo (nI n) (nI y) (nI 1) pl fl tl v2 o2 b gm pa cd td] (flat_one _).symm rfl
      have hP : va_P C.1 vwCl (List.flatten [wU C ou x0, wF C x nw tr hq iq tt sC ba z b b2 ph r n t f v o y cd, mF C mo (nI n) (nI y) (nI 1) pl fl tl v2 o2 b gm pa cd td]) H := hP
      have hD : va_D (lwA s) (List.flatten [wU C ou x0, wF C x nw tr hq iq tt sC ba z b b2 ph r n t f v o y cd, mF C mo (nI n) (nI y) (nI 1) pl fl tl v2 o2 b gm pa cd td]) := hD
      refine W.eq (g2 := F0 m 303 ls [.int (nI 0)]) rfl ?_
      refine lv_istore (lv' := [(6, .int (nI 0)), (5, .int (nI 1)), (4, .int (nI (6 * j))), (0, .ref sA), (1, .ref x), (2, .ref (mo 0)), (3, .ref ou)]) hx hb dL_law_303 hl (by decide) rfl (fun ls hl => ?_)
      have hP : va_P C.1 vwCl (List.flatten [wU C ou x0, wF C x nw tr hq iq tt sC ba z b b2 ph r n t f v o y cd, mF C mo (nI n) (nI y) (nI 1) pl fl tl v2 o2 b gm pa cd td]) H := hP
      have hD : va_D (lwA s) (List.flatten [wU C ou x0, wF C x nw tr hq iq tt sC ba z b b2 ph r n t f v o y cd, mF C mo (nI n) (nI y) (nI 1) pl fl tl v2 o2 b gm pa cd td]) := hD
      exact lw_tailT hc hj K 1 (by decide) (by decide) ⟨hok, hph, hfr, hy60, hcd, hpa⟩ (by omega) (by omega) hP hD hS hl 5 rfl 1 rfl [2, 3, 4, 5, 6] rfl 28 (by decide) dL_law_305 dL_law_306 dL_law_309 dL_law_311 dL_law_316 dL_law_318 dL_law_333 (by decide)
    · skip
      rcases cl1 (xs (6 * j + 4)) (lo := 0) (hi := 3) (by decide) (by decide) with h2 | ⟨a4, e4, ha4, hb4⟩
      · skip
        refine lv_aload_n hx hb dL_law_232 rfl (lv_at hl 2 rfl) ?_
        refine lw_rd hc hj 1 (by decide) hS 1 0 hl rfl rfl dL_law_233 dL_law_234 dL_law_236 (by decide) dL_law_237 dL_law_238 e1 ?_
        refine lw_rd hc hj 2 (by decide) hS 1 0 hl rfl rfl dL_law_239 dL_law_240 dL_law_242 (by decide) dL_law_243 dL_law_244 e2 ?_
        refine lw_rd hc hj 3 (by decide) hS 1 0 hl rfl rfl dL_law_245 dL_law_246 dL_law_248 (by decide) dL_law_249 dL_law_250 e3 ?_
        refine lw_rd hc hj 4 (by decide) hS 1 0 hl rfl rfl dL_law_251 dL_law_252 dL_law_254 (by decide) dL_law_255 dL_law_256 rfl ?_
        refine lw_rd hc hj 5 (by decide) hS 1 0 hl rfl rfl dL_law_257 dL_law_258 dL_law_260 (by decide) dL_law_261 dL_law_262 rfl ?_
        refine lv_aload_n hx hb dL_law_263 rfl (lv_at hl 4 rfl) ?_
        refine q_SWB1 (Bs := [wU C ou x0, wF C x nw tr hq iq tt sC ba z b b2 ph r n t f v o y cd, mF C mo (nI n) (nI y) tw pl fl tl v2 o2 b gm pa cd td]) (cs := [wU C ou x0, wF C x nw tr hq iq tt sC ba z b b2 ph r n t f v o y cd]) (As := [.ref x, .int (nI a1), .int (nI a2), .int (nI a3), .int (xs (6 * j + 4)), .int (xs (6 * j + 5)), .ref ou]) (rest := []) ⟨hx, hb, hml, hown, hts⟩ (W1c_way l hl0 C x a1 a2 a3 (xs (6 * j + 4)) (xs (6 * j + 5)) nw tr hq iq tt sC ba z b b2 r n ph t f v o y cd ou x0 (by omega) (by omega) (by omega) (by rw [h2, Bool.and_false])) (vx_cwSW 7 hts gL_law_L_way rfl rfl rfl (by decide +kernel) ⟨Nat.le_of_ble_eq_true rfl, Nat.le_of_ble_eq_true rfl⟩) hK hV hE hP hD hS (fun _ h => h) [0, 1] (by decide) rfl rfl hl.1 rfl (Nat.le_of_ble_eq_true rfl) dL_law_264 (lw_c1 hce hj hL) (lw_s1 hsl hj hL) (fun r w1 H locs hQ hF hS => ?_)
        obtain ⟨rfl, rfl⟩ := hQ
        obtain ⟨hP, hD⟩ := hF [wU C ou x0, wF C x nw tr hq iq tt sC ba z b b2 ph r n t f v o y cd] rfl rfl
        have hP : va_P C.1 vwCl (List.flatten [wU C ou x0, wF C x nw tr hq iq tt sC ba z b b2 ph r n t f v o y cd, mF C mo (nI n) (nI y) tw pl fl tl v2 o2 b gm pa cd td]) H := hP
        have hD : va_D (lwA s) (List.flatten [wU C ou x0, wF C x nw tr hq iq tt sC ba z b b2 ph r n t f v o y cd, mF C mo (nI n) (nI y) tw pl fl tl v2 o2 b gm pa cd td]) := hD
        refine W.eq (g2 := F0 m 267 ls [.int (nI 1)]) rfl ?_
        have hce : cells + 1 ≤ 100 + j + 1 := Nat.succ_le_succ hce
        have hsl : slots + 6 ≤ 2000 + 6 * j + 6 := Nat.add_le_add_right hsl 6
        refine lv_istore (lv' := [(5, .int (nI 1)), (4, .int (nI (6 * j))), (0, .ref sA), (1, .ref x), (2, .ref (mo 0)), (3, .ref ou)]) hx hb dL_law_267 hl (by decide) rfl (fun ls hl => ?_)
        refine lv_aload_n hx hb dL_law_269 rfl (lv_at hl 4 rfl) ?_
        refine lw_rd hc hj 1 (by decide) hS 2 1 hl rfl rfl dL_law_270 dL_law_271 dL_law_273 (by decide) dL_law_274 dL_law_275 e1 ?_
        refine lw_rd hc hj 2 (by decide) hS 2 1 hl rfl rfl dL_law_276 dL_law_277 dL_law_279 (by decide) dL_law_280 dL_law_281 e2 ?_
        refine lw_rd hc hj 3 (by decide) hS 2 1 hl rfl rfl dL_law_282 dL_law_283 dL_law_285 (by decide) dL_law_286 dL_law_287 e3 ?_
        refine lw_rd hc hj 4 (by decide) hS 2 1 hl rfl rfl dL_law_288 dL_law_289 dL_law_291 (by decide) dL_law_292 dL_law_293 rfl ?_
        refine lw_rd hc hj 5 (by decide) hS 2 1 hl rfl rfl dL_law_294 dL_law_295 dL_law_297 (by decide) dL_law_298 dL_law_299 rfl ?_
        refine q_VBE (Bs := [wU C ou x0, wF C x nw tr hq iq tt sC ba z b b2 ph r n t f v o y cd, mF C mo (nI n) (nI y) tw pl fl tl v2 o2 b gm pa cd td]) (cs := [mF C mo (nI n) (nI y) tw pl fl tl v2 o2 b gm pa cd td]) (As := [.int (nI a1), .int (nI a2), .int (nI a3), .int (xs (6 * j + 4)), .int (xs (6 * j + 5))]) (rest := []) ⟨hx, hb, hml, hown, hts⟩ (M1_way l C mo (nI n) (nI y) tw pl fl tl v2 o2 (nI a1) (nI a2) (nI a3) (xs (6 * j + 4)) (xs (6 * j + 5)) b gm pa cd td (by rw [h2, Bool.and_false])).one (cwV 5 hts gL_law_X5_way rfl rfl rfl (by decide +kernel) ⟨Nat.le_of_ble_eq_true rfl, Nat.le_of_ble_eq_true rfl⟩) hK hV hE hP hD hS (fun _ h => h) [2] (by decide) rfl 76 rfl rfl rfl rfl hl.1 rfl (Nat.le_of_ble_eq_true rfl) dL_law_300 (lw_c0 hce hj hL) (lw_s0 hsl hj hL) (fun r w1 H locs hQ hF hS => ?_)
        obtain ⟨rfl, rfl⟩ := hQ
        obtain ⟨hP, hD⟩ := hF [mF C mo (nI n) (nI y) (nI 1) pl fl tl v2 o2 b gm pa cd td] (flat_one _).symm rfl
        have hP : va_P C.1 vwCl (List.flatten [wU C ou x0, wF C x nw tr hq iq tt sC ba z b b2 ph r n t f v o y cd, mF C mo (nI n) (nI y) (nI 1) pl fl tl v2 o2 b gm pa cd td]) H := hP
        have hD : va_D (lwA s) (List.flatten [wU C ou x0, wF C x nw tr hq iq tt sC ba z b b2 ph r n t f v o y cd, mF C mo (nI n) (nI y) (nI 1) pl fl tl v2 o2 b gm pa cd td]) := hD
        refine W.eq (g2 := F0 m 303 ls [.int (nI 0)]) rfl ?_
        refine lv_istore (lv' := [(6, .int (nI 0)), (5, .int (nI 1)), (4, .int (nI (6 * j))), (0, .ref sA), (1, .ref x), (2, .ref (mo 0)), (3, .ref ou)]) hx hb dL_law_303 hl (by decide) rfl (fun ls hl => ?_)
        have hP : va_P C.1 vwCl (List.flatten [wU C ou x0, wF C x nw tr hq iq tt sC ba z b b2 ph r n t f v o y cd, mF C mo (nI n) (nI y) (nI 1) pl fl tl v2 o2 b gm pa cd td]) H := hP
        have hD : va_D (lwA s) (List.flatten [wU C ou x0, wF C x nw tr hq iq tt sC ba z b b2 ph r n t f v o y cd, mF C mo (nI n) (nI y) (nI 1) pl fl tl v2 o2 b gm pa cd td]) := hD
        exact lw_tailT hc hj K 1 (by decide) (by decide) ⟨hok, hph, hfr, hy60, hcd, hpa⟩ (by omega) (by omega) hP hD hS hl 5 rfl 1 rfl [2, 3, 4, 5, 6] rfl 28 (by decide) dL_law_305 dL_law_306 dL_law_309 dL_law_311 dL_law_316 dL_law_318 dL_law_333 (by decide)
      · skip
        rcases cl1 (xs (6 * j + 5)) (lo := 0) (hi := 8) (by decide) (by decide) with h3 | ⟨a5, e5, ha5, hb5⟩
        · skip
          refine lv_aload_n hx hb dL_law_232 rfl (lv_at hl 2 rfl) ?_
          refine lw_rd hc hj 1 (by decide) hS 1 0 hl rfl rfl dL_law_233 dL_law_234 dL_law_236 (by decide) dL_law_237 dL_law_238 e1 ?_
          refine lw_rd hc hj 2 (by decide) hS 1 0 hl rfl rfl dL_law_239 dL_law_240 dL_law_242 (by decide) dL_law_243 dL_law_244 e2 ?_
          refine lw_rd hc hj 3 (by decide) hS 1 0 hl rfl rfl dL_law_245 dL_law_246 dL_law_248 (by decide) dL_law_249 dL_law_250 e3 ?_
          refine lw_rd hc hj 4 (by decide) hS 1 0 hl rfl rfl dL_law_251 dL_law_252 dL_law_254 (by decide) dL_law_255 dL_law_256 e4 ?_
          refine lw_rd hc hj 5 (by decide) hS 1 0 hl rfl rfl dL_law_257 dL_law_258 dL_law_260 (by decide) dL_law_261 dL_law_262 rfl ?_
          refine lv_aload_n hx hb dL_law_263 rfl (lv_at hl 4 rfl) ?_
          refine q_SWB1 (Bs := [wU C ou x0, wF C x nw tr hq iq tt sC ba z b b2 ph r n t f v o y cd, mF C mo (nI n) (nI y) tw pl fl tl v2 o2 b gm pa cd td]) (cs := [wU C ou x0, wF C x nw tr hq iq tt sC ba z b b2 ph r n t f v o y cd]) (As := [.ref x, .int (nI a1), .int (nI a2), .int (nI a3), .int (nI a4), .int (xs (6 * j + 5)), .ref ou]) (rest := []) ⟨hx, hb, hml, hown, hts⟩ (W2_way l hl0 C x a1 a2 a3 a4 (xs (6 * j + 5)) nw tr hq iq tt sC ba z b b2 r n ph t f v o y cd ou x0 (by omega) (by omega) (by omega) (by omega) h3) (vx_cwSW 7 hts gL_law_L_way rfl rfl rfl (by decide +kernel) ⟨Nat.le_of_ble_eq_true rfl, Nat.le_of_ble_eq_true rfl⟩) hK hV hE hP hD hS (fun _ h => h) [0, 1] (by decide) rfl rfl hl.1 rfl (Nat.le_of_ble_eq_true rfl) dL_law_264 (lw_c1 hce hj hL) (lw_s1 hsl hj hL) (fun r w1 H locs hQ hF hS => ?_)
          obtain ⟨rfl, rfl⟩ := hQ
          obtain ⟨hP, hD⟩ := hF [wU C ou x0, wF C x nw tr hq iq tt sC ba z b b2 ph r n t f v o y cd] rfl rfl
          have hP : va_P C.1 vwCl (List.flatten [wU C ou x0, wF C x nw tr hq iq tt sC ba z b b2 ph r n t f v o y cd, mF C mo (nI n) (nI y) tw pl fl tl v2 o2 b gm pa cd td]) H := hP
          have hD : va_D (lwA s) (List.flatten [wU C ou x0, wF C x nw tr hq iq tt sC ba z b b2 ph r n t f v o y cd, mF C mo (nI n) (nI y) tw pl fl tl v2 o2 b gm pa cd td]) := hD
          refine W.eq (g2 := F0 m 267 ls [.int (nI 2)]) rfl ?_
          have hce : cells + 1 ≤ 100 + j + 1 := Nat.succ_le_succ hce
          have hsl : slots + 6 ≤ 2000 + 6 * j + 6 := Nat.add_le_add_right hsl 6
          refine lv_istore (lv' := [(5, .int (nI 2)), (4, .int (nI (6 * j))), (0, .ref sA), (1, .ref x), (2, .ref (mo 0)), (3, .ref ou)]) hx hb dL_law_267 hl (by decide) rfl (fun ls hl => ?_)
          refine lv_aload_n hx hb dL_law_269 rfl (lv_at hl 4 rfl) ?_
          refine lw_rd hc hj 1 (by decide) hS 2 1 hl rfl rfl dL_law_270 dL_law_271 dL_law_273 (by decide) dL_law_274 dL_law_275 e1 ?_
          refine lw_rd hc hj 2 (by decide) hS 2 1 hl rfl rfl dL_law_276 dL_law_277 dL_law_279 (by decide) dL_law_280 dL_law_281 e2 ?_
          refine lw_rd hc hj 3 (by decide) hS 2 1 hl rfl rfl dL_law_282 dL_law_283 dL_law_285 (by decide) dL_law_286 dL_law_287 e3 ?_
          refine lw_rd hc hj 4 (by decide) hS 2 1 hl rfl rfl dL_law_288 dL_law_289 dL_law_291 (by decide) dL_law_292 dL_law_293 e4 ?_
          refine lw_rd hc hj 5 (by decide) hS 2 1 hl rfl rfl dL_law_294 dL_law_295 dL_law_297 (by decide) dL_law_298 dL_law_299 rfl ?_
          refine q_VBE (Bs := [wU C ou x0, wF C x nw tr hq iq tt sC ba z b b2 ph r n t f v o y cd, mF C mo (nI n) (nI y) tw pl fl tl v2 o2 b gm pa cd td]) (cs := [mF C mo (nI n) (nI y) tw pl fl tl v2 o2 b gm pa cd td]) (As := [.int (nI a1), .int (nI a2), .int (nI a3), .int (nI a4), .int (xs (6 * j + 5))]) (rest := []) ⟨hx, hb, hml, hown, hts⟩ (M2_way l C mo (nI n) (nI y) tw pl fl tl v2 o2 a1 a2 a3 a4 (xs (6 * j + 5)) b gm pa cd td (by omega) (by omega) (by omega) (by omega) h3).one (cwV 5 hts gL_law_X5_way rfl rfl rfl (by decide +kernel) ⟨Nat.le_of_ble_eq_true rfl, Nat.le_of_ble_eq_true rfl⟩) hK hV hE hP hD hS (fun _ h => h) [2] (by decide) rfl 76 rfl rfl rfl rfl hl.1 rfl (Nat.le_of_ble_eq_true rfl) dL_law_300 (lw_c0 hce hj hL) (lw_s0 hsl hj hL) (fun r w1 H locs hQ hF hS => ?_)
          obtain ⟨rfl, rfl⟩ := hQ
          obtain ⟨hP, hD⟩ := hF [mF C mo (nI n) (nI y) (nI 2) pl fl tl v2 o2 b gm pa cd td] (flat_one _).symm rfl
          have hP : va_P C.1 vwCl (List.flatten [wU C ou x0, wF C x nw tr hq iq tt sC ba z b b2 ph r n t f v o y cd, mF C mo (nI n) (nI y) (nI 2) pl fl tl v2 o2 b gm pa cd td]) H := hP
          have hD : va_D (lwA s) (List.flatten [wU C ou x0, wF C x nw tr hq iq tt sC ba z b b2 ph r n t f v o y cd, mF C mo (nI n) (nI y) (nI 2) pl fl tl v2 o2 b gm pa cd td]) := hD
          refine W.eq (g2 := F0 m 303 ls [.int (nI 0)]) rfl ?_
          refine lv_istore (lv' := [(6, .int (nI 0)), (5, .int (nI 2)), (4, .int (nI (6 * j))), (0, .ref sA), (1, .ref x), (2, .ref (mo 0)), (3, .ref ou)]) hx hb dL_law_303 hl (by decide) rfl (fun ls hl => ?_)
          have hP : va_P C.1 vwCl (List.flatten [wU C ou x0, wF C x nw tr hq iq tt sC ba z b b2 ph r n t f v o y cd, mF C mo (nI n) (nI y) (nI 2) pl fl tl v2 o2 b gm pa cd td]) H := hP
          have hD : va_D (lwA s) (List.flatten [wU C ou x0, wF C x nw tr hq iq tt sC ba z b b2 ph r n t f v o y cd, mF C mo (nI n) (nI y) (nI 2) pl fl tl v2 o2 b gm pa cd td]) := hD
          exact lw_tailT hc hj K 2 (by decide) (by decide) ⟨hok, hph, hfr, hy60, hcd, hpa⟩ (by omega) (by omega) hP hD hS hl 5 rfl 1 rfl [2, 3, 4, 5, 6] rfl 28 (by decide) dL_law_305 dL_law_306 dL_law_309 dL_law_311 dL_law_316 dL_law_318 dL_law_333 (by decide)
        · skip
          refine lv_aload_n hx hb dL_law_232 rfl (lv_at hl 2 rfl) ?_
          refine lw_rd hc hj 1 (by decide) hS 1 0 hl rfl rfl dL_law_233 dL_law_234 dL_law_236 (by decide) dL_law_237 dL_law_238 e1 ?_
          refine lw_rd hc hj 2 (by decide) hS 1 0 hl rfl rfl dL_law_239 dL_law_240 dL_law_242 (by decide) dL_law_243 dL_law_244 e2 ?_
          refine lw_rd hc hj 3 (by decide) hS 1 0 hl rfl rfl dL_law_245 dL_law_246 dL_law_248 (by decide) dL_law_249 dL_law_250 e3 ?_
          refine lw_rd hc hj 4 (by decide) hS 1 0 hl rfl rfl dL_law_251 dL_law_252 dL_law_254 (by decide) dL_law_255 dL_law_256 e4 ?_
          refine lw_rd hc hj 5 (by decide) hS 1 0 hl rfl rfl dL_law_257 dL_law_258 dL_law_260 (by decide) dL_law_261 dL_law_262 e5 ?_
          refine lv_aload_n hx hb dL_law_263 rfl (lv_at hl 4 rfl) ?_
          refine q_SWB (Bs := [wU C ou x0, wF C x nw tr hq iq tt sC ba z b b2 ph r n t f v o y cd, mF C mo (nI n) (nI y) tw pl fl tl v2 o2 b gm pa cd td]) (cs := [wU C ou x0, wF C x nw tr hq iq tt sC ba z b b2 ph r n t f v o y cd]) (As := [.ref x, .int (nI a1), .int (nI a2), .int (nI a3), .int (nI a4), .int (nI a5), .ref ou]) (rest := []) ⟨hx, hb, hml, hown, hts⟩ (W_way l C x nw tr hq iq tt sC z ba ph r n b t f v o a1 a2 a3 a4 a5 b2 y cd ou x0 hr6 hn6 (by omega) (by omega) (by omega) (by omega) (by omega)) (vx_cwSW 7 hts gL_law_L_way rfl rfl rfl (by decide +kernel) ⟨Nat.le_of_ble_eq_true rfl, Nat.le_of_ble_eq_true rfl⟩) hK hV hE hP hD hS (fun _ h => h) [0, 1] (by decide) rfl rfl hl.1 rfl (Nat.le_of_ble_eq_true rfl) dL_law_264 (lw_c0 hce hj hL) (lw_s0 hsl hj hL) (fun r w1 H locs hQ hF hS => ?_)
          obtain ⟨rfl, rfl⟩ := hQ
          obtain ⟨hP, hD⟩ := hF [wU C ou ((nI (100 * bo b (4 * a1 + a2) + 10 * bb b (4 * a1 + a2) + bc b (4 * a1 + a2))).toInt64), wF C x nw tr hq iq tt sC ba z (setC (sb (so b (upN (bo b) (4 * a1 + a2) a3)) (upN (bb b) (4 * a1 + a2) a4)) (upN (bc b) (4 * a1 + a2) a5)) b2 (upB ph (kJ n r) b) (kR n r) (kC n) t (upN f a1 0) v o y cd] rfl rfl
          have hP : va_P C.1 vwCl (List.flatten [wU C ou ((nI (100 * bo b (4 * a1 + a2) + 10 * bb b (4 * a1 + a2) + bc b (4 * a1 + a2))).toInt64), wF C x nw tr hq iq tt sC ba z (setC (sb (so b (upN (bo b) (4 * a1 + a2) a3)) (upN (bb b) (4 * a1 + a2) a4)) (upN (bc b) (4 * a1 + a2) a5)) b2 (upB ph (kJ n r) b) (kR n r) (kC n) t (upN f a1 0) v o y cd, mF C mo (nI n) (nI y) tw pl fl tl v2 o2 b gm pa cd td]) H := hP
          have hD : va_D (lwA s) (List.flatten [wU C ou ((nI (100 * bo b (4 * a1 + a2) + 10 * bb b (4 * a1 + a2) + bc b (4 * a1 + a2))).toInt64), wF C x nw tr hq iq tt sC ba z (setC (sb (so b (upN (bo b) (4 * a1 + a2) a3)) (upN (bb b) (4 * a1 + a2) a4)) (upN (bc b) (4 * a1 + a2) a5)) b2 (upB ph (kJ n r) b) (kR n r) (kC n) t (upN f a1 0) v o y cd, mF C mo (nI n) (nI y) tw pl fl tl v2 o2 b gm pa cd td]) := hD
          refine W.eq (g2 := F0 m 267 ls [.int (nI 0)]) rfl ?_
          refine lv_istore (lv' := [(5, .int (nI 0)), (4, .int (nI (6 * j))), (0, .ref sA), (1, .ref x), (2, .ref (mo 0)), (3, .ref ou)]) hx hb dL_law_267 hl (by decide) rfl (fun ls hl => ?_)
          refine lv_aload_n hx hb dL_law_269 rfl (lv_at hl 4 rfl) ?_
          refine lw_rd hc hj 1 (by decide) hS 2 1 hl rfl rfl dL_law_270 dL_law_271 dL_law_273 (by decide) dL_law_274 dL_law_275 e1 ?_
          refine lw_rd hc hj 2 (by decide) hS 2 1 hl rfl rfl dL_law_276 dL_law_277 dL_law_279 (by decide) dL_law_280 dL_law_281 e2 ?_
          refine lw_rd hc hj 3 (by decide) hS 2 1 hl rfl rfl dL_law_282 dL_law_283 dL_law_285 (by decide) dL_law_286 dL_law_287 e3 ?_
          refine lw_rd hc hj 4 (by decide) hS 2 1 hl rfl rfl dL_law_288 dL_law_289 dL_law_291 (by decide) dL_law_292 dL_law_293 e4 ?_
          refine lw_rd hc hj 5 (by decide) hS 2 1 hl rfl rfl dL_law_294 dL_law_295 dL_law_297 (by decide) dL_law_298 dL_law_299 e5 ?_
          refine q_VBE (Bs := [wU C ou ((nI (100 * bo b (4 * a1 + a2) + 10 * bb b (4 * a1 + a2) + bc b (4 * a1 + a2))).toInt64), wF C x nw tr hq iq tt sC ba z (setC (sb (so b (upN (bo b) (4 * a1 + a2) a3)) (upN (bb b) (4 * a1 + a2) a4)) (upN (bc b) (4 * a1 + a2) a5)) b2 (upB ph (kJ n r) b) (kR n r) (kC n) t (upN f a1 0) v o y cd, mF C mo (nI n) (nI y) tw pl fl tl v2 o2 b gm pa cd td]) (cs := [mF C mo (nI n) (nI y) tw pl fl tl v2 o2 b gm pa cd td]) (As := [.int (nI a1), .int (nI a2), .int (nI a3), .int (nI a4), .int (nI a5)]) (rest := []) ⟨hx, hb, hml, hown, hts⟩ (M_way l C mo (nI y) tw pl fl tl v2 o2 ph r n pa b a1 a2 a3 a4 a5 gm cd td hr6 hn6 hpa (by omega) (by omega) (by omega) (by omega) (by omega)).one (cwV 5 hts gL_law_X5_way rfl rfl rfl (by decide +kernel) ⟨Nat.le_of_ble_eq_true rfl, Nat.le_of_ble_eq_true rfl⟩) hK hV hE hP hD hS (fun _ h => h) [2] (by decide) rfl 76 rfl rfl rfl rfl hl.1 rfl (Nat.le_of_ble_eq_true rfl) dL_law_300 (lw_c0 hce hj hL) (lw_s0 hsl hj hL) (fun r w1 H locs hQ hF hS => ?_)
          obtain ⟨paq10, rfl, rfl, hmh⟩ := hQ
          obtain ⟨hP, hD⟩ := hF [mF C mo (nI (kC n)) (nI y) (nI 0) pl fl tl v2 o2 (sc (sb (so b (upN (bo b) (4 * a1 + a2) a3)) (upN (bb b) (4 * a1 + a2) a4)) (upN (bc b) (4 * a1 + a2) a5)) gm paq10 cd td] (flat_one _).symm rfl
          have hP : va_P C.1 vwCl (List.flatten [wU C ou ((nI (100 * bo b (4 * a1 + a2) + 10 * bb b (4 * a1 + a2) + bc b (4 * a1 + a2))).toInt64), wF C x nw tr hq iq tt sC ba z (setC (sb (so b (upN (bo b) (4 * a1 + a2) a3)) (upN (bb b) (4 * a1 + a2) a4)) (upN (bc b) (4 * a1 + a2) a5)) b2 (upB ph (kJ n r) b) (kR n r) (kC n) t (upN f a1 0) v o y cd, mF C mo (nI (kC n)) (nI y) (nI 0) pl fl tl v2 o2 (sc (sb (so b (upN (bo b) (4 * a1 + a2) a3)) (upN (bb b) (4 * a1 + a2) a4)) (upN (bc b) (4 * a1 + a2) a5)) gm paq10 cd td]) H := hP
          have hD : va_D (lwA s) (List.flatten [wU C ou ((nI (100 * bo b (4 * a1 + a2) + 10 * bb b (4 * a1 + a2) + bc b (4 * a1 + a2))).toInt64), wF C x nw tr hq iq tt sC ba z (setC (sb (so b (upN (bo b) (4 * a1 + a2) a3)) (upN (bb b) (4 * a1 + a2) a4)) (upN (bc b) (4 * a1 + a2) a5)) b2 (upB ph (kJ n r) b) (kR n r) (kC n) t (upN f a1 0) v o y cd, mF C mo (nI (kC n)) (nI y) (nI 0) pl fl tl v2 o2 (sc (sb (so b (upN (bo b) (4 * a1 + a2) a3)) (upN (bb b) (4 * a1 + a2) a4)) (upN (bc b) (4 * a1 + a2) a5)) gm paq10 cd td]) := hD
          refine W.eq (g2 := F0 m 303 ls [.int (nI (100 * bo b (4 * a1 + a2) + 10 * bb b (4 * a1 + a2) + bc b (4 * a1 + a2)))]) rfl ?_
          refine lv_istore (lv' := [(6, .int (nI (100 * bo b (4 * a1 + a2) + 10 * bb b (4 * a1 + a2) + bc b (4 * a1 + a2)))), (5, .int (nI 0)), (4, .int (nI (6 * j))), (0, .ref sA), (1, .ref x), (2, .ref (mo 0)), (3, .ref ou)]) hx hb dL_law_303 hl (by decide) rfl (fun ls hl => ?_)
          have hP : va_P C.1 vwCl (List.flatten [wU C ou ((nI (100 * bo b (4 * a1 + a2) + 10 * bb b (4 * a1 + a2) + bc b (4 * a1 + a2))).toInt64), wF C x nw tr hq iq tt sC ba z (setC (sb (so b (upN (bo b) (4 * a1 + a2) a3)) (upN (bb b) (4 * a1 + a2) a4)) (upN (bc b) (4 * a1 + a2) a5)) b2 (upB ph (kJ n r) b) (kR n r) (kC n) t (upN f a1 0) v o y cd, mF C mo (nI (kC n)) (nI y) (nI 0) pl fl tl v2 o2 (setC (sb (so b (upN (bo b) (4 * a1 + a2) a3)) (upN (bb b) (4 * a1 + a2) a4)) (upN (bc b) (4 * a1 + a2) a5)) gm paq10 cd td]) H := hP
          have hD : va_D (lwA s) (List.flatten [wU C ou ((nI (100 * bo b (4 * a1 + a2) + 10 * bb b (4 * a1 + a2) + bc b (4 * a1 + a2))).toInt64), wF C x nw tr hq iq tt sC ba z (setC (sb (so b (upN (bo b) (4 * a1 + a2) a3)) (upN (bb b) (4 * a1 + a2) a4)) (upN (bc b) (4 * a1 + a2) a5)) b2 (upB ph (kJ n r) b) (kR n r) (kC n) t (upN f a1 0) v o y cd, mF C mo (nI (kC n)) (nI y) (nI 0) pl fl tl v2 o2 (setC (sb (so b (upN (bo b) (4 * a1 + a2) a3)) (upN (bb b) (4 * a1 + a2) a4)) (upN (bc b) (4 * a1 + a2) a5)) gm paq10 cd td]) := hD
          exact lw_tailI hc hj K ⟨okS_way hok (by omega) (by omega) (by omega), okH_keep hph hok, frB_way hB hfr (by omega), hy60, hcd, hmh⟩ (by omega) (by omega) hP hD hS hl 5 rfl 1 rfl 6 rfl 0 rfl [2, 3, 4, 5, 6] rfl dL_law_305 dL_law_306 dL_law_309 dL_law_311 dL_law_316 dL_law_318 dL_law_321 dL_law_322 dL_law_323 dL_law_324 dL_law_326 dL_law_327 dL_law_328 dL_law_333 (by decide)
end LawCasesa
