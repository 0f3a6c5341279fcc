/-! the law's act, walked -/
set_option maxHeartbeats 8000000 in
set_option maxRecDepth 100000 in
theorem k_L_act (l : Launch) (hl0 : l.stackTraces = false) (C : q_C) (G : ad_G) (b : Bd) (ph : Nat → Bd) (r n J sA L : Nat) (xs : Nat → Int32) (k : Nat) (hJ : okJ J b) (hH : okP (okJ J) ph r n) (hJ30 : J < 30) (hk : k + 3 < L) (hL : L ≤ 260) : acM C l G b ph r n J sA L xs k := by
  intro X0 hX0
  refine q_headS (cc := cL_act) (maxL := 6) (ret := (some .int)) (by decide +kernel) rfl (Nat.le_of_ble_eq_true rfl) ?_
  intro p e s m below meth c hx hb hr hlocks hml hown hts hK hV hE hP hD hS hA hXs hsb hnA ls hl
  have hl : lv_has ls 6 [(0, .ref G.1), (1, .ref sA), (2, .int (nI k))] := hl
  have hX := hX0
  have hok : okS b := okJ_s hJ (by omega)
  have hB : OkB b := hok.1
  have hU := hJ.2
  obtain ⟨hr6, hn6, -⟩ := id hH
  refine lv_aload_n hx hb dL_act_0 rfl (lv_at hl 1 rfl) ?_
  refine lv_iload_n hx hb dL_act_1 rfl (lv_at hl 2 rfl) ?_
  refine lv_iconst (v := nI 1) hx hb dL_act_2 (by decide) ?_
  refine lv_iadd hx hb dL_act_3 ?_
  refine q_ti (y := nI (k + 1)) (nI_add _ _) ?_
  refine lk_cell (k := (k + 1)) (rest := []) ⟨hx, hb, hml, hown, hts⟩ (by omega) (by omega) (va_cwS 2 hts gL_act_L_cell rfl rfl rfl (by decide +kernel) ⟨Nat.le_of_ble_eq_true rfl, Nat.le_of_ble_eq_true rfl⟩) hK hXs hsb hnA hP hD hS hA rfl hl.1 rfl (Nat.le_of_ble_eq_true rfl) dL_act_4 (Nat.zero_le _) (Nat.zero_le _) (fun H locs hP hS => ?_)
  refine W.eq (g2 := F0 m 7 ls [.int (xs (k + 1))]) rfl ?_
  refine lv_istore_n (lv' := [(3, .int (xs (k + 1))), (0, .ref G.1), (1, .ref sA), (2, .int (nI k))]) hx hb dL_act_7 rfl hl (by decide) rfl (fun ls hl => ?_)
  refine lv_aload_n hx hb dL_act_8 rfl (lv_at hl 2 rfl) ?_
  refine lv_iload_n hx hb dL_act_9 rfl (lv_at hl 3 rfl) ?_
  refine lv_iconst (v := nI 2) hx hb dL_act_10 (by decide) ?_
  refine lv_iadd hx hb dL_act_11 ?_
  refine q_ti (y := nI (k + 2)) (nI_add _ _) ?_
  refine lk_cell (k := (k + 2)) (rest := []) ⟨hx, hb, hml, hown, hts⟩ (by omega) (by omega) (va_cwS 2 hts gL_act_L_cell rfl rfl rfl (by decide +kernel) ⟨Nat.le_of_ble_eq_true rfl, Nat.le_of_ble_eq_true rfl⟩) hK hXs hsb hnA hP hD hS hA rfl hl.1 rfl (Nat.le_of_ble_eq_true rfl) dL_act_12 (Nat.zero_le _) (Nat.zero_le _) (fun H locs hP hS => ?_)
  refine W.eq (g2 := F0 m 15 ls [.int (xs (k + 2))]) rfl ?_
  refine lv_istore (lv' := [(4, .int (xs (k + 2))), (3, .int (xs (k + 1))), (0, .ref G.1), (1, .ref sA), (2, .int (nI k))]) hx hb dL_act_15 hl (by decide) rfl (fun ls hl => ?_)
  refine lv_aload_n hx hb dL_act_17 rfl (lv_at hl 3 rfl) ?_
  refine lv_iload_n hx hb dL_act_18 rfl (lv_at hl 4 rfl) ?_
  refine lv_iconst (v := nI 3) hx hb dL_act_19 (by decide) ?_
  refine lv_iadd hx hb dL_act_20 ?_
  refine q_ti (y := nI (k + 3)) (nI_add _ _) ?_
  refine lk_cell (k := (k + 3)) (rest := []) ⟨hx, hb, hml, hown, hts⟩ (by omega) (by omega) (va_cwS 2 hts gL_act_L_cell rfl rfl rfl (by decide +kernel) ⟨Nat.le_of_ble_eq_true rfl, Nat.le_of_ble_eq_true rfl⟩) hK hXs hsb hnA hP hD hS hA rfl hl.1 rfl (Nat.le_of_ble_eq_true rfl) dL_act_21 (Nat.zero_le _) (Nat.zero_le _) (fun H locs hP hS => ?_)
  refine W.eq (g2 := F0 m 24 ls [.int (xs (k + 3))]) rfl ?_
  refine lv_istore (lv' := [(5, .int (xs (k + 3))), (4, .int (xs (k + 2))), (3, .int (xs (k + 1))), (0, .ref G.1), (1, .ref sA), (2, .int (nI k))]) hx hb dL_act_24 hl (by decide) rfl (fun ls hl => ?_)
  refine lv_aload_n hx hb dL_act_26 rfl (lv_at hl 4 rfl) ?_
  refine lv_iload_n hx hb dL_act_27 rfl (lv_at hl 5 rfl) ?_
  refine lk_cell (k := k) (rest := []) ⟨hx, hb, hml, hown, hts⟩ (by omega) (by omega) (va_cwS 2 hts gL_act_L_cell rfl rfl rfl (by decide +kernel) ⟨Nat.le_of_ble_eq_true rfl, Nat.le_of_ble_eq_true rfl⟩) hK hXs hsb hnA hP hD hS hA rfl hl.1 rfl (Nat.le_of_ble_eq_true rfl) dL_act_28 (Nat.zero_le _) (Nat.zero_le _) (fun H locs hP hS => ?_)
  refine W.eq (g2 := F0 m 31 ls [.int (xs k)]) rfl ?_
  refine lv_bipush (v := nI 16) hx hb dL_act_31 (by decide) ?_
  refine q_S0 (As := [.int (xs k), .int (nI 16)]) (rest := []) ⟨hx, hb, hml, hown, hts⟩ (c_L_low l C (xs k) 16 (by decide) (by decide)) (va_cwS 2 hts gL_act_L_low rfl rfl rfl (by decide +kernel) ⟨Nat.le_of_ble_eq_true rfl, Nat.le_of_ble_eq_true rfl⟩) hK hP hD hS hA [] (by decide) rfl rfl hl.1 rfl (Nat.le_of_ble_eq_true rfl) dL_act_33 (Nat.zero_le _) (Nat.zero_le _) (fun H locs hP hS => ?_)
  refine W.eq (g2 := F0 m 36 ls [.int (nI (lowN (xs k) 16))]) rfl ?_
  have hs16 := lowN_lt (xs k) (n := 16) (by decide)
  have ha4 := lowN_lt (xs (k + 1)) (n := 4) (by decide)
  have ha3 := lowN_lt (xs (k + 1)) (n := 3) (by decide)
  have hb4 := lowN_lt (xs (k + 2)) (n := 4) (by decide)
  have hb9 := lowN_lt (xs (k + 2)) (n := 9) (by decide)
  have hb60 := lowN_lt (xs (k + 2)) (n := 60) (by decide)
  have hb2 := lowN_lt (xs (k + 2)) (n := 2) (by decide)
  have hb12 := lowN_lt (xs (k + 2)) (n := 12) (by decide)
  have hc100 := lowN_lt (xs (k + 3)) (n := 100) (by decide)
  have hc4 := lowN_lt (xs (k + 3)) (n := 4) (by decide)
  have hd4 := lowN_lt (xs (k + 1) + xs (k + 2)) (n := 4) (by decide)
  have hg := fun (a t : Nat) (h1 : a < 4) (h2 : t < 4) => hB.1 (4 * a + t) (by omega)
  generalize hq : lowN (xs k) 16 = q at hs16 ⊢
  rcases (show q = 0 ∨ q = 1 ∨ q = 2 ∨ q = 3 ∨ q = 4 ∨ q = 5 ∨ q = 6 ∨ q = 7 ∨ q = 8 ∨ q = 9 ∨ q = 10 ∨ q = 11 ∨ q = 12 ∨ q = 13 ∨ q = 14 ∨ q = 15 by omega) with rfl | rfl | rfl | rfl | rfl | rfl | rfl | rfl | rfl | rfl | rfl | rfl | rfl | rfl | rfl | rfl
  · skip
    refine lv_tableIn (off := 76) (tgt := 112) hx hb dL_act_36 (by decide +kernel) (by decide +kernel) (by decide +kernel) (by decide) ?_
    refine lv_aload_n hx hb dL_act_112 rfl (lv_at hl 3 rfl) ?_
    refine lv_iload_n hx hb dL_act_113 rfl (lv_at hl 2 rfl) ?_
    refine lv_iconst (v := nI 4) hx hb dL_act_114 (by decide) ?_
    refine q_S0 (As := [.int (xs (k + 1)), .int (nI 4)]) (rest := [.ref G.1]) ⟨hx, hb, hml, hown, hts⟩ (c_L_low l C (xs (k + 1)) 4 (by decide) (by decide)) (va_cwS 2 hts gL_act_L_low rfl rfl rfl (by decide +kernel) ⟨Nat.le_of_ble_eq_true rfl, Nat.le_of_ble_eq_true rfl⟩) hK hP hD hS hA [] (by decide) rfl rfl hl.1 rfl (Nat.le_of_ble_eq_true rfl) dL_act_115 (Nat.zero_le _) (Nat.zero_le _) (fun H locs hP hS => ?_)
    refine W.eq (g2 := F0 m 118 ls [.int (nI (lowN (xs (k + 1)) 4)), .ref G.1]) rfl ?_
    refine lv_iload hx hb dL_act_118 (lv_at hl 1 rfl) ?_
    refine lv_iconst (v := nI 4) hx hb dL_act_120 (by decide) ?_
    refine q_S0 (As := [.int (xs (k + 2)), .int (nI 4)]) (rest := [.int (nI (lowN (xs (k + 1)) 4)), .ref G.1]) ⟨hx, hb, hml, hown, hts⟩ (c_L_low l C (xs (k + 2)) 4 (by decide) (by decide)) (va_cwS 2 hts gL_act_L_low rfl rfl rfl (by decide +kernel) ⟨Nat.le_of_ble_eq_true rfl, Nat.le_of_ble_eq_true rfl⟩) hK hP hD hS hA [] (by decide) rfl rfl hl.1 rfl (Nat.le_of_ble_eq_true rfl) dL_act_121 (Nat.zero_le _) (Nat.zero_le _) (fun H locs hP hS => ?_)
    refine W.eq (g2 := F0 m 124 ls [.int (nI (lowN (xs (k + 2)) 4)), .int (nI (lowN (xs (k + 1)) 4)), .ref G.1]) rfl ?_
    refine lv_iload hx hb dL_act_124 (lv_at hl 0 rfl) ?_
    refine lv_bipush (v := nI 100) hx hb dL_act_126 (by decide) ?_
    refine q_S0 (As := [.int (xs (k + 3)), .int (nI 100)]) (rest := [.int (nI (lowN (xs (k + 2)) 4)), .int (nI (lowN (xs (k + 1)) 4)), .ref G.1]) ⟨hx, hb, hml, hown, hts⟩ (c_L_low l C (xs (k + 3)) 100 (by decide) (by decide)) (va_cwS 2 hts gL_act_L_low rfl rfl rfl (by decide +kernel) ⟨Nat.le_of_ble_eq_true rfl, Nat.le_of_ble_eq_true rfl⟩) hK hP hD hS hA [] (by decide) rfl rfl hl.1 rfl (Nat.le_of_ble_eq_true rfl) dL_act_128 (Nat.zero_le _) (Nat.zero_le _) (fun H locs hP hS => ?_)
    refine W.eq (g2 := F0 m 131 ls [.int (nI (lowN (xs (k + 3)) 100)), .int (nI (lowN (xs (k + 2)) 4)), .int (nI (lowN (xs (k + 1)) 4)), .ref G.1]) rfl ?_
    refine lk_V (As := [.int (nI (lowN (xs (k + 1)) 4)), .int (nI (lowN (xs (k + 2)) 4)), .int (nI (lowN (xs (k + 3)) 100))]) (rest := []) ⟨hx, hb, hml, hown, hts⟩ (k_gift l C G b ph r n (lowN (xs (k + 1)) 4) (lowN (xs (k + 2)) 4) (lowN (xs (k + 3)) 100) hB hr6 hn6 ha4 hb4 (by omega)) (cwV 3 hts gL_act_X4_gift rfl rfl rfl (by decide +kernel) ⟨Nat.le_of_ble_eq_true rfl, Nat.le_of_ble_eq_true rfl⟩) hK hV hE hX hP hD hS hA rfl hl.1 rfl (Nat.le_of_ble_eq_true rfl) dL_act_131 (Nat.zero_le _) (Nat.zero_le _) (fun X H locs hX hP hD hS => ?_)
    refine W.eq (g2 := F0 m 134 ls [.int (nI (bg b (4 * lowN (xs (k + 1)) 4 + lowN (xs (k + 2)) 4)))]) rfl ?_
    refine W.widen (k := 0 + 1) (n := 0 + 6) (by omega) (by omega) ?_
    exact q_iret1 hx hb hr hlocks hP hS (LW.fst hX0 hX) dL_act_134 ⟨_, _, _, _, _, rfl, hX, acQ_kept hJ hH (okJ_same (okJ_w hJ (Nat.le_succ J)) (okS_sg hok (by omega)).1 rfl rfl rfl) (nI_pos' (by have := (hg _ _ ha4 hb4).1; omega)) (fun _ => rfl) (fun q => absurd q (by decide))⟩
  · skip
    refine lv_tableIn (off := 76) (tgt := 112) hx hb dL_act_36 (by decide +kernel) (by decide +kernel) (by decide +kernel) (by decide) ?_
    refine lv_aload_n hx hb dL_act_112 rfl (lv_at hl 3 rfl) ?_
    refine lv_iload_n hx hb dL_act_113 rfl (lv_at hl 2 rfl) ?_
    refine lv_iconst (v := nI 4) hx hb dL_act_114 (by decide) ?_
    refine q_S0 (As := [.int (xs (k + 1)), .int (nI 4)]) (rest := [.ref G.1]) ⟨hx, hb, hml, hown, hts⟩ (c_L_low l C (xs (k + 1)) 4 (by decide) (by decide)) (va_cwS 2 hts gL_act_L_low rfl rfl rfl (by decide +kernel) ⟨Nat.le_of_ble_eq_true rfl, Nat.le_of_ble_eq_true rfl⟩) hK hP hD hS hA [] (by decide) rfl rfl hl.1 rfl (Nat.le_of_ble_eq_true rfl) dL_act_115 (Nat.zero_le _) (Nat.zero_le _) (fun H locs hP hS => ?_)
    refine W.eq (g2 := F0 m 118 ls [.int (nI (lowN (xs (k + 1)) 4)), .ref G.1]) rfl ?_
    refine lv_iload hx hb dL_act_118 (lv_at hl 1 rfl) ?_
    refine lv_iconst (v := nI 4) hx hb dL_act_120 (by decide) ?_
    refine q_S0 (As := [.int (xs (k + 2)), .int (nI 4)]) (rest := [.int (nI (lowN (xs (k + 1)) 4)), .ref G.1]) ⟨hx, hb, hml, hown, hts⟩ (c_L_low l C (xs (k + 2)) 4 (by decide) (by decide)) (va_cwS 2 hts gL_act_L_low rfl rfl rfl (by decide +kernel) ⟨Nat.le_of_ble_eq_true rfl, Nat.le_of_ble_eq_true rfl⟩) hK hP hD hS hA [] (by decide) rfl rfl hl.1 rfl (Nat.le_of_ble_eq_true rfl) dL_act_121 (Nat.zero_le _) (Nat.zero_le _) (fun H locs hP hS => ?_)
    refine W.eq (g2 := F0 m 124 ls [.int (nI (lowN (xs (k + 2)) 4)), .int (nI (lowN (xs (k + 1)) 4)), .ref G.1]) rfl ?_
    refine lv_iload hx hb dL_act_124 (lv_at hl 0 rfl) ?_
    refine lv_bipush (v := nI 100) hx hb dL_act_126 (by decide) ?_
    refine q_S0 (As := [.int (xs (k + 3)), .int (nI 100)]) (rest := [.int (nI (lowN (xs (k + 2)) 4)), .int (nI (lowN (xs (k + 1)) 4)), .ref G.1]) ⟨hx, hb, hml, hown, hts⟩ (c_L_low l C (xs (k + 3)) 100 (by decide) (by decide)) (va_cwS 2 hts gL_act_L_low rfl rfl rfl (by decide +kernel) ⟨Nat.le_of_ble_eq_true rfl, Nat.le_of_ble_eq_true rfl⟩) hK hP hD hS hA [] (by decide) rfl rfl hl.1 rfl (Nat.le_of_ble_eq_true rfl) dL_act_128 (Nat.zero_le _) (Nat.zero_le _) (fun H locs hP hS => ?_)
    refine W.eq (g2 := F0 m 131 ls [.int (nI (lowN (xs (k + 3)) 100)), .int (nI (lowN (xs (k + 2)) 4)), .int (nI (lowN (xs (k + 1)) 4)), .ref G.1]) rfl ?_
    refine lk_V (As := [.int (nI (lowN (xs (k + 1)) 4)), .int (nI (lowN (xs (k + 2)) 4)), .int (nI (lowN (xs (k + 3)) 100))]) (rest := []) ⟨hx, hb, hml, hown, hts⟩ (k_gift l C G b ph r n (lowN (xs (k + 1)) 4) (lowN (xs (k + 2)) 4) (lowN (xs (k + 3)) 100) hB hr6 hn6 ha4 hb4 (by omega)) (cwV 3 hts gL_act_X4_gift rfl rfl rfl (by decide +kernel) ⟨Nat.le_of_ble_eq_true rfl, Nat.le_of_ble_eq_true rfl⟩) hK hV hE hX hP hD hS hA rfl hl.1 rfl (Nat.le_of_ble_eq_true rfl) dL_act_131 (Nat.zero_le _) (Nat.zero_le _) (fun X H locs hX hP hD hS => ?_)
    refine W.eq (g2 := F0 m 134 ls [.int (nI (bg b (4 * lowN (xs (k + 1)) 4 + lowN (xs (k + 2)) 4)))]) rfl ?_
    refine W.widen (k := 0 + 1) (n := 0 + 6) (by omega) (by omega) ?_
    exact q_iret1 hx hb hr hlocks hP hS (LW.fst hX0 hX) dL_act_134 ⟨_, _, _, _, _, rfl, hX, acQ_kept hJ hH (okJ_same (okJ_w hJ (Nat.le_succ J)) (okS_sg hok (by omega)).1 rfl rfl rfl) (nI_pos' (by have := (hg _ _ ha4 hb4).1; omega)) (fun _ => rfl) (fun q => absurd q (by decide))⟩
  · skip
    refine lv_tableIn (off := 76) (tgt := 112) hx hb dL_act_36 (by decide +kernel) (by decide +kernel) (by decide +kernel) (by decide) ?_
    refine lv_aload_n hx hb dL_act_112 rfl (lv_at hl 3 rfl) ?_
    refine lv_iload_n hx hb dL_act_113 rfl (lv_at hl 2 rfl) ?_
    refine lv_iconst (v := nI 4) hx hb dL_act_114 (by decide) ?_
    refine q_S0 (As := [.int (xs (k + 1)), .int (nI 4)]) (rest := [.ref G.1]) ⟨hx, hb, hml, hown, hts⟩ (c_L_low l C (xs (k + 1)) 4 (by decide) (by decide)) (va_cwS 2 hts gL_act_L_low rfl rfl rfl (by decide +kernel) ⟨Nat.le_of_ble_eq_true rfl, Nat.le_of_ble_eq_true rfl⟩) hK hP hD hS hA [] (by decide) rfl rfl hl.1 rfl (Nat.le_of_ble_eq_true rfl) dL_act_115 (Nat.zero_le _) (Nat.zero_le _) (fun H locs hP hS => ?_)
    refine W.eq (g2 := F0 m 118 ls [.int (nI (lowN (xs (k + 1)) 4)), .ref G.1]) rfl ?_
    refine lv_iload hx hb dL_act_118 (lv_at hl 1 rfl) ?_
    refine lv_iconst (v := nI 4) hx hb dL_act_120 (by decide) ?_
    refine q_S0 (As := [.int (xs (k + 2)), .int (nI 4)]) (rest := [.int (nI (lowN (xs (k + 1)) 4)), .ref G.1]) ⟨hx, hb, hml, hown, hts⟩ (c_L_low l C (xs (k + 2)) 4 (by decide) (by decide)) (va_cwS 2 hts gL_act_L_low rfl rfl rfl (by decide +kernel) ⟨Nat.le_of_ble_eq_true rfl, Nat.le_of_ble_eq_true rfl⟩) hK hP hD hS hA [] (by decide) rfl rfl hl.1 rfl (Nat.le_of_ble_eq_true rfl) dL_act_121 (Nat.zero_le _) (Nat.zero_le _) (fun H locs hP hS => ?_)
    refine W.eq (g2 := F0 m 124 ls [.int (nI (lowN (xs (k + 2)) 4)), .int (nI (lowN (xs (k + 1)) 4)), .ref G.1]) rfl ?_
    refine lv_iload hx hb dL_act_124 (lv_at hl 0 rfl) ?_
    refine lv_bipush (v := nI 100) hx hb dL_act_126 (by decide) ?_
    refine q_S0 (As := [.int (xs (k + 3)), .int (nI 100)]) (rest := [.int (nI (lowN (xs (k + 2)) 4)), .int (nI (lowN (xs (k + 1)) 4)), .ref G.1]) ⟨hx, hb, hml, hown, hts⟩ (c_L_low l C (xs (k + 3)) 100 (by decide) (by decide)) (va_cwS 2 hts gL_act_L_low rfl rfl rfl (by decide +kernel) ⟨Nat.le_of_ble_eq_true rfl, Nat.le_of_ble_eq_true rfl⟩) hK hP hD hS hA [] (by decide) rfl rfl hl.1 rfl (Nat.le_of_ble_eq_true rfl) dL_act_128 (Nat.zero_le _) (Nat.zero_le _) (fun H locs hP hS => ?_)
    refine W.eq (g2 := F0 m 131 ls [.int (nI (lowN (xs (k + 3)) 100)), .int (nI (lowN (xs (k + 2)) 4)), .int (nI (lowN (xs (k + 1)) 4)), .ref G.1]) rfl ?_
    refine lk_V (As := [.int (nI (lowN (xs (k + 1)) 4)), .int (nI (lowN (xs (k + 2)) 4)), .int (nI (lowN (xs (k + 3)) 100))]) (rest := []) ⟨hx, hb, hml, hown, hts⟩ (k_gift l C G b ph r n (lowN (xs (k + 1)) 4) (lowN (xs (k + 2)) 4) (lowN (xs (k + 3)) 100) hB hr6 hn6 ha4 hb4 (by omega)) (cwV 3 hts gL_act_X4_gift rfl rfl rfl (by decide +kernel) ⟨Nat.le_of_ble_eq_true rfl, Nat.le_of_ble_eq_true rfl⟩) hK hV hE hX hP hD hS hA rfl hl.1 rfl (Nat.le_of_ble_eq_true rfl) dL_act_131 (Nat.zero_le _) (Nat.zero_le _) (fun X H locs hX hP hD hS => ?_)
    refine W.eq (g2 := F0 m 134 ls [.int (nI (bg b (4 * lowN (xs (k + 1)) 4 + lowN (xs (k + 2)) 4)))]) rfl ?_
    refine W.widen (k := 0 + 1) (n := 0 + 6) (by omega) (by omega) ?_
    exact q_iret1 hx hb hr hlocks hP hS (LW.fst hX0 hX) dL_act_134 ⟨_, _, _, _, _, rfl, hX, acQ_kept hJ hH (okJ_same (okJ_w hJ (Nat.le_succ J)) (okS_sg hok (by omega)).1 rfl rfl rfl) (nI_pos' (by have := (hg _ _ ha4 hb4).1; omega)) (fun _ => rfl) (fun q => absurd q (by decide))⟩
  · skip
    refine lv_tableIn (off := 76) (tgt := 112) hx hb dL_act_36 (by decide +kernel) (by decide +kernel) (by decide +kernel) (by decide) ?_
    refine lv_aload_n hx hb dL_act_112 rfl (lv_at hl 3 rfl) ?_
    refine lv_iload_n hx hb dL_act_113 rfl (lv_at hl 2 rfl) ?_
    refine lv_iconst (v := nI 4) hx hb dL_act_114 (by decide) ?_
    refine q_S0 (As := [.int (xs (k + 1)), .int (nI 4)]) (rest := [.ref G.1]) ⟨hx, hb, hml, hown, hts⟩ (c_L_low l C (xs (k + 1)) 4 (by decide) (by decide)) (va_cwS 2 hts gL_act_L_low rfl rfl rfl (by decide +kernel) ⟨Nat.le_of_ble_eq_true rfl, Nat.le_of_ble_eq_true rfl⟩) hK hP hD hS hA [] (by decide) rfl rfl hl.1 rfl (Nat.le_of_ble_eq_true rfl) dL_act_115 (Nat.zero_le _) (Nat.zero_le _) (fun H locs hP hS => ?_)
    refine W.eq (g2 := F0 m 118 ls [.int (nI (lowN (xs (k + 1)) 4)), .ref G.1]) rfl ?_
    refine lv_iload hx hb dL_act_118 (lv_at hl 1 rfl) ?_
    refine lv_iconst (v := nI 4) hx hb dL_act_120 (by decide) ?_
    refine q_S0 (As := [.int (xs (k + 2)), .int (nI 4)]) (rest := [.int (nI (lowN (xs (k + 1)) 4)), .ref G.1]) ⟨hx, hb, hml, hown, hts⟩ (c_L_low l C (xs (k + 2)) 4 (by decide) (by decide)) (va_cwS 2 hts gL_act_L_low rfl rfl rfl (by decide +kernel) ⟨Nat.le_of_ble_eq_true rfl, Nat.le_of_ble_eq_true rfl⟩) hK hP hD hS hA [] (by decide) rfl rfl hl.1 rfl (Nat.le_of_ble_eq_true rfl) dL_act_121 (Nat.zero_le _) (Nat.zero_le _) (fun H locs hP hS => ?_)
    refine W.eq (g2 := F0 m 124 ls [.int (nI (lowN (xs (k + 2)) 4)), .int (nI (lowN (xs (k + 1)) 4)), .ref G.1]) rfl ?_
    refine lv_iload hx hb dL_act_124 (lv_at hl 0 rfl) ?_
    refine lv_bipush (v := nI 100) hx hb dL_act_126 (by decide) ?_
    refine q_S0 (As := [.int (xs (k + 3)), .int (nI 100)]) (rest := [.int (nI (lowN (xs (k + 2)) 4)), .int (nI (lowN (xs (k + 1)) 4)), .ref G.1]) ⟨hx, hb, hml, hown, hts⟩ (c_L_low l C (xs (k + 3)) 100 (by decide) (by decide)) (va_cwS 2 hts gL_act_L_low rfl rfl rfl (by decide +kernel) ⟨Nat.le_of_ble_eq_true rfl, Nat.le_of_ble_eq_true rfl⟩) hK hP hD hS hA [] (by decide) rfl rfl hl.1 rfl (Nat.le_of_ble_eq_true rfl) dL_act_128 (Nat.zero_le _) (Nat.zero_le _) (fun H locs hP hS => ?_)
    refine W.eq (g2 := F0 m 131 ls [.int (nI (lowN (xs (k + 3)) 100)), .int (nI (lowN (xs (k + 2)) 4)), .int (nI (lowN (xs (k + 1)) 4)), .ref G.1]) rfl ?_
    refine lk_V (As := [.int (nI (lowN (xs (k + 1)) 4)), .int (nI (lowN (xs (k + 2)) 4)), .int (nI (lowN (xs (k + 3)) 100))]) (rest := []) ⟨hx, hb, hml, hown, hts⟩ (k_gift l C G b ph r n (lowN (xs (k + 1)) 4) (lowN (xs (k + 2)) 4) (lowN (xs (k + 3)) 100) hB hr6 hn6 ha4 hb4 (by omega)) (cwV 3 hts gL_act_X4_gift rfl rfl rfl (by decide +kernel) ⟨Nat.le_of_ble_eq_true rfl, Nat.le_of_ble_eq_true rfl⟩) hK hV hE hX hP hD hS hA rfl hl.1 rfl (Nat.le_of_ble_eq_true rfl) dL_act_131 (Nat.zero_le _) (Nat.zero_le _) (fun X H locs hX hP hD hS => ?_)
    refine W.eq (g2 := F0 m 134 ls [.int (nI (bg b (4 * lowN (xs (k + 1)) 4 + lowN (xs (k + 2)) 4)))]) rfl ?_
    refine W.widen (k := 0 + 1) (n := 0 + 6) (by omega) (by omega) ?_
    exact q_iret1 hx hb hr hlocks hP hS (LW.fst hX0 hX) dL_act_134 ⟨_, _, _, _, _, rfl, hX, acQ_kept hJ hH (okJ_same (okJ_w hJ (Nat.le_succ J)) (okS_sg hok (by omega)).1 rfl rfl rfl) (nI_pos' (by have := (hg _ _ ha4 hb4).1; omega)) (fun _ => rfl) (fun q => absurd q (by decide))⟩
  · skip
    refine lv_tableIn (off := 99) (tgt := 135) hx hb dL_act_36 (by decide +kernel) (by decide +kernel) (by decide +kernel) (by decide) ?_
    refine lv_aload_n hx hb dL_act_135 rfl (lv_at hl 3 rfl) ?_
    refine lv_iload_n hx hb dL_act_136 rfl (lv_at hl 2 rfl) ?_
    refine lv_iconst (v := nI 4) hx hb dL_act_137 (by decide) ?_
    refine q_S0 (As := [.int (xs (k + 1)), .int (nI 4)]) (rest := [.ref G.1]) ⟨hx, hb, hml, hown, hts⟩ (c_L_low l C (xs (k + 1)) 4 (by decide) (by decide)) (va_cwS 2 hts gL_act_L_low rfl rfl rfl (by decide +kernel) ⟨Nat.le_of_ble_eq_true rfl, Nat.le_of_ble_eq_true rfl⟩) hK hP hD hS hA [] (by decide) rfl rfl hl.1 rfl (Nat.le_of_ble_eq_true rfl) dL_act_138 (Nat.zero_le _) (Nat.zero_le _) (fun H locs hP hS => ?_)
    refine W.eq (g2 := F0 m 141 ls [.int (nI (lowN (xs (k + 1)) 4)), .ref G.1]) rfl ?_
    refine lv_iload hx hb dL_act_141 (lv_at hl 1 rfl) ?_
    refine lv_iconst (v := nI 4) hx hb dL_act_143 (by decide) ?_
    refine q_S0 (As := [.int (xs (k + 2)), .int (nI 4)]) (rest := [.int (nI (lowN (xs (k + 1)) 4)), .ref G.1]) ⟨hx, hb, hml, hown, hts⟩ (c_L_low l C (xs (k + 2)) 4 (by decide) (by decide)) (va_cwS 2 hts gL_act_L_low rfl rfl rfl (by decide +kernel) ⟨Nat.le_of_ble_eq_true rfl, Nat.le_of_ble_eq_true rfl⟩) hK hP hD hS hA [] (by decide) rfl rfl hl.1 rfl (Nat.le_of_ble_eq_true rfl) dL_act_144 (Nat.zero_le _) (Nat.zero_le _) (fun H locs hP hS => ?_)
    refine W.eq (g2 := F0 m 147 ls [.int (nI (lowN (xs (k + 2)) 4)), .int (nI (lowN (xs (k + 1)) 4)), .ref G.1]) rfl ?_
    refine lv_iload hx hb dL_act_147 (lv_at hl 0 rfl) ?_
    refine lv_iconst (v := nI 4) hx hb dL_act_149 (by decide) ?_
    refine q_S0 (As := [.int (xs (k + 3)), .int (nI 4)]) (rest := [.int (nI (lowN (xs (k + 2)) 4)), .int (nI (lowN (xs (k + 1)) 4)), .ref G.1]) ⟨hx, hb, hml, hown, hts⟩ (c_L_low l C (xs (k + 3)) 4 (by decide) (by decide)) (va_cwS 2 hts gL_act_L_low rfl rfl rfl (by decide +kernel) ⟨Nat.le_of_ble_eq_true rfl, Nat.le_of_ble_eq_true rfl⟩) hK hP hD hS hA [] (by decide) rfl rfl hl.1 rfl (Nat.le_of_ble_eq_true rfl) dL_act_150 (Nat.zero_le _) (Nat.zero_le _) (fun H locs hP hS => ?_)
    refine W.eq (g2 := F0 m 153 ls [.int (nI (lowN (xs (k + 3)) 4)), .int (nI (lowN (xs (k + 2)) 4)), .int (nI (lowN (xs (k + 1)) 4)), .ref G.1]) rfl ?_
    refine lv_iload_n hx hb dL_act_153 rfl (lv_at hl 2 rfl) ?_
    refine lv_iload hx hb dL_act_154 (lv_at hl 1 rfl) ?_
    refine lv_iadd hx hb dL_act_156 ?_
    refine lv_iconst (v := nI 4) hx hb dL_act_157 (by decide) ?_
    refine q_S0 (As := [.int (xs (k + 1) + xs (k + 2)), .int (nI 4)]) (rest := [.int (nI (lowN (xs (k + 3)) 4)), .int (nI (lowN (xs (k + 2)) 4)), .int (nI (lowN (xs (k + 1)) 4)), .ref G.1]) ⟨hx, hb, hml, hown, hts⟩ (c_L_low l C (xs (k + 1) + xs (k + 2)) 4 (by decide) (by decide)) (va_cwS 2 hts gL_act_L_low rfl rfl rfl (by decide +kernel) ⟨Nat.le_of_ble_eq_true rfl, Nat.le_of_ble_eq_true rfl⟩) hK hP hD hS hA [] (by decide) rfl rfl hl.1 rfl (Nat.le_of_ble_eq_true rfl) dL_act_158 (Nat.zero_le _) (Nat.zero_le _) (fun H locs hP hS => ?_)
    refine W.eq (g2 := F0 m 161 ls [.int (nI (lowN (xs (k + 1) + xs (k + 2)) 4)), .int (nI (lowN (xs (k + 3)) 4)), .int (nI (lowN (xs (k + 2)) 4)), .int (nI (lowN (xs (k + 1)) 4)), .ref G.1]) rfl ?_
    refine lv_iload hx hb dL_act_161 (lv_at hl 1 rfl) ?_
    refine lv_bipush (v := nI 9) hx hb dL_act_163 (by decide) ?_
    refine q_S0 (As := [.int (xs (k + 2)), .int (nI 9)]) (rest := [.int (nI (lowN (xs (k + 1) + xs (k + 2)) 4)), .int (nI (lowN (xs (k + 3)) 4)), .int (nI (lowN (xs (k + 2)) 4)), .int (nI (lowN (xs (k + 1)) 4)), .ref G.1]) ⟨hx, hb, hml, hown, hts⟩ (c_L_low l C (xs (k + 2)) 9 (by decide) (by decide)) (va_cwS 2 hts gL_act_L_low rfl rfl rfl (by decide +kernel) ⟨Nat.le_of_ble_eq_true rfl, Nat.le_of_ble_eq_true rfl⟩) hK hP hD hS hA [] (by decide) rfl rfl hl.1 rfl (Nat.le_of_ble_eq_true rfl) dL_act_165 (Nat.zero_le _) (Nat.zero_le _) (fun H locs hP hS => ?_)
    refine W.eq (g2 := F0 m 168 ls [.int (nI (lowN (xs (k + 2)) 9)), .int (nI (lowN (xs (k + 1) + xs (k + 2)) 4)), .int (nI (lowN (xs (k + 3)) 4)), .int (nI (lowN (xs (k + 2)) 4)), .int (nI (lowN (xs (k + 1)) 4)), .ref G.1]) rfl ?_
    refine lk_V (As := [.int (nI (lowN (xs (k + 1)) 4)), .int (nI (lowN (xs (k + 2)) 4)), .int (nI (lowN (xs (k + 3)) 4)), .int (nI (lowN (xs (k + 1) + xs (k + 2)) 4)), .int (nI (lowN (xs (k + 2)) 9))]) (rest := []) ⟨hx, hb, hml, hown, hts⟩ (k_way l C G b ph r n (lowN (xs (k + 1)) 4) (lowN (xs (k + 2)) 4) (lowN (xs (k + 3)) 4) (lowN (xs (k + 1) + xs (k + 2)) 4) (lowN (xs (k + 2)) 9) hB hr6 hn6 ha4 hb4 hc4 hd4 (by omega)) (cwV 5 hts gL_act_X4_way rfl rfl rfl (by decide +kernel) ⟨Nat.le_of_ble_eq_true rfl, Nat.le_of_ble_eq_true rfl⟩) hK hV hE hX hP hD hS hA rfl hl.1 rfl (Nat.le_of_ble_eq_true rfl) dL_act_168 (Nat.zero_le _) (Nat.zero_le _) (fun X H locs hX hP hD hS => ?_)
    refine W.eq (g2 := F0 m 171 ls [.int (nI (100 * bo b (4 * lowN (xs (k + 1)) 4 + lowN (xs (k + 2)) 4) + 10 * bb b (4 * lowN (xs (k + 1)) 4 + lowN (xs (k + 2)) 4) + bc b (4 * lowN (xs (k + 1)) 4 + lowN (xs (k + 2)) 4)))]) rfl ?_
    refine W.widen (k := 0 + 1) (n := 0 + 6) (by omega) (by omega) ?_
    exact q_iret1 hx hb hr hlocks hP hS (LW.fst hX0 hX) dL_act_171 ⟨_, _, _, _, _, rfl, hX, acQ_kept hJ hH (okJ_same (okJ_w hJ (Nat.le_succ J)) (okS_way hok hc4 hd4 (by omega)).1 rfl rfl rfl) (nI_pos' (by have := hg _ _ ha4 hb4; omega)) (fun _ => rfl) (fun q => absurd q (by decide))⟩
  · skip
    refine lv_tableIn (off := 99) (tgt := 135) hx hb dL_act_36 (by decide +kernel) (by decide +kernel) (by decide +kernel) (by decide) ?_
    refine lv_aload_n hx hb dL_act_135 rfl (lv_at hl 3 rfl) ?_
    refine lv_iload_n hx hb dL_act_136 rfl (lv_at hl 2 rfl) ?_
    refine lv_iconst (v := nI 4) hx hb dL_act_137 (by decide) ?_
    refine q_S0 (As := [.int (xs (k + 1)), .int (nI 4)]) (rest := [.ref G.1]) ⟨hx, hb, hml, hown, hts⟩ (c_L_low l C (xs (k + 1)) 4 (by decide) (by decide)) (va_cwS 2 hts gL_act_L_low rfl rfl rfl (by decide +kernel) ⟨Nat.le_of_ble_eq_true rfl, Nat.le_of_ble_eq_true rfl⟩) hK hP hD hS hA [] (by decide) rfl rfl hl.1 rfl (Nat.le_of_ble_eq_true rfl) dL_act_138 (Nat.zero_le _) (Nat.zero_le _) (fun H locs hP hS => ?_)
    refine W.eq (g2 := F0 m 141 ls [.int (nI (lowN (xs (k + 1)) 4)), .ref G.1]) rfl ?_
    refine lv_iload hx hb dL_act_141 (lv_at hl 1 rfl) ?_
    refine lv_iconst (v := nI 4) hx hb dL_act_143 (by decide) ?_
    refine q_S0 (As := [.int (xs (k + 2)), .int (nI 4)]) (rest := [.int (nI (lowN (xs (k + 1)) 4)), .ref G.1]) ⟨hx, hb, hml, hown, hts⟩ (c_L_low l C (xs (k + 2)) 4 (by decide) (by decide)) (va_cwS 2 hts gL_act_L_low rfl rfl rfl (by decide +kernel) ⟨Nat.le_of_ble_eq_true rfl, Nat.le_of_ble_eq_true rfl⟩) hK hP hD hS hA [] (by decide) rfl rfl hl.1 rfl (Nat.le_of_ble_eq_true rfl) dL_act_144 (Nat.zero_le _) (Nat.zero_le _) (fun H locs hP hS => ?_)
    refine W.eq (g2 := F0 m 147 ls [.int (nI (lowN (xs (k + 2)) 4)), .int (nI (lowN (xs (k + 1)) 4)), .ref G.1]) rfl ?_
    refine lv_iload hx hb dL_act_147 (lv_at hl 0 rfl) ?_
    refine lv_iconst (v := nI 4) hx hb dL_act_149 (by decide) ?_
    refine q_S0 (As := [.int (xs (k + 3)), .int (nI 4)]) (rest := [.int (nI (lowN (xs (k + 2)) 4)), .int (nI (lowN (xs (k + 1)) 4)), .ref G.1]) ⟨hx, hb, hml, hown, hts⟩ (c_L_low l C (xs (k + 3)) 4 (by decide) (by decide)) (va_cwS 2 hts gL_act_L_low rfl rfl rfl (by decide +kernel) ⟨Nat.le_of_ble_eq_true rfl, Nat.le_of_ble_eq_true rfl⟩) hK hP hD hS hA [] (by decide) rfl rfl hl.1 rfl (Nat.le_of_ble_eq_true rfl) dL_act_150 (Nat.zero_le _) (Nat.zero_le _) (fun H locs hP hS => ?_)
    refine W.eq (g2 := F0 m 153 ls [.int (nI (lowN (xs (k + 3)) 4)), .int (nI (lowN (xs (k + 2)) 4)), .int (nI (lowN (xs (k + 1)) 4)), .ref G.1]) rfl ?_
    refine lv_iload_n hx hb dL_act_153 rfl (lv_at hl 2 rfl) ?_
    refine lv_iload hx hb dL_act_154 (lv_at hl 1 rfl) ?_
    refine lv_iadd hx hb dL_act_156 ?_
    refine lv_iconst (v := nI 4) hx hb dL_act_157 (by decide) ?_
    refine q_S0 (As := [.int (xs (k + 1) + xs (k + 2)), .int (nI 4)]) (rest := [.int (nI (lowN (xs (k + 3)) 4)), .int (nI (lowN (xs (k + 2)) 4)), .int (nI (lowN (xs (k + 1)) 4)), .ref G.1]) ⟨hx, hb, hml, hown, hts⟩ (c_L_low l C (xs (k + 1) + xs (k + 2)) 4 (by decide) (by decide)) (va_cwS 2 hts gL_act_L_low rfl rfl rfl (by decide +kernel) ⟨Nat.le_of_ble_eq_true rfl, Nat.le_of_ble_eq_true rfl⟩) hK hP hD hS hA [] (by decide) rfl rfl hl.1 rfl (Nat.le_of_ble_eq_true rfl) dL_act_158 (Nat.zero_le _) (Nat.zero_le _) (fun H locs hP hS => ?_)
    refine W.eq (g2 := F0 m 161 ls [.int (nI (lowN (xs (k + 1) + xs (k + 2)) 4)), .int (nI (lowN (xs (k + 3)) 4)), .int (nI (lowN (xs (k + 2)) 4)), .int (nI (lowN (xs (k + 1)) 4)), .ref G.1]) rfl ?_
    refine lv_iload hx hb dL_act_161 (lv_at hl 1 rfl) ?_
    refine lv_bipush (v := nI 9) hx hb dL_act_163 (by decide) ?_
    refine q_S0 (As := [.int (xs (k + 2)), .int (nI 9)]) (rest := [.int (nI (lowN (xs (k + 1) + xs (k + 2)) 4)), .int (nI (lowN (xs (k + 3)) 4)), .int (nI (lowN (xs (k + 2)) 4)), .int (nI (lowN (xs (k + 1)) 4)), .ref G.1]) ⟨hx, hb, hml, hown, hts⟩ (c_L_low l C (xs (k + 2)) 9 (by decide) (by decide)) (va_cwS 2 hts gL_act_L_low rfl rfl rfl (by decide +kernel) ⟨Nat.le_of_ble_eq_true rfl, Nat.le_of_ble_eq_true rfl⟩) hK hP hD hS hA [] (by decide) rfl rfl hl.1 rfl (Nat.le_of_ble_eq_true rfl) dL_act_165 (Nat.zero_le _) (Nat.zero_le _) (fun H locs hP hS => ?_)
    refine W.eq (g2 := F0 m 168 ls [.int (nI (lowN (xs (k + 2)) 9)), .int (nI (lowN (xs (k + 1) + xs (k + 2)) 4)), .int (nI (lowN (xs (k + 3)) 4)), .int (nI (lowN (xs (k + 2)) 4)), .int (nI (lowN (xs (k + 1)) 4)), .ref G.1]) rfl ?_
    refine lk_V (As := [.int (nI (lowN (xs (k + 1)) 4)), .int (nI (lowN (xs (k + 2)) 4)), .int (nI (lowN (xs (k + 3)) 4)), .int (nI (lowN (xs (k + 1) + xs (k + 2)) 4)), .int (nI (lowN (xs (k + 2)) 9))]) (rest := []) ⟨hx, hb, hml, hown, hts⟩ (k_way l C G b ph r n (lowN (xs (k + 1)) 4) (lowN (xs (k + 2)) 4) (lowN (xs (k + 3)) 4) (lowN (xs (k + 1) + xs (k + 2)) 4) (lowN (xs (k + 2)) 9) hB hr6 hn6 ha4 hb4 hc4 hd4 (by omega)) (cwV 5 hts gL_act_X4_way rfl rfl rfl (by decide +kernel) ⟨Nat.le_of_ble_eq_true rfl, Nat.le_of_ble_eq_true rfl⟩) hK hV hE hX hP hD hS hA rfl hl.1 rfl (Nat.le_of_ble_eq_true rfl) dL_act_168 (Nat.zero_le _) (Nat.zero_le _) (fun X H locs hX hP hD hS => ?_)
    refine W.eq (g2 := F0 m 171 ls [.int (nI (100 * bo b (4 * lowN (xs (k + 1)) 4 + lowN (xs (k + 2)) 4) + 10 * bb b (4 * lowN (xs (k + 1)) 4 + lowN (xs (k + 2)) 4) + bc b (4 * lowN (xs (k + 1)) 4 + lowN (xs (k + 2)) 4)))]) rfl ?_
    refine W.widen (k := 0 + 1) (n := 0 + 6) (by omega) (by omega) ?_
    exact q_iret1 hx hb hr hlocks hP hS (LW.fst hX0 hX) dL_act_171 ⟨_, _, _, _, _, rfl, hX, acQ_kept hJ hH (okJ_same (okJ_w hJ (Nat.le_succ J)) (okS_way hok hc4 hd4 (by omega)).1 rfl rfl rfl) (nI_pos' (by have := hg _ _ ha4 hb4; omega)) (fun _ => rfl) (fun q => absurd q (by decide))⟩
  · skip
    refine lv_tableIn (off := 99) (tgt := 135) hx hb dL_act_36 (by decide +kernel) (by decide +kernel) (by decide +kernel) (by decide) ?_
    refine lv_aload_n hx hb dL_act_135 rfl (lv_at hl 3 rfl) ?_
    refine lv_iload_n hx hb dL_act_136 rfl (lv_at hl 2 rfl) ?_
    refine lv_iconst (v := nI 4) hx hb dL_act_137 (by decide) ?_
    refine q_S0 (As := [.int (xs (k + 1)), .int (nI 4)]) (rest := [.ref G.1]) ⟨hx, hb, hml, hown, hts⟩ (c_L_low l C (xs (k + 1)) 4 (by decide) (by decide)) (va_cwS 2 hts gL_act_L_low rfl rfl rfl (by decide +kernel) ⟨Nat.le_of_ble_eq_true rfl, Nat.le_of_ble_eq_true rfl⟩) hK hP hD hS hA [] (by decide) rfl rfl hl.1 rfl (Nat.le_of_ble_eq_true rfl) dL_act_138 (Nat.zero_le _) (Nat.zero_le _) (fun H locs hP hS => ?_)
    refine W.eq (g2 := F0 m 141 ls [.int (nI (lowN (xs (k + 1)) 4)), .ref G.1]) rfl ?_
    refine lv_iload hx hb dL_act_141 (lv_at hl 1 rfl) ?_
    refine lv_iconst (v := nI 4) hx hb dL_act_143 (by decide) ?_
    refine q_S0 (As := [.int (xs (k + 2)), .int (nI 4)]) (rest := [.int (nI (lowN (xs (k + 1)) 4)), .ref G.1]) ⟨hx, hb, hml, hown, hts⟩ (c_L_low l C (xs (k + 2)) 4 (by decide) (by decide)) (va_cwS 2 hts gL_act_L_low rfl rfl rfl (by decide +kernel) ⟨Nat.le_of_ble_eq_true rfl, Nat.le_of_ble_eq_true rfl⟩) hK hP hD hS hA [] (by decide) rfl rfl hl.1 rfl (Nat.le_of_ble_eq_true rfl) dL_act_144 (Nat.zero_le _) (Nat.zero_le _) (fun H locs hP hS => ?_)
    refine W.eq (g2 := F0 m 147 ls [.int (nI (lowN (xs (k + 2)) 4)), .int (nI (lowN (xs (k + 1)) 4)), .ref G.1]) rfl ?_
    refine lv_iload hx hb dL_act_147 (lv_at hl 0 rfl) ?_
    refine lv_iconst (v := nI 4) hx hb dL_act_149 (by decide) ?_
    refine q_S0 (As := [.int (xs (k + 3)), .int (nI 4)]) (rest := [.int (nI (lowN (xs (k + 2)) 4)), .int (nI (lowN (xs (k + 1)) 4)), .ref G.1]) ⟨hx, hb, hml, hown, hts⟩ (c_L_low l C (xs (k + 3)) 4 (by decide) (by decide)) (va_cwS 2 hts gL_act_L_low rfl rfl rfl (by decide +kernel) ⟨Nat.le_of_ble_eq_true rfl, Nat.le_of_ble_eq_true rfl⟩) hK hP hD hS hA [] (by decide) rfl rfl hl.1 rfl (Nat.le_of_ble_eq_true rfl) dL_act_150 (Nat.zero_le _) (Nat.zero_le _) (fun H locs hP hS => ?_)
    refine W.eq (g2 := F0 m 153 ls [.int (nI (lowN (xs (k + 3)) 4)), .int (nI (lowN (xs (k + 2)) 4)), .int (nI (lowN (xs (k + 1)) 4)), .ref G.1]) rfl ?_
    refine lv_iload_n hx hb dL_act_153 rfl (lv_at hl 2 rfl) ?_
    refine lv_iload hx hb dL_act_154 (lv_at hl 1 rfl) ?_
    refine lv_iadd hx hb dL_act_156 ?_
    refine lv_iconst (v := nI 4) hx hb dL_act_157 (by decide) ?_
    refine q_S0 (As := [.int (xs (k + 1) + xs (k + 2)), .int (nI 4)]) (rest := [.int (nI (lowN (xs (k + 3)) 4)), .int (nI (lowN (xs (k + 2)) 4)), .int (nI (lowN (xs (k + 1)) 4)), .ref G.1]) ⟨hx, hb, hml, hown, hts⟩ (c_L_low l C (xs (k + 1) + xs (k + 2)) 4 (by decide) (by decide)) (va_cwS 2 hts gL_act_L_low rfl rfl rfl (by decide +kernel) ⟨Nat.le_of_ble_eq_true rfl, Nat.le_of_ble_eq_true rfl⟩) hK hP hD hS hA [] (by decide) rfl rfl hl.1 rfl (Nat.le_of_ble_eq_true rfl) dL_act_158 (Nat.zero_le _) (Nat.zero_le _) (fun H locs hP hS => ?_)
    refine W.eq (g2 := F0 m 161 ls [.int (nI (lowN (xs (k + 1) + xs (k + 2)) 4)), .int (nI (lowN (xs (k + 3)) 4)), .int (nI (lowN (xs (k + 2)) 4)), .int (nI (lowN (xs (k + 1)) 4)), .ref G.1]) rfl ?_
    refine lv_iload hx hb dL_act_161 (lv_at hl 1 rfl) ?_
    refine lv_bipush (v := nI 9) hx hb dL_act_163 (by decide) ?_
    refine q_S0 (As := [.int (xs (k + 2)), .int (nI 9)]) (rest := [.int (nI (lowN (xs (k + 1) + xs (k + 2)) 4)), .int (nI (lowN (xs (k + 3)) 4)), .int (nI (lowN (xs (k + 2)) 4)), .int (nI (lowN (xs (k + 1)) 4)), .ref G.1]) ⟨hx, hb, hml, hown, hts⟩ (c_L_low l C (xs (k + 2)) 9 (by decide) (by decide)) (va_cwS 2 hts gL_act_L_low rfl rfl rfl (by decide +kernel) ⟨Nat.le_of_ble_eq_true rfl, Nat.le_of_ble_eq_true rfl⟩) hK hP hD hS hA [] (by decide) rfl rfl hl.1 rfl (Nat.le_of_ble_eq_true rfl) dL_act_165 (Nat.zero_le _) (Nat.zero_le _) (fun H locs hP hS => ?_)
    refine W.eq (g2 := F0 m 168 ls [.int (nI (lowN (xs (k + 2)) 9)), .int (nI (lowN (xs (k + 1) + xs (k + 2)) 4)), .int (nI (lowN (xs (k + 3)) 4)), .int (nI (lowN (xs (k + 2)) 4)), .int (nI (lowN (xs (k + 1)) 4)), .ref G.1]) rfl ?_
    refine lk_V (As := [.int (nI (lowN (xs (k + 1)) 4)), .int (nI (lowN (xs (k + 2)) 4)), .int (nI (lowN (xs (k + 3)) 4)), .int (nI (lowN (xs (k + 1) + xs (k + 2)) 4)), .int (nI (lowN (xs (k + 2)) 9))]) (rest := []) ⟨hx, hb, hml, hown, hts⟩ (k_way l C G b ph r n (lowN (xs (k + 1)) 4) (lowN (xs (k + 2)) 4) (lowN (xs (k + 3)) 4) (lowN (xs (k + 1) + xs (k + 2)) 4) (lowN (xs (k + 2)) 9) hB hr6 hn6 ha4 hb4 hc4 hd4 (by omega)) (cwV 5 hts gL_act_X4_way rfl rfl rfl (by decide +kernel) ⟨Nat.le_of_ble_eq_true rfl, Nat.le_of_ble_eq_true rfl⟩) hK hV hE hX hP hD hS hA rfl hl.1 rfl (Nat.le_of_ble_eq_true rfl) dL_act_168 (Nat.zero_le _) (Nat.zero_le _) (fun X H locs hX hP hD hS => ?_)
    refine W.eq (g2 := F0 m 171 ls [.int (nI (100 * bo b (4 * lowN (xs (k + 1)) 4 + lowN (xs (k + 2)) 4) + 10 * bb b (4 * lowN (xs (k + 1)) 4 + lowN (xs (k + 2)) 4) + bc b (4 * lowN (xs (k + 1)) 4 + lowN (xs (k + 2)) 4)))]) rfl ?_
    refine W.widen (k := 0 + 1) (n := 0 + 6) (by omega) (by omega) ?_
    exact q_iret1 hx hb hr hlocks hP hS (LW.fst hX0 hX) dL_act_171 ⟨_, _, _, _, _, rfl, hX, acQ_kept hJ hH (okJ_same (okJ_w hJ (Nat.le_succ J)) (okS_way hok hc4 hd4 (by omega)).1 rfl rfl rfl) (nI_pos' (by have := hg _ _ ha4 hb4; omega)) (fun _ => rfl) (fun q => absurd q (by decide))⟩
  · skip
    refine lv_tableIn (off := 136) (tgt := 172) hx hb dL_act_36 (by decide +kernel) (by decide +kernel) (by decide +kernel) (by decide) ?_
    refine lv_aload_n hx hb dL_act_172 rfl (lv_at hl 3 rfl) ?_
    refine lv_iload_n hx hb dL_act_173 rfl (lv_at hl 2 rfl) ?_
    refine lv_iconst (v := nI 4) hx hb dL_act_174 (by decide) ?_
    refine q_S0 (As := [.int (xs (k + 1)), .int (nI 4)]) (rest := [.ref G.1]) ⟨hx, hb, hml, hown, hts⟩ (c_L_low l C (xs (k + 1)) 4 (by decide) (by decide)) (va_cwS 2 hts gL_act_L_low rfl rfl rfl (by decide +kernel) ⟨Nat.le_of_ble_eq_true rfl, Nat.le_of_ble_eq_true rfl⟩) hK hP hD hS hA [] (by decide) rfl rfl hl.1 rfl (Nat.le_of_ble_eq_true rfl) dL_act_175 (Nat.zero_le _) (Nat.zero_le _) (fun H locs hP hS => ?_)
    refine W.eq (g2 := F0 m 178 ls [.int (nI (lowN (xs (k + 1)) 4)), .ref G.1]) rfl ?_
    refine lv_iload hx hb dL_act_178 (lv_at hl 1 rfl) ?_
    refine lv_iconst (v := nI 4) hx hb dL_act_180 (by decide) ?_
    refine q_S0 (As := [.int (xs (k + 2)), .int (nI 4)]) (rest := [.int (nI (lowN (xs (k + 1)) 4)), .ref G.1]) ⟨hx, hb, hml, hown, hts⟩ (c_L_low l C (xs (k + 2)) 4 (by decide) (by decide)) (va_cwS 2 hts gL_act_L_low rfl rfl rfl (by decide +kernel) ⟨Nat.le_of_ble_eq_true rfl, Nat.le_of_ble_eq_true rfl⟩) hK hP hD hS hA [] (by decide) rfl rfl hl.1 rfl (Nat.le_of_ble_eq_true rfl) dL_act_181 (Nat.zero_le _) (Nat.zero_le _) (fun H locs hP hS => ?_)
    refine W.eq (g2 := F0 m 184 ls [.int (nI (lowN (xs (k + 2)) 4)), .int (nI (lowN (xs (k + 1)) 4)), .ref G.1]) rfl ?_
    refine lk_V (As := [.int (nI (lowN (xs (k + 1)) 4)), .int (nI (lowN (xs (k + 2)) 4))]) (rest := []) ⟨hx, hb, hml, hown, hts⟩ (k_put l C G b ph r n (lowN (xs (k + 1)) 4) (lowN (xs (k + 2)) 4) hr6 hn6 ha4 hb4) (cwV 2 hts gL_act_X4_put rfl rfl rfl (by decide +kernel) ⟨Nat.le_of_ble_eq_true rfl, Nat.le_of_ble_eq_true rfl⟩) hK hV hE hX hP hD hS hA rfl hl.1 rfl (Nat.le_of_ble_eq_true rfl) dL_act_184 (Nat.zero_le _) (Nat.zero_le _) (fun X H locs hX hP hD hS => ?_)
    refine W.eq (g2 := F0 m 187 ls [.int (nI (bp b (lowN (xs (k + 1)) 4)))]) rfl ?_
    refine W.widen (k := 0 + 1) (n := 0 + 6) (by omega) (by omega) ?_
    exact q_iret1 hx hb hr hlocks hP hS (LW.fst hX0 hX) dL_act_187 ⟨_, _, _, _, _, rfl, hX, acQ_kept hJ hH (okJ_same (okJ_w hJ (Nat.le_succ J)) (okS_sp hok hb4).1 rfl rfl rfl) (nI_pos' (by have := hB.2.1 _ ha4; omega)) (fun _ => rfl) (fun q => absurd q (by decide))⟩
  · skip
    refine lv_tableIn (off := 152) (tgt := 188) hx hb dL_act_36 (by decide +kernel) (by decide +kernel) (by decide +kernel) (by decide) ?_
    have hse := le_set ha3 (show 1 ≤ 1 + lowN (xs (k + 2)) 60 by omega) (by omega)
    refine lv_aload_n hx hb dL_act_188 rfl (lv_at hl 3 rfl) ?_
    refine lv_iload_n hx hb dL_act_189 rfl (lv_at hl 2 rfl) ?_
    refine lv_iconst (v := nI 3) hx hb dL_act_190 (by decide) ?_
    refine q_S0 (As := [.int (xs (k + 1)), .int (nI 3)]) (rest := [.ref G.1]) ⟨hx, hb, hml, hown, hts⟩ (c_L_low l C (xs (k + 1)) 3 (by decide) (by decide)) (va_cwS 2 hts gL_act_L_low rfl rfl rfl (by decide +kernel) ⟨Nat.le_of_ble_eq_true rfl, Nat.le_of_ble_eq_true rfl⟩) hK hP hD hS hA [] (by decide) rfl rfl hl.1 rfl (Nat.le_of_ble_eq_true rfl) dL_act_191 (Nat.zero_le _) (Nat.zero_le _) (fun H locs hP hS => ?_)
    refine W.eq (g2 := F0 m 194 ls [.int (nI (lowN (xs (k + 1)) 3)), .ref G.1]) rfl ?_
    refine lv_iconst (v := nI 1) hx hb dL_act_194 (by decide) ?_
    refine lv_iload hx hb dL_act_195 (lv_at hl 1 rfl) ?_
    refine lv_bipush (v := nI 60) hx hb dL_act_197 (by decide) ?_
    refine q_S0 (As := [.int (xs (k + 2)), .int (nI 60)]) (rest := [.int (nI 1), .int (nI (lowN (xs (k + 1)) 3)), .ref G.1]) ⟨hx, hb, hml, hown, hts⟩ (c_L_low l C (xs (k + 2)) 60 (by decide) (by decide)) (va_cwS 2 hts gL_act_L_low rfl rfl rfl (by decide +kernel) ⟨Nat.le_of_ble_eq_true rfl, Nat.le_of_ble_eq_true rfl⟩) hK hP hD hS hA [] (by decide) rfl rfl hl.1 rfl (Nat.le_of_ble_eq_true rfl) dL_act_199 (Nat.zero_le _) (Nat.zero_le _) (fun H locs hP hS => ?_)
    refine W.eq (g2 := F0 m 202 ls [.int (nI (lowN (xs (k + 2)) 60)), .int (nI 1), .int (nI (lowN (xs (k + 1)) 3)), .ref G.1]) rfl ?_
    refine lv_iadd hx hb dL_act_202 ?_
    refine q_ti (y := nI (1 + lowN (xs (k + 2)) 60)) (nI_add _ _) ?_
    refine lk_V (As := [.int (nI (lowN (xs (k + 1)) 3)), .int (nI (1 + lowN (xs (k + 2)) 60))]) (rest := []) ⟨hx, hb, hml, hown, hts⟩ (k_set l C G b ph r n (lowN (xs (k + 1)) 3) (1 + lowN (xs (k + 2)) 60) hr6 hn6 (by omega) hse.1 hse.2) (cwV 2 hts gL_act_X4_set rfl rfl rfl (by decide +kernel) ⟨Nat.le_of_ble_eq_true rfl, Nat.le_of_ble_eq_true rfl⟩) hK hV hE hX hP hD hS hA rfl hl.1 rfl (Nat.le_of_ble_eq_true rfl) dL_act_203 (Nat.zero_le _) (Nat.zero_le _) (fun X H locs hX hP hD hS => ?_)
    refine W.eq (g2 := F0 m 206 ls [.int (nI (bs b (lowN (xs (k + 1)) 3)))]) rfl ?_
    have hst : bs b (lowN (xs (k + 1)) 3) ≤ 99 := by
      have h := hB.2.2.1
      rcases (show lowN (xs (k + 1)) 3 = 0 ∨ lowN (xs (k + 1)) 3 = 1 ∨ lowN (xs (k + 1)) 3 = 2 by omega) with e | e | e <;> rw [e] <;> omega
    refine W.widen (k := 0 + 1) (n := 0 + 6) (by omega) (by omega) ?_
    exact q_iret1 hx hb hr hlocks hP hS (LW.fst hX0 hX) dL_act_206 ⟨_, _, _, _, _, rfl, hX, acQ_kept hJ hH (okJ_same (okJ_w hJ (Nat.le_succ J)) (okS_ss hok (by omega) hse.1 hse.2).1 rfl rfl rfl) (nI_pos' (by omega)) (fun _ => rfl) (fun q => absurd q (by decide))⟩
  · skip
    refine lv_tableIn (off := 171) (tgt := 207) hx hb dL_act_36 (by decide +kernel) (by decide +kernel) (by decide +kernel) (by decide) ?_
    refine lv_aload_n hx hb dL_act_207 rfl (lv_at hl 3 rfl) ?_
    refine lv_iconst (v := nI 3) hx hb dL_act_208 (by decide) ?_
    refine lv_iload hx hb dL_act_209 (lv_at hl 1 rfl) ?_
    refine lv_iconst (v := nI 2) hx hb dL_act_211 (by decide) ?_
    refine q_S0 (As := [.int (xs (k + 2)), .int (nI 2)]) (rest := [.int (nI 3), .ref G.1]) ⟨hx, hb, hml, hown, hts⟩ (c_L_low l C (xs (k + 2)) 2 (by decide) (by decide)) (va_cwS 2 hts gL_act_L_low rfl rfl rfl (by decide +kernel) ⟨Nat.le_of_ble_eq_true rfl, Nat.le_of_ble_eq_true rfl⟩) hK hP hD hS hA [] (by decide) rfl rfl hl.1 rfl (Nat.le_of_ble_eq_true rfl) dL_act_212 (Nat.zero_le _) (Nat.zero_le _) (fun H locs hP hS => ?_)
    refine W.eq (g2 := F0 m 215 ls [.int (nI (lowN (xs (k + 2)) 2)), .int (nI 3), .ref G.1]) rfl ?_
    refine lk_V (As := [.int (nI 3), .int (nI (lowN (xs (k + 2)) 2))]) (rest := []) ⟨hx, hb, hml, hown, hts⟩ (k_set l C G b ph r n 3 (lowN (xs (k + 2)) 2) hr6 hn6 (by decide) (Nat.zero_le _) (by show lowN (xs (k + 2)) 2 ≤ 1; omega)) (cwV 2 hts gL_act_X4_set rfl rfl rfl (by decide +kernel) ⟨Nat.le_of_ble_eq_true rfl, Nat.le_of_ble_eq_true rfl⟩) hK hV hE hX hP hD hS hA rfl hl.1 rfl (Nat.le_of_ble_eq_true rfl) dL_act_215 (Nat.zero_le _) (Nat.zero_le _) (fun X H locs hX hP hD hS => ?_)
    refine W.eq (g2 := F0 m 218 ls [.int (nI (bs b 3))]) rfl ?_
    refine W.widen (k := 0 + 1) (n := 0 + 6) (by omega) (by omega) ?_
    exact q_iret1 hx hb hr hlocks hP hS (LW.fst hX0 hX) dL_act_218 ⟨_, _, _, _, _, rfl, hX, acQ_kept hJ hH (okJ_same (okJ_w hJ (Nat.le_succ J)) (okS_ss hok (by decide) (Nat.zero_le _) (by show lowN (xs (k + 2)) 2 ≤ 1; omega)).1 rfl rfl rfl) (nI_pos' (by have := hB.2.2.1; omega)) (fun _ => rfl) (fun q => absurd q (by decide))⟩
  · skip
    refine lv_tableIn (off := 183) (tgt := 219) hx hb dL_act_36 (by decide +kernel) (by decide +kernel) (by decide +kernel) (by decide) ?_
    refine lv_aload_n hx hb dL_act_219 rfl (lv_at hl 3 rfl) ?_
    refine lv_iload_n hx hb dL_act_220 rfl (lv_at hl 2 rfl) ?_
    refine lv_iconst (v := nI 4) hx hb dL_act_221 (by decide) ?_
    refine q_S0 (As := [.int (xs (k + 1)), .int (nI 4)]) (rest := [.ref G.1]) ⟨hx, hb, hml, hown, hts⟩ (c_L_low l C (xs (k + 1)) 4 (by decide) (by decide)) (va_cwS 2 hts gL_act_L_low rfl rfl rfl (by decide +kernel) ⟨Nat.le_of_ble_eq_true rfl, Nat.le_of_ble_eq_true rfl⟩) hK hP hD hS hA [] (by decide) rfl rfl hl.1 rfl (Nat.le_of_ble_eq_true rfl) dL_act_222 (Nat.zero_le _) (Nat.zero_le _) (fun H locs hP hS => ?_)
    refine W.eq (g2 := F0 m 225 ls [.int (nI (lowN (xs (k + 1)) 4)), .ref G.1]) rfl ?_
    refine lk_V (As := [.int (nI (lowN (xs (k + 1)) 4))]) (rest := []) ⟨hx, hb, hml, hown, hts⟩ (k_pull l C G b ph r n (lowN (xs (k + 1)) 4) hB hr6 hn6 ha4 (by omega)) (cwV 1 hts gL_act_X4_pull rfl rfl rfl (by decide +kernel) ⟨Nat.le_of_ble_eq_true rfl, Nat.le_of_ble_eq_true rfl⟩) hK hV hE hX hP hD hS hA rfl hl.1 rfl (Nat.le_of_ble_eq_true rfl) dL_act_225 (Nat.zero_le _) (Nat.zero_le _) (fun X H locs hX hP hD hS => ?_)
    refine W.eq (g2 := F0 m 228 ls [.int (nI (bp (pulB b (lowN (xs (k + 1)) 4)) (lowN (xs (k + 1)) 4)))]) rfl ?_
    refine W.widen (k := 0 + 1) (n := 0 + 6) (by omega) (by omega) ?_
    exact q_iret1 hx hb hr hlocks hP hS (LW.fst hX0 hX) dL_act_228 ⟨_, _, _, _, _, rfl, hX, acQ_kept hJ hH (okJ_pul hJ ha4) (pull_told hB ha4) (fun q => absurd q (by decide)) (fun _ _ => by rw [sumU_pul b ha4]; omega)⟩
  · skip
    refine lv_tableIn (off := 183) (tgt := 219) hx hb dL_act_36 (by decide +kernel) (by decide +kernel) (by decide +kernel) (by decide) ?_
    refine lv_aload_n hx hb dL_act_219 rfl (lv_at hl 3 rfl) ?_
    refine lv_iload_n hx hb dL_act_220 rfl (lv_at hl 2 rfl) ?_
    refine lv_iconst (v := nI 4) hx hb dL_act_221 (by decide) ?_
    refine q_S0 (As := [.int (xs (k + 1)), .int (nI 4)]) (rest := [.ref G.1]) ⟨hx, hb, hml, hown, hts⟩ (c_L_low l C (xs (k + 1)) 4 (by decide) (by decide)) (va_cwS 2 hts gL_act_L_low rfl rfl rfl (by decide +kernel) ⟨Nat.le_of_ble_eq_true rfl, Nat.le_of_ble_eq_true rfl⟩) hK hP hD hS hA [] (by decide) rfl rfl hl.1 rfl (Nat.le_of_ble_eq_true rfl) dL_act_222 (Nat.zero_le _) (Nat.zero_le _) (fun H locs hP hS => ?_)
    refine W.eq (g2 := F0 m 225 ls [.int (nI (lowN (xs (k + 1)) 4)), .ref G.1]) rfl ?_
    refine lk_V (As := [.int (nI (lowN (xs (k + 1)) 4))]) (rest := []) ⟨hx, hb, hml, hown, hts⟩ (k_pull l C G b ph r n (lowN (xs (k + 1)) 4) hB hr6 hn6 ha4 (by omega)) (cwV 1 hts gL_act_X4_pull rfl rfl rfl (by decide +kernel) ⟨Nat.le_of_ble_eq_true rfl, Nat.le_of_ble_eq_true rfl⟩) hK hV hE hX hP hD hS hA rfl hl.1 rfl (Nat.le_of_ble_eq_true rfl) dL_act_225 (Nat.zero_le _) (Nat.zero_le _) (fun X H locs hX hP hD hS => ?_)
    refine W.eq (g2 := F0 m 228 ls [.int (nI (bp (pulB b (lowN (xs (k + 1)) 4)) (lowN (xs (k + 1)) 4)))]) rfl ?_
    refine W.widen (k := 0 + 1) (n := 0 + 6) (by omega) (by omega) ?_
    exact q_iret1 hx hb hr hlocks hP hS (LW.fst hX0 hX) dL_act_228 ⟨_, _, _, _, _, rfl, hX, acQ_kept hJ hH (okJ_pul hJ ha4) (pull_told hB ha4) (fun q => absurd q (by decide)) (fun _ _ => by rw [sumU_pul b ha4]; omega)⟩
  · skip
    refine lv_tableIn (off := 193) (tgt := 229) hx hb dL_act_36 (by decide +kernel) (by decide +kernel) (by decide +kernel) (by decide) ?_
    refine lv_aload_n hx hb dL_act_229 rfl (lv_at hl 3 rfl) ?_
    refine lv_iload_n hx hb dL_act_230 rfl (lv_at hl 2 rfl) ?_
    refine lv_iconst (v := nI 3) hx hb dL_act_231 (by decide) ?_
    refine q_S0 (As := [.int (xs (k + 1)), .int (nI 3)]) (rest := [.ref G.1]) ⟨hx, hb, hml, hown, hts⟩ (c_L_low l C (xs (k + 1)) 3 (by decide) (by decide)) (va_cwS 2 hts gL_act_L_low rfl rfl rfl (by decide +kernel) ⟨Nat.le_of_ble_eq_true rfl, Nat.le_of_ble_eq_true rfl⟩) hK hP hD hS hA [] (by decide) rfl rfl hl.1 rfl (Nat.le_of_ble_eq_true rfl) dL_act_232 (Nat.zero_le _) (Nat.zero_le _) (fun H locs hP hS => ?_)
    refine W.eq (g2 := F0 m 235 ls [.int (nI (lowN (xs (k + 1)) 3)), .ref G.1]) rfl ?_
    refine lv_iconst (v := nI 1) hx hb dL_act_235 (by decide) ?_
    refine lv_iload hx hb dL_act_236 (lv_at hl 1 rfl) ?_
    refine lv_bipush (v := nI 12) hx hb dL_act_238 (by decide) ?_
    refine q_S0 (As := [.int (xs (k + 2)), .int (nI 12)]) (rest := [.int (nI 1), .int (nI (lowN (xs (k + 1)) 3)), .ref G.1]) ⟨hx, hb, hml, hown, hts⟩ (c_L_low l C (xs (k + 2)) 12 (by decide) (by decide)) (va_cwS 2 hts gL_act_L_low rfl rfl rfl (by decide +kernel) ⟨Nat.le_of_ble_eq_true rfl, Nat.le_of_ble_eq_true rfl⟩) hK hP hD hS hA [] (by decide) rfl rfl hl.1 rfl (Nat.le_of_ble_eq_true rfl) dL_act_240 (Nat.zero_le _) (Nat.zero_le _) (fun H locs hP hS => ?_)
    refine W.eq (g2 := F0 m 243 ls [.int (nI (lowN (xs (k + 2)) 12)), .int (nI 1), .int (nI (lowN (xs (k + 1)) 3)), .ref G.1]) rfl ?_
    refine lv_iadd hx hb dL_act_243 ?_
    refine q_ti (y := nI (1 + lowN (xs (k + 2)) 12)) (nI_add _ _) ?_
    refine lk_V (As := [.int (nI (lowN (xs (k + 1)) 3)), .int (nI (1 + lowN (xs (k + 2)) 12))]) (rest := []) ⟨hx, hb, hml, hown, hts⟩ (k_play l C G b ph r n (lowN (xs (k + 1)) 3) (1 + lowN (xs (k + 2)) 12) hB hr6 hn6 ha3 (by omega) (by omega) (by omega)) (cwV 2 hts gL_act_X4_play rfl rfl rfl (by decide +kernel) ⟨Nat.le_of_ble_eq_true rfl, Nat.le_of_ble_eq_true rfl⟩) hK hV hE hX hP hD hS hA rfl hl.1 rfl (Nat.le_of_ble_eq_true rfl) dL_act_244 (Nat.zero_le _) (Nat.zero_le _) (fun X H locs hX hP hD hS => ?_)
    refine W.eq (g2 := F0 m 247 ls [.int (nI (bx (plN b (idxT b) (lowN (xs (k + 1)) 3) (1 + lowN (xs (k + 2)) 12))) - nI (bx b))]) rfl ?_
    refine W.widen (k := 0 + 1) (n := 0 + 6) (by omega) (by omega) ?_
    exact q_iret1 hx hb hr hlocks hP hS (LW.fst hX0 hX) dL_act_247 ⟨_, _, _, _, _, rfl, hX, acQ_kept hJ hH (okJ_pl hJ (idxT b) (lowN (xs (k + 1)) 3) (by omega)) (play_told hJ hJ30 (by omega)) (fun q => absurd q (by decide)) (fun _ _ => by rw [sumU_pl hB]; omega)⟩
  · skip
    refine lv_tableIn (off := 193) (tgt := 229) hx hb dL_act_36 (by decide +kernel) (by decide +kernel) (by decide +kernel) (by decide) ?_
    refine lv_aload_n hx hb dL_act_229 rfl (lv_at hl 3 rfl) ?_
    refine lv_iload_n hx hb dL_act_230 rfl (lv_at hl 2 rfl) ?_
    refine lv_iconst (v := nI 3) hx hb dL_act_231 (by decide) ?_
    refine q_S0 (As := [.int (xs (k + 1)), .int (nI 3)]) (rest := [.ref G.1]) ⟨hx, hb, hml, hown, hts⟩ (c_L_low l C (xs (k + 1)) 3 (by decide) (by decide)) (va_cwS 2 hts gL_act_L_low rfl rfl rfl (by decide +kernel) ⟨Nat.le_of_ble_eq_true rfl, Nat.le_of_ble_eq_true rfl⟩) hK hP hD hS hA [] (by decide) rfl rfl hl.1 rfl (Nat.le_of_ble_eq_true rfl) dL_act_232 (Nat.zero_le _) (Nat.zero_le _) (fun H locs hP hS => ?_)
    refine W.eq (g2 := F0 m 235 ls [.int (nI (lowN (xs (k + 1)) 3)), .ref G.1]) rfl ?_
    refine lv_iconst (v := nI 1) hx hb dL_act_235 (by decide) ?_
    refine lv_iload hx hb dL_act_236 (lv_at hl 1 rfl) ?_
    refine lv_bipush (v := nI 12) hx hb dL_act_238 (by decide) ?_
    refine q_S0 (As := [.int (xs (k + 2)), .int (nI 12)]) (rest := [.int (nI 1), .int (nI (lowN (xs (k + 1)) 3)), .ref G.1]) ⟨hx, hb, hml, hown, hts⟩ (c_L_low l C (xs (k + 2)) 12 (by decide) (by decide)) (va_cwS 2 hts gL_act_L_low rfl rfl rfl (by decide +kernel) ⟨Nat.le_of_ble_eq_true rfl, Nat.le_of_ble_eq_true rfl⟩) hK hP hD hS hA [] (by decide) rfl rfl hl.1 rfl (Nat.le_of_ble_eq_true rfl) dL_act_240 (Nat.zero_le _) (Nat.zero_le _) (fun H locs hP hS => ?_)
    refine W.eq (g2 := F0 m 243 ls [.int (nI (lowN (xs (k + 2)) 12)), .int (nI 1), .int (nI (lowN (xs (k + 1)) 3)), .ref G.1]) rfl ?_
    refine lv_iadd hx hb dL_act_243 ?_
    refine q_ti (y := nI (1 + lowN (xs (k + 2)) 12)) (nI_add _ _) ?_
    refine lk_V (As := [.int (nI (lowN (xs (k + 1)) 3)), .int (nI (1 + lowN (xs (k + 2)) 12))]) (rest := []) ⟨hx, hb, hml, hown, hts⟩ (k_play l C G b ph r n (lowN (xs (k + 1)) 3) (1 + lowN (xs (k + 2)) 12) hB hr6 hn6 ha3 (by omega) (by omega) (by omega)) (cwV 2 hts gL_act_X4_play rfl rfl rfl (by decide +kernel) ⟨Nat.le_of_ble_eq_true rfl, Nat.le_of_ble_eq_true rfl⟩) hK hV hE hX hP hD hS hA rfl hl.1 rfl (Nat.le_of_ble_eq_true rfl) dL_act_244 (Nat.zero_le _) (Nat.zero_le _) (fun X H locs hX hP hD hS => ?_)
    refine W.eq (g2 := F0 m 247 ls [.int (nI (bx (plN b (idxT b) (lowN (xs (k + 1)) 3) (1 + lowN (xs (k + 2)) 12))) - nI (bx b))]) rfl ?_
    refine W.widen (k := 0 + 1) (n := 0 + 6) (by omega) (by omega) ?_
    exact q_iret1 hx hb hr hlocks hP hS (LW.fst hX0 hX) dL_act_247 ⟨_, _, _, _, _, rfl, hX, acQ_kept hJ hH (okJ_pl hJ (idxT b) (lowN (xs (k + 1)) 3) (by omega)) (play_told hJ hJ30 (by omega)) (fun q => absurd q (by decide)) (fun _ _ => by rw [sumU_pl hB]; omega)⟩
  · skip
    refine lv_tableIn (off := 212) (tgt := 248) hx hb dL_act_36 (by decide +kernel) (by decide +kernel) (by decide +kernel) (by decide) ?_
    refine lv_iload_n hx hb dL_act_248 rfl (lv_at hl 2 rfl) ?_
    refine lv_iconst (v := nI 3) hx hb dL_act_249 (by decide) ?_
    refine q_S0 (As := [.int (xs (k + 1)), .int (nI 3)]) (rest := []) ⟨hx, hb, hml, hown, hts⟩ (c_L_low l C (xs (k + 1)) 3 (by decide) (by decide)) (va_cwS 2 hts gL_act_L_low rfl rfl rfl (by decide +kernel) ⟨Nat.le_of_ble_eq_true rfl, Nat.le_of_ble_eq_true rfl⟩) hK hP hD hS hA [] (by decide) rfl rfl hl.1 rfl (Nat.le_of_ble_eq_true rfl) dL_act_250 (Nat.zero_le _) (Nat.zero_le _) (fun H locs hP hS => ?_)
    refine W.eq (g2 := F0 m 253 ls [.int (nI (lowN (xs (k + 1)) 3))]) rfl ?_
    refine lv_if_ne (tgt := 266) hx hb dL_act_253 (by decide) (fun c253 => ?_) (fun c253 => ?_)
    · skip
      refine lv_iconst (v := nI 0) hx hb dL_act_266 (by decide) ?_
      refine W.widen (k := 0 + 1) (n := 0 + 6) (by omega) (by omega) ?_
      exact q_iret1 hx hb hr hlocks hP hS (LW.fst hX0 hX) dL_act_267 ⟨_, _, _, _, _, rfl, hX, acQ_same hJ hH (by decide)⟩
    · skip
      refine lv_aload_n hx hb dL_act_256 rfl (lv_at hl 3 rfl) ?_
      refine lv_iload hx hb dL_act_257 (lv_at hl 1 rfl) ?_
      refine lv_i2l (v := (xs (k + 2)).toInt64) hx hb dL_act_259 rfl ?_
      refine lk_V (As := [.long (xs (k + 2)).toInt64]) (rest := []) ⟨hx, hb, hml, hown, hts⟩ (k_begin l C G b ph r n ((xs (k + 2)).toInt64) hr6 hn6) (cwV 1 hts gL_act_X4_begin rfl rfl rfl (by decide +kernel) ⟨Nat.le_of_ble_eq_true rfl, Nat.le_of_ble_eq_true rfl⟩) hK hV hE hX hP hD hS hA rfl hl.1 rfl (Nat.le_of_ble_eq_true rfl) dL_act_260 (Nat.zero_le _) (Nat.zero_le _) (fun X H locs hX hP hD hS => ?_)
      refine W.eq (g2 := F0 m 263 ls [.int (nI (sumU b))]) rfl ?_
      refine lv_goto (tgt := 267) hx hb dL_act_263 (by decide) ?_
      refine W.widen (k := 0 + 1) (n := 0 + 6) (by omega) (by omega) ?_
      exact q_iret1 hx hb hr hlocks hP hS (LW.fst hX0 hX) dL_act_267 ⟨_, _, _, _, _, rfl, hX, acQ_kept hJ hH (okJ_beg hJ (by omega)) (nI_pos' (by omega)) (fun q => absurd q (by decide)) (fun _ q => absurd q (by decide))⟩
  · skip
    refine lv_tableOut (tgt := 268) hx hb dL_act_36 (Or.inr (by decide +kernel)) (by decide) ?_
    refine lv_aload_n hx hb dL_act_268 rfl (lv_at hl 3 rfl) ?_
    by_cases hn0 : 0 < n
    · skip
      have hP9 : va_P C.1 vwCl [X0].flatten H := by rw [flat_one]; exact hP
      have hD9 : va_D (q_A X0 s) [X0].flatten := by rw [flat_one]; exact hD
      refine q_SWB (Bs := [X0]) (cs := [X0]) (As := [.ref G.1]) (rest := []) ⟨hx, hb, hml, hown, hts⟩ (k_L_undo l C G b ph r n hr6 hn6 hn0 X0 hX0).one (vx_cwSW 1 hts gL_act_L_undo rfl rfl rfl (by decide +kernel) ⟨Nat.le_of_ble_eq_true rfl, Nat.le_of_ble_eq_true rfl⟩) hK hV hE hP9 hD9 hS hA [0] (by decide) rfl rfl hl.1 rfl (Nat.le_of_ble_eq_true rfl) dL_act_269 (Nat.zero_le _) (Nat.zero_le _) (fun q w1 H locs hQ hF hS => ?_)
      obtain ⟨rfl, hX⟩ := hQ
      obtain ⟨hP, hD⟩ := hF [w1] (flat_one _).symm (by rw [List.map_cons, List.map_cons, hX0.fst hX])
      have hP : va_P C.1 vwCl [w1].flatten H := hP
      rw [flat_one] at hP
      refine W.eq (g2 := F0 m 272 ls [.int (nI (n - 1))]) rfl ?_
      refine W.widen (k := 0 + 1) (n := 0 + 6) (by omega) (by omega) ?_
      exact q_iret1 hx hb hr hlocks hP hS (LW.fst hX0 hX) dL_act_272 ⟨_, _, _, _, _, rfl, hX, acQ_undo hH hn0 (by decide)⟩
    · skip
      obtain rfl : n = 0 := by omega
      have hP9 : va_P C.1 vwCl [X0].flatten H := by rw [flat_one]; exact hP
      have hD9 : va_D (q_A X0 s) [X0].flatten := by rw [flat_one]; exact hD
      refine q_SWB1 (Bs := [X0]) (cs := [X0]) (As := [.ref G.1]) (rest := []) ⟨hx, hb, hml, hown, hts⟩ (k_L_undo0 l hl0 C G b ph r X0 hX0).one (vx_cwSW 1 hts gL_act_L_undo rfl rfl rfl (by decide +kernel) ⟨Nat.le_of_ble_eq_true rfl, Nat.le_of_ble_eq_true rfl⟩) hK hV hE hP9 hD9 hS hA [0] (by decide) rfl rfl hl.1 rfl (Nat.le_of_ble_eq_true rfl) dL_act_269 (Nat.le_of_ble_eq_true rfl) (Nat.le_of_ble_eq_true rfl) (fun q w1 H locs hQ hF hS => ?_)
      obtain ⟨rfl, hX⟩ := hQ
      obtain ⟨hP, hD⟩ := hF [w1] (flat_one _).symm (by rw [List.map_cons, List.map_cons, hX0.fst hX])
      have hP : va_P C.1 vwCl [w1].flatten H := hP
      rw [flat_one] at hP
      refine W.eq (g2 := F0 m 272 ls [.int (-3)]) rfl ?_
      exact q_iret1 hx hb hr hlocks hP hS (LW.fst hX0 hX) dL_act_272 ⟨_, _, _, _, _, rfl, hX, acQ_same hJ hH (by decide)⟩
