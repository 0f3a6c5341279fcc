/-! the law's wrappers, more of them -/
set_option maxHeartbeats 4000000 in
set_option maxRecDepth 100000 in
theorem W2_way (l : Launch) (hl0 : l.stackTraces = false) (C : q_C) (x : Nat) (a t0 x1 x2 : Nat) (g3 : Int32) (nw : Nat → Nat) (tr : Nat → Nat) (hq : Nat → Nat) (iq : Nat → Nat) (tt : Nat → Nat) (sc : Nat) (ba : Nat → Nat → Nat) (z : Nat → Int) (b : Bd) (b2 : Bd) (r : Nat) (n : Nat) (ph : Nat → Bd) (t : Nat → Nat) (f : Nat → Nat) (v : Nat → Nat) (o : Nat → Nat) (y : Nat) (cd : Nat → Nat) (ou : Nat) (x0 : Int64) (ha : a < 4) (ht : t0 < 4) (h1 : x1 < 4) (h2 : x2 < 4) (hxx : decide (nI 0 ≤ g3 ∧ g3 ≤ nI 8) = false) : q_M1 C l yL_way wsL_way 7 109 [.ref x, .int (nI a), .int (nI t0), .int (nI x1), .int (nI x2), .int g3, .ref ou] (List.flatten [wU C ou x0, wF C x nw tr hq iq tt sc ba z b b2 ph r n t f v o y cd]) (fun r2 w => r2 = some (.int (nI 2)) ∧ w = List.flatten [wU C ou x0, wF C x nw tr hq iq tt sc ba z b b2 ph r n t f v o y cd]) := by
  refine q_headW1 (cc := cL_way) (maxL := 8) (ret := (some .int)) (by decide +kernel) rfl (Nat.le_of_ble_eq_true rfl) ?_
  intro p e s m below meth c hx hb hr hlocks hml hown hts hK hV hE hP hD hS hA htab ls hl
  have hl : lv_has ls 8 [(0, .ref x), (1, .int (nI a)), (2, .int (nI t0)), (3, .int (nI x1)), (4, .int (nI x2)), (5, .int g3), (6, .ref ou)] := hl
  refine lv_aload hx hb dL_way_0 (lv_at hl 6 rfl) ?_
  refine lv_iconst (v := nI 0) hx hb dL_way_2 (by decide) ?_
  refine lv_aload_n hx hb dL_way_3 rfl (lv_at hl 0 rfl) ?_
  refine lv_iload_n hx hb dL_way_4 rfl (lv_at hl 1 rfl) ?_
  refine lv_iload_n hx hb dL_way_5 rfl (lv_at hl 2 rfl) ?_
  refine lv_iload_n hx hb dL_way_6 rfl (lv_at hl 3 rfl) ?_
  refine lv_iload hx hb dL_way_7 (lv_at hl 4 rfl) ?_
  refine lv_iload hx hb dL_way_9 (lv_at hl 5 rfl) ?_
  refine q_TV (X := List.flatten [wU C ou x0, wF C x nw tr hq iq tt sc ba z b b2 ph r n t f v o y cd]) (As := [.int (nI a), .int (nI t0), .int (nI x1), .int (nI x2), .int g3]) (rest := [.int (nI 0), .ref ou]) ⟨hx, hb, hml, hown, hts⟩ (t2_X4_way l hl0 C x a t0 x1 x2 g3 ha ht h1 h2 hxx) (cwV 5 hts gL_way_X4_way rfl rfl rfl (by decide +kernel) ⟨Nat.le_of_ble_eq_true rfl, Nat.le_of_ble_eq_true rfl⟩) hK hV hE hP hD hS hA [] (by decide) rfl 1 rfl rfl rfl rfl hl.1 rfl (Nat.le_of_ble_eq_true rfl) dL_way_11 (Nat.le_of_ble_eq_true rfl) (Nat.le_of_ble_eq_true rfl) (fun ce q9 H locs hP hS hce hcv hcl => ?_)
  refine vx_catch (name := "java/lang/IllegalArgumentException") hown [(⟨0, 16, 19, 13⟩ : ExceptionTableEntry)] (⟨0, 16, 23, 15⟩ : ExceptionTableEntry) [] (htab.trans rfl) (fun z hz => by rw [List.mem_singleton] at hz; subst hz; exact Or.inr ⟨by decide, "java/lang/IndexOutOfBoundsException", hts (.classLink RL 13 "java/lang/IndexOutOfBoundsException") (by decide +kernel), hV.2.2 ("java/lang/IllegalArgumentException", "java/lang/IndexOutOfBoundsException") (by decide)⟩) (by decide) (by decide) (hts (.classLink RL 15 "java/lang/IllegalArgumentException") (by decide +kernel)) (q_xw_b hV _ (List.mem_of_getElem? (i := 0) rfl)) hce hcv hcl ?_
  refine lv_astore (lv' := [(7, .ref q9), (0, .ref x), (1, .int (nI a)), (2, .int (nI t0)), (3, .int (nI x1)), (4, .int (nI x2)), (5, .int g3), (6, .ref ou)]) hx hb dL_way_23 hl (by decide) rfl (fun ls hl => ?_)
  refine lv_iconst (v := nI 2) hx hb dL_way_25 (by decide) ?_
  exact q_iret1 hx hb hr hlocks (w1 := List.flatten [wU C ou x0, wF C x nw tr hq iq tt sc ba z b b2 ph r n t f v o y cd]) hP hS rfl dL_way_26 ⟨rfl, rfl⟩
set_option maxHeartbeats 4000000 in
set_option maxRecDepth 100000 in
theorem W1_put (l : Launch) (hl0 : l.stackTraces = false) (C : q_C) (x : Nat) (y z : Int32) (nw : Nat → Nat) (tr : Nat → Nat) (hq : Nat → Nat) (iq : Nat → Nat) (tt : Nat → Nat) (sc : Nat) (ba : Nat → Nat → Nat) (z9 : Nat → Int) (b : Bd) (b2 : Bd) (r : Nat) (n : Nat) (ph : Nat → Bd) (t : Nat → Nat) (f : Nat → Nat) (v : Nat → Nat) (o : Nat → Nat) (y9 : Nat) (cd : Nat → Nat) (ou : Nat) (x0 : Int64) (hxx : (decide (nI 0 ≤ y ∧ y ≤ nI 3) && decide (nI 0 ≤ z ∧ z ≤ nI 3)) = false) : q_M1 C l yL_put wsL_put 8 126 [.ref x, .int y, .int z, .ref ou] (List.flatten [wU C ou x0, wF C x nw tr hq iq tt sc ba z9 b b2 ph r n t f v o y9 cd]) (fun r2 w => r2 = some (.int (nI 1)) ∧ w = List.flatten [wU C ou x0, wF C x nw tr hq iq tt sc ba z9 b b2 ph r n t f v o y9 cd]) := by
  refine q_headW1 (cc := cL_put) (maxL := 5) (ret := (some .int)) (by decide +kernel) rfl (Nat.le_of_ble_eq_true rfl) ?_
  intro p e s m below meth c hx hb hr hlocks hml hown hts hK hV hE hP hD hS hA htab ls hl
  have hl : lv_has ls 5 [(0, .ref x), (1, .int y), (2, .int z), (3, .ref ou)] := hl
  refine lv_aload_n hx hb dL_put_0 rfl (lv_at hl 3 rfl) ?_
  refine lv_iconst (v := nI 0) hx hb dL_put_1 (by decide) ?_
  refine lv_aload_n hx hb dL_put_2 rfl (lv_at hl 0 rfl) ?_
  refine lv_iload_n hx hb dL_put_3 rfl (lv_at hl 1 rfl) ?_
  refine lv_iload_n hx hb dL_put_4 rfl (lv_at hl 2 rfl) ?_
  refine q_TV (X := List.flatten [wU C ou x0, wF C x nw tr hq iq tt sc ba z9 b b2 ph r n t f v o y9 cd]) (As := [.int y, .int z]) (rest := [.int (nI 0), .ref ou]) ⟨hx, hb, hml, hown, hts⟩ (t1_X4_put l hl0 C x y z hxx) (cwV 2 hts gL_put_X4_put rfl rfl rfl (by decide +kernel) ⟨Nat.le_of_ble_eq_true rfl, Nat.le_of_ble_eq_true rfl⟩) hK hV hE hP hD hS hA [] (by decide) rfl 1 rfl rfl rfl rfl hl.1 rfl (Nat.le_of_ble_eq_true rfl) dL_put_5 (Nat.le_of_ble_eq_true rfl) (Nat.le_of_ble_eq_true rfl) (fun ce q9 H locs hP hS hce hcv hcl => ?_)
  refine vx_catch (name := "java/lang/IndexOutOfBoundsException") hown [] (⟨0, 10, 13, 13⟩ : ExceptionTableEntry) [] (htab.trans rfl) (fun z hz => nomatch hz) (by decide) (by decide) (hts (.classLink RL 13 "java/lang/IndexOutOfBoundsException") (by decide +kernel)) (q_xw_b hV _ (List.mem_of_getElem? (i := 2) rfl)) hce hcv hcl ?_
  refine lv_astore (lv' := [(4, .ref q9), (0, .ref x), (1, .int y), (2, .int z), (3, .ref ou)]) hx hb dL_put_13 hl (by decide) rfl (fun ls hl => ?_)
  refine lv_iconst (v := nI 1) hx hb dL_put_15 (by decide) ?_
  exact q_iret1 hx hb hr hlocks (w1 := List.flatten [wU C ou x0, wF C x nw tr hq iq tt sc ba z9 b b2 ph r n t f v o y9 cd]) hP hS rfl dL_put_16 ⟨rfl, rfl⟩
set_option maxHeartbeats 4000000 in
set_option maxRecDepth 100000 in
theorem W1_pull (l : Launch) (hl0 : l.stackTraces = false) (C : q_C) (x : Nat) (y : Int32) (nw : Nat → Nat) (tr : Nat → Nat) (hq : Nat → Nat) (iq : Nat → Nat) (tt : Nat → Nat) (sc : Nat) (ba : Nat → Nat → Nat) (z : Nat → Int) (b : Bd) (b2 : Bd) (r : Nat) (n : Nat) (ph : Nat → Bd) (t : Nat → Nat) (f : Nat → Nat) (v : Nat → Nat) (o : Nat → Nat) (y9 : Nat) (cd : Nat → Nat) (ou : Nat) (x0 : Int64) (hxx : decide (nI 0 ≤ y ∧ y ≤ nI 3) = false) : q_M1 C l yL_pull wsL_pull 8 123 [.ref x, .int y, .ref ou] (List.flatten [wU C ou x0, wF C x nw tr hq iq tt sc ba z b b2 ph r n t f v o y9 cd]) (fun r2 w => r2 = some (.int (nI 1)) ∧ w = List.flatten [wU C ou x0, wF C x nw tr hq iq tt sc ba z b b2 ph r n t f v o y9 cd]) := by
  refine q_headW1 (cc := cL_pull) (maxL := 4) (ret := (some .int)) (by decide +kernel) rfl (Nat.le_of_ble_eq_true rfl) ?_
  intro p e s m below meth c hx hb hr hlocks hml hown hts hK hV hE hP hD hS hA htab ls hl
  have hl : lv_has ls 4 [(0, .ref x), (1, .int y), (2, .ref ou)] := hl
  refine lv_aload_n hx hb dL_pull_0 rfl (lv_at hl 2 rfl) ?_
  refine lv_iconst (v := nI 0) hx hb dL_pull_1 (by decide) ?_
  refine lv_aload_n hx hb dL_pull_2 rfl (lv_at hl 0 rfl) ?_
  refine lv_iload_n hx hb dL_pull_3 rfl (lv_at hl 1 rfl) ?_
  refine q_TV (X := List.flatten [wU C ou x0, wF C x nw tr hq iq tt sc ba z b b2 ph r n t f v o y9 cd]) (As := [.int y]) (rest := [.int (nI 0), .ref ou]) ⟨hx, hb, hml, hown, hts⟩ (t1_X4_pull l hl0 C x y hxx) (cwV 1 hts gL_pull_X4_pull rfl rfl rfl (by decide +kernel) ⟨Nat.le_of_ble_eq_true rfl, Nat.le_of_ble_eq_true rfl⟩) hK hV hE hP hD hS hA [] (by decide) rfl 1 rfl rfl rfl rfl hl.1 rfl (Nat.le_of_ble_eq_true rfl) dL_pull_4 (Nat.le_of_ble_eq_true rfl) (Nat.le_of_ble_eq_true rfl) (fun ce q9 H locs hP hS hce hcv hcl => ?_)
  refine vx_catch (name := "java/lang/IndexOutOfBoundsException") hown [] (⟨0, 9, 12, 13⟩ : ExceptionTableEntry) [(⟨0, 9, 15, 32⟩ : ExceptionTableEntry)] (htab.trans rfl) (fun z hz => nomatch hz) (by decide) (by decide) (hts (.classLink RL 13 "java/lang/IndexOutOfBoundsException") (by decide +kernel)) (q_xw_b hV _ (List.mem_of_getElem? (i := 2) rfl)) hce hcv hcl ?_
  refine lv_astore_n (lv' := [(3, .ref q9), (0, .ref x), (1, .int y), (2, .ref ou)]) hx hb dL_pull_12 rfl hl (by decide) rfl (fun ls hl => ?_)
  refine lv_iconst (v := nI 1) hx hb dL_pull_13 (by decide) ?_
  exact q_iret1 hx hb hr hlocks (w1 := List.flatten [wU C ou x0, wF C x nw tr hq iq tt sc ba z b b2 ph r n t f v o y9 cd]) hP hS rfl dL_pull_14 ⟨rfl, rfl⟩
set_option maxHeartbeats 4000000 in
set_option maxRecDepth 100000 in
theorem W2_pull (l : Launch) (hl0 : l.stackTraces = false) (C : q_C) (x : Nat) (nw tr hq iq tt : Nat → Nat) (sc : Nat) (z : Nat → Int) (b : Bd) (a : Nat) (ba : Nat → Nat → Nat) (b2 : Bd) (r : Nat) (n : Nat) (ph : Nat → Bd) (t : Nat → Nat) (f : Nat → Nat) (v : Nat → Nat) (o : Nat → Nat) (y : Nat) (cd : Nat → Nat) (ou : Nat) (x0 : Int64) (ha : a < 4) (hU : sumU b = 9999) : q_M1 C l yL_pull wsL_pull 7 103 [.ref x, .int (nI a), .ref ou] (List.flatten [wU C ou x0, wF C x nw tr hq iq tt sc ba z b b2 ph r n t f v o y cd]) (fun r2 w => r2 = some (.int (nI 2)) ∧ w = List.flatten [wU C ou x0, wF C x nw tr hq iq tt sc ba z b b2 ph r n t f v o y cd]) := by
  refine q_headW1 (cc := cL_pull) (maxL := 4) (ret := (some .int)) (by decide +kernel) rfl (Nat.le_of_ble_eq_true rfl) ?_
  intro p e s m below meth c hx hb hr hlocks hml hown hts hK hV hE hP hD hS hA htab ls hl
  have hl : lv_has ls 4 [(0, .ref x), (1, .int (nI a)), (2, .ref ou)] := hl
  refine lv_aload_n hx hb dL_pull_0 rfl (lv_at hl 2 rfl) ?_
  refine lv_iconst (v := nI 0) hx hb dL_pull_1 (by decide) ?_
  refine lv_aload_n hx hb dL_pull_2 rfl (lv_at hl 0 rfl) ?_
  refine lv_iload_n hx hb dL_pull_3 rfl (lv_at hl 1 rfl) ?_
  refine q_TV (X := List.flatten [wU C ou x0, wF C x nw tr hq iq tt sc ba z b b2 ph r n t f v o y cd]) (As := [.int (nI a)]) (rest := [.int (nI 0), .ref ou]) ⟨hx, hb, hml, hown, hts⟩ (t2_X4_pull l hl0 C x nw tr hq iq tt sc z b a ha hU) (cwV 1 hts gL_pull_X4_pull rfl rfl rfl (by decide +kernel) ⟨Nat.le_of_ble_eq_true rfl, Nat.le_of_ble_eq_true rfl⟩) hK hV hE hP hD hS hA [1, 2, 3, 4, 5, 6, 7, 8, 9, 10] (by decide) rfl 1 rfl rfl rfl rfl hl.1 rfl (Nat.le_of_ble_eq_true rfl) dL_pull_4 (Nat.le_of_ble_eq_true rfl) (Nat.le_of_ble_eq_true rfl) (fun ce q9 H locs hP hS hce hcv hcl => ?_)
  refine vx_catch (name := "java/lang/IllegalStateException") hown [(⟨0, 9, 12, 13⟩ : ExceptionTableEntry)] (⟨0, 9, 15, 32⟩ : ExceptionTableEntry) [] (htab.trans rfl) (fun z hz => by rw [List.mem_singleton] at hz; subst hz; exact Or.inr ⟨by decide, "java/lang/IndexOutOfBoundsException", hts (.classLink RL 13 "java/lang/IndexOutOfBoundsException") (by decide +kernel), hV.2.2 ("java/lang/IllegalStateException", "java/lang/IndexOutOfBoundsException") (by decide)⟩) (by decide) (by decide) (hts (.classLink RL 32 "java/lang/IllegalStateException") (by decide +kernel)) (q_xw_b hV _ (List.mem_of_getElem? (i := 1) rfl)) hce hcv hcl ?_
  refine lv_astore_n (lv' := [(3, .ref q9), (0, .ref x), (1, .int (nI a)), (2, .ref ou)]) hx hb dL_pull_15 rfl hl (by decide) rfl (fun ls hl => ?_)
  refine lv_iconst (v := nI 2) hx hb dL_pull_16 (by decide) ?_
  exact q_iret1 hx hb hr hlocks (w1 := List.flatten [wU C ou x0, wF C x nw tr hq iq tt sc ba z b b2 ph r n t f v o y cd]) hP hS rfl dL_pull_17 ⟨rfl, rfl⟩
set_option maxHeartbeats 4000000 in
set_option maxRecDepth 100000 in
theorem W1a_play (l : Launch) (hl0 : l.stackTraces = false) (C : q_C) (x : Nat) (y z : Int32) (nw : Nat → Nat) (tr : Nat → Nat) (hq : Nat → Nat) (iq : Nat → Nat) (tt : Nat → Nat) (sc : Nat) (ba : Nat → Nat → Nat) (z9 : Nat → Int) (b : Bd) (b2 : Bd) (r : Nat) (n : Nat) (ph : Nat → Bd) (t : Nat → Nat) (f : Nat → Nat) (v : Nat → Nat) (o : Nat → Nat) (y9 : Nat) (cd : Nat → Nat) (ou : Nat) (x0 : Int64) (hxx : decide (nI 0 ≤ y ∧ y ≤ nI 2) = false) : q_M1 C l yL_play wsL_play 8 125 [.ref x, .int y, .int z, .ref ou] (List.flatten [wU C ou x0, wF C x nw tr hq iq tt sc ba z9 b b2 ph r n t f v o y9 cd]) (fun r2 w => r2 = some (.int (nI 1)) ∧ w = List.flatten [wU C ou x0, wF C x nw tr hq iq tt sc ba z9 b b2 ph r n t f v o y9 cd]) := by
  refine q_headW1 (cc := cL_play) (maxL := 5) (ret := (some .int)) (by decide +kernel) rfl (Nat.le_of_ble_eq_true rfl) ?_
  intro p e s m below meth c hx hb hr hlocks hml hown hts hK hV hE hP hD hS hA htab ls hl
  have hl : lv_has ls 5 [(0, .ref x), (1, .int y), (2, .int z), (3, .ref ou)] := hl
  refine lv_aload_n hx hb dL_play_0 rfl (lv_at hl 3 rfl) ?_
  refine lv_iconst (v := nI 0) hx hb dL_play_1 (by decide) ?_
  refine lv_aload_n hx hb dL_play_2 rfl (lv_at hl 0 rfl) ?_
  refine lv_iload_n hx hb dL_play_3 rfl (lv_at hl 1 rfl) ?_
  refine lv_iload_n hx hb dL_play_4 rfl (lv_at hl 2 rfl) ?_
  refine q_TV (X := List.flatten [wU C ou x0, wF C x nw tr hq iq tt sc ba z9 b b2 ph r n t f v o y9 cd]) (As := [.int y, .int z]) (rest := [.int (nI 0), .ref ou]) ⟨hx, hb, hml, hown, hts⟩ (t1a_X4_play l hl0 C x y z hxx) (cwV 2 hts gL_play_X4_play rfl rfl rfl (by decide +kernel) ⟨Nat.le_of_ble_eq_true rfl, Nat.le_of_ble_eq_true rfl⟩) hK hV hE hP hD hS hA [] (by decide) rfl 1 rfl rfl rfl rfl hl.1 rfl (Nat.le_of_ble_eq_true rfl) dL_play_5 (Nat.le_of_ble_eq_true rfl) (Nat.le_of_ble_eq_true rfl) (fun ce q9 H locs hP hS hce hcv hcl => ?_)
  refine vx_catch (name := "java/lang/IllegalArgumentException") hown [] (⟨0, 10, 13, 15⟩ : ExceptionTableEntry) [(⟨0, 10, 17, 32⟩ : ExceptionTableEntry)] (htab.trans rfl) (fun z hz => nomatch hz) (by decide) (by decide) (hts (.classLink RL 15 "java/lang/IllegalArgumentException") (by decide +kernel)) (q_xw_b hV _ (List.mem_of_getElem? (i := 0) rfl)) hce hcv hcl ?_
  refine lv_astore (lv' := [(4, .ref q9), (0, .ref x), (1, .int y), (2, .int z), (3, .ref ou)]) hx hb dL_play_13 hl (by decide) rfl (fun ls hl => ?_)
  refine lv_iconst (v := nI 1) hx hb dL_play_15 (by decide) ?_
  exact q_iret1 hx hb hr hlocks (w1 := List.flatten [wU C ou x0, wF C x nw tr hq iq tt sc ba z9 b b2 ph r n t f v o y9 cd]) hP hS rfl dL_play_16 ⟨rfl, rfl⟩
set_option maxHeartbeats 4000000 in
set_option maxRecDepth 100000 in
theorem W1b_play (l : Launch) (hl0 : l.stackTraces = false) (C : q_C) (x : Nat) (rule : Nat) (z : Int32) (nw : Nat → Nat) (tr : Nat → Nat) (hq : Nat → Nat) (iq : Nat → Nat) (tt : Nat → Nat) (sc : Nat) (ba : Nat → Nat → Nat) (z9 : Nat → Int) (b : Bd) (b2 : Bd) (r : Nat) (n : Nat) (ph : Nat → Bd) (t : Nat → Nat) (f : Nat → Nat) (v : Nat → Nat) (o : Nat → Nat) (y : Nat) (cd : Nat → Nat) (ou : Nat) (x0 : Int64) (hr3 : rule < 3) (hxx : decide (nI 1 ≤ z ∧ z ≤ nI 99) = false) : q_M1 C l yL_play wsL_play 8 125 [.ref x, .int (nI rule), .int z, .ref ou] (List.flatten [wU C ou x0, wF C x nw tr hq iq tt sc ba z9 b b2 ph r n t f v o y cd]) (fun r2 w => r2 = some (.int (nI 1)) ∧ w = List.flatten [wU C ou x0, wF C x nw tr hq iq tt sc ba z9 b b2 ph r n t f v o y cd]) := by
  refine q_headW1 (cc := cL_play) (maxL := 5) (ret := (some .int)) (by decide +kernel) rfl (Nat.le_of_ble_eq_true rfl) ?_
  intro p e s m below meth c hx hb hr hlocks hml hown hts hK hV hE hP hD hS hA htab ls hl
  have hl : lv_has ls 5 [(0, .ref x), (1, .int (nI rule)), (2, .int z), (3, .ref ou)] := hl
  refine lv_aload_n hx hb dL_play_0 rfl (lv_at hl 3 rfl) ?_
  refine lv_iconst (v := nI 0) hx hb dL_play_1 (by decide) ?_
  refine lv_aload_n hx hb dL_play_2 rfl (lv_at hl 0 rfl) ?_
  refine lv_iload_n hx hb dL_play_3 rfl (lv_at hl 1 rfl) ?_
  refine lv_iload_n hx hb dL_play_4 rfl (lv_at hl 2 rfl) ?_
  refine q_TV (X := List.flatten [wU C ou x0, wF C x nw tr hq iq tt sc ba z9 b b2 ph r n t f v o y cd]) (As := [.int (nI rule), .int z]) (rest := [.int (nI 0), .ref ou]) ⟨hx, hb, hml, hown, hts⟩ (t1b_X4_play l hl0 C x rule z hr3 hxx) (cwV 2 hts gL_play_X4_play rfl rfl rfl (by decide +kernel) ⟨Nat.le_of_ble_eq_true rfl, Nat.le_of_ble_eq_true rfl⟩) hK hV hE hP hD hS hA [] (by decide) rfl 1 rfl rfl rfl rfl hl.1 rfl (Nat.le_of_ble_eq_true rfl) dL_play_5 (Nat.le_of_ble_eq_true rfl) (Nat.le_of_ble_eq_true rfl) (fun ce q9 H locs hP hS hce hcv hcl => ?_)
  refine vx_catch (name := "java/lang/IllegalArgumentException") hown [] (⟨0, 10, 13, 15⟩ : ExceptionTableEntry) [(⟨0, 10, 17, 32⟩ : ExceptionTableEntry)] (htab.trans rfl) (fun z hz => nomatch hz) (by decide) (by decide) (hts (.classLink RL 15 "java/lang/IllegalArgumentException") (by decide +kernel)) (q_xw_b hV _ (List.mem_of_getElem? (i := 0) rfl)) hce hcv hcl ?_
  refine lv_astore (lv' := [(4, .ref q9), (0, .ref x), (1, .int (nI rule)), (2, .int z), (3, .ref ou)]) hx hb dL_play_13 hl (by decide) rfl (fun ls hl => ?_)
  refine lv_iconst (v := nI 1) hx hb dL_play_15 (by decide) ?_
  exact q_iret1 hx hb hr hlocks (w1 := List.flatten [wU C ou x0, wF C x nw tr hq iq tt sc ba z9 b b2 ph r n t f v o y cd]) hP hS rfl dL_play_16 ⟨rfl, rfl⟩
set_option maxHeartbeats 4000000 in
set_option maxRecDepth 100000 in
theorem W2_play (l : Launch) (hl0 : l.stackTraces = false) (C : q_C) (x : Nat) (nw tr hq iq tt : Nat → Nat) (sc : Nat) (z : Nat → Int) (b : Bd) (rule k : Nat) (ba : Nat → Nat → Nat) (b2 : Bd) (r : Nat) (n : Nat) (ph : Nat → Bd) (t : Nat → Nat) (f : Nat → Nat) (v : Nat → Nat) (o : Nat → Nat) (y : Nat) (cd : Nat → Nat) (ou : Nat) (x0 : Int64) (hr3 : rule < 3) (h1 : 1 ≤ k) (h2 : k ≤ 99) (hs : sumU b ≤ 9999) (hU : 9999 < sumU b + k) : q_M1 C l yL_play wsL_play 7 105 [.ref x, .int (nI rule), .int (nI k), .ref ou] (List.flatten [wU C ou x0, wF C x nw tr hq iq tt sc ba z b b2 ph r n t f v o y cd]) (fun r2 w => r2 = some (.int (nI 2)) ∧ w = List.flatten [wU C ou x0, wF C x nw tr hq iq tt sc ba z b b2 ph r n t f v o y cd]) := by
  refine q_headW1 (cc := cL_play) (maxL := 5) (ret := (some .int)) (by decide +kernel) rfl (Nat.le_of_ble_eq_true rfl) ?_
  intro p e s m below meth c hx hb hr hlocks hml hown hts hK hV hE hP hD hS hA htab ls hl
  have hl : lv_has ls 5 [(0, .ref x), (1, .int (nI rule)), (2, .int (nI k)), (3, .ref ou)] := hl
  refine lv_aload_n hx hb dL_play_0 rfl (lv_at hl 3 rfl) ?_
  refine lv_iconst (v := nI 0) hx hb dL_play_1 (by decide) ?_
  refine lv_aload_n hx hb dL_play_2 rfl (lv_at hl 0 rfl) ?_
  refine lv_iload_n hx hb dL_play_3 rfl (lv_at hl 1 rfl) ?_
  refine lv_iload_n hx hb dL_play_4 rfl (lv_at hl 2 rfl) ?_
  refine q_TV (X := List.flatten [wU C ou x0, wF C x nw tr hq iq tt sc ba z b b2 ph r n t f v o y cd]) (As := [.int (nI rule), .int (nI k)]) (rest := [.int (nI 0), .ref ou]) ⟨hx, hb, hml, hown, hts⟩ (t2_X4_play l hl0 C x nw tr hq iq tt sc z b rule k hr3 h1 h2 hs hU) (cwV 2 hts gL_play_X4_play rfl rfl rfl (by decide +kernel) ⟨Nat.le_of_ble_eq_true rfl, Nat.le_of_ble_eq_true rfl⟩) hK hV hE hP hD hS hA [1, 2, 3, 4, 5, 6, 7, 8, 9, 10] (by decide) rfl 1 rfl rfl rfl rfl hl.1 rfl (Nat.le_of_ble_eq_true rfl) dL_play_5 (Nat.le_of_ble_eq_true rfl) (Nat.le_of_ble_eq_true rfl) (fun ce q9 H locs hP hS hce hcv hcl => ?_)
  refine vx_catch (name := "java/lang/IllegalStateException") hown [(⟨0, 10, 13, 15⟩ : ExceptionTableEntry)] (⟨0, 10, 17, 32⟩ : ExceptionTableEntry) [] (htab.trans rfl) (fun z hz => by rw [List.mem_singleton] at hz; subst hz; exact Or.inr ⟨by decide, "java/lang/IllegalArgumentException", hts (.classLink RL 15 "java/lang/IllegalArgumentException") (by decide +kernel), hV.2.2 ("java/lang/IllegalStateException", "java/lang/IllegalArgumentException") (by decide)⟩) (by decide) (by decide) (hts (.classLink RL 32 "java/lang/IllegalStateException") (by decide +kernel)) (q_xw_b hV _ (List.mem_of_getElem? (i := 1) rfl)) hce hcv hcl ?_
  refine lv_astore (lv' := [(4, .ref q9), (0, .ref x), (1, .int (nI rule)), (2, .int (nI k)), (3, .ref ou)]) hx hb dL_play_17 hl (by decide) rfl (fun ls hl => ?_)
  refine lv_iconst (v := nI 2) hx hb dL_play_19 (by decide) ?_
  exact q_iret1 hx hb hr hlocks (w1 := List.flatten [wU C ou x0, wF C x nw tr hq iq tt sc ba z b b2 ph r n t f v o y cd]) hP hS rfl dL_play_20 ⟨rfl, rfl⟩
set_option maxHeartbeats 4000000 in
set_option maxRecDepth 100000 in
theorem W1_append (l : Launch) (hl0 : l.stackTraces = false) (C : q_C) (x : Nat) (y : Int32) (nw : Nat → Nat) (tr : Nat → Nat) (hq : Nat → Nat) (iq : Nat → Nat) (tt : Nat → Nat) (sc : Nat) (ba : Nat → Nat → Nat) (z : Nat → Int) (b : Bd) (b2 : Bd) (r : Nat) (n : Nat) (ph : Nat → Bd) (t : Nat → Nat) (f : Nat → Nat) (v : Nat → Nat) (o : Nat → Nat) (y9 : Nat) (cd : Nat → Nat) (ou : Nat) (x0 : Int64) (hxx : decide (nI 33 ≤ y ∧ y ≤ nI 126) = false) : q_M1 C l yL_append wsL_append 7 103 [.ref x, .int y, .ref ou] (List.flatten [wU C ou x0, wF C x nw tr hq iq tt sc ba z b b2 ph r n t f v o y9 cd]) (fun r2 w => r2 = some (.int (nI 1)) ∧ w = List.flatten [wU C ou x0, wF C x nw tr hq iq tt sc ba z b b2 ph r n t f v o y9 cd]) := by
  refine q_headW1 (cc := cL_append) (maxL := 4) (ret := (some .int)) (by decide +kernel) rfl (Nat.le_of_ble_eq_true rfl) ?_
  intro p e s m below meth c hx hb hr hlocks hml hown hts hK hV hE hP hD hS hA htab ls hl
  have hl : lv_has ls 4 [(0, .ref x), (1, .int y), (2, .ref ou)] := hl
  refine lv_aload_n hx hb dL_append_0 rfl (lv_at hl 2 rfl) ?_
  refine lv_iconst (v := nI 0) hx hb dL_append_1 (by decide) ?_
  refine lv_aload_n hx hb dL_append_2 rfl (lv_at hl 0 rfl) ?_
  refine lv_iload_n hx hb dL_append_3 rfl (lv_at hl 1 rfl) ?_
  refine q_TV (X := List.flatten [wU C ou x0, wF C x nw tr hq iq tt sc ba z b b2 ph r n t f v o y9 cd]) (As := [.int y]) (rest := [.int (nI 0), .ref ou]) ⟨hx, hb, hml, hown, hts⟩ (t1_X4_append l hl0 C x y hxx) (cwV 1 hts gL_append_X4_append rfl rfl rfl (by decide +kernel) ⟨Nat.le_of_ble_eq_true rfl, Nat.le_of_ble_eq_true rfl⟩) hK hV hE hP hD hS hA [] (by decide) rfl 1 rfl rfl rfl rfl hl.1 rfl (Nat.le_of_ble_eq_true rfl) dL_append_4 (Nat.le_of_ble_eq_true rfl) (Nat.le_of_ble_eq_true rfl) (fun ce q9 H locs hP hS hce hcv hcl => ?_)
  refine vx_catch (name := "java/lang/IllegalArgumentException") hown [] (⟨0, 9, 12, 15⟩ : ExceptionTableEntry) [(⟨0, 9, 15, 32⟩ : ExceptionTableEntry)] (htab.trans rfl) (fun z hz => nomatch hz) (by decide) (by decide) (hts (.classLink RL 15 "java/lang/IllegalArgumentException") (by decide +kernel)) (q_xw_b hV _ (List.mem_of_getElem? (i := 0) rfl)) hce hcv hcl ?_
  refine lv_astore_n (lv' := [(3, .ref q9), (0, .ref x), (1, .int y), (2, .ref ou)]) hx hb dL_append_12 rfl hl (by decide) rfl (fun ls hl => ?_)
  refine lv_iconst (v := nI 1) hx hb dL_append_13 (by decide) ?_
  exact q_iret1 hx hb hr hlocks (w1 := List.flatten [wU C ou x0, wF C x nw tr hq iq tt sc ba z b b2 ph r n t f v o y9 cd]) hP hS rfl dL_append_14 ⟨rfl, rfl⟩
set_option maxHeartbeats 4000000 in
set_option maxRecDepth 100000 in
theorem W2_append (l : Launch) (hl0 : l.stackTraces = false) (C : q_C) (x : Nat) (nw tr hq iq tt : Nat → Nat) (sc : Nat) (z : Nat → Int) (cd : Nat → Nat) (cx : Nat) (ba : Nat → Nat → Nat) (b : Bd) (b2 : Bd) (r : Nat) (n : Nat) (ph : Nat → Bd) (t : Nat → Nat) (f : Nat → Nat) (v : Nat → Nat) (o : Nat → Nat) (ou : Nat) (x0 : Int64) (h1 : 33 ≤ cx) (h2 : cx ≤ 126) : q_M1 C l yL_append wsL_append 7 103 [.ref x, .int (nI cx), .ref ou] (List.flatten [wU C ou x0, wF C x nw tr hq iq tt sc ba z b b2 ph r n t f v o 60 cd]) (fun r2 w => r2 = some (.int (nI 2)) ∧ w = List.flatten [wU C ou x0, wF C x nw tr hq iq tt sc ba z b b2 ph r n t f v o 60 cd]) := by
  refine q_headW1 (cc := cL_append) (maxL := 4) (ret := (some .int)) (by decide +kernel) rfl (Nat.le_of_ble_eq_true rfl) ?_
  intro p e s m below meth c hx hb hr hlocks hml hown hts hK hV hE hP hD hS hA htab ls hl
  have hl : lv_has ls 4 [(0, .ref x), (1, .int (nI cx)), (2, .ref ou)] := hl
  refine lv_aload_n hx hb dL_append_0 rfl (lv_at hl 2 rfl) ?_
  refine lv_iconst (v := nI 0) hx hb dL_append_1 (by decide) ?_
  refine lv_aload_n hx hb dL_append_2 rfl (lv_at hl 0 rfl) ?_
  refine lv_iload_n hx hb dL_append_3 rfl (lv_at hl 1 rfl) ?_
  refine q_TV (X := List.flatten [wU C ou x0, wF C x nw tr hq iq tt sc ba z b b2 ph r n t f v o 60 cd]) (As := [.int (nI cx)]) (rest := [.int (nI 0), .ref ou]) ⟨hx, hb, hml, hown, hts⟩ (t2_X4_append l hl0 C x nw tr hq iq tt sc z cd cx h1 h2) (cwV 1 hts gL_append_X4_append rfl rfl rfl (by decide +kernel) ⟨Nat.le_of_ble_eq_true rfl, Nat.le_of_ble_eq_true rfl⟩) hK hV hE hP hD hS hA [1, 2, 74, 75] (by decide) rfl 1 rfl rfl rfl rfl hl.1 rfl (Nat.le_of_ble_eq_true rfl) dL_append_4 (Nat.le_of_ble_eq_true rfl) (Nat.le_of_ble_eq_true rfl) (fun ce q9 H locs hP hS hce hcv hcl => ?_)
  refine vx_catch (name := "java/lang/IllegalStateException") hown [(⟨0, 9, 12, 15⟩ : ExceptionTableEntry)] (⟨0, 9, 15, 32⟩ : ExceptionTableEntry) [] (htab.trans rfl) (fun z hz => by rw [List.mem_singleton] at hz; subst hz; exact Or.inr ⟨by decide, "java/lang/IllegalArgumentException", hts (.classLink RL 15 "java/lang/IllegalArgumentException") (by decide +kernel), hV.2.2 ("java/lang/IllegalStateException", "java/lang/IllegalArgumentException") (by decide)⟩) (by decide) (by decide) (hts (.classLink RL 32 "java/lang/IllegalStateException") (by decide +kernel)) (q_xw_b hV _ (List.mem_of_getElem? (i := 1) rfl)) hce hcv hcl ?_
  refine lv_astore_n (lv' := [(3, .ref q9), (0, .ref x), (1, .int (nI cx)), (2, .ref ou)]) hx hb dL_append_15 rfl hl (by decide) rfl (fun ls hl => ?_)
  refine lv_iconst (v := nI 2) hx hb dL_append_16 (by decide) ?_
  exact q_iret1 hx hb hr hlocks (w1 := List.flatten [wU C ou x0, wF C x nw tr hq iq tt sc ba z b b2 ph r n t f v o 60 cd]) hP hS rfl dL_append_17 ⟨rfl, rfl⟩
set_option maxHeartbeats 4000000 in
set_option maxRecDepth 100000 in
theorem W1_read (l : Launch) (hl0 : l.stackTraces = false) (C : q_C) (x : Nat) (nw tr hq iq tt : Nat → Nat) (sc : Nat) (z : Nat → Int) (y : Nat) (cd : Nat → Nat) (ba : Nat → Nat → Nat) (b : Bd) (b2 : Bd) (r : Nat) (n : Nat) (ph : Nat → Bd) (t : Nat → Nat) (f : Nat → Nat) (v : Nat → Nat) (o : Nat → Nat) (ou : Nat) (x0 : Int64) (hn60 : y ≤ 60) (hcd : ∀ k, k < y → cd k < 2 ^ 31) (hw : wholeN cd y = false) : q_M1 C l yL_read wsL_read 7 106 [.ref x, .ref ou] (List.flatten [wU C ou x0, wF C x nw tr hq iq tt sc ba z b b2 ph r n t f v o y cd]) (fun r2 w => r2 = some (.int (nI 1)) ∧ w = List.flatten [wU C ou x0, wF C x nw tr hq iq tt sc ba z b b2 ph r n t f v o y cd]) := by
  refine q_headW1 (cc := cL_read) (maxL := 3) (ret := (some .int)) (by decide +kernel) rfl (Nat.le_of_ble_eq_true rfl) ?_
  intro p e s m below meth c hx hb hr hlocks hml hown hts hK hV hE hP hD hS hA htab ls hl
  have hl : lv_has ls 3 [(0, .ref x), (1, .ref ou)] := hl
  refine lv_aload_n hx hb dL_read_0 rfl (lv_at hl 1 rfl) ?_
  refine lv_iconst (v := nI 0) hx hb dL_read_1 (by decide) ?_
  refine lv_aload_n hx hb dL_read_2 rfl (lv_at hl 0 rfl) ?_
  refine q_TV (X := List.flatten [wU C ou x0, wF C x nw tr hq iq tt sc ba z b b2 ph r n t f v o y cd]) (As := []) (rest := [.int (nI 0), .ref ou]) ⟨hx, hb, hml, hown, hts⟩ (t1_X4_read l hl0 C x nw tr hq iq tt sc z y cd hn60 hcd hw) (cwV 0 hts gL_read_X4_read rfl rfl rfl (by decide +kernel) ⟨Nat.le_of_ble_eq_true rfl, Nat.le_of_ble_eq_true rfl⟩) hK hV hE hP hD hS hA [1, 2, 74, 75] (by decide) rfl 1 rfl rfl rfl rfl hl.1 rfl (Nat.le_of_ble_eq_true rfl) dL_read_3 (Nat.le_of_ble_eq_true rfl) (Nat.le_of_ble_eq_true rfl) (fun ce q9 H locs hP hS hce hcv hcl => ?_)
  refine vx_catch (name := "java/lang/IllegalArgumentException") hown [] (⟨0, 8, 11, 15⟩ : ExceptionTableEntry) [] (htab.trans rfl) (fun z hz => nomatch hz) (by decide) (by decide) (hts (.classLink RL 15 "java/lang/IllegalArgumentException") (by decide +kernel)) (q_xw_b hV _ (List.mem_of_getElem? (i := 0) rfl)) hce hcv hcl ?_
  refine lv_astore_n (lv' := [(2, .ref q9), (0, .ref x), (1, .ref ou)]) hx hb dL_read_11 rfl hl (by decide) rfl (fun ls hl => ?_)
  refine lv_iconst (v := nI 1) hx hb dL_read_12 (by decide) ?_
  exact q_iret1 hx hb hr hlocks (w1 := List.flatten [wU C ou x0, wF C x nw tr hq iq tt sc ba z b b2 ph r n t f v o y cd]) hP hS rfl dL_read_13 ⟨rfl, rfl⟩
set_option maxHeartbeats 4000000 in
set_option maxRecDepth 100000 in
theorem W1_undo (l : Launch) (hl0 : l.stackTraces = false) (C : q_C) (x : Nat) (nw tr hq iq tt : Nat → Nat) (sc : Nat) (z : Nat → Int) (ba : Nat → Nat → Nat) (r : Nat) (b : Bd) (b2 : Bd) (ph : Nat → Bd) (t : Nat → Nat) (f : Nat → Nat) (v : Nat → Nat) (o : Nat → Nat) (y : Nat) (cd : Nat → Nat) (ou : Nat) (x0 : Int64)  : q_M1 C l yL_undo wsL_undo 7 102 [.ref x, .ref ou] (List.flatten [wU C ou x0, wF C x nw tr hq iq tt sc ba z b b2 ph r 0 t f v o y cd]) (fun r2 w => r2 = some (.int (nI 1)) ∧ w = List.flatten [wU C ou x0, wF C x nw tr hq iq tt sc ba z b b2 ph r 0 t f v o y cd]) := by
  refine q_headW1 (cc := cL_undo) (maxL := 3) (ret := (some .int)) (by decide +kernel) rfl (Nat.le_of_ble_eq_true rfl) ?_
  intro p e s m below meth c hx hb hr hlocks hml hown hts hK hV hE hP hD hS hA htab ls hl
  have hl : lv_has ls 3 [(0, .ref x), (1, .ref ou)] := hl
  refine lv_aload_n hx hb dL_undo_0 rfl (lv_at hl 1 rfl) ?_
  refine lv_iconst (v := nI 0) hx hb dL_undo_1 (by decide) ?_
  refine lv_aload_n hx hb dL_undo_2 rfl (lv_at hl 0 rfl) ?_
  refine q_TV (X := List.flatten [wU C ou x0, wF C x nw tr hq iq tt sc ba z b b2 ph r 0 t f v o y cd]) (As := []) (rest := [.int (nI 0), .ref ou]) ⟨hx, hb, hml, hown, hts⟩ (t1_X4_undo l hl0 C x nw tr hq iq tt sc z ba r) (cwV 0 hts gL_undo_X4_undo rfl rfl rfl (by decide +kernel) ⟨Nat.le_of_ble_eq_true rfl, Nat.le_of_ble_eq_true rfl⟩) hK hV hE hP hD hS hA [1, 2, 19, 20] (by decide) rfl 1 rfl rfl rfl rfl hl.1 rfl (Nat.le_of_ble_eq_true rfl) dL_undo_3 (Nat.le_of_ble_eq_true rfl) (Nat.le_of_ble_eq_true rfl) (fun ce q9 H locs hP hS hce hcv hcl => ?_)
  refine vx_catch (name := "java/lang/IllegalStateException") hown [] (⟨0, 8, 11, 32⟩ : ExceptionTableEntry) [] (htab.trans rfl) (fun z hz => nomatch hz) (by decide) (by decide) (hts (.classLink RL 32 "java/lang/IllegalStateException") (by decide +kernel)) (q_xw_b hV _ (List.mem_of_getElem? (i := 1) rfl)) hce hcv hcl ?_
  refine lv_astore_n (lv' := [(2, .ref q9), (0, .ref x), (1, .ref ou)]) hx hb dL_undo_11 rfl hl (by decide) rfl (fun ls hl => ?_)
  refine lv_iconst (v := nI 1) hx hb dL_undo_12 (by decide) ?_
  exact q_iret1 hx hb hr hlocks (w1 := List.flatten [wU C ou x0, wF C x nw tr hq iq tt sc ba z b b2 ph r 0 t f v o y cd]) hP hS rfl dL_undo_13 ⟨rfl, rfl⟩
set_option maxHeartbeats 4000000 in
set_option maxRecDepth 100000 in
theorem W1_stateOf (l : Launch) (hl0 : l.stackTraces = false) (C : q_C) (x : Nat) (y z g : Int32) (nw : Nat → Nat) (tr : Nat → Nat) (hq : Nat → Nat) (iq : Nat → Nat) (tt : Nat → Nat) (sc : Nat) (ba : Nat → Nat → Nat) (z9 : Nat → Int) (b : Bd) (b2 : Bd) (r : Nat) (n : Nat) (ph : Nat → Bd) (t : Nat → Nat) (f : Nat → Nat) (v : Nat → Nat) (o : Nat → Nat) (y9 : Nat) (cd : Nat → Nat) (ou : Nat) (x0 : Int64) (hxx : (decide (nI 0 ≤ y ∧ y ≤ nI 3) && decide (nI 0 ≤ z ∧ z ≤ nI 3)) = false) : q_M1 C l yL_stateOf wsL_stateOf 8 127 [.ref x, .int y, .int z, .int g, .ref ou] (List.flatten [wU C ou x0, wF C x nw tr hq iq tt sc ba z9 b b2 ph r n t f v o y9 cd]) (fun r2 w => r2 = some (.int (nI 1)) ∧ w = List.flatten [wU C ou x0, wF C x nw tr hq iq tt sc ba z9 b b2 ph r n t f v o y9 cd]) := by
  refine q_headW1 (cc := cL_stateOf) (maxL := 6) (ret := (some .int)) (by decide +kernel) rfl (Nat.le_of_ble_eq_true rfl) ?_
  intro p e s m below meth c hx hb hr hlocks hml hown hts hK hV hE hP hD hS hA htab ls hl
  have hl : lv_has ls 6 [(0, .ref x), (1, .int y), (2, .int z), (3, .int g), (4, .ref ou)] := hl
  refine lv_aload hx hb dL_stateOf_0 (lv_at hl 4 rfl) ?_
  refine lv_iconst (v := nI 0) hx hb dL_stateOf_2 (by decide) ?_
  refine lv_aload_n hx hb dL_stateOf_3 rfl (lv_at hl 0 rfl) ?_
  refine lv_iload_n hx hb dL_stateOf_4 rfl (lv_at hl 1 rfl) ?_
  refine lv_iload_n hx hb dL_stateOf_5 rfl (lv_at hl 2 rfl) ?_
  refine lv_iload_n hx hb dL_stateOf_6 rfl (lv_at hl 3 rfl) ?_
  refine q_TV (X := List.flatten [wU C ou x0, wF C x nw tr hq iq tt sc ba z9 b b2 ph r n t f v o y9 cd]) (As := [.int y, .int z, .int g]) (rest := [.int (nI 0), .ref ou]) ⟨hx, hb, hml, hown, hts⟩ (t1_X4_stateOf l hl0 C x y z g hxx) (cwV 3 hts gL_stateOf_X4_stateOf rfl rfl rfl (by decide +kernel) ⟨Nat.le_of_ble_eq_true rfl, Nat.le_of_ble_eq_true rfl⟩) hK hV hE hP hD hS hA [] (by decide) rfl 1 rfl rfl rfl rfl hl.1 rfl (Nat.le_of_ble_eq_true rfl) dL_stateOf_7 (Nat.le_of_ble_eq_true rfl) (Nat.le_of_ble_eq_true rfl) (fun ce q9 H locs hP hS hce hcv hcl => ?_)
  refine vx_catch (name := "java/lang/IndexOutOfBoundsException") hown [] (⟨0, 12, 15, 13⟩ : ExceptionTableEntry) [(⟨0, 12, 19, 15⟩ : ExceptionTableEntry)] (htab.trans rfl) (fun z hz => nomatch hz) (by decide) (by decide) (hts (.classLink RL 13 "java/lang/IndexOutOfBoundsException") (by decide +kernel)) (q_xw_b hV _ (List.mem_of_getElem? (i := 2) rfl)) hce hcv hcl ?_
  refine lv_astore (lv' := [(5, .ref q9), (0, .ref x), (1, .int y), (2, .int z), (3, .int g), (4, .ref ou)]) hx hb dL_stateOf_15 hl (by decide) rfl (fun ls hl => ?_)
  refine lv_iconst (v := nI 1) hx hb dL_stateOf_17 (by decide) ?_
  exact q_iret1 hx hb hr hlocks (w1 := List.flatten [wU C ou x0, wF C x nw tr hq iq tt sc ba z9 b b2 ph r n t f v o y9 cd]) hP hS rfl dL_stateOf_18 ⟨rfl, rfl⟩
