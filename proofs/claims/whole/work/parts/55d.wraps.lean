/-! the law's wrappers, more of them -/
set_option maxHeartbeats 4000000 in
set_option maxRecDepth 100000 in
theorem W2_stateOf (l : Launch) (hl0 : l.stackTraces = false) (C : q_C) (x : Nat) (a t0 : Nat) (g : Int32) (nw : Nat → Nat) (tr : Nat → Nat) (hq : Nat → Nat) (iq : Nat → Nat) (tt : Nat → Nat) (sc : Nat) (ba : Nat → Nat → Nat) (z : Nat → Int) (b : Bd) (b2 : Bd) (r : Nat) (n : Nat) (ph : Nat → Bd) (t : Nat → Nat) (f : Nat → Nat) (v : Nat → Nat) (o : Nat → Nat) (y : Nat) (cd : Nat → Nat) (ou : Nat) (x0 : Int64) (ha : a < 4) (ht : t0 < 4) (hxx : decide (nI 0 ≤ g ∧ g ≤ nI 4) = false) : q_M1 C l yL_stateOf wsL_stateOf 7 106 [.ref x, .int (nI a), .int (nI t0), .int g, .ref ou] (List.flatten [wU C ou x0, wF C x nw tr hq iq tt sc ba z b b2 ph r n t f v o y cd]) (fun r2 w => r2 = some (.int (nI 2)) ∧ w = List.flatten [wU C ou x0, wF C x nw tr hq iq tt sc ba z b b2 ph r n t f v o y cd]) := by
  refine q_headW1 (cc := cL_stateOf) (maxL := 6) (ret := (some .int)) (by decide +kernel) rfl (Nat.le_of_ble_eq_true rfl) ?_
  intro p e s m below meth c hx hb hr hlocks hml hown hts hK hV hE hP hD hS hA htab ls hl
  have hl : lv_has ls 6 [(0, .ref x), (1, .int (nI a)), (2, .int (nI t0)), (3, .int g), (4, .ref ou)] := hl
  refine lv_aload hx hb dL_stateOf_0 (lv_at hl 4 rfl) ?_
  refine lv_iconst (v := nI 0) hx hb dL_stateOf_2 (by decide) ?_
  refine lv_aload_n hx hb dL_stateOf_3 rfl (lv_at hl 0 rfl) ?_
  refine lv_iload_n hx hb dL_stateOf_4 rfl (lv_at hl 1 rfl) ?_
  refine lv_iload_n hx hb dL_stateOf_5 rfl (lv_at hl 2 rfl) ?_
  refine lv_iload_n hx hb dL_stateOf_6 rfl (lv_at hl 3 rfl) ?_
  refine q_TV (X := List.flatten [wU C ou x0, wF C x nw tr hq iq tt sc ba z b b2 ph r n t f v o y cd]) (As := [.int (nI a), .int (nI t0), .int g]) (rest := [.int (nI 0), .ref ou]) ⟨hx, hb, hml, hown, hts⟩ (t2_X4_stateOf l hl0 C x a t0 g ha ht hxx) (cwV 3 hts gL_stateOf_X4_stateOf rfl rfl rfl (by decide +kernel) ⟨Nat.le_of_ble_eq_true rfl, Nat.le_of_ble_eq_true rfl⟩) hK hV hE hP hD hS hA [] (by decide) rfl 1 rfl rfl rfl rfl hl.1 rfl (Nat.le_of_ble_eq_true rfl) dL_stateOf_7 (Nat.le_of_ble_eq_true rfl) (Nat.le_of_ble_eq_true rfl) (fun ce q9 H locs hP hS hce hcv hcl => ?_)
  refine vx_catch (name := "java/lang/IllegalArgumentException") hown [(⟨0, 12, 15, 13⟩ : ExceptionTableEntry)] (⟨0, 12, 19, 15⟩ : ExceptionTableEntry) [] (htab.trans rfl) (fun z hz => by rw [List.mem_singleton] at hz; subst hz; exact Or.inr ⟨by decide, "java/lang/IndexOutOfBoundsException", hts (.classLink RL 13 "java/lang/IndexOutOfBoundsException") (by decide +kernel), hV.2.2 ("java/lang/IllegalArgumentException", "java/lang/IndexOutOfBoundsException") (by decide)⟩) (by decide) (by decide) (hts (.classLink RL 15 "java/lang/IllegalArgumentException") (by decide +kernel)) (q_xw_b hV _ (List.mem_of_getElem? (i := 0) rfl)) hce hcv hcl ?_
  refine lv_astore (lv' := [(5, .ref q9), (0, .ref x), (1, .int (nI a)), (2, .int (nI t0)), (3, .int g), (4, .ref ou)]) hx hb dL_stateOf_19 hl (by decide) rfl (fun ls hl => ?_)
  refine lv_iconst (v := nI 2) hx hb dL_stateOf_21 (by decide) ?_
  exact q_iret1 hx hb hr hlocks (w1 := List.flatten [wU C ou x0, wF C x nw tr hq iq tt sc ba z b b2 ph r n t f v o y cd]) hP hS rfl dL_stateOf_22 ⟨rfl, rfl⟩
set_option maxHeartbeats 4000000 in
set_option maxRecDepth 100000 in
theorem W1_index (l : Launch) (hl0 : l.stackTraces = false) (C : q_C) (x : Nat) (y z : Int32) (nw : Nat → Nat) (tr : Nat → Nat) (hq : Nat → Nat) (iq : Nat → Nat) (tt : Nat → Nat) (sc : Nat) (ba : Nat → Nat → Nat) (z9 : Nat → Int) (b : Bd) (b2 : Bd) (r : Nat) (n : Nat) (ph : Nat → Bd) (t : Nat → Nat) (f : Nat → Nat) (v : Nat → Nat) (o : Nat → Nat) (y9 : Nat) (cd : Nat → Nat) (ou : Nat) (x0 : Int64) (hxx : (decide (nI 0 ≤ y ∧ y ≤ nI 3) && decide (nI 0 ≤ z ∧ z ≤ nI 3)) = false) : q_M1 C l yL_index wsL_index 8 125 [.ref x, .int y, .int z, .ref ou] (List.flatten [wU C ou x0, wF C x nw tr hq iq tt sc ba z9 b b2 ph r n t f v o y9 cd]) (fun r2 w => r2 = some (.int (nI 1)) ∧ w = List.flatten [wU C ou x0, wF C x nw tr hq iq tt sc ba z9 b b2 ph r n t f v o y9 cd]) := by
  refine q_headW1 (cc := cL_index) (maxL := 5) (ret := (some .int)) (by decide +kernel) rfl (Nat.le_of_ble_eq_true rfl) ?_
  intro p e s m below meth c hx hb hr hlocks hml hown hts hK hV hE hP hD hS hA htab ls hl
  have hl : lv_has ls 5 [(0, .ref x), (1, .int y), (2, .int z), (3, .ref ou)] := hl
  refine lv_aload_n hx hb dL_index_0 rfl (lv_at hl 3 rfl) ?_
  refine lv_iconst (v := nI 0) hx hb dL_index_1 (by decide) ?_
  refine lv_aload_n hx hb dL_index_2 rfl (lv_at hl 0 rfl) ?_
  refine lv_iload_n hx hb dL_index_3 rfl (lv_at hl 1 rfl) ?_
  refine lv_iload_n hx hb dL_index_4 rfl (lv_at hl 2 rfl) ?_
  refine q_TV (X := List.flatten [wU C ou x0, wF C x nw tr hq iq tt sc ba z9 b b2 ph r n t f v o y9 cd]) (As := [.int y, .int z]) (rest := [.int (nI 0), .ref ou]) ⟨hx, hb, hml, hown, hts⟩ (t1_X4_index l hl0 C x y z hxx) (cwV 2 hts gL_index_X4_index rfl rfl rfl (by decide +kernel) ⟨Nat.le_of_ble_eq_true rfl, Nat.le_of_ble_eq_true rfl⟩) hK hV hE hP hD hS hA [] (by decide) rfl 1 rfl rfl rfl rfl hl.1 rfl (Nat.le_of_ble_eq_true rfl) dL_index_5 (Nat.le_of_ble_eq_true rfl) (Nat.le_of_ble_eq_true rfl) (fun ce q9 H locs hP hS hce hcv hcl => ?_)
  refine vx_catch (name := "java/lang/IndexOutOfBoundsException") hown [] (⟨0, 9, 12, 13⟩ : ExceptionTableEntry) [] (htab.trans rfl) (fun z hz => nomatch hz) (by decide) (by decide) (hts (.classLink RL 13 "java/lang/IndexOutOfBoundsException") (by decide +kernel)) (q_xw_b hV _ (List.mem_of_getElem? (i := 2) rfl)) hce hcv hcl ?_
  refine lv_astore (lv' := [(4, .ref q9), (0, .ref x), (1, .int y), (2, .int z), (3, .ref ou)]) hx hb dL_index_12 hl (by decide) rfl (fun ls hl => ?_)
  refine lv_iconst (v := nI 1) hx hb dL_index_14 (by decide) ?_
  exact q_iret1 hx hb hr hlocks (w1 := List.flatten [wU C ou x0, wF C x nw tr hq iq tt sc ba z9 b b2 ph r n t f v o y9 cd]) hP hS rfl dL_index_15 ⟨rfl, rfl⟩
set_option maxHeartbeats 4000000 in
set_option maxRecDepth 100000 in
theorem W1_arm (l : Launch) (hl0 : l.stackTraces = false) (C : q_C) (x : Nat) (y z : Int32) (nw : Nat → Nat) (tr : Nat → Nat) (hq : Nat → Nat) (iq : Nat → Nat) (tt : Nat → Nat) (sc : Nat) (ba : Nat → Nat → Nat) (z9 : Nat → Int) (b : Bd) (b2 : Bd) (r : Nat) (n : Nat) (ph : Nat → Bd) (t : Nat → Nat) (f : Nat → Nat) (v : Nat → Nat) (o : Nat → Nat) (y9 : Nat) (cd : Nat → Nat) (ou : Nat) (x0 : Int64) (hxx : decide (nI 0 ≤ y ∧ y ≤ nI 3) = false) : q_M1 C l yL_arm wsL_arm 8 124 [.ref x, .int y, .int z, .ref ou] (List.flatten [wU C ou x0, wF C x nw tr hq iq tt sc ba z9 b b2 ph r n t f v o y9 cd]) (fun r2 w => r2 = some (.int (nI 1)) ∧ w = List.flatten [wU C ou x0, wF C x nw tr hq iq tt sc ba z9 b b2 ph r n t f v o y9 cd]) := by
  refine q_headW1 (cc := cL_arm) (maxL := 5) (ret := (some .int)) (by decide +kernel) rfl (Nat.le_of_ble_eq_true rfl) ?_
  intro p e s m below meth c hx hb hr hlocks hml hown hts hK hV hE hP hD hS hA htab ls hl
  have hl : lv_has ls 5 [(0, .ref x), (1, .int y), (2, .int z), (3, .ref ou)] := hl
  refine lv_aload_n hx hb dL_arm_0 rfl (lv_at hl 3 rfl) ?_
  refine lv_iconst (v := nI 0) hx hb dL_arm_1 (by decide) ?_
  refine lv_aload_n hx hb dL_arm_2 rfl (lv_at hl 0 rfl) ?_
  refine lv_iload_n hx hb dL_arm_3 rfl (lv_at hl 1 rfl) ?_
  refine lv_iload_n hx hb dL_arm_4 rfl (lv_at hl 2 rfl) ?_
  refine q_TV (X := List.flatten [wU C ou x0, wF C x nw tr hq iq tt sc ba z9 b b2 ph r n t f v o y9 cd]) (As := [.int y, .int z]) (rest := [.int (nI 0), .ref ou]) ⟨hx, hb, hml, hown, hts⟩ (t1_X4_arm l hl0 C x y z hxx) (cwV 2 hts gL_arm_X4_arm rfl rfl rfl (by decide +kernel) ⟨Nat.le_of_ble_eq_true rfl, Nat.le_of_ble_eq_true rfl⟩) hK hV hE hP hD hS hA [] (by decide) rfl 1 rfl rfl rfl rfl hl.1 rfl (Nat.le_of_ble_eq_true rfl) dL_arm_5 (Nat.le_of_ble_eq_true rfl) (Nat.le_of_ble_eq_true rfl) (fun ce q9 H locs hP hS hce hcv hcl => ?_)
  refine vx_catch (name := "java/lang/IndexOutOfBoundsException") hown [] (⟨0, 10, 13, 13⟩ : ExceptionTableEntry) [(⟨0, 10, 17, 15⟩ : ExceptionTableEntry)] (htab.trans rfl) (fun z hz => nomatch hz) (by decide) (by decide) (hts (.classLink RL 13 "java/lang/IndexOutOfBoundsException") (by decide +kernel)) (q_xw_b hV _ (List.mem_of_getElem? (i := 2) rfl)) hce hcv hcl ?_
  refine lv_astore (lv' := [(4, .ref q9), (0, .ref x), (1, .int y), (2, .int z), (3, .ref ou)]) hx hb dL_arm_13 hl (by decide) rfl (fun ls hl => ?_)
  refine lv_iconst (v := nI 1) hx hb dL_arm_15 (by decide) ?_
  exact q_iret1 hx hb hr hlocks (w1 := List.flatten [wU C ou x0, wF C x nw tr hq iq tt sc ba z9 b b2 ph r n t f v o y9 cd]) hP hS rfl dL_arm_16 ⟨rfl, rfl⟩
set_option maxHeartbeats 4000000 in
set_option maxRecDepth 100000 in
theorem W2_arm (l : Launch) (hl0 : l.stackTraces = false) (C : q_C) (x : Nat) (a : Nat) (g : Int32) (nw : Nat → Nat) (tr : Nat → Nat) (hq : Nat → Nat) (iq : Nat → Nat) (tt : Nat → Nat) (sc : Nat) (ba : Nat → Nat → Nat) (z : Nat → Int) (b : Bd) (b2 : Bd) (r : Nat) (n : Nat) (ph : Nat → Bd) (t : Nat → Nat) (f : Nat → Nat) (v : Nat → Nat) (o : Nat → Nat) (y : Nat) (cd : Nat → Nat) (ou : Nat) (x0 : Int64) (ha : a < 4) (hxx : decide (nI 0 ≤ g ∧ g ≤ nI 3) = false) : q_M1 C l yL_arm wsL_arm 7 104 [.ref x, .int (nI a), .int g, .ref ou] (List.flatten [wU C ou x0, wF C x nw tr hq iq tt sc ba z b b2 ph r n t f v o y cd]) (fun r2 w => r2 = some (.int (nI 2)) ∧ w = List.flatten [wU C ou x0, wF C x nw tr hq iq tt sc ba z b b2 ph r n t f v o y cd]) := by
  refine q_headW1 (cc := cL_arm) (maxL := 5) (ret := (some .int)) (by decide +kernel) rfl (Nat.le_of_ble_eq_true rfl) ?_
  intro p e s m below meth c hx hb hr hlocks hml hown hts hK hV hE hP hD hS hA htab ls hl
  have hl : lv_has ls 5 [(0, .ref x), (1, .int (nI a)), (2, .int g), (3, .ref ou)] := hl
  refine lv_aload_n hx hb dL_arm_0 rfl (lv_at hl 3 rfl) ?_
  refine lv_iconst (v := nI 0) hx hb dL_arm_1 (by decide) ?_
  refine lv_aload_n hx hb dL_arm_2 rfl (lv_at hl 0 rfl) ?_
  refine lv_iload_n hx hb dL_arm_3 rfl (lv_at hl 1 rfl) ?_
  refine lv_iload_n hx hb dL_arm_4 rfl (lv_at hl 2 rfl) ?_
  refine q_TV (X := List.flatten [wU C ou x0, wF C x nw tr hq iq tt sc ba z b b2 ph r n t f v o y cd]) (As := [.int (nI a), .int g]) (rest := [.int (nI 0), .ref ou]) ⟨hx, hb, hml, hown, hts⟩ (t2_X4_arm l hl0 C x a g ha hxx) (cwV 2 hts gL_arm_X4_arm rfl rfl rfl (by decide +kernel) ⟨Nat.le_of_ble_eq_true rfl, Nat.le_of_ble_eq_true rfl⟩) hK hV hE hP hD hS hA [] (by decide) rfl 1 rfl rfl rfl rfl hl.1 rfl (Nat.le_of_ble_eq_true rfl) dL_arm_5 (Nat.le_of_ble_eq_true rfl) (Nat.le_of_ble_eq_true rfl) (fun ce q9 H locs hP hS hce hcv hcl => ?_)
  refine vx_catch (name := "java/lang/IllegalArgumentException") hown [(⟨0, 10, 13, 13⟩ : ExceptionTableEntry)] (⟨0, 10, 17, 15⟩ : ExceptionTableEntry) [] (htab.trans rfl) (fun z hz => by rw [List.mem_singleton] at hz; subst hz; exact Or.inr ⟨by decide, "java/lang/IndexOutOfBoundsException", hts (.classLink RL 13 "java/lang/IndexOutOfBoundsException") (by decide +kernel), hV.2.2 ("java/lang/IllegalArgumentException", "java/lang/IndexOutOfBoundsException") (by decide)⟩) (by decide) (by decide) (hts (.classLink RL 15 "java/lang/IllegalArgumentException") (by decide +kernel)) (q_xw_b hV _ (List.mem_of_getElem? (i := 0) rfl)) hce hcv hcl ?_
  refine lv_astore (lv' := [(4, .ref q9), (0, .ref x), (1, .int (nI a)), (2, .int g), (3, .ref ou)]) hx hb dL_arm_17 hl (by decide) rfl (fun ls hl => ?_)
  refine lv_iconst (v := nI 2) hx hb dL_arm_19 (by decide) ?_
  exact q_iret1 hx hb hr hlocks (w1 := List.flatten [wU C ou x0, wF C x nw tr hq iq tt sc ba z b b2 ph r n t f v o y cd]) hP hS rfl dL_arm_20 ⟨rfl, rfl⟩
set_option maxHeartbeats 4000000 in
set_option maxRecDepth 100000 in
theorem W1_count (l : Launch) (hl0 : l.stackTraces = false) (C : q_C) (x : Nat) (y : Int32) (nw : Nat → Nat) (tr : Nat → Nat) (hq : Nat → Nat) (iq : Nat → Nat) (tt : Nat → Nat) (sc : Nat) (ba : Nat → Nat → Nat) (z : Nat → Int) (b : Bd) (b2 : Bd) (r : Nat) (n : Nat) (ph : Nat → Bd) (t : Nat → Nat) (f : Nat → Nat) (v : Nat → Nat) (o : Nat → Nat) (y9 : Nat) (cd : Nat → Nat) (ou : Nat) (x0 : Int64) (hxx : decide (nI 0 ≤ y ∧ y ≤ nI 3) = false) : q_M1 C l yL_count wsL_count 7 103 [.ref x, .int y, .ref ou] (List.flatten [wU C ou x0, wF C x nw tr hq iq tt sc ba z b b2 ph r n t f v o y9 cd]) (fun r2 w => r2 = some (.int (nI 1)) ∧ w = List.flatten [wU C ou x0, wF C x nw tr hq iq tt sc ba z b b2 ph r n t f v o y9 cd]) := by
  refine q_headW1 (cc := cL_count) (maxL := 4) (ret := (some .int)) (by decide +kernel) rfl (Nat.le_of_ble_eq_true rfl) ?_
  intro p e s m below meth c hx hb hr hlocks hml hown hts hK hV hE hP hD hS hA htab ls hl
  have hl : lv_has ls 4 [(0, .ref x), (1, .int y), (2, .ref ou)] := hl
  refine lv_aload_n hx hb dL_count_0 rfl (lv_at hl 2 rfl) ?_
  refine lv_iconst (v := nI 0) hx hb dL_count_1 (by decide) ?_
  refine lv_aload_n hx hb dL_count_2 rfl (lv_at hl 0 rfl) ?_
  refine lv_iload_n hx hb dL_count_3 rfl (lv_at hl 1 rfl) ?_
  refine q_TV (X := List.flatten [wU C ou x0, wF C x nw tr hq iq tt sc ba z b b2 ph r n t f v o y9 cd]) (As := [.int y]) (rest := [.int (nI 0), .ref ou]) ⟨hx, hb, hml, hown, hts⟩ (t1_X4_count l hl0 C x y hxx) (cwV 1 hts gL_count_X4_count rfl rfl rfl (by decide +kernel) ⟨Nat.le_of_ble_eq_true rfl, Nat.le_of_ble_eq_true rfl⟩) hK hV hE hP hD hS hA [] (by decide) rfl 1 rfl rfl rfl rfl hl.1 rfl (Nat.le_of_ble_eq_true rfl) dL_count_4 (Nat.le_of_ble_eq_true rfl) (Nat.le_of_ble_eq_true rfl) (fun ce q9 H locs hP hS hce hcv hcl => ?_)
  refine vx_catch (name := "java/lang/IllegalArgumentException") hown [] (⟨0, 9, 12, 15⟩ : ExceptionTableEntry) [] (htab.trans rfl) (fun z hz => nomatch hz) (by decide) (by decide) (hts (.classLink RL 15 "java/lang/IllegalArgumentException") (by decide +kernel)) (q_xw_b hV _ (List.mem_of_getElem? (i := 0) rfl)) hce hcv hcl ?_
  refine lv_astore_n (lv' := [(3, .ref q9), (0, .ref x), (1, .int y), (2, .ref ou)]) hx hb dL_count_12 rfl hl (by decide) rfl (fun ls hl => ?_)
  refine lv_iconst (v := nI 1) hx hb dL_count_13 (by decide) ?_
  exact q_iret1 hx hb hr hlocks (w1 := List.flatten [wU C ou x0, wF C x nw tr hq iq tt sc ba z b b2 ph r n t f v o y9 cd]) hP hS rfl dL_count_14 ⟨rfl, rfl⟩
set_option maxHeartbeats 4000000 in
set_option maxRecDepth 100000 in
theorem W1_sum (l : Launch) (hl0 : l.stackTraces = false) (C : q_C) (x : Nat) (y : Int32) (nw : Nat → Nat) (tr : Nat → Nat) (hq : Nat → Nat) (iq : Nat → Nat) (tt : Nat → Nat) (sc : Nat) (ba : Nat → Nat → Nat) (z : Nat → Int) (b : Bd) (b2 : Bd) (r : Nat) (n : Nat) (ph : Nat → Bd) (t : Nat → Nat) (f : Nat → Nat) (v : Nat → Nat) (o : Nat → Nat) (y9 : Nat) (cd : Nat → Nat) (ou : Nat) (x0 : Int64) (hxx : decide (nI 0 ≤ y ∧ y ≤ nI 2) = false) : q_M1 C l yL_sum wsL_sum 7 103 [.ref x, .int y, .ref ou] (List.flatten [wU C ou x0, wF C x nw tr hq iq tt sc ba z b b2 ph r n t f v o y9 cd]) (fun r2 w => r2 = some (.int (nI 1)) ∧ w = List.flatten [wU C ou x0, wF C x nw tr hq iq tt sc ba z b b2 ph r n t f v o y9 cd]) := by
  refine q_headW1 (cc := cL_sum) (maxL := 4) (ret := (some .int)) (by decide +kernel) rfl (Nat.le_of_ble_eq_true rfl) ?_
  intro p e s m below meth c hx hb hr hlocks hml hown hts hK hV hE hP hD hS hA htab ls hl
  have hl : lv_has ls 4 [(0, .ref x), (1, .int y), (2, .ref ou)] := hl
  refine lv_aload_n hx hb dL_sum_0 rfl (lv_at hl 2 rfl) ?_
  refine lv_iconst (v := nI 0) hx hb dL_sum_1 (by decide) ?_
  refine lv_aload_n hx hb dL_sum_2 rfl (lv_at hl 0 rfl) ?_
  refine lv_iload_n hx hb dL_sum_3 rfl (lv_at hl 1 rfl) ?_
  refine q_TV (X := List.flatten [wU C ou x0, wF C x nw tr hq iq tt sc ba z b b2 ph r n t f v o y9 cd]) (As := [.int y]) (rest := [.int (nI 0), .ref ou]) ⟨hx, hb, hml, hown, hts⟩ (t1_X4_sum l hl0 C x y hxx) (cwV 1 hts gL_sum_X4_sum rfl rfl rfl (by decide +kernel) ⟨Nat.le_of_ble_eq_true rfl, Nat.le_of_ble_eq_true rfl⟩) hK hV hE hP hD hS hA [] (by decide) rfl 1 rfl rfl rfl rfl hl.1 rfl (Nat.le_of_ble_eq_true rfl) dL_sum_4 (Nat.le_of_ble_eq_true rfl) (Nat.le_of_ble_eq_true rfl) (fun ce q9 H locs hP hS hce hcv hcl => ?_)
  refine vx_catch (name := "java/lang/IllegalArgumentException") hown [] (⟨0, 8, 11, 15⟩ : ExceptionTableEntry) [] (htab.trans rfl) (fun z hz => nomatch hz) (by decide) (by decide) (hts (.classLink RL 15 "java/lang/IllegalArgumentException") (by decide +kernel)) (q_xw_b hV _ (List.mem_of_getElem? (i := 0) rfl)) hce hcv hcl ?_
  refine lv_astore_n (lv' := [(3, .ref q9), (0, .ref x), (1, .int y), (2, .ref ou)]) hx hb dL_sum_11 rfl hl (by decide) rfl (fun ls hl => ?_)
  refine lv_iconst (v := nI 1) hx hb dL_sum_12 (by decide) ?_
  exact q_iret1 hx hb hr hlocks (w1 := List.flatten [wU C ou x0, wF C x nw tr hq iq tt sc ba z b b2 ph r n t f v o y9 cd]) hP hS rfl dL_sum_13 ⟨rfl, rfl⟩
set_option maxHeartbeats 4000000 in
set_option maxRecDepth 100000 in
theorem W1_setting (l : Launch) (hl0 : l.stackTraces = false) (C : q_C) (x : Nat) (y : Int32) (nw : Nat → Nat) (tr : Nat → Nat) (hq : Nat → Nat) (iq : Nat → Nat) (tt : Nat → Nat) (sc : Nat) (ba : Nat → Nat → Nat) (z : Nat → Int) (b : Bd) (b2 : Bd) (r : Nat) (n : Nat) (ph : Nat → Bd) (t : Nat → Nat) (f : Nat → Nat) (v : Nat → Nat) (o : Nat → Nat) (y9 : Nat) (cd : Nat → Nat) (ou : Nat) (x0 : Int64) (hxx : decide (nI 0 ≤ y ∧ y ≤ nI 3) = false) : q_M1 C l yL_setting wsL_setting 8 123 [.ref x, .int y, .ref ou] (List.flatten [wU C ou x0, wF C x nw tr hq iq tt sc ba z b b2 ph r n t f v o y9 cd]) (fun r2 w => r2 = some (.int (nI 1)) ∧ w = List.flatten [wU C ou x0, wF C x nw tr hq iq tt sc ba z b b2 ph r n t f v o y9 cd]) := by
  refine q_headW1 (cc := cL_setting) (maxL := 4) (ret := (some .int)) (by decide +kernel) rfl (Nat.le_of_ble_eq_true rfl) ?_
  intro p e s m below meth c hx hb hr hlocks hml hown hts hK hV hE hP hD hS hA htab ls hl
  have hl : lv_has ls 4 [(0, .ref x), (1, .int y), (2, .ref ou)] := hl
  refine lv_aload_n hx hb dL_setting_0 rfl (lv_at hl 2 rfl) ?_
  refine lv_iconst (v := nI 0) hx hb dL_setting_1 (by decide) ?_
  refine lv_aload_n hx hb dL_setting_2 rfl (lv_at hl 0 rfl) ?_
  refine lv_iload_n hx hb dL_setting_3 rfl (lv_at hl 1 rfl) ?_
  refine q_TV (X := List.flatten [wU C ou x0, wF C x nw tr hq iq tt sc ba z b b2 ph r n t f v o y9 cd]) (As := [.int y]) (rest := [.int (nI 0), .ref ou]) ⟨hx, hb, hml, hown, hts⟩ (t1_X4_setting l hl0 C x y hxx) (cwV 1 hts gL_setting_X4_setting rfl rfl rfl (by decide +kernel) ⟨Nat.le_of_ble_eq_true rfl, Nat.le_of_ble_eq_true rfl⟩) hK hV hE hP hD hS hA [] (by decide) rfl 1 rfl rfl rfl rfl hl.1 rfl (Nat.le_of_ble_eq_true rfl) dL_setting_4 (Nat.le_of_ble_eq_true rfl) (Nat.le_of_ble_eq_true rfl) (fun ce q9 H locs hP hS hce hcv hcl => ?_)
  refine vx_catch (name := "java/lang/IndexOutOfBoundsException") hown [] (⟨0, 9, 12, 13⟩ : ExceptionTableEntry) [] (htab.trans rfl) (fun z hz => nomatch hz) (by decide) (by decide) (hts (.classLink RL 13 "java/lang/IndexOutOfBoundsException") (by decide +kernel)) (q_xw_b hV _ (List.mem_of_getElem? (i := 2) rfl)) hce hcv hcl ?_
  refine lv_astore_n (lv' := [(3, .ref q9), (0, .ref x), (1, .int y), (2, .ref ou)]) hx hb dL_setting_12 rfl hl (by decide) rfl (fun ls hl => ?_)
  refine lv_iconst (v := nI 1) hx hb dL_setting_13 (by decide) ?_
  exact q_iret1 hx hb hr hlocks (w1 := List.flatten [wU C ou x0, wF C x nw tr hq iq tt sc ba z b b2 ph r n t f v o y9 cd]) hP hS rfl dL_setting_14 ⟨rfl, rfl⟩
set_option maxHeartbeats 4000000 in
set_option maxRecDepth 100000 in
theorem W1_choice (l : Launch) (hl0 : l.stackTraces = false) (C : q_C) (x : Nat) (y : Int32) (nw : Nat → Nat) (tr : Nat → Nat) (hq : Nat → Nat) (iq : Nat → Nat) (tt : Nat → Nat) (sc : Nat) (ba : Nat → Nat → Nat) (z : Nat → Int) (b : Bd) (b2 : Bd) (r : Nat) (n : Nat) (ph : Nat → Bd) (t : Nat → Nat) (f : Nat → Nat) (v : Nat → Nat) (o : Nat → Nat) (y9 : Nat) (cd : Nat → Nat) (ou : Nat) (x0 : Int64) (hxx : decide (nI 0 ≤ y ∧ y ≤ nI 2) = false) : q_M1 C l yL_choice wsL_choice 8 123 [.ref x, .int y, .ref ou] (List.flatten [wU C ou x0, wF C x nw tr hq iq tt sc ba z b b2 ph r n t f v o y9 cd]) (fun r2 w => r2 = some (.int (nI 1)) ∧ w = List.flatten [wU C ou x0, wF C x nw tr hq iq tt sc ba z b b2 ph r n t f v o y9 cd]) := by
  refine q_headW1 (cc := cL_choice) (maxL := 4) (ret := (some .int)) (by decide +kernel) rfl (Nat.le_of_ble_eq_true rfl) ?_
  intro p e s m below meth c hx hb hr hlocks hml hown hts hK hV hE hP hD hS hA htab ls hl
  have hl : lv_has ls 4 [(0, .ref x), (1, .int y), (2, .ref ou)] := hl
  refine lv_aload_n hx hb dL_choice_0 rfl (lv_at hl 2 rfl) ?_
  refine lv_iconst (v := nI 0) hx hb dL_choice_1 (by decide) ?_
  refine lv_aload_n hx hb dL_choice_2 rfl (lv_at hl 0 rfl) ?_
  refine lv_iload_n hx hb dL_choice_3 rfl (lv_at hl 1 rfl) ?_
  refine q_TV (X := List.flatten [wU C ou x0, wF C x nw tr hq iq tt sc ba z b b2 ph r n t f v o y9 cd]) (As := [.int y]) (rest := [.int (nI 0), .ref ou]) ⟨hx, hb, hml, hown, hts⟩ (t1_X4_choice l hl0 C x y hxx) (cwV 1 hts gL_choice_X4_choice rfl rfl rfl (by decide +kernel) ⟨Nat.le_of_ble_eq_true rfl, Nat.le_of_ble_eq_true rfl⟩) hK hV hE hP hD hS hA [] (by decide) rfl 1 rfl rfl rfl rfl hl.1 rfl (Nat.le_of_ble_eq_true rfl) dL_choice_4 (Nat.le_of_ble_eq_true rfl) (Nat.le_of_ble_eq_true rfl) (fun ce q9 H locs hP hS hce hcv hcl => ?_)
  refine vx_catch (name := "java/lang/IllegalArgumentException") hown [] (⟨0, 9, 12, 15⟩ : ExceptionTableEntry) [] (htab.trans rfl) (fun z hz => nomatch hz) (by decide) (by decide) (hts (.classLink RL 15 "java/lang/IllegalArgumentException") (by decide +kernel)) (q_xw_b hV _ (List.mem_of_getElem? (i := 0) rfl)) hce hcv hcl ?_
  refine lv_astore_n (lv' := [(3, .ref q9), (0, .ref x), (1, .int y), (2, .ref ou)]) hx hb dL_choice_12 rfl hl (by decide) rfl (fun ls hl => ?_)
  refine lv_iconst (v := nI 1) hx hb dL_choice_13 (by decide) ?_
  exact q_iret1 hx hb hr hlocks (w1 := List.flatten [wU C ou x0, wF C x nw tr hq iq tt sc ba z b b2 ph r n t f v o y9 cd]) hP hS rfl dL_choice_14 ⟨rfl, rfl⟩
set_option maxHeartbeats 4000000 in
set_option maxRecDepth 100000 in
theorem W1a_ifPlayed (l : Launch) (hl0 : l.stackTraces = false) (C : q_C) (x : Nat) (y z : Int32) (nw : Nat → Nat) (tr : Nat → Nat) (hq : Nat → Nat) (iq : Nat → Nat) (tt : Nat → Nat) (sc : Nat) (ba : Nat → Nat → Nat) (z9 : Nat → Int) (b : Bd) (b2 : Bd) (r : Nat) (n : Nat) (ph : Nat → Bd) (t : Nat → Nat) (f : Nat → Nat) (v : Nat → Nat) (o : Nat → Nat) (y9 : Nat) (cd : Nat → Nat) (ou : Nat) (x0 : Int64) (hxx : decide (nI 0 ≤ y ∧ y ≤ nI 2) = false) : q_M1 C l yL_ifPlayed wsL_ifPlayed 8 124 [.ref x, .int y, .int z, .ref ou] (List.flatten [wU C ou x0, wF C x nw tr hq iq tt sc ba z9 b b2 ph r n t f v o y9 cd]) (fun r2 w => r2 = some (.int (nI 1)) ∧ w = List.flatten [wU C ou x0, wF C x nw tr hq iq tt sc ba z9 b b2 ph r n t f v o y9 cd]) := by
  refine q_headW1 (cc := cL_ifPlayed) (maxL := 5) (ret := (some .int)) (by decide +kernel) rfl (Nat.le_of_ble_eq_true rfl) ?_
  intro p e s m below meth c hx hb hr hlocks hml hown hts hK hV hE hP hD hS hA htab ls hl
  have hl : lv_has ls 5 [(0, .ref x), (1, .int y), (2, .int z), (3, .ref ou)] := hl
  refine lv_aload_n hx hb dL_ifPlayed_0 rfl (lv_at hl 3 rfl) ?_
  refine lv_iconst (v := nI 0) hx hb dL_ifPlayed_1 (by decide) ?_
  refine lv_aload_n hx hb dL_ifPlayed_2 rfl (lv_at hl 0 rfl) ?_
  refine lv_iload_n hx hb dL_ifPlayed_3 rfl (lv_at hl 1 rfl) ?_
  refine lv_iload_n hx hb dL_ifPlayed_4 rfl (lv_at hl 2 rfl) ?_
  refine q_TV (X := List.flatten [wU C ou x0, wF C x nw tr hq iq tt sc ba z9 b b2 ph r n t f v o y9 cd]) (As := [.int y, .int z]) (rest := [.int (nI 0), .ref ou]) ⟨hx, hb, hml, hown, hts⟩ (t1a_X4_ifPlayed l hl0 C x y z hxx) (cwV 2 hts gL_ifPlayed_X4_ifPlayed rfl rfl rfl (by decide +kernel) ⟨Nat.le_of_ble_eq_true rfl, Nat.le_of_ble_eq_true rfl⟩) hK hV hE hP hD hS hA [] (by decide) rfl 1 rfl rfl rfl rfl hl.1 rfl (Nat.le_of_ble_eq_true rfl) dL_ifPlayed_5 (Nat.le_of_ble_eq_true rfl) (Nat.le_of_ble_eq_true rfl) (fun ce q9 H locs hP hS hce hcv hcl => ?_)
  refine vx_catch (name := "java/lang/IllegalArgumentException") hown [] (⟨0, 9, 12, 15⟩ : ExceptionTableEntry) [] (htab.trans rfl) (fun z hz => nomatch hz) (by decide) (by decide) (hts (.classLink RL 15 "java/lang/IllegalArgumentException") (by decide +kernel)) (q_xw_b hV _ (List.mem_of_getElem? (i := 0) rfl)) hce hcv hcl ?_
  refine lv_astore (lv' := [(4, .ref q9), (0, .ref x), (1, .int y), (2, .int z), (3, .ref ou)]) hx hb dL_ifPlayed_12 hl (by decide) rfl (fun ls hl => ?_)
  refine lv_iconst (v := nI 1) hx hb dL_ifPlayed_14 (by decide) ?_
  exact q_iret1 hx hb hr hlocks (w1 := List.flatten [wU C ou x0, wF C x nw tr hq iq tt sc ba z9 b b2 ph r n t f v o y9 cd]) hP hS rfl dL_ifPlayed_15 ⟨rfl, rfl⟩
set_option maxHeartbeats 4000000 in
set_option maxRecDepth 100000 in
theorem W1b_ifPlayed (l : Launch) (hl0 : l.stackTraces = false) (C : q_C) (x : Nat) (rule : Nat) (z : Int32) (nw : Nat → Nat) (tr : Nat → Nat) (hq : Nat → Nat) (iq : Nat → Nat) (tt : Nat → Nat) (sc : Nat) (ba : Nat → Nat → Nat) (z9 : Nat → Int) (b : Bd) (b2 : Bd) (r : Nat) (n : Nat) (ph : Nat → Bd) (t : Nat → Nat) (f : Nat → Nat) (v : Nat → Nat) (o : Nat → Nat) (y : Nat) (cd : Nat → Nat) (ou : Nat) (x0 : Int64) (hr3 : rule < 3) (hxx : decide (nI 1 ≤ z ∧ z ≤ nI 99) = false) : q_M1 C l yL_ifPlayed wsL_ifPlayed 8 124 [.ref x, .int (nI rule), .int z, .ref ou] (List.flatten [wU C ou x0, wF C x nw tr hq iq tt sc ba z9 b b2 ph r n t f v o y cd]) (fun r2 w => r2 = some (.int (nI 1)) ∧ w = List.flatten [wU C ou x0, wF C x nw tr hq iq tt sc ba z9 b b2 ph r n t f v o y cd]) := by
  refine q_headW1 (cc := cL_ifPlayed) (maxL := 5) (ret := (some .int)) (by decide +kernel) rfl (Nat.le_of_ble_eq_true rfl) ?_
  intro p e s m below meth c hx hb hr hlocks hml hown hts hK hV hE hP hD hS hA htab ls hl
  have hl : lv_has ls 5 [(0, .ref x), (1, .int (nI rule)), (2, .int z), (3, .ref ou)] := hl
  refine lv_aload_n hx hb dL_ifPlayed_0 rfl (lv_at hl 3 rfl) ?_
  refine lv_iconst (v := nI 0) hx hb dL_ifPlayed_1 (by decide) ?_
  refine lv_aload_n hx hb dL_ifPlayed_2 rfl (lv_at hl 0 rfl) ?_
  refine lv_iload_n hx hb dL_ifPlayed_3 rfl (lv_at hl 1 rfl) ?_
  refine lv_iload_n hx hb dL_ifPlayed_4 rfl (lv_at hl 2 rfl) ?_
  refine q_TV (X := List.flatten [wU C ou x0, wF C x nw tr hq iq tt sc ba z9 b b2 ph r n t f v o y cd]) (As := [.int (nI rule), .int z]) (rest := [.int (nI 0), .ref ou]) ⟨hx, hb, hml, hown, hts⟩ (t1b_X4_ifPlayed l hl0 C x rule z hr3 hxx) (cwV 2 hts gL_ifPlayed_X4_ifPlayed rfl rfl rfl (by decide +kernel) ⟨Nat.le_of_ble_eq_true rfl, Nat.le_of_ble_eq_true rfl⟩) hK hV hE hP hD hS hA [] (by decide) rfl 1 rfl rfl rfl rfl hl.1 rfl (Nat.le_of_ble_eq_true rfl) dL_ifPlayed_5 (Nat.le_of_ble_eq_true rfl) (Nat.le_of_ble_eq_true rfl) (fun ce q9 H locs hP hS hce hcv hcl => ?_)
  refine vx_catch (name := "java/lang/IllegalArgumentException") hown [] (⟨0, 9, 12, 15⟩ : ExceptionTableEntry) [] (htab.trans rfl) (fun z hz => nomatch hz) (by decide) (by decide) (hts (.classLink RL 15 "java/lang/IllegalArgumentException") (by decide +kernel)) (q_xw_b hV _ (List.mem_of_getElem? (i := 0) rfl)) hce hcv hcl ?_
  refine lv_astore (lv' := [(4, .ref q9), (0, .ref x), (1, .int (nI rule)), (2, .int z), (3, .ref ou)]) hx hb dL_ifPlayed_12 hl (by decide) rfl (fun ls hl => ?_)
  refine lv_iconst (v := nI 1) hx hb dL_ifPlayed_14 (by decide) ?_
  exact q_iret1 hx hb hr hlocks (w1 := List.flatten [wU C ou x0, wF C x nw tr hq iq tt sc ba z9 b b2 ph r n t f v o y cd]) hP hS rfl dL_ifPlayed_15 ⟨rfl, rfl⟩
set_option maxHeartbeats 4000000 in
set_option maxRecDepth 100000 in
theorem W1_bestRule (l : Launch) (hl0 : l.stackTraces = false) (C : q_C) (x : Nat) (y : Int32) (nw : Nat → Nat) (tr : Nat → Nat) (hq : Nat → Nat) (iq : Nat → Nat) (tt : Nat → Nat) (sc : Nat) (ba : Nat → Nat → Nat) (z : Nat → Int) (b : Bd) (b2 : Bd) (r : Nat) (n : Nat) (ph : Nat → Bd) (t : Nat → Nat) (f : Nat → Nat) (v : Nat → Nat) (o : Nat → Nat) (y9 : Nat) (cd : Nat → Nat) (ou : Nat) (x0 : Int64) (hxx : decide (nI 1 ≤ y ∧ y ≤ nI 99) = false) : q_M1 C l yL_bestRule wsL_bestRule 8 129 [.ref x, .int y, .ref ou] (List.flatten [wU C ou x0, wF C x nw tr hq iq tt sc ba z b b2 ph r n t f v o y9 cd]) (fun r2 w => r2 = some (.int (nI 1)) ∧ w = List.flatten [wU C ou x0, wF C x nw tr hq iq tt sc ba z b b2 ph r n t f v o y9 cd]) := by
  refine q_headW1 (cc := cL_bestRule) (maxL := 4) (ret := (some .int)) (by decide +kernel) rfl (Nat.le_of_ble_eq_true rfl) ?_
  intro p e s m below meth c hx hb hr hlocks hml hown hts hK hV hE hP hD hS hA htab ls hl
  have hl : lv_has ls 4 [(0, .ref x), (1, .int y), (2, .ref ou)] := hl
  refine lv_aload_n hx hb dL_bestRule_0 rfl (lv_at hl 2 rfl) ?_
  refine lv_iconst (v := nI 0) hx hb dL_bestRule_1 (by decide) ?_
  refine lv_aload_n hx hb dL_bestRule_2 rfl (lv_at hl 0 rfl) ?_
  refine lv_iload_n hx hb dL_bestRule_3 rfl (lv_at hl 1 rfl) ?_
  refine q_TV (X := List.flatten [wU C ou x0, wF C x nw tr hq iq tt sc ba z b b2 ph r n t f v o y9 cd]) (As := [.int y]) (rest := [.int (nI 0), .ref ou]) ⟨hx, hb, hml, hown, hts⟩ (t1_X4_bestRule l hl0 C x y hxx) (cwV 1 hts gL_bestRule_X4_bestRule rfl rfl rfl (by decide +kernel) ⟨Nat.le_of_ble_eq_true rfl, Nat.le_of_ble_eq_true rfl⟩) hK hV hE hP hD hS hA [] (by decide) rfl 1 rfl rfl rfl rfl hl.1 rfl (Nat.le_of_ble_eq_true rfl) dL_bestRule_4 (Nat.le_of_ble_eq_true rfl) (Nat.le_of_ble_eq_true rfl) (fun ce q9 H locs hP hS hce hcv hcl => ?_)
  refine vx_catch (name := "java/lang/IllegalArgumentException") hown [] (⟨0, 9, 12, 15⟩ : ExceptionTableEntry) [] (htab.trans rfl) (fun z hz => nomatch hz) (by decide) (by decide) (hts (.classLink RL 15 "java/lang/IllegalArgumentException") (by decide +kernel)) (q_xw_b hV _ (List.mem_of_getElem? (i := 0) rfl)) hce hcv hcl ?_
  refine lv_astore_n (lv' := [(3, .ref q9), (0, .ref x), (1, .int y), (2, .ref ou)]) hx hb dL_bestRule_12 rfl hl (by decide) rfl (fun ls hl => ?_)
  refine lv_iconst (v := nI 1) hx hb dL_bestRule_13 (by decide) ?_
  exact q_iret1 hx hb hr hlocks (w1 := List.flatten [wU C ou x0, wF C x nw tr hq iq tt sc ba z b b2 ph r n t f v o y9 cd]) hP hS rfl dL_bestRule_14 ⟨rfl, rfl⟩
set_option maxHeartbeats 4000000 in
set_option maxRecDepth 100000 in
theorem W1_giftFor (l : Launch) (hl0 : l.stackTraces = false) (C : q_C) (x : Nat) (y z : Int32) (nw : Nat → Nat) (tr : Nat → Nat) (hq : Nat → Nat) (iq : Nat → Nat) (tt : Nat → Nat) (sc : Nat) (ba : Nat → Nat → Nat) (z9 : Nat → Int) (b : Bd) (b2 : Bd) (r : Nat) (n : Nat) (ph : Nat → Bd) (t : Nat → Nat) (f : Nat → Nat) (v : Nat → Nat) (o : Nat → Nat) (y9 : Nat) (cd : Nat → Nat) (ou : Nat) (x0 : Int64) (hxx : (decide (nI 0 ≤ y ∧ y ≤ nI 3) && decide (nI 0 ≤ z ∧ z ≤ nI 3)) = false) : q_M1 C l yL_giftFor wsL_giftFor 8 129 [.ref x, .int y, .int z, .ref ou] (List.flatten [wU C ou x0, wF C x nw tr hq iq tt sc ba z9 b b2 ph r n t f v o y9 cd]) (fun r2 w => r2 = some (.int (nI 1)) ∧ w = List.flatten [wU C ou x0, wF C x nw tr hq iq tt sc ba z9 b b2 ph r n t f v o y9 cd]) := by
  refine q_headW1 (cc := cL_giftFor) (maxL := 5) (ret := (some .int)) (by decide +kernel) rfl (Nat.le_of_ble_eq_true rfl) ?_
  intro p e s m below meth c hx hb hr hlocks hml hown hts hK hV hE hP hD hS hA htab ls hl
  have hl : lv_has ls 5 [(0, .ref x), (1, .int y), (2, .int z), (3, .ref ou)] := hl
  refine lv_aload_n hx hb dL_giftFor_0 rfl (lv_at hl 3 rfl) ?_
  refine lv_iconst (v := nI 0) hx hb dL_giftFor_1 (by decide) ?_
  refine lv_aload_n hx hb dL_giftFor_2 rfl (lv_at hl 0 rfl) ?_
  refine lv_iload_n hx hb dL_giftFor_3 rfl (lv_at hl 1 rfl) ?_
  refine lv_iload_n hx hb dL_giftFor_4 rfl (lv_at hl 2 rfl) ?_
  refine q_TV (X := List.flatten [wU C ou x0, wF C x nw tr hq iq tt sc ba z9 b b2 ph r n t f v o y9 cd]) (As := [.int y, .int z]) (rest := [.int (nI 0), .ref ou]) ⟨hx, hb, hml, hown, hts⟩ (t1_X4_giftFor l hl0 C x y z hxx) (cwV 2 hts gL_giftFor_X4_giftFor rfl rfl rfl (by decide +kernel) ⟨Nat.le_of_ble_eq_true rfl, Nat.le_of_ble_eq_true rfl⟩) hK hV hE hP hD hS hA [] (by decide) rfl 1 rfl rfl rfl rfl hl.1 rfl (Nat.le_of_ble_eq_true rfl) dL_giftFor_5 (Nat.le_of_ble_eq_true rfl) (Nat.le_of_ble_eq_true rfl) (fun ce q9 H locs hP hS hce hcv hcl => ?_)
  refine vx_catch (name := "java/lang/IndexOutOfBoundsException") hown [] (⟨0, 10, 13, 13⟩ : ExceptionTableEntry) [] (htab.trans rfl) (fun z hz => nomatch hz) (by decide) (by decide) (hts (.classLink RL 13 "java/lang/IndexOutOfBoundsException") (by decide +kernel)) (q_xw_b hV _ (List.mem_of_getElem? (i := 2) rfl)) hce hcv hcl ?_
  refine lv_astore (lv' := [(4, .ref q9), (0, .ref x), (1, .int y), (2, .int z), (3, .ref ou)]) hx hb dL_giftFor_13 hl (by decide) rfl (fun ls hl => ?_)
  refine lv_iconst (v := nI 1) hx hb dL_giftFor_15 (by decide) ?_
  exact q_iret1 hx hb hr hlocks (w1 := List.flatten [wU C ou x0, wF C x nw tr hq iq tt sc ba z9 b b2 ph r n t f v o y9 cd]) hP hS rfl dL_giftFor_16 ⟨rfl, rfl⟩
