/-! the law's wrappers, more of them -/
set_option maxHeartbeats 4000000 in
set_option maxRecDepth 100000 in
theorem W1_set (l : Launch) (hl0 : l.stackTraces = false) (C : q_C) (x : Nat) (y z : Int32) (nw : Nat → Nat) (tr : Nat → Nat) (hq : Nat → Nat) (iq : Nat → Nat) (tt : Nat → Nat) (sc : Nat) (ba : Nat → Nat → Nat) (z9 : Nat → Int) (b : Bd) (b2 : Bd) (r : Nat) (n : Nat) (ph : Nat → Bd) (t : Nat → Nat) (f : Nat → Nat) (v : Nat → Nat) (o : Nat → Nat) (y9 : Nat) (cd : Nat → Nat) (ou : Nat) (x0 : Int64) (hxx : decide (nI 0 ≤ y ∧ y ≤ nI 3) = false) : q_M1 C l yL_set wsL_set 8 125 [.ref x, .int y, .int z, .ref ou] (List.flatten [wU C ou x0, wF C x nw tr hq iq tt sc ba z9 b b2 ph r n t f v o y9 cd]) (fun r2 w => r2 = some (.int (nI 1)) ∧ w = List.flatten [wU C ou x0, wF C x nw tr hq iq tt sc ba z9 b b2 ph r n t f v o y9 cd]) := by
  refine q_headW1 (cc := cL_set) (maxL := 5) (ret := (some .int)) (by decide +kernel) rfl (Nat.le_of_ble_eq_true rfl) ?_
  intro p e s m below meth c hx hb hr hlocks hml hown hts hK hV hE hP hD hS hA htab ls hl
  have hl : lv_has ls 5 [(0, .ref x), (1, .int y), (2, .int z), (3, .ref ou)] := hl
  refine lv_aload_n hx hb dL_set_0 rfl (lv_at hl 3 rfl) ?_
  refine lv_iconst (v := nI 0) hx hb dL_set_1 (by decide) ?_
  refine lv_aload_n hx hb dL_set_2 rfl (lv_at hl 0 rfl) ?_
  refine lv_iload_n hx hb dL_set_3 rfl (lv_at hl 1 rfl) ?_
  refine lv_iload_n hx hb dL_set_4 rfl (lv_at hl 2 rfl) ?_
  refine q_TV (X := List.flatten [wU C ou x0, wF C x nw tr hq iq tt sc ba z9 b b2 ph r n t f v o y9 cd]) (As := [.int y, .int z]) (rest := [.int (nI 0), .ref ou]) ⟨hx, hb, hml, hown, hts⟩ (t1_X4_set l hl0 C x y z hxx) (cwV 2 hts gL_set_X4_set rfl rfl rfl (by decide +kernel) ⟨Nat.le_of_ble_eq_true rfl, Nat.le_of_ble_eq_true rfl⟩) hK hV hE hP hD hS hA [] (by decide) rfl 1 rfl rfl rfl rfl hl.1 rfl (Nat.le_of_ble_eq_true rfl) dL_set_5 (Nat.le_of_ble_eq_true rfl) (Nat.le_of_ble_eq_true rfl) (fun ce q9 H locs hP hS hce hcv hcl => ?_)
  refine vx_catch (name := "java/lang/IndexOutOfBoundsException") hown [] (⟨0, 10, 13, 13⟩ : ExceptionTableEntry) [(⟨0, 10, 17, 15⟩ : ExceptionTableEntry)] (htab.trans rfl) (fun z hz => nomatch hz) (by decide) (by decide) (hts (.classLink RL 13 "java/lang/IndexOutOfBoundsException") (by decide +kernel)) (q_xw_b hV _ (List.mem_of_getElem? (i := 2) rfl)) hce hcv hcl ?_
  refine lv_astore (lv' := [(4, .ref q9), (0, .ref x), (1, .int y), (2, .int z), (3, .ref ou)]) hx hb dL_set_13 hl (by decide) rfl (fun ls hl => ?_)
  refine lv_iconst (v := nI 1) hx hb dL_set_15 (by decide) ?_
  exact q_iret1 hx hb hr hlocks (w1 := List.flatten [wU C ou x0, wF C x nw tr hq iq tt sc ba z9 b b2 ph r n t f v o y9 cd]) hP hS rfl dL_set_16 ⟨rfl, rfl⟩
set_option maxHeartbeats 4000000 in
set_option maxRecDepth 100000 in
theorem W2_set (l : Launch) (hl0 : l.stackTraces = false) (C : q_C) (x : Nat) (k : Nat) (g : Int32) (nw : Nat → Nat) (tr : Nat → Nat) (hq : Nat → Nat) (iq : Nat → Nat) (tt : Nat → Nat) (sc : Nat) (ba : Nat → Nat → Nat) (z : Nat → Int) (b : Bd) (b2 : Bd) (r : Nat) (n : Nat) (ph : Nat → Bd) (t : Nat → Nat) (f : Nat → Nat) (v : Nat → Nat) (o : Nat → Nat) (y : Nat) (cd : Nat → Nat) (ou : Nat) (x0 : Int64) (hk : k < 4) (hxx : decide (nI (leS k) ≤ g ∧ g ≤ nI (grS k)) = false) : q_M1 C l yL_set wsL_set 7 105 [.ref x, .int (nI k), .int g, .ref ou] (List.flatten [wU C ou x0, wF C x nw tr hq iq tt sc ba z b b2 ph r n t f v o y cd]) (fun r2 w => r2 = some (.int (nI 2)) ∧ w = List.flatten [wU C ou x0, wF C x nw tr hq iq tt sc ba z b b2 ph r n t f v o y cd]) := by
  refine q_headW1 (cc := cL_set) (maxL := 5) (ret := (some .int)) (by decide +kernel) rfl (Nat.le_of_ble_eq_true rfl) ?_
  intro p e s m below meth c hx hb hr hlocks hml hown hts hK hV hE hP hD hS hA htab ls hl
  have hl : lv_has ls 5 [(0, .ref x), (1, .int (nI k)), (2, .int g), (3, .ref ou)] := hl
  refine lv_aload_n hx hb dL_set_0 rfl (lv_at hl 3 rfl) ?_
  refine lv_iconst (v := nI 0) hx hb dL_set_1 (by decide) ?_
  refine lv_aload_n hx hb dL_set_2 rfl (lv_at hl 0 rfl) ?_
  refine lv_iload_n hx hb dL_set_3 rfl (lv_at hl 1 rfl) ?_
  refine lv_iload_n hx hb dL_set_4 rfl (lv_at hl 2 rfl) ?_
  refine q_TV (X := List.flatten [wU C ou x0, wF C x nw tr hq iq tt sc ba z b b2 ph r n t f v o y cd]) (As := [.int (nI k), .int g]) (rest := [.int (nI 0), .ref ou]) ⟨hx, hb, hml, hown, hts⟩ (t2_X4_set l hl0 C x k g hk hxx) (cwV 2 hts gL_set_X4_set rfl rfl rfl (by decide +kernel) ⟨Nat.le_of_ble_eq_true rfl, Nat.le_of_ble_eq_true rfl⟩) hK hV hE hP hD hS hA [] (by decide) rfl 1 rfl rfl rfl rfl hl.1 rfl (Nat.le_of_ble_eq_true rfl) dL_set_5 (Nat.le_of_ble_eq_true rfl) (Nat.le_of_ble_eq_true rfl) (fun ce q9 H locs hP hS hce hcv hcl => ?_)
  refine vx_catch (name := "java/lang/IllegalArgumentException") hown [(⟨0, 10, 13, 13⟩ : ExceptionTableEntry)] (⟨0, 10, 17, 15⟩ : ExceptionTableEntry) [] (htab.trans rfl) (fun z hz => by rw [List.mem_singleton] at hz; subst hz; exact Or.inr ⟨by decide, "java/lang/IndexOutOfBoundsException", hts (.classLink RL 13 "java/lang/IndexOutOfBoundsException") (by decide +kernel), hV.2.2 ("java/lang/IllegalArgumentException", "java/lang/IndexOutOfBoundsException") (by decide)⟩) (by decide) (by decide) (hts (.classLink RL 15 "java/lang/IllegalArgumentException") (by decide +kernel)) (q_xw_b hV _ (List.mem_of_getElem? (i := 0) rfl)) hce hcv hcl ?_
  refine lv_astore (lv' := [(4, .ref q9), (0, .ref x), (1, .int (nI k)), (2, .int g), (3, .ref ou)]) hx hb dL_set_17 hl (by decide) rfl (fun ls hl => ?_)
  refine lv_iconst (v := nI 2) hx hb dL_set_19 (by decide) ?_
  exact q_iret1 hx hb hr hlocks (w1 := List.flatten [wU C ou x0, wF C x nw tr hq iq tt sc ba z b b2 ph r n t f v o y cd]) hP hS rfl dL_set_20 ⟨rfl, rfl⟩
