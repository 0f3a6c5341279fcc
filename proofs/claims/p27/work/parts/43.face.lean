/-! the class's face, where it returns -/
/-- the indices that are marked as fresh are the board's -/
def frB (b : Bd) (t f : Nat → Nat) : Prop := (∀ k, k < 4 → f k ≠ 0 → ∀ s, s < 4 → t (4 * k + s) = idxN b k s) ∧ ∀ k, k < 4 → f k ≤ 1
/-- sc, where that name is a row's -/
abbrev setC (b : Bd) (v : Nat → Nat) : Bd := sc b v
theorem frB_1 (b : Bd) : frB b (idxT b) (fun _ => 1) := ⟨fun k _ _ _ hs => idxT_at b k hs, fun _ _ => Nat.le_refl 1⟩
set_option maxHeartbeats 4000000 in
set_option maxRecDepth 100000 in
theorem c_X4_needState (l : Launch) (C : q_C) (a t : Nat) (ha : a < 4) (ht : t < 4) : q_M C l yX4_needState wsX4_needState 1 22 [.int (nI a), .int (nI t)] (([] : va_W)) (fun r w => r = none ∧ w = []) := by
  refine q_head (cc := cX4_needState) (maxL := 2) (ret := none) (by decide +kernel) rfl (Nat.le_of_ble_eq_true rfl) ?_
  intro p e s m below meth c hx hb hr hlocks hml hown hts hK hP hD hS hA ls hl
  have hl : lv_has ls 2 [(0, .int (nI a)), (1, .int (nI t))] := hl
  refine lv_iload_n hx hb dX4_needState_0 rfl (lv_at hl 0 rfl) ?_
  refine lv_iconst (v := nI 0) hx hb dX4_needState_1 (by decide) ?_
  refine lv_iconst (v := nI 3) hx hb dX4_needState_2 (by decide) ?_
  refine q_S (As := [.int (nI a), .int (nI 0), .int (nI 3)]) (rest := []) ⟨hx, hb, hml, hown, hts⟩ (c_isWithinN l C a 0 3 (by omega) (by decide) (by decide)) (va_cwS 3 hts gX4_needState_X4_isWithin rfl rfl rfl (by decide +kernel) ⟨Nat.le_of_ble_eq_true rfl, Nat.le_of_ble_eq_true rfl⟩) hK hP hD hS hA [] (by decide) rfl rfl hl.1 rfl (Nat.le_of_ble_eq_true rfl) dX4_needState_3 (Nat.zero_le _) (Nat.zero_le _) (fun r w1 H locs hQ hP hD hS => ?_)
  obtain ⟨rfl, rfl⟩ := hQ
  refine W.eq (g2 := F0 m 6 ls [.int (q_b (decide (0 ≤ a ∧ a ≤ 3)))]) rfl ?_
  refine lv_if_eq (tgt := 18) hx hb dX4_needState_6 (by decide) (fun c6 => ?_) (fun c6 => ?_)
  · have c6 : decide (0 ≤ a ∧ a ≤ 3) = false := q_b0.mp c6
    exact absurd (show _ ∧ _ from ⟨by omega, by omega⟩) (of_decide_eq_false c6)
  have c6 : decide (0 ≤ a ∧ a ≤ 3) = true := q_b1.mp c6
  refine lv_iload_n hx hb dX4_needState_9 rfl (lv_at hl 1 rfl) ?_
  refine lv_iconst (v := nI 0) hx hb dX4_needState_10 (by decide) ?_
  refine lv_iconst (v := nI 3) hx hb dX4_needState_11 (by decide) ?_
  refine q_S (As := [.int (nI t), .int (nI 0), .int (nI 3)]) (rest := []) ⟨hx, hb, hml, hown, hts⟩ (c_isWithinN l C t 0 3 (by omega) (by decide) (by decide)) (va_cwS 3 hts gX4_needState_X4_isWithin rfl rfl rfl (by decide +kernel) ⟨Nat.le_of_ble_eq_true rfl, Nat.le_of_ble_eq_true rfl⟩) hK hP hD hS hA [] (by decide) rfl rfl hl.1 rfl (Nat.le_of_ble_eq_true rfl) dX4_needState_12 (Nat.zero_le _) (Nat.zero_le _) (fun r w1 H locs hQ hP hD hS => ?_)
  obtain ⟨rfl, rfl⟩ := hQ
  refine W.eq (g2 := F0 m 15 ls [.int (q_b (decide (0 ≤ t ∧ t ≤ 3)))]) rfl ?_
  refine lv_if_ne (tgt := 29) hx hb dX4_needState_15 (by decide) (fun c15 => ?_) (fun c15 => ?_)
  · have c15 : decide (0 ≤ t ∧ t ≤ 3) = true := q_b1.mp c15
    exact q_vret hx hb hr hlocks (w1 := ([] : va_W)) hP hS rfl dX4_needState_29 (⟨rfl, rfl⟩)
  · have c15 : decide (0 ≤ t ∧ t ≤ 3) = false := q_b0.mp c15
    exact absurd (show _ ∧ _ from ⟨by omega, by omega⟩) (of_decide_eq_false c15)
set_option maxHeartbeats 4000000 in
set_option maxRecDepth 100000 in
theorem c_X4_needArm (l : Launch) (C : q_C) (a : Nat) (ha : a < 4) : q_M C l yX4_needArm wsX4_needArm 1 22 [.int (nI a)] (([] : va_W)) (fun r w => r = none ∧ w = []) := by
  refine q_head (cc := cX4_needArm) (maxL := 1) (ret := none) (by decide +kernel) rfl (Nat.le_of_ble_eq_true rfl) ?_
  intro p e s m below meth c hx hb hr hlocks hml hown hts hK hP hD hS hA ls hl
  have hl : lv_has ls 1 [(0, .int (nI a))] := hl
  refine lv_iload_n hx hb dX4_needArm_0 rfl (lv_at hl 0 rfl) ?_
  refine lv_iconst (v := nI 0) hx hb dX4_needArm_1 (by decide) ?_
  refine lv_iconst (v := nI 3) hx hb dX4_needArm_2 (by decide) ?_
  refine q_S (As := [.int (nI a), .int (nI 0), .int (nI 3)]) (rest := []) ⟨hx, hb, hml, hown, hts⟩ (c_isWithinN l C a 0 3 (by omega) (by decide) (by decide)) (va_cwS 3 hts gX4_needArm_X4_isWithin rfl rfl rfl (by decide +kernel) ⟨Nat.le_of_ble_eq_true rfl, Nat.le_of_ble_eq_true rfl⟩) hK hP hD hS hA [] (by decide) rfl rfl hl.1 rfl (Nat.le_of_ble_eq_true rfl) dX4_needArm_3 (Nat.zero_le _) (Nat.zero_le _) (fun r w1 H locs hQ hP hD hS => ?_)
  obtain ⟨rfl, rfl⟩ := hQ
  refine W.eq (g2 := F0 m 6 ls [.int (q_b (decide (0 ≤ a ∧ a ≤ 3)))]) rfl ?_
  refine lv_if_ne (tgt := 20) hx hb dX4_needArm_6 (by decide) (fun c6 => ?_) (fun c6 => ?_)
  · have c6 : decide (0 ≤ a ∧ a ≤ 3) = true := q_b1.mp c6
    exact q_vret hx hb hr hlocks (w1 := ([] : va_W)) hP hS rfl dX4_needArm_20 (⟨rfl, rfl⟩)
  · have c6 : decide (0 ≤ a ∧ a ≤ 3) = false := q_b0.mp c6
    exact absurd (show _ ∧ _ from ⟨by omega, by omega⟩) (of_decide_eq_false c6)
set_option maxHeartbeats 4000000 in
set_option maxRecDepth 100000 in
theorem c_X4_needSetting (l : Launch) (C : q_C) (a : Nat) (ha : a < 4) : q_M C l yX4_needSetting wsX4_needSetting 1 22 [.int (nI a)] (([] : va_W)) (fun r w => r = none ∧ w = []) := by
  refine q_head (cc := cX4_needSetting) (maxL := 1) (ret := none) (by decide +kernel) rfl (Nat.le_of_ble_eq_true rfl) ?_
  intro p e s m below meth c hx hb hr hlocks hml hown hts hK hP hD hS hA ls hl
  have hl : lv_has ls 1 [(0, .int (nI a))] := hl
  refine lv_iload_n hx hb dX4_needSetting_0 rfl (lv_at hl 0 rfl) ?_
  refine lv_iconst (v := nI 0) hx hb dX4_needSetting_1 (by decide) ?_
  refine lv_iconst (v := nI 3) hx hb dX4_needSetting_2 (by decide) ?_
  refine q_S (As := [.int (nI a), .int (nI 0), .int (nI 3)]) (rest := []) ⟨hx, hb, hml, hown, hts⟩ (c_isWithinN l C a 0 3 (by omega) (by decide) (by decide)) (va_cwS 3 hts gX4_needSetting_X4_isWithin rfl rfl rfl (by decide +kernel) ⟨Nat.le_of_ble_eq_true rfl, Nat.le_of_ble_eq_true rfl⟩) hK hP hD hS hA [] (by decide) rfl rfl hl.1 rfl (Nat.le_of_ble_eq_true rfl) dX4_needSetting_3 (Nat.zero_le _) (Nat.zero_le _) (fun r w1 H locs hQ hP hD hS => ?_)
  obtain ⟨rfl, rfl⟩ := hQ
  refine W.eq (g2 := F0 m 6 ls [.int (q_b (decide (0 ≤ a ∧ a ≤ 3)))]) rfl ?_
  refine lv_if_ne (tgt := 20) hx hb dX4_needSetting_6 (by decide) (fun c6 => ?_) (fun c6 => ?_)
  · have c6 : decide (0 ≤ a ∧ a ≤ 3) = true := q_b1.mp c6
    exact q_vret hx hb hr hlocks (w1 := ([] : va_W)) hP hS rfl dX4_needSetting_20 (⟨rfl, rfl⟩)
  · have c6 : decide (0 ≤ a ∧ a ≤ 3) = false := q_b0.mp c6
    exact absurd (show _ ∧ _ from ⟨by omega, by omega⟩) (of_decide_eq_false c6)
set_option maxHeartbeats 4000000 in
set_option maxRecDepth 100000 in
theorem c_X4_needRule (l : Launch) (C : q_C) (a : Nat) (ha : a < 3) : q_M C l yX4_needRule wsX4_needRule 1 22 [.int (nI a)] (([] : va_W)) (fun r w => r = none ∧ w = []) := by
  refine q_head (cc := cX4_needRule) (maxL := 1) (ret := none) (by decide +kernel) rfl (Nat.le_of_ble_eq_true rfl) ?_
  intro p e s m below meth c hx hb hr hlocks hml hown hts hK hP hD hS hA ls hl
  have hl : lv_has ls 1 [(0, .int (nI a))] := hl
  refine lv_iload_n hx hb dX4_needRule_0 rfl (lv_at hl 0 rfl) ?_
  refine lv_iconst (v := nI 0) hx hb dX4_needRule_1 (by decide) ?_
  refine lv_iconst (v := nI 2) hx hb dX4_needRule_2 (by decide) ?_
  refine q_S (As := [.int (nI a), .int (nI 0), .int (nI 2)]) (rest := []) ⟨hx, hb, hml, hown, hts⟩ (c_isWithinN l C a 0 2 (by omega) (by decide) (by decide)) (va_cwS 3 hts gX4_needRule_X4_isWithin rfl rfl rfl (by decide +kernel) ⟨Nat.le_of_ble_eq_true rfl, Nat.le_of_ble_eq_true rfl⟩) hK hP hD hS hA [] (by decide) rfl rfl hl.1 rfl (Nat.le_of_ble_eq_true rfl) dX4_needRule_3 (Nat.zero_le _) (Nat.zero_le _) (fun r w1 H locs hQ hP hD hS => ?_)
  obtain ⟨rfl, rfl⟩ := hQ
  refine W.eq (g2 := F0 m 6 ls [.int (q_b (decide (0 ≤ a ∧ a ≤ 2)))]) rfl ?_
  refine lv_if_ne (tgt := 20) hx hb dX4_needRule_6 (by decide) (fun c6 => ?_) (fun c6 => ?_)
  · have c6 : decide (0 ≤ a ∧ a ≤ 2) = true := q_b1.mp c6
    exact q_vret hx hb hr hlocks (w1 := ([] : va_W)) hP hS rfl dX4_needRule_20 (⟨rfl, rfl⟩)
  · have c6 : decide (0 ≤ a ∧ a ≤ 2) = false := q_b0.mp c6
    exact absurd (show _ ∧ _ from ⟨by omega, by omega⟩) (of_decide_eq_false c6)
set_option maxHeartbeats 4000000 in
set_option maxRecDepth 100000 in
theorem c_X4_needPulls (l : Launch) (C : q_C) (a : Nat) (h1 : 1 ≤ a) (h2 : a ≤ 99) : q_M C l yX4_needPulls wsX4_needPulls 1 22 [.int (nI a)] (([] : va_W)) (fun r w => r = none ∧ w = []) := by
  refine q_head (cc := cX4_needPulls) (maxL := 1) (ret := none) (by decide +kernel) rfl (Nat.le_of_ble_eq_true rfl) ?_
  intro p e s m below meth c hx hb hr hlocks hml hown hts hK hP hD hS hA ls hl
  have hl : lv_has ls 1 [(0, .int (nI a))] := hl
  refine lv_iload_n hx hb dX4_needPulls_0 rfl (lv_at hl 0 rfl) ?_
  refine lv_iconst (v := nI 1) hx hb dX4_needPulls_1 (by decide) ?_
  refine lv_bipush (v := nI 99) hx hb dX4_needPulls_2 (by decide) ?_
  refine q_S (As := [.int (nI a), .int (nI 1), .int (nI 99)]) (rest := []) ⟨hx, hb, hml, hown, hts⟩ (c_isWithinN l C a 1 99 (by omega) (by decide) (by decide)) (va_cwS 3 hts gX4_needPulls_X4_isWithin rfl rfl rfl (by decide +kernel) ⟨Nat.le_of_ble_eq_true rfl, Nat.le_of_ble_eq_true rfl⟩) hK hP hD hS hA [] (by decide) rfl rfl hl.1 rfl (Nat.le_of_ble_eq_true rfl) dX4_needPulls_4 (Nat.zero_le _) (Nat.zero_le _) (fun r w1 H locs hQ hP hD hS => ?_)
  obtain ⟨rfl, rfl⟩ := hQ
  refine W.eq (g2 := F0 m 7 ls [.int (q_b (decide (1 ≤ a ∧ a ≤ 99)))]) rfl ?_
  refine lv_if_ne (tgt := 21) hx hb dX4_needPulls_7 (by decide) (fun c7 => ?_) (fun c7 => ?_)
  · have c7 : decide (1 ≤ a ∧ a ≤ 99) = true := q_b1.mp c7
    exact q_vret hx hb hr hlocks (w1 := ([] : va_W)) hP hS rfl dX4_needPulls_21 (⟨rfl, rfl⟩)
  · have c7 : decide (1 ≤ a ∧ a ≤ 99) = false := q_b0.mp c7
    exact absurd (show _ ∧ _ from ⟨by omega, by omega⟩) (of_decide_eq_false c7)
set_option maxHeartbeats 4000000 in
set_option maxRecDepth 100000 in
theorem c_X4_gift (l : Launch) (C : q_C) (x : Nat) (nw tr hq iq tt : Nat → Nat) (sc : Nat) (z : Nat → Int) (ba : Nat → Nat → Nat) (ph : Nat → Bd) (r n : Nat) (b : Bd) (t f v o : Nat → Nat) (a t0 g : Nat) (hr6 : r < 6) (hn6 : n ≤ 6) (ha : a < 4) (ht : t0 < 4) (hg : g ≤ 99) : q_M C l yX4_gift wsX4_gift 3 83 [.ref x, .int (nI a), .int (nI t0), .int (nI g)] (List.flatten [wA C x nw tr hq iq tt sc z, wB C nw b, wHa C hq ba r n, wB C (ba 0) (ph 0), wB C (ba 1) (ph 1), wB C (ba 2) (ph 2), wB C (ba 3) (ph 3), wB C (ba 4) (ph 4), wB C (ba 5) (ph 5), wX C iq t f v o]) (fun r2 w => r2 = some (.int (nI (bg b (4 * a + t0)))) ∧ w = List.flatten [wA C x nw tr hq iq tt sc z, wB C nw (sg b (upN (bg b) (4 * a + t0) g)), wHa C hq ba (kR n r) (kC n), wB C (ba 0) (upB ph (kJ n r) b 0), wB C (ba 1) (upB ph (kJ n r) b 1), wB C (ba 2) (upB ph (kJ n r) b 2), wB C (ba 3) (upB ph (kJ n r) b 3), wB C (ba 4) (upB ph (kJ n r) b 4), wB C (ba 5) (upB ph (kJ n r) b 5), wX C iq t (upN f a 0) v o]) := by
  refine q_head (cc := cX4_gift) (maxL := 6) (ret := (some .int)) (by decide +kernel) rfl (Nat.le_of_ble_eq_true rfl) ?_
  intro p e s m below meth c hx hb hr hlocks hml hown hts hK hP hD hS hA ls hl
  have hl : lv_has ls 6 [(0, .ref x), (1, .int (nI a)), (2, .int (nI t0)), (3, .int (nI g))] := hl
  have hf10 := hts (.fieldLink RX4 10 "RestedArms" "now" "LRestedArms$Board;") (by decide +kernel)
  have hf22 := hts (.fieldLink RX4 22 "RestedArms" "history" "LRestedArms$History;") (by decide +kernel)
  have hf29 := hts (.fieldLink RX4 29 "RestedArms" "indices" "LRestedArms$Indices;") (by decide +kernel)
  have hf67 := hts (.fieldLink RX4 67 "RestedArms$Board" "gifts" "[I") (by decide +kernel)
  have hin0 : ∀ w ∈ u_ws RX0 TX0 12, w ∈ wsX4_gift := by decide +kernel
  have hin4 : ∀ w ∈ u_ws RX4 TX4 6, w ∈ wsX4_gift := by decide +kernel
  refine lv_iload_n hx hb dX4_gift_0 rfl (lv_at hl 1 rfl) ?_
  refine lv_iload_n hx hb dX4_gift_1 rfl (lv_at hl 2 rfl) ?_
  refine q_S0 (As := [.int (nI a), .int (nI t0)]) (rest := []) ⟨hx, hb, hml, hown, hts⟩ (c_X4_needState l C a t0 (by omega) (by omega)) (va_cwS 2 hts gX4_gift_X4_needState rfl rfl rfl (by decide +kernel) ⟨Nat.le_of_ble_eq_true rfl, Nat.le_of_ble_eq_true rfl⟩) hK hP hD hS hA [] (by decide) rfl rfl hl.1 rfl (Nat.le_of_ble_eq_true rfl) dX4_gift_2 (Nat.zero_le _) (Nat.zero_le _) (fun H locs hP hS => ?_)
  refine W.eq (g2 := F0 m 5 ls []) rfl ?_
  refine lv_iload_n hx hb dX4_gift_5 rfl (lv_at hl 3 rfl) ?_
  refine lv_iconst (v := nI 0) hx hb dX4_gift_6 (by decide) ?_
  refine lv_bipush (v := nI 99) hx hb dX4_gift_7 (by decide) ?_
  refine q_S0 (As := [.int (nI g), .int (nI 0), .int (nI 99)]) (rest := []) ⟨hx, hb, hml, hown, hts⟩ (c_isWithinN l C g 0 99 (by omega) (by decide) (by decide)) (va_cwS 3 hts gX4_gift_X4_isWithin rfl rfl rfl (by decide +kernel) ⟨Nat.le_of_ble_eq_true rfl, Nat.le_of_ble_eq_true rfl⟩) hK hP hD hS hA [] (by decide) rfl rfl hl.1 rfl (Nat.le_of_ble_eq_true rfl) dX4_gift_9 (Nat.zero_le _) (Nat.zero_le _) (fun H locs hP hS => ?_)
  refine W.eq (g2 := F0 m 12 ls [.int (q_b (decide (0 ≤ g ∧ g ≤ 99)))]) rfl ?_
  refine lv_if_ne (tgt := 25) hx hb dX4_gift_12 (by decide) (fun c12 => ?_) (fun c12 => ?_)
  · have c12 : decide (0 ≤ g ∧ g ≤ 99) = true := q_b1.mp c12
    refine lv_aload_n hx hb dX4_gift_25 rfl (lv_at hl 0 rfl) ?_
    refine va_get (ci := 4) (v := .ref (hq 0)) (C := RX4) (T := TX4) (N := 6) hx hb hts hin4 hown hK.1 hP 0 rfl rfl 2 (by decide) hf22 (fun _ h9 => h9) rfl dX4_gift_26 ?_
    refine lv_aload_n hx hb dX4_gift_29 rfl (lv_at hl 0 rfl) ?_
    refine va_get (ci := 4) (v := .ref (nw 0)) (C := RX4) (T := TX4) (N := 6) hx hb hts hin4 hown hK.1 hP 0 rfl rfl 0 (by decide) hf10 (fun _ h9 => h9) rfl dX4_gift_30 ?_
    refine q_VB (cs := [wHa C hq ba r n, wB C (ba 0) (ph 0), wB C (ba 1) (ph 1), wB C (ba 2) (ph 2), wB C (ba 3) (ph 3), wB C (ba 4) (ph 4), wB C (ba 5) (ph 5), wB C nw b]) (As := [.ref (nw 0)]) (rest := []) ⟨hx, hb, hml, hown, hts⟩ (c_X1_keep l C hq ba ph r n nw b hr6 hn6) (cwV 1 hts gX4_gift_X1_keep rfl rfl rfl (by decide +kernel) ⟨Nat.le_of_ble_eq_true rfl, Nat.le_of_ble_eq_true rfl⟩) hK hP hD hS hA [2, 3, 4, 5, 6, 7, 8, 1] (by decide) rfl 10 rfl rfl rfl rfl hl.1 rfl (Nat.le_of_ble_eq_true rfl) dX4_gift_33 (Nat.zero_le _) (Nat.zero_le _) (fun r w1 H locs hQ hF hS => ?_)
    obtain ⟨rfl, rfl⟩ := hQ
    obtain ⟨hP, hD⟩ := hF [wHa C hq ba (kR n r) (kC n), wB C (ba 0) (upB ph (kJ n r) b 0), wB C (ba 1) (upB ph (kJ n r) b 1), wB C (ba 2) (upB ph (kJ n r) b 2), wB C (ba 3) (upB ph (kJ n r) b 3), wB C (ba 4) (upB ph (kJ n r) b 4), wB C (ba 5) (upB ph (kJ n r) b 5), wB C nw b] rfl rfl
    have hP : va_P C.1 vwCl (List.flatten [wA C x nw tr hq iq tt sc z, wB C nw b, wHa C hq ba (kR n r) (kC n), wB C (ba 0) (upB ph (kJ n r) b 0), wB C (ba 1) (upB ph (kJ n r) b 1), wB C (ba 2) (upB ph (kJ n r) b 2), wB C (ba 3) (upB ph (kJ n r) b 3), wB C (ba 4) (upB ph (kJ n r) b 4), wB C (ba 5) (upB ph (kJ n r) b 5), wX C iq t f v o]) H := hP
    have hD : va_D (q_A (List.flatten [wA C x nw tr hq iq tt sc z, wB C nw b, wHa C hq ba r n, wB C (ba 0) (ph 0), wB C (ba 1) (ph 1), wB C (ba 2) (ph 2), wB C (ba 3) (ph 3), wB C (ba 4) (ph 4), wB C (ba 5) (ph 5), wX C iq t f v o]) s) (List.flatten [wA C x nw tr hq iq tt sc z, wB C nw b, wHa C hq ba (kR n r) (kC n), wB C (ba 0) (upB ph (kJ n r) b 0), wB C (ba 1) (upB ph (kJ n r) b 1), wB C (ba 2) (upB ph (kJ n r) b 2), wB C (ba 3) (upB ph (kJ n r) b 3), wB C (ba 4) (upB ph (kJ n r) b 4), wB C (ba 5) (upB ph (kJ n r) b 5), wX C iq t f v o]) := hD
    refine W.eq (g2 := F0 m 36 ls []) rfl ?_
    refine lv_iload_n hx hb dX4_gift_36 rfl (lv_at hl 1 rfl) ?_
    refine lv_iload_n hx hb dX4_gift_37 rfl (lv_at hl 2 rfl) ?_
    refine q_S0 (As := [.int (nI a), .int (nI t0)]) (rest := []) ⟨hx, hb, hml, hown, hts⟩ (c_X4_slotOf l C a t0) (va_cwS 2 hts gX4_gift_X4_slotOf rfl rfl rfl (by decide +kernel) ⟨Nat.le_of_ble_eq_true rfl, Nat.le_of_ble_eq_true rfl⟩) hK hP hD hS hA [] (by decide) rfl rfl hl.1 rfl (Nat.le_of_ble_eq_true rfl) dX4_gift_38 (Nat.zero_le _) (Nat.zero_le _) (fun H locs hP hS => ?_)
    refine W.eq (g2 := F0 m 41 ls [.int (nI (4 * a + t0))]) rfl ?_
    refine lv_istore (lv' := [(4, .int (nI (4 * a + t0))), (0, .ref x), (1, .int (nI a)), (2, .int (nI t0)), (3, .int (nI g))]) hx hb dX4_gift_41 hl (by decide) rfl (fun ls hl => ?_)
    refine lv_aload_n hx hb dX4_gift_43 rfl (lv_at hl 1 rfl) ?_
    refine va_get (ci := 4) (v := .ref (nw 0)) (C := RX4) (T := TX4) (N := 6) hx hb hts hin4 hown hK.1 hP 0 rfl rfl 0 (by decide) hf10 (fun _ h9 => h9) rfl dX4_gift_44 ?_
    refine va_get (ci := 0) (v := .ref (nw 1)) (C := RX0) (T := TX0) (N := 12) hx hb hts hin0 hown hK.1 hP 2 rfl rfl 0 (by decide) hf67 (fun _ h9 => h9) rfl dX4_gift_47 ?_
    refine lv_iload hx hb dX4_gift_50 (lv_at hl 0 rfl) ?_
    refine q_S0 (As := [.ref (nw 1), .int (nI (4 * a + t0))]) (rest := []) ⟨hx, hb, hml, hown, hts⟩ (c_X4_at l C (nw 1) 16 (4 * a + t0) (fun k => nI (bg b k)) (by omega) (by decide)) (va_cwS 2 hts gX4_gift_X4_at rfl rfl rfl (by decide +kernel) ⟨Nat.le_of_ble_eq_true rfl, Nat.le_of_ble_eq_true rfl⟩) hK hP hD hS hA [3] (by decide) rfl rfl hl.1 rfl (Nat.le_of_ble_eq_true rfl) dX4_gift_52 (Nat.zero_le _) (Nat.zero_le _) (fun H locs hP hS => ?_)
    refine W.eq (g2 := F0 m 55 ls [.int (nI (bg b (4 * a + t0)))]) rfl ?_
    refine lv_istore (lv' := [(5, .int (nI (bg b (4 * a + t0)))), (4, .int (nI (4 * a + t0))), (0, .ref x), (1, .int (nI a)), (2, .int (nI t0)), (3, .int (nI g))]) hx hb dX4_gift_55 hl (by decide) rfl (fun ls hl => ?_)
    refine lv_aload_n hx hb dX4_gift_57 rfl (lv_at hl 2 rfl) ?_
    refine va_get (ci := 4) (v := .ref (nw 0)) (C := RX4) (T := TX4) (N := 6) hx hb hts hin4 hown hK.1 hP 0 rfl rfl 0 (by decide) hf10 (fun _ h9 => h9) rfl dX4_gift_58 ?_
    refine va_get (ci := 0) (v := .ref (nw 1)) (C := RX0) (T := TX0) (N := 12) hx hb hts hin0 hown hK.1 hP 2 rfl rfl 0 (by decide) hf67 (fun _ h9 => h9) rfl dX4_gift_61 ?_
    refine lv_iload hx hb dX4_gift_64 (lv_at hl 1 rfl) ?_
    refine lv_iload_n hx hb dX4_gift_66 rfl (lv_at hl 5 rfl) ?_
    refine q_S (As := [.ref (nw 1), .int (nI (4 * a + t0)), .int (nI g)]) (rest := []) ⟨hx, hb, hml, hown, hts⟩ (c_X4_store l C (nw 1) 16 (4 * a + t0) (fun k => nI (bg b k)) (nI g) (by omega) (by decide)) (va_cwS 3 hts gX4_gift_X4_store rfl rfl rfl (by decide +kernel) ⟨Nat.le_of_ble_eq_true rfl, Nat.le_of_ble_eq_true rfl⟩) hK hP hD hS hA [3] (by decide) rfl rfl hl.1 rfl (Nat.le_of_ble_eq_true rfl) dX4_gift_67 (Nat.zero_le _) (Nat.zero_le _) (fun r w1 H locs hQ hP hD hS => ?_)
    obtain ⟨rfl, rfl⟩ := hQ
    have hP : va_P C.1 vwCl ((List.flatten [wA C x nw tr hq iq tt sc z, wB C nw b, wHa C hq ba (kR n r) (kC n), wB C (ba 0) (upB ph (kJ n r) b 0), wB C (ba 1) (upB ph (kJ n r) b 1), wB C (ba 2) (upB ph (kJ n r) b 2), wB C (ba 3) (upB ph (kJ n r) b 3), wB C (ba 4) (upB ph (kJ n r) b 4), wB C (ba 5) (upB ph (kJ n r) b 5), wX C iq t f v o]).set 3 (nw 1, .inl (C.2.1, 16, .inl (upd (fun k => nI (bg b k)) (4 * a + t0) (nI g))))) H := hP
    have hD : va_D _ ((List.flatten [wA C x nw tr hq iq tt sc z, wB C nw b, wHa C hq ba (kR n r) (kC n), wB C (ba 0) (upB ph (kJ n r) b 0), wB C (ba 1) (upB ph (kJ n r) b 1), wB C (ba 2) (upB ph (kJ n r) b 2), wB C (ba 3) (upB ph (kJ n r) b 3), wB C (ba 4) (upB ph (kJ n r) b 4), wB C (ba 5) (upB ph (kJ n r) b 5), wX C iq t f v o]).set 3 (nw 1, .inl (C.2.1, 16, .inl (upd (fun k => nI (bg b k)) (4 * a + t0) (nI g))))) := hD
    rw [q_fset [wA C x nw tr hq iq tt sc z, wB C nw b, wHa C hq ba (kR n r) (kC n), wB C (ba 0) (upB ph (kJ n r) b 0), wB C (ba 1) (upB ph (kJ n r) b 1), wB C (ba 2) (upB ph (kJ n r) b 2), wB C (ba 3) (upB ph (kJ n r) b 3), wB C (ba 4) (upB ph (kJ n r) b 4), wB C (ba 5) (upB ph (kJ n r) b 5), wX C iq t f v o] 1 1 3 (B := wB C nw b) rfl (Nat.le_of_ble_eq_true rfl) rfl, q_upd] at hP hD
    have hP : va_P C.1 vwCl (List.flatten [wA C x nw tr hq iq tt sc z, ([(nw 0, .inr (0, [.ref (nw 1), .ref (nw 2), .ref (nw 3), .ref (nw 4), .ref (nw 5), .ref (nw 6), .ref (nw 7), .int (nI (bx b)), .int (nI (bl b) - 1), .long (br b), .long (lN (bw b)), .long (bz b)])), (nw 1, .inl (C.2.1, 16, .inl (fun k => nI (upN (bg b) (4 * a + t0) g k)))), (nw 2, .inl (C.2.1, 16, .inl (fun k => nI (bo b k)))), (nw 3, .inl (C.2.1, 16, .inl (fun k => nI (bb b k)))), (nw 4, .inl (C.2.1, 16, .inl (fun k => nI (bc b k)))), (nw 5, .inl (C.2.1, 4, .inl (fun k => nI (bp b k)))), (nw 6, .inl (C.2.1, 4, .inl (fun k => nI (bu b k)))), (nw 7, .inl (C.2.1, 4, .inl (fun k => nI (bs b k))))] : va_W), wHa C hq ba (kR n r) (kC n), wB C (ba 0) (upB ph (kJ n r) b 0), wB C (ba 1) (upB ph (kJ n r) b 1), wB C (ba 2) (upB ph (kJ n r) b 2), wB C (ba 3) (upB ph (kJ n r) b 3), wB C (ba 4) (upB ph (kJ n r) b 4), wB C (ba 5) (upB ph (kJ n r) b 5), wX C iq t f v o]) H := hP
    have hD : va_D (q_A (List.flatten [wA C x nw tr hq iq tt sc z, wB C nw b, wHa C hq ba r n, wB C (ba 0) (ph 0), wB C (ba 1) (ph 1), wB C (ba 2) (ph 2), wB C (ba 3) (ph 3), wB C (ba 4) (ph 4), wB C (ba 5) (ph 5), wX C iq t f v o]) s) (List.flatten [wA C x nw tr hq iq tt sc z, ([(nw 0, .inr (0, [.ref (nw 1), .ref (nw 2), .ref (nw 3), .ref (nw 4), .ref (nw 5), .ref (nw 6), .ref (nw 7), .int (nI (bx b)), .int (nI (bl b) - 1), .long (br b), .long (lN (bw b)), .long (bz b)])), (nw 1, .inl (C.2.1, 16, .inl (fun k => nI (upN (bg b) (4 * a + t0) g k)))), (nw 2, .inl (C.2.1, 16, .inl (fun k => nI (bo b k)))), (nw 3, .inl (C.2.1, 16, .inl (fun k => nI (bb b k)))), (nw 4, .inl (C.2.1, 16, .inl (fun k => nI (bc b k)))), (nw 5, .inl (C.2.1, 4, .inl (fun k => nI (bp b k)))), (nw 6, .inl (C.2.1, 4, .inl (fun k => nI (bu b k)))), (nw 7, .inl (C.2.1, 4, .inl (fun k => nI (bs b k))))] : va_W), wHa C hq ba (kR n r) (kC n), wB C (ba 0) (upB ph (kJ n r) b 0), wB C (ba 1) (upB ph (kJ n r) b 1), wB C (ba 2) (upB ph (kJ n r) b 2), wB C (ba 3) (upB ph (kJ n r) b 3), wB C (ba 4) (upB ph (kJ n r) b 4), wB C (ba 5) (upB ph (kJ n r) b 5), wX C iq t f v o]) := hD
    refine W.eq (g2 := F0 m 70 ls []) rfl ?_
    have hP : va_P C.1 vwCl (List.flatten [wA C x nw tr hq iq tt sc z, wB C nw (sg b (upN (bg b) (4 * a + t0) g)), wHa C hq ba (kR n r) (kC n), wB C (ba 0) (upB ph (kJ n r) b 0), wB C (ba 1) (upB ph (kJ n r) b 1), wB C (ba 2) (upB ph (kJ n r) b 2), wB C (ba 3) (upB ph (kJ n r) b 3), wB C (ba 4) (upB ph (kJ n r) b 4), wB C (ba 5) (upB ph (kJ n r) b 5), wX C iq t f v o]) H := hP
    have hD : va_D (q_A (List.flatten [wA C x nw tr hq iq tt sc z, wB C nw b, wHa C hq ba r n, wB C (ba 0) (ph 0), wB C (ba 1) (ph 1), wB C (ba 2) (ph 2), wB C (ba 3) (ph 3), wB C (ba 4) (ph 4), wB C (ba 5) (ph 5), wX C iq t f v o]) s) (List.flatten [wA C x nw tr hq iq tt sc z, wB C nw (sg b (upN (bg b) (4 * a + t0) g)), wHa C hq ba (kR n r) (kC n), wB C (ba 0) (upB ph (kJ n r) b 0), wB C (ba 1) (upB ph (kJ n r) b 1), wB C (ba 2) (upB ph (kJ n r) b 2), wB C (ba 3) (upB ph (kJ n r) b 3), wB C (ba 4) (upB ph (kJ n r) b 4), wB C (ba 5) (upB ph (kJ n r) b 5), wX C iq t f v o]) := hD
    refine lv_aload_n hx hb dX4_gift_70 rfl (lv_at hl 2 rfl) ?_
    refine va_get (ci := 4) (v := .ref (iq 0)) (C := RX4) (T := TX4) (N := 6) hx hb hts hin4 hown hK.1 hP 0 rfl rfl 3 (by decide) hf29 (fun _ h9 => h9) rfl dX4_gift_71 ?_
    refine lv_iload_n hx hb dX4_gift_74 rfl (lv_at hl 3 rfl) ?_
    refine q_VB (cs := [wX C iq t f v o]) (As := [.int (nI a)]) (rest := []) ⟨hx, hb, hml, hown, hts⟩ (c_X2_forgetArm l C iq t f v o a (by omega)) (cwV 1 hts gX4_gift_X2_forgetArm rfl rfl rfl (by decide +kernel) ⟨Nat.le_of_ble_eq_true rfl, Nat.le_of_ble_eq_true rfl⟩) hK hP hD hS hA [9] (by decide) rfl 60 rfl rfl rfl rfl hl.1 rfl (Nat.le_of_ble_eq_true rfl) dX4_gift_75 (Nat.zero_le _) (Nat.zero_le _) (fun r w1 H locs hQ hF hS => ?_)
    obtain ⟨rfl, rfl⟩ := hQ
    obtain ⟨hP, hD⟩ := hF [wX C iq t (upN f a 0) v o] rfl rfl
    have hP : va_P C.1 vwCl (List.flatten [wA C x nw tr hq iq tt sc z, wB C nw (sg b (upN (bg b) (4 * a + t0) g)), wHa C hq ba (kR n r) (kC n), wB C (ba 0) (upB ph (kJ n r) b 0), wB C (ba 1) (upB ph (kJ n r) b 1), wB C (ba 2) (upB ph (kJ n r) b 2), wB C (ba 3) (upB ph (kJ n r) b 3), wB C (ba 4) (upB ph (kJ n r) b 4), wB C (ba 5) (upB ph (kJ n r) b 5), wX C iq t (upN f a 0) v o]) H := hP
    have hD : va_D (q_A (List.flatten [wA C x nw tr hq iq tt sc z, wB C nw b, wHa C hq ba r n, wB C (ba 0) (ph 0), wB C (ba 1) (ph 1), wB C (ba 2) (ph 2), wB C (ba 3) (ph 3), wB C (ba 4) (ph 4), wB C (ba 5) (ph 5), wX C iq t f v o]) s) (List.flatten [wA C x nw tr hq iq tt sc z, wB C nw (sg b (upN (bg b) (4 * a + t0) g)), wHa C hq ba (kR n r) (kC n), wB C (ba 0) (upB ph (kJ n r) b 0), wB C (ba 1) (upB ph (kJ n r) b 1), wB C (ba 2) (upB ph (kJ n r) b 2), wB C (ba 3) (upB ph (kJ n r) b 3), wB C (ba 4) (upB ph (kJ n r) b 4), wB C (ba 5) (upB ph (kJ n r) b 5), wX C iq t (upN f a 0) v o]) := hD
    refine W.eq (g2 := F0 m 78 ls []) rfl ?_
    refine lv_iload hx hb dX4_gift_78 (lv_at hl 0 rfl) ?_
    exact q_iret hx hb hr hlocks (w1 := List.flatten [wA C x nw tr hq iq tt sc z, wB C nw (sg b (upN (bg b) (4 * a + t0) g)), wHa C hq ba (kR n r) (kC n), wB C (ba 0) (upB ph (kJ n r) b 0), wB C (ba 1) (upB ph (kJ n r) b 1), wB C (ba 2) (upB ph (kJ n r) b 2), wB C (ba 3) (upB ph (kJ n r) b 3), wB C (ba 4) (upB ph (kJ n r) b 4), wB C (ba 5) (upB ph (kJ n r) b 5), wX C iq t (upN f a 0) v o]) hP hS rfl dX4_gift_80 (⟨rfl, rfl⟩)
  · have c12 : decide (0 ≤ g ∧ g ≤ 99) = false := q_b0.mp c12
    exact absurd (show _ ∧ _ from ⟨by omega, by omega⟩) (of_decide_eq_false c12)
set_option maxHeartbeats 4000000 in
set_option maxRecDepth 100000 in
theorem c_X4_way (l : Launch) (C : q_C) (x : Nat) (nw tr hq iq tt : Nat → Nat) (sc : Nat) (z : Nat → Int) (ba : Nat → Nat → Nat) (ph : Nat → Bd) (r n : Nat) (b : Bd) (t f v o : Nat → Nat) (a t0 x1 x2 x3 : Nat) (hr6 : r < 6) (hn6 : n ≤ 6) (ha : a < 4) (ht : t0 < 4) (h1 : x1 < 4) (h2 : x2 < 4) (h3 : x3 ≤ 8) : q_M C l yX4_way wsX4_way 3 83 [.ref x, .int (nI a), .int (nI t0), .int (nI x1), .int (nI x2), .int (nI x3)] (List.flatten [wA C x nw tr hq iq tt sc z, wB C nw b, wHa C hq ba r n, wB C (ba 0) (ph 0), wB C (ba 1) (ph 1), wB C (ba 2) (ph 2), wB C (ba 3) (ph 3), wB C (ba 4) (ph 4), wB C (ba 5) (ph 5), wX C iq t f v o]) (fun r2 w => r2 = some (.int (nI (100 * bo b (4 * a + t0) + 10 * bb b (4 * a + t0) + bc b (4 * a + t0)))) ∧ w = List.flatten [wA C x nw tr hq iq tt sc z, wB C nw (setC (sb (so b (upN (bo b) (4 * a + t0) x1)) (upN (bb b) (4 * a + t0) x2)) (upN (bc b) (4 * a + t0) x3)), wHa C hq ba (kR n r) (kC n), wB C (ba 0) (upB ph (kJ n r) b 0), wB C (ba 1) (upB ph (kJ n r) b 1), wB C (ba 2) (upB ph (kJ n r) b 2), wB C (ba 3) (upB ph (kJ n r) b 3), wB C (ba 4) (upB ph (kJ n r) b 4), wB C (ba 5) (upB ph (kJ n r) b 5), wX C iq t (upN f a 0) v o]) := by
  refine q_head (cc := cX4_way) (maxL := 8) (ret := (some .int)) (by decide +kernel) rfl (Nat.le_of_ble_eq_true rfl) ?_
  intro p e s m below meth c hx hb hr hlocks hml hown hts hK hP hD hS hA ls hl
  have hl : lv_has ls 8 [(0, .ref x), (1, .int (nI a)), (2, .int (nI t0)), (3, .int (nI x1)), (4, .int (nI x2)), (5, .int (nI x3))] := hl
  have hf10 := hts (.fieldLink RX4 10 "RestedArms" "now" "LRestedArms$Board;") (by decide +kernel)
  have hf22 := hts (.fieldLink RX4 22 "RestedArms" "history" "LRestedArms$History;") (by decide +kernel)
  have hf29 := hts (.fieldLink RX4 29 "RestedArms" "indices" "LRestedArms$Indices;") (by decide +kernel)
  have hf85 := hts (.fieldLink RX4 85 "RestedArms$Board" "goods" "[I") (by decide +kernel)
  have hf88 := hts (.fieldLink RX4 88 "RestedArms$Board" "bads" "[I") (by decide +kernel)
  have hf91 := hts (.fieldLink RX4 91 "RestedArms$Board" "chances" "[I") (by decide +kernel)
  have hin0 : ∀ w ∈ u_ws RX0 TX0 12, w ∈ wsX4_way := by decide +kernel
  have hin4 : ∀ w ∈ u_ws RX4 TX4 6, w ∈ wsX4_way := by decide +kernel
  refine lv_iload_n hx hb dX4_way_0 rfl (lv_at hl 1 rfl) ?_
  refine lv_iload_n hx hb dX4_way_1 rfl (lv_at hl 2 rfl) ?_
  refine q_S0 (As := [.int (nI a), .int (nI t0)]) (rest := []) ⟨hx, hb, hml, hown, hts⟩ (c_X4_needState l C a t0 (by omega) (by omega)) (va_cwS 2 hts gX4_way_X4_needState rfl rfl rfl (by decide +kernel) ⟨Nat.le_of_ble_eq_true rfl, Nat.le_of_ble_eq_true rfl⟩) hK hP hD hS hA [] (by decide) rfl rfl hl.1 rfl (Nat.le_of_ble_eq_true rfl) dX4_way_2 (Nat.zero_le _) (Nat.zero_le _) (fun H locs hP hS => ?_)
  refine W.eq (g2 := F0 m 5 ls []) rfl ?_
  refine lv_iload_n hx hb dX4_way_5 rfl (lv_at hl 1 rfl) ?_
  refine lv_iload_n hx hb dX4_way_6 rfl (lv_at hl 3 rfl) ?_
  refine q_S0 (As := [.int (nI a), .int (nI x1)]) (rest := []) ⟨hx, hb, hml, hown, hts⟩ (c_X4_needState l C a x1 (by omega) (by omega)) (va_cwS 2 hts gX4_way_X4_needState rfl rfl rfl (by decide +kernel) ⟨Nat.le_of_ble_eq_true rfl, Nat.le_of_ble_eq_true rfl⟩) hK hP hD hS hA [] (by decide) rfl rfl hl.1 rfl (Nat.le_of_ble_eq_true rfl) dX4_way_7 (Nat.zero_le _) (Nat.zero_le _) (fun H locs hP hS => ?_)
  refine W.eq (g2 := F0 m 10 ls []) rfl ?_
  refine lv_iload_n hx hb dX4_way_10 rfl (lv_at hl 1 rfl) ?_
  refine lv_iload hx hb dX4_way_11 (lv_at hl 4 rfl) ?_
  refine q_S0 (As := [.int (nI a), .int (nI x2)]) (rest := []) ⟨hx, hb, hml, hown, hts⟩ (c_X4_needState l C a x2 (by omega) (by omega)) (va_cwS 2 hts gX4_way_X4_needState rfl rfl rfl (by decide +kernel) ⟨Nat.le_of_ble_eq_true rfl, Nat.le_of_ble_eq_true rfl⟩) hK hP hD hS hA [] (by decide) rfl rfl hl.1 rfl (Nat.le_of_ble_eq_true rfl) dX4_way_13 (Nat.zero_le _) (Nat.zero_le _) (fun H locs hP hS => ?_)
  refine W.eq (g2 := F0 m 16 ls []) rfl ?_
  refine lv_iload hx hb dX4_way_16 (lv_at hl 5 rfl) ?_
  refine lv_iconst (v := nI 0) hx hb dX4_way_18 (by decide) ?_
  refine lv_bipush (v := nI 8) hx hb dX4_way_19 (by decide) ?_
  refine q_S0 (As := [.int (nI x3), .int (nI 0), .int (nI 8)]) (rest := []) ⟨hx, hb, hml, hown, hts⟩ (c_isWithinN l C x3 0 8 (by omega) (by decide) (by decide)) (va_cwS 3 hts gX4_way_X4_isWithin rfl rfl rfl (by decide +kernel) ⟨Nat.le_of_ble_eq_true rfl, Nat.le_of_ble_eq_true rfl⟩) hK hP hD hS hA [] (by decide) rfl rfl hl.1 rfl (Nat.le_of_ble_eq_true rfl) dX4_way_21 (Nat.zero_le _) (Nat.zero_le _) (fun H locs hP hS => ?_)
  refine W.eq (g2 := F0 m 24 ls [.int (q_b (decide (0 ≤ x3 ∧ x3 ≤ 8)))]) rfl ?_
  refine lv_if_ne (tgt := 37) hx hb dX4_way_24 (by decide) (fun c24 => ?_) (fun c24 => ?_)
  · have c24 : decide (0 ≤ x3 ∧ x3 ≤ 8) = true := q_b1.mp c24
    refine lv_aload_n hx hb dX4_way_37 rfl (lv_at hl 0 rfl) ?_
    refine va_get (ci := 4) (v := .ref (hq 0)) (C := RX4) (T := TX4) (N := 6) hx hb hts hin4 hown hK.1 hP 0 rfl rfl 2 (by decide) hf22 (fun _ h9 => h9) rfl dX4_way_38 ?_
    refine lv_aload_n hx hb dX4_way_41 rfl (lv_at hl 0 rfl) ?_
    refine va_get (ci := 4) (v := .ref (nw 0)) (C := RX4) (T := TX4) (N := 6) hx hb hts hin4 hown hK.1 hP 0 rfl rfl 0 (by decide) hf10 (fun _ h9 => h9) rfl dX4_way_42 ?_
    refine q_VB (cs := [wHa C hq ba r n, wB C (ba 0) (ph 0), wB C (ba 1) (ph 1), wB C (ba 2) (ph 2), wB C (ba 3) (ph 3), wB C (ba 4) (ph 4), wB C (ba 5) (ph 5), wB C nw b]) (As := [.ref (nw 0)]) (rest := []) ⟨hx, hb, hml, hown, hts⟩ (c_X1_keep l C hq ba ph r n nw b hr6 hn6) (cwV 1 hts gX4_way_X1_keep rfl rfl rfl (by decide +kernel) ⟨Nat.le_of_ble_eq_true rfl, Nat.le_of_ble_eq_true rfl⟩) hK hP hD hS hA [2, 3, 4, 5, 6, 7, 8, 1] (by decide) rfl 10 rfl rfl rfl rfl hl.1 rfl (Nat.le_of_ble_eq_true rfl) dX4_way_45 (Nat.zero_le _) (Nat.zero_le _) (fun r w1 H locs hQ hF hS => ?_)
    obtain ⟨rfl, rfl⟩ := hQ
    obtain ⟨hP, hD⟩ := hF [wHa C hq ba (kR n r) (kC n), wB C (ba 0) (upB ph (kJ n r) b 0), wB C (ba 1) (upB ph (kJ n r) b 1), wB C (ba 2) (upB ph (kJ n r) b 2), wB C (ba 3) (upB ph (kJ n r) b 3), wB C (ba 4) (upB ph (kJ n r) b 4), wB C (ba 5) (upB ph (kJ n r) b 5), wB C nw b] rfl rfl
    have hP : va_P C.1 vwCl (List.flatten [wA C x nw tr hq iq tt sc z, wB C nw b, wHa C hq ba (kR n r) (kC n), wB C (ba 0) (upB ph (kJ n r) b 0), wB C (ba 1) (upB ph (kJ n r) b 1), wB C (ba 2) (upB ph (kJ n r) b 2), wB C (ba 3) (upB ph (kJ n r) b 3), wB C (ba 4) (upB ph (kJ n r) b 4), wB C (ba 5) (upB ph (kJ n r) b 5), wX C iq t f v o]) H := hP
    have hD : va_D (q_A (List.flatten [wA C x nw tr hq iq tt sc z, wB C nw b, wHa C hq ba r n, wB C (ba 0) (ph 0), wB C (ba 1) (ph 1), wB C (ba 2) (ph 2), wB C (ba 3) (ph 3), wB C (ba 4) (ph 4), wB C (ba 5) (ph 5), wX C iq t f v o]) s) (List.flatten [wA C x nw tr hq iq tt sc z, wB C nw b, wHa C hq ba (kR n r) (kC n), wB C (ba 0) (upB ph (kJ n r) b 0), wB C (ba 1) (upB ph (kJ n r) b 1), wB C (ba 2) (upB ph (kJ n r) b 2), wB C (ba 3) (upB ph (kJ n r) b 3), wB C (ba 4) (upB ph (kJ n r) b 4), wB C (ba 5) (upB ph (kJ n r) b 5), wX C iq t f v o]) := hD
    refine W.eq (g2 := F0 m 48 ls []) rfl ?_
    refine lv_iload_n hx hb dX4_way_48 rfl (lv_at hl 1 rfl) ?_
    refine lv_iload_n hx hb dX4_way_49 rfl (lv_at hl 2 rfl) ?_
    refine q_S0 (As := [.int (nI a), .int (nI t0)]) (rest := []) ⟨hx, hb, hml, hown, hts⟩ (c_X4_slotOf l C a t0) (va_cwS 2 hts gX4_way_X4_slotOf rfl rfl rfl (by decide +kernel) ⟨Nat.le_of_ble_eq_true rfl, Nat.le_of_ble_eq_true rfl⟩) hK hP hD hS hA [] (by decide) rfl rfl hl.1 rfl (Nat.le_of_ble_eq_true rfl) dX4_way_50 (Nat.zero_le _) (Nat.zero_le _) (fun H locs hP hS => ?_)
    refine W.eq (g2 := F0 m 53 ls [.int (nI (4 * a + t0))]) rfl ?_
    refine lv_istore (lv' := [(6, .int (nI (4 * a + t0))), (0, .ref x), (1, .int (nI a)), (2, .int (nI t0)), (3, .int (nI x1)), (4, .int (nI x2)), (5, .int (nI x3))]) hx hb dX4_way_53 hl (by decide) rfl (fun ls hl => ?_)
    refine lv_bipush (v := nI 100) hx hb dX4_way_55 (by decide) ?_
    refine lv_aload_n hx hb dX4_way_57 rfl (lv_at hl 1 rfl) ?_
    refine va_get (ci := 4) (v := .ref (nw 0)) (C := RX4) (T := TX4) (N := 6) hx hb hts hin4 hown hK.1 hP 0 rfl rfl 0 (by decide) hf10 (fun _ h9 => h9) rfl dX4_way_58 ?_
    refine va_get (ci := 0) (v := .ref (nw 2)) (C := RX0) (T := TX0) (N := 12) hx hb hts hin0 hown hK.1 hP 2 rfl rfl 1 (by decide) hf85 (fun _ h9 => h9) rfl dX4_way_61 ?_
    refine lv_iload hx hb dX4_way_64 (lv_at hl 0 rfl) ?_
    refine q_S0 (As := [.ref (nw 2), .int (nI (4 * a + t0))]) (rest := [.int (nI 100)]) ⟨hx, hb, hml, hown, hts⟩ (c_X4_at l C (nw 2) 16 (4 * a + t0) (fun k => nI (bo b k)) (by omega) (by decide)) (va_cwS 2 hts gX4_way_X4_at rfl rfl rfl (by decide +kernel) ⟨Nat.le_of_ble_eq_true rfl, Nat.le_of_ble_eq_true rfl⟩) hK hP hD hS hA [4] (by decide) rfl rfl hl.1 rfl (Nat.le_of_ble_eq_true rfl) dX4_way_66 (Nat.zero_le _) (Nat.zero_le _) (fun H locs hP hS => ?_)
    refine W.eq (g2 := F0 m 69 ls [.int (nI (bo b (4 * a + t0))), .int (nI 100)]) rfl ?_
    refine lv_imul hx hb dX4_way_69 ?_
    refine q_ti (y := nI (100 * (bo b (4 * a + t0)))) (pk_mul _ _) ?_
    refine lv_bipush (v := nI 10) hx hb dX4_way_70 (by decide) ?_
    refine lv_aload_n hx hb dX4_way_72 rfl (lv_at hl 1 rfl) ?_
    refine va_get (ci := 4) (v := .ref (nw 0)) (C := RX4) (T := TX4) (N := 6) hx hb hts hin4 hown hK.1 hP 0 rfl rfl 0 (by decide) hf10 (fun _ h9 => h9) rfl dX4_way_73 ?_
    refine va_get (ci := 0) (v := .ref (nw 3)) (C := RX0) (T := TX0) (N := 12) hx hb hts hin0 hown hK.1 hP 2 rfl rfl 2 (by decide) hf88 (fun _ h9 => h9) rfl dX4_way_76 ?_
    refine lv_iload hx hb dX4_way_79 (lv_at hl 0 rfl) ?_
    refine q_S0 (As := [.ref (nw 3), .int (nI (4 * a + t0))]) (rest := [.int (nI 10), .int (nI (100 * (bo b (4 * a + t0))))]) ⟨hx, hb, hml, hown, hts⟩ (c_X4_at l C (nw 3) 16 (4 * a + t0) (fun k => nI (bb b k)) (by omega) (by decide)) (va_cwS 2 hts gX4_way_X4_at rfl rfl rfl (by decide +kernel) ⟨Nat.le_of_ble_eq_true rfl, Nat.le_of_ble_eq_true rfl⟩) hK hP hD hS hA [5] (by decide) rfl rfl hl.1 rfl (Nat.le_of_ble_eq_true rfl) dX4_way_81 (Nat.zero_le _) (Nat.zero_le _) (fun H locs hP hS => ?_)
    refine W.eq (g2 := F0 m 84 ls [.int (nI (bb b (4 * a + t0))), .int (nI 10), .int (nI (100 * (bo b (4 * a + t0))))]) rfl ?_
    refine lv_imul hx hb dX4_way_84 ?_
    refine q_ti (y := nI (10 * (bb b (4 * a + t0)))) (pk_mul _ _) ?_
    refine lv_iadd hx hb dX4_way_85 ?_
    refine q_ti (y := nI ((100 * (bo b (4 * a + t0))) + (10 * (bb b (4 * a + t0))))) (nI_add _ _) ?_
    refine lv_aload_n hx hb dX4_way_86 rfl (lv_at hl 1 rfl) ?_
    refine va_get (ci := 4) (v := .ref (nw 0)) (C := RX4) (T := TX4) (N := 6) hx hb hts hin4 hown hK.1 hP 0 rfl rfl 0 (by decide) hf10 (fun _ h9 => h9) rfl dX4_way_87 ?_
    refine va_get (ci := 0) (v := .ref (nw 4)) (C := RX0) (T := TX0) (N := 12) hx hb hts hin0 hown hK.1 hP 2 rfl rfl 3 (by decide) hf91 (fun _ h9 => h9) rfl dX4_way_90 ?_
    refine lv_iload hx hb dX4_way_93 (lv_at hl 0 rfl) ?_
    refine q_S0 (As := [.ref (nw 4), .int (nI (4 * a + t0))]) (rest := [.int (nI ((100 * (bo b (4 * a + t0))) + (10 * (bb b (4 * a + t0)))))]) ⟨hx, hb, hml, hown, hts⟩ (c_X4_at l C (nw 4) 16 (4 * a + t0) (fun k => nI (bc b k)) (by omega) (by decide)) (va_cwS 2 hts gX4_way_X4_at rfl rfl rfl (by decide +kernel) ⟨Nat.le_of_ble_eq_true rfl, Nat.le_of_ble_eq_true rfl⟩) hK hP hD hS hA [6] (by decide) rfl rfl hl.1 rfl (Nat.le_of_ble_eq_true rfl) dX4_way_95 (Nat.zero_le _) (Nat.zero_le _) (fun H locs hP hS => ?_)
    refine W.eq (g2 := F0 m 98 ls [.int (nI (bc b (4 * a + t0))), .int (nI ((100 * (bo b (4 * a + t0))) + (10 * (bb b (4 * a + t0)))))]) rfl ?_
    refine lv_iadd hx hb dX4_way_98 ?_
    refine q_ti (y := nI (((100 * (bo b (4 * a + t0))) + (10 * (bb b (4 * a + t0)))) + (bc b (4 * a + t0)))) (nI_add _ _) ?_
    refine lv_istore (lv' := [(7, .int (nI (((100 * (bo b (4 * a + t0))) + (10 * (bb b (4 * a + t0)))) + (bc b (4 * a + t0))))), (6, .int (nI (4 * a + t0))), (0, .ref x), (1, .int (nI a)), (2, .int (nI t0)), (3, .int (nI x1)), (4, .int (nI x2)), (5, .int (nI x3))]) hx hb dX4_way_99 hl (by decide) rfl (fun ls hl => ?_)
    refine lv_aload_n hx hb dX4_way_101 rfl (lv_at hl 2 rfl) ?_
    refine va_get (ci := 4) (v := .ref (nw 0)) (C := RX4) (T := TX4) (N := 6) hx hb hts hin4 hown hK.1 hP 0 rfl rfl 0 (by decide) hf10 (fun _ h9 => h9) rfl dX4_way_102 ?_
    refine va_get (ci := 0) (v := .ref (nw 2)) (C := RX0) (T := TX0) (N := 12) hx hb hts hin0 hown hK.1 hP 2 rfl rfl 1 (by decide) hf85 (fun _ h9 => h9) rfl dX4_way_105 ?_
    refine lv_iload hx hb dX4_way_108 (lv_at hl 1 rfl) ?_
    refine lv_iload_n hx hb dX4_way_110 rfl (lv_at hl 5 rfl) ?_
    refine q_S (As := [.ref (nw 2), .int (nI (4 * a + t0)), .int (nI x1)]) (rest := []) ⟨hx, hb, hml, hown, hts⟩ (c_X4_store l C (nw 2) 16 (4 * a + t0) (fun k => nI (bo b k)) (nI x1) (by omega) (by decide)) (va_cwS 3 hts gX4_way_X4_store rfl rfl rfl (by decide +kernel) ⟨Nat.le_of_ble_eq_true rfl, Nat.le_of_ble_eq_true rfl⟩) hK hP hD hS hA [4] (by decide) rfl rfl hl.1 rfl (Nat.le_of_ble_eq_true rfl) dX4_way_111 (Nat.zero_le _) (Nat.zero_le _) (fun r w1 H locs hQ hP hD hS => ?_)
    obtain ⟨rfl, rfl⟩ := hQ
    have hP : va_P C.1 vwCl ((List.flatten [wA C x nw tr hq iq tt sc z, wB C nw b, wHa C hq ba (kR n r) (kC n), wB C (ba 0) (upB ph (kJ n r) b 0), wB C (ba 1) (upB ph (kJ n r) b 1), wB C (ba 2) (upB ph (kJ n r) b 2), wB C (ba 3) (upB ph (kJ n r) b 3), wB C (ba 4) (upB ph (kJ n r) b 4), wB C (ba 5) (upB ph (kJ n r) b 5), wX C iq t f v o]).set 4 (nw 2, .inl (C.2.1, 16, .inl (upd (fun k => nI (bo b k)) (4 * a + t0) (nI x1))))) H := hP
    have hD : va_D _ ((List.flatten [wA C x nw tr hq iq tt sc z, wB C nw b, wHa C hq ba (kR n r) (kC n), wB C (ba 0) (upB ph (kJ n r) b 0), wB C (ba 1) (upB ph (kJ n r) b 1), wB C (ba 2) (upB ph (kJ n r) b 2), wB C (ba 3) (upB ph (kJ n r) b 3), wB C (ba 4) (upB ph (kJ n r) b 4), wB C (ba 5) (upB ph (kJ n r) b 5), wX C iq t f v o]).set 4 (nw 2, .inl (C.2.1, 16, .inl (upd (fun k => nI (bo b k)) (4 * a + t0) (nI x1))))) := hD
    rw [q_fset [wA C x nw tr hq iq tt sc z, wB C nw b, wHa C hq ba (kR n r) (kC n), wB C (ba 0) (upB ph (kJ n r) b 0), wB C (ba 1) (upB ph (kJ n r) b 1), wB C (ba 2) (upB ph (kJ n r) b 2), wB C (ba 3) (upB ph (kJ n r) b 3), wB C (ba 4) (upB ph (kJ n r) b 4), wB C (ba 5) (upB ph (kJ n r) b 5), wX C iq t f v o] 1 2 4 (B := wB C nw b) rfl (Nat.le_of_ble_eq_true rfl) rfl, q_upd] at hP hD
    have hP : va_P C.1 vwCl (List.flatten [wA C x nw tr hq iq tt sc z, ([(nw 0, .inr (0, [.ref (nw 1), .ref (nw 2), .ref (nw 3), .ref (nw 4), .ref (nw 5), .ref (nw 6), .ref (nw 7), .int (nI (bx b)), .int (nI (bl b) - 1), .long (br b), .long (lN (bw b)), .long (bz b)])), (nw 1, .inl (C.2.1, 16, .inl (fun k => nI (bg b k)))), (nw 2, .inl (C.2.1, 16, .inl (fun k => nI (upN (bo b) (4 * a + t0) x1 k)))), (nw 3, .inl (C.2.1, 16, .inl (fun k => nI (bb b k)))), (nw 4, .inl (C.2.1, 16, .inl (fun k => nI (bc b k)))), (nw 5, .inl (C.2.1, 4, .inl (fun k => nI (bp b k)))), (nw 6, .inl (C.2.1, 4, .inl (fun k => nI (bu b k)))), (nw 7, .inl (C.2.1, 4, .inl (fun k => nI (bs b k))))] : va_W), wHa C hq ba (kR n r) (kC n), wB C (ba 0) (upB ph (kJ n r) b 0), wB C (ba 1) (upB ph (kJ n r) b 1), wB C (ba 2) (upB ph (kJ n r) b 2), wB C (ba 3) (upB ph (kJ n r) b 3), wB C (ba 4) (upB ph (kJ n r) b 4), wB C (ba 5) (upB ph (kJ n r) b 5), wX C iq t f v o]) H := hP
    have hD : va_D (q_A (List.flatten [wA C x nw tr hq iq tt sc z, wB C nw b, wHa C hq ba r n, wB C (ba 0) (ph 0), wB C (ba 1) (ph 1), wB C (ba 2) (ph 2), wB C (ba 3) (ph 3), wB C (ba 4) (ph 4), wB C (ba 5) (ph 5), wX C iq t f v o]) s) (List.flatten [wA C x nw tr hq iq tt sc z, ([(nw 0, .inr (0, [.ref (nw 1), .ref (nw 2), .ref (nw 3), .ref (nw 4), .ref (nw 5), .ref (nw 6), .ref (nw 7), .int (nI (bx b)), .int (nI (bl b) - 1), .long (br b), .long (lN (bw b)), .long (bz b)])), (nw 1, .inl (C.2.1, 16, .inl (fun k => nI (bg b k)))), (nw 2, .inl (C.2.1, 16, .inl (fun k => nI (upN (bo b) (4 * a + t0) x1 k)))), (nw 3, .inl (C.2.1, 16, .inl (fun k => nI (bb b k)))), (nw 4, .inl (C.2.1, 16, .inl (fun k => nI (bc b k)))), (nw 5, .inl (C.2.1, 4, .inl (fun k => nI (bp b k)))), (nw 6, .inl (C.2.1, 4, .inl (fun k => nI (bu b k)))), (nw 7, .inl (C.2.1, 4, .inl (fun k => nI (bs b k))))] : va_W), wHa C hq ba (kR n r) (kC n), wB C (ba 0) (upB ph (kJ n r) b 0), wB C (ba 1) (upB ph (kJ n r) b 1), wB C (ba 2) (upB ph (kJ n r) b 2), wB C (ba 3) (upB ph (kJ n r) b 3), wB C (ba 4) (upB ph (kJ n r) b 4), wB C (ba 5) (upB ph (kJ n r) b 5), wX C iq t f v o]) := hD
    refine W.eq (g2 := F0 m 114 ls []) rfl ?_
    have hP : va_P C.1 vwCl (List.flatten [wA C x nw tr hq iq tt sc z, wB C nw (so b (upN (bo b) (4 * a + t0) x1)), wHa C hq ba (kR n r) (kC n), wB C (ba 0) (upB ph (kJ n r) b 0), wB C (ba 1) (upB ph (kJ n r) b 1), wB C (ba 2) (upB ph (kJ n r) b 2), wB C (ba 3) (upB ph (kJ n r) b 3), wB C (ba 4) (upB ph (kJ n r) b 4), wB C (ba 5) (upB ph (kJ n r) b 5), wX C iq t f v o]) H := hP
    have hD : va_D (q_A (List.flatten [wA C x nw tr hq iq tt sc z, wB C nw b, wHa C hq ba r n, wB C (ba 0) (ph 0), wB C (ba 1) (ph 1), wB C (ba 2) (ph 2), wB C (ba 3) (ph 3), wB C (ba 4) (ph 4), wB C (ba 5) (ph 5), wX C iq t f v o]) s) (List.flatten [wA C x nw tr hq iq tt sc z, wB C nw (so b (upN (bo b) (4 * a + t0) x1)), wHa C hq ba (kR n r) (kC n), wB C (ba 0) (upB ph (kJ n r) b 0), wB C (ba 1) (upB ph (kJ n r) b 1), wB C (ba 2) (upB ph (kJ n r) b 2), wB C (ba 3) (upB ph (kJ n r) b 3), wB C (ba 4) (upB ph (kJ n r) b 4), wB C (ba 5) (upB ph (kJ n r) b 5), wX C iq t f v o]) := hD
    refine lv_aload_n hx hb dX4_way_114 rfl (lv_at hl 2 rfl) ?_
    refine va_get (ci := 4) (v := .ref (nw 0)) (C := RX4) (T := TX4) (N := 6) hx hb hts hin4 hown hK.1 hP 0 rfl rfl 0 (by decide) hf10 (fun _ h9 => h9) rfl dX4_way_115 ?_
    refine va_get (ci := 0) (v := .ref (nw 3)) (C := RX0) (T := TX0) (N := 12) hx hb hts hin0 hown hK.1 hP 2 rfl rfl 2 (by decide) hf88 (fun _ h9 => h9) rfl dX4_way_118 ?_
    refine lv_iload hx hb dX4_way_121 (lv_at hl 1 rfl) ?_
    refine lv_iload hx hb dX4_way_123 (lv_at hl 6 rfl) ?_
    refine q_S (As := [.ref (nw 3), .int (nI (4 * a + t0)), .int (nI x2)]) (rest := []) ⟨hx, hb, hml, hown, hts⟩ (c_X4_store l C (nw 3) 16 (4 * a + t0) (fun k => nI (bb (so b (upN (bo b) (4 * a + t0) x1)) k)) (nI x2) (by omega) (by decide)) (va_cwS 3 hts gX4_way_X4_store rfl rfl rfl (by decide +kernel) ⟨Nat.le_of_ble_eq_true rfl, Nat.le_of_ble_eq_true rfl⟩) hK hP hD hS hA [5] (by decide) rfl rfl hl.1 rfl (Nat.le_of_ble_eq_true rfl) dX4_way_125 (Nat.zero_le _) (Nat.zero_le _) (fun r w1 H locs hQ hP hD hS => ?_)
    obtain ⟨rfl, rfl⟩ := hQ
    have hP : va_P C.1 vwCl ((List.flatten [wA C x nw tr hq iq tt sc z, wB C nw (so b (upN (bo b) (4 * a + t0) x1)), wHa C hq ba (kR n r) (kC n), wB C (ba 0) (upB ph (kJ n r) b 0), wB C (ba 1) (upB ph (kJ n r) b 1), wB C (ba 2) (upB ph (kJ n r) b 2), wB C (ba 3) (upB ph (kJ n r) b 3), wB C (ba 4) (upB ph (kJ n r) b 4), wB C (ba 5) (upB ph (kJ n r) b 5), wX C iq t f v o]).set 5 (nw 3, .inl (C.2.1, 16, .inl (upd (fun k => nI (bb (so b (upN (bo b) (4 * a + t0) x1)) k)) (4 * a + t0) (nI x2))))) H := hP
    have hD : va_D _ ((List.flatten [wA C x nw tr hq iq tt sc z, wB C nw (so b (upN (bo b) (4 * a + t0) x1)), wHa C hq ba (kR n r) (kC n), wB C (ba 0) (upB ph (kJ n r) b 0), wB C (ba 1) (upB ph (kJ n r) b 1), wB C (ba 2) (upB ph (kJ n r) b 2), wB C (ba 3) (upB ph (kJ n r) b 3), wB C (ba 4) (upB ph (kJ n r) b 4), wB C (ba 5) (upB ph (kJ n r) b 5), wX C iq t f v o]).set 5 (nw 3, .inl (C.2.1, 16, .inl (upd (fun k => nI (bb (so b (upN (bo b) (4 * a + t0) x1)) k)) (4 * a + t0) (nI x2))))) := hD
    rw [q_fset [wA C x nw tr hq iq tt sc z, wB C nw (so b (upN (bo b) (4 * a + t0) x1)), wHa C hq ba (kR n r) (kC n), wB C (ba 0) (upB ph (kJ n r) b 0), wB C (ba 1) (upB ph (kJ n r) b 1), wB C (ba 2) (upB ph (kJ n r) b 2), wB C (ba 3) (upB ph (kJ n r) b 3), wB C (ba 4) (upB ph (kJ n r) b 4), wB C (ba 5) (upB ph (kJ n r) b 5), wX C iq t f v o] 1 3 5 (B := wB C nw (so b (upN (bo b) (4 * a + t0) x1))) rfl (Nat.le_of_ble_eq_true rfl) rfl, q_upd] at hP hD
    have hP : va_P C.1 vwCl (List.flatten [wA C x nw tr hq iq tt sc z, ([(nw 0, .inr (0, [.ref (nw 1), .ref (nw 2), .ref (nw 3), .ref (nw 4), .ref (nw 5), .ref (nw 6), .ref (nw 7), .int (nI (bx (so b (upN (bo b) (4 * a + t0) x1)))), .int (nI (bl (so b (upN (bo b) (4 * a + t0) x1))) - 1), .long (br (so b (upN (bo b) (4 * a + t0) x1))), .long (lN (bw (so b (upN (bo b) (4 * a + t0) x1)))), .long (bz (so b (upN (bo b) (4 * a + t0) x1)))])), (nw 1, .inl (C.2.1, 16, .inl (fun k => nI (bg (so b (upN (bo b) (4 * a + t0) x1)) k)))), (nw 2, .inl (C.2.1, 16, .inl (fun k => nI (bo (so b (upN (bo b) (4 * a + t0) x1)) k)))), (nw 3, .inl (C.2.1, 16, .inl (fun k => nI (upN (bb (so b (upN (bo b) (4 * a + t0) x1))) (4 * a + t0) x2 k)))), (nw 4, .inl (C.2.1, 16, .inl (fun k => nI (bc (so b (upN (bo b) (4 * a + t0) x1)) k)))), (nw 5, .inl (C.2.1, 4, .inl (fun k => nI (bp (so b (upN (bo b) (4 * a + t0) x1)) k)))), (nw 6, .inl (C.2.1, 4, .inl (fun k => nI (bu (so b (upN (bo b) (4 * a + t0) x1)) k)))), (nw 7, .inl (C.2.1, 4, .inl (fun k => nI (bs (so b (upN (bo b) (4 * a + t0) x1)) k))))] : va_W), wHa C hq ba (kR n r) (kC n), wB C (ba 0) (upB ph (kJ n r) b 0), wB C (ba 1) (upB ph (kJ n r) b 1), wB C (ba 2) (upB ph (kJ n r) b 2), wB C (ba 3) (upB ph (kJ n r) b 3), wB C (ba 4) (upB ph (kJ n r) b 4), wB C (ba 5) (upB ph (kJ n r) b 5), wX C iq t f v o]) H := hP
    have hD : va_D (q_A (List.flatten [wA C x nw tr hq iq tt sc z, wB C nw b, wHa C hq ba r n, wB C (ba 0) (ph 0), wB C (ba 1) (ph 1), wB C (ba 2) (ph 2), wB C (ba 3) (ph 3), wB C (ba 4) (ph 4), wB C (ba 5) (ph 5), wX C iq t f v o]) s) (List.flatten [wA C x nw tr hq iq tt sc z, ([(nw 0, .inr (0, [.ref (nw 1), .ref (nw 2), .ref (nw 3), .ref (nw 4), .ref (nw 5), .ref (nw 6), .ref (nw 7), .int (nI (bx (so b (upN (bo b) (4 * a + t0) x1)))), .int (nI (bl (so b (upN (bo b) (4 * a + t0) x1))) - 1), .long (br (so b (upN (bo b) (4 * a + t0) x1))), .long (lN (bw (so b (upN (bo b) (4 * a + t0) x1)))), .long (bz (so b (upN (bo b) (4 * a + t0) x1)))])), (nw 1, .inl (C.2.1, 16, .inl (fun k => nI (bg (so b (upN (bo b) (4 * a + t0) x1)) k)))), (nw 2, .inl (C.2.1, 16, .inl (fun k => nI (bo (so b (upN (bo b) (4 * a + t0) x1)) k)))), (nw 3, .inl (C.2.1, 16, .inl (fun k => nI (upN (bb (so b (upN (bo b) (4 * a + t0) x1))) (4 * a + t0) x2 k)))), (nw 4, .inl (C.2.1, 16, .inl (fun k => nI (bc (so b (upN (bo b) (4 * a + t0) x1)) k)))), (nw 5, .inl (C.2.1, 4, .inl (fun k => nI (bp (so b (upN (bo b) (4 * a + t0) x1)) k)))), (nw 6, .inl (C.2.1, 4, .inl (fun k => nI (bu (so b (upN (bo b) (4 * a + t0) x1)) k)))), (nw 7, .inl (C.2.1, 4, .inl (fun k => nI (bs (so b (upN (bo b) (4 * a + t0) x1)) k))))] : va_W), wHa C hq ba (kR n r) (kC n), wB C (ba 0) (upB ph (kJ n r) b 0), wB C (ba 1) (upB ph (kJ n r) b 1), wB C (ba 2) (upB ph (kJ n r) b 2), wB C (ba 3) (upB ph (kJ n r) b 3), wB C (ba 4) (upB ph (kJ n r) b 4), wB C (ba 5) (upB ph (kJ n r) b 5), wX C iq t f v o]) := hD
    refine W.eq (g2 := F0 m 128 ls []) rfl ?_
    have hP : va_P C.1 vwCl (List.flatten [wA C x nw tr hq iq tt sc z, wB C nw (sb (so b (upN (bo b) (4 * a + t0) x1)) (upN (bb b) (4 * a + t0) x2)), wHa C hq ba (kR n r) (kC n), wB C (ba 0) (upB ph (kJ n r) b 0), wB C (ba 1) (upB ph (kJ n r) b 1), wB C (ba 2) (upB ph (kJ n r) b 2), wB C (ba 3) (upB ph (kJ n r) b 3), wB C (ba 4) (upB ph (kJ n r) b 4), wB C (ba 5) (upB ph (kJ n r) b 5), wX C iq t f v o]) H := hP
    have hD : va_D (q_A (List.flatten [wA C x nw tr hq iq tt sc z, wB C nw b, wHa C hq ba r n, wB C (ba 0) (ph 0), wB C (ba 1) (ph 1), wB C (ba 2) (ph 2), wB C (ba 3) (ph 3), wB C (ba 4) (ph 4), wB C (ba 5) (ph 5), wX C iq t f v o]) s) (List.flatten [wA C x nw tr hq iq tt sc z, wB C nw (sb (so b (upN (bo b) (4 * a + t0) x1)) (upN (bb b) (4 * a + t0) x2)), wHa C hq ba (kR n r) (kC n), wB C (ba 0) (upB ph (kJ n r) b 0), wB C (ba 1) (upB ph (kJ n r) b 1), wB C (ba 2) (upB ph (kJ n r) b 2), wB C (ba 3) (upB ph (kJ n r) b 3), wB C (ba 4) (upB ph (kJ n r) b 4), wB C (ba 5) (upB ph (kJ n r) b 5), wX C iq t f v o]) := hD
    refine lv_aload_n hx hb dX4_way_128 rfl (lv_at hl 2 rfl) ?_
    refine va_get (ci := 4) (v := .ref (nw 0)) (C := RX4) (T := TX4) (N := 6) hx hb hts hin4 hown hK.1 hP 0 rfl rfl 0 (by decide) hf10 (fun _ h9 => h9) rfl dX4_way_129 ?_
    refine va_get (ci := 0) (v := .ref (nw 4)) (C := RX0) (T := TX0) (N := 12) hx hb hts hin0 hown hK.1 hP 2 rfl rfl 3 (by decide) hf91 (fun _ h9 => h9) rfl dX4_way_132 ?_
    refine lv_iload hx hb dX4_way_135 (lv_at hl 1 rfl) ?_
    refine lv_iload hx hb dX4_way_137 (lv_at hl 7 rfl) ?_
    refine q_S (As := [.ref (nw 4), .int (nI (4 * a + t0)), .int (nI x3)]) (rest := []) ⟨hx, hb, hml, hown, hts⟩ (c_X4_store l C (nw 4) 16 (4 * a + t0) (fun k => nI (bc (sb (so b (upN (bo b) (4 * a + t0) x1)) (upN (bb b) (4 * a + t0) x2)) k)) (nI x3) (by omega) (by decide)) (va_cwS 3 hts gX4_way_X4_store rfl rfl rfl (by decide +kernel) ⟨Nat.le_of_ble_eq_true rfl, Nat.le_of_ble_eq_true rfl⟩) hK hP hD hS hA [6] (by decide) rfl rfl hl.1 rfl (Nat.le_of_ble_eq_true rfl) dX4_way_139 (Nat.zero_le _) (Nat.zero_le _) (fun r w1 H locs hQ hP hD hS => ?_)
    obtain ⟨rfl, rfl⟩ := hQ
    have hP : va_P C.1 vwCl ((List.flatten [wA C x nw tr hq iq tt sc z, wB C nw (sb (so b (upN (bo b) (4 * a + t0) x1)) (upN (bb b) (4 * a + t0) x2)), wHa C hq ba (kR n r) (kC n), wB C (ba 0) (upB ph (kJ n r) b 0), wB C (ba 1) (upB ph (kJ n r) b 1), wB C (ba 2) (upB ph (kJ n r) b 2), wB C (ba 3) (upB ph (kJ n r) b 3), wB C (ba 4) (upB ph (kJ n r) b 4), wB C (ba 5) (upB ph (kJ n r) b 5), wX C iq t f v o]).set 6 (nw 4, .inl (C.2.1, 16, .inl (upd (fun k => nI (bc (sb (so b (upN (bo b) (4 * a + t0) x1)) (upN (bb b) (4 * a + t0) x2)) k)) (4 * a + t0) (nI x3))))) H := hP
    have hD : va_D _ ((List.flatten [wA C x nw tr hq iq tt sc z, wB C nw (sb (so b (upN (bo b) (4 * a + t0) x1)) (upN (bb b) (4 * a + t0) x2)), wHa C hq ba (kR n r) (kC n), wB C (ba 0) (upB ph (kJ n r) b 0), wB C (ba 1) (upB ph (kJ n r) b 1), wB C (ba 2) (upB ph (kJ n r) b 2), wB C (ba 3) (upB ph (kJ n r) b 3), wB C (ba 4) (upB ph (kJ n r) b 4), wB C (ba 5) (upB ph (kJ n r) b 5), wX C iq t f v o]).set 6 (nw 4, .inl (C.2.1, 16, .inl (upd (fun k => nI (bc (sb (so b (upN (bo b) (4 * a + t0) x1)) (upN (bb b) (4 * a + t0) x2)) k)) (4 * a + t0) (nI x3))))) := hD
    rw [q_fset [wA C x nw tr hq iq tt sc z, wB C nw (sb (so b (upN (bo b) (4 * a + t0) x1)) (upN (bb b) (4 * a + t0) x2)), wHa C hq ba (kR n r) (kC n), wB C (ba 0) (upB ph (kJ n r) b 0), wB C (ba 1) (upB ph (kJ n r) b 1), wB C (ba 2) (upB ph (kJ n r) b 2), wB C (ba 3) (upB ph (kJ n r) b 3), wB C (ba 4) (upB ph (kJ n r) b 4), wB C (ba 5) (upB ph (kJ n r) b 5), wX C iq t f v o] 1 4 6 (B := wB C nw (sb (so b (upN (bo b) (4 * a + t0) x1)) (upN (bb b) (4 * a + t0) x2))) rfl (Nat.le_of_ble_eq_true rfl) rfl, q_upd] at hP hD
    have hP : va_P C.1 vwCl (List.flatten [wA C x nw tr hq iq tt sc z, ([(nw 0, .inr (0, [.ref (nw 1), .ref (nw 2), .ref (nw 3), .ref (nw 4), .ref (nw 5), .ref (nw 6), .ref (nw 7), .int (nI (bx (sb (so b (upN (bo b) (4 * a + t0) x1)) (upN (bb b) (4 * a + t0) x2)))), .int (nI (bl (sb (so b (upN (bo b) (4 * a + t0) x1)) (upN (bb b) (4 * a + t0) x2))) - 1), .long (br (sb (so b (upN (bo b) (4 * a + t0) x1)) (upN (bb b) (4 * a + t0) x2))), .long (lN (bw (sb (so b (upN (bo b) (4 * a + t0) x1)) (upN (bb b) (4 * a + t0) x2)))), .long (bz (sb (so b (upN (bo b) (4 * a + t0) x1)) (upN (bb b) (4 * a + t0) x2)))])), (nw 1, .inl (C.2.1, 16, .inl (fun k => nI (bg (sb (so b (upN (bo b) (4 * a + t0) x1)) (upN (bb b) (4 * a + t0) x2)) k)))), (nw 2, .inl (C.2.1, 16, .inl (fun k => nI (bo (sb (so b (upN (bo b) (4 * a + t0) x1)) (upN (bb b) (4 * a + t0) x2)) k)))), (nw 3, .inl (C.2.1, 16, .inl (fun k => nI (bb (sb (so b (upN (bo b) (4 * a + t0) x1)) (upN (bb b) (4 * a + t0) x2)) k)))), (nw 4, .inl (C.2.1, 16, .inl (fun k => nI (upN (bc (sb (so b (upN (bo b) (4 * a + t0) x1)) (upN (bb b) (4 * a + t0) x2))) (4 * a + t0) x3 k)))), (nw 5, .inl (C.2.1, 4, .inl (fun k => nI (bp (sb (so b (upN (bo b) (4 * a + t0) x1)) (upN (bb b) (4 * a + t0) x2)) k)))), (nw 6, .inl (C.2.1, 4, .inl (fun k => nI (bu (sb (so b (upN (bo b) (4 * a + t0) x1)) (upN (bb b) (4 * a + t0) x2)) k)))), (nw 7, .inl (C.2.1, 4, .inl (fun k => nI (bs (sb (so b (upN (bo b) (4 * a + t0) x1)) (upN (bb b) (4 * a + t0) x2)) k))))] : va_W), wHa C hq ba (kR n r) (kC n), wB C (ba 0) (upB ph (kJ n r) b 0), wB C (ba 1) (upB ph (kJ n r) b 1), wB C (ba 2) (upB ph (kJ n r) b 2), wB C (ba 3) (upB ph (kJ n r) b 3), wB C (ba 4) (upB ph (kJ n r) b 4), wB C (ba 5) (upB ph (kJ n r) b 5), wX C iq t f v o]) H := hP
    have hD : va_D (q_A (List.flatten [wA C x nw tr hq iq tt sc z, wB C nw b, wHa C hq ba r n, wB C (ba 0) (ph 0), wB C (ba 1) (ph 1), wB C (ba 2) (ph 2), wB C (ba 3) (ph 3), wB C (ba 4) (ph 4), wB C (ba 5) (ph 5), wX C iq t f v o]) s) (List.flatten [wA C x nw tr hq iq tt sc z, ([(nw 0, .inr (0, [.ref (nw 1), .ref (nw 2), .ref (nw 3), .ref (nw 4), .ref (nw 5), .ref (nw 6), .ref (nw 7), .int (nI (bx (sb (so b (upN (bo b) (4 * a + t0) x1)) (upN (bb b) (4 * a + t0) x2)))), .int (nI (bl (sb (so b (upN (bo b) (4 * a + t0) x1)) (upN (bb b) (4 * a + t0) x2))) - 1), .long (br (sb (so b (upN (bo b) (4 * a + t0) x1)) (upN (bb b) (4 * a + t0) x2))), .long (lN (bw (sb (so b (upN (bo b) (4 * a + t0) x1)) (upN (bb b) (4 * a + t0) x2)))), .long (bz (sb (so b (upN (bo b) (4 * a + t0) x1)) (upN (bb b) (4 * a + t0) x2)))])), (nw 1, .inl (C.2.1, 16, .inl (fun k => nI (bg (sb (so b (upN (bo b) (4 * a + t0) x1)) (upN (bb b) (4 * a + t0) x2)) k)))), (nw 2, .inl (C.2.1, 16, .inl (fun k => nI (bo (sb (so b (upN (bo b) (4 * a + t0) x1)) (upN (bb b) (4 * a + t0) x2)) k)))), (nw 3, .inl (C.2.1, 16, .inl (fun k => nI (bb (sb (so b (upN (bo b) (4 * a + t0) x1)) (upN (bb b) (4 * a + t0) x2)) k)))), (nw 4, .inl (C.2.1, 16, .inl (fun k => nI (upN (bc (sb (so b (upN (bo b) (4 * a + t0) x1)) (upN (bb b) (4 * a + t0) x2))) (4 * a + t0) x3 k)))), (nw 5, .inl (C.2.1, 4, .inl (fun k => nI (bp (sb (so b (upN (bo b) (4 * a + t0) x1)) (upN (bb b) (4 * a + t0) x2)) k)))), (nw 6, .inl (C.2.1, 4, .inl (fun k => nI (bu (sb (so b (upN (bo b) (4 * a + t0) x1)) (upN (bb b) (4 * a + t0) x2)) k)))), (nw 7, .inl (C.2.1, 4, .inl (fun k => nI (bs (sb (so b (upN (bo b) (4 * a + t0) x1)) (upN (bb b) (4 * a + t0) x2)) k))))] : va_W), wHa C hq ba (kR n r) (kC n), wB C (ba 0) (upB ph (kJ n r) b 0), wB C (ba 1) (upB ph (kJ n r) b 1), wB C (ba 2) (upB ph (kJ n r) b 2), wB C (ba 3) (upB ph (kJ n r) b 3), wB C (ba 4) (upB ph (kJ n r) b 4), wB C (ba 5) (upB ph (kJ n r) b 5), wX C iq t f v o]) := hD
    refine W.eq (g2 := F0 m 142 ls []) rfl ?_
    have hP : va_P C.1 vwCl (List.flatten [wA C x nw tr hq iq tt sc z, wB C nw (setC (sb (so b (upN (bo b) (4 * a + t0) x1)) (upN (bb b) (4 * a + t0) x2)) (upN (bc b) (4 * a + t0) x3)), wHa C hq ba (kR n r) (kC n), wB C (ba 0) (upB ph (kJ n r) b 0), wB C (ba 1) (upB ph (kJ n r) b 1), wB C (ba 2) (upB ph (kJ n r) b 2), wB C (ba 3) (upB ph (kJ n r) b 3), wB C (ba 4) (upB ph (kJ n r) b 4), wB C (ba 5) (upB ph (kJ n r) b 5), wX C iq t f v o]) H := hP
    have hD : va_D (q_A (List.flatten [wA C x nw tr hq iq tt sc z, wB C nw b, wHa C hq ba r n, wB C (ba 0) (ph 0), wB C (ba 1) (ph 1), wB C (ba 2) (ph 2), wB C (ba 3) (ph 3), wB C (ba 4) (ph 4), wB C (ba 5) (ph 5), wX C iq t f v o]) s) (List.flatten [wA C x nw tr hq iq tt sc z, wB C nw (setC (sb (so b (upN (bo b) (4 * a + t0) x1)) (upN (bb b) (4 * a + t0) x2)) (upN (bc b) (4 * a + t0) x3)), wHa C hq ba (kR n r) (kC n), wB C (ba 0) (upB ph (kJ n r) b 0), wB C (ba 1) (upB ph (kJ n r) b 1), wB C (ba 2) (upB ph (kJ n r) b 2), wB C (ba 3) (upB ph (kJ n r) b 3), wB C (ba 4) (upB ph (kJ n r) b 4), wB C (ba 5) (upB ph (kJ n r) b 5), wX C iq t f v o]) := hD
    refine lv_aload_n hx hb dX4_way_142 rfl (lv_at hl 2 rfl) ?_
    refine va_get (ci := 4) (v := .ref (iq 0)) (C := RX4) (T := TX4) (N := 6) hx hb hts hin4 hown hK.1 hP 0 rfl rfl 3 (by decide) hf29 (fun _ h9 => h9) rfl dX4_way_143 ?_
    refine lv_iload_n hx hb dX4_way_146 rfl (lv_at hl 3 rfl) ?_
    refine q_VB (cs := [wX C iq t f v o]) (As := [.int (nI a)]) (rest := []) ⟨hx, hb, hml, hown, hts⟩ (c_X2_forgetArm l C iq t f v o a (by omega)) (cwV 1 hts gX4_way_X2_forgetArm rfl rfl rfl (by decide +kernel) ⟨Nat.le_of_ble_eq_true rfl, Nat.le_of_ble_eq_true rfl⟩) hK hP hD hS hA [9] (by decide) rfl 60 rfl rfl rfl rfl hl.1 rfl (Nat.le_of_ble_eq_true rfl) dX4_way_147 (Nat.zero_le _) (Nat.zero_le _) (fun r w1 H locs hQ hF hS => ?_)
    obtain ⟨rfl, rfl⟩ := hQ
    obtain ⟨hP, hD⟩ := hF [wX C iq t (upN f a 0) v o] rfl rfl
    have hP : va_P C.1 vwCl (List.flatten [wA C x nw tr hq iq tt sc z, wB C nw (setC (sb (so b (upN (bo b) (4 * a + t0) x1)) (upN (bb b) (4 * a + t0) x2)) (upN (bc b) (4 * a + t0) x3)), wHa C hq ba (kR n r) (kC n), wB C (ba 0) (upB ph (kJ n r) b 0), wB C (ba 1) (upB ph (kJ n r) b 1), wB C (ba 2) (upB ph (kJ n r) b 2), wB C (ba 3) (upB ph (kJ n r) b 3), wB C (ba 4) (upB ph (kJ n r) b 4), wB C (ba 5) (upB ph (kJ n r) b 5), wX C iq t (upN f a 0) v o]) H := hP
    have hD : va_D (q_A (List.flatten [wA C x nw tr hq iq tt sc z, wB C nw b, wHa C hq ba r n, wB C (ba 0) (ph 0), wB C (ba 1) (ph 1), wB C (ba 2) (ph 2), wB C (ba 3) (ph 3), wB C (ba 4) (ph 4), wB C (ba 5) (ph 5), wX C iq t f v o]) s) (List.flatten [wA C x nw tr hq iq tt sc z, wB C nw (setC (sb (so b (upN (bo b) (4 * a + t0) x1)) (upN (bb b) (4 * a + t0) x2)) (upN (bc b) (4 * a + t0) x3)), wHa C hq ba (kR n r) (kC n), wB C (ba 0) (upB ph (kJ n r) b 0), wB C (ba 1) (upB ph (kJ n r) b 1), wB C (ba 2) (upB ph (kJ n r) b 2), wB C (ba 3) (upB ph (kJ n r) b 3), wB C (ba 4) (upB ph (kJ n r) b 4), wB C (ba 5) (upB ph (kJ n r) b 5), wX C iq t (upN f a 0) v o]) := hD
    refine W.eq (g2 := F0 m 150 ls []) rfl ?_
    refine lv_iload hx hb dX4_way_150 (lv_at hl 0 rfl) ?_
    exact q_iret hx hb hr hlocks (w1 := List.flatten [wA C x nw tr hq iq tt sc z, wB C nw (setC (sb (so b (upN (bo b) (4 * a + t0) x1)) (upN (bb b) (4 * a + t0) x2)) (upN (bc b) (4 * a + t0) x3)), wHa C hq ba (kR n r) (kC n), wB C (ba 0) (upB ph (kJ n r) b 0), wB C (ba 1) (upB ph (kJ n r) b 1), wB C (ba 2) (upB ph (kJ n r) b 2), wB C (ba 3) (upB ph (kJ n r) b 3), wB C (ba 4) (upB ph (kJ n r) b 4), wB C (ba 5) (upB ph (kJ n r) b 5), wX C iq t (upN f a 0) v o]) hP hS rfl dX4_way_152 (⟨rfl, rfl⟩)
  · have c24 : decide (0 ≤ x3 ∧ x3 ≤ 8) = false := q_b0.mp c24
    exact absurd (show _ ∧ _ from ⟨by omega, by omega⟩) (of_decide_eq_false c24)
set_option maxHeartbeats 4000000 in
set_option maxRecDepth 100000 in
theorem c_X4_put (l : Launch) (C : q_C) (x : Nat) (nw tr hq iq tt : Nat → Nat) (sc : Nat) (z : Nat → Int) (ba : Nat → Nat → Nat) (ph : Nat → Bd) (r n : Nat) (b : Bd) (a t0 : Nat) (hr6 : r < 6) (hn6 : n ≤ 6) (ha : a < 4) (ht : t0 < 4) : q_M C l yX4_put wsX4_put 3 83 [.ref x, .int (nI a), .int (nI t0)] (List.flatten [wA C x nw tr hq iq tt sc z, wB C nw b, wHa C hq ba r n, wB C (ba 0) (ph 0), wB C (ba 1) (ph 1), wB C (ba 2) (ph 2), wB C (ba 3) (ph 3), wB C (ba 4) (ph 4), wB C (ba 5) (ph 5)]) (fun r2 w => r2 = some (.int (nI (bp b a))) ∧ w = List.flatten [wA C x nw tr hq iq tt sc z, wB C nw (sp b (upN (bp b) a t0)), wHa C hq ba (kR n r) (kC n), wB C (ba 0) (upB ph (kJ n r) b 0), wB C (ba 1) (upB ph (kJ n r) b 1), wB C (ba 2) (upB ph (kJ n r) b 2), wB C (ba 3) (upB ph (kJ n r) b 3), wB C (ba 4) (upB ph (kJ n r) b 4), wB C (ba 5) (upB ph (kJ n r) b 5)]) := by
  refine q_head (cc := cX4_put) (maxL := 4) (ret := (some .int)) (by decide +kernel) rfl (Nat.le_of_ble_eq_true rfl) ?_
  intro p e s m below meth c hx hb hr hlocks hml hown hts hK hP hD hS hA ls hl
  have hl : lv_has ls 4 [(0, .ref x), (1, .int (nI a)), (2, .int (nI t0))] := hl
  have hf10 := hts (.fieldLink RX4 10 "RestedArms" "now" "LRestedArms$Board;") (by decide +kernel)
  have hf22 := hts (.fieldLink RX4 22 "RestedArms" "history" "LRestedArms$History;") (by decide +kernel)
  have hf94 := hts (.fieldLink RX4 94 "RestedArms$Board" "places" "[I") (by decide +kernel)
  have hin0 : ∀ w ∈ u_ws RX0 TX0 12, w ∈ wsX4_put := by decide +kernel
  have hin4 : ∀ w ∈ u_ws RX4 TX4 6, w ∈ wsX4_put := by decide +kernel
  refine lv_iload_n hx hb dX4_put_0 rfl (lv_at hl 1 rfl) ?_
  refine lv_iload_n hx hb dX4_put_1 rfl (lv_at hl 2 rfl) ?_
  refine q_S0 (As := [.int (nI a), .int (nI t0)]) (rest := []) ⟨hx, hb, hml, hown, hts⟩ (c_X4_needState l C a t0 (by omega) (by omega)) (va_cwS 2 hts gX4_put_X4_needState rfl rfl rfl (by decide +kernel) ⟨Nat.le_of_ble_eq_true rfl, Nat.le_of_ble_eq_true rfl⟩) hK hP hD hS hA [] (by decide) rfl rfl hl.1 rfl (Nat.le_of_ble_eq_true rfl) dX4_put_2 (Nat.zero_le _) (Nat.zero_le _) (fun H locs hP hS => ?_)
  refine W.eq (g2 := F0 m 5 ls []) rfl ?_
  refine lv_aload_n hx hb dX4_put_5 rfl (lv_at hl 0 rfl) ?_
  refine va_get (ci := 4) (v := .ref (hq 0)) (C := RX4) (T := TX4) (N := 6) hx hb hts hin4 hown hK.1 hP 0 rfl rfl 2 (by decide) hf22 (fun _ h9 => h9) rfl dX4_put_6 ?_
  refine lv_aload_n hx hb dX4_put_9 rfl (lv_at hl 0 rfl) ?_
  refine va_get (ci := 4) (v := .ref (nw 0)) (C := RX4) (T := TX4) (N := 6) hx hb hts hin4 hown hK.1 hP 0 rfl rfl 0 (by decide) hf10 (fun _ h9 => h9) rfl dX4_put_10 ?_
  refine q_VB (cs := [wHa C hq ba r n, wB C (ba 0) (ph 0), wB C (ba 1) (ph 1), wB C (ba 2) (ph 2), wB C (ba 3) (ph 3), wB C (ba 4) (ph 4), wB C (ba 5) (ph 5), wB C nw b]) (As := [.ref (nw 0)]) (rest := []) ⟨hx, hb, hml, hown, hts⟩ (c_X1_keep l C hq ba ph r n nw b hr6 hn6) (cwV 1 hts gX4_put_X1_keep rfl rfl rfl (by decide +kernel) ⟨Nat.le_of_ble_eq_true rfl, Nat.le_of_ble_eq_true rfl⟩) hK hP hD hS hA [2, 3, 4, 5, 6, 7, 8, 1] (by decide) rfl 10 rfl rfl rfl rfl hl.1 rfl (Nat.le_of_ble_eq_true rfl) dX4_put_13 (Nat.zero_le _) (Nat.zero_le _) (fun r w1 H locs hQ hF hS => ?_)
  obtain ⟨rfl, rfl⟩ := hQ
  obtain ⟨hP, hD⟩ := hF [wHa C hq ba (kR n r) (kC n), wB C (ba 0) (upB ph (kJ n r) b 0), wB C (ba 1) (upB ph (kJ n r) b 1), wB C (ba 2) (upB ph (kJ n r) b 2), wB C (ba 3) (upB ph (kJ n r) b 3), wB C (ba 4) (upB ph (kJ n r) b 4), wB C (ba 5) (upB ph (kJ n r) b 5), wB C nw b] rfl rfl
  have hP : va_P C.1 vwCl (List.flatten [wA C x nw tr hq iq tt sc z, wB C nw b, wHa C hq ba (kR n r) (kC n), wB C (ba 0) (upB ph (kJ n r) b 0), wB C (ba 1) (upB ph (kJ n r) b 1), wB C (ba 2) (upB ph (kJ n r) b 2), wB C (ba 3) (upB ph (kJ n r) b 3), wB C (ba 4) (upB ph (kJ n r) b 4), wB C (ba 5) (upB ph (kJ n r) b 5)]) H := hP
  have hD : va_D (q_A (List.flatten [wA C x nw tr hq iq tt sc z, wB C nw b, wHa C hq ba r n, wB C (ba 0) (ph 0), wB C (ba 1) (ph 1), wB C (ba 2) (ph 2), wB C (ba 3) (ph 3), wB C (ba 4) (ph 4), wB C (ba 5) (ph 5)]) s) (List.flatten [wA C x nw tr hq iq tt sc z, wB C nw b, wHa C hq ba (kR n r) (kC n), wB C (ba 0) (upB ph (kJ n r) b 0), wB C (ba 1) (upB ph (kJ n r) b 1), wB C (ba 2) (upB ph (kJ n r) b 2), wB C (ba 3) (upB ph (kJ n r) b 3), wB C (ba 4) (upB ph (kJ n r) b 4), wB C (ba 5) (upB ph (kJ n r) b 5)]) := hD
  refine W.eq (g2 := F0 m 16 ls []) rfl ?_
  refine lv_aload_n hx hb dX4_put_16 rfl (lv_at hl 0 rfl) ?_
  refine va_get (ci := 4) (v := .ref (nw 0)) (C := RX4) (T := TX4) (N := 6) hx hb hts hin4 hown hK.1 hP 0 rfl rfl 0 (by decide) hf10 (fun _ h9 => h9) rfl dX4_put_17 ?_
  refine va_get (ci := 0) (v := .ref (nw 5)) (C := RX0) (T := TX0) (N := 12) hx hb hts hin0 hown hK.1 hP 2 rfl rfl 4 (by decide) hf94 (fun _ h9 => h9) rfl dX4_put_20 ?_
  refine lv_iload_n hx hb dX4_put_23 rfl (lv_at hl 1 rfl) ?_
  refine q_S0 (As := [.ref (nw 5), .int (nI a)]) (rest := []) ⟨hx, hb, hml, hown, hts⟩ (c_X4_at l C (nw 5) 4 a (fun k => nI (bp b k)) (by omega) (by decide)) (va_cwS 2 hts gX4_put_X4_at rfl rfl rfl (by decide +kernel) ⟨Nat.le_of_ble_eq_true rfl, Nat.le_of_ble_eq_true rfl⟩) hK hP hD hS hA [7] (by decide) rfl rfl hl.1 rfl (Nat.le_of_ble_eq_true rfl) dX4_put_24 (Nat.zero_le _) (Nat.zero_le _) (fun H locs hP hS => ?_)
  refine W.eq (g2 := F0 m 27 ls [.int (nI (bp b a))]) rfl ?_
  refine lv_istore_n (lv' := [(3, .int (nI (bp b a))), (0, .ref x), (1, .int (nI a)), (2, .int (nI t0))]) hx hb dX4_put_27 rfl hl (by decide) rfl (fun ls hl => ?_)
  refine lv_aload_n hx hb dX4_put_28 rfl (lv_at hl 1 rfl) ?_
  refine va_get (ci := 4) (v := .ref (nw 0)) (C := RX4) (T := TX4) (N := 6) hx hb hts hin4 hown hK.1 hP 0 rfl rfl 0 (by decide) hf10 (fun _ h9 => h9) rfl dX4_put_29 ?_
  refine va_get (ci := 0) (v := .ref (nw 5)) (C := RX0) (T := TX0) (N := 12) hx hb hts hin0 hown hK.1 hP 2 rfl rfl 4 (by decide) hf94 (fun _ h9 => h9) rfl dX4_put_32 ?_
  refine lv_iload_n hx hb dX4_put_35 rfl (lv_at hl 2 rfl) ?_
  refine lv_iload_n hx hb dX4_put_36 rfl (lv_at hl 3 rfl) ?_
  refine q_S (As := [.ref (nw 5), .int (nI a), .int (nI t0)]) (rest := []) ⟨hx, hb, hml, hown, hts⟩ (c_X4_store l C (nw 5) 4 a (fun k => nI (bp b k)) (nI t0) (by omega) (by decide)) (va_cwS 3 hts gX4_put_X4_store rfl rfl rfl (by decide +kernel) ⟨Nat.le_of_ble_eq_true rfl, Nat.le_of_ble_eq_true rfl⟩) hK hP hD hS hA [7] (by decide) rfl rfl hl.1 rfl (Nat.le_of_ble_eq_true rfl) dX4_put_37 (Nat.zero_le _) (Nat.zero_le _) (fun r w1 H locs hQ hP hD hS => ?_)
  obtain ⟨rfl, rfl⟩ := hQ
  have hP : va_P C.1 vwCl ((List.flatten [wA C x nw tr hq iq tt sc z, wB C nw b, wHa C hq ba (kR n r) (kC n), wB C (ba 0) (upB ph (kJ n r) b 0), wB C (ba 1) (upB ph (kJ n r) b 1), wB C (ba 2) (upB ph (kJ n r) b 2), wB C (ba 3) (upB ph (kJ n r) b 3), wB C (ba 4) (upB ph (kJ n r) b 4), wB C (ba 5) (upB ph (kJ n r) b 5)]).set 7 (nw 5, .inl (C.2.1, 4, .inl (upd (fun k => nI (bp b k)) a (nI t0))))) H := hP
  have hD : va_D _ ((List.flatten [wA C x nw tr hq iq tt sc z, wB C nw b, wHa C hq ba (kR n r) (kC n), wB C (ba 0) (upB ph (kJ n r) b 0), wB C (ba 1) (upB ph (kJ n r) b 1), wB C (ba 2) (upB ph (kJ n r) b 2), wB C (ba 3) (upB ph (kJ n r) b 3), wB C (ba 4) (upB ph (kJ n r) b 4), wB C (ba 5) (upB ph (kJ n r) b 5)]).set 7 (nw 5, .inl (C.2.1, 4, .inl (upd (fun k => nI (bp b k)) a (nI t0))))) := hD
  rw [q_fset [wA C x nw tr hq iq tt sc z, wB C nw b, wHa C hq ba (kR n r) (kC n), wB C (ba 0) (upB ph (kJ n r) b 0), wB C (ba 1) (upB ph (kJ n r) b 1), wB C (ba 2) (upB ph (kJ n r) b 2), wB C (ba 3) (upB ph (kJ n r) b 3), wB C (ba 4) (upB ph (kJ n r) b 4), wB C (ba 5) (upB ph (kJ n r) b 5)] 1 5 7 (B := wB C nw b) rfl (Nat.le_of_ble_eq_true rfl) rfl, q_upd] at hP hD
  have hP : va_P C.1 vwCl (List.flatten [wA C x nw tr hq iq tt sc z, ([(nw 0, .inr (0, [.ref (nw 1), .ref (nw 2), .ref (nw 3), .ref (nw 4), .ref (nw 5), .ref (nw 6), .ref (nw 7), .int (nI (bx b)), .int (nI (bl b) - 1), .long (br b), .long (lN (bw b)), .long (bz b)])), (nw 1, .inl (C.2.1, 16, .inl (fun k => nI (bg b k)))), (nw 2, .inl (C.2.1, 16, .inl (fun k => nI (bo b k)))), (nw 3, .inl (C.2.1, 16, .inl (fun k => nI (bb b k)))), (nw 4, .inl (C.2.1, 16, .inl (fun k => nI (bc b k)))), (nw 5, .inl (C.2.1, 4, .inl (fun k => nI (upN (bp b) a t0 k)))), (nw 6, .inl (C.2.1, 4, .inl (fun k => nI (bu b k)))), (nw 7, .inl (C.2.1, 4, .inl (fun k => nI (bs b k))))] : va_W), wHa C hq ba (kR n r) (kC n), wB C (ba 0) (upB ph (kJ n r) b 0), wB C (ba 1) (upB ph (kJ n r) b 1), wB C (ba 2) (upB ph (kJ n r) b 2), wB C (ba 3) (upB ph (kJ n r) b 3), wB C (ba 4) (upB ph (kJ n r) b 4), wB C (ba 5) (upB ph (kJ n r) b 5)]) H := hP
  have hD : va_D (q_A (List.flatten [wA C x nw tr hq iq tt sc z, wB C nw b, wHa C hq ba r n, wB C (ba 0) (ph 0), wB C (ba 1) (ph 1), wB C (ba 2) (ph 2), wB C (ba 3) (ph 3), wB C (ba 4) (ph 4), wB C (ba 5) (ph 5)]) s) (List.flatten [wA C x nw tr hq iq tt sc z, ([(nw 0, .inr (0, [.ref (nw 1), .ref (nw 2), .ref (nw 3), .ref (nw 4), .ref (nw 5), .ref (nw 6), .ref (nw 7), .int (nI (bx b)), .int (nI (bl b) - 1), .long (br b), .long (lN (bw b)), .long (bz b)])), (nw 1, .inl (C.2.1, 16, .inl (fun k => nI (bg b k)))), (nw 2, .inl (C.2.1, 16, .inl (fun k => nI (bo b k)))), (nw 3, .inl (C.2.1, 16, .inl (fun k => nI (bb b k)))), (nw 4, .inl (C.2.1, 16, .inl (fun k => nI (bc b k)))), (nw 5, .inl (C.2.1, 4, .inl (fun k => nI (upN (bp b) a t0 k)))), (nw 6, .inl (C.2.1, 4, .inl (fun k => nI (bu b k)))), (nw 7, .inl (C.2.1, 4, .inl (fun k => nI (bs b k))))] : va_W), wHa C hq ba (kR n r) (kC n), wB C (ba 0) (upB ph (kJ n r) b 0), wB C (ba 1) (upB ph (kJ n r) b 1), wB C (ba 2) (upB ph (kJ n r) b 2), wB C (ba 3) (upB ph (kJ n r) b 3), wB C (ba 4) (upB ph (kJ n r) b 4), wB C (ba 5) (upB ph (kJ n r) b 5)]) := hD
  refine W.eq (g2 := F0 m 40 ls []) rfl ?_
  have hP : va_P C.1 vwCl (List.flatten [wA C x nw tr hq iq tt sc z, wB C nw (sp b (upN (bp b) a t0)), wHa C hq ba (kR n r) (kC n), wB C (ba 0) (upB ph (kJ n r) b 0), wB C (ba 1) (upB ph (kJ n r) b 1), wB C (ba 2) (upB ph (kJ n r) b 2), wB C (ba 3) (upB ph (kJ n r) b 3), wB C (ba 4) (upB ph (kJ n r) b 4), wB C (ba 5) (upB ph (kJ n r) b 5)]) H := hP
  have hD : va_D (q_A (List.flatten [wA C x nw tr hq iq tt sc z, wB C nw b, wHa C hq ba r n, wB C (ba 0) (ph 0), wB C (ba 1) (ph 1), wB C (ba 2) (ph 2), wB C (ba 3) (ph 3), wB C (ba 4) (ph 4), wB C (ba 5) (ph 5)]) s) (List.flatten [wA C x nw tr hq iq tt sc z, wB C nw (sp b (upN (bp b) a t0)), wHa C hq ba (kR n r) (kC n), wB C (ba 0) (upB ph (kJ n r) b 0), wB C (ba 1) (upB ph (kJ n r) b 1), wB C (ba 2) (upB ph (kJ n r) b 2), wB C (ba 3) (upB ph (kJ n r) b 3), wB C (ba 4) (upB ph (kJ n r) b 4), wB C (ba 5) (upB ph (kJ n r) b 5)]) := hD
  refine lv_iload_n hx hb dX4_put_40 rfl (lv_at hl 0 rfl) ?_
  exact q_iret hx hb hr hlocks (w1 := List.flatten [wA C x nw tr hq iq tt sc z, wB C nw (sp b (upN (bp b) a t0)), wHa C hq ba (kR n r) (kC n), wB C (ba 0) (upB ph (kJ n r) b 0), wB C (ba 1) (upB ph (kJ n r) b 1), wB C (ba 2) (upB ph (kJ n r) b 2), wB C (ba 3) (upB ph (kJ n r) b 3), wB C (ba 4) (upB ph (kJ n r) b 4), wB C (ba 5) (upB ph (kJ n r) b 5)]) hP hS rfl dX4_put_41 (⟨rfl, rfl⟩)
set_option maxHeartbeats 4000000 in
set_option maxRecDepth 100000 in
theorem c_X4_pull (l : Launch) (C : q_C) (x : Nat) (nw tr hq iq tt : Nat → Nat) (sc : Nat) (z : Nat → Int) (ba : Nat → Nat → Nat) (ph : Nat → Bd) (r n : Nat) (b : Bd) (a : Nat) (hr6 : r < 6) (hn6 : n ≤ 6) (hB : OkB b) (ha : a < 4) (hU : sumU b < 9999) : q_M C l yX4_pull wsX4_pull 3 83 [.ref x, .int (nI a)] (List.flatten [wA C x nw tr hq iq tt sc z, wB C nw b, wHa C hq ba r n, wB C (ba 0) (ph 0), wB C (ba 1) (ph 1), wB C (ba 2) (ph 2), wB C (ba 3) (ph 3), wB C (ba 4) (ph 4), wB C (ba 5) (ph 5)]) (fun r2 w => r2 = some (.int (nI (bp (pulB b a) a))) ∧ w = List.flatten [wA C x nw tr hq iq tt sc z, wB C nw (pulB b a), wHa C hq ba (kR n r) (kC n), wB C (ba 0) (upB ph (kJ n r) b 0), wB C (ba 1) (upB ph (kJ n r) b 1), wB C (ba 2) (upB ph (kJ n r) b 2), wB C (ba 3) (upB ph (kJ n r) b 3), wB C (ba 4) (upB ph (kJ n r) b 4), wB C (ba 5) (upB ph (kJ n r) b 5)]) := by
  refine q_head (cc := cX4_pull) (maxL := 2) (ret := (some .int)) (by decide +kernel) rfl (Nat.le_of_ble_eq_true rfl) ?_
  intro p e s m below meth c hx hb hr hlocks hml hown hts hK hP hD hS hA ls hl
  have hl : lv_has ls 2 [(0, .ref x), (1, .int (nI a))] := hl
  have hf10 := hts (.fieldLink RX4 10 "RestedArms" "now" "LRestedArms$Board;") (by decide +kernel)
  have hf22 := hts (.fieldLink RX4 22 "RestedArms" "history" "LRestedArms$History;") (by decide +kernel)
  have hf94 := hts (.fieldLink RX4 94 "RestedArms$Board" "places" "[I") (by decide +kernel)
  have hin0 : ∀ w ∈ u_ws RX0 TX0 12, w ∈ wsX4_pull := by decide +kernel
  have hin4 : ∀ w ∈ u_ws RX4 TX4 6, w ∈ wsX4_pull := by decide +kernel
  refine lv_iload_n hx hb dX4_pull_0 rfl (lv_at hl 1 rfl) ?_
  refine q_S0 (As := [.int (nI a)]) (rest := []) ⟨hx, hb, hml, hown, hts⟩ (c_X4_needArm l C a (by omega)) (va_cwS 1 hts gX4_pull_X4_needArm rfl rfl rfl (by decide +kernel) ⟨Nat.le_of_ble_eq_true rfl, Nat.le_of_ble_eq_true rfl⟩) hK hP hD hS hA [] (by decide) rfl rfl hl.1 rfl (Nat.le_of_ble_eq_true rfl) dX4_pull_1 (Nat.zero_le _) (Nat.zero_le _) (fun H locs hP hS => ?_)
  refine W.eq (g2 := F0 m 4 ls []) rfl ?_
  refine lv_aload_n hx hb dX4_pull_4 rfl (lv_at hl 0 rfl) ?_
  refine va_get (ci := 4) (v := .ref (nw 0)) (C := RX4) (T := TX4) (N := 6) hx hb hts hin4 hown hK.1 hP 0 rfl rfl 0 (by decide) hf10 (fun _ h9 => h9) rfl dX4_pull_5 ?_
  refine q_V0 (As := []) (rest := []) ⟨hx, hb, hml, hown, hts⟩ (c_X0_allPulls l C nw b ) (cwV 0 hts gX4_pull_X0_allPulls rfl rfl rfl (by decide +kernel) ⟨Nat.le_of_ble_eq_true rfl, Nat.le_of_ble_eq_true rfl⟩) hK hP hD hS hA [2, 3, 4, 5, 6, 7, 8, 9] (by decide) rfl 2 rfl rfl rfl rfl hl.1 rfl (Nat.le_of_ble_eq_true rfl) dX4_pull_8 (Nat.zero_le _) (Nat.zero_le _) (fun H locs hP hS => ?_)
  refine W.eq (g2 := F0 m 11 ls [.int (nI (sumU b))]) rfl ?_
  refine lv_sipush (v := nI 9999) hx hb dX4_pull_11 (by decide) ?_
  refine lv_icmp_lt (tgt := 27) hx hb dX4_pull_14 (by decide) (fun c14 => ?_) (fun c14 => ?_)
  · have c14 : (sumU b) < 9999 := q_nlt (by omega) (by omega) c14
    refine lv_aload_n hx hb dX4_pull_27 rfl (lv_at hl 0 rfl) ?_
    refine va_get (ci := 4) (v := .ref (hq 0)) (C := RX4) (T := TX4) (N := 6) hx hb hts hin4 hown hK.1 hP 0 rfl rfl 2 (by decide) hf22 (fun _ h9 => h9) rfl dX4_pull_28 ?_
    refine lv_aload_n hx hb dX4_pull_31 rfl (lv_at hl 0 rfl) ?_
    refine va_get (ci := 4) (v := .ref (nw 0)) (C := RX4) (T := TX4) (N := 6) hx hb hts hin4 hown hK.1 hP 0 rfl rfl 0 (by decide) hf10 (fun _ h9 => h9) rfl dX4_pull_32 ?_
    refine q_VB (cs := [wHa C hq ba r n, wB C (ba 0) (ph 0), wB C (ba 1) (ph 1), wB C (ba 2) (ph 2), wB C (ba 3) (ph 3), wB C (ba 4) (ph 4), wB C (ba 5) (ph 5), wB C nw b]) (As := [.ref (nw 0)]) (rest := []) ⟨hx, hb, hml, hown, hts⟩ (c_X1_keep l C hq ba ph r n nw b hr6 hn6) (cwV 1 hts gX4_pull_X1_keep rfl rfl rfl (by decide +kernel) ⟨Nat.le_of_ble_eq_true rfl, Nat.le_of_ble_eq_true rfl⟩) hK hP hD hS hA [2, 3, 4, 5, 6, 7, 8, 1] (by decide) rfl 10 rfl rfl rfl rfl hl.1 rfl (Nat.le_of_ble_eq_true rfl) dX4_pull_35 (Nat.zero_le _) (Nat.zero_le _) (fun r w1 H locs hQ hF hS => ?_)
    obtain ⟨rfl, rfl⟩ := hQ
    obtain ⟨hP, hD⟩ := hF [wHa C hq ba (kR n r) (kC n), wB C (ba 0) (upB ph (kJ n r) b 0), wB C (ba 1) (upB ph (kJ n r) b 1), wB C (ba 2) (upB ph (kJ n r) b 2), wB C (ba 3) (upB ph (kJ n r) b 3), wB C (ba 4) (upB ph (kJ n r) b 4), wB C (ba 5) (upB ph (kJ n r) b 5), wB C nw b] rfl rfl
    have hP : va_P C.1 vwCl (List.flatten [wA C x nw tr hq iq tt sc z, wB C nw b, wHa C hq ba (kR n r) (kC n), wB C (ba 0) (upB ph (kJ n r) b 0), wB C (ba 1) (upB ph (kJ n r) b 1), wB C (ba 2) (upB ph (kJ n r) b 2), wB C (ba 3) (upB ph (kJ n r) b 3), wB C (ba 4) (upB ph (kJ n r) b 4), wB C (ba 5) (upB ph (kJ n r) b 5)]) H := hP
    have hD : va_D (q_A (List.flatten [wA C x nw tr hq iq tt sc z, wB C nw b, wHa C hq ba r n, wB C (ba 0) (ph 0), wB C (ba 1) (ph 1), wB C (ba 2) (ph 2), wB C (ba 3) (ph 3), wB C (ba 4) (ph 4), wB C (ba 5) (ph 5)]) s) (List.flatten [wA C x nw tr hq iq tt sc z, wB C nw b, wHa C hq ba (kR n r) (kC n), wB C (ba 0) (upB ph (kJ n r) b 0), wB C (ba 1) (upB ph (kJ n r) b 1), wB C (ba 2) (upB ph (kJ n r) b 2), wB C (ba 3) (upB ph (kJ n r) b 3), wB C (ba 4) (upB ph (kJ n r) b 4), wB C (ba 5) (upB ph (kJ n r) b 5)]) := hD
    refine W.eq (g2 := F0 m 38 ls []) rfl ?_
    refine lv_aload_n hx hb dX4_pull_38 rfl (lv_at hl 0 rfl) ?_
    refine va_get (ci := 4) (v := .ref (nw 0)) (C := RX4) (T := TX4) (N := 6) hx hb hts hin4 hown hK.1 hP 0 rfl rfl 0 (by decide) hf10 (fun _ h9 => h9) rfl dX4_pull_39 ?_
    refine lv_iload_n hx hb dX4_pull_42 rfl (lv_at hl 1 rfl) ?_
    refine q_VB (cs := [wB C nw b]) (As := [.int (nI a)]) (rest := []) ⟨hx, hb, hml, hown, hts⟩ (c_X0_pullOnce l C nw b a hB (by omega)) (cwV 1 hts gX4_pull_X0_pullOnce rfl rfl rfl (by decide +kernel) ⟨Nat.le_of_ble_eq_true rfl, Nat.le_of_ble_eq_true rfl⟩) hK hP hD hS hA [1] (by decide) rfl 2 rfl rfl rfl rfl hl.1 rfl (Nat.le_of_ble_eq_true rfl) dX4_pull_43 (Nat.zero_le _) (Nat.zero_le _) (fun r w1 H locs hQ hF hS => ?_)
    obtain ⟨rfl, rfl⟩ := hQ
    obtain ⟨hP, hD⟩ := hF [wB C nw (pulB b a)] rfl rfl
    have hP : va_P C.1 vwCl (List.flatten [wA C x nw tr hq iq tt sc z, wB C nw (pulB b a), wHa C hq ba (kR n r) (kC n), wB C (ba 0) (upB ph (kJ n r) b 0), wB C (ba 1) (upB ph (kJ n r) b 1), wB C (ba 2) (upB ph (kJ n r) b 2), wB C (ba 3) (upB ph (kJ n r) b 3), wB C (ba 4) (upB ph (kJ n r) b 4), wB C (ba 5) (upB ph (kJ n r) b 5)]) H := hP
    have hD : va_D (q_A (List.flatten [wA C x nw tr hq iq tt sc z, wB C nw b, wHa C hq ba r n, wB C (ba 0) (ph 0), wB C (ba 1) (ph 1), wB C (ba 2) (ph 2), wB C (ba 3) (ph 3), wB C (ba 4) (ph 4), wB C (ba 5) (ph 5)]) s) (List.flatten [wA C x nw tr hq iq tt sc z, wB C nw (pulB b a), wHa C hq ba (kR n r) (kC n), wB C (ba 0) (upB ph (kJ n r) b 0), wB C (ba 1) (upB ph (kJ n r) b 1), wB C (ba 2) (upB ph (kJ n r) b 2), wB C (ba 3) (upB ph (kJ n r) b 3), wB C (ba 4) (upB ph (kJ n r) b 4), wB C (ba 5) (upB ph (kJ n r) b 5)]) := hD
    refine W.eq (g2 := F0 m 46 ls []) rfl ?_
    refine lv_aload_n hx hb dX4_pull_46 rfl (lv_at hl 0 rfl) ?_
    refine va_get (ci := 4) (v := .ref (nw 0)) (C := RX4) (T := TX4) (N := 6) hx hb hts hin4 hown hK.1 hP 0 rfl rfl 0 (by decide) hf10 (fun _ h9 => h9) rfl dX4_pull_47 ?_
    refine va_get (ci := 0) (v := .ref (nw 5)) (C := RX0) (T := TX0) (N := 12) hx hb hts hin0 hown hK.1 hP 2 rfl rfl 4 (by decide) hf94 (fun _ h9 => h9) rfl dX4_pull_50 ?_
    refine lv_iload_n hx hb dX4_pull_53 rfl (lv_at hl 1 rfl) ?_
    refine q_S0 (As := [.ref (nw 5), .int (nI a)]) (rest := []) ⟨hx, hb, hml, hown, hts⟩ (c_X4_at l C (nw 5) 4 a (fun k => nI (bp (pulB b a) k)) (by omega) (by decide)) (va_cwS 2 hts gX4_pull_X4_at rfl rfl rfl (by decide +kernel) ⟨Nat.le_of_ble_eq_true rfl, Nat.le_of_ble_eq_true rfl⟩) hK hP hD hS hA [7] (by decide) rfl rfl hl.1 rfl (Nat.le_of_ble_eq_true rfl) dX4_pull_54 (Nat.zero_le _) (Nat.zero_le _) (fun H locs hP hS => ?_)
    refine W.eq (g2 := F0 m 57 ls [.int (nI (bp (pulB b a) a))]) rfl ?_
    exact q_iret hx hb hr hlocks (w1 := List.flatten [wA C x nw tr hq iq tt sc z, wB C nw (pulB b a), wHa C hq ba (kR n r) (kC n), wB C (ba 0) (upB ph (kJ n r) b 0), wB C (ba 1) (upB ph (kJ n r) b 1), wB C (ba 2) (upB ph (kJ n r) b 2), wB C (ba 3) (upB ph (kJ n r) b 3), wB C (ba 4) (upB ph (kJ n r) b 4), wB C (ba 5) (upB ph (kJ n r) b 5)]) hP hS rfl dX4_pull_57 (⟨rfl, rfl⟩)
  · have c14 : 9999 ≤ (sumU b) := q_nlt' (by omega) (by omega) c14
    exact absurd hU (by omega)
set_option maxHeartbeats 4000000 in
set_option maxRecDepth 100000 in
theorem c_X4_play (l : Launch) (C : q_C) (x : Nat) (nw tr hq iq tt : Nat → Nat) (sc : Nat) (z : Nat → Int) (ba : Nat → Nat → Nat) (ph : Nat → Bd) (r n : Nat) (b : Bd) (t f v o : Nat → Nat) (rule k : Nat) (hr6 : r < 6) (hn6 : n ≤ 6) (hB : OkB b) (hr3 : rule < 3) (h1 : 1 ≤ k) (h2 : k ≤ 99) (hs : sumU b + k ≤ 9999) (hfr : frB b t f) : q_M C l yX4_play wsX4_play 5 117 [.ref x, .int (nI rule), .int (nI k)] (List.flatten [wA C x nw tr hq iq tt sc z, wB C nw b, wHa C hq ba r n, wB C (ba 0) (ph 0), wB C (ba 1) (ph 1), wB C (ba 2) (ph 2), wB C (ba 3) (ph 3), wB C (ba 4) (ph 4), wB C (ba 5) (ph 5), wX C iq t f v o]) (fun r2 w => ∃ z1 v1 o1, r2 = some (.int (nI (bx (plN b (idxT b) rule k)) - nI (bx b))) ∧ w = List.flatten [wA C x nw tr hq iq tt sc z1, wB C nw (plN b (idxT b) rule k), wHa C hq ba (kR n r) (kC n), wB C (ba 0) (upB ph (kJ n r) b 0), wB C (ba 1) (upB ph (kJ n r) b 1), wB C (ba 2) (upB ph (kJ n r) b 2), wB C (ba 3) (upB ph (kJ n r) b 3), wB C (ba 4) (upB ph (kJ n r) b 4), wB C (ba 5) (upB ph (kJ n r) b 5), wX C iq (idxT b) (fun _ => 1) v1 o1]) := by
  refine q_head (cc := cX4_play) (maxL := 4) (ret := (some .int)) (by decide +kernel) rfl (Nat.le_of_ble_eq_true rfl) ?_
  intro p e s m below meth c hx hb hr hlocks hml hown hts hK hP hD hS hA ls hl
  have hl : lv_has ls 4 [(0, .ref x), (1, .int (nI rule)), (2, .int (nI k))] := hl
  have hf10 := hts (.fieldLink RX4 10 "RestedArms" "now" "LRestedArms$Board;") (by decide +kernel)
  have hf140 := hts (.fieldLink RX4 140 "RestedArms$Board" "changes" "I") (by decide +kernel)
  have hf22 := hts (.fieldLink RX4 22 "RestedArms" "history" "LRestedArms$History;") (by decide +kernel)
  have hf29 := hts (.fieldLink RX4 29 "RestedArms" "indices" "LRestedArms$Indices;") (by decide +kernel)
  have hin0 : ∀ w ∈ u_ws RX0 TX0 12, w ∈ wsX4_play := by decide +kernel
  have hin4 : ∀ w ∈ u_ws RX4 TX4 6, w ∈ wsX4_play := by decide +kernel
  refine lv_iload_n hx hb dX4_play_0 rfl (lv_at hl 1 rfl) ?_
  refine q_S0 (As := [.int (nI rule)]) (rest := []) ⟨hx, hb, hml, hown, hts⟩ (c_X4_needRule l C rule (by omega)) (va_cwS 1 hts gX4_play_X4_needRule rfl rfl rfl (by decide +kernel) ⟨Nat.le_of_ble_eq_true rfl, Nat.le_of_ble_eq_true rfl⟩) hK hP hD hS hA [] (by decide) rfl rfl hl.1 rfl (Nat.le_of_ble_eq_true rfl) dX4_play_1 (Nat.zero_le _) (Nat.zero_le _) (fun H locs hP hS => ?_)
  refine W.eq (g2 := F0 m 4 ls []) rfl ?_
  refine lv_iload_n hx hb dX4_play_4 rfl (lv_at hl 2 rfl) ?_
  refine q_S0 (As := [.int (nI k)]) (rest := []) ⟨hx, hb, hml, hown, hts⟩ (c_X4_needPulls l C k (by omega) (by omega)) (va_cwS 1 hts gX4_play_X4_needPulls rfl rfl rfl (by decide +kernel) ⟨Nat.le_of_ble_eq_true rfl, Nat.le_of_ble_eq_true rfl⟩) hK hP hD hS hA [] (by decide) rfl rfl hl.1 rfl (Nat.le_of_ble_eq_true rfl) dX4_play_5 (Nat.zero_le _) (Nat.zero_le _) (fun H locs hP hS => ?_)
  refine W.eq (g2 := F0 m 8 ls []) rfl ?_
  refine lv_aload_n hx hb dX4_play_8 rfl (lv_at hl 0 rfl) ?_
  refine va_get (ci := 4) (v := .ref (nw 0)) (C := RX4) (T := TX4) (N := 6) hx hb hts hin4 hown hK.1 hP 0 rfl rfl 0 (by decide) hf10 (fun _ h9 => h9) rfl dX4_play_9 ?_
  refine q_V0 (As := []) (rest := []) ⟨hx, hb, hml, hown, hts⟩ (c_X0_allPulls l C nw b ) (cwV 0 hts gX4_play_X0_allPulls rfl rfl rfl (by decide +kernel) ⟨Nat.le_of_ble_eq_true rfl, Nat.le_of_ble_eq_true rfl⟩) hK hP hD hS hA [2, 3, 4, 5, 6, 7, 8, 9] (by decide) rfl 2 rfl rfl rfl rfl hl.1 rfl (Nat.le_of_ble_eq_true rfl) dX4_play_12 (Nat.zero_le _) (Nat.zero_le _) (fun H locs hP hS => ?_)
  refine W.eq (g2 := F0 m 15 ls [.int (nI (sumU b))]) rfl ?_
  refine lv_iload_n hx hb dX4_play_15 rfl (lv_at hl 2 rfl) ?_
  refine lv_iadd hx hb dX4_play_16 ?_
  refine q_ti (y := nI ((sumU b) + k)) (nI_add _ _) ?_
  refine lv_sipush (v := nI 9999) hx hb dX4_play_17 (by decide) ?_
  refine lv_icmp_le (tgt := 33) hx hb dX4_play_20 (by decide) (fun c20 => ?_) (fun c20 => ?_)
  · have c20 : ((sumU b) + k) ≤ 9999 := q_nle (by omega) (by omega) c20
    refine lv_aload_n hx hb dX4_play_33 rfl (lv_at hl 0 rfl) ?_
    refine va_get (ci := 4) (v := .ref (hq 0)) (C := RX4) (T := TX4) (N := 6) hx hb hts hin4 hown hK.1 hP 0 rfl rfl 2 (by decide) hf22 (fun _ h9 => h9) rfl dX4_play_34 ?_
    refine lv_aload_n hx hb dX4_play_37 rfl (lv_at hl 0 rfl) ?_
    refine va_get (ci := 4) (v := .ref (nw 0)) (C := RX4) (T := TX4) (N := 6) hx hb hts hin4 hown hK.1 hP 0 rfl rfl 0 (by decide) hf10 (fun _ h9 => h9) rfl dX4_play_38 ?_
    refine q_VB (cs := [wHa C hq ba r n, wB C (ba 0) (ph 0), wB C (ba 1) (ph 1), wB C (ba 2) (ph 2), wB C (ba 3) (ph 3), wB C (ba 4) (ph 4), wB C (ba 5) (ph 5), wB C nw b]) (As := [.ref (nw 0)]) (rest := []) ⟨hx, hb, hml, hown, hts⟩ (c_X1_keep l C hq ba ph r n nw b hr6 hn6) (cwV 1 hts gX4_play_X1_keep rfl rfl rfl (by decide +kernel) ⟨Nat.le_of_ble_eq_true rfl, Nat.le_of_ble_eq_true rfl⟩) hK hP hD hS hA [2, 3, 4, 5, 6, 7, 8, 1] (by decide) rfl 10 rfl rfl rfl rfl hl.1 rfl (Nat.le_of_ble_eq_true rfl) dX4_play_41 (Nat.zero_le _) (Nat.zero_le _) (fun r w1 H locs hQ hF hS => ?_)
    obtain ⟨rfl, rfl⟩ := hQ
    obtain ⟨hP, hD⟩ := hF [wHa C hq ba (kR n r) (kC n), wB C (ba 0) (upB ph (kJ n r) b 0), wB C (ba 1) (upB ph (kJ n r) b 1), wB C (ba 2) (upB ph (kJ n r) b 2), wB C (ba 3) (upB ph (kJ n r) b 3), wB C (ba 4) (upB ph (kJ n r) b 4), wB C (ba 5) (upB ph (kJ n r) b 5), wB C nw b] rfl rfl
    have hP : va_P C.1 vwCl (List.flatten [wA C x nw tr hq iq tt sc z, wB C nw b, wHa C hq ba (kR n r) (kC n), wB C (ba 0) (upB ph (kJ n r) b 0), wB C (ba 1) (upB ph (kJ n r) b 1), wB C (ba 2) (upB ph (kJ n r) b 2), wB C (ba 3) (upB ph (kJ n r) b 3), wB C (ba 4) (upB ph (kJ n r) b 4), wB C (ba 5) (upB ph (kJ n r) b 5), wX C iq t f v o]) H := hP
    have hD : va_D (q_A (List.flatten [wA C x nw tr hq iq tt sc z, wB C nw b, wHa C hq ba r n, wB C (ba 0) (ph 0), wB C (ba 1) (ph 1), wB C (ba 2) (ph 2), wB C (ba 3) (ph 3), wB C (ba 4) (ph 4), wB C (ba 5) (ph 5), wX C iq t f v o]) s) (List.flatten [wA C x nw tr hq iq tt sc z, wB C nw b, wHa C hq ba (kR n r) (kC n), wB C (ba 0) (upB ph (kJ n r) b 0), wB C (ba 1) (upB ph (kJ n r) b 1), wB C (ba 2) (upB ph (kJ n r) b 2), wB C (ba 3) (upB ph (kJ n r) b 3), wB C (ba 4) (upB ph (kJ n r) b 4), wB C (ba 5) (upB ph (kJ n r) b 5), wX C iq t f v o]) := hD
    refine W.eq (g2 := F0 m 44 ls []) rfl ?_
    refine lv_aload_n hx hb dX4_play_44 rfl (lv_at hl 0 rfl) ?_
    refine va_get (ci := 4) (v := .ref (iq 0)) (C := RX4) (T := TX4) (N := 6) hx hb hts hin4 hown hK.1 hP 0 rfl rfl 3 (by decide) hf29 (fun _ h9 => h9) rfl dX4_play_45 ?_
    refine lv_aload_n hx hb dX4_play_48 rfl (lv_at hl 0 rfl) ?_
    refine va_get (ci := 4) (v := .ref (nw 0)) (C := RX4) (T := TX4) (N := 6) hx hb hts hin4 hown hK.1 hP 0 rfl rfl 0 (by decide) hf10 (fun _ h9 => h9) rfl dX4_play_49 ?_
    refine q_VB (cs := [wX C iq t f v o, wB C nw b]) (As := [.ref (nw 0)]) (rest := []) ⟨hx, hb, hml, hown, hts⟩ (c_X2_refresh l C iq t f v o nw b hB hfr.1 hfr.2) (cwV 1 hts gX4_play_X2_refresh rfl rfl rfl (by decide +kernel) ⟨Nat.le_of_ble_eq_true rfl, Nat.le_of_ble_eq_true rfl⟩) hK hP hD hS hA [9, 1] (by decide) rfl 60 rfl rfl rfl rfl hl.1 rfl (Nat.le_of_ble_eq_true rfl) dX4_play_52 (Nat.zero_le _) (Nat.zero_le _) (fun r w1 H locs hQ hF hS => ?_)
    obtain ⟨vx1, ox1, rfl, rfl⟩ := hQ
    obtain ⟨hP, hD⟩ := hF [wX C iq (idxT b) (fun _ => 1) vx1 ox1, wB C nw b] rfl rfl
    have hP : va_P C.1 vwCl (List.flatten [wA C x nw tr hq iq tt sc z, wB C nw b, wHa C hq ba (kR n r) (kC n), wB C (ba 0) (upB ph (kJ n r) b 0), wB C (ba 1) (upB ph (kJ n r) b 1), wB C (ba 2) (upB ph (kJ n r) b 2), wB C (ba 3) (upB ph (kJ n r) b 3), wB C (ba 4) (upB ph (kJ n r) b 4), wB C (ba 5) (upB ph (kJ n r) b 5), wX C iq (idxT b) (fun _ => 1) vx1 ox1]) H := hP
    have hD : va_D (q_A (List.flatten [wA C x nw tr hq iq tt sc z, wB C nw b, wHa C hq ba r n, wB C (ba 0) (ph 0), wB C (ba 1) (ph 1), wB C (ba 2) (ph 2), wB C (ba 3) (ph 3), wB C (ba 4) (ph 4), wB C (ba 5) (ph 5), wX C iq t f v o]) s) (List.flatten [wA C x nw tr hq iq tt sc z, wB C nw b, wHa C hq ba (kR n r) (kC n), wB C (ba 0) (upB ph (kJ n r) b 0), wB C (ba 1) (upB ph (kJ n r) b 1), wB C (ba 2) (upB ph (kJ n r) b 2), wB C (ba 3) (upB ph (kJ n r) b 3), wB C (ba 4) (upB ph (kJ n r) b 4), wB C (ba 5) (upB ph (kJ n r) b 5), wX C iq (idxT b) (fun _ => 1) vx1 ox1]) := hD
    refine W.eq (g2 := F0 m 55 ls []) rfl ?_
    refine lv_aload_n hx hb dX4_play_55 rfl (lv_at hl 0 rfl) ?_
    refine va_get (ci := 4) (v := .ref (nw 0)) (C := RX4) (T := TX4) (N := 6) hx hb hts hin4 hown hK.1 hP 0 rfl rfl 0 (by decide) hf10 (fun _ h9 => h9) rfl dX4_play_56 ?_
    refine va_get (ci := 0) (v := .int (nI (bx b))) (C := RX0) (T := TX0) (N := 12) hx hb hts hin0 hown hK.1 hP 2 rfl rfl 7 (by decide) hf140 (fun _ h9 => h9) rfl dX4_play_59 ?_
    refine lv_istore_n (lv' := [(3, .int (nI (bx b))), (0, .ref x), (1, .int (nI rule)), (2, .int (nI k))]) hx hb dX4_play_62 rfl hl (by decide) rfl (fun ls hl => ?_)
    refine lv_aload_n hx hb dX4_play_63 rfl (lv_at hl 1 rfl) ?_
    refine lv_aload_n hx hb dX4_play_64 rfl (lv_at hl 1 rfl) ?_
    refine va_get (ci := 4) (v := .ref (nw 0)) (C := RX4) (T := TX4) (N := 6) hx hb hts hin4 hown hK.1 hP 0 rfl rfl 0 (by decide) hf10 (fun _ h9 => h9) rfl dX4_play_65 ?_
    refine lv_iload_n hx hb dX4_play_68 rfl (lv_at hl 2 rfl) ?_
    refine lv_iload_n hx hb dX4_play_69 rfl (lv_at hl 3 rfl) ?_
    refine q_VB (cs := [wA C x nw tr hq iq tt sc z, wB C nw b, wX C iq (idxT b) (fun _ => 1) vx1 ox1]) (As := [.ref (nw 0), .int (nI rule), .int (nI k)]) (rest := []) ⟨hx, hb, hml, hown, hts⟩ (c_X4_playOn l C x nw tr hq iq tt sc z nw b (idxT b) (fun _ => 1) vx1 ox1 rule k hB (by omega) (by omega) (idxT_le hB)) (cwV 3 hts gX4_play_X4_playOn rfl rfl rfl (by decide +kernel) ⟨Nat.le_of_ble_eq_true rfl, Nat.le_of_ble_eq_true rfl⟩) hK hP hD hS hA [0, 1, 9] (by decide) rfl 0 rfl rfl rfl rfl hl.1 rfl (Nat.le_of_ble_eq_true rfl) dX4_play_70 (Nat.zero_le _) (Nat.zero_le _) (fun r w1 H locs hQ hF hS => ?_)
    obtain ⟨zx2, rfl, rfl⟩ := hQ
    obtain ⟨hP, hD⟩ := hF [wA C x nw tr hq iq tt sc zx2, wB C nw (plN b (idxT b) rule k), wX C iq (idxT b) (fun _ => 1) vx1 ox1] rfl rfl
    have hP : va_P C.1 vwCl (List.flatten [wA C x nw tr hq iq tt sc zx2, wB C nw (plN b (idxT b) rule k), wHa C hq ba (kR n r) (kC n), wB C (ba 0) (upB ph (kJ n r) b 0), wB C (ba 1) (upB ph (kJ n r) b 1), wB C (ba 2) (upB ph (kJ n r) b 2), wB C (ba 3) (upB ph (kJ n r) b 3), wB C (ba 4) (upB ph (kJ n r) b 4), wB C (ba 5) (upB ph (kJ n r) b 5), wX C iq (idxT b) (fun _ => 1) vx1 ox1]) H := hP
    have hD : va_D (q_A (List.flatten [wA C x nw tr hq iq tt sc z, wB C nw b, wHa C hq ba r n, wB C (ba 0) (ph 0), wB C (ba 1) (ph 1), wB C (ba 2) (ph 2), wB C (ba 3) (ph 3), wB C (ba 4) (ph 4), wB C (ba 5) (ph 5), wX C iq t f v o]) s) (List.flatten [wA C x nw tr hq iq tt sc zx2, wB C nw (plN b (idxT b) rule k), wHa C hq ba (kR n r) (kC n), wB C (ba 0) (upB ph (kJ n r) b 0), wB C (ba 1) (upB ph (kJ n r) b 1), wB C (ba 2) (upB ph (kJ n r) b 2), wB C (ba 3) (upB ph (kJ n r) b 3), wB C (ba 4) (upB ph (kJ n r) b 4), wB C (ba 5) (upB ph (kJ n r) b 5), wX C iq (idxT b) (fun _ => 1) vx1 ox1]) := hD
    refine W.eq (g2 := F0 m 73 ls []) rfl ?_
    refine lv_aload_n hx hb dX4_play_73 rfl (lv_at hl 1 rfl) ?_
    refine va_get (ci := 4) (v := .ref (nw 0)) (C := RX4) (T := TX4) (N := 6) hx hb hts hin4 hown hK.1 hP 0 rfl rfl 0 (by decide) hf10 (fun _ h9 => h9) rfl dX4_play_74 ?_
    refine va_get (ci := 0) (v := .int (nI (bx (plN b (idxT b) rule k)))) (C := RX0) (T := TX0) (N := 12) hx hb hts hin0 hown hK.1 hP 2 rfl rfl 7 (by decide) hf140 (fun _ h9 => h9) rfl dX4_play_77 ?_
    refine lv_iload_n hx hb dX4_play_80 rfl (lv_at hl 0 rfl) ?_
    refine lv_isub hx hb dX4_play_81 ?_
    exact q_iret hx hb hr hlocks (w1 := List.flatten [wA C x nw tr hq iq tt sc zx2, wB C nw (plN b (idxT b) rule k), wHa C hq ba (kR n r) (kC n), wB C (ba 0) (upB ph (kJ n r) b 0), wB C (ba 1) (upB ph (kJ n r) b 1), wB C (ba 2) (upB ph (kJ n r) b 2), wB C (ba 3) (upB ph (kJ n r) b 3), wB C (ba 4) (upB ph (kJ n r) b 4), wB C (ba 5) (upB ph (kJ n r) b 5), wX C iq (idxT b) (fun _ => 1) vx1 ox1]) hP hS rfl dX4_play_82 (⟨_, _, _, rfl, rfl⟩)
  · have c20 : 9999 < ((sumU b) + k) := q_nle' (by omega) (by omega) c20
    exact absurd hs (by omega)
set_option maxHeartbeats 4000000 in
set_option maxRecDepth 100000 in
theorem c_X4_begin (l : Launch) (C : q_C) (x : Nat) (nw tr hq iq tt : Nat → Nat) (sc : Nat) (z : Nat → Int) (ba : Nat → Nat → Nat) (ph : Nat → Bd) (r n : Nat) (b : Bd) (x0 : Int64) (hr6 : r < 6) (hn6 : n ≤ 6) : q_M C l yX4_begin wsX4_begin 3 83 [.ref x, .long x0] (List.flatten [wA C x nw tr hq iq tt sc z, wB C nw b, wHa C hq ba r n, wB C (ba 0) (ph 0), wB C (ba 1) (ph 1), wB C (ba 2) (ph 2), wB C (ba 3) (ph 3), wB C (ba 4) (ph 4), wB C (ba 5) (ph 5)]) (fun r2 w => r2 = some (.int (nI (sumU b))) ∧ w = List.flatten [wA C x nw tr hq iq tt sc z, wB C nw (begB b x0), wHa C hq ba (kR n r) (kC n), wB C (ba 0) (upB ph (kJ n r) b 0), wB C (ba 1) (upB ph (kJ n r) b 1), wB C (ba 2) (upB ph (kJ n r) b 2), wB C (ba 3) (upB ph (kJ n r) b 3), wB C (ba 4) (upB ph (kJ n r) b 4), wB C (ba 5) (upB ph (kJ n r) b 5)]) := by
  refine q_head (cc := cX4_begin) (maxL := 4) (ret := (some .int)) (by decide +kernel) rfl (Nat.le_of_ble_eq_true rfl) ?_
  intro p e s m below meth c hx hb hr hlocks hml hown hts hK hP hD hS hA ls hl
  have hl : lv_has ls 4 [(0, .ref x), (1, .long x0)] := hl
  have hf10 := hts (.fieldLink RX4 10 "RestedArms" "now" "LRestedArms$Board;") (by decide +kernel)
  have hf22 := hts (.fieldLink RX4 22 "RestedArms" "history" "LRestedArms$History;") (by decide +kernel)
  have hin4 : ∀ w ∈ u_ws RX4 TX4 6, w ∈ wsX4_begin := by decide +kernel
  refine lv_aload_n hx hb dX4_begin_0 rfl (lv_at hl 0 rfl) ?_
  refine va_get (ci := 4) (v := .ref (hq 0)) (C := RX4) (T := TX4) (N := 6) hx hb hts hin4 hown hK.1 hP 0 rfl rfl 2 (by decide) hf22 (fun _ h9 => h9) rfl dX4_begin_1 ?_
  refine lv_aload_n hx hb dX4_begin_4 rfl (lv_at hl 0 rfl) ?_
  refine va_get (ci := 4) (v := .ref (nw 0)) (C := RX4) (T := TX4) (N := 6) hx hb hts hin4 hown hK.1 hP 0 rfl rfl 0 (by decide) hf10 (fun _ h9 => h9) rfl dX4_begin_5 ?_
  refine q_VB (cs := [wHa C hq ba r n, wB C (ba 0) (ph 0), wB C (ba 1) (ph 1), wB C (ba 2) (ph 2), wB C (ba 3) (ph 3), wB C (ba 4) (ph 4), wB C (ba 5) (ph 5), wB C nw b]) (As := [.ref (nw 0)]) (rest := []) ⟨hx, hb, hml, hown, hts⟩ (c_X1_keep l C hq ba ph r n nw b hr6 hn6) (cwV 1 hts gX4_begin_X1_keep rfl rfl rfl (by decide +kernel) ⟨Nat.le_of_ble_eq_true rfl, Nat.le_of_ble_eq_true rfl⟩) hK hP hD hS hA [2, 3, 4, 5, 6, 7, 8, 1] (by decide) rfl 10 rfl rfl rfl rfl hl.1 rfl (Nat.le_of_ble_eq_true rfl) dX4_begin_8 (Nat.zero_le _) (Nat.zero_le _) (fun r w1 H locs hQ hF hS => ?_)
  obtain ⟨rfl, rfl⟩ := hQ
  obtain ⟨hP, hD⟩ := hF [wHa C hq ba (kR n r) (kC n), wB C (ba 0) (upB ph (kJ n r) b 0), wB C (ba 1) (upB ph (kJ n r) b 1), wB C (ba 2) (upB ph (kJ n r) b 2), wB C (ba 3) (upB ph (kJ n r) b 3), wB C (ba 4) (upB ph (kJ n r) b 4), wB C (ba 5) (upB ph (kJ n r) b 5), wB C nw b] rfl rfl
  have hP : va_P C.1 vwCl (List.flatten [wA C x nw tr hq iq tt sc z, wB C nw b, wHa C hq ba (kR n r) (kC n), wB C (ba 0) (upB ph (kJ n r) b 0), wB C (ba 1) (upB ph (kJ n r) b 1), wB C (ba 2) (upB ph (kJ n r) b 2), wB C (ba 3) (upB ph (kJ n r) b 3), wB C (ba 4) (upB ph (kJ n r) b 4), wB C (ba 5) (upB ph (kJ n r) b 5)]) H := hP
  have hD : va_D (q_A (List.flatten [wA C x nw tr hq iq tt sc z, wB C nw b, wHa C hq ba r n, wB C (ba 0) (ph 0), wB C (ba 1) (ph 1), wB C (ba 2) (ph 2), wB C (ba 3) (ph 3), wB C (ba 4) (ph 4), wB C (ba 5) (ph 5)]) s) (List.flatten [wA C x nw tr hq iq tt sc z, wB C nw b, wHa C hq ba (kR n r) (kC n), wB C (ba 0) (upB ph (kJ n r) b 0), wB C (ba 1) (upB ph (kJ n r) b 1), wB C (ba 2) (upB ph (kJ n r) b 2), wB C (ba 3) (upB ph (kJ n r) b 3), wB C (ba 4) (upB ph (kJ n r) b 4), wB C (ba 5) (upB ph (kJ n r) b 5)]) := hD
  refine W.eq (g2 := F0 m 11 ls []) rfl ?_
  refine lv_aload_n hx hb dX4_begin_11 rfl (lv_at hl 0 rfl) ?_
  refine va_get (ci := 4) (v := .ref (nw 0)) (C := RX4) (T := TX4) (N := 6) hx hb hts hin4 hown hK.1 hP 0 rfl rfl 0 (by decide) hf10 (fun _ h9 => h9) rfl dX4_begin_12 ?_
  refine q_V0 (As := []) (rest := []) ⟨hx, hb, hml, hown, hts⟩ (c_X0_allPulls l C nw b ) (cwV 0 hts gX4_begin_X0_allPulls rfl rfl rfl (by decide +kernel) ⟨Nat.le_of_ble_eq_true rfl, Nat.le_of_ble_eq_true rfl⟩) hK hP hD hS hA [2, 3, 4, 5, 6, 7, 8, 9] (by decide) rfl 2 rfl rfl rfl rfl hl.1 rfl (Nat.le_of_ble_eq_true rfl) dX4_begin_15 (Nat.zero_le _) (Nat.zero_le _) (fun H locs hP hS => ?_)
  refine W.eq (g2 := F0 m 18 ls [.int (nI (sumU b))]) rfl ?_
  refine lv_istore_n (lv' := [(3, .int (nI (sumU b))), (0, .ref x), (1, .long x0)]) hx hb dX4_begin_18 rfl hl (by decide) rfl (fun ls hl => ?_)
  refine lv_aload_n hx hb dX4_begin_19 rfl (lv_at hl 1 rfl) ?_
  refine va_get (ci := 4) (v := .ref (nw 0)) (C := RX4) (T := TX4) (N := 6) hx hb hts hin4 hown hK.1 hP 0 rfl rfl 0 (by decide) hf10 (fun _ h9 => h9) rfl dX4_begin_20 ?_
  refine lv_lload_n hx hb dX4_begin_23 rfl (lv_at hl 2 rfl) ?_
  refine q_VB (cs := [wB C nw b]) (As := [.long x0]) (rest := []) ⟨hx, hb, hml, hown, hts⟩ (c_X0_beginAnew l C nw b x0) (cwV 1 hts gX4_begin_X0_beginAnew rfl rfl rfl (by decide +kernel) ⟨Nat.le_of_ble_eq_true rfl, Nat.le_of_ble_eq_true rfl⟩) hK hP hD hS hA [1] (by decide) rfl 2 rfl rfl rfl rfl hl.1 rfl (Nat.le_of_ble_eq_true rfl) dX4_begin_24 (Nat.zero_le _) (Nat.zero_le _) (fun r w1 H locs hQ hF hS => ?_)
  obtain ⟨rfl, rfl⟩ := hQ
  obtain ⟨hP, hD⟩ := hF [wB C nw (begB b x0)] rfl rfl
  have hP : va_P C.1 vwCl (List.flatten [wA C x nw tr hq iq tt sc z, wB C nw (begB b x0), wHa C hq ba (kR n r) (kC n), wB C (ba 0) (upB ph (kJ n r) b 0), wB C (ba 1) (upB ph (kJ n r) b 1), wB C (ba 2) (upB ph (kJ n r) b 2), wB C (ba 3) (upB ph (kJ n r) b 3), wB C (ba 4) (upB ph (kJ n r) b 4), wB C (ba 5) (upB ph (kJ n r) b 5)]) H := hP
  have hD : va_D (q_A (List.flatten [wA C x nw tr hq iq tt sc z, wB C nw b, wHa C hq ba r n, wB C (ba 0) (ph 0), wB C (ba 1) (ph 1), wB C (ba 2) (ph 2), wB C (ba 3) (ph 3), wB C (ba 4) (ph 4), wB C (ba 5) (ph 5)]) s) (List.flatten [wA C x nw tr hq iq tt sc z, wB C nw (begB b x0), wHa C hq ba (kR n r) (kC n), wB C (ba 0) (upB ph (kJ n r) b 0), wB C (ba 1) (upB ph (kJ n r) b 1), wB C (ba 2) (upB ph (kJ n r) b 2), wB C (ba 3) (upB ph (kJ n r) b 3), wB C (ba 4) (upB ph (kJ n r) b 4), wB C (ba 5) (upB ph (kJ n r) b 5)]) := hD
  refine W.eq (g2 := F0 m 27 ls []) rfl ?_
  refine lv_iload_n hx hb dX4_begin_27 rfl (lv_at hl 0 rfl) ?_
  exact q_iret hx hb hr hlocks (w1 := List.flatten [wA C x nw tr hq iq tt sc z, wB C nw (begB b x0), wHa C hq ba (kR n r) (kC n), wB C (ba 0) (upB ph (kJ n r) b 0), wB C (ba 1) (upB ph (kJ n r) b 1), wB C (ba 2) (upB ph (kJ n r) b 2), wB C (ba 3) (upB ph (kJ n r) b 3), wB C (ba 4) (upB ph (kJ n r) b 4), wB C (ba 5) (upB ph (kJ n r) b 5)]) hP hS rfl dX4_begin_28 (⟨rfl, rfl⟩)
set_option maxHeartbeats 4000000 in
set_option maxRecDepth 100000 in
theorem c_X4_undo (l : Launch) (C : q_C) (x : Nat) (nw tr hq iq tt : Nat → Nat) (sc : Nat) (z : Nat → Int) (ba : Nat → Nat → Nat) (ph : Nat → Bd) (r n : Nat) (b : Bd) (t f v o : Nat → Nat) (hr6 : r < 6) (hn6 : n ≤ 6) (hn0 : 0 < n) : q_M C l yX4_undo wsX4_undo 3 83 [.ref x] (List.flatten [wA C x nw tr hq iq tt sc z, wB C nw b, wHa C hq ba r n, wB C (ba 0) (ph 0), wB C (ba 1) (ph 1), wB C (ba 2) (ph 2), wB C (ba 3) (ph 3), wB C (ba 4) (ph 4), wB C (ba 5) (ph 5), wX C iq t f v o]) (fun r2 w => r2 = some (.int (nI (n - 1))) ∧ w = List.flatten [wA C x nw tr hq iq tt sc z, wB C nw (ph ((n - 1 + r) % 6)), wHa C hq ba r (n - 1), wB C (ba 0) (ph 0), wB C (ba 1) (ph 1), wB C (ba 2) (ph 2), wB C (ba 3) (ph 3), wB C (ba 4) (ph 4), wB C (ba 5) (ph 5), wX C iq t (upN (upN (upN (upN f 0 0) 1 0) 2 0) 3 0) v o]) := by
  refine q_head (cc := cX4_undo) (maxL := 1) (ret := (some .int)) (by decide +kernel) rfl (Nat.le_of_ble_eq_true rfl) ?_
  intro p e s m below meth c hx hb hr hlocks hml hown hts hK hP hD hS hA ls hl
  have hl : lv_has ls 1 [(0, .ref x)] := hl
  have hf10 := hts (.fieldLink RX4 10 "RestedArms" "now" "LRestedArms$Board;") (by decide +kernel)
  have hf175 := hts (.fieldLink RX4 175 "RestedArms$History" "count" "I") (by decide +kernel)
  have hf22 := hts (.fieldLink RX4 22 "RestedArms" "history" "LRestedArms$History;") (by decide +kernel)
  have hf29 := hts (.fieldLink RX4 29 "RestedArms" "indices" "LRestedArms$Indices;") (by decide +kernel)
  have hin1 : ∀ w ∈ u_ws RX1 TX1 2, w ∈ wsX4_undo := by decide +kernel
  have hin4 : ∀ w ∈ u_ws RX4 TX4 6, w ∈ wsX4_undo := by decide +kernel
  refine lv_aload_n hx hb dX4_undo_0 rfl (lv_at hl 0 rfl) ?_
  refine va_get (ci := 4) (v := .ref (hq 0)) (C := RX4) (T := TX4) (N := 6) hx hb hts hin4 hown hK.1 hP 0 rfl rfl 2 (by decide) hf22 (fun _ h9 => h9) rfl dX4_undo_1 ?_
  refine va_get (ci := 1) (v := .int (nI n)) (C := RX1) (T := TX1) (N := 2) hx hb hts hin1 hown hK.1 hP 10 rfl rfl 1 (by decide) hf175 (fun _ h9 => h9) rfl dX4_undo_4 ?_
  refine lv_if_ne (tgt := 20) hx hb dX4_undo_7 (by decide) (fun c7 => ?_) (fun c7 => ?_)
  · have c7 : n ≠ 0 := q_nne0 (by omega) (by omega) c7
    refine lv_aload_n hx hb dX4_undo_20 rfl (lv_at hl 0 rfl) ?_
    refine va_get (ci := 4) (v := .ref (hq 0)) (C := RX4) (T := TX4) (N := 6) hx hb hts hin4 hown hK.1 hP 0 rfl rfl 2 (by decide) hf22 (fun _ h9 => h9) rfl dX4_undo_21 ?_
    refine lv_aload_n hx hb dX4_undo_24 rfl (lv_at hl 0 rfl) ?_
    refine va_get (ci := 4) (v := .ref (nw 0)) (C := RX4) (T := TX4) (N := 6) hx hb hts hin4 hown hK.1 hP 0 rfl rfl 0 (by decide) hf10 (fun _ h9 => h9) rfl dX4_undo_25 ?_
    refine q_VB (cs := [wHa C hq ba r n, wB C (ba 0) (ph 0), wB C (ba 1) (ph 1), wB C (ba 2) (ph 2), wB C (ba 3) (ph 3), wB C (ba 4) (ph 4), wB C (ba 5) (ph 5), wB C nw b]) (As := [.ref (nw 0)]) (rest := []) ⟨hx, hb, hml, hown, hts⟩ (c_X1_bringBack l C hq ba ph r n nw b hr6 hn6 (by omega)) (cwV 1 hts gX4_undo_X1_bringBack rfl rfl rfl (by decide +kernel) ⟨Nat.le_of_ble_eq_true rfl, Nat.le_of_ble_eq_true rfl⟩) hK hP hD hS hA [2, 3, 4, 5, 6, 7, 8, 1] (by decide) rfl 10 rfl rfl rfl rfl hl.1 rfl (Nat.le_of_ble_eq_true rfl) dX4_undo_28 (Nat.zero_le _) (Nat.zero_le _) (fun r w1 H locs hQ hF hS => ?_)
    obtain ⟨rfl, rfl⟩ := hQ
    obtain ⟨hP, hD⟩ := hF [wHa C hq ba r (n - 1), wB C (ba 0) (ph 0), wB C (ba 1) (ph 1), wB C (ba 2) (ph 2), wB C (ba 3) (ph 3), wB C (ba 4) (ph 4), wB C (ba 5) (ph 5), wB C nw (ph ((n - 1 + r) % 6))] rfl rfl
    have hP : va_P C.1 vwCl (List.flatten [wA C x nw tr hq iq tt sc z, wB C nw (ph ((n - 1 + r) % 6)), wHa C hq ba r (n - 1), wB C (ba 0) (ph 0), wB C (ba 1) (ph 1), wB C (ba 2) (ph 2), wB C (ba 3) (ph 3), wB C (ba 4) (ph 4), wB C (ba 5) (ph 5), wX C iq t f v o]) H := hP
    have hD : va_D (q_A (List.flatten [wA C x nw tr hq iq tt sc z, wB C nw b, wHa C hq ba r n, wB C (ba 0) (ph 0), wB C (ba 1) (ph 1), wB C (ba 2) (ph 2), wB C (ba 3) (ph 3), wB C (ba 4) (ph 4), wB C (ba 5) (ph 5), wX C iq t f v o]) s) (List.flatten [wA C x nw tr hq iq tt sc z, wB C nw (ph ((n - 1 + r) % 6)), wHa C hq ba r (n - 1), wB C (ba 0) (ph 0), wB C (ba 1) (ph 1), wB C (ba 2) (ph 2), wB C (ba 3) (ph 3), wB C (ba 4) (ph 4), wB C (ba 5) (ph 5), wX C iq t f v o]) := hD
    refine W.eq (g2 := F0 m 31 ls []) rfl ?_
    refine lv_aload_n hx hb dX4_undo_31 rfl (lv_at hl 0 rfl) ?_
    refine va_get (ci := 4) (v := .ref (iq 0)) (C := RX4) (T := TX4) (N := 6) hx hb hts hin4 hown hK.1 hP 0 rfl rfl 3 (by decide) hf29 (fun _ h9 => h9) rfl dX4_undo_32 ?_
    refine q_VB (cs := [wX C iq t f v o]) (As := []) (rest := []) ⟨hx, hb, hml, hown, hts⟩ (c_X2_forgetAll l C iq t f v o ) (cwV 0 hts gX4_undo_X2_forgetAll rfl rfl rfl (by decide +kernel) ⟨Nat.le_of_ble_eq_true rfl, Nat.le_of_ble_eq_true rfl⟩) hK hP hD hS hA [9] (by decide) rfl 60 rfl rfl rfl rfl hl.1 rfl (Nat.le_of_ble_eq_true rfl) dX4_undo_35 (Nat.zero_le _) (Nat.zero_le _) (fun r w1 H locs hQ hF hS => ?_)
    obtain ⟨rfl, rfl⟩ := hQ
    obtain ⟨hP, hD⟩ := hF [wX C iq t (upN (upN (upN (upN f 0 0) 1 0) 2 0) 3 0) v o] rfl rfl
    have hP : va_P C.1 vwCl (List.flatten [wA C x nw tr hq iq tt sc z, wB C nw (ph ((n - 1 + r) % 6)), wHa C hq ba r (n - 1), wB C (ba 0) (ph 0), wB C (ba 1) (ph 1), wB C (ba 2) (ph 2), wB C (ba 3) (ph 3), wB C (ba 4) (ph 4), wB C (ba 5) (ph 5), wX C iq t (upN (upN (upN (upN f 0 0) 1 0) 2 0) 3 0) v o]) H := hP
    have hD : va_D (q_A (List.flatten [wA C x nw tr hq iq tt sc z, wB C nw b, wHa C hq ba r n, wB C (ba 0) (ph 0), wB C (ba 1) (ph 1), wB C (ba 2) (ph 2), wB C (ba 3) (ph 3), wB C (ba 4) (ph 4), wB C (ba 5) (ph 5), wX C iq t f v o]) s) (List.flatten [wA C x nw tr hq iq tt sc z, wB C nw (ph ((n - 1 + r) % 6)), wHa C hq ba r (n - 1), wB C (ba 0) (ph 0), wB C (ba 1) (ph 1), wB C (ba 2) (ph 2), wB C (ba 3) (ph 3), wB C (ba 4) (ph 4), wB C (ba 5) (ph 5), wX C iq t (upN (upN (upN (upN f 0 0) 1 0) 2 0) 3 0) v o]) := hD
    refine W.eq (g2 := F0 m 38 ls []) rfl ?_
    refine lv_aload_n hx hb dX4_undo_38 rfl (lv_at hl 0 rfl) ?_
    refine va_get (ci := 4) (v := .ref (hq 0)) (C := RX4) (T := TX4) (N := 6) hx hb hts hin4 hown hK.1 hP 0 rfl rfl 2 (by decide) hf22 (fun _ h9 => h9) rfl dX4_undo_39 ?_
    refine va_get (ci := 1) (v := .int (nI (n - 1))) (C := RX1) (T := TX1) (N := 2) hx hb hts hin1 hown hK.1 hP 10 rfl rfl 1 (by decide) hf175 (fun _ h9 => h9) rfl dX4_undo_42 ?_
    exact q_iret hx hb hr hlocks (w1 := List.flatten [wA C x nw tr hq iq tt sc z, wB C nw (ph ((n - 1 + r) % 6)), wHa C hq ba r (n - 1), wB C (ba 0) (ph 0), wB C (ba 1) (ph 1), wB C (ba 2) (ph 2), wB C (ba 3) (ph 3), wB C (ba 4) (ph 4), wB C (ba 5) (ph 5), wX C iq t (upN (upN (upN (upN f 0 0) 1 0) 2 0) 3 0) v o]) hP hS rfl dX4_undo_45 (⟨rfl, rfl⟩)
  · have c7 : n = 0 := q_nne0' (by omega) (by omega) c7
    exact absurd hn0 (by omega)
