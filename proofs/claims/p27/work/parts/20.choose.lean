/-! scores and choices: methods -/
set_option maxHeartbeats 4000000 in
set_option maxRecDepth 100000 in
theorem c_X4_greatestScore (l : Launch) (C : q_C) (x : Nat) (nw tr hq iq tt : Nat → Nat) (sc : Nat) (z : Nat → Int) (l0 : Nat) (hl4 : l0 ≤ 4) (hz : ∀ k, k < 4 → -(2 ^ 40) ≤ z k ∧ z k ≤ 2 ^ 40) : q_M C l yX4_greatestScore wsX4_greatestScore 1 22 [.ref x, .int (nI l0 - 1)] (wA C x nw tr hq iq tt sc z) (fun r w => r = some (.int (nI (gsN z (l0 - 1) 4))) ∧ w = wA C x nw tr hq iq tt sc z) := by
  refine q_head (cc := cX4_greatestScore) (maxL := 4) (ret := (some .int)) (by decide +kernel) rfl (Nat.le_of_ble_eq_true rfl) ?_
  intro p e s m below meth c hx hb hr hlocks hml hown hts hK hP hD hS hA ls hl
  have hl : lv_has ls 4 [(0, .ref x), (1, .int (nI l0 - 1))] := hl
  have hf40 := hts (.fieldLink RX4 40 "RestedArms" "scores" "[J") (by decide +kernel)
  have hin4 : ∀ w ∈ u_ws RX4 TX4 6, w ∈ wsX4_greatestScore := by decide +kernel
  have hl0 : l0 = 0 ∨ 0 < l0 := by omega
  rcases hl0 with hl0 | hl0
  · skip
    refine lv_iload_n hx hb dX4_greatestScore_0 rfl (lv_at hl 1 rfl) ?_
    refine q_ti (y := (-1)) (by rw [hl0]; decide) ?_
    refine lv_iconst (v := nI 0) hx hb dX4_greatestScore_1 (by decide) ?_
    refine lv_iconst (v := nI 3) hx hb dX4_greatestScore_2 (by decide) ?_
    refine q_S (As := [.int (-1), .int (nI 0), .int (nI 3)]) (rest := []) ⟨hx, hb, hml, hown, hts⟩ (c_X4_isWithin l C (-1) (nI 0) (nI 3)) (va_cwS 3 hts gX4_greatestScore_X4_isWithin rfl rfl rfl (by decide +kernel) ⟨Nat.le_of_ble_eq_true rfl, Nat.le_of_ble_eq_true rfl⟩) hK hP hD hS hA [] (by decide) rfl rfl hl.1 rfl (Nat.le_of_ble_eq_true rfl) dX4_greatestScore_3 (Nat.zero_le _) (Nat.zero_le _) (fun r w1 H locs hQ hP hD hS => ?_)
    obtain ⟨rfl, rfl⟩ := hQ
    refine W.eq (g2 := F0 m 6 ls [.int (q_b (decide (nI 0 ≤ (-1) ∧ (-1) ≤ nI 3)))]) rfl ?_
    refine lv_if_eq (tgt := 13) hx hb dX4_greatestScore_6 (by decide) (fun c6 => ?_) (fun c6 => ?_)
    · have c6 : decide (nI 0 ≤ (-1) ∧ (-1) ≤ nI 3) = false := q_b0.mp c6
      refine lv_iconst (v := nI 0) hx hb dX4_greatestScore_13 (by decide) ?_
      refine q_ti (y := nI (l0 - 1)) (congrArg nI (by omega)) ?_
      refine lv_istore_n (lv' := [(2, .int (nI (l0 - 1))), (0, .ref x), (1, .int (nI l0 - 1))]) hx hb dX4_greatestScore_14 rfl hl (by decide) rfl (fun ls hl => ?_)
      refine lv_iconst (v := nI 0) hx hb dX4_greatestScore_15 (by decide) ?_
      refine lv_istore_n (lv' := [(3, .int (nI 0)), (2, .int (nI (l0 - 1))), (0, .ref x), (1, .int (nI l0 - 1))]) hx hb dX4_greatestScore_16 rfl hl (by decide) rfl (fun ls hl => ?_)
      have K17 : ∀ (n17 i17 : Nat), ∀ (g17 : Nat), i17 ≤ 4 → 4 + 1 ≤ i17 + n17 → (gsN z (l0 - 1) i17 = g17) → (g17 < 4) → ∀ (H : Heap) (locs : List Loc) (ls : Array Slot), va_P C.1 vwCl (wA C x nw tr hq iq tt sc z) H → va_D (q_A (wA C x nw tr hq iq tt sc z) s) (wA C x nw tr hq iq tt sc z) → va_S (q_A (wA C x nw tr hq iq tt sc z) s) s.heap H locs → lv_has ls 4 [(3, .int (nI i17)), (2, .int (nI g17)), (0, .ref x)] → W p l e (q_R 1 22) s m ([.ref x, .int (nI l0 - 1)] : List Value).toArray below meth c H locs 0 0 (q_G C below (wA C x nw tr hq iq tt sc z) (fun r w => r = some (.int (nI (gsN z (l0 - 1) 4))) ∧ w = wA C x nw tr hq iq tt sc z) ([.ref x, .int (nI l0 - 1)] : List Value).toArray s) (F0 m 17 ls []) := by
        intro n17
        induction n17 with
        | zero => intro i17 g17 q1 q2; exact absurd q2 (by omega)
        | succ n17 ih17 =>
          intro i17 g17 hi17 hn17 hG17 hg17 H locs ls hP hD hS hl
          refine lv_iload_n hx hb dX4_greatestScore_17 rfl (lv_at hl 0 rfl) ?_
          refine lv_iconst (v := nI 4) hx hb dX4_greatestScore_18 (by decide) ?_
          refine lv_icmp_ge (tgt := 50) hx hb dX4_greatestScore_19 (by decide) (fun c19 => ?_) (fun c19 => ?_)
          · have c19 : 4 ≤ i17 := q_nge (by omega) (by omega) c19
            refine lv_iload_n hx hb dX4_greatestScore_50 rfl (lv_at hl 1 rfl) ?_
            exact q_iret hx hb hr hlocks (w1 := wA C x nw tr hq iq tt sc z) hP hS rfl dX4_greatestScore_51 (⟨by rw [show (4 : Nat) = i17 by omega, hG17], rfl⟩)
          · have c19 : i17 < 4 := q_nge' (by omega) (by omega) c19
            refine lv_aload_n hx hb dX4_greatestScore_22 rfl (lv_at hl 2 rfl) ?_
            refine va_get (ci := 4) (v := .ref sc) (C := RX4) (T := TX4) (N := 6) hx hb hts hin4 hown hK.1 hP 0 rfl rfl 5 (by decide) hf40 (fun _ h9 => h9) rfl dX4_greatestScore_23 ?_
            refine lv_iload_n hx hb dX4_greatestScore_26 rfl (lv_at hl 0 rfl) ?_
            refine q_S (As := [.ref sc, .int (nI i17)]) (rest := []) ⟨hx, hb, hml, hown, hts⟩ (c_X4_at_ l C sc 4 i17 (fun k => zL (z k)) (by omega) (by decide)) (va_cwS 2 hts gX4_greatestScore_X4_at_ rfl rfl rfl (by decide +kernel) ⟨Nat.le_of_ble_eq_true rfl, Nat.le_of_ble_eq_true rfl⟩) hK hP hD hS hA [1] (by decide) rfl rfl hl.1 rfl (Nat.le_of_ble_eq_true rfl) dX4_greatestScore_27 (Nat.zero_le _) (Nat.zero_le _) (fun r w1 H locs hQ hP hD hS => ?_)
            obtain ⟨rfl, rfl⟩ := hQ
            have hP : va_P C.1 vwCl (wA C x nw tr hq iq tt sc z) H := hP
            have hD : va_D (q_A (wA C x nw tr hq iq tt sc z) s) (wA C x nw tr hq iq tt sc z) := hD
            refine W.eq (g2 := F0 m 30 ls [.long (zL (z i17))]) rfl ?_
            refine lv_aload_n hx hb dX4_greatestScore_30 rfl (lv_at hl 2 rfl) ?_
            refine va_get (ci := 4) (v := .ref sc) (C := RX4) (T := TX4) (N := 6) hx hb hts hin4 hown hK.1 hP 0 rfl rfl 5 (by decide) hf40 (fun _ h9 => h9) rfl dX4_greatestScore_31 ?_
            refine lv_iload_n hx hb dX4_greatestScore_34 rfl (lv_at hl 1 rfl) ?_
            refine q_S (As := [.ref sc, .int (nI g17)]) (rest := [.long (zL (z i17))]) ⟨hx, hb, hml, hown, hts⟩ (c_X4_at_ l C sc 4 g17 (fun k => zL (z k)) (by omega) (by decide)) (va_cwS 2 hts gX4_greatestScore_X4_at_ rfl rfl rfl (by decide +kernel) ⟨Nat.le_of_ble_eq_true rfl, Nat.le_of_ble_eq_true rfl⟩) hK hP hD hS hA [1] (by decide) rfl rfl hl.1 rfl (Nat.le_of_ble_eq_true rfl) dX4_greatestScore_35 (Nat.zero_le _) (Nat.zero_le _) (fun r w1 H locs hQ hP hD hS => ?_)
            obtain ⟨rfl, rfl⟩ := hQ
            have hP : va_P C.1 vwCl (wA C x nw tr hq iq tt sc z) H := hP
            have hD : va_D (q_A (wA C x nw tr hq iq tt sc z) s) (wA C x nw tr hq iq tt sc z) := hD
            refine W.eq (g2 := F0 m 38 ls [.long (zL (z g17)), .long (zL (z i17))]) rfl ?_
            refine W.lcmp hx hb dX4_greatestScore_38 ?_
            refine lv_if_le (tgt := 44) hx hb dX4_greatestScore_39 (by decide) (fun c39 => ?_) (fun c39 => ?_)
            · have c39 : (zL (z i17)) ≤ (zL (z g17)) := q_lle c39
              refine lv_iinc (v := nI (i17 + 1)) (lv' := [(3, .int (nI (i17 + 1))), (2, .int (nI g17)), (0, .ref x)]) hx hb dX4_greatestScore_44 hl (k := 0) rfl (nI_1 _) (by decide) rfl (fun ls hl => ?_)
              refine lv_goto (tgt := 17) hx hb dX4_greatestScore_47 (by decide) ?_
              exact ih17 (i17 + 1) g17 (by omega) (by omega) (by show (if z (gsN z (l0 - 1) i17) < z i17 then _ else _) = _; rw [hG17, if_neg (Int.not_lt.mpr ((zL_le (hz _ (by omega)).1 (hz _ (by omega)).2 (hz _ hg17).1 (hz _ hg17).2).mp c39))]) hg17 _ _ ls hP hD hS (lv_sub hl [0, 1, 2] rfl)
            · have c39 : (zL (z g17)) < (zL (z i17)) := q_lle' c39
              refine lv_iload_n hx hb dX4_greatestScore_42 rfl (lv_at hl 0 rfl) ?_
              refine lv_istore_n (lv' := [(2, .int (nI i17)), (3, .int (nI i17)), (0, .ref x)]) hx hb dX4_greatestScore_43 rfl hl (by decide) rfl (fun ls hl => ?_)
              refine lv_iinc (v := nI (i17 + 1)) (lv' := [(3, .int (nI (i17 + 1))), (2, .int (nI i17)), (0, .ref x)]) hx hb dX4_greatestScore_44 hl (k := 1) rfl (nI_1 _) (by decide) rfl (fun ls hl => ?_)
              refine lv_goto (tgt := 17) hx hb dX4_greatestScore_47 (by decide) ?_
              exact ih17 (i17 + 1) i17 (by omega) (by omega) (by show (if z (gsN z (l0 - 1) i17) < z i17 then _ else _) = _; rw [hG17, if_pos ((zL_lt (hz _ hg17).1 (hz _ hg17).2 (hz _ (by omega)).1 (hz _ (by omega)).2).mp c39)]) (by omega) _ _ ls hP hD hS (lv_sub hl [0, 1, 2] rfl)
      exact K17 (4 + 1 - 0) 0 (l0 - 1) (by omega) (by omega) rfl (by omega) _ _ ls hP hD hS (lv_sub hl [0, 1, 2] rfl)
    · have c6 : decide (nI 0 ≤ (-1) ∧ (-1) ≤ nI 3) = true := q_b1.mp c6
      exact absurd (of_decide_eq_true c6) (by decide)
  · skip
    refine lv_iload_n hx hb dX4_greatestScore_0 rfl (lv_at hl 1 rfl) ?_
    refine q_ti (y := nI (l0 - 1)) (q_lsp hl0) ?_
    refine lv_iconst (v := nI 0) hx hb dX4_greatestScore_1 (by decide) ?_
    refine lv_iconst (v := nI 3) hx hb dX4_greatestScore_2 (by decide) ?_
    refine q_S (As := [.int (nI (l0 - 1)), .int (nI 0), .int (nI 3)]) (rest := []) ⟨hx, hb, hml, hown, hts⟩ (c_isWithinN l C (l0 - 1) 0 3 (by omega) (by decide) (by decide)) (va_cwS 3 hts gX4_greatestScore_X4_isWithin rfl rfl rfl (by decide +kernel) ⟨Nat.le_of_ble_eq_true rfl, Nat.le_of_ble_eq_true rfl⟩) hK hP hD hS hA [] (by decide) rfl rfl hl.1 rfl (Nat.le_of_ble_eq_true rfl) dX4_greatestScore_3 (Nat.zero_le _) (Nat.zero_le _) (fun r w1 H locs hQ hP hD hS => ?_)
    obtain ⟨rfl, rfl⟩ := hQ
    refine W.eq (g2 := F0 m 6 ls [.int (q_b (decide (0 ≤ (l0 - 1) ∧ (l0 - 1) ≤ 3)))]) rfl ?_
    refine lv_if_eq (tgt := 13) hx hb dX4_greatestScore_6 (by decide) (fun c6 => ?_) (fun c6 => ?_)
    · have c6 : decide (0 ≤ (l0 - 1) ∧ (l0 - 1) ≤ 3) = false := q_b0.mp c6
      exact absurd (decide_eq_true (show 0 ≤ l0 - 1 ∧ l0 - 1 ≤ 3 by omega)) (by rw [c6]; decide)
    have c6 : decide (0 ≤ (l0 - 1) ∧ (l0 - 1) ≤ 3) = true := q_b1.mp c6
    refine lv_iload_n hx hb dX4_greatestScore_9 rfl (lv_at hl 1 rfl) ?_
    refine q_ti (y := nI (l0 - 1)) (q_lsp hl0) ?_
    refine lv_goto (tgt := 14) hx hb dX4_greatestScore_10 (by decide) ?_
    refine lv_istore_n (lv' := [(2, .int (nI (l0 - 1))), (0, .ref x), (1, .int (nI l0 - 1))]) hx hb dX4_greatestScore_14 rfl hl (by decide) rfl (fun ls hl => ?_)
    refine lv_iconst (v := nI 0) hx hb dX4_greatestScore_15 (by decide) ?_
    refine lv_istore_n (lv' := [(3, .int (nI 0)), (2, .int (nI (l0 - 1))), (0, .ref x), (1, .int (nI l0 - 1))]) hx hb dX4_greatestScore_16 rfl hl (by decide) rfl (fun ls hl => ?_)
    have K17 : ∀ (n17 i17 : Nat), ∀ (g17 : Nat), i17 ≤ 4 → 4 + 1 ≤ i17 + n17 → (gsN z (l0 - 1) i17 = g17) → (g17 < 4) → ∀ (H : Heap) (locs : List Loc) (ls : Array Slot), va_P C.1 vwCl (wA C x nw tr hq iq tt sc z) H → va_D (q_A (wA C x nw tr hq iq tt sc z) s) (wA C x nw tr hq iq tt sc z) → va_S (q_A (wA C x nw tr hq iq tt sc z) s) s.heap H locs → lv_has ls 4 [(3, .int (nI i17)), (2, .int (nI g17)), (0, .ref x)] → W p l e (q_R 1 22) s m ([.ref x, .int (nI l0 - 1)] : List Value).toArray below meth c H locs 0 0 (q_G C below (wA C x nw tr hq iq tt sc z) (fun r w => r = some (.int (nI (gsN z (l0 - 1) 4))) ∧ w = wA C x nw tr hq iq tt sc z) ([.ref x, .int (nI l0 - 1)] : List Value).toArray s) (F0 m 17 ls []) := by
      intro n17
      induction n17 with
      | zero => intro i17 g17 q1 q2; exact absurd q2 (by omega)
      | succ n17 ih17 =>
        intro i17 g17 hi17 hn17 hG17 hg17 H locs ls hP hD hS hl
        refine lv_iload_n hx hb dX4_greatestScore_17 rfl (lv_at hl 0 rfl) ?_
        refine lv_iconst (v := nI 4) hx hb dX4_greatestScore_18 (by decide) ?_
        refine lv_icmp_ge (tgt := 50) hx hb dX4_greatestScore_19 (by decide) (fun c19 => ?_) (fun c19 => ?_)
        · have c19 : 4 ≤ i17 := q_nge (by omega) (by omega) c19
          refine lv_iload_n hx hb dX4_greatestScore_50 rfl (lv_at hl 1 rfl) ?_
          exact q_iret hx hb hr hlocks (w1 := wA C x nw tr hq iq tt sc z) hP hS rfl dX4_greatestScore_51 (⟨by rw [show (4 : Nat) = i17 by omega, hG17], rfl⟩)
        · have c19 : i17 < 4 := q_nge' (by omega) (by omega) c19
          refine lv_aload_n hx hb dX4_greatestScore_22 rfl (lv_at hl 2 rfl) ?_
          refine va_get (ci := 4) (v := .ref sc) (C := RX4) (T := TX4) (N := 6) hx hb hts hin4 hown hK.1 hP 0 rfl rfl 5 (by decide) hf40 (fun _ h9 => h9) rfl dX4_greatestScore_23 ?_
          refine lv_iload_n hx hb dX4_greatestScore_26 rfl (lv_at hl 0 rfl) ?_
          refine q_S (As := [.ref sc, .int (nI i17)]) (rest := []) ⟨hx, hb, hml, hown, hts⟩ (c_X4_at_ l C sc 4 i17 (fun k => zL (z k)) (by omega) (by decide)) (va_cwS 2 hts gX4_greatestScore_X4_at_ rfl rfl rfl (by decide +kernel) ⟨Nat.le_of_ble_eq_true rfl, Nat.le_of_ble_eq_true rfl⟩) hK hP hD hS hA [1] (by decide) rfl rfl hl.1 rfl (Nat.le_of_ble_eq_true rfl) dX4_greatestScore_27 (Nat.zero_le _) (Nat.zero_le _) (fun r w1 H locs hQ hP hD hS => ?_)
          obtain ⟨rfl, rfl⟩ := hQ
          have hP : va_P C.1 vwCl (wA C x nw tr hq iq tt sc z) H := hP
          have hD : va_D (q_A (wA C x nw tr hq iq tt sc z) s) (wA C x nw tr hq iq tt sc z) := hD
          refine W.eq (g2 := F0 m 30 ls [.long (zL (z i17))]) rfl ?_
          refine lv_aload_n hx hb dX4_greatestScore_30 rfl (lv_at hl 2 rfl) ?_
          refine va_get (ci := 4) (v := .ref sc) (C := RX4) (T := TX4) (N := 6) hx hb hts hin4 hown hK.1 hP 0 rfl rfl 5 (by decide) hf40 (fun _ h9 => h9) rfl dX4_greatestScore_31 ?_
          refine lv_iload_n hx hb dX4_greatestScore_34 rfl (lv_at hl 1 rfl) ?_
          refine q_S (As := [.ref sc, .int (nI g17)]) (rest := [.long (zL (z i17))]) ⟨hx, hb, hml, hown, hts⟩ (c_X4_at_ l C sc 4 g17 (fun k => zL (z k)) (by omega) (by decide)) (va_cwS 2 hts gX4_greatestScore_X4_at_ rfl rfl rfl (by decide +kernel) ⟨Nat.le_of_ble_eq_true rfl, Nat.le_of_ble_eq_true rfl⟩) hK hP hD hS hA [1] (by decide) rfl rfl hl.1 rfl (Nat.le_of_ble_eq_true rfl) dX4_greatestScore_35 (Nat.zero_le _) (Nat.zero_le _) (fun r w1 H locs hQ hP hD hS => ?_)
          obtain ⟨rfl, rfl⟩ := hQ
          have hP : va_P C.1 vwCl (wA C x nw tr hq iq tt sc z) H := hP
          have hD : va_D (q_A (wA C x nw tr hq iq tt sc z) s) (wA C x nw tr hq iq tt sc z) := hD
          refine W.eq (g2 := F0 m 38 ls [.long (zL (z g17)), .long (zL (z i17))]) rfl ?_
          refine W.lcmp hx hb dX4_greatestScore_38 ?_
          refine lv_if_le (tgt := 44) hx hb dX4_greatestScore_39 (by decide) (fun c39 => ?_) (fun c39 => ?_)
          · have c39 : (zL (z i17)) ≤ (zL (z g17)) := q_lle c39
            refine lv_iinc (v := nI (i17 + 1)) (lv' := [(3, .int (nI (i17 + 1))), (2, .int (nI g17)), (0, .ref x)]) hx hb dX4_greatestScore_44 hl (k := 0) rfl (nI_1 _) (by decide) rfl (fun ls hl => ?_)
            refine lv_goto (tgt := 17) hx hb dX4_greatestScore_47 (by decide) ?_
            exact ih17 (i17 + 1) g17 (by omega) (by omega) (by show (if z (gsN z (l0 - 1) i17) < z i17 then _ else _) = _; rw [hG17, if_neg (Int.not_lt.mpr ((zL_le (hz _ (by omega)).1 (hz _ (by omega)).2 (hz _ hg17).1 (hz _ hg17).2).mp c39))]) hg17 _ _ ls hP hD hS (lv_sub hl [0, 1, 2] rfl)
          · have c39 : (zL (z g17)) < (zL (z i17)) := q_lle' c39
            refine lv_iload_n hx hb dX4_greatestScore_42 rfl (lv_at hl 0 rfl) ?_
            refine lv_istore_n (lv' := [(2, .int (nI i17)), (3, .int (nI i17)), (0, .ref x)]) hx hb dX4_greatestScore_43 rfl hl (by decide) rfl (fun ls hl => ?_)
            refine lv_iinc (v := nI (i17 + 1)) (lv' := [(3, .int (nI (i17 + 1))), (2, .int (nI i17)), (0, .ref x)]) hx hb dX4_greatestScore_44 hl (k := 1) rfl (nI_1 _) (by decide) rfl (fun ls hl => ?_)
            refine lv_goto (tgt := 17) hx hb dX4_greatestScore_47 (by decide) ?_
            exact ih17 (i17 + 1) i17 (by omega) (by omega) (by show (if z (gsN z (l0 - 1) i17) < z i17 then _ else _) = _; rw [hG17, if_pos ((zL_lt (hz _ hg17).1 (hz _ hg17).2 (hz _ (by omega)).1 (hz _ (by omega)).2).mp c39)]) (by omega) _ _ ls hP hD hS (lv_sub hl [0, 1, 2] rfl)
    exact K17 (4 + 1 - 0) 0 (l0 - 1) (by omega) (by omega) rfl (by omega) _ _ ls hP hD hS (lv_sub hl [0, 1, 2] rfl)
set_option maxHeartbeats 4000000 in
set_option maxRecDepth 100000 in
theorem c_X4_scoreAll (l : Launch) (C : q_C) (x : Nat) (nw tr hq iq tt : Nat → Nat) (sc : Nat) (z : Nat → Int) (a : Nat → Nat) (b : Bd) (t f v o : Nat → Nat) (rule : Nat) (hB : OkB b) (hr3 : rule < 3) : q_M C l yX4_scoreAll wsX4_scoreAll 2 45 [.ref x, .ref (a 0), .int (nI rule)] (wA C x nw tr hq iq tt sc z ++ wB C a b ++ wX C iq t f v o) (fun r w => r = none ∧ w = wA C x nw tr hq iq tt sc (scN b t rule) ++ wB C a b ++ wX C iq t f v o) := by
  obtain ⟨ok1, ok2, ⟨ok3, ok4, ok5, ok6, ok7⟩, ok8, ok9⟩ := id hB
  refine q_head (cc := cX4_scoreAll) (maxL := 7) (ret := none) (by decide +kernel) rfl (Nat.le_of_ble_eq_true rfl) ?_
  intro p e s m below meth c hx hb hr hlocks hml hown hts hK hP hD hS hA ls hl
  have hl : lv_has ls 7 [(0, .ref x), (1, .ref (a 0)), (2, .int (nI rule))] := hl
  have hf188 := hts (.fieldLink RX4 188 "RestedArms$Indices" "table" "[J") (by decide +kernel)
  have hf29 := hts (.fieldLink RX4 29 "RestedArms" "indices" "LRestedArms$Indices;") (by decide +kernel)
  have hf40 := hts (.fieldLink RX4 40 "RestedArms" "scores" "[J") (by decide +kernel)
  have hf67 := hts (.fieldLink RX4 67 "RestedArms$Board" "gifts" "[I") (by decide +kernel)
  have hf94 := hts (.fieldLink RX4 94 "RestedArms$Board" "places" "[I") (by decide +kernel)
  have hin0 : ∀ w ∈ u_ws RX0 TX0 12, w ∈ wsX4_scoreAll := by decide +kernel
  have hin2 : ∀ w ∈ u_ws RX2 TX2 4, w ∈ wsX4_scoreAll := by decide +kernel
  have hin4 : ∀ w ∈ u_ws RX4 TX4 6, w ∈ wsX4_scoreAll := by decide +kernel
  refine lv_iconst (v := nI 0) hx hb dX4_scoreAll_0 (by decide) ?_
  refine lv_istore_n (lv' := [(3, .int (nI 0)), (0, .ref x), (1, .ref (a 0)), (2, .int (nI rule))]) hx hb dX4_scoreAll_1 rfl hl (by decide) rfl (fun ls hl => ?_)
  have K2 : ∀ (n2 i2 : Nat), i2 ≤ 4 → 4 + 1 ≤ i2 + n2 → ∀ (H : Heap) (locs : List Loc) (ls : Array Slot), va_P C.1 vwCl (wA C x nw tr hq iq tt sc (fillZ (scN b t rule) z i2) ++ wB C a b ++ wX C iq t f v o) H → va_D (q_A (wA C x nw tr hq iq tt sc z ++ wB C a b ++ wX C iq t f v o) s) (wA C x nw tr hq iq tt sc (fillZ (scN b t rule) z i2) ++ wB C a b ++ wX C iq t f v o) → va_S (q_A (wA C x nw tr hq iq tt sc z ++ wB C a b ++ wX C iq t f v o) s) s.heap H locs → lv_has ls 7 [(3, .int (nI i2)), (0, .ref x), (1, .ref (a 0)), (2, .int (nI rule))] → W p l e (q_R 2 45) s m ([.ref x, .ref (a 0), .int (nI rule)] : List Value).toArray below meth c H locs 0 0 (q_G C below (wA C x nw tr hq iq tt sc z ++ wB C a b ++ wX C iq t f v o) (fun r w => r = none ∧ w = wA C x nw tr hq iq tt sc (scN b t rule) ++ wB C a b ++ wX C iq t f v o) ([.ref x, .ref (a 0), .int (nI rule)] : List Value).toArray s) (F0 m 2 ls []) := by
    intro n2
    induction n2 with
    | zero => intro i2  q1 q2; exact absurd q2 (by omega)
    | succ n2 ih2 =>
      intro i2  hi2 hn2  H locs ls hP hD hS hl
      refine lv_iload_n hx hb dX4_scoreAll_2 rfl (lv_at hl 0 rfl) ?_
      refine lv_iconst (v := nI 4) hx hb dX4_scoreAll_3 (by decide) ?_
      refine lv_icmp_ge (tgt := 75) hx hb dX4_scoreAll_4 (by decide) (fun c4 => ?_) (fun c4 => ?_)
      · have c4 : 4 ≤ i2 := q_nge (by omega) (by omega) c4
        have e9 : i2 = 4 := by omega
        subst e9
        have hP := q_swpL (g := fun k => zL ((scN b t rule) k)) hP 1 rfl (fun k hk => congrArg zL (fillZ_in hk))
        have hD := hD.set (p := 1) (a := sc) (e := .inl (C.2.2.1, 4, .inr (.inl (fun k => zL ((scN b t rule) k))))) rfl
        have hP : va_P C.1 vwCl (wA C x nw tr hq iq tt sc (scN b t rule) ++ wB C a b ++ wX C iq t f v o) H := hP
        have hD : va_D (q_A (wA C x nw tr hq iq tt sc z ++ wB C a b ++ wX C iq t f v o) s) (wA C x nw tr hq iq tt sc (scN b t rule) ++ wB C a b ++ wX C iq t f v o) := hD
        exact q_vret hx hb hr hlocks (w1 := wA C x nw tr hq iq tt sc (scN b t rule) ++ wB C a b ++ wX C iq t f v o) hP hS rfl dX4_scoreAll_75 (⟨rfl, rfl⟩)
      · have c4 : i2 < 4 := q_nge' (by omega) (by omega) c4
        have e1 := ok2 i2 (by omega)
        have e2 := (ok1 (4 * i2 + bp b i2) (by omega)).1
        refine lv_iload_n hx hb dX4_scoreAll_7 rfl (lv_at hl 0 rfl) ?_
        refine lv_aload_n hx hb dX4_scoreAll_8 rfl (lv_at hl 2 rfl) ?_
        refine va_get (ci := 0) (v := .ref (a 5)) (C := RX0) (T := TX0) (N := 12) hx hb hts hin0 hown hK.1 hP 2 rfl rfl 4 (by decide) hf94 (fun _ h9 => h9) rfl dX4_scoreAll_9 ?_
        refine lv_iload_n hx hb dX4_scoreAll_12 rfl (lv_at hl 0 rfl) ?_
        refine q_S (As := [.ref (a 5), .int (nI i2)]) (rest := [.int (nI i2)]) ⟨hx, hb, hml, hown, hts⟩ (c_X4_at l C (a 5) 4 i2 (fun k => nI (bp b k)) (by omega) (by decide)) (va_cwS 2 hts gX4_scoreAll_X4_at rfl rfl rfl (by decide +kernel) ⟨Nat.le_of_ble_eq_true rfl, Nat.le_of_ble_eq_true rfl⟩) hK hP hD hS hA [7] (by decide) rfl rfl hl.1 rfl (Nat.le_of_ble_eq_true rfl) dX4_scoreAll_13 (Nat.zero_le _) (Nat.zero_le _) (fun r w1 H locs hQ hP hD hS => ?_)
        obtain ⟨rfl, rfl⟩ := hQ
        have hP : va_P C.1 vwCl (wA C x nw tr hq iq tt sc (fillZ (scN b t rule) z i2) ++ wB C a b ++ wX C iq t f v o) H := hP
        have hD : va_D (q_A (wA C x nw tr hq iq tt sc z ++ wB C a b ++ wX C iq t f v o) s) (wA C x nw tr hq iq tt sc (fillZ (scN b t rule) z i2) ++ wB C a b ++ wX C iq t f v o) := hD
        refine W.eq (g2 := F0 m 16 ls [.int (nI (bp b i2)), .int (nI i2)]) rfl ?_
        refine q_S (As := [.int (nI i2), .int (nI (bp b i2))]) (rest := []) ⟨hx, hb, hml, hown, hts⟩ (c_X4_slotOf l C i2 (bp b i2)) (va_cwS 2 hts gX4_scoreAll_X4_slotOf rfl rfl rfl (by decide +kernel) ⟨Nat.le_of_ble_eq_true rfl, Nat.le_of_ble_eq_true rfl⟩) hK hP hD hS hA [] (by decide) rfl rfl hl.1 rfl (Nat.le_of_ble_eq_true rfl) dX4_scoreAll_16 (Nat.zero_le _) (Nat.zero_le _) (fun r w1 H locs hQ hP hD hS => ?_)
        obtain ⟨rfl, rfl⟩ := hQ
        refine W.eq (g2 := F0 m 19 ls [.int (nI (4 * i2 + (bp b i2)))]) rfl ?_
        refine lv_istore (lv' := [(4, .int (nI (4 * i2 + (bp b i2)))), (3, .int (nI i2)), (0, .ref x), (1, .ref (a 0)), (2, .int (nI rule))]) hx hb dX4_scoreAll_19 hl (by decide) rfl (fun ls hl => ?_)
        refine lv_iload_n hx hb dX4_scoreAll_21 rfl (lv_at hl 4 rfl) ?_
        refine lv_if_ne (tgt := 40) hx hb dX4_scoreAll_22 (by decide) (fun c22 => ?_) (fun c22 => ?_)
        · have c22 : rule ≠ 0 := q_nne0 (by omega) (by omega) c22
          refine lv_aload_n hx hb dX4_scoreAll_40 rfl (lv_at hl 3 rfl) ?_
          refine va_get (ci := 0) (v := .ref (a 1)) (C := RX0) (T := TX0) (N := 12) hx hb hts hin0 hown hK.1 hP 2 rfl rfl 0 (by decide) hf67 (fun _ h9 => h9) rfl dX4_scoreAll_41 ?_
          refine lv_iload hx hb dX4_scoreAll_44 (lv_at hl 0 rfl) ?_
          refine q_S (As := [.ref (a 1), .int (nI (4 * i2 + (bp b i2)))]) (rest := []) ⟨hx, hb, hml, hown, hts⟩ (c_X4_at l C (a 1) 16 (4 * i2 + (bp b i2)) (fun k => nI (bg b k)) (by omega) (by decide)) (va_cwS 2 hts gX4_scoreAll_X4_at rfl rfl rfl (by decide +kernel) ⟨Nat.le_of_ble_eq_true rfl, Nat.le_of_ble_eq_true rfl⟩) hK hP hD hS hA [3] (by decide) rfl rfl hl.1 rfl (Nat.le_of_ble_eq_true rfl) dX4_scoreAll_46 (Nat.zero_le _) (Nat.zero_le _) (fun r w1 H locs hQ hP hD hS => ?_)
          obtain ⟨rfl, rfl⟩ := hQ
          have hP : va_P C.1 vwCl (wA C x nw tr hq iq tt sc (fillZ (scN b t rule) z i2) ++ wB C a b ++ wX C iq t f v o) H := hP
          have hD : va_D (q_A (wA C x nw tr hq iq tt sc z ++ wB C a b ++ wX C iq t f v o) s) (wA C x nw tr hq iq tt sc (fillZ (scN b t rule) z i2) ++ wB C a b ++ wX C iq t f v o) := hD
          refine W.eq (g2 := F0 m 49 ls [.int (nI (bg b (4 * i2 + (bp b i2))))]) rfl ?_
          refine lv_i2l (v := lN (bg b (4 * i2 + (bp b i2)))) hx hb dX4_scoreAll_49 (nI_l (by omega)) ?_
          refine lv_lstore (lv' := [(5, .long (lN (bg b (4 * i2 + (bp b i2))))), (4, .int (nI (4 * i2 + (bp b i2)))), (3, .int (nI i2)), (0, .ref x), (1, .ref (a 0)), (2, .int (nI rule))]) hx hb dX4_scoreAll_50 hl (by decide) rfl (fun ls hl => ?_)
          refine lv_aload_n hx hb dX4_scoreAll_52 rfl (lv_at hl 3 rfl) ?_
          refine va_get (ci := 4) (v := .ref sc) (C := RX4) (T := TX4) (N := 6) hx hb hts hin4 hown hK.1 hP 0 rfl rfl 5 (by decide) hf40 (fun _ h9 => h9) rfl dX4_scoreAll_53 ?_
          refine lv_iload_n hx hb dX4_scoreAll_56 rfl (lv_at hl 2 rfl) ?_
          refine lv_lload hx hb dX4_scoreAll_57 (lv_at hl 0 rfl) ?_
          refine lv_aload_n hx hb dX4_scoreAll_59 rfl (lv_at hl 4 rfl) ?_
          refine lv_iload_n hx hb dX4_scoreAll_60 rfl (lv_at hl 2 rfl) ?_
          refine lv_iload_n hx hb dX4_scoreAll_61 rfl (lv_at hl 5 rfl) ?_
          refine q_V (As := [.int (nI i2), .int (nI rule)]) (rest := [.long (lN (bg b (4 * i2 + (bp b i2)))), .int (nI i2), .ref sc]) ⟨hx, hb, hml, hown, hts⟩ (c_X0_costOf l C a b i2 rule hB (by omega) (by omega)) (cwV 2 hts gX4_scoreAll_X0_costOf rfl rfl rfl (by decide +kernel) ⟨Nat.le_of_ble_eq_true rfl, Nat.le_of_ble_eq_true rfl⟩) hK hP hD hS hA [2, 3, 4, 5, 6, 7, 8, 9] (by decide) rfl 2 rfl rfl rfl rfl hl.1 rfl (Nat.le_of_ble_eq_true rfl) dX4_scoreAll_62 (Nat.zero_le _) (Nat.zero_le _) (fun r w1 H locs hQ hP hD hS => ?_)
          obtain ⟨rfl, rfl⟩ := hQ
          have hP : va_P C.1 vwCl (wA C x nw tr hq iq tt sc (fillZ (scN b t rule) z i2) ++ wB C a b ++ wX C iq t f v o) H := hP
          have hD : va_D (q_A (wA C x nw tr hq iq tt sc z ++ wB C a b ++ wX C iq t f v o) s) (wA C x nw tr hq iq tt sc (fillZ (scN b t rule) z i2) ++ wB C a b ++ wX C iq t f v o) := hD
          refine W.eq (g2 := F0 m 65 ls [.long (lN (costB b i2 rule)), .long (lN (bg b (4 * i2 + (bp b i2)))), .int (nI i2), .ref sc]) rfl ?_
          refine lv_lsub hx hb dX4_scoreAll_65 ?_
          refine q_tl (y := zL (scN b t rule i2)) (by rw [zL_sub, scN, if_neg c22]) ?_
          refine q_S (As := [.ref sc, .int (nI i2), .long (zL (scN b t rule i2))]) (rest := []) ⟨hx, hb, hml, hown, hts⟩ (c_X4_store_ l C sc 4 i2 (fun k => zL ((fillZ (scN b t rule) z i2) k)) (zL (scN b t rule i2)) (by omega) (by decide)) (va_cwS 3 hts gX4_scoreAll_X4_store_ rfl rfl rfl (by decide +kernel) ⟨Nat.le_of_ble_eq_true rfl, Nat.le_of_ble_eq_true rfl⟩) hK hP hD hS hA [1] (by decide) rfl rfl hl.1 rfl (Nat.le_of_ble_eq_true rfl) dX4_scoreAll_66 (Nat.zero_le _) (Nat.zero_le _) (fun r w1 H locs hQ hP hD hS => ?_)
          obtain ⟨rfl, rfl⟩ := hQ
          rw [q_updZ] at hP hD
          have hP : va_P C.1 vwCl (([(x, .inr (4, [.ref (nw 0), .ref (tr 0), .ref (hq 0), .ref (iq 0), .ref (tt 0), .ref sc])), (sc, .inl (C.2.2.1, 4, .inr (.inl (fun k => zL (upZ (fillZ (scN b t rule) z i2) i2 (scN b t rule i2) k)))))] : va_W) ++ wB C a b ++ wX C iq t f v o) H := hP
          have hD : va_D (q_A (wA C x nw tr hq iq tt sc z ++ wB C a b ++ wX C iq t f v o) s) (([(x, .inr (4, [.ref (nw 0), .ref (tr 0), .ref (hq 0), .ref (iq 0), .ref (tt 0), .ref sc])), (sc, .inl (C.2.2.1, 4, .inr (.inl (fun k => zL (upZ (fillZ (scN b t rule) z i2) i2 (scN b t rule i2) k)))))] : va_W) ++ wB C a b ++ wX C iq t f v o) := hD
          refine W.eq (g2 := F0 m 69 ls []) rfl ?_
          rw [show upZ (fillZ (scN b t rule) z i2) i2 (scN b t rule i2) = fillZ (scN b t rule) z (i2 + 1) from fillZ_s _ _ _] at hP hD
          have hP : va_P C.1 vwCl (wA C x nw tr hq iq tt sc (fillZ (scN b t rule) z (i2 + 1)) ++ wB C a b ++ wX C iq t f v o) H := hP
          have hD : va_D (q_A (wA C x nw tr hq iq tt sc z ++ wB C a b ++ wX C iq t f v o) s) (wA C x nw tr hq iq tt sc (fillZ (scN b t rule) z (i2 + 1)) ++ wB C a b ++ wX C iq t f v o) := hD
          refine lv_iinc (v := nI (i2 + 1)) (lv' := [(3, .int (nI (i2 + 1))), (5, .long (lN (bg b (4 * i2 + (bp b i2))))), (4, .int (nI (4 * i2 + (bp b i2)))), (0, .ref x), (1, .ref (a 0)), (2, .int (nI rule))]) hx hb dX4_scoreAll_69 hl (k := 2) rfl (nI_1 _) (by decide) rfl (fun ls hl => ?_)
          refine lv_goto (tgt := 2) hx hb dX4_scoreAll_72 (by decide) ?_
          exact ih2 (i2 + 1)  (by omega) (by omega)  _ _ ls hP hD hS (lv_sub hl [0, 3, 4, 5] rfl)
        · have c22 : rule = 0 := q_nne0' (by omega) (by omega) c22
          refine lv_aload_n hx hb dX4_scoreAll_25 rfl (lv_at hl 2 rfl) ?_
          refine va_get (ci := 4) (v := .ref (iq 0)) (C := RX4) (T := TX4) (N := 6) hx hb hts hin4 hown hK.1 hP 0 rfl rfl 3 (by decide) hf29 (fun _ h9 => h9) rfl dX4_scoreAll_26 ?_
          refine va_get (ci := 2) (v := .ref (iq 1)) (C := RX2) (T := TX2) (N := 4) hx hb hts hin2 hown hK.1 hP 10 rfl rfl 0 (by decide) hf188 (fun _ h9 => h9) rfl dX4_scoreAll_29 ?_
          refine lv_iload hx hb dX4_scoreAll_32 (lv_at hl 0 rfl) ?_
          refine q_S (As := [.ref (iq 1), .int (nI (4 * i2 + (bp b i2)))]) (rest := []) ⟨hx, hb, hml, hown, hts⟩ (c_X4_at_ l C (iq 1) 16 (4 * i2 + (bp b i2)) (fun k => lN (t k)) (by omega) (by decide)) (va_cwS 2 hts gX4_scoreAll_X4_at_ rfl rfl rfl (by decide +kernel) ⟨Nat.le_of_ble_eq_true rfl, Nat.le_of_ble_eq_true rfl⟩) hK hP hD hS hA [11] (by decide) rfl rfl hl.1 rfl (Nat.le_of_ble_eq_true rfl) dX4_scoreAll_34 (Nat.zero_le _) (Nat.zero_le _) (fun r w1 H locs hQ hP hD hS => ?_)
          obtain ⟨rfl, rfl⟩ := hQ
          have hP : va_P C.1 vwCl (wA C x nw tr hq iq tt sc (fillZ (scN b t rule) z i2) ++ wB C a b ++ wX C iq t f v o) H := hP
          have hD : va_D (q_A (wA C x nw tr hq iq tt sc z ++ wB C a b ++ wX C iq t f v o) s) (wA C x nw tr hq iq tt sc (fillZ (scN b t rule) z i2) ++ wB C a b ++ wX C iq t f v o) := hD
          refine W.eq (g2 := F0 m 37 ls [.long (lN (t (4 * i2 + (bp b i2))))]) rfl ?_
          refine lv_goto (tgt := 50) hx hb dX4_scoreAll_37 (by decide) ?_
          refine lv_lstore (lv' := [(5, .long (lN (t (4 * i2 + (bp b i2))))), (4, .int (nI (4 * i2 + (bp b i2)))), (3, .int (nI i2)), (0, .ref x), (1, .ref (a 0)), (2, .int (nI rule))]) hx hb dX4_scoreAll_50 hl (by decide) rfl (fun ls hl => ?_)
          refine lv_aload_n hx hb dX4_scoreAll_52 rfl (lv_at hl 3 rfl) ?_
          refine va_get (ci := 4) (v := .ref sc) (C := RX4) (T := TX4) (N := 6) hx hb hts hin4 hown hK.1 hP 0 rfl rfl 5 (by decide) hf40 (fun _ h9 => h9) rfl dX4_scoreAll_53 ?_
          refine lv_iload_n hx hb dX4_scoreAll_56 rfl (lv_at hl 2 rfl) ?_
          refine lv_lload hx hb dX4_scoreAll_57 (lv_at hl 0 rfl) ?_
          refine lv_aload_n hx hb dX4_scoreAll_59 rfl (lv_at hl 4 rfl) ?_
          refine lv_iload_n hx hb dX4_scoreAll_60 rfl (lv_at hl 2 rfl) ?_
          refine lv_iload_n hx hb dX4_scoreAll_61 rfl (lv_at hl 5 rfl) ?_
          refine q_V (As := [.int (nI i2), .int (nI rule)]) (rest := [.long (lN (t (4 * i2 + (bp b i2)))), .int (nI i2), .ref sc]) ⟨hx, hb, hml, hown, hts⟩ (c_X0_costOf l C a b i2 rule hB (by omega) (by omega)) (cwV 2 hts gX4_scoreAll_X0_costOf rfl rfl rfl (by decide +kernel) ⟨Nat.le_of_ble_eq_true rfl, Nat.le_of_ble_eq_true rfl⟩) hK hP hD hS hA [2, 3, 4, 5, 6, 7, 8, 9] (by decide) rfl 2 rfl rfl rfl rfl hl.1 rfl (Nat.le_of_ble_eq_true rfl) dX4_scoreAll_62 (Nat.zero_le _) (Nat.zero_le _) (fun r w1 H locs hQ hP hD hS => ?_)
          obtain ⟨rfl, rfl⟩ := hQ
          have hP : va_P C.1 vwCl (wA C x nw tr hq iq tt sc (fillZ (scN b t rule) z i2) ++ wB C a b ++ wX C iq t f v o) H := hP
          have hD : va_D (q_A (wA C x nw tr hq iq tt sc z ++ wB C a b ++ wX C iq t f v o) s) (wA C x nw tr hq iq tt sc (fillZ (scN b t rule) z i2) ++ wB C a b ++ wX C iq t f v o) := hD
          refine W.eq (g2 := F0 m 65 ls [.long (lN (costB b i2 rule)), .long (lN (t (4 * i2 + (bp b i2)))), .int (nI i2), .ref sc]) rfl ?_
          refine lv_lsub hx hb dX4_scoreAll_65 ?_
          refine q_tl (y := zL (scN b t rule i2)) (by rw [zL_sub, scN, if_pos c22]) ?_
          refine q_S (As := [.ref sc, .int (nI i2), .long (zL (scN b t rule i2))]) (rest := []) ⟨hx, hb, hml, hown, hts⟩ (c_X4_store_ l C sc 4 i2 (fun k => zL ((fillZ (scN b t rule) z i2) k)) (zL (scN b t rule i2)) (by omega) (by decide)) (va_cwS 3 hts gX4_scoreAll_X4_store_ rfl rfl rfl (by decide +kernel) ⟨Nat.le_of_ble_eq_true rfl, Nat.le_of_ble_eq_true rfl⟩) hK hP hD hS hA [1] (by decide) rfl rfl hl.1 rfl (Nat.le_of_ble_eq_true rfl) dX4_scoreAll_66 (Nat.zero_le _) (Nat.zero_le _) (fun r w1 H locs hQ hP hD hS => ?_)
          obtain ⟨rfl, rfl⟩ := hQ
          rw [q_updZ] at hP hD
          have hP : va_P C.1 vwCl (([(x, .inr (4, [.ref (nw 0), .ref (tr 0), .ref (hq 0), .ref (iq 0), .ref (tt 0), .ref sc])), (sc, .inl (C.2.2.1, 4, .inr (.inl (fun k => zL (upZ (fillZ (scN b t rule) z i2) i2 (scN b t rule i2) k)))))] : va_W) ++ wB C a b ++ wX C iq t f v o) H := hP
          have hD : va_D (q_A (wA C x nw tr hq iq tt sc z ++ wB C a b ++ wX C iq t f v o) s) (([(x, .inr (4, [.ref (nw 0), .ref (tr 0), .ref (hq 0), .ref (iq 0), .ref (tt 0), .ref sc])), (sc, .inl (C.2.2.1, 4, .inr (.inl (fun k => zL (upZ (fillZ (scN b t rule) z i2) i2 (scN b t rule i2) k)))))] : va_W) ++ wB C a b ++ wX C iq t f v o) := hD
          refine W.eq (g2 := F0 m 69 ls []) rfl ?_
          rw [show upZ (fillZ (scN b t rule) z i2) i2 (scN b t rule i2) = fillZ (scN b t rule) z (i2 + 1) from fillZ_s _ _ _] at hP hD
          have hP : va_P C.1 vwCl (wA C x nw tr hq iq tt sc (fillZ (scN b t rule) z (i2 + 1)) ++ wB C a b ++ wX C iq t f v o) H := hP
          have hD : va_D (q_A (wA C x nw tr hq iq tt sc z ++ wB C a b ++ wX C iq t f v o) s) (wA C x nw tr hq iq tt sc (fillZ (scN b t rule) z (i2 + 1)) ++ wB C a b ++ wX C iq t f v o) := hD
          refine lv_iinc (v := nI (i2 + 1)) (lv' := [(3, .int (nI (i2 + 1))), (5, .long (lN (t (4 * i2 + (bp b i2))))), (4, .int (nI (4 * i2 + (bp b i2)))), (0, .ref x), (1, .ref (a 0)), (2, .int (nI rule))]) hx hb dX4_scoreAll_69 hl (k := 2) rfl (nI_1 _) (by decide) rfl (fun ls hl => ?_)
          refine lv_goto (tgt := 2) hx hb dX4_scoreAll_72 (by decide) ?_
          exact ih2 (i2 + 1)  (by omega) (by omega)  _ _ ls hP hD hS (lv_sub hl [0, 3, 4, 5] rfl)
  rw [show z = fillZ (scN b t rule) z 0 from (fillZ_0 _ _).symm] at hP hD
  exact K2 (4 + 1 - 0) 0  (by omega) (by omega)  _ _ ls hP hD hS (lv_sub hl [0, 1, 2, 3] rfl)
set_option maxHeartbeats 4000000 in
set_option maxRecDepth 100000 in
theorem c_X4_chosenBy (l : Launch) (C : q_C) (x : Nat) (nw tr hq iq tt : Nat → Nat) (sc : Nat) (z : Nat → Int) (a : Nat → Nat) (b : Bd) (t f v o : Nat → Nat) (rule : Nat) (hB : OkB b) (hr3 : rule < 3) (hT : ∀ k, k < 16 → t k ≤ 6000000) : q_M C l yX4_chosenBy wsX4_chosenBy 3 71 [.ref x, .ref (a 0), .int (nI rule)] (wA C x nw tr hq iq tt sc z ++ wB C a b ++ wX C iq t f v o) (fun r w => ∃ z1, r = some (.int (nI (choN b t rule))) ∧ w = wA C x nw tr hq iq tt sc z1 ++ wB C a b ++ wX C iq t f v o) := by
  obtain ⟨ok1, ok2, ⟨ok3, ok4, ok5, ok6, ok7⟩, ok8, ok9⟩ := id hB
  refine q_head (cc := cX4_chosenBy) (maxL := 3) (ret := (some .int)) (by decide +kernel) rfl (Nat.le_of_ble_eq_true rfl) ?_
  intro p e s m below meth c hx hb hr hlocks hml hown hts hK hP hD hS hA ls hl
  have hl : lv_has ls 3 [(0, .ref x), (1, .ref (a 0)), (2, .int (nI rule))] := hl
  have hf206 := hts (.fieldLink RX4 206 "RestedArms$Board" "last" "I") (by decide +kernel)
  have hin0 : ∀ w ∈ u_ws RX0 TX0 12, w ∈ wsX4_chosenBy := by decide +kernel
  refine lv_iload_n hx hb dX4_chosenBy_0 rfl (lv_at hl 2 rfl) ?_
  refine lv_if_eq (tgt := 9) hx hb dX4_chosenBy_1 (by decide) (fun c1 => ?_) (fun c1 => ?_)
  · have c1 : rule = 0 := q_neq0 (by omega) (by omega) c1
    refine lv_aload_n hx hb dX4_chosenBy_9 rfl (lv_at hl 0 rfl) ?_
    refine lv_aload_n hx hb dX4_chosenBy_10 rfl (lv_at hl 1 rfl) ?_
    refine lv_iload_n hx hb dX4_chosenBy_11 rfl (lv_at hl 2 rfl) ?_
    refine q_V (As := [.ref (a 0), .int (nI rule)]) (rest := []) ⟨hx, hb, hml, hown, hts⟩ (c_X4_scoreAll l C x nw tr hq iq tt sc z a b t f v o rule hB (by omega)) (cwV 2 hts gX4_chosenBy_X4_scoreAll rfl rfl rfl (by decide +kernel) ⟨Nat.le_of_ble_eq_true rfl, Nat.le_of_ble_eq_true rfl⟩) hK hP hD hS hA [0, 1, 2, 3, 4, 5, 6, 7, 8, 9, 10, 11, 12, 13, 14] (by decide) rfl 0 rfl rfl rfl rfl hl.1 rfl (Nat.le_of_ble_eq_true rfl) dX4_chosenBy_12 (Nat.zero_le _) (Nat.zero_le _) (fun r w1 H locs hQ hP hD hS => ?_)
    obtain ⟨rfl, rfl⟩ := hQ
    have hP : va_P C.1 vwCl (wA C x nw tr hq iq tt sc (scN b t rule) ++ wB C a b ++ wX C iq t f v o) H := hP
    have hD : va_D (q_A (wA C x nw tr hq iq tt sc z ++ wB C a b ++ wX C iq t f v o) s) (wA C x nw tr hq iq tt sc (scN b t rule) ++ wB C a b ++ wX C iq t f v o) := hD
    refine W.eq (g2 := F0 m 15 ls []) rfl ?_
    refine lv_aload_n hx hb dX4_chosenBy_15 rfl (lv_at hl 0 rfl) ?_
    refine lv_aload_n hx hb dX4_chosenBy_16 rfl (lv_at hl 1 rfl) ?_
    refine va_get (ci := 0) (v := .int (nI (bl b) - 1)) (C := RX0) (T := TX0) (N := 12) hx hb hts hin0 hown hK.1 hP 2 rfl rfl 8 (by decide) hf206 (fun _ h9 => h9) rfl dX4_chosenBy_17 ?_
    refine q_V (As := [.int (nI (bl b) - 1)]) (rest := []) ⟨hx, hb, hml, hown, hts⟩ (c_X4_greatestScore l C x nw tr hq iq tt sc (scN b t rule) (bl b) (ok8) (fun k hk => scN_in hB hT hk)) (cwV 1 hts gX4_chosenBy_X4_greatestScore rfl rfl rfl (by decide +kernel) ⟨Nat.le_of_ble_eq_true rfl, Nat.le_of_ble_eq_true rfl⟩) hK hP hD hS hA [0, 1] (by decide) rfl 0 rfl rfl rfl rfl hl.1 rfl (Nat.le_of_ble_eq_true rfl) dX4_chosenBy_20 (Nat.zero_le _) (Nat.zero_le _) (fun r w1 H locs hQ hP hD hS => ?_)
    obtain ⟨rfl, rfl⟩ := hQ
    have hP : va_P C.1 vwCl (wA C x nw tr hq iq tt sc (scN b t rule) ++ wB C a b ++ wX C iq t f v o) H := hP
    have hD : va_D (q_A (wA C x nw tr hq iq tt sc z ++ wB C a b ++ wX C iq t f v o) s) (wA C x nw tr hq iq tt sc (scN b t rule) ++ wB C a b ++ wX C iq t f v o) := hD
    refine W.eq (g2 := F0 m 23 ls [.int (nI (gsN (scN b t rule) ((bl b) - 1) 4))]) rfl ?_
    exact q_iret hx hb hr hlocks (w1 := wA C x nw tr hq iq tt sc (scN b t rule) ++ wB C a b ++ wX C iq t f v o) hP hS rfl dX4_chosenBy_23 (⟨scN b t rule, by rw [choN, if_neg (by omega)], rfl⟩)
  · have c1 : rule ≠ 0 := q_neq0' (by omega) (by omega) c1
    refine lv_iload_n hx hb dX4_chosenBy_4 rfl (lv_at hl 2 rfl) ?_
    refine lv_iconst (v := nI 1) hx hb dX4_chosenBy_5 (by decide) ?_
    refine lv_icmp_ne (tgt := 24) hx hb dX4_chosenBy_6 (by decide) (fun c6 => ?_) (fun c6 => ?_)
    · have c6 : rule ≠ 1 := q_nne (by omega) (by omega) c6
      refine lv_aload_n hx hb dX4_chosenBy_24 rfl (lv_at hl 1 rfl) ?_
      refine va_get (ci := 0) (v := .int (nI (bl b) - 1)) (C := RX0) (T := TX0) (N := 12) hx hb hts hin0 hown hK.1 hP 2 rfl rfl 8 (by decide) hf206 (fun _ h9 => h9) rfl dX4_chosenBy_25 ?_
      refine lv_iconst (v := (-1)) hx hb dX4_chosenBy_28 (by decide) ?_
      refine lv_icmp_ne (tgt := 36) hx hb dX4_chosenBy_29 (by decide) (fun c29 => ?_) (fun c29 => ?_)
      · skip
        refine lv_aload_n hx hb dX4_chosenBy_36 rfl (lv_at hl 1 rfl) ?_
        refine va_get (ci := 0) (v := .int (nI (bl b) - 1)) (C := RX0) (T := TX0) (N := 12) hx hb hts hin0 hown hK.1 hP 2 rfl rfl 8 (by decide) hf206 (fun _ h9 => h9) rfl dX4_chosenBy_37 ?_
        have hb0 : ¬ bl b = 0 := fun q => c29 ((q_las (q_ob5 hB)).mpr q)
        have hbl : 0 < bl b := Nat.pos_of_ne_zero hb0
        refine q_ti (y := nI (bl b - 1)) (q_lsp hbl) ?_
        refine lv_iconst (v := nI 1) hx hb dX4_chosenBy_40 (by decide) ?_
        refine lv_iadd hx hb dX4_chosenBy_41 ?_
        refine q_ti (y := nI ((bl b - 1) + 1)) (nI_add _ _) ?_
        refine lv_iconst (v := nI 4) hx hb dX4_chosenBy_42 (by decide) ?_
        refine lv_irem hx hb dX4_chosenBy_43 (by decide) ?_
        refine q_ti (y := nI (bl b % 4)) (by rw [show nI ((bl b - 1) + 1) = nI (bl b) by congr 1; omega, pk_rem (by omega) (by decide) (by decide)]) ?_
        exact q_iret hx hb hr hlocks (w1 := wA C x nw tr hq iq tt sc z ++ wB C a b ++ wX C iq t f v o) hP hS rfl dX4_chosenBy_44 (⟨z, by rw [choN, if_pos (show rule = 2 by omega)], rfl⟩)
      · skip
        refine lv_iconst (v := nI 0) hx hb dX4_chosenBy_32 (by decide) ?_
        refine lv_goto (tgt := 44) hx hb dX4_chosenBy_33 (by decide) ?_
        exact q_iret hx hb hr hlocks (w1 := wA C x nw tr hq iq tt sc z ++ wB C a b ++ wX C iq t f v o) hP hS rfl dX4_chosenBy_44 (⟨z, by rw [choN, if_pos (show rule = 2 by omega)]; exact congrArg (fun z => some (Value.int (nI z))) (by have e := (q_las (q_ob5 hB)).mp c29; omega), rfl⟩)
    · have c6 : rule = 1 := q_nne' (by omega) (by omega) c6
      refine lv_aload_n hx hb dX4_chosenBy_9 rfl (lv_at hl 0 rfl) ?_
      refine lv_aload_n hx hb dX4_chosenBy_10 rfl (lv_at hl 1 rfl) ?_
      refine lv_iload_n hx hb dX4_chosenBy_11 rfl (lv_at hl 2 rfl) ?_
      refine q_V (As := [.ref (a 0), .int (nI rule)]) (rest := []) ⟨hx, hb, hml, hown, hts⟩ (c_X4_scoreAll l C x nw tr hq iq tt sc z a b t f v o rule hB (by omega)) (cwV 2 hts gX4_chosenBy_X4_scoreAll rfl rfl rfl (by decide +kernel) ⟨Nat.le_of_ble_eq_true rfl, Nat.le_of_ble_eq_true rfl⟩) hK hP hD hS hA [0, 1, 2, 3, 4, 5, 6, 7, 8, 9, 10, 11, 12, 13, 14] (by decide) rfl 0 rfl rfl rfl rfl hl.1 rfl (Nat.le_of_ble_eq_true rfl) dX4_chosenBy_12 (Nat.zero_le _) (Nat.zero_le _) (fun r w1 H locs hQ hP hD hS => ?_)
      obtain ⟨rfl, rfl⟩ := hQ
      have hP : va_P C.1 vwCl (wA C x nw tr hq iq tt sc (scN b t rule) ++ wB C a b ++ wX C iq t f v o) H := hP
      have hD : va_D (q_A (wA C x nw tr hq iq tt sc z ++ wB C a b ++ wX C iq t f v o) s) (wA C x nw tr hq iq tt sc (scN b t rule) ++ wB C a b ++ wX C iq t f v o) := hD
      refine W.eq (g2 := F0 m 15 ls []) rfl ?_
      refine lv_aload_n hx hb dX4_chosenBy_15 rfl (lv_at hl 0 rfl) ?_
      refine lv_aload_n hx hb dX4_chosenBy_16 rfl (lv_at hl 1 rfl) ?_
      refine va_get (ci := 0) (v := .int (nI (bl b) - 1)) (C := RX0) (T := TX0) (N := 12) hx hb hts hin0 hown hK.1 hP 2 rfl rfl 8 (by decide) hf206 (fun _ h9 => h9) rfl dX4_chosenBy_17 ?_
      refine q_V (As := [.int (nI (bl b) - 1)]) (rest := []) ⟨hx, hb, hml, hown, hts⟩ (c_X4_greatestScore l C x nw tr hq iq tt sc (scN b t rule) (bl b) (ok8) (fun k hk => scN_in hB hT hk)) (cwV 1 hts gX4_chosenBy_X4_greatestScore rfl rfl rfl (by decide +kernel) ⟨Nat.le_of_ble_eq_true rfl, Nat.le_of_ble_eq_true rfl⟩) hK hP hD hS hA [0, 1] (by decide) rfl 0 rfl rfl rfl rfl hl.1 rfl (Nat.le_of_ble_eq_true rfl) dX4_chosenBy_20 (Nat.zero_le _) (Nat.zero_le _) (fun r w1 H locs hQ hP hD hS => ?_)
      obtain ⟨rfl, rfl⟩ := hQ
      have hP : va_P C.1 vwCl (wA C x nw tr hq iq tt sc (scN b t rule) ++ wB C a b ++ wX C iq t f v o) H := hP
      have hD : va_D (q_A (wA C x nw tr hq iq tt sc z ++ wB C a b ++ wX C iq t f v o) s) (wA C x nw tr hq iq tt sc (scN b t rule) ++ wB C a b ++ wX C iq t f v o) := hD
      refine W.eq (g2 := F0 m 23 ls [.int (nI (gsN (scN b t rule) ((bl b) - 1) 4))]) rfl ?_
      exact q_iret hx hb hr hlocks (w1 := wA C x nw tr hq iq tt sc (scN b t rule) ++ wB C a b ++ wX C iq t f v o) hP hS rfl dX4_chosenBy_23 (⟨scN b t rule, by rw [choN, if_neg (by omega)], rfl⟩)
