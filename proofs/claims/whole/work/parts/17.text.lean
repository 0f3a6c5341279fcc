/-! the text: methods -/
set_option maxHeartbeats 4000000 in
set_option maxRecDepth 100000 in
theorem c_X3_isStateLetter (l : Launch) (C : q_C) (z : Nat) (hc : z < 2 ^ 31) : q_M C l yX3_isStateLetter wsX3_isStateLetter 1 22 [.int (nI z)] (([] : va_W)) (fun r w => r = some (.int (q_b (decide (97 ≤ z ∧ z ≤ 100)))) ∧ w = []) := by
  refine q_head (cc := cX3_isStateLetter) (maxL := 1) (ret := (some .boolean)) (by decide +kernel) rfl (Nat.le_of_ble_eq_true rfl) ?_
  intro p e s m below meth c hx hb hr hlocks hml hown hts hK hP hD hS hA ls hl
  have hl : lv_has ls 1 [(0, .int (nI z))] := hl
  refine lv_iload_n hx hb dX3_isStateLetter_0 rfl (lv_at hl 0 rfl) ?_
  refine lv_bipush (v := nI 97) hx hb dX3_isStateLetter_1 (by decide) ?_
  refine lv_bipush (v := nI 100) hx hb dX3_isStateLetter_3 (by decide) ?_
  refine q_N (As := [.int (nI z), .int (nI 97), .int (nI 100)]) (rest := []) ⟨hx, hb, hml, hown, hts⟩ (c_isWithinN l C z 97 100 (by omega) (by decide) (by decide)) ⟨va_cnB 3 hts gX3_isStateLetter_X4_isWithin_n48 rfl rfl rfl (q_nw hK 10 rfl) (hts (.initialized RX4) (by decide +kernel)) (by decide +kernel) ⟨Nat.le_of_ble_eq_true rfl, Nat.le_of_ble_eq_true rfl⟩, hts (.static yX4_isWithin) (by decide +kernel), trivial⟩ hK hP hD hS hA [] (by decide) rfl rfl hl.1 rfl (Nat.le_of_ble_eq_true rfl) dX3_isStateLetter_5 (Nat.zero_le _) (Nat.zero_le _) (fun r w1 H locs hQ hP hD hS => ?_)
  obtain ⟨rfl, rfl⟩ := hQ
  refine W.eq (g2 := F0 m 8 ls [.int (q_b (decide (97 ≤ z ∧ z ≤ 100)))]) rfl ?_
  exact q_zret hx hb hr hlocks q_bn (w1 := ([] : va_W)) hP hS rfl dX3_isStateLetter_8 (⟨rfl, rfl⟩)
set_option maxHeartbeats 4000000 in
set_option maxRecDepth 100000 in
theorem c_X3_firstDigit (l : Launch) (C : q_C) (z : Nat) (hc : z < 2 ^ 31) : q_M C l yX3_firstDigit wsX3_firstDigit 1 22 [.int (nI z)] (([] : va_W)) (fun r w => r = some (.int (stI (fdN z))) ∧ w = []) := by
  refine q_head (cc := cX3_firstDigit) (maxL := 1) (ret := (some .int)) (by decide +kernel) rfl (Nat.le_of_ble_eq_true rfl) ?_
  intro p e s m below meth c hx hb hr hlocks hml hown hts hK hP hD hS hA ls hl
  have hl : lv_has ls 1 [(0, .int (nI z))] := hl
  refine lv_iload_n hx hb dX3_firstDigit_0 rfl (lv_at hl 0 rfl) ?_
  refine lv_bipush (v := nI 48) hx hb dX3_firstDigit_1 (by decide) ?_
  refine lv_icmp_ne (tgt := 8) hx hb dX3_firstDigit_3 (by decide) (fun c3 => ?_) (fun c3 => ?_)
  · have c3 : z ≠ 48 := q_nne (by omega) (by omega) c3
    refine lv_iload_n hx hb dX3_firstDigit_8 rfl (lv_at hl 0 rfl) ?_
    refine lv_bipush (v := nI 49) hx hb dX3_firstDigit_9 (by decide) ?_
    refine lv_bipush (v := nI 57) hx hb dX3_firstDigit_11 (by decide) ?_
    refine q_N (As := [.int (nI z), .int (nI 49), .int (nI 57)]) (rest := []) ⟨hx, hb, hml, hown, hts⟩ (c_isWithinN l C z 49 57 (by omega) (by decide) (by decide)) ⟨va_cnB 3 hts gX3_firstDigit_X4_isWithin_n48 rfl rfl rfl (q_nw hK 10 rfl) (hts (.initialized RX4) (by decide +kernel)) (by decide +kernel) ⟨Nat.le_of_ble_eq_true rfl, Nat.le_of_ble_eq_true rfl⟩, hts (.static yX4_isWithin) (by decide +kernel), trivial⟩ hK hP hD hS hA [] (by decide) rfl rfl hl.1 rfl (Nat.le_of_ble_eq_true rfl) dX3_firstDigit_13 (Nat.zero_le _) (Nat.zero_le _) (fun r w1 H locs hQ hP hD hS => ?_)
    obtain ⟨rfl, rfl⟩ := hQ
    refine W.eq (g2 := F0 m 16 ls [.int (q_b (decide (49 ≤ z ∧ z ≤ 57)))]) rfl ?_
    refine lv_if_eq (tgt := 23) hx hb dX3_firstDigit_16 (by decide) (fun c16 => ?_) (fun c16 => ?_)
    · have c16 : decide (49 ≤ z ∧ z ≤ 57) = false := q_b0.mp c16
      refine lv_iconst (v := (-1)) hx hb dX3_firstDigit_23 (by decide) ?_
      exact q_iret hx hb hr hlocks (w1 := ([] : va_W)) hP hS rfl dX3_firstDigit_24 (⟨congrArg (fun z => some (Value.int z)) (by rw [show fdN z = 10 from (if_neg c3).trans (if_neg (of_decide_eq_false c16))]; rfl), rfl⟩)
    · have c16 : decide (49 ≤ z ∧ z ≤ 57) = true := q_b1.mp c16
      refine lv_iconst (v := nI 4) hx hb dX3_firstDigit_19 (by decide) ?_
      refine lv_goto (tgt := 24) hx hb dX3_firstDigit_20 (by decide) ?_
      exact q_iret hx hb hr hlocks (w1 := ([] : va_W)) hP hS rfl dX3_firstDigit_24 (⟨congrArg (fun z => some (Value.int z)) (by rw [show fdN z = 4 from (if_neg c3).trans (if_pos (of_decide_eq_true c16))]; rfl), rfl⟩)
  · have c3 : z = 48 := q_nne' (by omega) (by omega) c3
    refine lv_iconst (v := nI 5) hx hb dX3_firstDigit_6 (by decide) ?_
    exact q_iret hx hb hr hlocks (w1 := ([] : va_W)) hP hS rfl dX3_firstDigit_7 (⟨congrArg (fun z => some (Value.int z)) (by rw [show fdN z = 5 from if_pos c3]; rfl), rfl⟩)
set_option maxHeartbeats 4000000 in
set_option maxRecDepth 100000 in
theorem c_X3_behindGift (l : Launch) (C : q_C) (z : Nat) (hc : z < 2 ^ 31) : q_M C l yX3_behindGift wsX3_behindGift 0 0 [.int (nI z)] (([] : va_W)) (fun r w => r = some (.int (stI (bgN z))) ∧ w = []) := by
  refine q_head (cc := cX3_behindGift) (maxL := 1) (ret := (some .int)) (by decide +kernel) rfl (Nat.le_of_ble_eq_true rfl) ?_
  intro p e s m below meth c hx hb hr hlocks hml hown hts hK hP hD hS hA ls hl
  have hl : lv_has ls 1 [(0, .int (nI z))] := hl
  refine lv_iload_n hx hb dX3_behindGift_0 rfl (lv_at hl 0 rfl) ?_
  refine lv_bipush (v := nI 59) hx hb dX3_behindGift_1 (by decide) ?_
  refine lv_icmp_ne (tgt := 8) hx hb dX3_behindGift_3 (by decide) (fun c3 => ?_) (fun c3 => ?_)
  · have c3 : z ≠ 59 := q_nne (by omega) (by omega) c3
    refine lv_iload_n hx hb dX3_behindGift_8 rfl (lv_at hl 0 rfl) ?_
    refine lv_bipush (v := nI 62) hx hb dX3_behindGift_9 (by decide) ?_
    refine lv_icmp_ne (tgt := 19) hx hb dX3_behindGift_11 (by decide) (fun c11 => ?_) (fun c11 => ?_)
    · have c11 : z ≠ 62 := q_nne (by omega) (by omega) c11
      refine lv_iconst (v := (-1)) hx hb dX3_behindGift_19 (by decide) ?_
      exact q_iret hx hb hr hlocks (w1 := ([] : va_W)) hP hS rfl dX3_behindGift_20 (⟨congrArg (fun z => some (Value.int z)) (by rw [show bgN z = 10 from (if_neg c3).trans (if_neg c11)]; rfl), rfl⟩)
    · have c11 : z = 62 := q_nne' (by omega) (by omega) c11
      refine lv_bipush (v := nI 6) hx hb dX3_behindGift_14 (by decide) ?_
      refine lv_goto (tgt := 20) hx hb dX3_behindGift_16 (by decide) ?_
      exact q_iret hx hb hr hlocks (w1 := ([] : va_W)) hP hS rfl dX3_behindGift_20 (⟨congrArg (fun z => some (Value.int z)) (by rw [show bgN z = 6 from (if_neg c3).trans (if_pos c11)]; rfl), rfl⟩)
  · have c3 : z = 59 := q_nne' (by omega) (by omega) c3
    refine lv_iconst (v := nI 0) hx hb dX3_behindGift_6 (by decide) ?_
    exact q_iret hx hb hr hlocks (w1 := ([] : va_W)) hP hS rfl dX3_behindGift_7 (⟨congrArg (fun z => some (Value.int z)) (by rw [show bgN z = 0 from if_pos c3]; rfl), rfl⟩)
set_option maxHeartbeats 4000000 in
set_option maxRecDepth 100000 in
theorem c_X3_nextStage (l : Launch) (C : q_C) (g z : Nat) (hg1 : g ≤ 10) (hc : z < 2 ^ 31) : q_M C l yX3_nextStage wsX3_nextStage 2 42 [.int (stI g), .int (nI z)] (([] : va_W)) (fun r w => r = some (.int (stI (nst g z))) ∧ w = []) := by
  refine q_head (cc := cX3_nextStage) (maxL := 2) (ret := (some .int)) (by decide +kernel) rfl (Nat.le_of_ble_eq_true rfl) ?_
  intro p e s m below meth c hx hb hr hlocks hml hown hts hK hP hD hS hA ls hl
  have hl : lv_has ls 2 [(0, .int (stI g)), (1, .int (nI z))] := hl
  have hg0 : g = 0 ∨ g = 1 ∨ g = 2 ∨ g = 3 ∨ g = 4 ∨ g = 5 ∨ g = 6 ∨ g = 7 ∨ g = 8 ∨ g = 9 ∨ g = 10 := by omega
  rcases hg0 with hg | hg | hg | hg | hg | hg | hg | hg | hg | hg | hg
  · skip
    subst hg
    refine lv_iload_n hx hb dX3_nextStage_0 rfl (lv_at hl 0 rfl) ?_
    refine q_ti (y := nI 0) (by decide) ?_
    refine lv_tableIn (off := (55)) (tgt := 56) hx hb dX3_nextStage_1 (by decide) (by decide) (by decide) (by decide) ?_
    refine lv_iload_n hx hb dX3_nextStage_56 rfl (lv_at hl 1 rfl) ?_
    refine lv_bipush (v := nI 48) hx hb dX3_nextStage_57 (by decide) ?_
    refine lv_bipush (v := nI 51) hx hb dX3_nextStage_59 (by decide) ?_
    refine q_N (As := [.int (nI z), .int (nI 48), .int (nI 51)]) (rest := []) ⟨hx, hb, hml, hown, hts⟩ (c_isWithinN l C z 48 51 (by omega) (by decide) (by decide)) ⟨va_cnB 3 hts gX3_nextStage_X4_isWithin_n48 rfl rfl rfl (q_nw hK 10 rfl) (hts (.initialized RX4) (by decide +kernel)) (by decide +kernel) ⟨Nat.le_of_ble_eq_true rfl, Nat.le_of_ble_eq_true rfl⟩, hts (.static yX4_isWithin) (by decide +kernel), trivial⟩ hK hP hD hS hA [] (by decide) rfl rfl hl.1 rfl (Nat.le_of_ble_eq_true rfl) dX3_nextStage_61 (Nat.zero_le _) (Nat.zero_le _) (fun r w1 H locs hQ hP hD hS => ?_)
    obtain ⟨rfl, rfl⟩ := hQ
    refine W.eq (g2 := F0 m 64 ls [.int (q_b (decide (48 ≤ z ∧ z ≤ 51)))]) rfl ?_
    refine lv_if_eq (tgt := 71) hx hb dX3_nextStage_64 (by decide) (fun c64 => ?_) (fun c64 => ?_)
    · have c64 : decide (48 ≤ z ∧ z ≤ 51) = false := q_b0.mp c64
      refine lv_iconst (v := (-1)) hx hb dX3_nextStage_71 (by decide) ?_
      exact q_iret hx hb hr hlocks (w1 := ([] : va_W)) hP hS rfl dX3_nextStage_72 (⟨congrArg (fun z => some (Value.int z)) (by rw [show nst 0 z = 10 from if_neg (of_decide_eq_false c64)]; rfl), rfl⟩)
    · have c64 : decide (48 ≤ z ∧ z ≤ 51) = true := q_b1.mp c64
      refine lv_iconst (v := nI 1) hx hb dX3_nextStage_67 (by decide) ?_
      refine lv_goto (tgt := 72) hx hb dX3_nextStage_68 (by decide) ?_
      exact q_iret hx hb hr hlocks (w1 := ([] : va_W)) hP hS rfl dX3_nextStage_72 (⟨congrArg (fun z => some (Value.int z)) (by rw [show nst 0 z = 1 from if_pos (of_decide_eq_true c64)]; rfl), rfl⟩)
  · skip
    subst hg
    refine lv_iload_n hx hb dX3_nextStage_0 rfl (lv_at hl 0 rfl) ?_
    refine q_ti (y := nI 1) (by decide) ?_
    refine lv_tableIn (off := (72)) (tgt := 73) hx hb dX3_nextStage_1 (by decide) (by decide) (by decide) (by decide) ?_
    refine lv_iload_n hx hb dX3_nextStage_73 rfl (lv_at hl 1 rfl) ?_
    refine q_S (As := [.int (nI z)]) (rest := []) ⟨hx, hb, hml, hown, hts⟩ (c_X3_isStateLetter l C z (by omega)) (va_cwS 1 hts gX3_nextStage_X3_isStateLetter rfl rfl rfl (by decide +kernel) ⟨Nat.le_of_ble_eq_true rfl, Nat.le_of_ble_eq_true rfl⟩) hK hP hD hS hA [] (by decide) rfl rfl hl.1 rfl (Nat.le_of_ble_eq_true rfl) dX3_nextStage_74 (Nat.zero_le _) (Nat.zero_le _) (fun r w1 H locs hQ hP hD hS => ?_)
    obtain ⟨rfl, rfl⟩ := hQ
    refine W.eq (g2 := F0 m 77 ls [.int (q_b (decide (97 ≤ z ∧ z ≤ 100)))]) rfl ?_
    refine lv_if_eq (tgt := 84) hx hb dX3_nextStage_77 (by decide) (fun c77 => ?_) (fun c77 => ?_)
    · have c77 : decide (97 ≤ z ∧ z ≤ 100) = false := q_b0.mp c77
      refine lv_iconst (v := (-1)) hx hb dX3_nextStage_84 (by decide) ?_
      exact q_iret hx hb hr hlocks (w1 := ([] : va_W)) hP hS rfl dX3_nextStage_85 (⟨congrArg (fun z => some (Value.int z)) (by rw [show nst 1 z = 10 from if_neg (of_decide_eq_false c77)]; rfl), rfl⟩)
    · have c77 : decide (97 ≤ z ∧ z ≤ 100) = true := q_b1.mp c77
      refine lv_iconst (v := nI 2) hx hb dX3_nextStage_80 (by decide) ?_
      refine lv_goto (tgt := 85) hx hb dX3_nextStage_81 (by decide) ?_
      exact q_iret hx hb hr hlocks (w1 := ([] : va_W)) hP hS rfl dX3_nextStage_85 (⟨congrArg (fun z => some (Value.int z)) (by rw [show nst 1 z = 2 from if_pos (of_decide_eq_true c77)]; rfl), rfl⟩)
  · skip
    subst hg
    refine lv_iload_n hx hb dX3_nextStage_0 rfl (lv_at hl 0 rfl) ?_
    refine q_ti (y := nI 2) (by decide) ?_
    refine lv_tableIn (off := (85)) (tgt := 86) hx hb dX3_nextStage_1 (by decide) (by decide) (by decide) (by decide) ?_
    refine lv_iload_n hx hb dX3_nextStage_86 rfl (lv_at hl 1 rfl) ?_
    refine lv_bipush (v := nI 61) hx hb dX3_nextStage_87 (by decide) ?_
    refine lv_icmp_ne (tgt := 96) hx hb dX3_nextStage_89 (by decide) (fun c89 => ?_) (fun c89 => ?_)
    · have c89 : z ≠ 61 := q_nne (by omega) (by omega) c89
      refine lv_iconst (v := (-1)) hx hb dX3_nextStage_96 (by decide) ?_
      exact q_iret hx hb hr hlocks (w1 := ([] : va_W)) hP hS rfl dX3_nextStage_97 (⟨congrArg (fun z => some (Value.int z)) (by rw [show nst 2 z = 10 from if_neg c89]; rfl), rfl⟩)
    · have c89 : z = 61 := q_nne' (by omega) (by omega) c89
      refine lv_iconst (v := nI 3) hx hb dX3_nextStage_92 (by decide) ?_
      refine lv_goto (tgt := 97) hx hb dX3_nextStage_93 (by decide) ?_
      exact q_iret hx hb hr hlocks (w1 := ([] : va_W)) hP hS rfl dX3_nextStage_97 (⟨congrArg (fun z => some (Value.int z)) (by rw [show nst 2 z = 3 from if_pos c89]; rfl), rfl⟩)
  · skip
    subst hg
    refine lv_iload_n hx hb dX3_nextStage_0 rfl (lv_at hl 0 rfl) ?_
    refine q_ti (y := nI 3) (by decide) ?_
    refine lv_tableIn (off := (97)) (tgt := 98) hx hb dX3_nextStage_1 (by decide) (by decide) (by decide) (by decide) ?_
    refine lv_iload_n hx hb dX3_nextStage_98 rfl (lv_at hl 1 rfl) ?_
    refine q_S (As := [.int (nI z)]) (rest := []) ⟨hx, hb, hml, hown, hts⟩ (c_X3_firstDigit l C z (by omega)) (va_cwS 1 hts gX3_nextStage_X3_firstDigit rfl rfl rfl (by decide +kernel) ⟨Nat.le_of_ble_eq_true rfl, Nat.le_of_ble_eq_true rfl⟩) hK hP hD hS hA [] (by decide) rfl rfl hl.1 rfl (Nat.le_of_ble_eq_true rfl) dX3_nextStage_99 (Nat.zero_le _) (Nat.zero_le _) (fun r w1 H locs hQ hP hD hS => ?_)
    obtain ⟨rfl, rfl⟩ := hQ
    refine W.eq (g2 := F0 m 102 ls [.int (stI (fdN z))]) rfl ?_
    exact q_iret hx hb hr hlocks (w1 := ([] : va_W)) hP hS rfl dX3_nextStage_102 (⟨rfl, rfl⟩)
  · skip
    subst hg
    refine lv_iload_n hx hb dX3_nextStage_0 rfl (lv_at hl 0 rfl) ?_
    refine q_ti (y := nI 4) (by decide) ?_
    refine lv_tableIn (off := (102)) (tgt := 103) hx hb dX3_nextStage_1 (by decide) (by decide) (by decide) (by decide) ?_
    refine lv_iload_n hx hb dX3_nextStage_103 rfl (lv_at hl 1 rfl) ?_
    refine lv_bipush (v := nI 48) hx hb dX3_nextStage_104 (by decide) ?_
    refine lv_bipush (v := nI 57) hx hb dX3_nextStage_106 (by decide) ?_
    refine q_N (As := [.int (nI z), .int (nI 48), .int (nI 57)]) (rest := []) ⟨hx, hb, hml, hown, hts⟩ (c_isWithinN l C z 48 57 (by omega) (by decide) (by decide)) ⟨va_cnB 3 hts gX3_nextStage_X4_isWithin_n48 rfl rfl rfl (q_nw hK 10 rfl) (hts (.initialized RX4) (by decide +kernel)) (by decide +kernel) ⟨Nat.le_of_ble_eq_true rfl, Nat.le_of_ble_eq_true rfl⟩, hts (.static yX4_isWithin) (by decide +kernel), trivial⟩ hK hP hD hS hA [] (by decide) rfl rfl hl.1 rfl (Nat.le_of_ble_eq_true rfl) dX3_nextStage_108 (Nat.zero_le _) (Nat.zero_le _) (fun r w1 H locs hQ hP hD hS => ?_)
    obtain ⟨rfl, rfl⟩ := hQ
    refine W.eq (g2 := F0 m 111 ls [.int (q_b (decide (48 ≤ z ∧ z ≤ 57)))]) rfl ?_
    refine lv_if_eq (tgt := 118) hx hb dX3_nextStage_111 (by decide) (fun c111 => ?_) (fun c111 => ?_)
    · have c111 : decide (48 ≤ z ∧ z ≤ 57) = false := q_b0.mp c111
      refine lv_iload_n hx hb dX3_nextStage_118 rfl (lv_at hl 1 rfl) ?_
      refine q_S (As := [.int (nI z)]) (rest := []) ⟨hx, hb, hml, hown, hts⟩ (c_X3_behindGift l C z (by omega)) (va_cwS 1 hts gX3_nextStage_X3_behindGift rfl rfl rfl (by decide +kernel) ⟨Nat.le_of_ble_eq_true rfl, Nat.le_of_ble_eq_true rfl⟩) hK hP hD hS hA [] (by decide) rfl rfl hl.1 rfl (Nat.le_of_ble_eq_true rfl) dX3_nextStage_119 (Nat.zero_le _) (Nat.zero_le _) (fun r w1 H locs hQ hP hD hS => ?_)
      obtain ⟨rfl, rfl⟩ := hQ
      refine W.eq (g2 := F0 m 122 ls [.int (stI (bgN z))]) rfl ?_
      exact q_iret hx hb hr hlocks (w1 := ([] : va_W)) hP hS rfl dX3_nextStage_122 (⟨congrArg (fun z => some (Value.int z)) (by rw [show nst 4 z = bgN z from if_neg (of_decide_eq_false c111)]), rfl⟩)
    · have c111 : decide (48 ≤ z ∧ z ≤ 57) = true := q_b1.mp c111
      refine lv_iconst (v := nI 5) hx hb dX3_nextStage_114 (by decide) ?_
      refine lv_goto (tgt := 122) hx hb dX3_nextStage_115 (by decide) ?_
      exact q_iret hx hb hr hlocks (w1 := ([] : va_W)) hP hS rfl dX3_nextStage_122 (⟨congrArg (fun z => some (Value.int z)) (by rw [show nst 4 z = 5 from if_pos (of_decide_eq_true c111)]; rfl), rfl⟩)
  · skip
    subst hg
    refine lv_iload_n hx hb dX3_nextStage_0 rfl (lv_at hl 0 rfl) ?_
    refine q_ti (y := nI 5) (by decide) ?_
    refine lv_tableIn (off := (122)) (tgt := 123) hx hb dX3_nextStage_1 (by decide) (by decide) (by decide) (by decide) ?_
    refine lv_iload_n hx hb dX3_nextStage_123 rfl (lv_at hl 1 rfl) ?_
    refine q_S (As := [.int (nI z)]) (rest := []) ⟨hx, hb, hml, hown, hts⟩ (c_X3_behindGift l C z (by omega)) (va_cwS 1 hts gX3_nextStage_X3_behindGift rfl rfl rfl (by decide +kernel) ⟨Nat.le_of_ble_eq_true rfl, Nat.le_of_ble_eq_true rfl⟩) hK hP hD hS hA [] (by decide) rfl rfl hl.1 rfl (Nat.le_of_ble_eq_true rfl) dX3_nextStage_124 (Nat.zero_le _) (Nat.zero_le _) (fun r w1 H locs hQ hP hD hS => ?_)
    obtain ⟨rfl, rfl⟩ := hQ
    refine W.eq (g2 := F0 m 127 ls [.int (stI (bgN z))]) rfl ?_
    exact q_iret hx hb hr hlocks (w1 := ([] : va_W)) hP hS rfl dX3_nextStage_127 (⟨rfl, rfl⟩)
  · skip
    subst hg
    refine lv_iload_n hx hb dX3_nextStage_0 rfl (lv_at hl 0 rfl) ?_
    refine q_ti (y := nI 6) (by decide) ?_
    refine lv_tableIn (off := (127)) (tgt := 128) hx hb dX3_nextStage_1 (by decide) (by decide) (by decide) (by decide) ?_
    refine lv_iload_n hx hb dX3_nextStage_128 rfl (lv_at hl 1 rfl) ?_
    refine q_S (As := [.int (nI z)]) (rest := []) ⟨hx, hb, hml, hown, hts⟩ (c_X3_isStateLetter l C z (by omega)) (va_cwS 1 hts gX3_nextStage_X3_isStateLetter rfl rfl rfl (by decide +kernel) ⟨Nat.le_of_ble_eq_true rfl, Nat.le_of_ble_eq_true rfl⟩) hK hP hD hS hA [] (by decide) rfl rfl hl.1 rfl (Nat.le_of_ble_eq_true rfl) dX3_nextStage_129 (Nat.zero_le _) (Nat.zero_le _) (fun r w1 H locs hQ hP hD hS => ?_)
    obtain ⟨rfl, rfl⟩ := hQ
    refine W.eq (g2 := F0 m 132 ls [.int (q_b (decide (97 ≤ z ∧ z ≤ 100)))]) rfl ?_
    refine lv_if_eq (tgt := 140) hx hb dX3_nextStage_132 (by decide) (fun c132 => ?_) (fun c132 => ?_)
    · have c132 : decide (97 ≤ z ∧ z ≤ 100) = false := q_b0.mp c132
      refine lv_iconst (v := (-1)) hx hb dX3_nextStage_140 (by decide) ?_
      exact q_iret hx hb hr hlocks (w1 := ([] : va_W)) hP hS rfl dX3_nextStage_141 (⟨congrArg (fun z => some (Value.int z)) (by rw [show nst 6 z = 10 from if_neg (of_decide_eq_false c132)]; rfl), rfl⟩)
    · have c132 : decide (97 ≤ z ∧ z ≤ 100) = true := q_b1.mp c132
      refine lv_bipush (v := nI 7) hx hb dX3_nextStage_135 (by decide) ?_
      refine lv_goto (tgt := 141) hx hb dX3_nextStage_137 (by decide) ?_
      exact q_iret hx hb hr hlocks (w1 := ([] : va_W)) hP hS rfl dX3_nextStage_141 (⟨congrArg (fun z => some (Value.int z)) (by rw [show nst 6 z = 7 from if_pos (of_decide_eq_true c132)]; rfl), rfl⟩)
  · skip
    subst hg
    refine lv_iload_n hx hb dX3_nextStage_0 rfl (lv_at hl 0 rfl) ?_
    refine q_ti (y := nI 7) (by decide) ?_
    refine lv_tableIn (off := (141)) (tgt := 142) hx hb dX3_nextStage_1 (by decide) (by decide) (by decide) (by decide) ?_
    refine lv_iload_n hx hb dX3_nextStage_142 rfl (lv_at hl 1 rfl) ?_
    refine q_S (As := [.int (nI z)]) (rest := []) ⟨hx, hb, hml, hown, hts⟩ (c_X3_isStateLetter l C z (by omega)) (va_cwS 1 hts gX3_nextStage_X3_isStateLetter rfl rfl rfl (by decide +kernel) ⟨Nat.le_of_ble_eq_true rfl, Nat.le_of_ble_eq_true rfl⟩) hK hP hD hS hA [] (by decide) rfl rfl hl.1 rfl (Nat.le_of_ble_eq_true rfl) dX3_nextStage_143 (Nat.zero_le _) (Nat.zero_le _) (fun r w1 H locs hQ hP hD hS => ?_)
    obtain ⟨rfl, rfl⟩ := hQ
    refine W.eq (g2 := F0 m 146 ls [.int (q_b (decide (97 ≤ z ∧ z ≤ 100)))]) rfl ?_
    refine lv_if_eq (tgt := 154) hx hb dX3_nextStage_146 (by decide) (fun c146 => ?_) (fun c146 => ?_)
    · have c146 : decide (97 ≤ z ∧ z ≤ 100) = false := q_b0.mp c146
      refine lv_iconst (v := (-1)) hx hb dX3_nextStage_154 (by decide) ?_
      exact q_iret hx hb hr hlocks (w1 := ([] : va_W)) hP hS rfl dX3_nextStage_155 (⟨congrArg (fun z => some (Value.int z)) (by rw [show nst 7 z = 10 from if_neg (of_decide_eq_false c146)]; rfl), rfl⟩)
    · have c146 : decide (97 ≤ z ∧ z ≤ 100) = true := q_b1.mp c146
      refine lv_bipush (v := nI 8) hx hb dX3_nextStage_149 (by decide) ?_
      refine lv_goto (tgt := 155) hx hb dX3_nextStage_151 (by decide) ?_
      exact q_iret hx hb hr hlocks (w1 := ([] : va_W)) hP hS rfl dX3_nextStage_155 (⟨congrArg (fun z => some (Value.int z)) (by rw [show nst 7 z = 8 from if_pos (of_decide_eq_true c146)]; rfl), rfl⟩)
  · skip
    subst hg
    refine lv_iload_n hx hb dX3_nextStage_0 rfl (lv_at hl 0 rfl) ?_
    refine q_ti (y := nI 8) (by decide) ?_
    refine lv_tableIn (off := (155)) (tgt := 156) hx hb dX3_nextStage_1 (by decide) (by decide) (by decide) (by decide) ?_
    refine lv_iload_n hx hb dX3_nextStage_156 rfl (lv_at hl 1 rfl) ?_
    refine lv_bipush (v := nI 48) hx hb dX3_nextStage_157 (by decide) ?_
    refine lv_bipush (v := nI 56) hx hb dX3_nextStage_159 (by decide) ?_
    refine q_N (As := [.int (nI z), .int (nI 48), .int (nI 56)]) (rest := []) ⟨hx, hb, hml, hown, hts⟩ (c_isWithinN l C z 48 56 (by omega) (by decide) (by decide)) ⟨va_cnB 3 hts gX3_nextStage_X4_isWithin_n48 rfl rfl rfl (q_nw hK 10 rfl) (hts (.initialized RX4) (by decide +kernel)) (by decide +kernel) ⟨Nat.le_of_ble_eq_true rfl, Nat.le_of_ble_eq_true rfl⟩, hts (.static yX4_isWithin) (by decide +kernel), trivial⟩ hK hP hD hS hA [] (by decide) rfl rfl hl.1 rfl (Nat.le_of_ble_eq_true rfl) dX3_nextStage_161 (Nat.zero_le _) (Nat.zero_le _) (fun r w1 H locs hQ hP hD hS => ?_)
    obtain ⟨rfl, rfl⟩ := hQ
    refine W.eq (g2 := F0 m 164 ls [.int (q_b (decide (48 ≤ z ∧ z ≤ 56)))]) rfl ?_
    refine lv_if_eq (tgt := 172) hx hb dX3_nextStage_164 (by decide) (fun c164 => ?_) (fun c164 => ?_)
    · have c164 : decide (48 ≤ z ∧ z ≤ 56) = false := q_b0.mp c164
      refine lv_iconst (v := (-1)) hx hb dX3_nextStage_172 (by decide) ?_
      exact q_iret hx hb hr hlocks (w1 := ([] : va_W)) hP hS rfl dX3_nextStage_173 (⟨congrArg (fun z => some (Value.int z)) (by rw [show nst 8 z = 10 from if_neg (of_decide_eq_false c164)]; rfl), rfl⟩)
    · have c164 : decide (48 ≤ z ∧ z ≤ 56) = true := q_b1.mp c164
      refine lv_bipush (v := nI 9) hx hb dX3_nextStage_167 (by decide) ?_
      refine lv_goto (tgt := 173) hx hb dX3_nextStage_169 (by decide) ?_
      exact q_iret hx hb hr hlocks (w1 := ([] : va_W)) hP hS rfl dX3_nextStage_173 (⟨congrArg (fun z => some (Value.int z)) (by rw [show nst 8 z = 9 from if_pos (of_decide_eq_true c164)]; rfl), rfl⟩)
  · skip
    subst hg
    refine lv_iload_n hx hb dX3_nextStage_0 rfl (lv_at hl 0 rfl) ?_
    refine q_ti (y := nI 9) (by decide) ?_
    refine lv_tableIn (off := (173)) (tgt := 174) hx hb dX3_nextStage_1 (by decide) (by decide) (by decide) (by decide) ?_
    refine lv_iload_n hx hb dX3_nextStage_174 rfl (lv_at hl 1 rfl) ?_
    refine lv_bipush (v := nI 59) hx hb dX3_nextStage_175 (by decide) ?_
    refine lv_icmp_ne (tgt := 184) hx hb dX3_nextStage_177 (by decide) (fun c177 => ?_) (fun c177 => ?_)
    · have c177 : z ≠ 59 := q_nne (by omega) (by omega) c177
      refine lv_iconst (v := (-1)) hx hb dX3_nextStage_184 (by decide) ?_
      exact q_iret hx hb hr hlocks (w1 := ([] : va_W)) hP hS rfl dX3_nextStage_185 (⟨congrArg (fun z => some (Value.int z)) (by rw [show nst 9 z = 10 from if_neg c177]; rfl), rfl⟩)
    · have c177 : z = 59 := q_nne' (by omega) (by omega) c177
      refine lv_iconst (v := nI 0) hx hb dX3_nextStage_180 (by decide) ?_
      refine lv_goto (tgt := 185) hx hb dX3_nextStage_181 (by decide) ?_
      exact q_iret hx hb hr hlocks (w1 := ([] : va_W)) hP hS rfl dX3_nextStage_185 (⟨congrArg (fun z => some (Value.int z)) (by rw [show nst 9 z = 0 from if_pos c177]; rfl), rfl⟩)
  · skip
    subst hg
    refine lv_iload_n hx hb dX3_nextStage_0 rfl (lv_at hl 0 rfl) ?_
    refine q_ti (y := (-1)) (by decide) ?_
    refine lv_tableOut (tgt := 186) hx hb dX3_nextStage_1 (by decide) (by decide) ?_
    refine lv_iconst (v := (-1)) hx hb dX3_nextStage_186 (by decide) ?_
    exact q_iret hx hb hr hlocks (w1 := ([] : va_W)) hP hS rfl dX3_nextStage_187 (⟨congrArg (fun z => some (Value.int z)) (by rw [show nst 10 z = 10 from rfl]; rfl), rfl⟩)
set_option maxHeartbeats 4000000 in
set_option maxRecDepth 100000 in
theorem c_X3_errorPlace (l : Launch) (C : q_C) (t : Nat → Nat) (n : Nat) (cd : Nat → Nat) (hn : n ≤ 60) (hcd : ∀ k, k < n → cd k < 2 ^ 31) : q_M C l yX3_errorPlace wsX3_errorPlace 3 63 [.ref (t 0)] (wT C t n cd) (fun r w => r = some (.int (nI (errN cd n))) ∧ w = wT C t n cd) := by
  refine q_head (cc := cX3_errorPlace) (maxL := 3) (ret := (some .int)) (by decide +kernel) rfl (Nat.le_of_ble_eq_true rfl) ?_
  intro p e s m below meth c hx hb hr hlocks hml hown hts hK hP hD hS hA ls hl
  have hl : lv_has ls 3 [(0, .ref (t 0))] := hl
  have hf15 := hts (.fieldLink RX3 15 "RestedArms$Text" "length" "I") (by decide +kernel)
  have hf9 := hts (.fieldLink RX3 9 "RestedArms$Text" "codes" "[I") (by decide +kernel)
  have hin3 : ∀ w ∈ u_ws RX3 TX3 2, w ∈ wsX3_errorPlace := by decide +kernel
  refine lv_iconst (v := nI 0) hx hb dX3_errorPlace_0 (by decide) ?_
  refine lv_istore_n (lv' := [(1, .int (nI 0)), (0, .ref (t 0))]) hx hb dX3_errorPlace_1 rfl hl (by decide) rfl (fun ls hl => ?_)
  refine lv_iconst (v := nI 0) hx hb dX3_errorPlace_2 (by decide) ?_
  refine lv_istore_n (lv' := [(2, .int (nI 0)), (1, .int (nI 0)), (0, .ref (t 0))]) hx hb dX3_errorPlace_3 rfl hl (by decide) rfl (fun ls hl => ?_)
  have K4 : ∀ (n4 i4 : Nat), i4 ≤ n → n + 1 ≤ i4 + n4 → (errF cd (n - i4) i4 = errN cd n) → ∀ (H : Heap) (locs : List Loc) (ls : Array Slot), va_P C.1 vwCl (wT C t n cd) H → va_D (q_A (wT C t n cd) s) (wT C t n cd) → va_S (q_A (wT C t n cd) s) s.heap H locs → lv_has ls 3 [(2, .int (nI i4)), (1, .int (stI (stg cd i4))), (0, .ref (t 0))] → W p l e (q_R 3 63) s m ([.ref (t 0)] : List Value).toArray below meth c H locs 0 0 (q_G C below (wT C t n cd) (fun r w => r = some (.int (nI (errN cd n))) ∧ w = wT C t n cd) ([.ref (t 0)] : List Value).toArray s) (F0 m 4 ls []) := by
    intro n4
    induction n4 with
    | zero => intro i4  q1 q2; exact absurd q2 (by omega)
    | succ n4 ih4 =>
      intro i4  hi4 hn4 hE4 H locs ls hP hD hS hl
      refine lv_iload_n hx hb dX3_errorPlace_4 rfl (lv_at hl 0 rfl) ?_
      refine lv_aload_n hx hb dX3_errorPlace_5 rfl (lv_at hl 2 rfl) ?_
      refine va_get (ci := 3) (v := .int (nI n)) (C := RX3) (T := TX3) (N := 2) hx hb hts hin3 hown hK.1 hP 0 rfl rfl 1 (by decide) hf15 (fun _ h9 => h9) rfl dX3_errorPlace_6 ?_
      refine lv_icmp_ge (tgt := 38) hx hb dX3_errorPlace_9 (by decide) (fun c9 => ?_) (fun c9 => ?_)
      · have c9 : n ≤ i4 := q_nge (by omega) (by omega) c9
        refine lv_aload_n hx hb dX3_errorPlace_38 rfl (lv_at hl 2 rfl) ?_
        refine va_get (ci := 3) (v := .int (nI n)) (C := RX3) (T := TX3) (N := 2) hx hb hts hin3 hown hK.1 hP 0 rfl rfl 1 (by decide) hf15 (fun _ h9 => h9) rfl dX3_errorPlace_39 ?_
        exact q_iret hx hb hr hlocks (w1 := wT C t n cd) hP hS rfl dX3_errorPlace_42 (⟨by rw [← errF_end hE4 (by omega), show i4 = n by omega], rfl⟩)
      · have c9 : i4 < n := q_nge' (by omega) (by omega) c9
        refine lv_iload_n hx hb dX3_errorPlace_12 rfl (lv_at hl 1 rfl) ?_
        refine lv_aload_n hx hb dX3_errorPlace_13 rfl (lv_at hl 2 rfl) ?_
        refine va_get (ci := 3) (v := .ref (t 1)) (C := RX3) (T := TX3) (N := 2) hx hb hts hin3 hown hK.1 hP 0 rfl rfl 0 (by decide) hf9 (fun _ h9 => h9) rfl dX3_errorPlace_14 ?_
        refine lv_iload_n hx hb dX3_errorPlace_17 rfl (lv_at hl 0 rfl) ?_
        refine q_N (As := [.ref (t 1), .int (nI i4)]) (rest := [.int (stI (stg cd i4))]) ⟨hx, hb, hml, hown, hts⟩ (c_X4_at l C (t 1) 60 i4 (fun k => nI (cd k)) (by omega) (by decide)) ⟨va_cnB 2 hts gX3_errorPlace_X4_at_n19 rfl rfl rfl (q_nw hK 7 rfl) (hts (.initialized RX4) (by decide +kernel)) (by decide +kernel) ⟨Nat.le_of_ble_eq_true rfl, Nat.le_of_ble_eq_true rfl⟩, hts (.static yX4_at) (by decide +kernel), trivial⟩ hK hP hD hS hA [1] (by decide) rfl rfl hl.1 rfl (Nat.le_of_ble_eq_true rfl) dX3_errorPlace_18 (Nat.zero_le _) (Nat.zero_le _) (fun r w1 H locs hQ hP hD hS => ?_)
        obtain ⟨rfl, rfl⟩ := hQ
        have hP : va_P C.1 vwCl (wT C t n cd) H := hP
        have hD : va_D (q_A (wT C t n cd) s) (wT C t n cd) := hD
        refine W.eq (g2 := F0 m 21 ls [.int (nI (cd i4)), .int (stI (stg cd i4))]) rfl ?_
        refine q_S (As := [.int (stI (stg cd i4)), .int (nI (cd i4))]) (rest := []) ⟨hx, hb, hml, hown, hts⟩ (c_X3_nextStage l C (stg cd i4) (cd i4) (stg_le cd _) (hcd i4 (by omega))) (va_cwS 2 hts gX3_errorPlace_X3_nextStage rfl rfl rfl (by decide +kernel) ⟨Nat.le_of_ble_eq_true rfl, Nat.le_of_ble_eq_true rfl⟩) hK hP hD hS hA [] (by decide) rfl rfl hl.1 rfl (Nat.le_of_ble_eq_true rfl) dX3_errorPlace_21 (Nat.zero_le _) (Nat.zero_le _) (fun r w1 H locs hQ hP hD hS => ?_)
        obtain ⟨rfl, rfl⟩ := hQ
        refine W.eq (g2 := F0 m 24 ls [.int (stI (nst (stg cd i4) (cd i4)))]) rfl ?_
        refine W.eq (g2 := F0 m 24 ls [.int (stI (stg cd (i4 + 1)))]) rfl ?_
        refine lv_istore_n (lv' := [(1, .int (stI (stg cd (i4 + 1)))), (2, .int (nI i4)), (0, .ref (t 0))]) hx hb dX3_errorPlace_24 rfl hl (by decide) rfl (fun ls hl => ?_)
        refine lv_iload_n hx hb dX3_errorPlace_25 rfl (lv_at hl 0 rfl) ?_
        refine lv_iconst (v := (-1)) hx hb dX3_errorPlace_26 (by decide) ?_
        refine lv_icmp_ne (tgt := 32) hx hb dX3_errorPlace_27 (by decide) (fun c27 => ?_) (fun c27 => ?_)
        · skip
          refine lv_iinc (v := nI (i4 + 1)) (lv' := [(2, .int (nI (i4 + 1))), (1, .int (stI (stg cd (i4 + 1)))), (0, .ref (t 0))]) hx hb dX3_errorPlace_32 hl (k := 1) rfl (nI_1 _) (by decide) rfl (fun ls hl => ?_)
          refine lv_goto (tgt := 4) hx hb dX3_errorPlace_35 (by decide) ?_
          exact ih4 (i4 + 1)  (by omega) (by omega) (by rw [show n - (i4 + 1) = n - i4 - 1 by omega]; exact errF_s hE4 (by omega) (fun q => c27 ((stI_m1 (stg_le cd _)).mpr q))) _ _ ls hP hD hS (lv_sub hl [0, 1, 2] rfl)
        · skip
          refine lv_iload_n hx hb dX3_errorPlace_30 rfl (lv_at hl 1 rfl) ?_
          exact q_iret hx hb hr hlocks (w1 := wT C t n cd) hP hS rfl dX3_errorPlace_31 (⟨by rw [← errF_hit hE4 (by omega) ((stI_m1 (stg_le cd _)).mp c27)], rfl⟩)
  exact K4 (n + 1 - 0) 0  (by omega) (by omega) rfl _ _ ls hP hD hS (lv_sub hl [0, 1, 2] rfl)
set_option maxHeartbeats 4000000 in
set_option maxRecDepth 100000 in
theorem c_X3_isWhole (l : Launch) (C : q_C) (t : Nat → Nat) (n : Nat) (cd : Nat → Nat) (hn : n ≤ 60) (hcd : ∀ k, k < n → cd k < 2 ^ 31) : q_M C l yX3_isWhole wsX3_isWhole 3 63 [.ref (t 0)] (wT C t n cd) (fun r w => r = some (.int (q_b (wholeN cd n))) ∧ w = wT C t n cd) := by
  refine q_head (cc := cX3_isWhole) (maxL := 3) (ret := (some .boolean)) (by decide +kernel) rfl (Nat.le_of_ble_eq_true rfl) ?_
  intro p e s m below meth c hx hb hr hlocks hml hown hts hK hP hD hS hA ls hl
  have hl : lv_has ls 3 [(0, .ref (t 0))] := hl
  have hf15 := hts (.fieldLink RX3 15 "RestedArms$Text" "length" "I") (by decide +kernel)
  have hf9 := hts (.fieldLink RX3 9 "RestedArms$Text" "codes" "[I") (by decide +kernel)
  have hin3 : ∀ w ∈ u_ws RX3 TX3 2, w ∈ wsX3_isWhole := by decide +kernel
  refine lv_iconst (v := nI 0) hx hb dX3_isWhole_0 (by decide) ?_
  refine lv_istore_n (lv' := [(1, .int (nI 0)), (0, .ref (t 0))]) hx hb dX3_isWhole_1 rfl hl (by decide) rfl (fun ls hl => ?_)
  refine lv_iconst (v := nI 0) hx hb dX3_isWhole_2 (by decide) ?_
  refine lv_istore_n (lv' := [(2, .int (nI 0)), (1, .int (nI 0)), (0, .ref (t 0))]) hx hb dX3_isWhole_3 rfl hl (by decide) rfl (fun ls hl => ?_)
  have K4 : ∀ (n4 i4 : Nat), i4 ≤ n → n + 1 ≤ i4 + n4 → ∀ (H : Heap) (locs : List Loc) (ls : Array Slot), va_P C.1 vwCl (wT C t n cd) H → va_D (q_A (wT C t n cd) s) (wT C t n cd) → va_S (q_A (wT C t n cd) s) s.heap H locs → lv_has ls 3 [(2, .int (nI i4)), (1, .int (stI (stg cd i4))), (0, .ref (t 0))] → W p l e (q_R 3 63) s m ([.ref (t 0)] : List Value).toArray below meth c H locs 0 0 (q_G C below (wT C t n cd) (fun r w => r = some (.int (q_b (wholeN cd n))) ∧ w = wT C t n cd) ([.ref (t 0)] : List Value).toArray s) (F0 m 4 ls []) := by
    intro n4
    induction n4 with
    | zero => intro i4  q1 q2; exact absurd q2 (by omega)
    | succ n4 ih4 =>
      intro i4  hi4 hn4  H locs ls hP hD hS hl
      refine lv_iload_n hx hb dX3_isWhole_4 rfl (lv_at hl 0 rfl) ?_
      refine lv_aload_n hx hb dX3_isWhole_5 rfl (lv_at hl 2 rfl) ?_
      refine va_get (ci := 3) (v := .int (nI n)) (C := RX3) (T := TX3) (N := 2) hx hb hts hin3 hown hK.1 hP 0 rfl rfl 1 (by decide) hf15 (fun _ h9 => h9) rfl dX3_isWhole_6 ?_
      refine lv_icmp_ge (tgt := 31) hx hb dX3_isWhole_9 (by decide) (fun c9 => ?_) (fun c9 => ?_)
      · have c9 : n ≤ i4 := q_nge (by omega) (by omega) c9
        have e9 : i4 = n := by omega
        subst e9
        refine lv_iload_n hx hb dX3_isWhole_31 rfl (lv_at hl 1 rfl) ?_
        refine lv_iconst (v := nI 4) hx hb dX3_isWhole_32 (by decide) ?_
        refine lv_icmp_eq (tgt := 47) hx hb dX3_isWhole_33 (by decide) (fun c33 => ?_) (fun c33 => ?_)
        · skip
          refine lv_iconst (v := nI 1) hx hb dX3_isWhole_47 (by decide) ?_
          refine lv_goto (tgt := 52) hx hb dX3_isWhole_48 (by decide) ?_
          exact q_zret hx hb hr hlocks rfl (w1 := wT C t i4 cd) hP hS rfl dX3_isWhole_52 (⟨congrArg (fun z => some (Value.int z)) (q_bt (decide_eq_true (Or.inl ((stI_eq (stg_le cd _) (by decide)).mp c33)))), rfl⟩)
        · skip
          refine lv_iload_n hx hb dX3_isWhole_36 rfl (lv_at hl 1 rfl) ?_
          refine lv_iconst (v := nI 5) hx hb dX3_isWhole_37 (by decide) ?_
          refine lv_icmp_eq (tgt := 47) hx hb dX3_isWhole_38 (by decide) (fun c38 => ?_) (fun c38 => ?_)
          · skip
            refine lv_iconst (v := nI 1) hx hb dX3_isWhole_47 (by decide) ?_
            refine lv_goto (tgt := 52) hx hb dX3_isWhole_48 (by decide) ?_
            exact q_zret hx hb hr hlocks rfl (w1 := wT C t i4 cd) hP hS rfl dX3_isWhole_52 (⟨congrArg (fun z => some (Value.int z)) (q_bt (decide_eq_true (Or.inr (Or.inl ((stI_eq (stg_le cd _) (by decide)).mp c38))))), rfl⟩)
          · skip
            refine lv_iload_n hx hb dX3_isWhole_41 rfl (lv_at hl 1 rfl) ?_
            refine lv_bipush (v := nI 9) hx hb dX3_isWhole_42 (by decide) ?_
            refine lv_icmp_ne (tgt := 51) hx hb dX3_isWhole_44 (by decide) (fun c44 => ?_) (fun c44 => ?_)
            · skip
              refine lv_iconst (v := nI 0) hx hb dX3_isWhole_51 (by decide) ?_
              exact q_zret hx hb hr hlocks rfl (w1 := wT C t i4 cd) hP hS rfl dX3_isWhole_52 (⟨congrArg (fun z => some (Value.int z)) (q_bf (decide_eq_false (fun q => q.elim (fun q => c33 ((stI_eq (stg_le cd _) (by decide)).mpr q)) (fun q => q.elim (fun q => c38 ((stI_eq (stg_le cd _) (by decide)).mpr q)) (fun q => c44 ((stI_eq (stg_le cd _) (by decide)).mpr q)))))), rfl⟩)
            · skip
              refine lv_iconst (v := nI 1) hx hb dX3_isWhole_47 (by decide) ?_
              refine lv_goto (tgt := 52) hx hb dX3_isWhole_48 (by decide) ?_
              exact q_zret hx hb hr hlocks rfl (w1 := wT C t i4 cd) hP hS rfl dX3_isWhole_52 (⟨congrArg (fun z => some (Value.int z)) (q_bt (decide_eq_true (Or.inr (Or.inr ((stI_eq (stg_le cd _) (by decide)).mp c44))))), rfl⟩)
      · have c9 : i4 < n := q_nge' (by omega) (by omega) c9
        refine lv_iload_n hx hb dX3_isWhole_12 rfl (lv_at hl 1 rfl) ?_
        refine lv_aload_n hx hb dX3_isWhole_13 rfl (lv_at hl 2 rfl) ?_
        refine va_get (ci := 3) (v := .ref (t 1)) (C := RX3) (T := TX3) (N := 2) hx hb hts hin3 hown hK.1 hP 0 rfl rfl 0 (by decide) hf9 (fun _ h9 => h9) rfl dX3_isWhole_14 ?_
        refine lv_iload_n hx hb dX3_isWhole_17 rfl (lv_at hl 0 rfl) ?_
        refine q_N (As := [.ref (t 1), .int (nI i4)]) (rest := [.int (stI (stg cd i4))]) ⟨hx, hb, hml, hown, hts⟩ (c_X4_at l C (t 1) 60 i4 (fun k => nI (cd k)) (by omega) (by decide)) ⟨va_cnB 2 hts gX3_isWhole_X4_at_n19 rfl rfl rfl (q_nw hK 7 rfl) (hts (.initialized RX4) (by decide +kernel)) (by decide +kernel) ⟨Nat.le_of_ble_eq_true rfl, Nat.le_of_ble_eq_true rfl⟩, hts (.static yX4_at) (by decide +kernel), trivial⟩ hK hP hD hS hA [1] (by decide) rfl rfl hl.1 rfl (Nat.le_of_ble_eq_true rfl) dX3_isWhole_18 (Nat.zero_le _) (Nat.zero_le _) (fun r w1 H locs hQ hP hD hS => ?_)
        obtain ⟨rfl, rfl⟩ := hQ
        have hP : va_P C.1 vwCl (wT C t n cd) H := hP
        have hD : va_D (q_A (wT C t n cd) s) (wT C t n cd) := hD
        refine W.eq (g2 := F0 m 21 ls [.int (nI (cd i4)), .int (stI (stg cd i4))]) rfl ?_
        refine q_S (As := [.int (stI (stg cd i4)), .int (nI (cd i4))]) (rest := []) ⟨hx, hb, hml, hown, hts⟩ (c_X3_nextStage l C (stg cd i4) (cd i4) (stg_le cd _) (hcd i4 (by omega))) (va_cwS 2 hts gX3_isWhole_X3_nextStage rfl rfl rfl (by decide +kernel) ⟨Nat.le_of_ble_eq_true rfl, Nat.le_of_ble_eq_true rfl⟩) hK hP hD hS hA [] (by decide) rfl rfl hl.1 rfl (Nat.le_of_ble_eq_true rfl) dX3_isWhole_21 (Nat.zero_le _) (Nat.zero_le _) (fun r w1 H locs hQ hP hD hS => ?_)
        obtain ⟨rfl, rfl⟩ := hQ
        refine W.eq (g2 := F0 m 24 ls [.int (stI (nst (stg cd i4) (cd i4)))]) rfl ?_
        refine W.eq (g2 := F0 m 24 ls [.int (stI (stg cd (i4 + 1)))]) rfl ?_
        refine lv_istore_n (lv' := [(1, .int (stI (stg cd (i4 + 1)))), (2, .int (nI i4)), (0, .ref (t 0))]) hx hb dX3_isWhole_24 rfl hl (by decide) rfl (fun ls hl => ?_)
        refine lv_iinc (v := nI (i4 + 1)) (lv' := [(2, .int (nI (i4 + 1))), (1, .int (stI (stg cd (i4 + 1)))), (0, .ref (t 0))]) hx hb dX3_isWhole_25 hl (k := 1) rfl (nI_1 _) (by decide) rfl (fun ls hl => ?_)
        refine lv_goto (tgt := 4) hx hb dX3_isWhole_28 (by decide) ?_
        exact ih4 (i4 + 1)  (by omega) (by omega)  _ _ ls hP hD hS (lv_sub hl [0, 1, 2] rfl)
  exact K4 (n + 1 - 0) 0  (by omega) (by omega)  _ _ ls hP hD hS (lv_sub hl [0, 1, 2] rfl)
set_option maxHeartbeats 4000000 in
set_option maxRecDepth 100000 in
theorem c_X3_moveInto (l : Launch) (C : q_C) (t : Nat → Nat) (n : Nat) (cd : Nat → Nat) (a : Nat → Nat) (b : Bd) (hn : n ≤ 60) (hcd : ∀ k, k < n → cd k < 2 ^ 31) : q_M C l yX3_moveInto wsX3_moveInto 3 63 [.ref (t 0), .ref (a 0)] (wT C t n cd ++ wB C a b) (fun r w => r = some (.int (nI (mvN cd b n).1)) ∧ w = wT C t n cd ++ wB C a (mvN cd b n).2.2.2) := by
  refine q_head (cc := cX3_moveInto) (maxL := 8) (ret := (some .int)) (by decide +kernel) rfl (Nat.le_of_ble_eq_true rfl) ?_
  intro p e s m below meth c hx hb hr hlocks hml hown hts hK hP hD hS hA ls hl
  have hl : lv_has ls 8 [(0, .ref (t 0)), (1, .ref (a 0))] := hl
  have hf15 := hts (.fieldLink RX3 15 "RestedArms$Text" "length" "I") (by decide +kernel)
  have hf30 := hts (.fieldLink RX3 30 "RestedArms$Board" "gifts" "[I") (by decide +kernel)
  have hf39 := hts (.fieldLink RX3 39 "RestedArms$Board" "goods" "[I") (by decide +kernel)
  have hf42 := hts (.fieldLink RX3 42 "RestedArms$Board" "bads" "[I") (by decide +kernel)
  have hf45 := hts (.fieldLink RX3 45 "RestedArms$Board" "chances" "[I") (by decide +kernel)
  have hf9 := hts (.fieldLink RX3 9 "RestedArms$Text" "codes" "[I") (by decide +kernel)
  have hin0 : ∀ w ∈ u_ws RX0 TX0 12, w ∈ wsX3_moveInto := by decide +kernel
  have hin3 : ∀ w ∈ u_ws RX3 TX3 2, w ∈ wsX3_moveInto := by decide +kernel
  refine lv_iconst (v := nI 1) hx hb dX3_moveInto_0 (by decide) ?_
  refine lv_istore_n (lv' := [(2, .int (nI 1)), (0, .ref (t 0)), (1, .ref (a 0))]) hx hb dX3_moveInto_1 rfl hl (by decide) rfl (fun ls hl => ?_)
  refine lv_iconst (v := nI 0) hx hb dX3_moveInto_2 (by decide) ?_
  refine lv_istore_n (lv' := [(3, .int (nI 0)), (2, .int (nI 1)), (0, .ref (t 0)), (1, .ref (a 0))]) hx hb dX3_moveInto_3 rfl hl (by decide) rfl (fun ls hl => ?_)
  refine lv_iconst (v := nI 0) hx hb dX3_moveInto_4 (by decide) ?_
  refine lv_istore (lv' := [(4, .int (nI 0)), (3, .int (nI 0)), (2, .int (nI 1)), (0, .ref (t 0)), (1, .ref (a 0))]) hx hb dX3_moveInto_5 hl (by decide) rfl (fun ls hl => ?_)
  refine lv_iconst (v := nI 0) hx hb dX3_moveInto_7 (by decide) ?_
  refine lv_istore (lv' := [(5, .int (nI 0)), (4, .int (nI 0)), (3, .int (nI 0)), (2, .int (nI 1)), (0, .ref (t 0)), (1, .ref (a 0))]) hx hb dX3_moveInto_8 hl (by decide) rfl (fun ls hl => ?_)
  refine lv_iconst (v := nI 0) hx hb dX3_moveInto_10 (by decide) ?_
  refine lv_istore (lv' := [(6, .int (nI 0)), (5, .int (nI 0)), (4, .int (nI 0)), (3, .int (nI 0)), (2, .int (nI 1)), (0, .ref (t 0)), (1, .ref (a 0))]) hx hb dX3_moveInto_11 hl (by decide) rfl (fun ls hl => ?_)
  have K13 : ∀ (n13 i13 : Nat), ∀ (p1 : Nat) (a1 : Nat) (s1 : Nat) (b1 : Bd), i13 ≤ n → n + 1 ≤ i13 + n13 → (mvN cd b i13 = (p1, a1, s1, b1)) → (a1 < 4) → (s1 < 16) → ∀ (H : Heap) (locs : List Loc) (ls : Array Slot), va_P C.1 vwCl (wT C t n cd ++ wB C a b1) H → va_D (q_A (wT C t n cd ++ wB C a b) s) (wT C t n cd ++ wB C a b1) → va_S (q_A (wT C t n cd ++ wB C a b) s) s.heap H locs → lv_has ls 8 [(6, .int (nI i13)), (5, .int (stI (stg cd i13))), (4, .int (nI s1)), (3, .int (nI a1)), (2, .int (nI p1)), (0, .ref (t 0)), (1, .ref (a 0))] → W p l e (q_R 3 63) s m ([.ref (t 0), .ref (a 0)] : List Value).toArray below meth c H locs 0 0 (q_G C below (wT C t n cd ++ wB C a b) (fun r w => r = some (.int (nI (mvN cd b n).1)) ∧ w = wT C t n cd ++ wB C a (mvN cd b n).2.2.2) ([.ref (t 0), .ref (a 0)] : List Value).toArray s) (F0 m 13 ls []) := by
    intro n13
    induction n13 with
    | zero => intro i13 p1 a1 s1 b1 q1 q2; exact absurd q2 (by omega)
    | succ n13 ih13 =>
      intro i13 p1 a1 s1 b1 hi13 hn13 hM13 ha13 hs13 H locs ls hP hD hS hl
      refine lv_iload hx hb dX3_moveInto_13 (lv_at hl 0 rfl) ?_
      refine lv_aload_n hx hb dX3_moveInto_15 rfl (lv_at hl 5 rfl) ?_
      refine va_get (ci := 3) (v := .int (nI n)) (C := RX3) (T := TX3) (N := 2) hx hb hts hin3 hown hK.1 hP 0 rfl rfl 1 (by decide) hf15 (fun _ h9 => h9) rfl dX3_moveInto_16 ?_
      refine lv_icmp_ge (tgt := 229) hx hb dX3_moveInto_19 (by decide) (fun c19 => ?_) (fun c19 => ?_)
      · have c19 : n ≤ i13 := q_nge (by omega) (by omega) c19
        refine lv_iload_n hx hb dX3_moveInto_229 rfl (lv_at hl 4 rfl) ?_
        exact q_iret hx hb hr hlocks (w1 := wT C t n cd ++ wB C a b1) hP hS rfl dX3_moveInto_230 (⟨by rw [show n = i13 by omega, hM13], by rw [show n = i13 by omega, hM13]⟩)
      · have c19 : i13 < n := q_nge' (by omega) (by omega) c19
        refine lv_aload_n hx hb dX3_moveInto_22 rfl (lv_at hl 5 rfl) ?_
        refine va_get (ci := 3) (v := .ref (t 1)) (C := RX3) (T := TX3) (N := 2) hx hb hts hin3 hown hK.1 hP 0 rfl rfl 0 (by decide) hf9 (fun _ h9 => h9) rfl dX3_moveInto_23 ?_
        refine lv_iload hx hb dX3_moveInto_26 (lv_at hl 0 rfl) ?_
        refine q_N (As := [.ref (t 1), .int (nI i13)]) (rest := []) ⟨hx, hb, hml, hown, hts⟩ (c_X4_at l C (t 1) 60 i13 (fun k => nI (cd k)) (by omega) (by decide)) ⟨va_cnB 2 hts gX3_moveInto_X4_at_n19 rfl rfl rfl (q_nw hK 7 rfl) (hts (.initialized RX4) (by decide +kernel)) (by decide +kernel) ⟨Nat.le_of_ble_eq_true rfl, Nat.le_of_ble_eq_true rfl⟩, hts (.static yX4_at) (by decide +kernel), trivial⟩ hK hP hD hS hA [1] (by decide) rfl rfl hl.1 rfl (Nat.le_of_ble_eq_true rfl) dX3_moveInto_28 (Nat.zero_le _) (Nat.zero_le _) (fun r w1 H locs hQ hP hD hS => ?_)
        obtain ⟨rfl, rfl⟩ := hQ
        have hP : va_P C.1 vwCl (wT C t n cd ++ wB C a b1) H := hP
        have hD : va_D (q_A (wT C t n cd ++ wB C a b) s) (wT C t n cd ++ wB C a b1) := hD
        refine W.eq (g2 := F0 m 31 ls [.int (nI (cd i13))]) rfl ?_
        refine lv_istore (lv' := [(7, .int (nI (cd i13))), (6, .int (nI i13)), (5, .int (stI (stg cd i13))), (4, .int (nI s1)), (3, .int (nI a1)), (2, .int (nI p1)), (0, .ref (t 0)), (1, .ref (a 0))]) hx hb dX3_moveInto_31 hl (by decide) rfl (fun ls hl => ?_)
        refine lv_iload hx hb dX3_moveInto_33 (lv_at hl 2 rfl) ?_
        refine lv_iload hx hb dX3_moveInto_35 (lv_at hl 0 rfl) ?_
        refine q_S (As := [.int (stI (stg cd i13)), .int (nI (cd i13))]) (rest := []) ⟨hx, hb, hml, hown, hts⟩ (c_X3_nextStage l C (stg cd i13) (cd i13) (stg_le cd _) (hcd i13 (by omega))) (va_cwS 2 hts gX3_moveInto_X3_nextStage rfl rfl rfl (by decide +kernel) ⟨Nat.le_of_ble_eq_true rfl, Nat.le_of_ble_eq_true rfl⟩) hK hP hD hS hA [] (by decide) rfl rfl hl.1 rfl (Nat.le_of_ble_eq_true rfl) dX3_moveInto_37 (Nat.zero_le _) (Nat.zero_le _) (fun r w1 H locs hQ hP hD hS => ?_)
        obtain ⟨rfl, rfl⟩ := hQ
        refine W.eq (g2 := F0 m 40 ls [.int (stI (nst (stg cd i13) (cd i13)))]) rfl ?_
        refine W.eq (g2 := F0 m 40 ls [.int (stI (stg cd (i13 + 1)))]) rfl ?_
        refine lv_istore (lv' := [(5, .int (stI (stg cd (i13 + 1)))), (7, .int (nI (cd i13))), (6, .int (nI i13)), (4, .int (nI s1)), (3, .int (nI a1)), (2, .int (nI p1)), (0, .ref (t 0)), (1, .ref (a 0))]) hx hb dX3_moveInto_40 hl (by decide) rfl (fun ls hl => ?_)
        have hg0 : stg cd (i13 + 1) = 0 ∨ stg cd (i13 + 1) = 1 ∨ stg cd (i13 + 1) = 2 ∨ stg cd (i13 + 1) = 3 ∨ stg cd (i13 + 1) = 4 ∨ stg cd (i13 + 1) = 5 ∨ stg cd (i13 + 1) = 6 ∨ stg cd (i13 + 1) = 7 ∨ stg cd (i13 + 1) = 8 ∨ stg cd (i13 + 1) = 9 ∨ stg cd (i13 + 1) = 10 := by have := stg_le cd (i13 + 1); omega
        rcases hg0 with hg | hg | hg | hg | hg | hg | hg | hg | hg | hg | hg
        · skip
          refine lv_iload hx hb dX3_moveInto_42 (lv_at hl 0 rfl) ?_
          refine q_ti (y := nI 0) (by rw [hg]; decide) ?_
          refine lv_tableIn (off := (56)) (tgt := 100) hx hb dX3_moveInto_44 (by decide) (by decide) (by decide) (by decide) ?_
          refine lv_iinc (v := nI (p1 + 1)) (lv' := [(2, .int (nI (p1 + 1))), (5, .int (stI (stg cd (i13 + 1)))), (7, .int (nI (cd i13))), (6, .int (nI i13)), (4, .int (nI s1)), (3, .int (nI a1)), (0, .ref (t 0)), (1, .ref (a 0))]) hx hb dX3_moveInto_100 hl (k := 5) rfl (nI_1 _) (by decide) rfl (fun ls hl => ?_)
          refine lv_goto (tgt := 223) hx hb dX3_moveInto_103 (by decide) ?_
          refine lv_iinc (v := nI (i13 + 1)) (lv' := [(6, .int (nI (i13 + 1))), (2, .int (nI (p1 + 1))), (5, .int (stI (stg cd (i13 + 1)))), (7, .int (nI (cd i13))), (4, .int (nI s1)), (3, .int (nI a1)), (0, .ref (t 0)), (1, .ref (a 0))]) hx hb dX3_moveInto_223 hl (k := 3) rfl (nI_1 _) (by decide) rfl (fun ls hl => ?_)
          refine lv_goto (tgt := 13) hx hb dX3_moveInto_226 (by decide) ?_
          exact ih13 (i13 + 1) (p1 + 1) a1 s1 b1 (by omega) (by omega) (by show mvStep (stg cd (i13 + 1)) (cd i13) (mvN cd b i13) = _; rw [hg, hM13]; rfl) (by omega) (by omega) _ _ ls hP hD hS (lv_sub hl [0, 2, 4, 5, 1, 6, 7] rfl)
        · skip
          have hk1 := nst_1 hg
          refine lv_iload hx hb dX3_moveInto_42 (lv_at hl 0 rfl) ?_
          refine q_ti (y := nI 1) (by rw [hg]; decide) ?_
          refine lv_tableIn (off := (62)) (tgt := 106) hx hb dX3_moveInto_44 (by decide) (by decide) (by decide) (by decide) ?_
          refine lv_iload hx hb dX3_moveInto_106 (lv_at hl 1 rfl) ?_
          refine lv_bipush (v := nI 48) hx hb dX3_moveInto_108 (by decide) ?_
          refine lv_isub hx hb dX3_moveInto_110 ?_
          refine q_ti (y := nI ((cd i13) - 48)) (pk_sub (by omega)) ?_
          refine lv_istore_n (lv' := [(3, .int (nI ((cd i13) - 48))), (5, .int (stI (stg cd (i13 + 1)))), (7, .int (nI (cd i13))), (6, .int (nI i13)), (4, .int (nI s1)), (2, .int (nI p1)), (0, .ref (t 0)), (1, .ref (a 0))]) hx hb dX3_moveInto_111 rfl hl (by decide) rfl (fun ls hl => ?_)
          refine lv_goto (tgt := 223) hx hb dX3_moveInto_112 (by decide) ?_
          refine lv_iinc (v := nI (i13 + 1)) (lv' := [(6, .int (nI (i13 + 1))), (3, .int (nI ((cd i13) - 48))), (5, .int (stI (stg cd (i13 + 1)))), (7, .int (nI (cd i13))), (4, .int (nI s1)), (2, .int (nI p1)), (0, .ref (t 0)), (1, .ref (a 0))]) hx hb dX3_moveInto_223 hl (k := 3) rfl (nI_1 _) (by decide) rfl (fun ls hl => ?_)
          refine lv_goto (tgt := 13) hx hb dX3_moveInto_226 (by decide) ?_
          exact ih13 (i13 + 1) p1 (cd i13 - 48) s1 b1 (by omega) (by omega) (by show mvStep (stg cd (i13 + 1)) (cd i13) (mvN cd b i13) = _; rw [hg, hM13]; rfl) (by omega) (by omega) _ _ ls hP hD hS (lv_sub hl [0, 2, 4, 1, 5, 6, 7] rfl)
        · skip
          have hk1 := nst_2 hg
          refine lv_iload hx hb dX3_moveInto_42 (lv_at hl 0 rfl) ?_
          refine q_ti (y := nI 2) (by rw [hg]; decide) ?_
          refine lv_tableIn (off := (71)) (tgt := 115) hx hb dX3_moveInto_44 (by decide) (by decide) (by decide) (by decide) ?_
          refine lv_iload_n hx hb dX3_moveInto_115 rfl (lv_at hl 4 rfl) ?_
          refine lv_iload hx hb dX3_moveInto_116 (lv_at hl 1 rfl) ?_
          refine lv_bipush (v := nI 97) hx hb dX3_moveInto_118 (by decide) ?_
          refine lv_isub hx hb dX3_moveInto_120 ?_
          refine q_ti (y := nI ((cd i13) - 97)) (pk_sub (by omega)) ?_
          refine q_N (As := [.int (nI a1), .int (nI ((cd i13) - 97))]) (rest := []) ⟨hx, hb, hml, hown, hts⟩ (c_X4_slotOf l C a1 ((cd i13) - 97)) ⟨va_cnB 2 hts gX3_moveInto_X4_slotOf_n27 rfl rfl rfl (q_nw hK 8 rfl) (hts (.initialized RX4) (by decide +kernel)) (by decide +kernel) ⟨Nat.le_of_ble_eq_true rfl, Nat.le_of_ble_eq_true rfl⟩, hts (.static yX4_slotOf) (by decide +kernel), trivial⟩ hK hP hD hS hA [] (by decide) rfl rfl hl.1 rfl (Nat.le_of_ble_eq_true rfl) dX3_moveInto_121 (Nat.zero_le _) (Nat.zero_le _) (fun r w1 H locs hQ hP hD hS => ?_)
          obtain ⟨rfl, rfl⟩ := hQ
          refine W.eq (g2 := F0 m 124 ls [.int (nI (4 * a1 + ((cd i13) - 97)))]) rfl ?_
          refine lv_istore (lv' := [(4, .int (nI (4 * a1 + ((cd i13) - 97)))), (5, .int (stI (stg cd (i13 + 1)))), (7, .int (nI (cd i13))), (6, .int (nI i13)), (3, .int (nI a1)), (2, .int (nI p1)), (0, .ref (t 0)), (1, .ref (a 0))]) hx hb dX3_moveInto_124 hl (by decide) rfl (fun ls hl => ?_)
          refine lv_goto (tgt := 223) hx hb dX3_moveInto_126 (by decide) ?_
          refine lv_iinc (v := nI (i13 + 1)) (lv' := [(6, .int (nI (i13 + 1))), (4, .int (nI (4 * a1 + ((cd i13) - 97)))), (5, .int (stI (stg cd (i13 + 1)))), (7, .int (nI (cd i13))), (3, .int (nI a1)), (2, .int (nI p1)), (0, .ref (t 0)), (1, .ref (a 0))]) hx hb dX3_moveInto_223 hl (k := 3) rfl (nI_1 _) (by decide) rfl (fun ls hl => ?_)
          refine lv_goto (tgt := 13) hx hb dX3_moveInto_226 (by decide) ?_
          exact ih13 (i13 + 1) p1 a1 (4 * a1 + (cd i13 - 97)) b1 (by omega) (by omega) (by show mvStep (stg cd (i13 + 1)) (cd i13) (mvN cd b i13) = _; rw [hg, hM13]; rfl) (by omega) (by omega) _ _ ls hP hD hS (lv_sub hl [0, 2, 1, 4, 5, 6, 7] rfl)
        · skip
          refine lv_iload hx hb dX3_moveInto_42 (lv_at hl 0 rfl) ?_
          refine q_ti (y := nI 3) (by rw [hg]; decide) ?_
          refine lv_tableIn (off := (85)) (tgt := 129) hx hb dX3_moveInto_44 (by decide) (by decide) (by decide) (by decide) ?_
          refine lv_aload_n hx hb dX3_moveInto_129 rfl (lv_at hl 7 rfl) ?_
          refine va_get (ci := 0) (v := .ref (a 1)) (C := RX0) (T := TX0) (N := 12) hx hb hts hin0 hown hK.1 hP 2 rfl rfl 0 (by decide) hf30 (fun _ h9 => h9) rfl dX3_moveInto_130 ?_
          refine lv_iload hx hb dX3_moveInto_133 (lv_at hl 3 rfl) ?_
          refine lv_iconst (v := nI 0) hx hb dX3_moveInto_135 (by decide) ?_
          refine q_N (As := [.ref (a 1), .int (nI s1), .int (nI 0)]) (rest := []) ⟨hx, hb, hml, hown, hts⟩ (c_X4_store l C (a 1) 16 s1 (fun k => nI (bg b1 k)) (nI 0) (by omega) (by decide)) ⟨va_cnB 3 hts gX3_moveInto_X4_store_n35 rfl rfl rfl (q_nw hK 9 rfl) (hts (.initialized RX4) (by decide +kernel)) (by decide +kernel) ⟨Nat.le_of_ble_eq_true rfl, Nat.le_of_ble_eq_true rfl⟩, hts (.static yX4_store) (by decide +kernel), trivial⟩ hK hP hD hS hA [3] (by decide) rfl rfl hl.1 rfl (Nat.le_of_ble_eq_true rfl) dX3_moveInto_136 (Nat.zero_le _) (Nat.zero_le _) (fun r w1 H locs hQ hP hD hS => ?_)
          obtain ⟨rfl, rfl⟩ := hQ
          rw [q_upd] at hP hD
          have hP : va_P C.1 vwCl (wT C t n cd ++ ([(a 0, .inr (0, [.ref (a 1), .ref (a 2), .ref (a 3), .ref (a 4), .ref (a 5), .ref (a 6), .ref (a 7), .int (nI (bx b1)), .int (nI (bl b1) - 1), .long (br b1), .long (lN (bw b1)), .long (bz b1)])), (a 1, .inl (C.2.1, 16, .inl (fun k => nI (upN (bg b1) s1 0 k)))), (a 2, .inl (C.2.1, 16, .inl (fun k => nI (bo b1 k)))), (a 3, .inl (C.2.1, 16, .inl (fun k => nI (bb b1 k)))), (a 4, .inl (C.2.1, 16, .inl (fun k => nI (bc b1 k)))), (a 5, .inl (C.2.1, 4, .inl (fun k => nI (bp b1 k)))), (a 6, .inl (C.2.1, 4, .inl (fun k => nI (bu b1 k)))), (a 7, .inl (C.2.1, 4, .inl (fun k => nI (bs b1 k))))] : va_W)) H := hP
          have hD : va_D (q_A (wT C t n cd ++ wB C a b) s) (wT C t n cd ++ ([(a 0, .inr (0, [.ref (a 1), .ref (a 2), .ref (a 3), .ref (a 4), .ref (a 5), .ref (a 6), .ref (a 7), .int (nI (bx b1)), .int (nI (bl b1) - 1), .long (br b1), .long (lN (bw b1)), .long (bz b1)])), (a 1, .inl (C.2.1, 16, .inl (fun k => nI (upN (bg b1) s1 0 k)))), (a 2, .inl (C.2.1, 16, .inl (fun k => nI (bo b1 k)))), (a 3, .inl (C.2.1, 16, .inl (fun k => nI (bb b1 k)))), (a 4, .inl (C.2.1, 16, .inl (fun k => nI (bc b1 k)))), (a 5, .inl (C.2.1, 4, .inl (fun k => nI (bp b1 k)))), (a 6, .inl (C.2.1, 4, .inl (fun k => nI (bu b1 k)))), (a 7, .inl (C.2.1, 4, .inl (fun k => nI (bs b1 k))))] : va_W)) := hD
          refine W.eq (g2 := F0 m 139 ls []) rfl ?_
          refine lv_goto (tgt := 223) hx hb dX3_moveInto_139 (by decide) ?_
          have hP : va_P C.1 vwCl (wT C t n cd ++ wB C a (sg b1 (upN (bg b1) s1 0))) H := hP
          have hD : va_D (q_A (wT C t n cd ++ wB C a b) s) (wT C t n cd ++ wB C a (sg b1 (upN (bg b1) s1 0))) := hD
          refine lv_iinc (v := nI (i13 + 1)) (lv' := [(6, .int (nI (i13 + 1))), (5, .int (stI (stg cd (i13 + 1)))), (7, .int (nI (cd i13))), (4, .int (nI s1)), (3, .int (nI a1)), (2, .int (nI p1)), (0, .ref (t 0)), (1, .ref (a 0))]) hx hb dX3_moveInto_223 hl (k := 2) rfl (nI_1 _) (by decide) rfl (fun ls hl => ?_)
          refine lv_goto (tgt := 13) hx hb dX3_moveInto_226 (by decide) ?_
          exact ih13 (i13 + 1) p1 a1 s1 (sg b1 (upN (bg b1) s1 0)) (by omega) (by omega) (by show mvStep (stg cd (i13 + 1)) (cd i13) (mvN cd b i13) = _; rw [hg, hM13]; rfl) (by omega) (by omega) _ _ ls hP hD hS (lv_sub hl [0, 1, 3, 4, 5, 6, 7] rfl)
        · skip
          have hk1 := nst_45 (Or.inl hg)
          refine lv_iload hx hb dX3_moveInto_42 (lv_at hl 0 rfl) ?_
          refine q_ti (y := nI 4) (by rw [hg]; decide) ?_
          refine lv_tableIn (off := (98)) (tgt := 142) hx hb dX3_moveInto_44 (by decide) (by decide) (by decide) (by decide) ?_
          refine lv_aload_n hx hb dX3_moveInto_142 rfl (lv_at hl 7 rfl) ?_
          refine va_get (ci := 0) (v := .ref (a 1)) (C := RX0) (T := TX0) (N := 12) hx hb hts hin0 hown hK.1 hP 2 rfl rfl 0 (by decide) hf30 (fun _ h9 => h9) rfl dX3_moveInto_143 ?_
          refine lv_iload hx hb dX3_moveInto_146 (lv_at hl 3 rfl) ?_
          refine lv_bipush (v := nI 10) hx hb dX3_moveInto_148 (by decide) ?_
          refine lv_aload_n hx hb dX3_moveInto_150 rfl (lv_at hl 7 rfl) ?_
          refine va_get (ci := 0) (v := .ref (a 1)) (C := RX0) (T := TX0) (N := 12) hx hb hts hin0 hown hK.1 hP 2 rfl rfl 0 (by decide) hf30 (fun _ h9 => h9) rfl dX3_moveInto_151 ?_
          refine lv_iload hx hb dX3_moveInto_154 (lv_at hl 3 rfl) ?_
          refine q_N (As := [.ref (a 1), .int (nI s1)]) (rest := [.int (nI 10), .int (nI s1), .ref (a 1)]) ⟨hx, hb, hml, hown, hts⟩ (c_X4_at l C (a 1) 16 s1 (fun k => nI (bg b1 k)) (by omega) (by decide)) ⟨va_cnB 2 hts gX3_moveInto_X4_at_n19 rfl rfl rfl (q_nw hK 7 rfl) (hts (.initialized RX4) (by decide +kernel)) (by decide +kernel) ⟨Nat.le_of_ble_eq_true rfl, Nat.le_of_ble_eq_true rfl⟩, hts (.static yX4_at) (by decide +kernel), trivial⟩ hK hP hD hS hA [3] (by decide) rfl rfl hl.1 rfl (Nat.le_of_ble_eq_true rfl) dX3_moveInto_156 (Nat.zero_le _) (Nat.zero_le _) (fun r w1 H locs hQ hP hD hS => ?_)
          obtain ⟨rfl, rfl⟩ := hQ
          have hP : va_P C.1 vwCl (wT C t n cd ++ wB C a b1) H := hP
          have hD : va_D (q_A (wT C t n cd ++ wB C a b) s) (wT C t n cd ++ wB C a b1) := hD
          refine W.eq (g2 := F0 m 159 ls [.int (nI (bg b1 s1)), .int (nI 10), .int (nI s1), .ref (a 1)]) rfl ?_
          refine lv_imul hx hb dX3_moveInto_159 ?_
          refine q_ti (y := nI (10 * (bg b1 s1))) (pk_mul _ _) ?_
          refine lv_iload hx hb dX3_moveInto_160 (lv_at hl 1 rfl) ?_
          refine lv_iadd hx hb dX3_moveInto_162 ?_
          refine q_ti (y := nI ((10 * (bg b1 s1)) + (cd i13))) (nI_add _ _) ?_
          refine lv_bipush (v := nI 48) hx hb dX3_moveInto_163 (by decide) ?_
          refine lv_isub hx hb dX3_moveInto_165 ?_
          refine q_ti (y := nI (((10 * (bg b1 s1)) + (cd i13)) - 48)) (pk_sub (by omega)) ?_
          refine q_N (As := [.ref (a 1), .int (nI s1), .int (nI (((10 * (bg b1 s1)) + (cd i13)) - 48))]) (rest := []) ⟨hx, hb, hml, hown, hts⟩ (c_X4_store l C (a 1) 16 s1 (fun k => nI (bg b1 k)) (nI (((10 * (bg b1 s1)) + (cd i13)) - 48)) (by omega) (by decide)) ⟨va_cnB 3 hts gX3_moveInto_X4_store_n35 rfl rfl rfl (q_nw hK 9 rfl) (hts (.initialized RX4) (by decide +kernel)) (by decide +kernel) ⟨Nat.le_of_ble_eq_true rfl, Nat.le_of_ble_eq_true rfl⟩, hts (.static yX4_store) (by decide +kernel), trivial⟩ hK hP hD hS hA [3] (by decide) rfl rfl hl.1 rfl (Nat.le_of_ble_eq_true rfl) dX3_moveInto_166 (Nat.zero_le _) (Nat.zero_le _) (fun r w1 H locs hQ hP hD hS => ?_)
          obtain ⟨rfl, rfl⟩ := hQ
          rw [q_upd] at hP hD
          have hP : va_P C.1 vwCl (wT C t n cd ++ ([(a 0, .inr (0, [.ref (a 1), .ref (a 2), .ref (a 3), .ref (a 4), .ref (a 5), .ref (a 6), .ref (a 7), .int (nI (bx b1)), .int (nI (bl b1) - 1), .long (br b1), .long (lN (bw b1)), .long (bz b1)])), (a 1, .inl (C.2.1, 16, .inl (fun k => nI (upN (bg b1) s1 (((10 * (bg b1 s1)) + (cd i13)) - 48) k)))), (a 2, .inl (C.2.1, 16, .inl (fun k => nI (bo b1 k)))), (a 3, .inl (C.2.1, 16, .inl (fun k => nI (bb b1 k)))), (a 4, .inl (C.2.1, 16, .inl (fun k => nI (bc b1 k)))), (a 5, .inl (C.2.1, 4, .inl (fun k => nI (bp b1 k)))), (a 6, .inl (C.2.1, 4, .inl (fun k => nI (bu b1 k)))), (a 7, .inl (C.2.1, 4, .inl (fun k => nI (bs b1 k))))] : va_W)) H := hP
          have hD : va_D (q_A (wT C t n cd ++ wB C a b) s) (wT C t n cd ++ ([(a 0, .inr (0, [.ref (a 1), .ref (a 2), .ref (a 3), .ref (a 4), .ref (a 5), .ref (a 6), .ref (a 7), .int (nI (bx b1)), .int (nI (bl b1) - 1), .long (br b1), .long (lN (bw b1)), .long (bz b1)])), (a 1, .inl (C.2.1, 16, .inl (fun k => nI (upN (bg b1) s1 (((10 * (bg b1 s1)) + (cd i13)) - 48) k)))), (a 2, .inl (C.2.1, 16, .inl (fun k => nI (bo b1 k)))), (a 3, .inl (C.2.1, 16, .inl (fun k => nI (bb b1 k)))), (a 4, .inl (C.2.1, 16, .inl (fun k => nI (bc b1 k)))), (a 5, .inl (C.2.1, 4, .inl (fun k => nI (bp b1 k)))), (a 6, .inl (C.2.1, 4, .inl (fun k => nI (bu b1 k)))), (a 7, .inl (C.2.1, 4, .inl (fun k => nI (bs b1 k))))] : va_W)) := hD
          refine W.eq (g2 := F0 m 169 ls []) rfl ?_
          refine lv_goto (tgt := 223) hx hb dX3_moveInto_169 (by decide) ?_
          have hP : va_P C.1 vwCl (wT C t n cd ++ wB C a (sg b1 (upN (bg b1) s1 (10 * bg b1 s1 + cd i13 - 48)))) H := hP
          have hD : va_D (q_A (wT C t n cd ++ wB C a b) s) (wT C t n cd ++ wB C a (sg b1 (upN (bg b1) s1 (10 * bg b1 s1 + cd i13 - 48)))) := hD
          refine lv_iinc (v := nI (i13 + 1)) (lv' := [(6, .int (nI (i13 + 1))), (5, .int (stI (stg cd (i13 + 1)))), (7, .int (nI (cd i13))), (4, .int (nI s1)), (3, .int (nI a1)), (2, .int (nI p1)), (0, .ref (t 0)), (1, .ref (a 0))]) hx hb dX3_moveInto_223 hl (k := 2) rfl (nI_1 _) (by decide) rfl (fun ls hl => ?_)
          refine lv_goto (tgt := 13) hx hb dX3_moveInto_226 (by decide) ?_
          exact ih13 (i13 + 1) p1 a1 s1 (sg b1 (upN (bg b1) s1 (10 * bg b1 s1 + cd i13 - 48))) (by omega) (by omega) (by show mvStep (stg cd (i13 + 1)) (cd i13) (mvN cd b i13) = _; rw [hg, hM13]; rfl) (by omega) (by omega) _ _ ls hP hD hS (lv_sub hl [0, 1, 3, 4, 5, 6, 7] rfl)
        · skip
          have hk1 := nst_45 (Or.inr hg)
          refine lv_iload hx hb dX3_moveInto_42 (lv_at hl 0 rfl) ?_
          refine q_ti (y := nI 5) (by rw [hg]; decide) ?_
          refine lv_tableIn (off := (98)) (tgt := 142) hx hb dX3_moveInto_44 (by decide) (by decide) (by decide) (by decide) ?_
          refine lv_aload_n hx hb dX3_moveInto_142 rfl (lv_at hl 7 rfl) ?_
          refine va_get (ci := 0) (v := .ref (a 1)) (C := RX0) (T := TX0) (N := 12) hx hb hts hin0 hown hK.1 hP 2 rfl rfl 0 (by decide) hf30 (fun _ h9 => h9) rfl dX3_moveInto_143 ?_
          refine lv_iload hx hb dX3_moveInto_146 (lv_at hl 3 rfl) ?_
          refine lv_bipush (v := nI 10) hx hb dX3_moveInto_148 (by decide) ?_
          refine lv_aload_n hx hb dX3_moveInto_150 rfl (lv_at hl 7 rfl) ?_
          refine va_get (ci := 0) (v := .ref (a 1)) (C := RX0) (T := TX0) (N := 12) hx hb hts hin0 hown hK.1 hP 2 rfl rfl 0 (by decide) hf30 (fun _ h9 => h9) rfl dX3_moveInto_151 ?_
          refine lv_iload hx hb dX3_moveInto_154 (lv_at hl 3 rfl) ?_
          refine q_N (As := [.ref (a 1), .int (nI s1)]) (rest := [.int (nI 10), .int (nI s1), .ref (a 1)]) ⟨hx, hb, hml, hown, hts⟩ (c_X4_at l C (a 1) 16 s1 (fun k => nI (bg b1 k)) (by omega) (by decide)) ⟨va_cnB 2 hts gX3_moveInto_X4_at_n19 rfl rfl rfl (q_nw hK 7 rfl) (hts (.initialized RX4) (by decide +kernel)) (by decide +kernel) ⟨Nat.le_of_ble_eq_true rfl, Nat.le_of_ble_eq_true rfl⟩, hts (.static yX4_at) (by decide +kernel), trivial⟩ hK hP hD hS hA [3] (by decide) rfl rfl hl.1 rfl (Nat.le_of_ble_eq_true rfl) dX3_moveInto_156 (Nat.zero_le _) (Nat.zero_le _) (fun r w1 H locs hQ hP hD hS => ?_)
          obtain ⟨rfl, rfl⟩ := hQ
          have hP : va_P C.1 vwCl (wT C t n cd ++ wB C a b1) H := hP
          have hD : va_D (q_A (wT C t n cd ++ wB C a b) s) (wT C t n cd ++ wB C a b1) := hD
          refine W.eq (g2 := F0 m 159 ls [.int (nI (bg b1 s1)), .int (nI 10), .int (nI s1), .ref (a 1)]) rfl ?_
          refine lv_imul hx hb dX3_moveInto_159 ?_
          refine q_ti (y := nI (10 * (bg b1 s1))) (pk_mul _ _) ?_
          refine lv_iload hx hb dX3_moveInto_160 (lv_at hl 1 rfl) ?_
          refine lv_iadd hx hb dX3_moveInto_162 ?_
          refine q_ti (y := nI ((10 * (bg b1 s1)) + (cd i13))) (nI_add _ _) ?_
          refine lv_bipush (v := nI 48) hx hb dX3_moveInto_163 (by decide) ?_
          refine lv_isub hx hb dX3_moveInto_165 ?_
          refine q_ti (y := nI (((10 * (bg b1 s1)) + (cd i13)) - 48)) (pk_sub (by omega)) ?_
          refine q_N (As := [.ref (a 1), .int (nI s1), .int (nI (((10 * (bg b1 s1)) + (cd i13)) - 48))]) (rest := []) ⟨hx, hb, hml, hown, hts⟩ (c_X4_store l C (a 1) 16 s1 (fun k => nI (bg b1 k)) (nI (((10 * (bg b1 s1)) + (cd i13)) - 48)) (by omega) (by decide)) ⟨va_cnB 3 hts gX3_moveInto_X4_store_n35 rfl rfl rfl (q_nw hK 9 rfl) (hts (.initialized RX4) (by decide +kernel)) (by decide +kernel) ⟨Nat.le_of_ble_eq_true rfl, Nat.le_of_ble_eq_true rfl⟩, hts (.static yX4_store) (by decide +kernel), trivial⟩ hK hP hD hS hA [3] (by decide) rfl rfl hl.1 rfl (Nat.le_of_ble_eq_true rfl) dX3_moveInto_166 (Nat.zero_le _) (Nat.zero_le _) (fun r w1 H locs hQ hP hD hS => ?_)
          obtain ⟨rfl, rfl⟩ := hQ
          rw [q_upd] at hP hD
          have hP : va_P C.1 vwCl (wT C t n cd ++ ([(a 0, .inr (0, [.ref (a 1), .ref (a 2), .ref (a 3), .ref (a 4), .ref (a 5), .ref (a 6), .ref (a 7), .int (nI (bx b1)), .int (nI (bl b1) - 1), .long (br b1), .long (lN (bw b1)), .long (bz b1)])), (a 1, .inl (C.2.1, 16, .inl (fun k => nI (upN (bg b1) s1 (((10 * (bg b1 s1)) + (cd i13)) - 48) k)))), (a 2, .inl (C.2.1, 16, .inl (fun k => nI (bo b1 k)))), (a 3, .inl (C.2.1, 16, .inl (fun k => nI (bb b1 k)))), (a 4, .inl (C.2.1, 16, .inl (fun k => nI (bc b1 k)))), (a 5, .inl (C.2.1, 4, .inl (fun k => nI (bp b1 k)))), (a 6, .inl (C.2.1, 4, .inl (fun k => nI (bu b1 k)))), (a 7, .inl (C.2.1, 4, .inl (fun k => nI (bs b1 k))))] : va_W)) H := hP
          have hD : va_D (q_A (wT C t n cd ++ wB C a b) s) (wT C t n cd ++ ([(a 0, .inr (0, [.ref (a 1), .ref (a 2), .ref (a 3), .ref (a 4), .ref (a 5), .ref (a 6), .ref (a 7), .int (nI (bx b1)), .int (nI (bl b1) - 1), .long (br b1), .long (lN (bw b1)), .long (bz b1)])), (a 1, .inl (C.2.1, 16, .inl (fun k => nI (upN (bg b1) s1 (((10 * (bg b1 s1)) + (cd i13)) - 48) k)))), (a 2, .inl (C.2.1, 16, .inl (fun k => nI (bo b1 k)))), (a 3, .inl (C.2.1, 16, .inl (fun k => nI (bb b1 k)))), (a 4, .inl (C.2.1, 16, .inl (fun k => nI (bc b1 k)))), (a 5, .inl (C.2.1, 4, .inl (fun k => nI (bp b1 k)))), (a 6, .inl (C.2.1, 4, .inl (fun k => nI (bu b1 k)))), (a 7, .inl (C.2.1, 4, .inl (fun k => nI (bs b1 k))))] : va_W)) := hD
          refine W.eq (g2 := F0 m 169 ls []) rfl ?_
          refine lv_goto (tgt := 223) hx hb dX3_moveInto_169 (by decide) ?_
          have hP : va_P C.1 vwCl (wT C t n cd ++ wB C a (sg b1 (upN (bg b1) s1 (10 * bg b1 s1 + cd i13 - 48)))) H := hP
          have hD : va_D (q_A (wT C t n cd ++ wB C a b) s) (wT C t n cd ++ wB C a (sg b1 (upN (bg b1) s1 (10 * bg b1 s1 + cd i13 - 48)))) := hD
          refine lv_iinc (v := nI (i13 + 1)) (lv' := [(6, .int (nI (i13 + 1))), (5, .int (stI (stg cd (i13 + 1)))), (7, .int (nI (cd i13))), (4, .int (nI s1)), (3, .int (nI a1)), (2, .int (nI p1)), (0, .ref (t 0)), (1, .ref (a 0))]) hx hb dX3_moveInto_223 hl (k := 2) rfl (nI_1 _) (by decide) rfl (fun ls hl => ?_)
          refine lv_goto (tgt := 13) hx hb dX3_moveInto_226 (by decide) ?_
          exact ih13 (i13 + 1) p1 a1 s1 (sg b1 (upN (bg b1) s1 (10 * bg b1 s1 + cd i13 - 48))) (by omega) (by omega) (by show mvStep (stg cd (i13 + 1)) (cd i13) (mvN cd b i13) = _; rw [hg, hM13]; rfl) (by omega) (by omega) _ _ ls hP hD hS (lv_sub hl [0, 1, 3, 4, 5, 6, 7] rfl)
        · skip
          refine lv_iload hx hb dX3_moveInto_42 (lv_at hl 0 rfl) ?_
          refine q_ti (y := nI 6) (by rw [hg]; decide) ?_
          refine lv_tableIn (off := (179)) (tgt := 223) hx hb dX3_moveInto_44 (by decide) (by decide) (by decide) (by decide) ?_
          refine lv_iinc (v := nI (i13 + 1)) (lv' := [(6, .int (nI (i13 + 1))), (5, .int (stI (stg cd (i13 + 1)))), (7, .int (nI (cd i13))), (4, .int (nI s1)), (3, .int (nI a1)), (2, .int (nI p1)), (0, .ref (t 0)), (1, .ref (a 0))]) hx hb dX3_moveInto_223 hl (k := 2) rfl (nI_1 _) (by decide) rfl (fun ls hl => ?_)
          refine lv_goto (tgt := 13) hx hb dX3_moveInto_226 (by decide) ?_
          exact ih13 (i13 + 1) p1 a1 s1 b1 (by omega) (by omega) (by show mvStep (stg cd (i13 + 1)) (cd i13) (mvN cd b i13) = _; rw [hg, hM13]; rfl) (by omega) (by omega) _ _ ls hP hD hS (lv_sub hl [0, 1, 3, 4, 5, 6, 7] rfl)
        · skip
          have hk1 := nst_78 (Or.inl hg)
          refine lv_iload hx hb dX3_moveInto_42 (lv_at hl 0 rfl) ?_
          refine q_ti (y := nI 7) (by rw [hg]; decide) ?_
          refine lv_tableIn (off := (128)) (tgt := 172) hx hb dX3_moveInto_44 (by decide) (by decide) (by decide) (by decide) ?_
          refine lv_aload_n hx hb dX3_moveInto_172 rfl (lv_at hl 7 rfl) ?_
          refine va_get (ci := 0) (v := .ref (a 2)) (C := RX0) (T := TX0) (N := 12) hx hb hts hin0 hown hK.1 hP 2 rfl rfl 1 (by decide) hf39 (fun _ h9 => h9) rfl dX3_moveInto_173 ?_
          refine lv_iload hx hb dX3_moveInto_176 (lv_at hl 3 rfl) ?_
          refine lv_iload hx hb dX3_moveInto_178 (lv_at hl 1 rfl) ?_
          refine lv_bipush (v := nI 97) hx hb dX3_moveInto_180 (by decide) ?_
          refine lv_isub hx hb dX3_moveInto_182 ?_
          refine q_ti (y := nI ((cd i13) - 97)) (pk_sub (by omega)) ?_
          refine q_N (As := [.ref (a 2), .int (nI s1), .int (nI ((cd i13) - 97))]) (rest := []) ⟨hx, hb, hml, hown, hts⟩ (c_X4_store l C (a 2) 16 s1 (fun k => nI (bo b1 k)) (nI ((cd i13) - 97)) (by omega) (by decide)) ⟨va_cnB 3 hts gX3_moveInto_X4_store_n35 rfl rfl rfl (q_nw hK 9 rfl) (hts (.initialized RX4) (by decide +kernel)) (by decide +kernel) ⟨Nat.le_of_ble_eq_true rfl, Nat.le_of_ble_eq_true rfl⟩, hts (.static yX4_store) (by decide +kernel), trivial⟩ hK hP hD hS hA [4] (by decide) rfl rfl hl.1 rfl (Nat.le_of_ble_eq_true rfl) dX3_moveInto_183 (Nat.zero_le _) (Nat.zero_le _) (fun r w1 H locs hQ hP hD hS => ?_)
          obtain ⟨rfl, rfl⟩ := hQ
          rw [q_upd] at hP hD
          have hP : va_P C.1 vwCl (wT C t n cd ++ ([(a 0, .inr (0, [.ref (a 1), .ref (a 2), .ref (a 3), .ref (a 4), .ref (a 5), .ref (a 6), .ref (a 7), .int (nI (bx b1)), .int (nI (bl b1) - 1), .long (br b1), .long (lN (bw b1)), .long (bz b1)])), (a 1, .inl (C.2.1, 16, .inl (fun k => nI (bg b1 k)))), (a 2, .inl (C.2.1, 16, .inl (fun k => nI (upN (bo b1) s1 ((cd i13) - 97) k)))), (a 3, .inl (C.2.1, 16, .inl (fun k => nI (bb b1 k)))), (a 4, .inl (C.2.1, 16, .inl (fun k => nI (bc b1 k)))), (a 5, .inl (C.2.1, 4, .inl (fun k => nI (bp b1 k)))), (a 6, .inl (C.2.1, 4, .inl (fun k => nI (bu b1 k)))), (a 7, .inl (C.2.1, 4, .inl (fun k => nI (bs b1 k))))] : va_W)) H := hP
          have hD : va_D (q_A (wT C t n cd ++ wB C a b) s) (wT C t n cd ++ ([(a 0, .inr (0, [.ref (a 1), .ref (a 2), .ref (a 3), .ref (a 4), .ref (a 5), .ref (a 6), .ref (a 7), .int (nI (bx b1)), .int (nI (bl b1) - 1), .long (br b1), .long (lN (bw b1)), .long (bz b1)])), (a 1, .inl (C.2.1, 16, .inl (fun k => nI (bg b1 k)))), (a 2, .inl (C.2.1, 16, .inl (fun k => nI (upN (bo b1) s1 ((cd i13) - 97) k)))), (a 3, .inl (C.2.1, 16, .inl (fun k => nI (bb b1 k)))), (a 4, .inl (C.2.1, 16, .inl (fun k => nI (bc b1 k)))), (a 5, .inl (C.2.1, 4, .inl (fun k => nI (bp b1 k)))), (a 6, .inl (C.2.1, 4, .inl (fun k => nI (bu b1 k)))), (a 7, .inl (C.2.1, 4, .inl (fun k => nI (bs b1 k))))] : va_W)) := hD
          refine W.eq (g2 := F0 m 186 ls []) rfl ?_
          refine lv_goto (tgt := 223) hx hb dX3_moveInto_186 (by decide) ?_
          have hP : va_P C.1 vwCl (wT C t n cd ++ wB C a (so b1 (upN (bo b1) s1 (cd i13 - 97)))) H := hP
          have hD : va_D (q_A (wT C t n cd ++ wB C a b) s) (wT C t n cd ++ wB C a (so b1 (upN (bo b1) s1 (cd i13 - 97)))) := hD
          refine lv_iinc (v := nI (i13 + 1)) (lv' := [(6, .int (nI (i13 + 1))), (5, .int (stI (stg cd (i13 + 1)))), (7, .int (nI (cd i13))), (4, .int (nI s1)), (3, .int (nI a1)), (2, .int (nI p1)), (0, .ref (t 0)), (1, .ref (a 0))]) hx hb dX3_moveInto_223 hl (k := 2) rfl (nI_1 _) (by decide) rfl (fun ls hl => ?_)
          refine lv_goto (tgt := 13) hx hb dX3_moveInto_226 (by decide) ?_
          exact ih13 (i13 + 1) p1 a1 s1 (so b1 (upN (bo b1) s1 (cd i13 - 97))) (by omega) (by omega) (by show mvStep (stg cd (i13 + 1)) (cd i13) (mvN cd b i13) = _; rw [hg, hM13]; rfl) (by omega) (by omega) _ _ ls hP hD hS (lv_sub hl [0, 1, 3, 4, 5, 6, 7] rfl)
        · skip
          have hk1 := nst_78 (Or.inr hg)
          refine lv_iload hx hb dX3_moveInto_42 (lv_at hl 0 rfl) ?_
          refine q_ti (y := nI 8) (by rw [hg]; decide) ?_
          refine lv_tableIn (off := (145)) (tgt := 189) hx hb dX3_moveInto_44 (by decide) (by decide) (by decide) (by decide) ?_
          refine lv_aload_n hx hb dX3_moveInto_189 rfl (lv_at hl 7 rfl) ?_
          refine va_get (ci := 0) (v := .ref (a 3)) (C := RX0) (T := TX0) (N := 12) hx hb hts hin0 hown hK.1 hP 2 rfl rfl 2 (by decide) hf42 (fun _ h9 => h9) rfl dX3_moveInto_190 ?_
          refine lv_iload hx hb dX3_moveInto_193 (lv_at hl 3 rfl) ?_
          refine lv_iload hx hb dX3_moveInto_195 (lv_at hl 1 rfl) ?_
          refine lv_bipush (v := nI 97) hx hb dX3_moveInto_197 (by decide) ?_
          refine lv_isub hx hb dX3_moveInto_199 ?_
          refine q_ti (y := nI ((cd i13) - 97)) (pk_sub (by omega)) ?_
          refine q_N (As := [.ref (a 3), .int (nI s1), .int (nI ((cd i13) - 97))]) (rest := []) ⟨hx, hb, hml, hown, hts⟩ (c_X4_store l C (a 3) 16 s1 (fun k => nI (bb b1 k)) (nI ((cd i13) - 97)) (by omega) (by decide)) ⟨va_cnB 3 hts gX3_moveInto_X4_store_n35 rfl rfl rfl (q_nw hK 9 rfl) (hts (.initialized RX4) (by decide +kernel)) (by decide +kernel) ⟨Nat.le_of_ble_eq_true rfl, Nat.le_of_ble_eq_true rfl⟩, hts (.static yX4_store) (by decide +kernel), trivial⟩ hK hP hD hS hA [5] (by decide) rfl rfl hl.1 rfl (Nat.le_of_ble_eq_true rfl) dX3_moveInto_200 (Nat.zero_le _) (Nat.zero_le _) (fun r w1 H locs hQ hP hD hS => ?_)
          obtain ⟨rfl, rfl⟩ := hQ
          rw [q_upd] at hP hD
          have hP : va_P C.1 vwCl (wT C t n cd ++ ([(a 0, .inr (0, [.ref (a 1), .ref (a 2), .ref (a 3), .ref (a 4), .ref (a 5), .ref (a 6), .ref (a 7), .int (nI (bx b1)), .int (nI (bl b1) - 1), .long (br b1), .long (lN (bw b1)), .long (bz b1)])), (a 1, .inl (C.2.1, 16, .inl (fun k => nI (bg b1 k)))), (a 2, .inl (C.2.1, 16, .inl (fun k => nI (bo b1 k)))), (a 3, .inl (C.2.1, 16, .inl (fun k => nI (upN (bb b1) s1 ((cd i13) - 97) k)))), (a 4, .inl (C.2.1, 16, .inl (fun k => nI (bc b1 k)))), (a 5, .inl (C.2.1, 4, .inl (fun k => nI (bp b1 k)))), (a 6, .inl (C.2.1, 4, .inl (fun k => nI (bu b1 k)))), (a 7, .inl (C.2.1, 4, .inl (fun k => nI (bs b1 k))))] : va_W)) H := hP
          have hD : va_D (q_A (wT C t n cd ++ wB C a b) s) (wT C t n cd ++ ([(a 0, .inr (0, [.ref (a 1), .ref (a 2), .ref (a 3), .ref (a 4), .ref (a 5), .ref (a 6), .ref (a 7), .int (nI (bx b1)), .int (nI (bl b1) - 1), .long (br b1), .long (lN (bw b1)), .long (bz b1)])), (a 1, .inl (C.2.1, 16, .inl (fun k => nI (bg b1 k)))), (a 2, .inl (C.2.1, 16, .inl (fun k => nI (bo b1 k)))), (a 3, .inl (C.2.1, 16, .inl (fun k => nI (upN (bb b1) s1 ((cd i13) - 97) k)))), (a 4, .inl (C.2.1, 16, .inl (fun k => nI (bc b1 k)))), (a 5, .inl (C.2.1, 4, .inl (fun k => nI (bp b1 k)))), (a 6, .inl (C.2.1, 4, .inl (fun k => nI (bu b1 k)))), (a 7, .inl (C.2.1, 4, .inl (fun k => nI (bs b1 k))))] : va_W)) := hD
          refine W.eq (g2 := F0 m 203 ls []) rfl ?_
          refine lv_goto (tgt := 223) hx hb dX3_moveInto_203 (by decide) ?_
          have hP : va_P C.1 vwCl (wT C t n cd ++ wB C a (sb b1 (upN (bb b1) s1 (cd i13 - 97)))) H := hP
          have hD : va_D (q_A (wT C t n cd ++ wB C a b) s) (wT C t n cd ++ wB C a (sb b1 (upN (bb b1) s1 (cd i13 - 97)))) := hD
          refine lv_iinc (v := nI (i13 + 1)) (lv' := [(6, .int (nI (i13 + 1))), (5, .int (stI (stg cd (i13 + 1)))), (7, .int (nI (cd i13))), (4, .int (nI s1)), (3, .int (nI a1)), (2, .int (nI p1)), (0, .ref (t 0)), (1, .ref (a 0))]) hx hb dX3_moveInto_223 hl (k := 2) rfl (nI_1 _) (by decide) rfl (fun ls hl => ?_)
          refine lv_goto (tgt := 13) hx hb dX3_moveInto_226 (by decide) ?_
          exact ih13 (i13 + 1) p1 a1 s1 (sb b1 (upN (bb b1) s1 (cd i13 - 97))) (by omega) (by omega) (by show mvStep (stg cd (i13 + 1)) (cd i13) (mvN cd b i13) = _; rw [hg, hM13]; rfl) (by omega) (by omega) _ _ ls hP hD hS (lv_sub hl [0, 1, 3, 4, 5, 6, 7] rfl)
        · skip
          have hk1 := nst_9 hg
          refine lv_iload hx hb dX3_moveInto_42 (lv_at hl 0 rfl) ?_
          refine q_ti (y := nI 9) (by rw [hg]; decide) ?_
          refine lv_tableIn (off := (162)) (tgt := 206) hx hb dX3_moveInto_44 (by decide) (by decide) (by decide) (by decide) ?_
          refine lv_aload_n hx hb dX3_moveInto_206 rfl (lv_at hl 7 rfl) ?_
          refine va_get (ci := 0) (v := .ref (a 4)) (C := RX0) (T := TX0) (N := 12) hx hb hts hin0 hown hK.1 hP 2 rfl rfl 3 (by decide) hf45 (fun _ h9 => h9) rfl dX3_moveInto_207 ?_
          refine lv_iload hx hb dX3_moveInto_210 (lv_at hl 3 rfl) ?_
          refine lv_iload hx hb dX3_moveInto_212 (lv_at hl 1 rfl) ?_
          refine lv_bipush (v := nI 48) hx hb dX3_moveInto_214 (by decide) ?_
          refine lv_isub hx hb dX3_moveInto_216 ?_
          refine q_ti (y := nI ((cd i13) - 48)) (pk_sub (by omega)) ?_
          refine q_N (As := [.ref (a 4), .int (nI s1), .int (nI ((cd i13) - 48))]) (rest := []) ⟨hx, hb, hml, hown, hts⟩ (c_X4_store l C (a 4) 16 s1 (fun k => nI (bc b1 k)) (nI ((cd i13) - 48)) (by omega) (by decide)) ⟨va_cnB 3 hts gX3_moveInto_X4_store_n35 rfl rfl rfl (q_nw hK 9 rfl) (hts (.initialized RX4) (by decide +kernel)) (by decide +kernel) ⟨Nat.le_of_ble_eq_true rfl, Nat.le_of_ble_eq_true rfl⟩, hts (.static yX4_store) (by decide +kernel), trivial⟩ hK hP hD hS hA [6] (by decide) rfl rfl hl.1 rfl (Nat.le_of_ble_eq_true rfl) dX3_moveInto_217 (Nat.zero_le _) (Nat.zero_le _) (fun r w1 H locs hQ hP hD hS => ?_)
          obtain ⟨rfl, rfl⟩ := hQ
          rw [q_upd] at hP hD
          have hP : va_P C.1 vwCl (wT C t n cd ++ ([(a 0, .inr (0, [.ref (a 1), .ref (a 2), .ref (a 3), .ref (a 4), .ref (a 5), .ref (a 6), .ref (a 7), .int (nI (bx b1)), .int (nI (bl b1) - 1), .long (br b1), .long (lN (bw b1)), .long (bz b1)])), (a 1, .inl (C.2.1, 16, .inl (fun k => nI (bg b1 k)))), (a 2, .inl (C.2.1, 16, .inl (fun k => nI (bo b1 k)))), (a 3, .inl (C.2.1, 16, .inl (fun k => nI (bb b1 k)))), (a 4, .inl (C.2.1, 16, .inl (fun k => nI (upN (bc b1) s1 ((cd i13) - 48) k)))), (a 5, .inl (C.2.1, 4, .inl (fun k => nI (bp b1 k)))), (a 6, .inl (C.2.1, 4, .inl (fun k => nI (bu b1 k)))), (a 7, .inl (C.2.1, 4, .inl (fun k => nI (bs b1 k))))] : va_W)) H := hP
          have hD : va_D (q_A (wT C t n cd ++ wB C a b) s) (wT C t n cd ++ ([(a 0, .inr (0, [.ref (a 1), .ref (a 2), .ref (a 3), .ref (a 4), .ref (a 5), .ref (a 6), .ref (a 7), .int (nI (bx b1)), .int (nI (bl b1) - 1), .long (br b1), .long (lN (bw b1)), .long (bz b1)])), (a 1, .inl (C.2.1, 16, .inl (fun k => nI (bg b1 k)))), (a 2, .inl (C.2.1, 16, .inl (fun k => nI (bo b1 k)))), (a 3, .inl (C.2.1, 16, .inl (fun k => nI (bb b1 k)))), (a 4, .inl (C.2.1, 16, .inl (fun k => nI (upN (bc b1) s1 ((cd i13) - 48) k)))), (a 5, .inl (C.2.1, 4, .inl (fun k => nI (bp b1 k)))), (a 6, .inl (C.2.1, 4, .inl (fun k => nI (bu b1 k)))), (a 7, .inl (C.2.1, 4, .inl (fun k => nI (bs b1 k))))] : va_W)) := hD
          refine W.eq (g2 := F0 m 220 ls []) rfl ?_
          refine lv_goto (tgt := 223) hx hb dX3_moveInto_220 (by decide) ?_
          have hP : va_P C.1 vwCl (wT C t n cd ++ wB C a (sc b1 (upN (bc b1) s1 (cd i13 - 48)))) H := hP
          have hD : va_D (q_A (wT C t n cd ++ wB C a b) s) (wT C t n cd ++ wB C a (sc b1 (upN (bc b1) s1 (cd i13 - 48)))) := hD
          refine lv_iinc (v := nI (i13 + 1)) (lv' := [(6, .int (nI (i13 + 1))), (5, .int (stI (stg cd (i13 + 1)))), (7, .int (nI (cd i13))), (4, .int (nI s1)), (3, .int (nI a1)), (2, .int (nI p1)), (0, .ref (t 0)), (1, .ref (a 0))]) hx hb dX3_moveInto_223 hl (k := 2) rfl (nI_1 _) (by decide) rfl (fun ls hl => ?_)
          refine lv_goto (tgt := 13) hx hb dX3_moveInto_226 (by decide) ?_
          exact ih13 (i13 + 1) p1 a1 s1 (sc b1 (upN (bc b1) s1 (cd i13 - 48))) (by omega) (by omega) (by show mvStep (stg cd (i13 + 1)) (cd i13) (mvN cd b i13) = _; rw [hg, hM13]; rfl) (by omega) (by omega) _ _ ls hP hD hS (lv_sub hl [0, 1, 3, 4, 5, 6, 7] rfl)
        · skip
          refine lv_iload hx hb dX3_moveInto_42 (lv_at hl 0 rfl) ?_
          refine q_ti (y := (-1)) (by rw [hg]; decide) ?_
          refine lv_tableOut (tgt := 223) hx hb dX3_moveInto_44 (by decide) (by decide) ?_
          refine lv_iinc (v := nI (i13 + 1)) (lv' := [(6, .int (nI (i13 + 1))), (5, .int (stI (stg cd (i13 + 1)))), (7, .int (nI (cd i13))), (4, .int (nI s1)), (3, .int (nI a1)), (2, .int (nI p1)), (0, .ref (t 0)), (1, .ref (a 0))]) hx hb dX3_moveInto_223 hl (k := 2) rfl (nI_1 _) (by decide) rfl (fun ls hl => ?_)
          refine lv_goto (tgt := 13) hx hb dX3_moveInto_226 (by decide) ?_
          exact ih13 (i13 + 1) p1 a1 s1 b1 (by omega) (by omega) (by show mvStep (stg cd (i13 + 1)) (cd i13) (mvN cd b i13) = _; rw [hg, hM13]; rfl) (by omega) (by omega) _ _ ls hP hD hS (lv_sub hl [0, 1, 3, 4, 5, 6, 7] rfl)
  exact K13 (n + 1 - 0) 0 1 0 0 b (by omega) (by omega) rfl (by omega) (by omega) _ _ ls hP hD hS (lv_sub hl [0, 1, 2, 3, 4, 5, 6] rfl)
