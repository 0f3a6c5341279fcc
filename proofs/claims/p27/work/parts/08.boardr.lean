/-! boards: reads -/
theorem q_ob5 {b : Bd} (h : OkB b) : bl b < 2 ^ 31 := by have := h.2.2.2.1; omega
set_option maxHeartbeats 4000000 in
set_option maxRecDepth 100000 in
theorem c_X0_wouldChange (l : Launch) (C : q_C) (a : Nat → Nat) (b : Bd) (arm : Nat) (hB : OkB b) (ha : arm < 4) : q_M C l yX0_wouldChange wsX0_wouldChange 0 0 [.ref (a 0), .int (nI arm)] (wB C a b) (fun r w => r = some (.int (q_b (othB b arm))) ∧ w = wB C a b) := by
  refine q_head (cc := cX0_wouldChange) (maxL := 2) (ret := (some .boolean)) (by decide +kernel) rfl (Nat.le_of_ble_eq_true rfl) ?_
  intro p e s m below meth c hx hb hr hlocks hml hown hts hK hP hD hS hA ls hl
  have hl : lv_has ls 2 [(0, .ref (a 0)), (1, .int (nI arm))] := hl
  have hf33 := hts (.fieldLink RX0 33 "RestedArms$Board" "last" "I") (by decide +kernel)
  have hin0 : ∀ w ∈ u_ws RX0 TX0 12, w ∈ wsX0_wouldChange := by decide +kernel
  refine lv_aload_n hx hb dX0_wouldChange_0 rfl (lv_at hl 0 rfl) ?_
  refine va_get (ci := 0) (v := .int (nI (bl b) - 1)) (C := RX0) (T := TX0) (N := 12) hx hb hts hin0 hown hK.1 hP 0 rfl rfl 8 (by decide) hf33 (fun _ h9 => h9) rfl dX0_wouldChange_1 ?_
  refine lv_iconst (v := (-1)) hx hb dX0_wouldChange_4 (by decide) ?_
  refine lv_icmp_eq (tgt := 20) hx hb dX0_wouldChange_5 (by decide) (fun c5 => ?_) (fun c5 => ?_)
  · skip
    refine lv_iconst (v := nI 0) hx hb dX0_wouldChange_20 (by decide) ?_
    exact q_zret hx hb hr hlocks rfl (w1 := wB C a b) hP hS rfl dX0_wouldChange_21 (⟨congrArg (fun z => some (Value.int z)) (q_bf (decide_eq_false (fun q => q.1 ((q_las (q_ob5 hB)).mp c5)))), rfl⟩)
  · skip
    refine lv_aload_n hx hb dX0_wouldChange_8 rfl (lv_at hl 0 rfl) ?_
    refine va_get (ci := 0) (v := .int (nI (bl b) - 1)) (C := RX0) (T := TX0) (N := 12) hx hb hts hin0 hown hK.1 hP 0 rfl rfl 8 (by decide) hf33 (fun _ h9 => h9) rfl dX0_wouldChange_9 ?_
    refine lv_iload_n hx hb dX0_wouldChange_12 rfl (lv_at hl 1 rfl) ?_
    refine lv_icmp_eq (tgt := 20) hx hb dX0_wouldChange_13 (by decide) (fun c13 => ?_) (fun c13 => ?_)
    · skip
      refine lv_iconst (v := nI 0) hx hb dX0_wouldChange_20 (by decide) ?_
      exact q_zret hx hb hr hlocks rfl (w1 := wB C a b) hP hS rfl dX0_wouldChange_21 (⟨congrArg (fun z => some (Value.int z)) (q_bf (decide_eq_false (fun q => q.2 ((q_las2 (q_ob5 hB) (by omega)).mp c13)))), rfl⟩)
    · skip
      refine lv_iconst (v := nI 1) hx hb dX0_wouldChange_16 (by decide) ?_
      refine lv_goto (tgt := 21) hx hb dX0_wouldChange_17 (by decide) ?_
      exact q_zret hx hb hr hlocks rfl (w1 := wB C a b) hP hS rfl dX0_wouldChange_21 (⟨congrArg (fun z => some (Value.int z)) (q_bt (decide_eq_true ⟨fun q => c5 ((q_las (q_ob5 hB)).mpr q), fun q => c13 ((q_las2 (q_ob5 hB) (by omega)).mpr q)⟩)), rfl⟩)
set_option maxHeartbeats 4000000 in
set_option maxRecDepth 100000 in
theorem c_X0_costOf (l : Launch) (C : q_C) (a : Nat → Nat) (b : Bd) (arm rule : Nat) (hB : OkB b) (ha : arm < 4) (hr3 : rule < 3) : q_M C l yX0_costOf wsX0_costOf 1 21 [.ref (a 0), .int (nI arm), .int (nI rule)] (wB C a b) (fun r w => r = some (.long (lN (costB b arm rule))) ∧ w = wB C a b) := by
  obtain ⟨ok1, ok2, ⟨ok3, ok4, ok5, ok6, ok7⟩, ok8, ok9⟩ := id hB
  refine q_head (cc := cX0_costOf) (maxL := 5) (ret := (some .long)) (by decide +kernel) rfl (Nat.le_of_ble_eq_true rfl) ?_
  intro p e s m below meth c hx hb hr hlocks hml hown hts hK hP hD hS hA ls hl
  have hl : lv_has ls 5 [(0, .ref (a 0)), (1, .int (nI arm)), (2, .int (nI rule))] := hl
  have hf30 := hts (.fieldLink RX0 30 "RestedArms$Board" "settings" "[I") (by decide +kernel)
  have hin0 : ∀ w ∈ u_ws RX0 TX0 12, w ∈ wsX0_costOf := by decide +kernel
  have hk70 := hts (.constantLong RX0 70 (10)) (by decide +kernel)
  refine lv_aload_n hx hb dX0_costOf_0 rfl (lv_at hl 0 rfl) ?_
  refine lv_iload_n hx hb dX0_costOf_1 rfl (lv_at hl 1 rfl) ?_
  refine q_V (As := [.int (nI arm)]) (rest := []) ⟨hx, hb, hml, hown, hts⟩ (c_X0_wouldChange l C a b arm hB (by omega)) (cwV 1 hts gX0_costOf_X0_wouldChange rfl rfl rfl (by decide +kernel) ⟨Nat.le_of_ble_eq_true rfl, Nat.le_of_ble_eq_true rfl⟩) hK hP hD hS hA [0, 1, 2, 3, 4, 5, 6, 7] (by decide) rfl 0 rfl rfl rfl rfl hl.1 rfl (Nat.le_of_ble_eq_true rfl) dX0_costOf_2 (Nat.zero_le _) (Nat.zero_le _) (fun r w1 H locs hQ hP hD hS => ?_)
  obtain ⟨rfl, rfl⟩ := hQ
  have hP : va_P C.1 vwCl (wB C a b) H := hP
  have hD : va_D (q_A (wB C a b) s) (wB C a b) := hD
  refine W.eq (g2 := F0 m 5 ls [.int (q_b (othB b arm))]) rfl ?_
  refine lv_if_ne (tgt := 10) hx hb dX0_costOf_5 (by decide) (fun c5 => ?_) (fun c5 => ?_)
  · have c5 : othB b arm = true := q_b1.mp c5
    refine lv_aload_n hx hb dX0_costOf_10 rfl (lv_at hl 0 rfl) ?_
    refine va_get (ci := 0) (v := .ref (a 7)) (C := RX0) (T := TX0) (N := 12) hx hb hts hin0 hown hK.1 hP 0 rfl rfl 6 (by decide) hf30 (fun _ h9 => h9) rfl dX0_costOf_11 ?_
    refine lv_iconst (v := nI 2) hx hb dX0_costOf_14 (by decide) ?_
    refine q_N (As := [.ref (a 7), .int (nI 2)]) (rest := []) ⟨hx, hb, hml, hown, hts⟩ (c_X4_at l C (a 7) 4 2 (fun k => nI (bs b k)) (by decide) (by decide)) ⟨va_cnB 2 hts gX0_costOf_X4_at_n62 rfl rfl rfl (q_nw hK 1 rfl) (hts (.initialized RX4) (by decide +kernel)) (by decide +kernel) ⟨Nat.le_of_ble_eq_true rfl, Nat.le_of_ble_eq_true rfl⟩, hts (.static yX4_at) (by decide +kernel), trivial⟩ hK hP hD hS hA [7] (by decide) rfl rfl hl.1 rfl (Nat.le_of_ble_eq_true rfl) dX0_costOf_15 (Nat.zero_le _) (Nat.zero_le _) (fun r w1 H locs hQ hP hD hS => ?_)
    obtain ⟨rfl, rfl⟩ := hQ
    have hP : va_P C.1 vwCl (wB C a b) H := hP
    have hD : va_D (q_A (wB C a b) s) (wB C a b) := hD
    refine W.eq (g2 := F0 m 18 ls [.int (nI (bs b 2))]) rfl ?_
    refine lv_i2l (v := lN (bs b 2)) hx hb dX0_costOf_18 (nI_l (by omega)) ?_
    refine lv_lstore_n (lv' := [(3, .long (lN (bs b 2))), (0, .ref (a 0)), (1, .int (nI arm)), (2, .int (nI rule))]) hx hb dX0_costOf_19 rfl hl (by decide) rfl (fun ls hl => ?_)
    refine lv_iload_n hx hb dX0_costOf_20 rfl (lv_at hl 3 rfl) ?_
    refine lv_if_ne (tgt := 45) hx hb dX0_costOf_21 (by decide) (fun c21 => ?_) (fun c21 => ?_)
    · have c21 : rule ≠ 0 := q_nne0 (by omega) (by omega) c21
      refine lv_lload_n hx hb dX0_costOf_45 rfl (lv_at hl 0 rfl) ?_
      exact q_lret hx hb hr hlocks (w1 := wB C a b) hP hS rfl dX0_costOf_46 (⟨by rw [costB, if_pos c5, if_neg c21], rfl⟩)
    · have c21 : rule = 0 := q_nne0' (by omega) (by omega) c21
      refine lv_ldc2 hx hb hown hk70 dX0_costOf_24 ?_
      refine q_tl (y := lN 10) (by decide) ?_
      refine lv_lload_n hx hb dX0_costOf_27 rfl (lv_at hl 0 rfl) ?_
      refine lv_lmul hx hb dX0_costOf_28 ?_
      refine q_tl (y := lN (10 * (bs b 2))) (lN_mul _ _) ?_
      refine lv_bipush (v := nI 100) hx hb dX0_costOf_29 (by decide) ?_
      refine lv_aload_n hx hb dX0_costOf_31 rfl (lv_at hl 1 rfl) ?_
      refine va_get (ci := 0) (v := .ref (a 7)) (C := RX0) (T := TX0) (N := 12) hx hb hts hin0 hown hK.1 hP 0 rfl rfl 6 (by decide) hf30 (fun _ h9 => h9) rfl dX0_costOf_32 ?_
      refine lv_iconst (v := nI 0) hx hb dX0_costOf_35 (by decide) ?_
      refine q_N (As := [.ref (a 7), .int (nI 0)]) (rest := [.int (nI 100), .long (lN (10 * (bs b 2)))]) ⟨hx, hb, hml, hown, hts⟩ (c_X4_at l C (a 7) 4 0 (fun k => nI (bs b k)) (by decide) (by decide)) ⟨va_cnB 2 hts gX0_costOf_X4_at_n62 rfl rfl rfl (q_nw hK 1 rfl) (hts (.initialized RX4) (by decide +kernel)) (by decide +kernel) ⟨Nat.le_of_ble_eq_true rfl, Nat.le_of_ble_eq_true rfl⟩, hts (.static yX4_at) (by decide +kernel), trivial⟩ hK hP hD hS hA [7] (by decide) rfl rfl hl.1 rfl (Nat.le_of_ble_eq_true rfl) dX0_costOf_36 (Nat.zero_le _) (Nat.zero_le _) (fun r w1 H locs hQ hP hD hS => ?_)
      obtain ⟨rfl, rfl⟩ := hQ
      have hP : va_P C.1 vwCl (wB C a b) H := hP
      have hD : va_D (q_A (wB C a b) s) (wB C a b) := hD
      refine W.eq (g2 := F0 m 39 ls [.int (nI (bs b 0)), .int (nI 100), .long (lN (10 * (bs b 2)))]) rfl ?_
      refine lv_isub hx hb dX0_costOf_39 ?_
      refine q_ti (y := nI (100 - (bs b 0))) (pk_sub (by omega)) ?_
      refine lv_i2l (v := lN (100 - (bs b 0))) hx hb dX0_costOf_40 (nI_l (by omega)) ?_
      refine lv_lmul hx hb dX0_costOf_41 ?_
      refine q_tl (y := lN ((10 * (bs b 2)) * (100 - (bs b 0)))) (lN_mul _ _) ?_
      refine lv_goto (tgt := 46) hx hb dX0_costOf_42 (by decide) ?_
      exact q_lret hx hb hr hlocks (w1 := wB C a b) hP hS rfl dX0_costOf_46 (⟨by rw [costB, if_pos c5, if_pos c21], rfl⟩)
  · have c5 : othB b arm = false := q_b0.mp c5
    refine lv_lconst (v := lN 0) hx hb dX0_costOf_8 (by decide) ?_
    exact q_lret hx hb hr hlocks (w1 := wB C a b) hP hS rfl dX0_costOf_9 (⟨by rw [costB, if_neg (by rw [c5]; decide)], rfl⟩)
set_option maxHeartbeats 4000000 in
set_option maxRecDepth 100000 in
theorem c_X0_allPulls (l : Launch) (C : q_C) (a : Nat → Nat) (b : Bd) : q_M C l yX0_allPulls wsX0_allPulls 1 21 [.ref (a 0)] (wB C a b) (fun r w => r = some (.int (nI (sumU b))) ∧ w = wB C a b) := by
  refine q_head (cc := cX0_allPulls) (maxL := 3) (ret := (some .int)) (by decide +kernel) rfl (Nat.le_of_ble_eq_true rfl) ?_
  intro p e s m below meth c hx hb hr hlocks hml hown hts hK hP hD hS hA ls hl
  have hl : lv_has ls 3 [(0, .ref (a 0))] := hl
  have hf27 := hts (.fieldLink RX0 27 "RestedArms$Board" "pulls" "[I") (by decide +kernel)
  have hin0 : ∀ w ∈ u_ws RX0 TX0 12, w ∈ wsX0_allPulls := by decide +kernel
  refine lv_iconst (v := nI 0) hx hb dX0_allPulls_0 (by decide) ?_
  refine lv_istore_n (lv' := [(1, .int (nI 0)), (0, .ref (a 0))]) hx hb dX0_allPulls_1 rfl hl (by decide) rfl (fun ls hl => ?_)
  refine lv_iconst (v := nI 0) hx hb dX0_allPulls_2 (by decide) ?_
  refine lv_istore_n (lv' := [(2, .int (nI 0)), (1, .int (nI 0)), (0, .ref (a 0))]) hx hb dX0_allPulls_3 rfl hl (by decide) rfl (fun ls hl => ?_)
  refine lv_iload_n hx hb dX0_allPulls_4 rfl (lv_at hl 0 rfl) ?_
  refine lv_iconst (v := nI 4) hx hb dX0_allPulls_5 (by decide) ?_
  refine lv_icmp_ge (tgt := 26) hx hb dX0_allPulls_6 (by decide) (fun c => absurd c (by decide)) (fun _ => ?_)
  refine lv_iload_n hx hb dX0_allPulls_9 rfl (lv_at hl 1 rfl) ?_
  refine lv_aload_n hx hb dX0_allPulls_10 rfl (lv_at hl 2 rfl) ?_
  refine va_get (ci := 0) (v := .ref (a 6)) (C := RX0) (T := TX0) (N := 12) hx hb hts hin0 hown hK.1 hP 0 rfl rfl 5 (by decide) hf27 (fun _ h9 => h9) rfl dX0_allPulls_11 ?_
  refine lv_iload_n hx hb dX0_allPulls_14 rfl (lv_at hl 0 rfl) ?_
  refine q_N (As := [.ref (a 6), .int (nI 0)]) (rest := [.int (nI 0)]) ⟨hx, hb, hml, hown, hts⟩ (c_X4_at l C (a 6) 4 0 (fun k => nI (bu b k)) (by decide) (by decide)) ⟨va_cnB 2 hts gX0_allPulls_X4_at_n62 rfl rfl rfl (q_nw hK 1 rfl) (hts (.initialized RX4) (by decide +kernel)) (by decide +kernel) ⟨Nat.le_of_ble_eq_true rfl, Nat.le_of_ble_eq_true rfl⟩, hts (.static yX4_at) (by decide +kernel), trivial⟩ hK hP hD hS hA [6] (by decide) rfl rfl hl.1 rfl (Nat.le_of_ble_eq_true rfl) dX0_allPulls_15 (Nat.zero_le _) (Nat.zero_le _) (fun r w1 H locs hQ hP hD hS => ?_)
  obtain ⟨rfl, rfl⟩ := hQ
  have hP : va_P C.1 vwCl (wB C a b) H := hP
  have hD : va_D (q_A (wB C a b) s) (wB C a b) := hD
  refine W.eq (g2 := F0 m 18 ls [.int (nI (bu b 0)), .int (nI 0)]) rfl ?_
  refine lv_iadd hx hb dX0_allPulls_18 ?_
  refine q_ti (y := nI (0 + (bu b 0))) (nI_add _ _) ?_
  refine lv_istore_n (lv' := [(1, .int (nI (0 + (bu b 0)))), (2, .int (nI 0)), (0, .ref (a 0))]) hx hb dX0_allPulls_19 rfl hl (by decide) rfl (fun ls hl => ?_)
  refine lv_iinc (v := nI 1) (lv' := [(2, .int (nI 1)), (1, .int (nI (0 + (bu b 0)))), (0, .ref (a 0))]) hx hb dX0_allPulls_20 hl (k := 1) rfl (by decide) (by decide) rfl (fun ls hl => ?_)
  refine lv_goto (tgt := 4) hx hb dX0_allPulls_23 (by decide) ?_
  refine lv_iload_n hx hb dX0_allPulls_4 rfl (lv_at hl 0 rfl) ?_
  refine lv_iconst (v := nI 4) hx hb dX0_allPulls_5 (by decide) ?_
  refine lv_icmp_ge (tgt := 26) hx hb dX0_allPulls_6 (by decide) (fun c => absurd c (by decide)) (fun _ => ?_)
  refine lv_iload_n hx hb dX0_allPulls_9 rfl (lv_at hl 1 rfl) ?_
  refine lv_aload_n hx hb dX0_allPulls_10 rfl (lv_at hl 2 rfl) ?_
  refine va_get (ci := 0) (v := .ref (a 6)) (C := RX0) (T := TX0) (N := 12) hx hb hts hin0 hown hK.1 hP 0 rfl rfl 5 (by decide) hf27 (fun _ h9 => h9) rfl dX0_allPulls_11 ?_
  refine lv_iload_n hx hb dX0_allPulls_14 rfl (lv_at hl 0 rfl) ?_
  refine q_N (As := [.ref (a 6), .int (nI 1)]) (rest := [.int (nI (0 + (bu b 0)))]) ⟨hx, hb, hml, hown, hts⟩ (c_X4_at l C (a 6) 4 1 (fun k => nI (bu b k)) (by decide) (by decide)) ⟨va_cnB 2 hts gX0_allPulls_X4_at_n62 rfl rfl rfl (q_nw hK 1 rfl) (hts (.initialized RX4) (by decide +kernel)) (by decide +kernel) ⟨Nat.le_of_ble_eq_true rfl, Nat.le_of_ble_eq_true rfl⟩, hts (.static yX4_at) (by decide +kernel), trivial⟩ hK hP hD hS hA [6] (by decide) rfl rfl hl.1 rfl (Nat.le_of_ble_eq_true rfl) dX0_allPulls_15 (Nat.zero_le _) (Nat.zero_le _) (fun r w1 H locs hQ hP hD hS => ?_)
  obtain ⟨rfl, rfl⟩ := hQ
  have hP : va_P C.1 vwCl (wB C a b) H := hP
  have hD : va_D (q_A (wB C a b) s) (wB C a b) := hD
  refine W.eq (g2 := F0 m 18 ls [.int (nI (bu b 1)), .int (nI (0 + (bu b 0)))]) rfl ?_
  refine lv_iadd hx hb dX0_allPulls_18 ?_
  refine q_ti (y := nI ((0 + (bu b 0)) + (bu b 1))) (nI_add _ _) ?_
  refine lv_istore_n (lv' := [(1, .int (nI ((0 + (bu b 0)) + (bu b 1)))), (2, .int (nI 1)), (0, .ref (a 0))]) hx hb dX0_allPulls_19 rfl hl (by decide) rfl (fun ls hl => ?_)
  refine lv_iinc (v := nI 2) (lv' := [(2, .int (nI 2)), (1, .int (nI ((0 + (bu b 0)) + (bu b 1)))), (0, .ref (a 0))]) hx hb dX0_allPulls_20 hl (k := 1) rfl (by decide) (by decide) rfl (fun ls hl => ?_)
  refine lv_goto (tgt := 4) hx hb dX0_allPulls_23 (by decide) ?_
  refine lv_iload_n hx hb dX0_allPulls_4 rfl (lv_at hl 0 rfl) ?_
  refine lv_iconst (v := nI 4) hx hb dX0_allPulls_5 (by decide) ?_
  refine lv_icmp_ge (tgt := 26) hx hb dX0_allPulls_6 (by decide) (fun c => absurd c (by decide)) (fun _ => ?_)
  refine lv_iload_n hx hb dX0_allPulls_9 rfl (lv_at hl 1 rfl) ?_
  refine lv_aload_n hx hb dX0_allPulls_10 rfl (lv_at hl 2 rfl) ?_
  refine va_get (ci := 0) (v := .ref (a 6)) (C := RX0) (T := TX0) (N := 12) hx hb hts hin0 hown hK.1 hP 0 rfl rfl 5 (by decide) hf27 (fun _ h9 => h9) rfl dX0_allPulls_11 ?_
  refine lv_iload_n hx hb dX0_allPulls_14 rfl (lv_at hl 0 rfl) ?_
  refine q_N (As := [.ref (a 6), .int (nI 2)]) (rest := [.int (nI ((0 + (bu b 0)) + (bu b 1)))]) ⟨hx, hb, hml, hown, hts⟩ (c_X4_at l C (a 6) 4 2 (fun k => nI (bu b k)) (by decide) (by decide)) ⟨va_cnB 2 hts gX0_allPulls_X4_at_n62 rfl rfl rfl (q_nw hK 1 rfl) (hts (.initialized RX4) (by decide +kernel)) (by decide +kernel) ⟨Nat.le_of_ble_eq_true rfl, Nat.le_of_ble_eq_true rfl⟩, hts (.static yX4_at) (by decide +kernel), trivial⟩ hK hP hD hS hA [6] (by decide) rfl rfl hl.1 rfl (Nat.le_of_ble_eq_true rfl) dX0_allPulls_15 (Nat.zero_le _) (Nat.zero_le _) (fun r w1 H locs hQ hP hD hS => ?_)
  obtain ⟨rfl, rfl⟩ := hQ
  have hP : va_P C.1 vwCl (wB C a b) H := hP
  have hD : va_D (q_A (wB C a b) s) (wB C a b) := hD
  refine W.eq (g2 := F0 m 18 ls [.int (nI (bu b 2)), .int (nI ((0 + (bu b 0)) + (bu b 1)))]) rfl ?_
  refine lv_iadd hx hb dX0_allPulls_18 ?_
  refine q_ti (y := nI (((0 + (bu b 0)) + (bu b 1)) + (bu b 2))) (nI_add _ _) ?_
  refine lv_istore_n (lv' := [(1, .int (nI (((0 + (bu b 0)) + (bu b 1)) + (bu b 2)))), (2, .int (nI 2)), (0, .ref (a 0))]) hx hb dX0_allPulls_19 rfl hl (by decide) rfl (fun ls hl => ?_)
  refine lv_iinc (v := nI 3) (lv' := [(2, .int (nI 3)), (1, .int (nI (((0 + (bu b 0)) + (bu b 1)) + (bu b 2)))), (0, .ref (a 0))]) hx hb dX0_allPulls_20 hl (k := 1) rfl (by decide) (by decide) rfl (fun ls hl => ?_)
  refine lv_goto (tgt := 4) hx hb dX0_allPulls_23 (by decide) ?_
  refine lv_iload_n hx hb dX0_allPulls_4 rfl (lv_at hl 0 rfl) ?_
  refine lv_iconst (v := nI 4) hx hb dX0_allPulls_5 (by decide) ?_
  refine lv_icmp_ge (tgt := 26) hx hb dX0_allPulls_6 (by decide) (fun c => absurd c (by decide)) (fun _ => ?_)
  refine lv_iload_n hx hb dX0_allPulls_9 rfl (lv_at hl 1 rfl) ?_
  refine lv_aload_n hx hb dX0_allPulls_10 rfl (lv_at hl 2 rfl) ?_
  refine va_get (ci := 0) (v := .ref (a 6)) (C := RX0) (T := TX0) (N := 12) hx hb hts hin0 hown hK.1 hP 0 rfl rfl 5 (by decide) hf27 (fun _ h9 => h9) rfl dX0_allPulls_11 ?_
  refine lv_iload_n hx hb dX0_allPulls_14 rfl (lv_at hl 0 rfl) ?_
  refine q_N (As := [.ref (a 6), .int (nI 3)]) (rest := [.int (nI (((0 + (bu b 0)) + (bu b 1)) + (bu b 2)))]) ⟨hx, hb, hml, hown, hts⟩ (c_X4_at l C (a 6) 4 3 (fun k => nI (bu b k)) (by decide) (by decide)) ⟨va_cnB 2 hts gX0_allPulls_X4_at_n62 rfl rfl rfl (q_nw hK 1 rfl) (hts (.initialized RX4) (by decide +kernel)) (by decide +kernel) ⟨Nat.le_of_ble_eq_true rfl, Nat.le_of_ble_eq_true rfl⟩, hts (.static yX4_at) (by decide +kernel), trivial⟩ hK hP hD hS hA [6] (by decide) rfl rfl hl.1 rfl (Nat.le_of_ble_eq_true rfl) dX0_allPulls_15 (Nat.zero_le _) (Nat.zero_le _) (fun r w1 H locs hQ hP hD hS => ?_)
  obtain ⟨rfl, rfl⟩ := hQ
  have hP : va_P C.1 vwCl (wB C a b) H := hP
  have hD : va_D (q_A (wB C a b) s) (wB C a b) := hD
  refine W.eq (g2 := F0 m 18 ls [.int (nI (bu b 3)), .int (nI (((0 + (bu b 0)) + (bu b 1)) + (bu b 2)))]) rfl ?_
  refine lv_iadd hx hb dX0_allPulls_18 ?_
  refine q_ti (y := nI ((((0 + (bu b 0)) + (bu b 1)) + (bu b 2)) + (bu b 3))) (nI_add _ _) ?_
  refine lv_istore_n (lv' := [(1, .int (nI ((((0 + (bu b 0)) + (bu b 1)) + (bu b 2)) + (bu b 3)))), (2, .int (nI 3)), (0, .ref (a 0))]) hx hb dX0_allPulls_19 rfl hl (by decide) rfl (fun ls hl => ?_)
  refine lv_iinc (v := nI 4) (lv' := [(2, .int (nI 4)), (1, .int (nI ((((0 + (bu b 0)) + (bu b 1)) + (bu b 2)) + (bu b 3)))), (0, .ref (a 0))]) hx hb dX0_allPulls_20 hl (k := 1) rfl (by decide) (by decide) rfl (fun ls hl => ?_)
  refine lv_goto (tgt := 4) hx hb dX0_allPulls_23 (by decide) ?_
  refine lv_iload_n hx hb dX0_allPulls_4 rfl (lv_at hl 0 rfl) ?_
  refine lv_iconst (v := nI 4) hx hb dX0_allPulls_5 (by decide) ?_
  refine lv_icmp_ge (tgt := 26) hx hb dX0_allPulls_6 (by decide) (fun _ => ?_) (fun c => absurd (by decide) c)
  refine lv_iload_n hx hb dX0_allPulls_26 rfl (lv_at hl 1 rfl) ?_
  exact q_iret hx hb hr hlocks (w1 := wB C a b) hP hS rfl dX0_allPulls_27 (⟨congrArg (fun z => some (Value.int (nI z))) (by unfold sumU; omega), rfl⟩)
