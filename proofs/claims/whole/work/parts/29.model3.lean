/-! the model: pulls -/
set_option maxHeartbeats 4000000 in
set_option maxRecDepth 100000 in
theorem c_X5_isOther (l : Launch) (C : q_C) (sa : Nat) (b : Bd) (arm : Nat) (hB : OkB b) (ha : arm < 4) : q_M C l yX5_isOther wsX5_isOther 0 0 [.ref sa, .int (nI arm)] ([(sa, .inl (C.2.2.1, 82, .inr (.inl (mB b))))]) (fun r w1 => r = some (.int (q_b (othB b arm))) ∧ w1 = [(sa, .inl (C.2.2.1, 82, .inr (.inl (mB b))))]) := by
  obtain ⟨ok1, ok2, ⟨ok3, ok4, ok5, ok6, ok7⟩, ok8, ok9⟩ := id hB
  refine q_head (cc := cX5_isOther) (maxL := 2) (ret := (some .boolean)) (by decide +kernel) rfl (Nat.le_of_ble_eq_true rfl) ?_
  intro p e s m below meth c hx hb hr hlocks hml hown hts hK hP hD hS hA ls hl
  have hl : lv_has ls 2 [(0, .ref sa), (1, .int (nI arm))] := hl
  have hk36 := hts (.constantLong RX5 36 (-1)) (by decide +kernel)
  refine lv_aload_n hx hb dX5_isOther_0 rfl (lv_at hl 0 rfl) ?_
  refine lv_bipush (v := nI 6) hx hb dX5_isOther_1 (by decide) ?_
  refine q_lald (n := 6) (v := mB b 6) hx hb hK hP 0 rfl (by decide) (by decide) rfl dX5_isOther_3 ?_
  refine q_tl (y := lN (bl b) - 1) (mB_6 b) ?_
  refine lv_ldc2 hx hb hown hk36 dX5_isOther_4 ?_
  refine W.lcmp hx hb dX5_isOther_7 ?_
  refine lv_if_eq (tgt := 25) hx hb dX5_isOther_8 (by decide) (fun c8 => ?_) (fun c8 => ?_)
  · have c8 : (lN (bl b) - 1) = (-1) := q_leq c8
    refine lv_iconst (v := nI 0) hx hb dX5_isOther_25 (by decide) ?_
    exact q_zret hx hb hr hlocks rfl (w1 := [(sa, .inl (C.2.2.1, 82, .inr (.inl (mB b))))]) hP hS rfl dX5_isOther_26 (⟨congrArg (fun z => some (Value.int z)) (q_bf (decide_eq_false (fun q => q.1 ((lN_las (by omega)).mp c8)))), rfl⟩)
  · have c8 : (lN (bl b) - 1) ≠ (-1) := q_leq' c8
    refine lv_aload_n hx hb dX5_isOther_11 rfl (lv_at hl 0 rfl) ?_
    refine lv_bipush (v := nI 6) hx hb dX5_isOther_12 (by decide) ?_
    refine q_lald (n := 6) (v := mB b 6) hx hb hK hP 0 rfl (by decide) (by decide) rfl dX5_isOther_14 ?_
    refine q_tl (y := lN (bl b) - 1) (mB_6 b) ?_
    refine lv_iload_n hx hb dX5_isOther_15 rfl (lv_at hl 1 rfl) ?_
    refine lv_i2l (v := lN arm) hx hb dX5_isOther_16 (nI_l (by omega)) ?_
    refine W.lcmp hx hb dX5_isOther_17 ?_
    refine lv_if_eq (tgt := 25) hx hb dX5_isOther_18 (by decide) (fun c18 => ?_) (fun c18 => ?_)
    · have c18 : (lN (bl b) - 1) = (lN arm) := q_leq c18
      refine lv_iconst (v := nI 0) hx hb dX5_isOther_25 (by decide) ?_
      exact q_zret hx hb hr hlocks rfl (w1 := [(sa, .inl (C.2.2.1, 82, .inr (.inl (mB b))))]) hP hS rfl dX5_isOther_26 (⟨congrArg (fun z => some (Value.int z)) (q_bf (decide_eq_false (fun q => q.2 ((lN_las2 (by omega) (by omega)).mp c18)))), rfl⟩)
    · have c18 : (lN (bl b) - 1) ≠ (lN arm) := q_leq' c18
      refine lv_iconst (v := nI 1) hx hb dX5_isOther_21 (by decide) ?_
      refine lv_goto (tgt := 26) hx hb dX5_isOther_22 (by decide) ?_
      exact q_zret hx hb hr hlocks rfl (w1 := [(sa, .inl (C.2.2.1, 82, .inr (.inl (mB b))))]) hP hS rfl dX5_isOther_26 (⟨congrArg (fun z => some (Value.int z)) (q_bt (decide_eq_true ⟨fun q => c8 ((lN_las (by omega)).mpr q), fun q => c18 ((lN_las2 (by omega) (by omega)).mpr q)⟩)), rfl⟩)
set_option maxHeartbeats 4000000 in
set_option maxRecDepth 100000 in
theorem c_X5_draws (l : Launch) (C : q_C) (sa : Nat) (b : Bd) : q_M C l yX5_draws wsX5_draws 0 0 [.ref sa] ([(sa, .inl (C.2.2.1, 82, .inr (.inl (mB b))))]) (fun r w1 => r = some (.int (nI (drawn (bz b)))) ∧ w1 = [(sa, .inl (C.2.2.1, 82, .inr (.inl (mB (sz b (nextX (bz b)))))))]) := by
  refine q_head (cc := cX5_draws) (maxL := 1) (ret := (some .int)) (by decide +kernel) rfl (Nat.le_of_ble_eq_true rfl) ?_
  intro p e s m below meth c hx hb hr hlocks hml hown hts hK hP hD hS hA ls hl
  have hl : lv_has ls 1 [(0, .ref sa)] := hl
  have hk89 := hts (.constantLong RX5 89 (6364136223846793005)) (by decide +kernel)
  have hk91 := hts (.constantLong RX5 91 (1442695040888963407)) (by decide +kernel)
  refine lv_aload_n hx hb dX5_draws_0 rfl (lv_at hl 0 rfl) ?_
  refine lv_bipush (v := nI 9) hx hb dX5_draws_1 (by decide) ?_
  refine lv_aload_n hx hb dX5_draws_3 rfl (lv_at hl 0 rfl) ?_
  refine lv_bipush (v := nI 9) hx hb dX5_draws_4 (by decide) ?_
  refine q_lald (n := 9) (v := mB b 9) hx hb hK hP 0 rfl (by decide) (by decide) rfl dX5_draws_6 ?_
  refine q_tl (y := bz b) (mB_9 b) ?_
  refine lv_ldc2 hx hb hown hk89 dX5_draws_7 ?_
  refine lv_lmul hx hb dX5_draws_10 ?_
  refine lv_ldc2 hx hb hown hk91 dX5_draws_11 ?_
  refine lv_ladd hx hb dX5_draws_14 ?_
  refine q_tl (y := nextX (bz b)) (nextX_eq _).symm ?_
  refine q_last (n := 9) hx hb hK hP hD hS 0 rfl (by decide) (by decide) dX5_draws_15 (fun H locs hP hD hS => ?_)
  have hP : va_P C.1 vwCl ([(sa, .inl (C.2.2.1, 82, .inr (.inl (vp_updL (mB b) 9 (nextX (bz b))))))]) H := hP
  have hD : va_D (q_A ([(sa, .inl (C.2.2.1, 82, .inr (.inl (mB b))))]) s) ([(sa, .inl (C.2.2.1, 82, .inr (.inl (vp_updL (mB b) 9 (nextX (bz b))))))]) := hD
  rw [mB_w9] at hP hD
  have hP : va_P C.1 vwCl ([(sa, .inl (C.2.2.1, 82, .inr (.inl (mB (sz b (nextX (bz b)))))))]) H := hP
  have hD : va_D (q_A ([(sa, .inl (C.2.2.1, 82, .inr (.inl (mB b))))]) s) ([(sa, .inl (C.2.2.1, 82, .inr (.inl (mB (sz b (nextX (bz b)))))))]) := hD
  refine lv_aload_n hx hb dX5_draws_16 rfl (lv_at hl 0 rfl) ?_
  refine lv_bipush (v := nI 9) hx hb dX5_draws_17 (by decide) ?_
  refine q_lald (n := 9) (v := mB (sz b (nextX (bz b))) 9) hx hb hK hP 0 rfl (by decide) (by decide) rfl dX5_draws_19 ?_
  refine q_tl (y := nextX (bz b)) (mB_9 _) ?_
  refine lv_bipush (v := nI 61) hx hb dX5_draws_20 (by decide) ?_
  refine lv_lushr (v := ((nextX (bz b)).toUInt64 >>> ((nI 61).toInt64.toUInt64 &&& Int64.toUInt64 63)).toInt64) hx hb dX5_draws_22 rfl ?_
  refine lv_l2i (v := (((nextX (bz b)).toUInt64 >>> ((nI 61).toInt64.toUInt64 &&& Int64.toUInt64 63)).toInt64).toInt32) hx hb dX5_draws_23 rfl ?_
  refine q_ti (y := nI (drawn (bz b))) (q_drawn _) ?_
  exact q_iret hx hb hr hlocks (w1 := [(sa, .inl (C.2.2.1, 82, .inr (.inl (mB (sz b (nextX (bz b)))))))]) hP hS rfl dX5_draws_24 (⟨rfl, rfl⟩)
set_option maxHeartbeats 4000000 in
set_option maxRecDepth 100000 in
theorem c_X5_goesOn (l : Launch) (C : q_C) (sa : Nat) (b : Bd) (arm : Nat) (hB : OkB b) (ha : arm < 4) : q_M C l yX5_goesOn wsX5_goesOn 1 23 [.ref sa, .int (nI arm)] ([(sa, .inl (C.2.2.1, 82, .inr (.inl (mB b))))]) (fun r w1 => r = none ∧ w1 = [(sa, .inl (C.2.2.1, 82, .inr (.inl (mB (goB b arm)))))]) := by
  obtain ⟨ok1, ok2, ⟨ok3, ok4, ok5, ok6, ok7⟩, ok8, ok9⟩ := id hB
  have hp4 := ok2 arm ha
  have h16 := ok1 (4 * arm + bp b arm) (by omega)
  have hdr := drawn_lt (bz b)
  refine q_head (cc := cX5_goesOn) (maxL := 4) (ret := none) (by decide +kernel) rfl (Nat.le_of_ble_eq_true rfl) ?_
  intro p e s m below meth c hx hb hr hlocks hml hown hts hK hP hD hS hA ls hl
  have hl : lv_has ls 4 [(0, .ref sa), (1, .int (nI arm))] := hl
  refine lv_aload_n hx hb dX5_goesOn_0 rfl (lv_at hl 0 rfl) ?_
  refine lv_iload_n hx hb dX5_goesOn_1 rfl (lv_at hl 1 rfl) ?_
  refine q_S (As := [.ref sa, .int (nI arm)]) (rest := []) ⟨hx, hb, hml, hown, hts⟩ (c_X5_stands l C sa b arm (by omega)) (va_cwS 2 hts gX5_goesOn_X5_stands rfl rfl rfl (by decide +kernel) ⟨Nat.le_of_ble_eq_true rfl, Nat.le_of_ble_eq_true rfl⟩) hK hP hD hS hA [0] (by decide) rfl rfl hl.1 rfl (Nat.le_of_ble_eq_true rfl) dX5_goesOn_2 (Nat.zero_le _) (Nat.zero_le _) (fun r w1 H locs hQ hP hD hS => ?_)
  obtain ⟨rfl, rfl⟩ := hQ
  have hP : va_P C.1 vwCl ([(sa, .inl (C.2.2.1, 82, .inr (.inl (mB b))))]) H := hP
  have hD : va_D (q_A ([(sa, .inl (C.2.2.1, 82, .inr (.inl (mB b))))]) s) ([(sa, .inl (C.2.2.1, 82, .inr (.inl (mB b))))]) := hD
  refine W.eq (g2 := F0 m 5 ls [.int (nI (bp b arm))]) rfl ?_
  refine lv_istore_n (lv' := [(2, .int (nI (bp b arm))), (0, .ref sa), (1, .int (nI arm))]) hx hb dX5_goesOn_5 rfl hl (by decide) rfl (fun ls hl => ?_)
  refine lv_aload_n hx hb dX5_goesOn_6 rfl (lv_at hl 1 rfl) ?_
  refine q_S (As := [.ref sa]) (rest := []) ⟨hx, hb, hml, hown, hts⟩ (c_X5_draws l C sa b ) (va_cwS 1 hts gX5_goesOn_X5_draws rfl rfl rfl (by decide +kernel) ⟨Nat.le_of_ble_eq_true rfl, Nat.le_of_ble_eq_true rfl⟩) hK hP hD hS hA [0] (by decide) rfl rfl hl.1 rfl (Nat.le_of_ble_eq_true rfl) dX5_goesOn_7 (Nat.zero_le _) (Nat.zero_le _) (fun r w1 H locs hQ hP hD hS => ?_)
  obtain ⟨rfl, rfl⟩ := hQ
  have hP : va_P C.1 vwCl ([(sa, .inl (C.2.2.1, 82, .inr (.inl (mB (sz b (nextX (bz b)))))))]) H := hP
  have hD : va_D (q_A ([(sa, .inl (C.2.2.1, 82, .inr (.inl (mB b))))]) s) ([(sa, .inl (C.2.2.1, 82, .inr (.inl (mB (sz b (nextX (bz b)))))))]) := hD
  refine W.eq (g2 := F0 m 10 ls [.int (nI (drawn (bz b)))]) rfl ?_
  refine lv_aload_n hx hb dX5_goesOn_10 rfl (lv_at hl 1 rfl) ?_
  refine lv_iload_n hx hb dX5_goesOn_11 rfl (lv_at hl 2 rfl) ?_
  refine lv_iload_n hx hb dX5_goesOn_12 rfl (lv_at hl 0 rfl) ?_
  refine lv_iconst (v := nI 3) hx hb dX5_goesOn_13 (by decide) ?_
  refine q_S (As := [.ref sa, .int (nI arm), .int (nI (bp b arm)), .int (nI 3)]) (rest := [.int (nI (drawn (bz b)))]) ⟨hx, hb, hml, hown, hts⟩ (c_X5_of l C sa (sz b (nextX (bz b))) arm (bp b arm) 3 (by omega) (by omega) (by omega)) (va_cwS 4 hts gX5_goesOn_X5_of rfl rfl rfl (by decide +kernel) ⟨Nat.le_of_ble_eq_true rfl, Nat.le_of_ble_eq_true rfl⟩) hK hP hD hS hA [0] (by decide) rfl rfl hl.1 rfl (Nat.le_of_ble_eq_true rfl) dX5_goesOn_14 (Nat.zero_le _) (Nat.zero_le _) (fun r w1 H locs hQ hP hD hS => ?_)
  obtain ⟨rfl, rfl⟩ := hQ
  have hP : va_P C.1 vwCl ([(sa, .inl (C.2.2.1, 82, .inr (.inl (mB (sz b (nextX (bz b)))))))]) H := hP
  have hD : va_D (q_A ([(sa, .inl (C.2.2.1, 82, .inr (.inl (mB b))))]) s) ([(sa, .inl (C.2.2.1, 82, .inr (.inl (mB (sz b (nextX (bz b)))))))]) := hD
  refine W.eq (g2 := F0 m 17 ls [.int (nI (bc b (4 * arm + (bp b arm)))), .int (nI (drawn (bz b)))]) rfl ?_
  refine lv_icmp_ge (tgt := 24) hx hb dX5_goesOn_17 (by decide) (fun c17 => ?_) (fun c17 => ?_)
  · have c17 : (bc b (4 * arm + (bp b arm))) ≤ (drawn (bz b)) := q_nge (by omega) (by omega) c17
    refine lv_iconst (v := nI 0) hx hb dX5_goesOn_24 (by decide) ?_
    refine lv_istore_n (lv' := [(3, .int (nI 0)), (2, .int (nI (bp b arm))), (0, .ref sa), (1, .int (nI arm))]) hx hb dX5_goesOn_25 rfl hl (by decide) rfl (fun ls hl => ?_)
    refine lv_aload_n hx hb dX5_goesOn_26 rfl (lv_at hl 2 rfl) ?_
    refine lv_bipush (v := nI 10) hx hb dX5_goesOn_27 (by decide) ?_
    refine lv_iconst (v := nI 2) hx hb dX5_goesOn_29 (by decide) ?_
    refine lv_iload_n hx hb dX5_goesOn_30 rfl (lv_at hl 3 rfl) ?_
    refine lv_imul hx hb dX5_goesOn_31 ?_
    refine q_ti (y := nI (2 * arm)) (pk_mul _ _) ?_
    refine lv_iadd hx hb dX5_goesOn_32 ?_
    refine q_ti (y := nI (10 + (2 * arm))) (nI_add _ _) ?_
    refine lv_aload_n hx hb dX5_goesOn_33 rfl (lv_at hl 2 rfl) ?_
    refine lv_iload_n hx hb dX5_goesOn_34 rfl (lv_at hl 3 rfl) ?_
    refine lv_iload_n hx hb dX5_goesOn_35 rfl (lv_at hl 1 rfl) ?_
    refine lv_iload_n hx hb dX5_goesOn_36 rfl (lv_at hl 0 rfl) ?_
    refine lv_if_eq (tgt := 44) hx hb dX5_goesOn_37 (by decide) (fun _ => ?_) (fun c => absurd (by decide) c)
    refine lv_iconst (v := nI 2) hx hb dX5_goesOn_44 (by decide) ?_
    refine q_S (As := [.ref sa, .int (nI arm), .int (nI (bp b arm)), .int (nI 2)]) (rest := [.int (nI (10 + (2 * arm))), .ref sa]) ⟨hx, hb, hml, hown, hts⟩ (c_X5_of l C sa (sz b (nextX (bz b))) arm (bp b arm) 2 (by omega) (by omega) (by omega)) (va_cwS 4 hts gX5_goesOn_X5_of rfl rfl rfl (by decide +kernel) ⟨Nat.le_of_ble_eq_true rfl, Nat.le_of_ble_eq_true rfl⟩) hK hP hD hS hA [0] (by decide) rfl rfl hl.1 rfl (Nat.le_of_ble_eq_true rfl) dX5_goesOn_45 (Nat.zero_le _) (Nat.zero_le _) (fun r w1 H locs hQ hP hD hS => ?_)
    obtain ⟨rfl, rfl⟩ := hQ
    have hP : va_P C.1 vwCl ([(sa, .inl (C.2.2.1, 82, .inr (.inl (mB (sz b (nextX (bz b)))))))]) H := hP
    have hD : va_D (q_A ([(sa, .inl (C.2.2.1, 82, .inr (.inl (mB b))))]) s) ([(sa, .inl (C.2.2.1, 82, .inr (.inl (mB (sz b (nextX (bz b)))))))]) := hD
    refine W.eq (g2 := F0 m 48 ls [.int (nI (bb b (4 * arm + (bp b arm)))), .int (nI (10 + (2 * arm))), .ref sa]) rfl ?_
    refine lv_i2l (v := lN (bb b (4 * arm + (bp b arm)))) hx hb dX5_goesOn_48 (nI_l (by omega)) ?_
    refine q_last (n := (10 + (2 * arm))) hx hb hK hP hD hS 0 rfl (by omega) (by decide) dX5_goesOn_49 (fun H locs hP hD hS => ?_)
    have hP : va_P C.1 vwCl ([(sa, .inl (C.2.2.1, 82, .inr (.inl (vp_updL (mB (sz b (nextX (bz b)))) (10 + (2 * arm)) (lN (bb b (4 * arm + (bp b arm))))))))]) H := hP
    have hD : va_D (q_A ([(sa, .inl (C.2.2.1, 82, .inr (.inl (mB b))))]) s) ([(sa, .inl (C.2.2.1, 82, .inr (.inl (vp_updL (mB (sz b (nextX (bz b)))) (10 + (2 * arm)) (lN (bb b (4 * arm + (bp b arm))))))))]) := hD
    rw [mB_wp _ ha] at hP hD
    have hP : va_P C.1 vwCl ([(sa, .inl (C.2.2.1, 82, .inr (.inl (mB (sp (sz b (nextX (bz b))) (upN (bp b) arm (bb b (4 * arm + bp b arm))))))))]) H := hP
    have hD : va_D (q_A ([(sa, .inl (C.2.2.1, 82, .inr (.inl (mB b))))]) s) ([(sa, .inl (C.2.2.1, 82, .inr (.inl (mB (sp (sz b (nextX (bz b))) (upN (bp b) arm (bb b (4 * arm + bp b arm))))))))]) := hD
    exact q_vret hx hb hr hlocks (w1 := [(sa, .inl (C.2.2.1, 82, .inr (.inl (mB (sp (sz b (nextX (bz b))) (upN (bp b) arm (bb b (4 * arm + bp b arm))))))))]) hP hS rfl dX5_goesOn_50 (⟨rfl, congrArg (fun z => [(sa, (Sum.inl (C.2.2.1, 82, .inr (.inl (mB z))) : va_E))]) (by rw [goB, if_neg (Nat.not_lt.mpr c17)])⟩)
  · have c17 : (drawn (bz b)) < (bc b (4 * arm + (bp b arm))) := q_nge' (by omega) (by omega) c17
    refine lv_iconst (v := nI 1) hx hb dX5_goesOn_20 (by decide) ?_
    refine lv_goto (tgt := 25) hx hb dX5_goesOn_21 (by decide) ?_
    refine lv_istore_n (lv' := [(3, .int (nI 1)), (2, .int (nI (bp b arm))), (0, .ref sa), (1, .int (nI arm))]) hx hb dX5_goesOn_25 rfl hl (by decide) rfl (fun ls hl => ?_)
    refine lv_aload_n hx hb dX5_goesOn_26 rfl (lv_at hl 2 rfl) ?_
    refine lv_bipush (v := nI 10) hx hb dX5_goesOn_27 (by decide) ?_
    refine lv_iconst (v := nI 2) hx hb dX5_goesOn_29 (by decide) ?_
    refine lv_iload_n hx hb dX5_goesOn_30 rfl (lv_at hl 3 rfl) ?_
    refine lv_imul hx hb dX5_goesOn_31 ?_
    refine q_ti (y := nI (2 * arm)) (pk_mul _ _) ?_
    refine lv_iadd hx hb dX5_goesOn_32 ?_
    refine q_ti (y := nI (10 + (2 * arm))) (nI_add _ _) ?_
    refine lv_aload_n hx hb dX5_goesOn_33 rfl (lv_at hl 2 rfl) ?_
    refine lv_iload_n hx hb dX5_goesOn_34 rfl (lv_at hl 3 rfl) ?_
    refine lv_iload_n hx hb dX5_goesOn_35 rfl (lv_at hl 1 rfl) ?_
    refine lv_iload_n hx hb dX5_goesOn_36 rfl (lv_at hl 0 rfl) ?_
    refine lv_if_eq (tgt := 44) hx hb dX5_goesOn_37 (by decide) (fun c => absurd c (by decide)) (fun _ => ?_)
    refine lv_iconst (v := nI 1) hx hb dX5_goesOn_40 (by decide) ?_
    refine lv_goto (tgt := 45) hx hb dX5_goesOn_41 (by decide) ?_
    refine q_S (As := [.ref sa, .int (nI arm), .int (nI (bp b arm)), .int (nI 1)]) (rest := [.int (nI (10 + (2 * arm))), .ref sa]) ⟨hx, hb, hml, hown, hts⟩ (c_X5_of l C sa (sz b (nextX (bz b))) arm (bp b arm) 1 (by omega) (by omega) (by omega)) (va_cwS 4 hts gX5_goesOn_X5_of rfl rfl rfl (by decide +kernel) ⟨Nat.le_of_ble_eq_true rfl, Nat.le_of_ble_eq_true rfl⟩) hK hP hD hS hA [0] (by decide) rfl rfl hl.1 rfl (Nat.le_of_ble_eq_true rfl) dX5_goesOn_45 (Nat.zero_le _) (Nat.zero_le _) (fun r w1 H locs hQ hP hD hS => ?_)
    obtain ⟨rfl, rfl⟩ := hQ
    have hP : va_P C.1 vwCl ([(sa, .inl (C.2.2.1, 82, .inr (.inl (mB (sz b (nextX (bz b)))))))]) H := hP
    have hD : va_D (q_A ([(sa, .inl (C.2.2.1, 82, .inr (.inl (mB b))))]) s) ([(sa, .inl (C.2.2.1, 82, .inr (.inl (mB (sz b (nextX (bz b)))))))]) := hD
    refine W.eq (g2 := F0 m 48 ls [.int (nI (bo b (4 * arm + (bp b arm)))), .int (nI (10 + (2 * arm))), .ref sa]) rfl ?_
    refine lv_i2l (v := lN (bo b (4 * arm + (bp b arm)))) hx hb dX5_goesOn_48 (nI_l (by omega)) ?_
    refine q_last (n := (10 + (2 * arm))) hx hb hK hP hD hS 0 rfl (by omega) (by decide) dX5_goesOn_49 (fun H locs hP hD hS => ?_)
    have hP : va_P C.1 vwCl ([(sa, .inl (C.2.2.1, 82, .inr (.inl (vp_updL (mB (sz b (nextX (bz b)))) (10 + (2 * arm)) (lN (bo b (4 * arm + (bp b arm))))))))]) H := hP
    have hD : va_D (q_A ([(sa, .inl (C.2.2.1, 82, .inr (.inl (mB b))))]) s) ([(sa, .inl (C.2.2.1, 82, .inr (.inl (vp_updL (mB (sz b (nextX (bz b)))) (10 + (2 * arm)) (lN (bo b (4 * arm + (bp b arm))))))))]) := hD
    rw [mB_wp _ ha] at hP hD
    have hP : va_P C.1 vwCl ([(sa, .inl (C.2.2.1, 82, .inr (.inl (mB (sp (sz b (nextX (bz b))) (upN (bp b) arm (bo b (4 * arm + bp b arm))))))))]) H := hP
    have hD : va_D (q_A ([(sa, .inl (C.2.2.1, 82, .inr (.inl (mB b))))]) s) ([(sa, .inl (C.2.2.1, 82, .inr (.inl (mB (sp (sz b (nextX (bz b))) (upN (bp b) arm (bo b (4 * arm + bp b arm))))))))]) := hD
    exact q_vret hx hb hr hlocks (w1 := [(sa, .inl (C.2.2.1, 82, .inr (.inl (mB (sp (sz b (nextX (bz b))) (upN (bp b) arm (bo b (4 * arm + bp b arm))))))))]) hP hS rfl dX5_goesOn_50 (⟨rfl, congrArg (fun z => [(sa, (Sum.inl (C.2.2.1, 82, .inr (.inl (mB z))) : va_E))]) (by rw [goB, if_pos (show drawn (bz b) < bc b (4 * arm + bp b arm) from c17)])⟩)
set_option maxHeartbeats 4000000 in
set_option maxRecDepth 100000 in
theorem c_X5_down (l : Launch) (C : q_C) (x y : Int64) (h0_2 : ¬ y = 0) : q_M C l yX5_down wsX5_down 0 0 [.long x, .long y] (([] : va_W)) (fun r w => r = some (.long (dwn x y)) ∧ w = []) := by
  refine q_head (cc := cX5_down) (maxL := 6) (ret := (some .long)) (by decide +kernel) rfl (Nat.le_of_ble_eq_true rfl) ?_
  intro p e s m below meth c hx hb hr hlocks hml hown hts hK hP hD hS hA ls hl
  have hl : lv_has ls 6 [(0, .long x), (2, .long y)] := hl
  refine lv_lload_n hx hb dX5_down_0 rfl (lv_at hl 0 rfl) ?_
  refine lv_lload_n hx hb dX5_down_1 rfl (lv_at hl 1 rfl) ?_
  refine lv_ldiv hx hb dX5_down_2 h0_2 ?_
  refine lv_lstore (lv' := [(4, .long (x / y)), (0, .long x), (2, .long y)]) hx hb dX5_down_3 hl (by decide) rfl (fun ls hl => ?_)
  refine lv_lload hx hb dX5_down_5 (lv_at hl 0 rfl) ?_
  refine lv_lload_n hx hb dX5_down_7 rfl (lv_at hl 2 rfl) ?_
  refine lv_lmul hx hb dX5_down_8 ?_
  refine lv_lload_n hx hb dX5_down_9 rfl (lv_at hl 1 rfl) ?_
  refine W.lcmp hx hb dX5_down_10 ?_
  refine lv_if_le (tgt := 21) hx hb dX5_down_11 (by decide) (fun c11 => ?_) (fun c11 => ?_)
  · have c11 : ((x / y) * y) ≤ x := q_lle c11
    refine lv_lload hx hb dX5_down_21 (lv_at hl 0 rfl) ?_
    exact q_lret hx hb hr hlocks (w1 := ([] : va_W)) hP hS rfl dX5_down_23 (⟨by rw [dwn, if_neg (Int64.not_lt.mpr c11)], rfl⟩)
  · have c11 : x < ((x / y) * y) := q_lle' c11
    refine lv_lload hx hb dX5_down_14 (lv_at hl 0 rfl) ?_
    refine lv_lconst (v := lN 1) hx hb dX5_down_16 (by decide) ?_
    refine lv_lsub hx hb dX5_down_17 ?_
    refine lv_goto (tgt := 23) hx hb dX5_down_18 (by decide) ?_
    exact q_lret hx hb hr hlocks (w1 := ([] : va_W)) hP hS rfl dX5_down_23 (⟨by rw [dwn, if_pos c11, show (lN 1 : Int64) = 1 from by decide], rfl⟩)
