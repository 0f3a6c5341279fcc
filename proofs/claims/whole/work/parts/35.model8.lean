/-! the model: what its private methods answer -/
set_option maxHeartbeats 4000000 in
set_option maxRecDepth 100000 in
theorem c_X5_ofState (l : Launch) (C : q_C) (mo : Nat → Nat) (kp ty tw pl fl tl : Int32) (v o : Nat → Nat) (b : Bd) (a t w : Nat) (hB : OkB b) (ha : a < 4) (ht : t < 4) (hw : w < 5) : q_M C l yX5_ofState wsX5_ofState 2 48 [.ref (mo 0), .int (nI a), .int (nI t), .int (nI w)] (wO C mo (evm kp ty tw pl fl tl) v o ++ ([(mo 1, .inl (C.2.2.1, 82, .inr (.inl (mB b))))] : va_W)) (fun r w1 => r = some (.int (nI (osN b a t w))) ∧ w1 = wO C mo (evm kp ty tw pl fl tl) v o ++ ([(mo 1, .inl (C.2.2.1, 82, .inr (.inl (mB b))))] : va_W)) := by
  refine q_head (cc := cX5_ofState) (maxL := 4) (ret := (some .int)) (by decide +kernel) rfl (Nat.le_of_ble_eq_true rfl) ?_
  intro p e s m below meth c hx hb hr hlocks hml hown hts hK hP hD hS hA ls hl
  have hl : lv_has ls 4 [(0, .ref (mo 0)), (1, .int (nI a)), (2, .int (nI t)), (3, .int (nI w))] := hl
  have hf7 := hts (.fieldLink RX5 7 "RestedArmsModel" "now" "[J") (by decide +kernel)
  have hin5 : ∀ w ∈ u_ws RX5 TX5 13, w ∈ wsX5_ofState := by decide +kernel
  refine lv_iload_n hx hb dX5_ofState_0 rfl (lv_at hl 3 rfl) ?_
  refine lv_iconst (v := nI 4) hx hb dX5_ofState_1 (by decide) ?_
  refine lv_icmp_ge (tgt := 18) hx hb dX5_ofState_2 (by decide) (fun c2 => ?_) (fun c2 => ?_)
  · have c2 : 4 ≤ w := q_nge (by omega) (by omega) c2
    refine lv_aload_n hx hb dX5_ofState_18 rfl (lv_at hl 0 rfl) ?_
    refine lv_iload_n hx hb dX5_ofState_19 rfl (lv_at hl 1 rfl) ?_
    refine lv_iload_n hx hb dX5_ofState_20 rfl (lv_at hl 2 rfl) ?_
    refine q_V (As := [.int (nI a), .int (nI t)]) (rest := []) ⟨hx, hb, hml, hown, hts⟩ (c_X5_reached l C mo kp ty tw pl fl tl v o b a t hB (by omega) (by omega)) (cwV 2 hts gX5_ofState_X5_reached rfl rfl rfl (by decide +kernel) ⟨Nat.le_of_ble_eq_true rfl, Nat.le_of_ble_eq_true rfl⟩) hK hP hD hS hA [0, 1, 2, 3] (by decide) rfl 0 rfl rfl rfl rfl hl.1 rfl (Nat.le_of_ble_eq_true rfl) dX5_ofState_21 (Nat.zero_le _) (Nat.zero_le _) (fun r w1 H locs hQ hP hD hS => ?_)
    obtain ⟨rfl, rfl⟩ := hQ
    have hP : va_P C.1 vwCl (wO C mo (evm kp ty tw pl fl tl) v o ++ ([(mo 1, .inl (C.2.2.1, 82, .inr (.inl (mB b))))] : va_W)) H := hP
    have hD : va_D (q_A (wO C mo (evm kp ty tw pl fl tl) v o ++ ([(mo 1, .inl (C.2.2.1, 82, .inr (.inl (mB b))))] : va_W)) s) (wO C mo (evm kp ty tw pl fl tl) v o ++ ([(mo 1, .inl (C.2.2.1, 82, .inr (.inl (mB b))))] : va_W)) := hD
    refine W.eq (g2 := F0 m 24 ls [.int (nI (rcN b a t 3))]) rfl ?_
    exact q_iret hx hb hr hlocks (w1 := wO C mo (evm kp ty tw pl fl tl) v o ++ ([(mo 1, .inl (C.2.2.1, 82, .inr (.inl (mB b))))] : va_W)) hP hS rfl dX5_ofState_24 (⟨by rw [osN, if_neg (by omega)], rfl⟩)
  · have c2 : w < 4 := q_nge' (by omega) (by omega) c2
    refine lv_aload_n hx hb dX5_ofState_5 rfl (lv_at hl 0 rfl) ?_
    refine va_get (ci := 5) (v := .ref (mo 1)) (C := RX5) (T := TX5) (N := 13) hx hb hts hin5 hown hK.1 hP 0 rfl rfl 0 (by decide) hf7 (fun _ h9 => h9) rfl dX5_ofState_6 ?_
    refine lv_iload_n hx hb dX5_ofState_9 rfl (lv_at hl 1 rfl) ?_
    refine lv_iload_n hx hb dX5_ofState_10 rfl (lv_at hl 2 rfl) ?_
    refine lv_iload_n hx hb dX5_ofState_11 rfl (lv_at hl 3 rfl) ?_
    refine q_S (As := [.ref (mo 1), .int (nI a), .int (nI t), .int (nI w)]) (rest := []) ⟨hx, hb, hml, hown, hts⟩ (c_X5_of l C (mo 1) b a t w (by omega) (by omega) (by omega)) (va_cwS 4 hts gX5_ofState_X5_of rfl rfl rfl (by decide +kernel) ⟨Nat.le_of_ble_eq_true rfl, Nat.le_of_ble_eq_true rfl⟩) hK hP hD hS hA [3] (by decide) rfl rfl hl.1 rfl (Nat.le_of_ble_eq_true rfl) dX5_ofState_12 (Nat.zero_le _) (Nat.zero_le _) (fun r w1 H locs hQ hP hD hS => ?_)
    obtain ⟨rfl, rfl⟩ := hQ
    have hP : va_P C.1 vwCl (wO C mo (evm kp ty tw pl fl tl) v o ++ ([(mo 1, .inl (C.2.2.1, 82, .inr (.inl (mB b))))] : va_W)) H := hP
    have hD : va_D (q_A (wO C mo (evm kp ty tw pl fl tl) v o ++ ([(mo 1, .inl (C.2.2.1, 82, .inr (.inl (mB b))))] : va_W)) s) (wO C mo (evm kp ty tw pl fl tl) v o ++ ([(mo 1, .inl (C.2.2.1, 82, .inr (.inl (mB b))))] : va_W)) := hD
    refine W.eq (g2 := F0 m 15 ls [.int (nI (ofN b (4 * a + t) w))]) rfl ?_
    refine lv_goto (tgt := 24) hx hb dX5_ofState_15 (by decide) ?_
    exact q_iret hx hb hr hlocks (w1 := wO C mo (evm kp ty tw pl fl tl) v o ++ ([(mo 1, .inl (C.2.2.1, 82, .inr (.inl (mB b))))] : va_W)) hP hS rfl dX5_ofState_24 (⟨by rw [osN, if_pos (by omega)], rfl⟩)
set_option maxHeartbeats 4000000 in
set_option maxRecDepth 100000 in
theorem c_X5_ofArm (l : Launch) (C : q_C) (mo : Nat → Nat) (kp ty tw pl fl tl : Int32) (v o : Nat → Nat) (b : Bd) (a w : Nat) (hB : OkB b) (ha : a < 4) (hw : w < 4) : q_M C l yX5_ofArm wsX5_ofArm 5 121 [.ref (mo 0), .int (nI a), .int (nI w)] (wO C mo (evm kp ty tw pl fl tl) v o ++ ([(mo 1, .inl (C.2.2.1, 82, .inr (.inl (mB b))))] : va_W)) (fun r w1 => ∃ v1 o1, r = some (.int (nI (oaN b a w))) ∧ w1 = wO C mo (evm kp ty tw pl fl tl) v1 o1 ++ ([(mo 1, .inl (C.2.2.1, 82, .inr (.inl (mB b))))] : va_W)) := by
  refine q_head (cc := cX5_ofArm) (maxL := 3) (ret := (some .int)) (by decide +kernel) rfl (Nat.le_of_ble_eq_true rfl) ?_
  intro p e s m below meth c hx hb hr hlocks hml hown hts hK hP hD hS hA ls hl
  have hl : lv_has ls 3 [(0, .ref (mo 0)), (1, .int (nI a)), (2, .int (nI w))] := hl
  have hf7 := hts (.fieldLink RX5 7 "RestedArmsModel" "now" "[J") (by decide +kernel)
  have hin5 : ∀ w ∈ u_ws RX5 TX5 13, w ∈ wsX5_ofArm := by decide +kernel
  refine lv_iload_n hx hb dX5_ofArm_0 rfl (lv_at hl 2 rfl) ?_
  refine lv_iconst (v := nI 2) hx hb dX5_ofArm_1 (by decide) ?_
  refine lv_icmp_ge (tgt := 22) hx hb dX5_ofArm_2 (by decide) (fun c2 => ?_) (fun c2 => ?_)
  · have c2 : 2 ≤ w := q_nge (by omega) (by omega) c2
    refine lv_iload_n hx hb dX5_ofArm_22 rfl (lv_at hl 2 rfl) ?_
    refine lv_iconst (v := nI 2) hx hb dX5_ofArm_23 (by decide) ?_
    refine lv_icmp_ne (tgt := 35) hx hb dX5_ofArm_24 (by decide) (fun c24 => ?_) (fun c24 => ?_)
    · have c24 : w ≠ 2 := q_nne (by omega) (by omega) c24
      refine lv_aload_n hx hb dX5_ofArm_35 rfl (lv_at hl 0 rfl) ?_
      refine lv_iload_n hx hb dX5_ofArm_36 rfl (lv_at hl 1 rfl) ?_
      refine q_V (As := [.int (nI a)]) (rest := []) ⟨hx, hb, hml, hown, hts⟩ (c_X5_rounds l C mo kp ty tw pl fl tl v o b a hB (by omega)) (cwV 1 hts gX5_ofArm_X5_rounds rfl rfl rfl (by decide +kernel) ⟨Nat.le_of_ble_eq_true rfl, Nat.le_of_ble_eq_true rfl⟩) hK hP hD hS hA [0, 1, 2, 3] (by decide) rfl 0 rfl rfl rfl rfl hl.1 rfl (Nat.le_of_ble_eq_true rfl) dX5_ofArm_37 (Nat.zero_le _) (Nat.zero_le _) (fun r w1 H locs hQ hP hD hS => ?_)
      obtain ⟨vx1, ox1, rfl, rfl⟩ := hQ
      have hP : va_P C.1 vwCl (wO C mo (evm kp ty tw pl fl tl) vx1 ox1 ++ ([(mo 1, .inl (C.2.2.1, 82, .inr (.inl (mB b))))] : va_W)) H := hP
      have hD : va_D (q_A (wO C mo (evm kp ty tw pl fl tl) v o ++ ([(mo 1, .inl (C.2.2.1, 82, .inr (.inl (mB b))))] : va_W)) s) (wO C mo (evm kp ty tw pl fl tl) vx1 ox1 ++ ([(mo 1, .inl (C.2.2.1, 82, .inr (.inl (mB b))))] : va_W)) := hD
      refine W.eq (g2 := F0 m 40 ls [.int (nI (leastN b a (bp b a) (idxN b a (bp b a))))]) rfl ?_
      exact q_iret hx hb hr hlocks (w1 := wO C mo (evm kp ty tw pl fl tl) vx1 ox1 ++ ([(mo 1, .inl (C.2.2.1, 82, .inr (.inl (mB b))))] : va_W)) hP hS rfl dX5_ofArm_40 (⟨_, _, by rw [oaN, if_neg (by omega), if_neg (by omega), if_neg (by omega)], rfl⟩)
    · have c24 : w = 2 := q_nne' (by omega) (by omega) c24
      refine lv_aload_n hx hb dX5_ofArm_27 rfl (lv_at hl 0 rfl) ?_
      refine lv_iload_n hx hb dX5_ofArm_28 rfl (lv_at hl 1 rfl) ?_
      refine q_V (As := [.int (nI a)]) (rest := []) ⟨hx, hb, hml, hown, hts⟩ (c_X5_greatest l C mo kp ty tw pl fl tl v o b a hB (by omega)) (cwV 1 hts gX5_ofArm_X5_greatest rfl rfl rfl (by decide +kernel) ⟨Nat.le_of_ble_eq_true rfl, Nat.le_of_ble_eq_true rfl⟩) hK hP hD hS hA [0, 1, 2, 3] (by decide) rfl 0 rfl rfl rfl rfl hl.1 rfl (Nat.le_of_ble_eq_true rfl) dX5_ofArm_29 (Nat.zero_le _) (Nat.zero_le _) (fun r w1 H locs hQ hP hD hS => ?_)
      obtain ⟨vx2, ox2, rfl, rfl⟩ := hQ
      have hP : va_P C.1 vwCl (wO C mo (evm kp ty tw pl fl tl) vx2 ox2 ++ ([(mo 1, .inl (C.2.2.1, 82, .inr (.inl (mB b))))] : va_W)) H := hP
      have hD : va_D (q_A (wO C mo (evm kp ty tw pl fl tl) v o ++ ([(mo 1, .inl (C.2.2.1, 82, .inr (.inl (mB b))))] : va_W)) s) (wO C mo (evm kp ty tw pl fl tl) vx2 ox2 ++ ([(mo 1, .inl (C.2.2.1, 82, .inr (.inl (mB b))))] : va_W)) := hD
      refine W.eq (g2 := F0 m 32 ls [.int (nI (bstN (idxT b) a 3))]) rfl ?_
      refine lv_goto (tgt := 40) hx hb dX5_ofArm_32 (by decide) ?_
      exact q_iret hx hb hr hlocks (w1 := wO C mo (evm kp ty tw pl fl tl) vx2 ox2 ++ ([(mo 1, .inl (C.2.2.1, 82, .inr (.inl (mB b))))] : va_W)) hP hS rfl dX5_ofArm_40 (⟨_, _, by rw [oaN, if_neg (by omega), if_neg (by omega), if_pos (by omega)], rfl⟩)
  · have c2 : w < 2 := q_nge' (by omega) (by omega) c2
    refine lv_aload_n hx hb dX5_ofArm_5 rfl (lv_at hl 0 rfl) ?_
    refine va_get (ci := 5) (v := .ref (mo 1)) (C := RX5) (T := TX5) (N := 13) hx hb hts hin5 hown hK.1 hP 0 rfl rfl 0 (by decide) hf7 (fun _ h9 => h9) rfl dX5_ofArm_6 ?_
    refine lv_bipush (v := nI 10) hx hb dX5_ofArm_9 (by decide) ?_
    refine lv_iconst (v := nI 2) hx hb dX5_ofArm_11 (by decide) ?_
    refine lv_iload_n hx hb dX5_ofArm_12 rfl (lv_at hl 1 rfl) ?_
    refine lv_imul hx hb dX5_ofArm_13 ?_
    refine q_ti (y := nI (2 * a)) (pk_mul _ _) ?_
    refine lv_iadd hx hb dX5_ofArm_14 ?_
    refine q_ti (y := nI (10 + (2 * a))) (nI_add _ _) ?_
    refine lv_iload_n hx hb dX5_ofArm_15 rfl (lv_at hl 2 rfl) ?_
    refine lv_iadd hx hb dX5_ofArm_16 ?_
    refine q_ti (y := nI ((10 + (2 * a)) + w)) (nI_add _ _) ?_
    refine q_lald (n := ((10 + (2 * a)) + w)) (v := mB b ((10 + (2 * a)) + w)) hx hb hK hP 3 rfl (by omega) (by decide) rfl dX5_ofArm_17 ?_
    refine q_tl (y := lN (oaN b a w)) (mB_oa b ha (by omega)) ?_
    refine lv_l2i (v := nI (oaN b a w)) hx hb dX5_ofArm_18 (lN_i _) ?_
    refine lv_goto (tgt := 40) hx hb dX5_ofArm_19 (by decide) ?_
    exact q_iret hx hb hr hlocks (w1 := wO C mo (evm kp ty tw pl fl tl) v o ++ ([(mo 1, .inl (C.2.2.1, 82, .inr (.inl (mB b))))] : va_W)) hP hS rfl dX5_ofArm_40 (⟨v, o, rfl, rfl⟩)
set_option maxHeartbeats 4000000 in
set_option maxRecDepth 100000 in
theorem c_X5_counted (l : Launch) (C : q_C) (mo : Nat → Nat) (ty tw pl fl tl : Int32) (v o : Nat → Nat) (b : Bd) (n w : Nat) (hw : w < 4) : q_M C l yX5_counted wsX5_counted 0 0 [.ref (mo 0), .int (nI w)] (wO C mo (evm (nI n) ty tw pl fl tl) v o ++ ([(mo 1, .inl (C.2.2.1, 82, .inr (.inl (mB b))))] : va_W)) (fun r w1 => r = some (.int (cnI b n w)) ∧ w1 = wO C mo (evm (nI n) ty tw pl fl tl) v o ++ ([(mo 1, .inl (C.2.2.1, 82, .inr (.inl (mB b))))] : va_W)) := by
  refine q_head (cc := cX5_counted) (maxL := 2) (ret := (some .int)) (by decide +kernel) rfl (Nat.le_of_ble_eq_true rfl) ?_
  intro p e s m below meth c hx hb hr hlocks hml hown hts hK hP hD hS hA ls hl
  have hl : lv_has ls 2 [(0, .ref (mo 0)), (1, .int (nI w))] := hl
  have hf50 := hts (.fieldLink RX5 50 "RestedArmsModel" "kept" "I") (by decide +kernel)
  have hf7 := hts (.fieldLink RX5 7 "RestedArmsModel" "now" "[J") (by decide +kernel)
  have hin5 : ∀ w ∈ u_ws RX5 TX5 13, w ∈ wsX5_counted := by decide +kernel
  refine lv_iload_n hx hb dX5_counted_0 rfl (lv_at hl 1 rfl) ?_
  refine lv_iconst (v := nI 3) hx hb dX5_counted_1 (by decide) ?_
  refine lv_icmp_ge (tgt := 17) hx hb dX5_counted_2 (by decide) (fun c2 => ?_) (fun c2 => ?_)
  · have c2 : 3 ≤ w := q_nge (by omega) (by omega) c2
    refine lv_aload_n hx hb dX5_counted_17 rfl (lv_at hl 0 rfl) ?_
    refine va_get (ci := 5) (v := .int (nI n)) (C := RX5) (T := TX5) (N := 13) hx hb hts hin5 hown hK.1 hP 0 rfl rfl 3 (by decide) hf50 (fun _ h9 => h9) rfl dX5_counted_18 ?_
    exact q_iret hx hb hr hlocks (w1 := wO C mo (evm (nI n) ty tw pl fl tl) v o ++ ([(mo 1, .inl (C.2.2.1, 82, .inr (.inl (mB b))))] : va_W)) hP hS rfl dX5_counted_21 (⟨by rw [cnI, if_neg (by omega), if_neg (by omega), if_neg (by omega)], rfl⟩)
  · have c2 : w < 3 := q_nge' (by omega) (by omega) c2
    refine lv_aload_n hx hb dX5_counted_5 rfl (lv_at hl 0 rfl) ?_
    refine va_get (ci := 5) (v := .ref (mo 1)) (C := RX5) (T := TX5) (N := 13) hx hb hts hin5 hown hK.1 hP 0 rfl rfl 0 (by decide) hf7 (fun _ h9 => h9) rfl dX5_counted_6 ?_
    refine lv_iconst (v := nI 4) hx hb dX5_counted_9 (by decide) ?_
    refine lv_iload_n hx hb dX5_counted_10 rfl (lv_at hl 1 rfl) ?_
    refine lv_iadd hx hb dX5_counted_11 ?_
    refine q_ti (y := nI (4 + w)) (nI_add _ _) ?_
    refine q_lald (n := (4 + w)) (v := mB b (4 + w)) hx hb hK hP 3 rfl (by omega) (by decide) rfl dX5_counted_12 ?_
    refine lv_l2i (v := (mB b (4 + w)).toInt32) hx hb dX5_counted_13 rfl ?_
    refine q_ti (y := cnI b n w) (mB_cn b n (by omega)) ?_
    refine lv_goto (tgt := 21) hx hb dX5_counted_14 (by decide) ?_
    exact q_iret hx hb hr hlocks (w1 := wO C mo (evm (nI n) ty tw pl fl tl) v o ++ ([(mo 1, .inl (C.2.2.1, 82, .inr (.inl (mB b))))] : va_W)) hP hS rfl dX5_counted_21 (⟨rfl, rfl⟩)
set_option maxHeartbeats 4000000 in
set_option maxRecDepth 100000 in
theorem c_X5_byPlay (l : Launch) (C : q_C) (mo : Nat → Nat) (kp ty tw pl fl tl : Int32) (v o : Nat → Nat) (b : Bd) (g : Nat → Int64) (rule n : Nat) (hB : OkB b) (hr3 : rule < 3) (hn : n ≤ 99) : q_M C l yX5_byPlay wsX5_byPlay 7 172 [.ref (mo 0), .int (nI rule), .int (nI n)] (wO C mo (evm kp ty tw pl fl tl) v o ++ ([(mo 1, .inl (C.2.2.1, 82, .inr (.inl (mB b)))), (mo 2, .inl (C.2.2.1, 82, .inr (.inl g)))] : va_W)) (fun r w => ∃ v1 o1, r = some (.long (gnN b rule n)) ∧ w = wO C mo (evm kp ty tw pl fl tl) v1 o1 ++ ([(mo 1, .inl (C.2.2.1, 82, .inr (.inl (mB b)))), (mo 2, .inl (C.2.2.1, 82, .inr (.inl (mB (plN b (idxT b) rule n)))))] : va_W)) := by
  refine q_head (cc := cX5_byPlay) (maxL := 3) (ret := (some .long)) (by decide +kernel) rfl (Nat.le_of_ble_eq_true rfl) ?_
  intro p e s m below meth c hx hb hr hlocks hml hown hts hK hP hD hS hA ls hl
  have hl : lv_has ls 3 [(0, .ref (mo 0)), (1, .int (nI rule)), (2, .int (nI n))] := hl
  have hf13 := hts (.fieldLink RX5 13 "RestedArmsModel" "then" "[J") (by decide +kernel)
  have hf7 := hts (.fieldLink RX5 7 "RestedArmsModel" "now" "[J") (by decide +kernel)
  have hin5 : ∀ w ∈ u_ws RX5 TX5 13, w ∈ wsX5_byPlay := by decide +kernel
  refine lv_aload_n hx hb dX5_byPlay_0 rfl (lv_at hl 0 rfl) ?_
  refine q_V (As := []) (rest := []) ⟨hx, hb, hml, hown, hts⟩ (c_X5_tries l C mo kp ty tw pl fl tl v o b g) (cwV 0 hts gX5_byPlay_X5_tries rfl rfl rfl (by decide +kernel) ⟨Nat.le_of_ble_eq_true rfl, Nat.le_of_ble_eq_true rfl⟩) hK hP hD hS hA [0, 1, 2, 3, 4] (by decide) rfl 0 rfl rfl rfl rfl hl.1 rfl (Nat.le_of_ble_eq_true rfl) dX5_byPlay_1 (Nat.zero_le _) (Nat.zero_le _) (fun r w1 H locs hQ hP hD hS => ?_)
  obtain ⟨rfl, rfl⟩ := hQ
  have hP : va_P C.1 vwCl (wO C mo (evm kp ty tw pl fl tl) v o ++ ([(mo 1, .inl (C.2.2.1, 82, .inr (.inl (mB b)))), (mo 2, .inl (C.2.2.1, 82, .inr (.inl (mB b))))] : va_W)) H := hP
  have hD : va_D (q_A (wO C mo (evm kp ty tw pl fl tl) v o ++ ([(mo 1, .inl (C.2.2.1, 82, .inr (.inl (mB b)))), (mo 2, .inl (C.2.2.1, 82, .inr (.inl g)))] : va_W)) s) (wO C mo (evm kp ty tw pl fl tl) v o ++ ([(mo 1, .inl (C.2.2.1, 82, .inr (.inl (mB b)))), (mo 2, .inl (C.2.2.1, 82, .inr (.inl (mB b))))] : va_W)) := hD
  refine W.eq (g2 := F0 m 4 ls []) rfl ?_
  refine lv_aload_n hx hb dX5_byPlay_4 rfl (lv_at hl 0 rfl) ?_
  refine lv_aload_n hx hb dX5_byPlay_5 rfl (lv_at hl 0 rfl) ?_
  refine va_get (ci := 5) (v := .ref (mo 2)) (C := RX5) (T := TX5) (N := 13) hx hb hts hin5 hown hK.1 hP 0 rfl rfl 1 (by decide) hf13 (fun _ h9 => h9) rfl dX5_byPlay_6 ?_
  refine lv_iload_n hx hb dX5_byPlay_9 rfl (lv_at hl 1 rfl) ?_
  refine lv_iload_n hx hb dX5_byPlay_10 rfl (lv_at hl 2 rfl) ?_
  refine q_V (As := [.ref (mo 2), .int (nI rule), .int (nI n)]) (rest := []) ⟨hx, hb, hml, hown, hts⟩ (c_X5_plays l C mo (evm kp ty tw pl fl tl) v o (mo 2) b rule n hB (by omega) (by omega)) (cwV 3 hts gX5_byPlay_X5_plays rfl rfl rfl (by decide +kernel) ⟨Nat.le_of_ble_eq_true rfl, Nat.le_of_ble_eq_true rfl⟩) hK hP hD hS hA [0, 1, 2, 4] (by decide) rfl 0 rfl rfl rfl rfl hl.1 rfl (Nat.le_of_ble_eq_true rfl) dX5_byPlay_11 (Nat.zero_le _) (Nat.zero_le _) (fun r w1 H locs hQ hP hD hS => ?_)
  obtain ⟨vx2, ox2, rfl, rfl⟩ := hQ
  have hP : va_P C.1 vwCl (wO C mo (evm kp ty tw pl fl tl) vx2 ox2 ++ ([(mo 1, .inl (C.2.2.1, 82, .inr (.inl (mB b)))), (mo 2, .inl (C.2.2.1, 82, .inr (.inl (mB (plN b (idxT b) rule n)))))] : va_W)) H := hP
  have hD : va_D (q_A (wO C mo (evm kp ty tw pl fl tl) v o ++ ([(mo 1, .inl (C.2.2.1, 82, .inr (.inl (mB b)))), (mo 2, .inl (C.2.2.1, 82, .inr (.inl g)))] : va_W)) s) (wO C mo (evm kp ty tw pl fl tl) vx2 ox2 ++ ([(mo 1, .inl (C.2.2.1, 82, .inr (.inl (mB b)))), (mo 2, .inl (C.2.2.1, 82, .inr (.inl (mB (plN b (idxT b) rule n)))))] : va_W)) := hD
  refine W.eq (g2 := F0 m 14 ls []) rfl ?_
  refine lv_aload_n hx hb dX5_byPlay_14 rfl (lv_at hl 0 rfl) ?_
  refine va_get (ci := 5) (v := .ref (mo 2)) (C := RX5) (T := TX5) (N := 13) hx hb hts hin5 hown hK.1 hP 0 rfl rfl 1 (by decide) hf13 (fun _ h9 => h9) rfl dX5_byPlay_15 ?_
  refine lv_bipush (v := nI 7) hx hb dX5_byPlay_18 (by decide) ?_
  refine q_lald (n := 7) (v := mB (plN b (idxT b) rule n) 7) hx hb hK hP 4 rfl (by decide) (by decide) rfl dX5_byPlay_20 ?_
  refine q_tl (y := br (plN b (idxT b) rule n)) (mB_7 _) ?_
  refine lv_aload_n hx hb dX5_byPlay_21 rfl (lv_at hl 0 rfl) ?_
  refine va_get (ci := 5) (v := .ref (mo 1)) (C := RX5) (T := TX5) (N := 13) hx hb hts hin5 hown hK.1 hP 0 rfl rfl 0 (by decide) hf7 (fun _ h9 => h9) rfl dX5_byPlay_22 ?_
  refine lv_bipush (v := nI 7) hx hb dX5_byPlay_25 (by decide) ?_
  refine q_lald (n := 7) (v := mB b 7) hx hb hK hP 3 rfl (by decide) (by decide) rfl dX5_byPlay_27 ?_
  refine q_tl (y := br b) (mB_7 _) ?_
  refine lv_lsub hx hb dX5_byPlay_28 ?_
  refine q_tl (y := gnN b rule n) rfl ?_
  exact q_lret hx hb hr hlocks (w1 := wO C mo (evm kp ty tw pl fl tl) vx2 ox2 ++ ([(mo 1, .inl (C.2.2.1, 82, .inr (.inl (mB b)))), (mo 2, .inl (C.2.2.1, 82, .inr (.inl (mB (plN b (idxT b) rule n)))))] : va_W)) hP hS rfl dX5_byPlay_29 (⟨_, _, rfl, rfl⟩)
set_option maxHeartbeats 4000000 in
set_option maxRecDepth 100000 in
theorem c_X5_best (l : Launch) (C : q_C) (mo : Nat → Nat) (kp ty tw pl fl tl : Int32) (v o : Nat → Nat) (b : Bd) (g : Nat → Int64) (n : Nat) (hB : OkB b) (hn : n ≤ 99) : q_M C l yX5_best wsX5_best 8 194 [.ref (mo 0), .int (nI n)] (wO C mo (evm kp ty tw pl fl tl) v o ++ ([(mo 1, .inl (C.2.2.1, 82, .inr (.inl (mB b)))), (mo 2, .inl (C.2.2.1, 82, .inr (.inl g)))] : va_W)) (fun r w => ∃ v1 o1 g1, r = some (.int (nI (bsrN b n 2))) ∧ w = wO C mo (evm kp ty tw pl fl tl) v1 o1 ++ ([(mo 1, .inl (C.2.2.1, 82, .inr (.inl (mB b)))), (mo 2, .inl (C.2.2.1, 82, .inr (.inl g1)))] : va_W)) := by
  refine q_head (cc := cX5_best) (maxL := 4) (ret := (some .int)) (by decide +kernel) rfl (Nat.le_of_ble_eq_true rfl) ?_
  intro p e s m below meth c hx hb hr hlocks hml hown hts hK hP hD hS hA ls hl
  have hl : lv_has ls 4 [(0, .ref (mo 0)), (1, .int (nI n))] := hl
  refine lv_iconst (v := nI 0) hx hb dX5_best_0 (by decide) ?_
  refine lv_istore_n (lv' := [(2, .int (nI 0)), (0, .ref (mo 0)), (1, .int (nI n))]) hx hb dX5_best_1 rfl hl (by decide) rfl (fun ls hl => ?_)
  refine lv_iconst (v := nI 1) hx hb dX5_best_2 (by decide) ?_
  refine lv_istore_n (lv' := [(3, .int (nI 1)), (2, .int (nI 0)), (0, .ref (mo 0)), (1, .int (nI n))]) hx hb dX5_best_3 rfl hl (by decide) rfl (fun ls hl => ?_)
  have K4 : ∀ (n4 i4 : Nat), ∀ (g4 : Nat) (v4 : Nat → Nat) (o4 : Nat → Nat) (t4 : Nat → Int64), i4 ≤ 2 → 2 + 1 ≤ i4 + n4 → (bsrN b n i4 = g4) → (g4 ≤ i4) → ∀ (H : Heap) (locs : List Loc) (ls : Array Slot), va_P C.1 vwCl (wO C mo (evm kp ty tw pl fl tl) v4 o4 ++ ([(mo 1, .inl (C.2.2.1, 82, .inr (.inl (mB b)))), (mo 2, .inl (C.2.2.1, 82, .inr (.inl t4)))] : va_W)) H → va_D (q_A (wO C mo (evm kp ty tw pl fl tl) v o ++ ([(mo 1, .inl (C.2.2.1, 82, .inr (.inl (mB b)))), (mo 2, .inl (C.2.2.1, 82, .inr (.inl g)))] : va_W)) s) (wO C mo (evm kp ty tw pl fl tl) v4 o4 ++ ([(mo 1, .inl (C.2.2.1, 82, .inr (.inl (mB b)))), (mo 2, .inl (C.2.2.1, 82, .inr (.inl t4)))] : va_W)) → va_S (q_A (wO C mo (evm kp ty tw pl fl tl) v o ++ ([(mo 1, .inl (C.2.2.1, 82, .inr (.inl (mB b)))), (mo 2, .inl (C.2.2.1, 82, .inr (.inl g)))] : va_W)) s) s.heap H locs → lv_has ls 4 [(3, .int (nI (i4 + 1))), (2, .int (nI g4)), (0, .ref (mo 0)), (1, .int (nI n))] → W p l e (q_R 8 194) s m ([.ref (mo 0), .int (nI n)] : List Value).toArray below meth c H locs 0 0 (q_G C below (wO C mo (evm kp ty tw pl fl tl) v o ++ ([(mo 1, .inl (C.2.2.1, 82, .inr (.inl (mB b)))), (mo 2, .inl (C.2.2.1, 82, .inr (.inl g)))] : va_W)) (fun r w => ∃ v1 o1 g1, r = some (.int (nI (bsrN b n 2))) ∧ w = wO C mo (evm kp ty tw pl fl tl) v1 o1 ++ ([(mo 1, .inl (C.2.2.1, 82, .inr (.inl (mB b)))), (mo 2, .inl (C.2.2.1, 82, .inr (.inl g1)))] : va_W)) ([.ref (mo 0), .int (nI n)] : List Value).toArray s) (F0 m 4 ls []) := by
    intro n4
    induction n4 with
    | zero => intro i4 g4 v4 o4 t4 q1 q2; exact absurd q2 (by omega)
    | succ n4 ih4 =>
      intro i4 g4 v4 o4 t4 hi4 hn4 hG4 hg4 H locs ls hP hD hS hl
      refine lv_iload_n hx hb dX5_best_4 rfl (lv_at hl 0 rfl) ?_
      refine lv_iconst (v := nI 3) hx hb dX5_best_5 (by decide) ?_
      refine lv_icmp_ge (tgt := 37) hx hb dX5_best_6 (by decide) (fun c6 => ?_) (fun c6 => ?_)
      · have c6 : 3 ≤ (i4 + 1) := q_nge (by omega) (by omega) c6
        refine lv_iload_n hx hb dX5_best_37 rfl (lv_at hl 1 rfl) ?_
        exact q_iret hx hb hr hlocks (w1 := wO C mo (evm kp ty tw pl fl tl) v4 o4 ++ ([(mo 1, .inl (C.2.2.1, 82, .inr (.inl (mB b)))), (mo 2, .inl (C.2.2.1, 82, .inr (.inl t4)))] : va_W)) hP hS rfl dX5_best_38 (⟨_, _, _, by rw [show (2 : Nat) = i4 by omega, hG4], rfl⟩)
      · have c6 : (i4 + 1) < 3 := q_nge' (by omega) (by omega) c6
        refine lv_aload_n hx hb dX5_best_9 rfl (lv_at hl 2 rfl) ?_
        refine lv_iload_n hx hb dX5_best_10 rfl (lv_at hl 0 rfl) ?_
        refine lv_iload_n hx hb dX5_best_11 rfl (lv_at hl 3 rfl) ?_
        refine q_V (As := [.int (nI (i4 + 1)), .int (nI n)]) (rest := []) ⟨hx, hb, hml, hown, hts⟩ (c_X5_byPlay l C mo kp ty tw pl fl tl v4 o4 b t4 (i4 + 1) n hB (by omega) (by omega)) (cwV 2 hts gX5_best_X5_byPlay rfl rfl rfl (by decide +kernel) ⟨Nat.le_of_ble_eq_true rfl, Nat.le_of_ble_eq_true rfl⟩) hK hP hD hS hA [0, 1, 2, 3, 4] (by decide) rfl 0 rfl rfl rfl rfl hl.1 rfl (Nat.le_of_ble_eq_true rfl) dX5_best_12 (Nat.zero_le _) (Nat.zero_le _) (fun r w1 H locs hQ hP hD hS => ?_)
        obtain ⟨vx1, ox1, rfl, rfl⟩ := hQ
        have hP : va_P C.1 vwCl (wO C mo (evm kp ty tw pl fl tl) vx1 ox1 ++ ([(mo 1, .inl (C.2.2.1, 82, .inr (.inl (mB b)))), (mo 2, .inl (C.2.2.1, 82, .inr (.inl (mB (plN b (idxT b) (i4 + 1) n)))))] : va_W)) H := hP
        have hD : va_D (q_A (wO C mo (evm kp ty tw pl fl tl) v o ++ ([(mo 1, .inl (C.2.2.1, 82, .inr (.inl (mB b)))), (mo 2, .inl (C.2.2.1, 82, .inr (.inl g)))] : va_W)) s) (wO C mo (evm kp ty tw pl fl tl) vx1 ox1 ++ ([(mo 1, .inl (C.2.2.1, 82, .inr (.inl (mB b)))), (mo 2, .inl (C.2.2.1, 82, .inr (.inl (mB (plN b (idxT b) (i4 + 1) n)))))] : va_W)) := hD
        refine W.eq (g2 := F0 m 15 ls [.long (gnN b (i4 + 1) n)]) rfl ?_
        refine lv_aload_n hx hb dX5_best_15 rfl (lv_at hl 2 rfl) ?_
        refine lv_iload_n hx hb dX5_best_16 rfl (lv_at hl 1 rfl) ?_
        refine lv_iload_n hx hb dX5_best_17 rfl (lv_at hl 3 rfl) ?_
        refine q_V (As := [.int (nI g4), .int (nI n)]) (rest := [.long (gnN b (i4 + 1) n)]) ⟨hx, hb, hml, hown, hts⟩ (c_X5_byPlay l C mo kp ty tw pl fl tl vx1 ox1 b (mB (plN b (idxT b) (i4 + 1) n)) g4 n hB (by omega) (by omega)) (cwV 2 hts gX5_best_X5_byPlay rfl rfl rfl (by decide +kernel) ⟨Nat.le_of_ble_eq_true rfl, Nat.le_of_ble_eq_true rfl⟩) hK hP hD hS hA [0, 1, 2, 3, 4] (by decide) rfl 0 rfl rfl rfl rfl hl.1 rfl (Nat.le_of_ble_eq_true rfl) dX5_best_18 (Nat.zero_le _) (Nat.zero_le _) (fun r w1 H locs hQ hP hD hS => ?_)
        obtain ⟨vx2, ox2, rfl, rfl⟩ := hQ
        have hP : va_P C.1 vwCl (wO C mo (evm kp ty tw pl fl tl) vx2 ox2 ++ ([(mo 1, .inl (C.2.2.1, 82, .inr (.inl (mB b)))), (mo 2, .inl (C.2.2.1, 82, .inr (.inl (mB (plN b (idxT b) g4 n)))))] : va_W)) H := hP
        have hD : va_D (q_A (wO C mo (evm kp ty tw pl fl tl) v o ++ ([(mo 1, .inl (C.2.2.1, 82, .inr (.inl (mB b)))), (mo 2, .inl (C.2.2.1, 82, .inr (.inl g)))] : va_W)) s) (wO C mo (evm kp ty tw pl fl tl) vx2 ox2 ++ ([(mo 1, .inl (C.2.2.1, 82, .inr (.inl (mB b)))), (mo 2, .inl (C.2.2.1, 82, .inr (.inl (mB (plN b (idxT b) g4 n)))))] : va_W)) := hD
        refine W.eq (g2 := F0 m 21 ls [.long (gnN b g4 n), .long (gnN b (i4 + 1) n)]) rfl ?_
        refine W.lcmp hx hb dX5_best_21 ?_
        refine lv_if_le (tgt := 29) hx hb dX5_best_22 (by decide) (fun c22 => ?_) (fun c22 => ?_)
        · have c22 : (gnN b (i4 + 1) n) ≤ (gnN b g4 n) := q_lle c22
          refine lv_iload_n hx hb dX5_best_29 rfl (lv_at hl 1 rfl) ?_
          refine lv_istore_n (lv' := [(2, .int (nI g4)), (3, .int (nI (i4 + 1))), (0, .ref (mo 0)), (1, .int (nI n))]) hx hb dX5_best_30 rfl hl (by decide) rfl (fun ls hl => ?_)
          refine lv_iinc (v := nI (i4 + 1 + 1)) (lv' := [(3, .int (nI (i4 + 1 + 1))), (2, .int (nI g4)), (0, .ref (mo 0)), (1, .int (nI n))]) hx hb dX5_best_31 hl (k := 1) rfl (nI_1 _) (by decide) rfl (fun ls hl => ?_)
          refine lv_goto (tgt := 4) hx hb dX5_best_34 (by decide) ?_
          exact ih4 (i4 + 1) g4 vx2 ox2 (mB (plN b (idxT b) g4 n)) (by omega) (by omega) (by show (if gnN b (bsrN b n i4) n < gnN b (i4 + 1) n then _ else _) = _; rw [hG4, if_neg (Int64.not_lt.mpr c22)]) (by omega) _ _ ls hP hD hS (lv_sub hl [0, 1, 2, 3] rfl)
        · have c22 : (gnN b g4 n) < (gnN b (i4 + 1) n) := q_lle' c22
          refine lv_iload_n hx hb dX5_best_25 rfl (lv_at hl 0 rfl) ?_
          refine lv_goto (tgt := 30) hx hb dX5_best_26 (by decide) ?_
          refine lv_istore_n (lv' := [(2, .int (nI (i4 + 1))), (3, .int (nI (i4 + 1))), (0, .ref (mo 0)), (1, .int (nI n))]) hx hb dX5_best_30 rfl hl (by decide) rfl (fun ls hl => ?_)
          refine lv_iinc (v := nI (i4 + 1 + 1)) (lv' := [(3, .int (nI (i4 + 1 + 1))), (2, .int (nI (i4 + 1))), (0, .ref (mo 0)), (1, .int (nI n))]) hx hb dX5_best_31 hl (k := 1) rfl (nI_1 _) (by decide) rfl (fun ls hl => ?_)
          refine lv_goto (tgt := 4) hx hb dX5_best_34 (by decide) ?_
          exact ih4 (i4 + 1) (i4 + 1) vx2 ox2 (mB (plN b (idxT b) g4 n)) (by omega) (by omega) (by show (if gnN b (bsrN b n i4) n < gnN b (i4 + 1) n then _ else _) = _; rw [hG4, if_pos c22]) (by omega) _ _ ls hP hD hS (lv_sub hl [0, 1, 2, 3] rfl)
  exact K4 (2 + 1 - 0) 0 0 v o g (by omega) (by omega) rfl (by omega) _ _ ls hP hD hS (lv_sub hl [0, 1, 2, 3] rfl)
set_option maxHeartbeats 4000000 in
set_option maxRecDepth 100000 in
theorem c_X5_least (l : Launch) (C : q_C) (mo : Nat → Nat) (kp ty tw pl fl tl : Int32) (v o : Nat → Nat) (b : Bd) (g : Nat → Int64) (a h : Nat) (hB : OkB b) (ha : a < 4) (hh : h < 4) : q_M C l yX5_least wsX5_least 6 148 [.ref (mo 0), .int (nI a), .int (nI h)] (wO C mo (evm kp ty tw pl fl tl) v o ++ ([(mo 1, .inl (C.2.2.1, 82, .inr (.inl (mB b)))), (mo 2, .inl (C.2.2.1, 82, .inr (.inl g)))] : va_W)) (fun r w => ∃ v1 o1 g1, r = some (.int (lgI (lgN b a h))) ∧ w = wO C mo (evm kp ty tw pl fl tl) v1 o1 ++ ([(mo 1, .inl (C.2.2.1, 82, .inr (.inl (mB b)))), (mo 2, .inl (C.2.2.1, 82, .inr (.inl g1)))] : va_W)) := by
  refine q_head (cc := cX5_least) (maxL := 4) (ret := (some .int)) (by decide +kernel) rfl (Nat.le_of_ble_eq_true rfl) ?_
  intro p e s m below meth c hx hb hr hlocks hml hown hts hK hP hD hS hA ls hl
  have hl : lv_has ls 4 [(0, .ref (mo 0)), (1, .int (nI a)), (2, .int (nI h))] := hl
  have hf13 := hts (.fieldLink RX5 13 "RestedArmsModel" "then" "[J") (by decide +kernel)
  have hin5 : ∀ w ∈ u_ws RX5 TX5 13, w ∈ wsX5_least := by decide +kernel
  refine lv_aload_n hx hb dX5_least_0 rfl (lv_at hl 0 rfl) ?_
  refine q_V (As := []) (rest := []) ⟨hx, hb, hml, hown, hts⟩ (c_X5_tries l C mo kp ty tw pl fl tl v o b g) (cwV 0 hts gX5_least_X5_tries rfl rfl rfl (by decide +kernel) ⟨Nat.le_of_ble_eq_true rfl, Nat.le_of_ble_eq_true rfl⟩) hK hP hD hS hA [0, 1, 2, 3, 4] (by decide) rfl 0 rfl rfl rfl rfl hl.1 rfl (Nat.le_of_ble_eq_true rfl) dX5_least_1 (Nat.zero_le _) (Nat.zero_le _) (fun r w1 H locs hQ hP hD hS => ?_)
  obtain ⟨rfl, rfl⟩ := hQ
  have hP : va_P C.1 vwCl (wO C mo (evm kp ty tw pl fl tl) v o ++ ([(mo 1, .inl (C.2.2.1, 82, .inr (.inl (mB b)))), (mo 2, .inl (C.2.2.1, 82, .inr (.inl (mB b))))] : va_W)) H := hP
  have hD : va_D (q_A (wO C mo (evm kp ty tw pl fl tl) v o ++ ([(mo 1, .inl (C.2.2.1, 82, .inr (.inl (mB b)))), (mo 2, .inl (C.2.2.1, 82, .inr (.inl g)))] : va_W)) s) (wO C mo (evm kp ty tw pl fl tl) v o ++ ([(mo 1, .inl (C.2.2.1, 82, .inr (.inl (mB b)))), (mo 2, .inl (C.2.2.1, 82, .inr (.inl (mB b))))] : va_W)) := hD
  refine W.eq (g2 := F0 m 4 ls []) rfl ?_
  refine lv_aload_n hx hb dX5_least_4 rfl (lv_at hl 0 rfl) ?_
  refine va_get (ci := 5) (v := .ref (mo 2)) (C := RX5) (T := TX5) (N := 13) hx hb hts hin5 hown hK.1 hP 0 rfl rfl 1 (by decide) hf13 (fun _ h9 => h9) rfl dX5_least_5 ?_
  refine lv_bipush (v := nI 10) hx hb dX5_least_8 (by decide) ?_
  refine lv_iconst (v := nI 2) hx hb dX5_least_10 (by decide) ?_
  refine lv_iload_n hx hb dX5_least_11 rfl (lv_at hl 1 rfl) ?_
  refine lv_imul hx hb dX5_least_12 ?_
  refine q_ti (y := nI (2 * a)) (pk_mul _ _) ?_
  refine lv_iadd hx hb dX5_least_13 ?_
  refine q_ti (y := nI (10 + (2 * a))) (nI_add _ _) ?_
  refine lv_iload_n hx hb dX5_least_14 rfl (lv_at hl 2 rfl) ?_
  refine lv_i2l (v := lN h) hx hb dX5_least_15 (nI_l (by omega)) ?_
  refine q_last (n := (10 + (2 * a))) hx hb hK hP hD hS 4 rfl (by omega) (by decide) dX5_least_16 (fun H locs hP hD hS => ?_)
  have hP : va_P C.1 vwCl (wO C mo (evm kp ty tw pl fl tl) v o ++ ([(mo 1, .inl (C.2.2.1, 82, .inr (.inl (mB b)))), (mo 2, .inl (C.2.2.1, 82, .inr (.inl (vp_updL (mB b) (10 + (2 * a)) (lN h)))))] : va_W)) H := hP
  have hD : va_D (q_A (wO C mo (evm kp ty tw pl fl tl) v o ++ ([(mo 1, .inl (C.2.2.1, 82, .inr (.inl (mB b)))), (mo 2, .inl (C.2.2.1, 82, .inr (.inl g)))] : va_W)) s) (wO C mo (evm kp ty tw pl fl tl) v o ++ ([(mo 1, .inl (C.2.2.1, 82, .inr (.inl (mB b)))), (mo 2, .inl (C.2.2.1, 82, .inr (.inl (vp_updL (mB b) (10 + (2 * a)) (lN h)))))] : va_W)) := hD
  rw [mB_wp _ (by omega)] at hP hD
  have hP : va_P C.1 vwCl (wO C mo (evm kp ty tw pl fl tl) v o ++ ([(mo 1, .inl (C.2.2.1, 82, .inr (.inl (mB b)))), (mo 2, .inl (C.2.2.1, 82, .inr (.inl (mB (sp b (upN (bp b) a h))))))] : va_W)) H := hP
  have hD : va_D (q_A (wO C mo (evm kp ty tw pl fl tl) v o ++ ([(mo 1, .inl (C.2.2.1, 82, .inr (.inl (mB b)))), (mo 2, .inl (C.2.2.1, 82, .inr (.inl g)))] : va_W)) s) (wO C mo (evm kp ty tw pl fl tl) v o ++ ([(mo 1, .inl (C.2.2.1, 82, .inr (.inl (mB b)))), (mo 2, .inl (C.2.2.1, 82, .inr (.inl (mB (sp b (upN (bp b) a h))))))] : va_W)) := hD
  refine lv_iconst (v := nI 0) hx hb dX5_least_17 (by decide) ?_
  refine lv_istore_n (lv' := [(3, .int (nI 0)), (0, .ref (mo 0)), (1, .int (nI a)), (2, .int (nI h))]) hx hb dX5_least_18 rfl hl (by decide) rfl (fun ls hl => ?_)
  have K19 : ∀ (n19 i19 : Nat), ∀ (g19 : Nat → Nat) (v19 : Nat → Nat) (o19 : Nat → Nat), i19 ≤ 100 → 100 + 1 ≤ i19 + n19 → (lgF b a h (100 - i19) i19 = lgN b a h) → (∀ x, upN g19 (4 * a + h) x = upN (bg b) (4 * a + h) x) → ∀ (H : Heap) (locs : List Loc) (ls : Array Slot), va_P C.1 vwCl (wO C mo (evm kp ty tw pl fl tl) v19 o19 ++ ([(mo 1, .inl (C.2.2.1, 82, .inr (.inl (mB b)))), (mo 2, .inl (C.2.2.1, 82, .inr (.inl (mB (sg (sp b (upN (bp b) a h)) g19)))))] : va_W)) H → va_D (q_A (wO C mo (evm kp ty tw pl fl tl) v o ++ ([(mo 1, .inl (C.2.2.1, 82, .inr (.inl (mB b)))), (mo 2, .inl (C.2.2.1, 82, .inr (.inl g)))] : va_W)) s) (wO C mo (evm kp ty tw pl fl tl) v19 o19 ++ ([(mo 1, .inl (C.2.2.1, 82, .inr (.inl (mB b)))), (mo 2, .inl (C.2.2.1, 82, .inr (.inl (mB (sg (sp b (upN (bp b) a h)) g19)))))] : va_W)) → va_S (q_A (wO C mo (evm kp ty tw pl fl tl) v o ++ ([(mo 1, .inl (C.2.2.1, 82, .inr (.inl (mB b)))), (mo 2, .inl (C.2.2.1, 82, .inr (.inl g)))] : va_W)) s) s.heap H locs → lv_has ls 4 [(3, .int (nI i19)), (0, .ref (mo 0)), (1, .int (nI a)), (2, .int (nI h))] → W p l e (q_R 6 148) s m ([.ref (mo 0), .int (nI a), .int (nI h)] : List Value).toArray below meth c H locs 0 0 (q_G C below (wO C mo (evm kp ty tw pl fl tl) v o ++ ([(mo 1, .inl (C.2.2.1, 82, .inr (.inl (mB b)))), (mo 2, .inl (C.2.2.1, 82, .inr (.inl g)))] : va_W)) (fun r w => ∃ v1 o1 g1, r = some (.int (lgI (lgN b a h))) ∧ w = wO C mo (evm kp ty tw pl fl tl) v1 o1 ++ ([(mo 1, .inl (C.2.2.1, 82, .inr (.inl (mB b)))), (mo 2, .inl (C.2.2.1, 82, .inr (.inl g1)))] : va_W)) ([.ref (mo 0), .int (nI a), .int (nI h)] : List Value).toArray s) (F0 m 19 ls []) := by
    intro n19
    induction n19 with
    | zero => intro i19 g19 v19 o19 q1 q2; exact absurd q2 (by omega)
    | succ n19 ih19 =>
      intro i19 g19 v19 o19 hi19 hn19 hL19 hg19 H locs ls hP hD hS hl
      refine lv_iload_n hx hb dX5_least_19 rfl (lv_at hl 0 rfl) ?_
      refine lv_bipush (v := nI 99) hx hb dX5_least_20 (by decide) ?_
      refine lv_icmp_gt (tgt := 63) hx hb dX5_least_22 (by decide) (fun c22 => ?_) (fun c22 => ?_)
      · have c22 : 99 < i19 := q_ngt (by omega) (by omega) c22
        refine lv_iconst (v := (-1)) hx hb dX5_least_63 (by decide) ?_
        exact q_iret hx hb hr hlocks (w1 := wO C mo (evm kp ty tw pl fl tl) v19 o19 ++ ([(mo 1, .inl (C.2.2.1, 82, .inr (.inl (mB b)))), (mo 2, .inl (C.2.2.1, 82, .inr (.inl (mB (sg (sp b (upN (bp b) a h)) g19)))))] : va_W)) hP hS rfl dX5_least_64 (⟨_, _, _, by rw [← lgF_end hL19 (by omega), lgI, if_neg (by omega)], rfl⟩)
      · have c22 : i19 ≤ 99 := q_ngt' (by omega) (by omega) c22
        refine lv_aload_n hx hb dX5_least_25 rfl (lv_at hl 1 rfl) ?_
        refine va_get (ci := 5) (v := .ref (mo 2)) (C := RX5) (T := TX5) (N := 13) hx hb hts hin5 hown hK.1 hP 0 rfl rfl 1 (by decide) hf13 (fun _ h9 => h9) rfl dX5_least_26 ?_
        refine lv_bipush (v := nI 18) hx hb dX5_least_29 (by decide) ?_
        refine lv_iconst (v := nI 4) hx hb dX5_least_31 (by decide) ?_
        refine lv_iconst (v := nI 4) hx hb dX5_least_32 (by decide) ?_
        refine lv_iload_n hx hb dX5_least_33 rfl (lv_at hl 2 rfl) ?_
        refine lv_imul hx hb dX5_least_34 ?_
        refine q_ti (y := nI (4 * a)) (pk_mul _ _) ?_
        refine lv_iload_n hx hb dX5_least_35 rfl (lv_at hl 3 rfl) ?_
        refine lv_iadd hx hb dX5_least_36 ?_
        refine q_ti (y := nI ((4 * a) + h)) (nI_add _ _) ?_
        refine lv_imul hx hb dX5_least_37 ?_
        refine q_ti (y := nI (4 * ((4 * a) + h))) (pk_mul _ _) ?_
        refine lv_iadd hx hb dX5_least_38 ?_
        refine q_ti (y := nI (18 + (4 * ((4 * a) + h)))) (nI_add _ _) ?_
        refine lv_iload_n hx hb dX5_least_39 rfl (lv_at hl 0 rfl) ?_
        refine lv_i2l (v := lN i19) hx hb dX5_least_40 (nI_l (by omega)) ?_
        refine q_last (n := (18 + (4 * ((4 * a) + h)))) hx hb hK hP hD hS 4 rfl (by omega) (by decide) dX5_least_41 (fun H locs hP hD hS => ?_)
        have hP : va_P C.1 vwCl (wO C mo (evm kp ty tw pl fl tl) v19 o19 ++ ([(mo 1, .inl (C.2.2.1, 82, .inr (.inl (mB b)))), (mo 2, .inl (C.2.2.1, 82, .inr (.inl (vp_updL (mB (sg (sp b (upN (bp b) a h)) g19)) (18 + (4 * ((4 * a) + h))) (lN i19)))))] : va_W)) H := hP
        have hD : va_D (q_A (wO C mo (evm kp ty tw pl fl tl) v o ++ ([(mo 1, .inl (C.2.2.1, 82, .inr (.inl (mB b)))), (mo 2, .inl (C.2.2.1, 82, .inr (.inl g)))] : va_W)) s) (wO C mo (evm kp ty tw pl fl tl) v19 o19 ++ ([(mo 1, .inl (C.2.2.1, 82, .inr (.inl (mB b)))), (mo 2, .inl (C.2.2.1, 82, .inr (.inl (vp_updL (mB (sg (sp b (upN (bp b) a h)) g19)) (18 + (4 * ((4 * a) + h))) (lN i19)))))] : va_W)) := hD
        rw [mB_wg0 _ (by omega), show sg (sg (sp b (upN (bp b) a h)) g19) (upN (bg (sg (sp b (upN (bp b) a h)) g19)) (4 * a + h) i19) = tB b a h i19 from congrArg (sg (sp b (upN (bp b) a h))) (hg19 i19)] at hP hD
        have hP : va_P C.1 vwCl (wO C mo (evm kp ty tw pl fl tl) v19 o19 ++ ([(mo 1, .inl (C.2.2.1, 82, .inr (.inl (mB b)))), (mo 2, .inl (C.2.2.1, 82, .inr (.inl (mB (tB b a h i19)))))] : va_W)) H := hP
        have hD : va_D (q_A (wO C mo (evm kp ty tw pl fl tl) v o ++ ([(mo 1, .inl (C.2.2.1, 82, .inr (.inl (mB b)))), (mo 2, .inl (C.2.2.1, 82, .inr (.inl g)))] : va_W)) s) (wO C mo (evm kp ty tw pl fl tl) v19 o19 ++ ([(mo 1, .inl (C.2.2.1, 82, .inr (.inl (mB b)))), (mo 2, .inl (C.2.2.1, 82, .inr (.inl (mB (tB b a h i19)))))] : va_W)) := hD
        have hBt := okB_tB hB (a := a) hh (g := i19) (by omega)
        refine lv_aload_n hx hb dX5_least_42 rfl (lv_at hl 1 rfl) ?_
        refine lv_aload_n hx hb dX5_least_43 rfl (lv_at hl 1 rfl) ?_
        refine va_get (ci := 5) (v := .ref (mo 2)) (C := RX5) (T := TX5) (N := 13) hx hb hts hin5 hown hK.1 hP 0 rfl rfl 1 (by decide) hf13 (fun _ h9 => h9) rfl dX5_least_44 ?_
        refine lv_iconst (v := nI 0) hx hb dX5_least_47 (by decide) ?_
        refine q_V (As := [.ref (mo 2), .int (nI 0)]) (rest := []) ⟨hx, hb, hml, hown, hts⟩ (c_X5_chosen l C mo (evm kp ty tw pl fl tl) v19 o19 (mo 2) (tB b a h i19) 0 hBt (by omega)) (cwV 2 hts gX5_least_X5_chosen rfl rfl rfl (by decide +kernel) ⟨Nat.le_of_ble_eq_true rfl, Nat.le_of_ble_eq_true rfl⟩) hK hP hD hS hA [0, 1, 2, 4] (by decide) rfl 0 rfl rfl rfl rfl hl.1 rfl (Nat.le_of_ble_eq_true rfl) dX5_least_48 (Nat.zero_le _) (Nat.zero_le _) (fun r w1 H locs hQ hP hD hS => ?_)
        obtain ⟨vx2, ox2, rfl, rfl⟩ := hQ
        have hP : va_P C.1 vwCl (wO C mo (evm kp ty tw pl fl tl) vx2 ox2 ++ ([(mo 1, .inl (C.2.2.1, 82, .inr (.inl (mB b)))), (mo 2, .inl (C.2.2.1, 82, .inr (.inl (mB (tB b a h i19)))))] : va_W)) H := hP
        have hD : va_D (q_A (wO C mo (evm kp ty tw pl fl tl) v o ++ ([(mo 1, .inl (C.2.2.1, 82, .inr (.inl (mB b)))), (mo 2, .inl (C.2.2.1, 82, .inr (.inl g)))] : va_W)) s) (wO C mo (evm kp ty tw pl fl tl) vx2 ox2 ++ ([(mo 1, .inl (C.2.2.1, 82, .inr (.inl (mB b)))), (mo 2, .inl (C.2.2.1, 82, .inr (.inl (mB (tB b a h i19)))))] : va_W)) := hD
        refine W.eq (g2 := F0 m 51 ls [.int (nI (choN (tB b a h i19) (idxT (tB b a h i19)) 0))]) rfl ?_
        have hcl := choN_lt hBt (idxT (tB b a h i19)) 0
        refine lv_iload_n hx hb dX5_least_51 rfl (lv_at hl 2 rfl) ?_
        refine lv_icmp_ne (tgt := 57) hx hb dX5_least_52 (by decide) (fun c52 => ?_) (fun c52 => ?_)
        · have c52 : (choN (tB b a h i19) (idxT (tB b a h i19)) 0) ≠ a := q_nne (by omega) (by omega) c52
          refine lv_iinc (v := nI (i19 + 1)) (lv' := [(3, .int (nI (i19 + 1))), (0, .ref (mo 0)), (1, .int (nI a)), (2, .int (nI h))]) hx hb dX5_least_57 hl (k := 0) rfl (nI_1 _) (by decide) rfl (fun ls hl => ?_)
          refine lv_goto (tgt := 19) hx hb dX5_least_60 (by decide) ?_
          exact ih19 (i19 + 1) (upN (bg b) (4 * a + h) i19) vx2 ox2 (by omega) (by omega) (by rw [show 100 - (i19 + 1) = 100 - i19 - 1 by omega]; exact lgF_s hL19 (by omega) c52) (fun x => upN_up _ _ _ _) _ _ ls hP hD hS (lv_sub hl [0, 1, 2, 3] rfl)
        · have c52 : (choN (tB b a h i19) (idxT (tB b a h i19)) 0) = a := q_nne' (by omega) (by omega) c52
          refine lv_iload_n hx hb dX5_least_55 rfl (lv_at hl 0 rfl) ?_
          exact q_iret hx hb hr hlocks (w1 := wO C mo (evm kp ty tw pl fl tl) vx2 ox2 ++ ([(mo 1, .inl (C.2.2.1, 82, .inr (.inl (mB b)))), (mo 2, .inl (C.2.2.1, 82, .inr (.inl (mB (tB b a h i19)))))] : va_W)) hP hS rfl dX5_least_56 (⟨_, _, _, by rw [← lgF_hit hL19 (by omega) c52, lgI, if_pos (by omega)], rfl⟩)
  exact K19 (100 + 1 - 0) 0 (bg b) v o (by omega) (by omega) rfl (fun _ => rfl) _ _ ls hP hD hS (lv_sub hl [0, 1, 2, 3] rfl)
set_option maxHeartbeats 4000000 in
set_option maxRecDepth 100000 in
theorem c_X5_even (l : Launch) (C : q_C) (mo : Nat → Nat) (kp ty tw pl fl tl : Int32) (v o : Nat → Nat) (b : Bd) (hU : sumU b ≤ 9999) : q_M C l yX5_even wsX5_even 0 0 [.ref (mo 0)] (wO C mo (evm kp ty tw pl fl tl) v o ++ ([(mo 1, .inl (C.2.2.1, 82, .inr (.inl (mB b))))] : va_W)) (fun r w => r = some (.double (evD b)) ∧ w = wO C mo (evm kp ty tw pl fl tl) v o ++ ([(mo 1, .inl (C.2.2.1, 82, .inr (.inl (mB b))))] : va_W)) := by
  have hb0 := bu_le hU 0 (by decide)
  refine q_head (cc := cX5_even) (maxL := 8) (ret := (some .double)) (by decide +kernel) rfl (Nat.le_of_ble_eq_true rfl) ?_
  intro p e s m below meth c hx hb hr hlocks hml hown hts hK hP hD hS hA ls hl
  have hl : lv_has ls 8 [(0, .ref (mo 0))] := hl
  have hf7 := hts (.fieldLink RX5 7 "RestedArmsModel" "now" "[J") (by decide +kernel)
  have hin5 : ∀ w ∈ u_ws RX5 TX5 13, w ∈ wsX5_even := by decide +kernel
  refine lv_aload_n hx hb dX5_even_0 rfl (lv_at hl 0 rfl) ?_
  refine va_get (ci := 5) (v := .ref (mo 1)) (C := RX5) (T := TX5) (N := 13) hx hb hts hin5 hown hK.1 hP 0 rfl rfl 0 (by decide) hf7 (fun _ h9 => h9) rfl dX5_even_1 ?_
  refine lv_bipush (v := nI 11) hx hb dX5_even_4 (by decide) ?_
  refine q_lald (n := 11) (v := mB b 11) hx hb hK hP 3 rfl (by decide) (by decide) rfl dX5_even_6 ?_
  refine q_tl (y := lN (bu b 0)) (mB_u b (a := 0) (by decide)) ?_
  refine lv_lstore_n (lv' := [(1, .long (lN (bu b 0))), (0, .ref (mo 0))]) hx hb dX5_even_7 rfl hl (by decide) rfl (fun ls hl => ?_)
  refine lv_aload_n hx hb dX5_even_8 rfl (lv_at hl 1 rfl) ?_
  refine va_get (ci := 5) (v := .ref (mo 1)) (C := RX5) (T := TX5) (N := 13) hx hb hts hin5 hown hK.1 hP 0 rfl rfl 0 (by decide) hf7 (fun _ h9 => h9) rfl dX5_even_9 ?_
  refine lv_bipush (v := nI 11) hx hb dX5_even_12 (by decide) ?_
  refine q_lald (n := 11) (v := mB b 11) hx hb hK hP 3 rfl (by decide) (by decide) rfl dX5_even_14 ?_
  refine q_tl (y := lN (bu b 0)) (mB_u b (a := 0) (by decide)) ?_
  refine lv_lstore_n (lv' := [(3, .long (lN (bu b 0))), (1, .long (lN (bu b 0))), (0, .ref (mo 0))]) hx hb dX5_even_15 rfl hl (by decide) rfl (fun ls hl => ?_)
  refine lv_iconst (v := nI 1) hx hb dX5_even_16 (by decide) ?_
  refine lv_istore (lv' := [(5, .int (nI 1)), (3, .long (lN (bu b 0))), (1, .long (lN (bu b 0))), (0, .ref (mo 0))]) hx hb dX5_even_17 hl (by decide) rfl (fun ls hl => ?_)
  have K19 : ∀ (n19 i19 : Nat), ∀ (g19 : Nat) (k19 : Nat), i19 ≤ 3 → 3 + 1 ≤ i19 + n19 → (mnF (bu b) i19 = g19) → (mxF (bu b) i19 = k19) → (g19 ≤ 9999) → (k19 ≤ 9999) → ∀ (H : Heap) (locs : List Loc) (ls : Array Slot), va_P C.1 vwCl (wO C mo (evm kp ty tw pl fl tl) v o ++ ([(mo 1, .inl (C.2.2.1, 82, .inr (.inl (mB b))))] : va_W)) H → va_D (q_A (wO C mo (evm kp ty tw pl fl tl) v o ++ ([(mo 1, .inl (C.2.2.1, 82, .inr (.inl (mB b))))] : va_W)) s) (wO C mo (evm kp ty tw pl fl tl) v o ++ ([(mo 1, .inl (C.2.2.1, 82, .inr (.inl (mB b))))] : va_W)) → va_S (q_A (wO C mo (evm kp ty tw pl fl tl) v o ++ ([(mo 1, .inl (C.2.2.1, 82, .inr (.inl (mB b))))] : va_W)) s) s.heap H locs → lv_has ls 8 [(5, .int (nI (i19 + 1))), (3, .long (lN k19)), (1, .long (lN g19)), (0, .ref (mo 0))] → W p l e (q_R 0 0) s m ([.ref (mo 0)] : List Value).toArray below meth c H locs 0 0 (q_G C below (wO C mo (evm kp ty tw pl fl tl) v o ++ ([(mo 1, .inl (C.2.2.1, 82, .inr (.inl (mB b))))] : va_W)) (fun r w => r = some (.double (evD b)) ∧ w = wO C mo (evm kp ty tw pl fl tl) v o ++ ([(mo 1, .inl (C.2.2.1, 82, .inr (.inl (mB b))))] : va_W)) ([.ref (mo 0)] : List Value).toArray s) (F0 m 19 ls []) := by
    intro n19
    induction n19 with
    | zero => intro i19 g19 k19 q1 q2; exact absurd q2 (by omega)
    | succ n19 ih19 =>
      intro i19 g19 k19 hi19 hn19 hG19 hK19 hg19 hk19 H locs ls hP hD hS hl
      refine lv_iload hx hb dX5_even_19 (lv_at hl 0 rfl) ?_
      refine lv_iconst (v := nI 4) hx hb dX5_even_21 (by decide) ?_
      refine lv_icmp_ge (tgt := 75) hx hb dX5_even_22 (by decide) (fun c22 => ?_) (fun c22 => ?_)
      · have c22 : 4 ≤ (i19 + 1) := q_nge (by omega) (by omega) c22
        have e9 : i19 = 3 := by omega
        subst e9
        refine lv_lload_n hx hb dX5_even_75 rfl (lv_at hl 1 rfl) ?_
        refine lv_lconst (v := lN 0) hx hb dX5_even_76 (by decide) ?_
        refine W.lcmp hx hb dX5_even_77 ?_
        refine lv_if_ne (tgt := 85) hx hb dX5_even_78 (by decide) (fun c78 => ?_) (fun c78 => ?_)
        · have c78 : k19 ≠ 0 := q_Lne (by omega) (by omega) c78
          refine lv_lload_n hx hb dX5_even_85 rfl (lv_at hl 2 rfl) ?_
          refine lv_l2d hx hb dX5_even_86 ?_
          refine lv_lload_n hx hb dX5_even_87 rfl (lv_at hl 1 rfl) ?_
          refine lv_l2d hx hb dX5_even_88 ?_
          refine lv_ddiv hx hb dX5_even_89 (by rw [← hG19, ← hK19]; exact evD_n hU (by rw [hK19]; exact c78)) ?_
          exact q_dret hx hb hr hlocks (w1 := wO C mo (evm kp ty tw pl fl tl) v o ++ ([(mo 1, .inl (C.2.2.1, 82, .inr (.inl (mB b))))] : va_W)) hP hS rfl dX5_even_90 (⟨by rw [evD, if_neg (by rw [hK19]; exact c78), hG19, hK19], rfl⟩)
        · have c78 : k19 = 0 := q_Lne' (by omega) (by omega) c78
          refine lv_dconst1 hx hb dX5_even_81 ?_
          refine lv_goto (tgt := 90) hx hb dX5_even_82 (by decide) ?_
          exact q_dret hx hb hr hlocks (w1 := wO C mo (evm kp ty tw pl fl tl) v o ++ ([(mo 1, .inl (C.2.2.1, 82, .inr (.inl (mB b))))] : va_W)) hP hS rfl dX5_even_90 (⟨by rw [evD, if_pos (by rw [hK19]; exact c78)], rfl⟩)
      · have c22 : (i19 + 1) < 4 := q_nge' (by omega) (by omega) c22
        refine lv_aload_n hx hb dX5_even_25 rfl (lv_at hl 3 rfl) ?_
        refine va_get (ci := 5) (v := .ref (mo 1)) (C := RX5) (T := TX5) (N := 13) hx hb hts hin5 hown hK.1 hP 0 rfl rfl 0 (by decide) hf7 (fun _ h9 => h9) rfl dX5_even_26 ?_
        refine lv_bipush (v := nI 10) hx hb dX5_even_29 (by decide) ?_
        refine lv_iconst (v := nI 2) hx hb dX5_even_31 (by decide) ?_
        refine lv_iload hx hb dX5_even_32 (lv_at hl 0 rfl) ?_
        refine lv_imul hx hb dX5_even_34 ?_
        refine q_ti (y := nI (2 * (i19 + 1))) (pk_mul _ _) ?_
        refine lv_iadd hx hb dX5_even_35 ?_
        refine q_ti (y := nI (10 + (2 * (i19 + 1)))) (nI_add _ _) ?_
        refine lv_iconst (v := nI 1) hx hb dX5_even_36 (by decide) ?_
        refine lv_iadd hx hb dX5_even_37 ?_
        refine q_ti (y := nI ((10 + (2 * (i19 + 1))) + 1)) (nI_add _ _) ?_
        refine q_lald (n := ((10 + (2 * (i19 + 1))) + 1)) (v := mB b ((10 + (2 * (i19 + 1))) + 1)) hx hb hK hP 3 rfl (by omega) (by decide) rfl dX5_even_38 ?_
        refine q_tl (y := lN (bu b (i19 + 1))) (mB_u b (by omega)) ?_
        have hbi := bu_le hU (i19 + 1) (by omega)
        refine lv_lstore (lv' := [(6, .long (lN (bu b (i19 + 1)))), (5, .int (nI (i19 + 1))), (3, .long (lN k19)), (1, .long (lN g19)), (0, .ref (mo 0))]) hx hb dX5_even_39 hl (by decide) rfl (fun ls hl => ?_)
        refine lv_lload hx hb dX5_even_41 (lv_at hl 0 rfl) ?_
        refine lv_lload_n hx hb dX5_even_43 rfl (lv_at hl 3 rfl) ?_
        refine W.lcmp hx hb dX5_even_44 ?_
        refine lv_if_ge (tgt := 53) hx hb dX5_even_45 (by decide) (fun c45 => ?_) (fun c45 => ?_)
        · have c45 : g19 ≤ (bu b (i19 + 1)) := q_Lge (by omega) (by omega) c45
          refine lv_lload_n hx hb dX5_even_53 rfl (lv_at hl 3 rfl) ?_
          refine lv_lstore_n (lv' := [(1, .long (lN g19)), (6, .long (lN (bu b (i19 + 1)))), (5, .int (nI (i19 + 1))), (3, .long (lN k19)), (0, .ref (mo 0))]) hx hb dX5_even_54 rfl hl (by decide) rfl (fun ls hl => ?_)
          refine lv_lload hx hb dX5_even_55 (lv_at hl 1 rfl) ?_
          refine lv_lload_n hx hb dX5_even_57 rfl (lv_at hl 3 rfl) ?_
          refine W.lcmp hx hb dX5_even_58 ?_
          refine lv_if_le (tgt := 67) hx hb dX5_even_59 (by decide) (fun c59 => ?_) (fun c59 => ?_)
          · have c59 : (bu b (i19 + 1)) ≤ k19 := q_Lle (by omega) (by omega) c59
            refine lv_lload_n hx hb dX5_even_67 rfl (lv_at hl 3 rfl) ?_
            refine lv_lstore_n (lv' := [(3, .long (lN k19)), (1, .long (lN g19)), (6, .long (lN (bu b (i19 + 1)))), (5, .int (nI (i19 + 1))), (0, .ref (mo 0))]) hx hb dX5_even_68 rfl hl (by decide) rfl (fun ls hl => ?_)
            refine lv_iinc (v := nI (i19 + 1 + 1)) (lv' := [(5, .int (nI (i19 + 1 + 1))), (3, .long (lN k19)), (1, .long (lN g19)), (6, .long (lN (bu b (i19 + 1)))), (0, .ref (mo 0))]) hx hb dX5_even_69 hl (k := 3) rfl (nI_1 _) (by decide) rfl (fun ls hl => ?_)
            refine lv_goto (tgt := 19) hx hb dX5_even_72 (by decide) ?_
            exact ih19 (i19 + 1) g19 k19 (by omega) (by omega) (by show min (mnF (bu b) i19) (bu b (i19 + 1)) = _; rw [hG19]; exact Nat.min_eq_left (by omega)) (by show max (mxF (bu b) i19) (bu b (i19 + 1)) = _; rw [hK19]; exact Nat.max_eq_left (by omega)) (by omega) (by omega) _ _ ls hP hD hS (lv_sub hl [0, 1, 2, 4] rfl)
          · have c59 : k19 < (bu b (i19 + 1)) := q_Lle' (by omega) (by omega) c59
            refine lv_lload hx hb dX5_even_62 (lv_at hl 1 rfl) ?_
            refine lv_goto (tgt := 68) hx hb dX5_even_64 (by decide) ?_
            refine lv_lstore_n (lv' := [(3, .long (lN (bu b (i19 + 1)))), (1, .long (lN g19)), (6, .long (lN (bu b (i19 + 1)))), (5, .int (nI (i19 + 1))), (0, .ref (mo 0))]) hx hb dX5_even_68 rfl hl (by decide) rfl (fun ls hl => ?_)
            refine lv_iinc (v := nI (i19 + 1 + 1)) (lv' := [(5, .int (nI (i19 + 1 + 1))), (3, .long (lN (bu b (i19 + 1)))), (1, .long (lN g19)), (6, .long (lN (bu b (i19 + 1)))), (0, .ref (mo 0))]) hx hb dX5_even_69 hl (k := 3) rfl (nI_1 _) (by decide) rfl (fun ls hl => ?_)
            refine lv_goto (tgt := 19) hx hb dX5_even_72 (by decide) ?_
            exact ih19 (i19 + 1) g19 (bu b (i19 + 1)) (by omega) (by omega) (by show min (mnF (bu b) i19) (bu b (i19 + 1)) = _; rw [hG19]; exact Nat.min_eq_left (by omega)) (by show max (mxF (bu b) i19) (bu b (i19 + 1)) = _; rw [hK19]; exact Nat.max_eq_right (by omega)) (by omega) (by omega) _ _ ls hP hD hS (lv_sub hl [0, 1, 2, 4] rfl)
        · have c45 : (bu b (i19 + 1)) < g19 := q_Lge' (by omega) (by omega) c45
          refine lv_lload hx hb dX5_even_48 (lv_at hl 0 rfl) ?_
          refine lv_goto (tgt := 54) hx hb dX5_even_50 (by decide) ?_
          refine lv_lstore_n (lv' := [(1, .long (lN (bu b (i19 + 1)))), (6, .long (lN (bu b (i19 + 1)))), (5, .int (nI (i19 + 1))), (3, .long (lN k19)), (0, .ref (mo 0))]) hx hb dX5_even_54 rfl hl (by decide) rfl (fun ls hl => ?_)
          refine lv_lload hx hb dX5_even_55 (lv_at hl 1 rfl) ?_
          refine lv_lload_n hx hb dX5_even_57 rfl (lv_at hl 3 rfl) ?_
          refine W.lcmp hx hb dX5_even_58 ?_
          refine lv_if_le (tgt := 67) hx hb dX5_even_59 (by decide) (fun c59 => ?_) (fun c59 => ?_)
          · have c59 : (bu b (i19 + 1)) ≤ k19 := q_Lle (by omega) (by omega) c59
            refine lv_lload_n hx hb dX5_even_67 rfl (lv_at hl 3 rfl) ?_
            refine lv_lstore_n (lv' := [(3, .long (lN k19)), (1, .long (lN (bu b (i19 + 1)))), (6, .long (lN (bu b (i19 + 1)))), (5, .int (nI (i19 + 1))), (0, .ref (mo 0))]) hx hb dX5_even_68 rfl hl (by decide) rfl (fun ls hl => ?_)
            refine lv_iinc (v := nI (i19 + 1 + 1)) (lv' := [(5, .int (nI (i19 + 1 + 1))), (3, .long (lN k19)), (1, .long (lN (bu b (i19 + 1)))), (6, .long (lN (bu b (i19 + 1)))), (0, .ref (mo 0))]) hx hb dX5_even_69 hl (k := 3) rfl (nI_1 _) (by decide) rfl (fun ls hl => ?_)
            refine lv_goto (tgt := 19) hx hb dX5_even_72 (by decide) ?_
            exact ih19 (i19 + 1) (bu b (i19 + 1)) k19 (by omega) (by omega) (by show min (mnF (bu b) i19) (bu b (i19 + 1)) = _; rw [hG19]; exact Nat.min_eq_right (by omega)) (by show max (mxF (bu b) i19) (bu b (i19 + 1)) = _; rw [hK19]; exact Nat.max_eq_left (by omega)) (by omega) (by omega) _ _ ls hP hD hS (lv_sub hl [0, 1, 2, 4] rfl)
          · have c59 : k19 < (bu b (i19 + 1)) := q_Lle' (by omega) (by omega) c59
            refine lv_lload hx hb dX5_even_62 (lv_at hl 1 rfl) ?_
            refine lv_goto (tgt := 68) hx hb dX5_even_64 (by decide) ?_
            refine lv_lstore_n (lv' := [(3, .long (lN (bu b (i19 + 1)))), (1, .long (lN (bu b (i19 + 1)))), (6, .long (lN (bu b (i19 + 1)))), (5, .int (nI (i19 + 1))), (0, .ref (mo 0))]) hx hb dX5_even_68 rfl hl (by decide) rfl (fun ls hl => ?_)
            refine lv_iinc (v := nI (i19 + 1 + 1)) (lv' := [(5, .int (nI (i19 + 1 + 1))), (3, .long (lN (bu b (i19 + 1)))), (1, .long (lN (bu b (i19 + 1)))), (6, .long (lN (bu b (i19 + 1)))), (0, .ref (mo 0))]) hx hb dX5_even_69 hl (k := 3) rfl (nI_1 _) (by decide) rfl (fun ls hl => ?_)
            refine lv_goto (tgt := 19) hx hb dX5_even_72 (by decide) ?_
            exact ih19 (i19 + 1) (bu b (i19 + 1)) (bu b (i19 + 1)) (by omega) (by omega) (by show min (mnF (bu b) i19) (bu b (i19 + 1)) = _; rw [hG19]; exact Nat.min_eq_right (by omega)) (by show max (mxF (bu b) i19) (bu b (i19 + 1)) = _; rw [hK19]; exact Nat.max_eq_right (by omega)) (by omega) (by omega) _ _ ls hP hD hS (lv_sub hl [0, 1, 2, 4] rfl)
  exact K19 (3 + 1 - 0) 0 (bu b 0) (bu b 0) (by omega) (by omega) rfl rfl hb0 hb0 _ _ ls hP hD hS (lv_sub hl [0, 1, 2, 3] rfl)
