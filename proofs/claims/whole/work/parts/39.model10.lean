/-! the model: its looks -/
set_option maxHeartbeats 4000000 in
set_option maxRecDepth 100000 in
theorem c1_X5_stateOf (l : Launch) (C : q_C) (mo : Nat → Nat) (kp ty tw pl fl tl : Int32) (v o : Nat → Nat) (x y z : Int32) (hxx : (decide (nI 0 ≤ x ∧ x ≤ nI 3) && decide (nI 0 ≤ y ∧ y ≤ nI 3)) = false) : q_M C l yX5_stateOf wsX5_stateOf 2 43 [.ref (mo 0), .int x, .int y, .int z] (wO C mo (evm kp ty tw pl fl tl) v o) (fun r w => r = some (.int (nI 0)) ∧ w = wO C mo (evm kp ty (nI 1) pl fl tl) v o) := by
  refine q_head (cc := cX5_stateOf) (maxL := 4) (ret := (some .int)) (by decide +kernel) rfl (Nat.le_of_ble_eq_true rfl) ?_
  intro p e s m below meth c hx hb hr hlocks hml hown hts hK hP hD hS hA ls hl
  have hl : lv_has ls 4 [(0, .ref (mo 0)), (1, .int x), (2, .int y), (3, .int z)] := hl
  have hf42 := hts (.fieldLink RX5 42 "RestedArmsModel" "thrown" "I") (by decide +kernel)
  have hin5 : ∀ w ∈ u_ws RX5 TX5 13, w ∈ wsX5_stateOf := by decide +kernel
  refine lv_aload_n hx hb dX5_stateOf_0 rfl (lv_at hl 0 rfl) ?_
  refine lv_iconst (v := nI 0) hx hb dX5_stateOf_1 (by decide) ?_
  refine va_put (ci := 5) (v := .int (nI 0)) (ty := .int) (C := RX5) (T := TX5) (N := 13) hx hb hts hin5 tyX5 tyX5_ok nmX5 hown hK.1 hP hD hS 0 rfl rfl 6 (by decide) hf42 (fun _ h9 => h9) rfl (by decide +kernel) rfl rfl (Nat.le_of_ble_eq_true rfl) dX5_stateOf_2 (fun H locs hP hD hS => ?_)
  have hP : va_P C.1 vwCl (wO C mo (evm kp ty (nI 0) pl fl tl) v o) H := hP
  have hD : va_D (q_A (wO C mo (evm kp ty tw pl fl tl) v o) s) (wO C mo (evm kp ty (nI 0) pl fl tl) v o) := hD
  refine lv_iload_n hx hb dX5_stateOf_5 rfl (lv_at hl 1 rfl) ?_
  refine q_S (As := [.int x]) (rest := []) ⟨hx, hb, hml, hown, hts⟩ (c_X5_isArm l C x) (va_cwS 1 hts gX5_stateOf_X5_isArm rfl rfl rfl (by decide +kernel) ⟨Nat.le_of_ble_eq_true rfl, Nat.le_of_ble_eq_true rfl⟩) hK hP hD hS hA [] (by decide) rfl rfl hl.1 rfl (Nat.le_of_ble_eq_true rfl) dX5_stateOf_6 (Nat.zero_le _) (Nat.zero_le _) (fun r w1 H locs hQ hP hD hS => ?_)
  obtain ⟨rfl, rfl⟩ := hQ
  refine W.eq (g2 := F0 m 9 ls [.int (q_b (decide (nI 0 ≤ x ∧ x ≤ nI 3)))]) rfl ?_
  refine lv_if_eq (tgt := 19) hx hb dX5_stateOf_9 (by decide) (fun c9 => ?_) (fun c9 => ?_)
  · have c9 : decide (nI 0 ≤ x ∧ x ≤ nI 3) = false := q_b0.mp c9
    refine lv_aload_n hx hb dX5_stateOf_19 rfl (lv_at hl 0 rfl) ?_
    refine lv_iconst (v := nI 1) hx hb dX5_stateOf_20 (by decide) ?_
    refine q_V (As := [.int (nI 1)]) (rest := []) ⟨hx, hb, hml, hown, hts⟩ (c_X5_fails l C mo kp ty (nI 0) pl fl tl v o 1) (cwV 1 hts gX5_stateOf_X5_fails rfl rfl rfl (by decide +kernel) ⟨Nat.le_of_ble_eq_true rfl, Nat.le_of_ble_eq_true rfl⟩) hK hP hD hS hA [0, 1, 2] (by decide) rfl 0 rfl rfl rfl rfl hl.1 rfl (Nat.le_of_ble_eq_true rfl) dX5_stateOf_21 (Nat.zero_le _) (Nat.zero_le _) (fun r w1 H locs hQ hP hD hS => ?_)
    obtain ⟨rfl, rfl⟩ := hQ
    have hP : va_P C.1 vwCl (wO C mo (evm kp ty (nI 1) pl fl tl) v o) H := hP
    have hD : va_D (q_A (wO C mo (evm kp ty tw pl fl tl) v o) s) (wO C mo (evm kp ty (nI 1) pl fl tl) v o) := hD
    refine W.eq (g2 := F0 m 24 ls [.int (nI 0)]) rfl ?_
    exact q_iret hx hb hr hlocks (w1 := wO C mo (evm kp ty (nI 1) pl fl tl) v o) hP hS rfl dX5_stateOf_24 (⟨rfl, rfl⟩)
  · have c9 : decide (nI 0 ≤ x ∧ x ≤ nI 3) = true := q_b1.mp c9
    refine lv_iload_n hx hb dX5_stateOf_12 rfl (lv_at hl 2 rfl) ?_
    refine q_S (As := [.int y]) (rest := []) ⟨hx, hb, hml, hown, hts⟩ (c_X5_isState l C y) (va_cwS 1 hts gX5_stateOf_X5_isState rfl rfl rfl (by decide +kernel) ⟨Nat.le_of_ble_eq_true rfl, Nat.le_of_ble_eq_true rfl⟩) hK hP hD hS hA [] (by decide) rfl rfl hl.1 rfl (Nat.le_of_ble_eq_true rfl) dX5_stateOf_13 (Nat.zero_le _) (Nat.zero_le _) (fun r w1 H locs hQ hP hD hS => ?_)
    obtain ⟨rfl, rfl⟩ := hQ
    refine W.eq (g2 := F0 m 16 ls [.int (q_b (decide (nI 0 ≤ y ∧ y ≤ nI 3)))]) rfl ?_
    refine lv_if_ne (tgt := 25) hx hb dX5_stateOf_16 (by decide) (fun c16 => ?_) (fun c16 => ?_)
    · have c16 : decide (nI 0 ≤ y ∧ y ≤ nI 3) = true := q_b1.mp c16
      exact absurd hxx (by rw [c9, c16]; decide)
    have c16 : decide (nI 0 ≤ y ∧ y ≤ nI 3) = false := q_b0.mp c16
    refine lv_aload_n hx hb dX5_stateOf_19 rfl (lv_at hl 0 rfl) ?_
    refine lv_iconst (v := nI 1) hx hb dX5_stateOf_20 (by decide) ?_
    refine q_V (As := [.int (nI 1)]) (rest := []) ⟨hx, hb, hml, hown, hts⟩ (c_X5_fails l C mo kp ty (nI 0) pl fl tl v o 1) (cwV 1 hts gX5_stateOf_X5_fails rfl rfl rfl (by decide +kernel) ⟨Nat.le_of_ble_eq_true rfl, Nat.le_of_ble_eq_true rfl⟩) hK hP hD hS hA [0, 1, 2] (by decide) rfl 0 rfl rfl rfl rfl hl.1 rfl (Nat.le_of_ble_eq_true rfl) dX5_stateOf_21 (Nat.zero_le _) (Nat.zero_le _) (fun r w1 H locs hQ hP hD hS => ?_)
    obtain ⟨rfl, rfl⟩ := hQ
    have hP : va_P C.1 vwCl (wO C mo (evm kp ty (nI 1) pl fl tl) v o) H := hP
    have hD : va_D (q_A (wO C mo (evm kp ty tw pl fl tl) v o) s) (wO C mo (evm kp ty (nI 1) pl fl tl) v o) := hD
    refine W.eq (g2 := F0 m 24 ls [.int (nI 0)]) rfl ?_
    exact q_iret hx hb hr hlocks (w1 := wO C mo (evm kp ty (nI 1) pl fl tl) v o) hP hS rfl dX5_stateOf_24 (⟨rfl, rfl⟩)
set_option maxHeartbeats 4000000 in
set_option maxRecDepth 100000 in
theorem c2_X5_stateOf (l : Launch) (C : q_C) (mo : Nat → Nat) (kp ty tw pl fl tl : Int32) (v o : Nat → Nat) (a t : Nat) (z : Int32) (ha : a < 4) (ht : t < 4) (hxx : decide (nI 0 ≤ z ∧ z ≤ nI 4) = false) : q_M C l yX5_stateOf wsX5_stateOf 2 43 [.ref (mo 0), .int (nI a), .int (nI t), .int z] (wO C mo (evm kp ty tw pl fl tl) v o) (fun r w => r = some (.int (nI 0)) ∧ w = wO C mo (evm kp ty (nI 2) pl fl tl) v o) := by
  refine q_head (cc := cX5_stateOf) (maxL := 4) (ret := (some .int)) (by decide +kernel) rfl (Nat.le_of_ble_eq_true rfl) ?_
  intro p e s m below meth c hx hb hr hlocks hml hown hts hK hP hD hS hA ls hl
  have hl : lv_has ls 4 [(0, .ref (mo 0)), (1, .int (nI a)), (2, .int (nI t)), (3, .int z)] := hl
  have hf42 := hts (.fieldLink RX5 42 "RestedArmsModel" "thrown" "I") (by decide +kernel)
  have hin5 : ∀ w ∈ u_ws RX5 TX5 13, w ∈ wsX5_stateOf := by decide +kernel
  refine lv_aload_n hx hb dX5_stateOf_0 rfl (lv_at hl 0 rfl) ?_
  refine lv_iconst (v := nI 0) hx hb dX5_stateOf_1 (by decide) ?_
  refine va_put (ci := 5) (v := .int (nI 0)) (ty := .int) (C := RX5) (T := TX5) (N := 13) hx hb hts hin5 tyX5 tyX5_ok nmX5 hown hK.1 hP hD hS 0 rfl rfl 6 (by decide) hf42 (fun _ h9 => h9) rfl (by decide +kernel) rfl rfl (Nat.le_of_ble_eq_true rfl) dX5_stateOf_2 (fun H locs hP hD hS => ?_)
  have hP : va_P C.1 vwCl (wO C mo (evm kp ty (nI 0) pl fl tl) v o) H := hP
  have hD : va_D (q_A (wO C mo (evm kp ty tw pl fl tl) v o) s) (wO C mo (evm kp ty (nI 0) pl fl tl) v o) := hD
  refine lv_iload_n hx hb dX5_stateOf_5 rfl (lv_at hl 1 rfl) ?_
  refine q_S (As := [.int (nI a)]) (rest := []) ⟨hx, hb, hml, hown, hts⟩ (c_X5_isArm l C (nI a)) (va_cwS 1 hts gX5_stateOf_X5_isArm rfl rfl rfl (by decide +kernel) ⟨Nat.le_of_ble_eq_true rfl, Nat.le_of_ble_eq_true rfl⟩) hK hP hD hS hA [] (by decide) rfl rfl hl.1 rfl (Nat.le_of_ble_eq_true rfl) dX5_stateOf_6 (Nat.zero_le _) (Nat.zero_le _) (fun r w1 H locs hQ hP hD hS => ?_)
  obtain ⟨rfl, rfl⟩ := hQ
  refine W.eq (g2 := F0 m 9 ls [.int (q_b (decide (nI 0 ≤ (nI a) ∧ (nI a) ≤ nI 3)))]) rfl ?_
  refine lv_if_eq (tgt := 19) hx hb dX5_stateOf_9 (by decide) (fun c9 => ?_) (fun c9 => ?_)
  · have c9 : decide (nI 0 ≤ (nI a) ∧ (nI a) ≤ nI 3) = false := q_b0.mp c9
    exact absurd (c9.symm.trans (inT (by omega) (by omega) (by decide))) (by decide)
  have c9 : decide (nI 0 ≤ (nI a) ∧ (nI a) ≤ nI 3) = true := q_b1.mp c9
  refine lv_iload_n hx hb dX5_stateOf_12 rfl (lv_at hl 2 rfl) ?_
  refine q_S (As := [.int (nI t)]) (rest := []) ⟨hx, hb, hml, hown, hts⟩ (c_X5_isState l C (nI t)) (va_cwS 1 hts gX5_stateOf_X5_isState rfl rfl rfl (by decide +kernel) ⟨Nat.le_of_ble_eq_true rfl, Nat.le_of_ble_eq_true rfl⟩) hK hP hD hS hA [] (by decide) rfl rfl hl.1 rfl (Nat.le_of_ble_eq_true rfl) dX5_stateOf_13 (Nat.zero_le _) (Nat.zero_le _) (fun r w1 H locs hQ hP hD hS => ?_)
  obtain ⟨rfl, rfl⟩ := hQ
  refine W.eq (g2 := F0 m 16 ls [.int (q_b (decide (nI 0 ≤ (nI t) ∧ (nI t) ≤ nI 3)))]) rfl ?_
  refine lv_if_ne (tgt := 25) hx hb dX5_stateOf_16 (by decide) (fun c16 => ?_) (fun c16 => ?_)
  · have c16 : decide (nI 0 ≤ (nI t) ∧ (nI t) ≤ nI 3) = true := q_b1.mp c16
    refine lv_iload_n hx hb dX5_stateOf_25 rfl (lv_at hl 3 rfl) ?_
    refine lv_i2l (v := z.toInt64) hx hb dX5_stateOf_26 rfl ?_
    refine lv_iconst (v := nI 0) hx hb dX5_stateOf_27 (by decide) ?_
    refine lv_iconst (v := nI 4) hx hb dX5_stateOf_28 (by decide) ?_
    refine q_S (As := [.long z.toInt64, .int (nI 0), .int (nI 4)]) (rest := []) ⟨hx, hb, hml, hown, hts⟩ (c_in32 l C z (nI 0) (nI 4)) (va_cwS 3 hts gX5_stateOf_X5_in rfl rfl rfl (by decide +kernel) ⟨Nat.le_of_ble_eq_true rfl, Nat.le_of_ble_eq_true rfl⟩) hK hP hD hS hA [] (by decide) rfl rfl hl.1 rfl (Nat.le_of_ble_eq_true rfl) dX5_stateOf_29 (Nat.zero_le _) (Nat.zero_le _) (fun r w1 H locs hQ hP hD hS => ?_)
    obtain ⟨rfl, rfl⟩ := hQ
    refine W.eq (g2 := F0 m 32 ls [.int (q_b (decide (nI 0 ≤ z ∧ z ≤ nI 4)))]) rfl ?_
    refine lv_if_eq (tgt := 45) hx hb dX5_stateOf_32 (by decide) (fun c32 => ?_) (fun c32 => ?_)
    · have c32 : decide (nI 0 ≤ z ∧ z ≤ nI 4) = false := q_b0.mp c32
      refine lv_aload_n hx hb dX5_stateOf_45 rfl (lv_at hl 0 rfl) ?_
      refine lv_iconst (v := nI 2) hx hb dX5_stateOf_46 (by decide) ?_
      refine q_V (As := [.int (nI 2)]) (rest := []) ⟨hx, hb, hml, hown, hts⟩ (c_X5_fails l C mo kp ty (nI 0) pl fl tl v o 2) (cwV 1 hts gX5_stateOf_X5_fails rfl rfl rfl (by decide +kernel) ⟨Nat.le_of_ble_eq_true rfl, Nat.le_of_ble_eq_true rfl⟩) hK hP hD hS hA [0, 1, 2] (by decide) rfl 0 rfl rfl rfl rfl hl.1 rfl (Nat.le_of_ble_eq_true rfl) dX5_stateOf_47 (Nat.zero_le _) (Nat.zero_le _) (fun r w1 H locs hQ hP hD hS => ?_)
      obtain ⟨rfl, rfl⟩ := hQ
      have hP : va_P C.1 vwCl (wO C mo (evm kp ty (nI 2) pl fl tl) v o) H := hP
      have hD : va_D (q_A (wO C mo (evm kp ty tw pl fl tl) v o) s) (wO C mo (evm kp ty (nI 2) pl fl tl) v o) := hD
      refine W.eq (g2 := F0 m 50 ls [.int (nI 0)]) rfl ?_
      exact q_iret hx hb hr hlocks (w1 := wO C mo (evm kp ty (nI 2) pl fl tl) v o) hP hS rfl dX5_stateOf_50 (⟨rfl, rfl⟩)
    · have c32 : decide (nI 0 ≤ z ∧ z ≤ nI 4) = true := q_b1.mp c32
      exact absurd hxx (by rw [c32]; decide)
  · have c16 : decide (nI 0 ≤ (nI t) ∧ (nI t) ≤ nI 3) = false := q_b0.mp c16
    exact absurd (c16.symm.trans (inT (by omega) (by omega) (by decide))) (by decide)
set_option maxHeartbeats 4000000 in
set_option maxRecDepth 100000 in
theorem c_X5_stateOf (l : Launch) (C : q_C) (mo : Nat → Nat) (kp ty tw pl fl tl : Int32) (v o : Nat → Nat) (b : Bd) (a t k : Nat) (hB : OkB b) (ha : a < 4) (ht : t < 4) (hk : k < 5) : q_M C l yX5_stateOf wsX5_stateOf 3 71 [.ref (mo 0), .int (nI a), .int (nI t), .int (nI k)] (wO C mo (evm kp ty tw pl fl tl) v o ++ ([(mo 1, .inl (C.2.2.1, 82, .inr (.inl (mB b))))] : va_W)) (fun r w1 => r = some (.int (nI (osN b a t k))) ∧ w1 = wO C mo (evm kp ty (nI 0) pl fl tl) v o ++ ([(mo 1, .inl (C.2.2.1, 82, .inr (.inl (mB b))))] : va_W)) := by
  refine q_head (cc := cX5_stateOf) (maxL := 4) (ret := (some .int)) (by decide +kernel) rfl (Nat.le_of_ble_eq_true rfl) ?_
  intro p e s m below meth c hx hb hr hlocks hml hown hts hK hP hD hS hA ls hl
  have hl : lv_has ls 4 [(0, .ref (mo 0)), (1, .int (nI a)), (2, .int (nI t)), (3, .int (nI k))] := hl
  have hf42 := hts (.fieldLink RX5 42 "RestedArmsModel" "thrown" "I") (by decide +kernel)
  have hin5 : ∀ w ∈ u_ws RX5 TX5 13, w ∈ wsX5_stateOf := by decide +kernel
  refine lv_aload_n hx hb dX5_stateOf_0 rfl (lv_at hl 0 rfl) ?_
  refine lv_iconst (v := nI 0) hx hb dX5_stateOf_1 (by decide) ?_
  refine va_put (ci := 5) (v := .int (nI 0)) (ty := .int) (C := RX5) (T := TX5) (N := 13) hx hb hts hin5 tyX5 tyX5_ok nmX5 hown hK.1 hP hD hS 0 rfl rfl 6 (by decide) hf42 (fun _ h9 => h9) rfl (by decide +kernel) rfl rfl (Nat.le_of_ble_eq_true rfl) dX5_stateOf_2 (fun H locs hP hD hS => ?_)
  have hP : va_P C.1 vwCl (wO C mo (evm kp ty (nI 0) pl fl tl) v o ++ ([(mo 1, .inl (C.2.2.1, 82, .inr (.inl (mB b))))] : va_W)) H := hP
  have hD : va_D (q_A (wO C mo (evm kp ty tw pl fl tl) v o ++ ([(mo 1, .inl (C.2.2.1, 82, .inr (.inl (mB b))))] : va_W)) s) (wO C mo (evm kp ty (nI 0) pl fl tl) v o ++ ([(mo 1, .inl (C.2.2.1, 82, .inr (.inl (mB b))))] : va_W)) := hD
  refine lv_iload_n hx hb dX5_stateOf_5 rfl (lv_at hl 1 rfl) ?_
  refine q_S (As := [.int (nI a)]) (rest := []) ⟨hx, hb, hml, hown, hts⟩ (c_X5_isArm l C (nI a)) (va_cwS 1 hts gX5_stateOf_X5_isArm rfl rfl rfl (by decide +kernel) ⟨Nat.le_of_ble_eq_true rfl, Nat.le_of_ble_eq_true rfl⟩) hK hP hD hS hA [] (by decide) rfl rfl hl.1 rfl (Nat.le_of_ble_eq_true rfl) dX5_stateOf_6 (Nat.zero_le _) (Nat.zero_le _) (fun r w1 H locs hQ hP hD hS => ?_)
  obtain ⟨rfl, rfl⟩ := hQ
  refine W.eq (g2 := F0 m 9 ls [.int (q_b (decide (nI 0 ≤ (nI a) ∧ (nI a) ≤ nI 3)))]) rfl ?_
  refine lv_if_eq (tgt := 19) hx hb dX5_stateOf_9 (by decide) (fun c9 => ?_) (fun c9 => ?_)
  · have c9 : decide (nI 0 ≤ (nI a) ∧ (nI a) ≤ nI 3) = false := q_b0.mp c9
    exact absurd (c9.symm.trans (inT (by omega) (by omega) (by decide))) (by decide)
  have c9 : decide (nI 0 ≤ (nI a) ∧ (nI a) ≤ nI 3) = true := q_b1.mp c9
  refine lv_iload_n hx hb dX5_stateOf_12 rfl (lv_at hl 2 rfl) ?_
  refine q_S (As := [.int (nI t)]) (rest := []) ⟨hx, hb, hml, hown, hts⟩ (c_X5_isState l C (nI t)) (va_cwS 1 hts gX5_stateOf_X5_isState rfl rfl rfl (by decide +kernel) ⟨Nat.le_of_ble_eq_true rfl, Nat.le_of_ble_eq_true rfl⟩) hK hP hD hS hA [] (by decide) rfl rfl hl.1 rfl (Nat.le_of_ble_eq_true rfl) dX5_stateOf_13 (Nat.zero_le _) (Nat.zero_le _) (fun r w1 H locs hQ hP hD hS => ?_)
  obtain ⟨rfl, rfl⟩ := hQ
  refine W.eq (g2 := F0 m 16 ls [.int (q_b (decide (nI 0 ≤ (nI t) ∧ (nI t) ≤ nI 3)))]) rfl ?_
  refine lv_if_ne (tgt := 25) hx hb dX5_stateOf_16 (by decide) (fun c16 => ?_) (fun c16 => ?_)
  · have c16 : decide (nI 0 ≤ (nI t) ∧ (nI t) ≤ nI 3) = true := q_b1.mp c16
    refine lv_iload_n hx hb dX5_stateOf_25 rfl (lv_at hl 3 rfl) ?_
    refine lv_i2l (v := lN k) hx hb dX5_stateOf_26 (nI_l (by omega)) ?_
    refine lv_iconst (v := nI 0) hx hb dX5_stateOf_27 (by decide) ?_
    refine lv_iconst (v := nI 4) hx hb dX5_stateOf_28 (by decide) ?_
    refine q_S (As := [.long (lN k), .int (nI 0), .int (nI 4)]) (rest := []) ⟨hx, hb, hml, hown, hts⟩ (c_inN l C k 0 4 (by omega) (by omega) (by omega)) (va_cwS 3 hts gX5_stateOf_X5_in rfl rfl rfl (by decide +kernel) ⟨Nat.le_of_ble_eq_true rfl, Nat.le_of_ble_eq_true rfl⟩) hK hP hD hS hA [] (by decide) rfl rfl hl.1 rfl (Nat.le_of_ble_eq_true rfl) dX5_stateOf_29 (Nat.zero_le _) (Nat.zero_le _) (fun r w1 H locs hQ hP hD hS => ?_)
    obtain ⟨rfl, rfl⟩ := hQ
    refine W.eq (g2 := F0 m 32 ls [.int (q_b (decide (0 ≤ k ∧ k ≤ 4)))]) rfl ?_
    refine lv_if_eq (tgt := 45) hx hb dX5_stateOf_32 (by decide) (fun c32 => ?_) (fun c32 => ?_)
    · have c32 : decide (0 ≤ k ∧ k ≤ 4) = false := q_b0.mp c32
      exact absurd (show _ ∧ _ from ⟨by omega, by omega⟩) (of_decide_eq_false c32)
    have c32 : decide (0 ≤ k ∧ k ≤ 4) = true := q_b1.mp c32
    refine lv_aload_n hx hb dX5_stateOf_35 rfl (lv_at hl 0 rfl) ?_
    refine lv_iload_n hx hb dX5_stateOf_36 rfl (lv_at hl 1 rfl) ?_
    refine lv_iload_n hx hb dX5_stateOf_37 rfl (lv_at hl 2 rfl) ?_
    refine lv_iload_n hx hb dX5_stateOf_38 rfl (lv_at hl 3 rfl) ?_
    refine q_V (As := [.int (nI a), .int (nI t), .int (nI k)]) (rest := []) ⟨hx, hb, hml, hown, hts⟩ (c_X5_ofState l C mo kp ty (nI 0) pl fl tl v o b a t k hB (by omega) (by omega) (by omega)) (cwV 3 hts gX5_stateOf_X5_ofState rfl rfl rfl (by decide +kernel) ⟨Nat.le_of_ble_eq_true rfl, Nat.le_of_ble_eq_true rfl⟩) hK hP hD hS hA [0, 1, 2, 3] (by decide) rfl 0 rfl rfl rfl rfl hl.1 rfl (Nat.le_of_ble_eq_true rfl) dX5_stateOf_39 (Nat.zero_le _) (Nat.zero_le _) (fun r w1 H locs hQ hP hD hS => ?_)
    obtain ⟨rfl, rfl⟩ := hQ
    have hP : va_P C.1 vwCl (wO C mo (evm kp ty (nI 0) pl fl tl) v o ++ ([(mo 1, .inl (C.2.2.1, 82, .inr (.inl (mB b))))] : va_W)) H := hP
    have hD : va_D (q_A (wO C mo (evm kp ty tw pl fl tl) v o ++ ([(mo 1, .inl (C.2.2.1, 82, .inr (.inl (mB b))))] : va_W)) s) (wO C mo (evm kp ty (nI 0) pl fl tl) v o ++ ([(mo 1, .inl (C.2.2.1, 82, .inr (.inl (mB b))))] : va_W)) := hD
    refine W.eq (g2 := F0 m 42 ls [.int (nI (osN b a t k))]) rfl ?_
    refine lv_goto (tgt := 50) hx hb dX5_stateOf_42 (by decide) ?_
    exact q_iret hx hb hr hlocks (w1 := wO C mo (evm kp ty (nI 0) pl fl tl) v o ++ ([(mo 1, .inl (C.2.2.1, 82, .inr (.inl (mB b))))] : va_W)) hP hS rfl dX5_stateOf_50 (⟨rfl, rfl⟩)
  · have c16 : decide (nI 0 ≤ (nI t) ∧ (nI t) ≤ nI 3) = false := q_b0.mp c16
    exact absurd (c16.symm.trans (inT (by omega) (by omega) (by decide))) (by decide)
set_option maxHeartbeats 4000000 in
set_option maxRecDepth 100000 in
theorem c1_X5_index (l : Launch) (C : q_C) (mo : Nat → Nat) (kp ty tw pl fl tl : Int32) (v o : Nat → Nat) (x y : Int32) (hxx : (decide (nI 0 ≤ x ∧ x ≤ nI 3) && decide (nI 0 ≤ y ∧ y ≤ nI 3)) = false) : q_M C l yX5_index wsX5_index 2 43 [.ref (mo 0), .int x, .int y] (wO C mo (evm kp ty tw pl fl tl) v o) (fun r w => r = some (.long (lN 0)) ∧ w = wO C mo (evm kp ty (nI 1) pl fl tl) v o) := by
  refine q_head (cc := cX5_index) (maxL := 3) (ret := (some .long)) (by decide +kernel) rfl (Nat.le_of_ble_eq_true rfl) ?_
  intro p e s m below meth c hx hb hr hlocks hml hown hts hK hP hD hS hA ls hl
  have hl : lv_has ls 3 [(0, .ref (mo 0)), (1, .int x), (2, .int y)] := hl
  have hf42 := hts (.fieldLink RX5 42 "RestedArmsModel" "thrown" "I") (by decide +kernel)
  have hin5 : ∀ w ∈ u_ws RX5 TX5 13, w ∈ wsX5_index := by decide +kernel
  refine lv_aload_n hx hb dX5_index_0 rfl (lv_at hl 0 rfl) ?_
  refine lv_iconst (v := nI 0) hx hb dX5_index_1 (by decide) ?_
  refine va_put (ci := 5) (v := .int (nI 0)) (ty := .int) (C := RX5) (T := TX5) (N := 13) hx hb hts hin5 tyX5 tyX5_ok nmX5 hown hK.1 hP hD hS 0 rfl rfl 6 (by decide) hf42 (fun _ h9 => h9) rfl (by decide +kernel) rfl rfl (Nat.le_of_ble_eq_true rfl) dX5_index_2 (fun H locs hP hD hS => ?_)
  have hP : va_P C.1 vwCl (wO C mo (evm kp ty (nI 0) pl fl tl) v o) H := hP
  have hD : va_D (q_A (wO C mo (evm kp ty tw pl fl tl) v o) s) (wO C mo (evm kp ty (nI 0) pl fl tl) v o) := hD
  refine lv_iload_n hx hb dX5_index_5 rfl (lv_at hl 1 rfl) ?_
  refine q_S (As := [.int x]) (rest := []) ⟨hx, hb, hml, hown, hts⟩ (c_X5_isArm l C x) (va_cwS 1 hts gX5_index_X5_isArm rfl rfl rfl (by decide +kernel) ⟨Nat.le_of_ble_eq_true rfl, Nat.le_of_ble_eq_true rfl⟩) hK hP hD hS hA [] (by decide) rfl rfl hl.1 rfl (Nat.le_of_ble_eq_true rfl) dX5_index_6 (Nat.zero_le _) (Nat.zero_le _) (fun r w1 H locs hQ hP hD hS => ?_)
  obtain ⟨rfl, rfl⟩ := hQ
  refine W.eq (g2 := F0 m 9 ls [.int (q_b (decide (nI 0 ≤ x ∧ x ≤ nI 3)))]) rfl ?_
  refine lv_if_eq (tgt := 32) hx hb dX5_index_9 (by decide) (fun c9 => ?_) (fun c9 => ?_)
  · have c9 : decide (nI 0 ≤ x ∧ x ≤ nI 3) = false := q_b0.mp c9
    refine lv_aload_n hx hb dX5_index_32 rfl (lv_at hl 0 rfl) ?_
    refine lv_iconst (v := nI 1) hx hb dX5_index_33 (by decide) ?_
    refine q_V (As := [.int (nI 1)]) (rest := []) ⟨hx, hb, hml, hown, hts⟩ (c_X5_fails l C mo kp ty (nI 0) pl fl tl v o 1) (cwV 1 hts gX5_index_X5_fails rfl rfl rfl (by decide +kernel) ⟨Nat.le_of_ble_eq_true rfl, Nat.le_of_ble_eq_true rfl⟩) hK hP hD hS hA [0, 1, 2] (by decide) rfl 0 rfl rfl rfl rfl hl.1 rfl (Nat.le_of_ble_eq_true rfl) dX5_index_34 (Nat.zero_le _) (Nat.zero_le _) (fun r w1 H locs hQ hP hD hS => ?_)
    obtain ⟨rfl, rfl⟩ := hQ
    have hP : va_P C.1 vwCl (wO C mo (evm kp ty (nI 1) pl fl tl) v o) H := hP
    have hD : va_D (q_A (wO C mo (evm kp ty tw pl fl tl) v o) s) (wO C mo (evm kp ty (nI 1) pl fl tl) v o) := hD
    refine W.eq (g2 := F0 m 37 ls [.int (nI 0)]) rfl ?_
    refine lv_i2l (v := lN 0) hx hb dX5_index_37 (by decide) ?_
    exact q_lret hx hb hr hlocks (w1 := wO C mo (evm kp ty (nI 1) pl fl tl) v o) hP hS rfl dX5_index_38 (⟨rfl, rfl⟩)
  · have c9 : decide (nI 0 ≤ x ∧ x ≤ nI 3) = true := q_b1.mp c9
    refine lv_iload_n hx hb dX5_index_12 rfl (lv_at hl 2 rfl) ?_
    refine q_S (As := [.int y]) (rest := []) ⟨hx, hb, hml, hown, hts⟩ (c_X5_isState l C y) (va_cwS 1 hts gX5_index_X5_isState rfl rfl rfl (by decide +kernel) ⟨Nat.le_of_ble_eq_true rfl, Nat.le_of_ble_eq_true rfl⟩) hK hP hD hS hA [] (by decide) rfl rfl hl.1 rfl (Nat.le_of_ble_eq_true rfl) dX5_index_13 (Nat.zero_le _) (Nat.zero_le _) (fun r w1 H locs hQ hP hD hS => ?_)
    obtain ⟨rfl, rfl⟩ := hQ
    refine W.eq (g2 := F0 m 16 ls [.int (q_b (decide (nI 0 ≤ y ∧ y ≤ nI 3)))]) rfl ?_
    refine lv_if_eq (tgt := 32) hx hb dX5_index_16 (by decide) (fun c16 => ?_) (fun c16 => ?_)
    · have c16 : decide (nI 0 ≤ y ∧ y ≤ nI 3) = false := q_b0.mp c16
      refine lv_aload_n hx hb dX5_index_32 rfl (lv_at hl 0 rfl) ?_
      refine lv_iconst (v := nI 1) hx hb dX5_index_33 (by decide) ?_
      refine q_V (As := [.int (nI 1)]) (rest := []) ⟨hx, hb, hml, hown, hts⟩ (c_X5_fails l C mo kp ty (nI 0) pl fl tl v o 1) (cwV 1 hts gX5_index_X5_fails rfl rfl rfl (by decide +kernel) ⟨Nat.le_of_ble_eq_true rfl, Nat.le_of_ble_eq_true rfl⟩) hK hP hD hS hA [0, 1, 2] (by decide) rfl 0 rfl rfl rfl rfl hl.1 rfl (Nat.le_of_ble_eq_true rfl) dX5_index_34 (Nat.zero_le _) (Nat.zero_le _) (fun r w1 H locs hQ hP hD hS => ?_)
      obtain ⟨rfl, rfl⟩ := hQ
      have hP : va_P C.1 vwCl (wO C mo (evm kp ty (nI 1) pl fl tl) v o) H := hP
      have hD : va_D (q_A (wO C mo (evm kp ty tw pl fl tl) v o) s) (wO C mo (evm kp ty (nI 1) pl fl tl) v o) := hD
      refine W.eq (g2 := F0 m 37 ls [.int (nI 0)]) rfl ?_
      refine lv_i2l (v := lN 0) hx hb dX5_index_37 (by decide) ?_
      exact q_lret hx hb hr hlocks (w1 := wO C mo (evm kp ty (nI 1) pl fl tl) v o) hP hS rfl dX5_index_38 (⟨rfl, rfl⟩)
    · have c16 : decide (nI 0 ≤ y ∧ y ≤ nI 3) = true := q_b1.mp c16
      exact absurd hxx (by rw [c9, c16]; decide)
set_option maxHeartbeats 4000000 in
set_option maxRecDepth 100000 in
theorem c_X5_index (l : Launch) (C : q_C) (mo : Nat → Nat) (kp ty tw pl fl tl : Int32) (v o : Nat → Nat) (b : Bd) (a t : Nat) (hB : OkB b) (ha : a < 4) (ht : t < 4) : q_M C l yX5_index wsX5_index 4 95 [.ref (mo 0), .int (nI a), .int (nI t)] (wO C mo (evm kp ty tw pl fl tl) v o ++ ([(mo 1, .inl (C.2.2.1, 82, .inr (.inl (mB b))))] : va_W)) (fun r w1 => ∃ v1 o1, r = some (.long (lN (idxN b a t))) ∧ w1 = wO C mo (evm kp ty (nI 0) pl fl tl) v1 o1 ++ ([(mo 1, .inl (C.2.2.1, 82, .inr (.inl (mB b))))] : va_W)) := by
  refine q_head (cc := cX5_index) (maxL := 3) (ret := (some .long)) (by decide +kernel) rfl (Nat.le_of_ble_eq_true rfl) ?_
  intro p e s m below meth c hx hb hr hlocks hml hown hts hK hP hD hS hA ls hl
  have hl : lv_has ls 3 [(0, .ref (mo 0)), (1, .int (nI a)), (2, .int (nI t))] := hl
  have hf42 := hts (.fieldLink RX5 42 "RestedArmsModel" "thrown" "I") (by decide +kernel)
  have hf7 := hts (.fieldLink RX5 7 "RestedArmsModel" "now" "[J") (by decide +kernel)
  have hin5 : ∀ w ∈ u_ws RX5 TX5 13, w ∈ wsX5_index := by decide +kernel
  refine lv_aload_n hx hb dX5_index_0 rfl (lv_at hl 0 rfl) ?_
  refine lv_iconst (v := nI 0) hx hb dX5_index_1 (by decide) ?_
  refine va_put (ci := 5) (v := .int (nI 0)) (ty := .int) (C := RX5) (T := TX5) (N := 13) hx hb hts hin5 tyX5 tyX5_ok nmX5 hown hK.1 hP hD hS 0 rfl rfl 6 (by decide) hf42 (fun _ h9 => h9) rfl (by decide +kernel) rfl rfl (Nat.le_of_ble_eq_true rfl) dX5_index_2 (fun H locs hP hD hS => ?_)
  have hP : va_P C.1 vwCl (wO C mo (evm kp ty (nI 0) pl fl tl) v o ++ ([(mo 1, .inl (C.2.2.1, 82, .inr (.inl (mB b))))] : va_W)) H := hP
  have hD : va_D (q_A (wO C mo (evm kp ty tw pl fl tl) v o ++ ([(mo 1, .inl (C.2.2.1, 82, .inr (.inl (mB b))))] : va_W)) s) (wO C mo (evm kp ty (nI 0) pl fl tl) v o ++ ([(mo 1, .inl (C.2.2.1, 82, .inr (.inl (mB b))))] : va_W)) := hD
  refine lv_iload_n hx hb dX5_index_5 rfl (lv_at hl 1 rfl) ?_
  refine q_S (As := [.int (nI a)]) (rest := []) ⟨hx, hb, hml, hown, hts⟩ (c_X5_isArm l C (nI a)) (va_cwS 1 hts gX5_index_X5_isArm rfl rfl rfl (by decide +kernel) ⟨Nat.le_of_ble_eq_true rfl, Nat.le_of_ble_eq_true rfl⟩) hK hP hD hS hA [] (by decide) rfl rfl hl.1 rfl (Nat.le_of_ble_eq_true rfl) dX5_index_6 (Nat.zero_le _) (Nat.zero_le _) (fun r w1 H locs hQ hP hD hS => ?_)
  obtain ⟨rfl, rfl⟩ := hQ
  refine W.eq (g2 := F0 m 9 ls [.int (q_b (decide (nI 0 ≤ (nI a) ∧ (nI a) ≤ nI 3)))]) rfl ?_
  refine lv_if_eq (tgt := 32) hx hb dX5_index_9 (by decide) (fun c9 => ?_) (fun c9 => ?_)
  · have c9 : decide (nI 0 ≤ (nI a) ∧ (nI a) ≤ nI 3) = false := q_b0.mp c9
    exact absurd (c9.symm.trans (inT (by omega) (by omega) (by decide))) (by decide)
  have c9 : decide (nI 0 ≤ (nI a) ∧ (nI a) ≤ nI 3) = true := q_b1.mp c9
  refine lv_iload_n hx hb dX5_index_12 rfl (lv_at hl 2 rfl) ?_
  refine q_S (As := [.int (nI t)]) (rest := []) ⟨hx, hb, hml, hown, hts⟩ (c_X5_isState l C (nI t)) (va_cwS 1 hts gX5_index_X5_isState rfl rfl rfl (by decide +kernel) ⟨Nat.le_of_ble_eq_true rfl, Nat.le_of_ble_eq_true rfl⟩) hK hP hD hS hA [] (by decide) rfl rfl hl.1 rfl (Nat.le_of_ble_eq_true rfl) dX5_index_13 (Nat.zero_le _) (Nat.zero_le _) (fun r w1 H locs hQ hP hD hS => ?_)
  obtain ⟨rfl, rfl⟩ := hQ
  refine W.eq (g2 := F0 m 16 ls [.int (q_b (decide (nI 0 ≤ (nI t) ∧ (nI t) ≤ nI 3)))]) rfl ?_
  refine lv_if_eq (tgt := 32) hx hb dX5_index_16 (by decide) (fun c16 => ?_) (fun c16 => ?_)
  · have c16 : decide (nI 0 ≤ (nI t) ∧ (nI t) ≤ nI 3) = false := q_b0.mp c16
    exact absurd (c16.symm.trans (inT (by omega) (by omega) (by decide))) (by decide)
  have c16 : decide (nI 0 ≤ (nI t) ∧ (nI t) ≤ nI 3) = true := q_b1.mp c16
  refine lv_aload_n hx hb dX5_index_19 rfl (lv_at hl 0 rfl) ?_
  refine lv_aload_n hx hb dX5_index_20 rfl (lv_at hl 0 rfl) ?_
  refine va_get (ci := 5) (v := .ref (mo 1)) (C := RX5) (T := TX5) (N := 13) hx hb hts hin5 hown hK.1 hP 0 rfl rfl 0 (by decide) hf7 (fun _ h9 => h9) rfl dX5_index_21 ?_
  refine lv_iload_n hx hb dX5_index_24 rfl (lv_at hl 1 rfl) ?_
  refine lv_iload_n hx hb dX5_index_25 rfl (lv_at hl 2 rfl) ?_
  refine q_V (As := [.ref (mo 1), .int (nI a), .int (nI t)]) (rest := []) ⟨hx, hb, hml, hown, hts⟩ (c_X5_indexOf l C mo (evm kp ty (nI 0) pl fl tl) v o (mo 1) b a t hB (by omega) (by omega)) (cwV 3 hts gX5_index_X5_indexOf rfl rfl rfl (by decide +kernel) ⟨Nat.le_of_ble_eq_true rfl, Nat.le_of_ble_eq_true rfl⟩) hK hP hD hS hA [0, 1, 2, 3] (by decide) rfl 0 rfl rfl rfl rfl hl.1 rfl (Nat.le_of_ble_eq_true rfl) dX5_index_26 (Nat.zero_le _) (Nat.zero_le _) (fun r w1 H locs hQ hP hD hS => ?_)
  obtain ⟨rfl, rfl⟩ := hQ
  have hP : va_P C.1 vwCl (wO C mo (evm kp ty (nI 0) pl fl tl) (valsN b a t (bs b 1)) (ownsN b a t o (bs b 1)) ++ ([(mo 1, .inl (C.2.2.1, 82, .inr (.inl (mB b))))] : va_W)) H := hP
  have hD : va_D (q_A (wO C mo (evm kp ty tw pl fl tl) v o ++ ([(mo 1, .inl (C.2.2.1, 82, .inr (.inl (mB b))))] : va_W)) s) (wO C mo (evm kp ty (nI 0) pl fl tl) (valsN b a t (bs b 1)) (ownsN b a t o (bs b 1)) ++ ([(mo 1, .inl (C.2.2.1, 82, .inr (.inl (mB b))))] : va_W)) := hD
  refine W.eq (g2 := F0 m 29 ls [.long (lN (idxN b a t))]) rfl ?_
  refine lv_goto (tgt := 38) hx hb dX5_index_29 (by decide) ?_
  exact q_lret hx hb hr hlocks (w1 := wO C mo (evm kp ty (nI 0) pl fl tl) (valsN b a t (bs b 1)) (ownsN b a t o (bs b 1)) ++ ([(mo 1, .inl (C.2.2.1, 82, .inr (.inl (mB b))))] : va_W)) hP hS rfl dX5_index_38 (⟨_, _, rfl, rfl⟩)
set_option maxHeartbeats 4000000 in
set_option maxRecDepth 100000 in
theorem c1_X5_arm (l : Launch) (C : q_C) (mo : Nat → Nat) (kp ty tw pl fl tl : Int32) (v o : Nat → Nat) (x y : Int32) (hxx : decide (nI 0 ≤ x ∧ x ≤ nI 3) = false) : q_M C l yX5_arm wsX5_arm 2 43 [.ref (mo 0), .int x, .int y] (wO C mo (evm kp ty tw pl fl tl) v o) (fun r w => r = some (.int (nI 0)) ∧ w = wO C mo (evm kp ty (nI 1) pl fl tl) v o) := by
  refine q_head (cc := cX5_arm) (maxL := 3) (ret := (some .int)) (by decide +kernel) rfl (Nat.le_of_ble_eq_true rfl) ?_
  intro p e s m below meth c hx hb hr hlocks hml hown hts hK hP hD hS hA ls hl
  have hl : lv_has ls 3 [(0, .ref (mo 0)), (1, .int x), (2, .int y)] := hl
  have hf42 := hts (.fieldLink RX5 42 "RestedArmsModel" "thrown" "I") (by decide +kernel)
  have hin5 : ∀ w ∈ u_ws RX5 TX5 13, w ∈ wsX5_arm := by decide +kernel
  refine lv_aload_n hx hb dX5_arm_0 rfl (lv_at hl 0 rfl) ?_
  refine lv_iconst (v := nI 0) hx hb dX5_arm_1 (by decide) ?_
  refine va_put (ci := 5) (v := .int (nI 0)) (ty := .int) (C := RX5) (T := TX5) (N := 13) hx hb hts hin5 tyX5 tyX5_ok nmX5 hown hK.1 hP hD hS 0 rfl rfl 6 (by decide) hf42 (fun _ h9 => h9) rfl (by decide +kernel) rfl rfl (Nat.le_of_ble_eq_true rfl) dX5_arm_2 (fun H locs hP hD hS => ?_)
  have hP : va_P C.1 vwCl (wO C mo (evm kp ty (nI 0) pl fl tl) v o) H := hP
  have hD : va_D (q_A (wO C mo (evm kp ty tw pl fl tl) v o) s) (wO C mo (evm kp ty (nI 0) pl fl tl) v o) := hD
  refine lv_iload_n hx hb dX5_arm_5 rfl (lv_at hl 1 rfl) ?_
  refine q_S (As := [.int x]) (rest := []) ⟨hx, hb, hml, hown, hts⟩ (c_X5_isArm l C x) (va_cwS 1 hts gX5_arm_X5_isArm rfl rfl rfl (by decide +kernel) ⟨Nat.le_of_ble_eq_true rfl, Nat.le_of_ble_eq_true rfl⟩) hK hP hD hS hA [] (by decide) rfl rfl hl.1 rfl (Nat.le_of_ble_eq_true rfl) dX5_arm_6 (Nat.zero_le _) (Nat.zero_le _) (fun r w1 H locs hQ hP hD hS => ?_)
  obtain ⟨rfl, rfl⟩ := hQ
  refine W.eq (g2 := F0 m 9 ls [.int (q_b (decide (nI 0 ≤ x ∧ x ≤ nI 3)))]) rfl ?_
  refine lv_if_ne (tgt := 18) hx hb dX5_arm_9 (by decide) (fun c9 => ?_) (fun c9 => ?_)
  · have c9 : decide (nI 0 ≤ x ∧ x ≤ nI 3) = true := q_b1.mp c9
    exact absurd hxx (by rw [c9]; decide)
  have c9 : decide (nI 0 ≤ x ∧ x ≤ nI 3) = false := q_b0.mp c9
  refine lv_aload_n hx hb dX5_arm_12 rfl (lv_at hl 0 rfl) ?_
  refine lv_iconst (v := nI 1) hx hb dX5_arm_13 (by decide) ?_
  refine q_V (As := [.int (nI 1)]) (rest := []) ⟨hx, hb, hml, hown, hts⟩ (c_X5_fails l C mo kp ty (nI 0) pl fl tl v o 1) (cwV 1 hts gX5_arm_X5_fails rfl rfl rfl (by decide +kernel) ⟨Nat.le_of_ble_eq_true rfl, Nat.le_of_ble_eq_true rfl⟩) hK hP hD hS hA [0, 1, 2] (by decide) rfl 0 rfl rfl rfl rfl hl.1 rfl (Nat.le_of_ble_eq_true rfl) dX5_arm_14 (Nat.zero_le _) (Nat.zero_le _) (fun r w1 H locs hQ hP hD hS => ?_)
  obtain ⟨rfl, rfl⟩ := hQ
  have hP : va_P C.1 vwCl (wO C mo (evm kp ty (nI 1) pl fl tl) v o) H := hP
  have hD : va_D (q_A (wO C mo (evm kp ty tw pl fl tl) v o) s) (wO C mo (evm kp ty (nI 1) pl fl tl) v o) := hD
  refine W.eq (g2 := F0 m 17 ls [.int (nI 0)]) rfl ?_
  exact q_iret hx hb hr hlocks (w1 := wO C mo (evm kp ty (nI 1) pl fl tl) v o) hP hS rfl dX5_arm_17 (⟨rfl, rfl⟩)
set_option maxHeartbeats 4000000 in
set_option maxRecDepth 100000 in
theorem c2_X5_arm (l : Launch) (C : q_C) (mo : Nat → Nat) (kp ty tw pl fl tl : Int32) (v o : Nat → Nat) (a : Nat) (y : Int32) (ha : a < 4) (hxx : decide (nI 0 ≤ y ∧ y ≤ nI 3) = false) : q_M C l yX5_arm wsX5_arm 2 43 [.ref (mo 0), .int (nI a), .int y] (wO C mo (evm kp ty tw pl fl tl) v o) (fun r w => r = some (.int (nI 0)) ∧ w = wO C mo (evm kp ty (nI 2) pl fl tl) v o) := by
  refine q_head (cc := cX5_arm) (maxL := 3) (ret := (some .int)) (by decide +kernel) rfl (Nat.le_of_ble_eq_true rfl) ?_
  intro p e s m below meth c hx hb hr hlocks hml hown hts hK hP hD hS hA ls hl
  have hl : lv_has ls 3 [(0, .ref (mo 0)), (1, .int (nI a)), (2, .int y)] := hl
  have hf42 := hts (.fieldLink RX5 42 "RestedArmsModel" "thrown" "I") (by decide +kernel)
  have hin5 : ∀ w ∈ u_ws RX5 TX5 13, w ∈ wsX5_arm := by decide +kernel
  refine lv_aload_n hx hb dX5_arm_0 rfl (lv_at hl 0 rfl) ?_
  refine lv_iconst (v := nI 0) hx hb dX5_arm_1 (by decide) ?_
  refine va_put (ci := 5) (v := .int (nI 0)) (ty := .int) (C := RX5) (T := TX5) (N := 13) hx hb hts hin5 tyX5 tyX5_ok nmX5 hown hK.1 hP hD hS 0 rfl rfl 6 (by decide) hf42 (fun _ h9 => h9) rfl (by decide +kernel) rfl rfl (Nat.le_of_ble_eq_true rfl) dX5_arm_2 (fun H locs hP hD hS => ?_)
  have hP : va_P C.1 vwCl (wO C mo (evm kp ty (nI 0) pl fl tl) v o) H := hP
  have hD : va_D (q_A (wO C mo (evm kp ty tw pl fl tl) v o) s) (wO C mo (evm kp ty (nI 0) pl fl tl) v o) := hD
  refine lv_iload_n hx hb dX5_arm_5 rfl (lv_at hl 1 rfl) ?_
  refine q_S (As := [.int (nI a)]) (rest := []) ⟨hx, hb, hml, hown, hts⟩ (c_X5_isArm l C (nI a)) (va_cwS 1 hts gX5_arm_X5_isArm rfl rfl rfl (by decide +kernel) ⟨Nat.le_of_ble_eq_true rfl, Nat.le_of_ble_eq_true rfl⟩) hK hP hD hS hA [] (by decide) rfl rfl hl.1 rfl (Nat.le_of_ble_eq_true rfl) dX5_arm_6 (Nat.zero_le _) (Nat.zero_le _) (fun r w1 H locs hQ hP hD hS => ?_)
  obtain ⟨rfl, rfl⟩ := hQ
  refine W.eq (g2 := F0 m 9 ls [.int (q_b (decide (nI 0 ≤ (nI a) ∧ (nI a) ≤ nI 3)))]) rfl ?_
  refine lv_if_ne (tgt := 18) hx hb dX5_arm_9 (by decide) (fun c9 => ?_) (fun c9 => ?_)
  · have c9 : decide (nI 0 ≤ (nI a) ∧ (nI a) ≤ nI 3) = true := q_b1.mp c9
    refine lv_iload_n hx hb dX5_arm_18 rfl (lv_at hl 2 rfl) ?_
    refine lv_i2l (v := y.toInt64) hx hb dX5_arm_19 rfl ?_
    refine lv_iconst (v := nI 0) hx hb dX5_arm_20 (by decide) ?_
    refine lv_iconst (v := nI 3) hx hb dX5_arm_21 (by decide) ?_
    refine q_S (As := [.long y.toInt64, .int (nI 0), .int (nI 3)]) (rest := []) ⟨hx, hb, hml, hown, hts⟩ (c_in32 l C y (nI 0) (nI 3)) (va_cwS 3 hts gX5_arm_X5_in rfl rfl rfl (by decide +kernel) ⟨Nat.le_of_ble_eq_true rfl, Nat.le_of_ble_eq_true rfl⟩) hK hP hD hS hA [] (by decide) rfl rfl hl.1 rfl (Nat.le_of_ble_eq_true rfl) dX5_arm_22 (Nat.zero_le _) (Nat.zero_le _) (fun r w1 H locs hQ hP hD hS => ?_)
    obtain ⟨rfl, rfl⟩ := hQ
    refine W.eq (g2 := F0 m 25 ls [.int (q_b (decide (nI 0 ≤ y ∧ y ≤ nI 3)))]) rfl ?_
    refine lv_if_eq (tgt := 37) hx hb dX5_arm_25 (by decide) (fun c25 => ?_) (fun c25 => ?_)
    · have c25 : decide (nI 0 ≤ y ∧ y ≤ nI 3) = false := q_b0.mp c25
      refine lv_aload_n hx hb dX5_arm_37 rfl (lv_at hl 0 rfl) ?_
      refine lv_iconst (v := nI 2) hx hb dX5_arm_38 (by decide) ?_
      refine q_V (As := [.int (nI 2)]) (rest := []) ⟨hx, hb, hml, hown, hts⟩ (c_X5_fails l C mo kp ty (nI 0) pl fl tl v o 2) (cwV 1 hts gX5_arm_X5_fails rfl rfl rfl (by decide +kernel) ⟨Nat.le_of_ble_eq_true rfl, Nat.le_of_ble_eq_true rfl⟩) hK hP hD hS hA [0, 1, 2] (by decide) rfl 0 rfl rfl rfl rfl hl.1 rfl (Nat.le_of_ble_eq_true rfl) dX5_arm_39 (Nat.zero_le _) (Nat.zero_le _) (fun r w1 H locs hQ hP hD hS => ?_)
      obtain ⟨rfl, rfl⟩ := hQ
      have hP : va_P C.1 vwCl (wO C mo (evm kp ty (nI 2) pl fl tl) v o) H := hP
      have hD : va_D (q_A (wO C mo (evm kp ty tw pl fl tl) v o) s) (wO C mo (evm kp ty (nI 2) pl fl tl) v o) := hD
      refine W.eq (g2 := F0 m 42 ls [.int (nI 0)]) rfl ?_
      exact q_iret hx hb hr hlocks (w1 := wO C mo (evm kp ty (nI 2) pl fl tl) v o) hP hS rfl dX5_arm_42 (⟨rfl, rfl⟩)
    · have c25 : decide (nI 0 ≤ y ∧ y ≤ nI 3) = true := q_b1.mp c25
      exact absurd hxx (by rw [c25]; decide)
  · have c9 : decide (nI 0 ≤ (nI a) ∧ (nI a) ≤ nI 3) = false := q_b0.mp c9
    exact absurd (c9.symm.trans (inT (by omega) (by omega) (by decide))) (by decide)
set_option maxHeartbeats 4000000 in
set_option maxRecDepth 100000 in
theorem c_X5_arm (l : Launch) (C : q_C) (mo : Nat → Nat) (kp ty tw pl fl tl : Int32) (v o : Nat → Nat) (b : Bd) (a k : Nat) (hB : OkB b) (ha : a < 4) (hk : k < 4) : q_M C l yX5_arm wsX5_arm 6 143 [.ref (mo 0), .int (nI a), .int (nI k)] (wO C mo (evm kp ty tw pl fl tl) v o ++ ([(mo 1, .inl (C.2.2.1, 82, .inr (.inl (mB b))))] : va_W)) (fun r w1 => ∃ v1 o1, r = some (.int (nI (oaN b a k))) ∧ w1 = wO C mo (evm kp ty (nI 0) pl fl tl) v1 o1 ++ ([(mo 1, .inl (C.2.2.1, 82, .inr (.inl (mB b))))] : va_W)) := by
  refine q_head (cc := cX5_arm) (maxL := 3) (ret := (some .int)) (by decide +kernel) rfl (Nat.le_of_ble_eq_true rfl) ?_
  intro p e s m below meth c hx hb hr hlocks hml hown hts hK hP hD hS hA ls hl
  have hl : lv_has ls 3 [(0, .ref (mo 0)), (1, .int (nI a)), (2, .int (nI k))] := hl
  have hf42 := hts (.fieldLink RX5 42 "RestedArmsModel" "thrown" "I") (by decide +kernel)
  have hin5 : ∀ w ∈ u_ws RX5 TX5 13, w ∈ wsX5_arm := by decide +kernel
  refine lv_aload_n hx hb dX5_arm_0 rfl (lv_at hl 0 rfl) ?_
  refine lv_iconst (v := nI 0) hx hb dX5_arm_1 (by decide) ?_
  refine va_put (ci := 5) (v := .int (nI 0)) (ty := .int) (C := RX5) (T := TX5) (N := 13) hx hb hts hin5 tyX5 tyX5_ok nmX5 hown hK.1 hP hD hS 0 rfl rfl 6 (by decide) hf42 (fun _ h9 => h9) rfl (by decide +kernel) rfl rfl (Nat.le_of_ble_eq_true rfl) dX5_arm_2 (fun H locs hP hD hS => ?_)
  have hP : va_P C.1 vwCl (wO C mo (evm kp ty (nI 0) pl fl tl) v o ++ ([(mo 1, .inl (C.2.2.1, 82, .inr (.inl (mB b))))] : va_W)) H := hP
  have hD : va_D (q_A (wO C mo (evm kp ty tw pl fl tl) v o ++ ([(mo 1, .inl (C.2.2.1, 82, .inr (.inl (mB b))))] : va_W)) s) (wO C mo (evm kp ty (nI 0) pl fl tl) v o ++ ([(mo 1, .inl (C.2.2.1, 82, .inr (.inl (mB b))))] : va_W)) := hD
  refine lv_iload_n hx hb dX5_arm_5 rfl (lv_at hl 1 rfl) ?_
  refine q_S (As := [.int (nI a)]) (rest := []) ⟨hx, hb, hml, hown, hts⟩ (c_X5_isArm l C (nI a)) (va_cwS 1 hts gX5_arm_X5_isArm rfl rfl rfl (by decide +kernel) ⟨Nat.le_of_ble_eq_true rfl, Nat.le_of_ble_eq_true rfl⟩) hK hP hD hS hA [] (by decide) rfl rfl hl.1 rfl (Nat.le_of_ble_eq_true rfl) dX5_arm_6 (Nat.zero_le _) (Nat.zero_le _) (fun r w1 H locs hQ hP hD hS => ?_)
  obtain ⟨rfl, rfl⟩ := hQ
  refine W.eq (g2 := F0 m 9 ls [.int (q_b (decide (nI 0 ≤ (nI a) ∧ (nI a) ≤ nI 3)))]) rfl ?_
  refine lv_if_ne (tgt := 18) hx hb dX5_arm_9 (by decide) (fun c9 => ?_) (fun c9 => ?_)
  · have c9 : decide (nI 0 ≤ (nI a) ∧ (nI a) ≤ nI 3) = true := q_b1.mp c9
    refine lv_iload_n hx hb dX5_arm_18 rfl (lv_at hl 2 rfl) ?_
    refine lv_i2l (v := lN k) hx hb dX5_arm_19 (nI_l (by omega)) ?_
    refine lv_iconst (v := nI 0) hx hb dX5_arm_20 (by decide) ?_
    refine lv_iconst (v := nI 3) hx hb dX5_arm_21 (by decide) ?_
    refine q_S (As := [.long (lN k), .int (nI 0), .int (nI 3)]) (rest := []) ⟨hx, hb, hml, hown, hts⟩ (c_inN l C k 0 3 (by omega) (by omega) (by omega)) (va_cwS 3 hts gX5_arm_X5_in rfl rfl rfl (by decide +kernel) ⟨Nat.le_of_ble_eq_true rfl, Nat.le_of_ble_eq_true rfl⟩) hK hP hD hS hA [] (by decide) rfl rfl hl.1 rfl (Nat.le_of_ble_eq_true rfl) dX5_arm_22 (Nat.zero_le _) (Nat.zero_le _) (fun r w1 H locs hQ hP hD hS => ?_)
    obtain ⟨rfl, rfl⟩ := hQ
    refine W.eq (g2 := F0 m 25 ls [.int (q_b (decide (0 ≤ k ∧ k ≤ 3)))]) rfl ?_
    refine lv_if_eq (tgt := 37) hx hb dX5_arm_25 (by decide) (fun c25 => ?_) (fun c25 => ?_)
    · have c25 : decide (0 ≤ k ∧ k ≤ 3) = false := q_b0.mp c25
      exact absurd (show _ ∧ _ from ⟨by omega, by omega⟩) (of_decide_eq_false c25)
    have c25 : decide (0 ≤ k ∧ k ≤ 3) = true := q_b1.mp c25
    refine lv_aload_n hx hb dX5_arm_28 rfl (lv_at hl 0 rfl) ?_
    refine lv_iload_n hx hb dX5_arm_29 rfl (lv_at hl 1 rfl) ?_
    refine lv_iload_n hx hb dX5_arm_30 rfl (lv_at hl 2 rfl) ?_
    refine q_V (As := [.int (nI a), .int (nI k)]) (rest := []) ⟨hx, hb, hml, hown, hts⟩ (c_X5_ofArm l C mo kp ty (nI 0) pl fl tl v o b a k hB (by omega) (by omega)) (cwV 2 hts gX5_arm_X5_ofArm rfl rfl rfl (by decide +kernel) ⟨Nat.le_of_ble_eq_true rfl, Nat.le_of_ble_eq_true rfl⟩) hK hP hD hS hA [0, 1, 2, 3] (by decide) rfl 0 rfl rfl rfl rfl hl.1 rfl (Nat.le_of_ble_eq_true rfl) dX5_arm_31 (Nat.zero_le _) (Nat.zero_le _) (fun r w1 H locs hQ hP hD hS => ?_)
    obtain ⟨vx1, ox1, rfl, rfl⟩ := hQ
    have hP : va_P C.1 vwCl (wO C mo (evm kp ty (nI 0) pl fl tl) vx1 ox1 ++ ([(mo 1, .inl (C.2.2.1, 82, .inr (.inl (mB b))))] : va_W)) H := hP
    have hD : va_D (q_A (wO C mo (evm kp ty tw pl fl tl) v o ++ ([(mo 1, .inl (C.2.2.1, 82, .inr (.inl (mB b))))] : va_W)) s) (wO C mo (evm kp ty (nI 0) pl fl tl) vx1 ox1 ++ ([(mo 1, .inl (C.2.2.1, 82, .inr (.inl (mB b))))] : va_W)) := hD
    refine W.eq (g2 := F0 m 34 ls [.int (nI (oaN b a k))]) rfl ?_
    refine lv_goto (tgt := 42) hx hb dX5_arm_34 (by decide) ?_
    exact q_iret hx hb hr hlocks (w1 := wO C mo (evm kp ty (nI 0) pl fl tl) vx1 ox1 ++ ([(mo 1, .inl (C.2.2.1, 82, .inr (.inl (mB b))))] : va_W)) hP hS rfl dX5_arm_42 (⟨_, _, rfl, rfl⟩)
  · have c9 : decide (nI 0 ≤ (nI a) ∧ (nI a) ≤ nI 3) = false := q_b0.mp c9
    exact absurd (c9.symm.trans (inT (by omega) (by omega) (by decide))) (by decide)
set_option maxHeartbeats 4000000 in
set_option maxRecDepth 100000 in
theorem c1_X5_count (l : Launch) (C : q_C) (mo : Nat → Nat) (kp ty tw pl fl tl : Int32) (v o : Nat → Nat) (x : Int32) (hxx : decide (nI 0 ≤ x ∧ x ≤ nI 3) = false) : q_M C l yX5_count wsX5_count 1 23 [.ref (mo 0), .int x] (wO C mo (evm kp ty tw pl fl tl) v o) (fun r w => r = some (.int (nI 0)) ∧ w = wO C mo (evm kp ty (nI 1) pl fl tl) v o) := by
  refine q_head (cc := cX5_count) (maxL := 2) (ret := (some .int)) (by decide +kernel) rfl (Nat.le_of_ble_eq_true rfl) ?_
  intro p e s m below meth c hx hb hr hlocks hml hown hts hK hP hD hS hA ls hl
  have hl : lv_has ls 2 [(0, .ref (mo 0)), (1, .int x)] := hl
  have hf42 := hts (.fieldLink RX5 42 "RestedArmsModel" "thrown" "I") (by decide +kernel)
  have hin5 : ∀ w ∈ u_ws RX5 TX5 13, w ∈ wsX5_count := by decide +kernel
  refine lv_aload_n hx hb dX5_count_0 rfl (lv_at hl 0 rfl) ?_
  refine lv_iconst (v := nI 0) hx hb dX5_count_1 (by decide) ?_
  refine va_put (ci := 5) (v := .int (nI 0)) (ty := .int) (C := RX5) (T := TX5) (N := 13) hx hb hts hin5 tyX5 tyX5_ok nmX5 hown hK.1 hP hD hS 0 rfl rfl 6 (by decide) hf42 (fun _ h9 => h9) rfl (by decide +kernel) rfl rfl (Nat.le_of_ble_eq_true rfl) dX5_count_2 (fun H locs hP hD hS => ?_)
  have hP : va_P C.1 vwCl (wO C mo (evm kp ty (nI 0) pl fl tl) v o) H := hP
  have hD : va_D (q_A (wO C mo (evm kp ty tw pl fl tl) v o) s) (wO C mo (evm kp ty (nI 0) pl fl tl) v o) := hD
  refine lv_iload_n hx hb dX5_count_5 rfl (lv_at hl 1 rfl) ?_
  refine lv_i2l (v := x.toInt64) hx hb dX5_count_6 rfl ?_
  refine lv_iconst (v := nI 0) hx hb dX5_count_7 (by decide) ?_
  refine lv_iconst (v := nI 3) hx hb dX5_count_8 (by decide) ?_
  refine q_S (As := [.long x.toInt64, .int (nI 0), .int (nI 3)]) (rest := []) ⟨hx, hb, hml, hown, hts⟩ (c_in32 l C x (nI 0) (nI 3)) (va_cwS 3 hts gX5_count_X5_in rfl rfl rfl (by decide +kernel) ⟨Nat.le_of_ble_eq_true rfl, Nat.le_of_ble_eq_true rfl⟩) hK hP hD hS hA [] (by decide) rfl rfl hl.1 rfl (Nat.le_of_ble_eq_true rfl) dX5_count_9 (Nat.zero_le _) (Nat.zero_le _) (fun r w1 H locs hQ hP hD hS => ?_)
  obtain ⟨rfl, rfl⟩ := hQ
  refine W.eq (g2 := F0 m 12 ls [.int (q_b (decide (nI 0 ≤ x ∧ x ≤ nI 3)))]) rfl ?_
  refine lv_if_eq (tgt := 23) hx hb dX5_count_12 (by decide) (fun c12 => ?_) (fun c12 => ?_)
  · have c12 : decide (nI 0 ≤ x ∧ x ≤ nI 3) = false := q_b0.mp c12
    refine lv_aload_n hx hb dX5_count_23 rfl (lv_at hl 0 rfl) ?_
    refine lv_iconst (v := nI 1) hx hb dX5_count_24 (by decide) ?_
    refine q_V (As := [.int (nI 1)]) (rest := []) ⟨hx, hb, hml, hown, hts⟩ (c_X5_fails l C mo kp ty (nI 0) pl fl tl v o 1) (cwV 1 hts gX5_count_X5_fails rfl rfl rfl (by decide +kernel) ⟨Nat.le_of_ble_eq_true rfl, Nat.le_of_ble_eq_true rfl⟩) hK hP hD hS hA [0, 1, 2] (by decide) rfl 0 rfl rfl rfl rfl hl.1 rfl (Nat.le_of_ble_eq_true rfl) dX5_count_25 (Nat.zero_le _) (Nat.zero_le _) (fun r w1 H locs hQ hP hD hS => ?_)
    obtain ⟨rfl, rfl⟩ := hQ
    have hP : va_P C.1 vwCl (wO C mo (evm kp ty (nI 1) pl fl tl) v o) H := hP
    have hD : va_D (q_A (wO C mo (evm kp ty tw pl fl tl) v o) s) (wO C mo (evm kp ty (nI 1) pl fl tl) v o) := hD
    refine W.eq (g2 := F0 m 28 ls [.int (nI 0)]) rfl ?_
    exact q_iret hx hb hr hlocks (w1 := wO C mo (evm kp ty (nI 1) pl fl tl) v o) hP hS rfl dX5_count_28 (⟨rfl, rfl⟩)
  · have c12 : decide (nI 0 ≤ x ∧ x ≤ nI 3) = true := q_b1.mp c12
    exact absurd hxx (by rw [c12]; decide)
set_option maxHeartbeats 4000000 in
set_option maxRecDepth 100000 in
theorem c_X5_count (l : Launch) (C : q_C) (mo : Nat → Nat) (ty tw pl fl tl : Int32) (v o : Nat → Nat) (b : Bd) (n k : Nat) (hk : k < 4) : q_M C l yX5_count wsX5_count 1 23 [.ref (mo 0), .int (nI k)] (wO C mo (evm (nI n) ty tw pl fl tl) v o ++ ([(mo 1, .inl (C.2.2.1, 82, .inr (.inl (mB b))))] : va_W)) (fun r w1 => r = some (.int (cnI b n k)) ∧ w1 = wO C mo (evm (nI n) ty (nI 0) pl fl tl) v o ++ ([(mo 1, .inl (C.2.2.1, 82, .inr (.inl (mB b))))] : va_W)) := by
  refine q_head (cc := cX5_count) (maxL := 2) (ret := (some .int)) (by decide +kernel) rfl (Nat.le_of_ble_eq_true rfl) ?_
  intro p e s m below meth c hx hb hr hlocks hml hown hts hK hP hD hS hA ls hl
  have hl : lv_has ls 2 [(0, .ref (mo 0)), (1, .int (nI k))] := hl
  have hf42 := hts (.fieldLink RX5 42 "RestedArmsModel" "thrown" "I") (by decide +kernel)
  have hin5 : ∀ w ∈ u_ws RX5 TX5 13, w ∈ wsX5_count := by decide +kernel
  refine lv_aload_n hx hb dX5_count_0 rfl (lv_at hl 0 rfl) ?_
  refine lv_iconst (v := nI 0) hx hb dX5_count_1 (by decide) ?_
  refine va_put (ci := 5) (v := .int (nI 0)) (ty := .int) (C := RX5) (T := TX5) (N := 13) hx hb hts hin5 tyX5 tyX5_ok nmX5 hown hK.1 hP hD hS 0 rfl rfl 6 (by decide) hf42 (fun _ h9 => h9) rfl (by decide +kernel) rfl rfl (Nat.le_of_ble_eq_true rfl) dX5_count_2 (fun H locs hP hD hS => ?_)
  have hP : va_P C.1 vwCl (wO C mo (evm (nI n) ty (nI 0) pl fl tl) v o ++ ([(mo 1, .inl (C.2.2.1, 82, .inr (.inl (mB b))))] : va_W)) H := hP
  have hD : va_D (q_A (wO C mo (evm (nI n) ty tw pl fl tl) v o ++ ([(mo 1, .inl (C.2.2.1, 82, .inr (.inl (mB b))))] : va_W)) s) (wO C mo (evm (nI n) ty (nI 0) pl fl tl) v o ++ ([(mo 1, .inl (C.2.2.1, 82, .inr (.inl (mB b))))] : va_W)) := hD
  refine lv_iload_n hx hb dX5_count_5 rfl (lv_at hl 1 rfl) ?_
  refine lv_i2l (v := lN k) hx hb dX5_count_6 (nI_l (by omega)) ?_
  refine lv_iconst (v := nI 0) hx hb dX5_count_7 (by decide) ?_
  refine lv_iconst (v := nI 3) hx hb dX5_count_8 (by decide) ?_
  refine q_S (As := [.long (lN k), .int (nI 0), .int (nI 3)]) (rest := []) ⟨hx, hb, hml, hown, hts⟩ (c_inN l C k 0 3 (by omega) (by omega) (by omega)) (va_cwS 3 hts gX5_count_X5_in rfl rfl rfl (by decide +kernel) ⟨Nat.le_of_ble_eq_true rfl, Nat.le_of_ble_eq_true rfl⟩) hK hP hD hS hA [] (by decide) rfl rfl hl.1 rfl (Nat.le_of_ble_eq_true rfl) dX5_count_9 (Nat.zero_le _) (Nat.zero_le _) (fun r w1 H locs hQ hP hD hS => ?_)
  obtain ⟨rfl, rfl⟩ := hQ
  refine W.eq (g2 := F0 m 12 ls [.int (q_b (decide (0 ≤ k ∧ k ≤ 3)))]) rfl ?_
  refine lv_if_eq (tgt := 23) hx hb dX5_count_12 (by decide) (fun c12 => ?_) (fun c12 => ?_)
  · have c12 : decide (0 ≤ k ∧ k ≤ 3) = false := q_b0.mp c12
    exact absurd (show _ ∧ _ from ⟨by omega, by omega⟩) (of_decide_eq_false c12)
  have c12 : decide (0 ≤ k ∧ k ≤ 3) = true := q_b1.mp c12
  refine lv_aload_n hx hb dX5_count_15 rfl (lv_at hl 0 rfl) ?_
  refine lv_iload_n hx hb dX5_count_16 rfl (lv_at hl 1 rfl) ?_
  refine q_V (As := [.int (nI k)]) (rest := []) ⟨hx, hb, hml, hown, hts⟩ (c_X5_counted l C mo ty (nI 0) pl fl tl v o b n k (by omega)) (cwV 1 hts gX5_count_X5_counted rfl rfl rfl (by decide +kernel) ⟨Nat.le_of_ble_eq_true rfl, Nat.le_of_ble_eq_true rfl⟩) hK hP hD hS hA [0, 1, 2, 3] (by decide) rfl 0 rfl rfl rfl rfl hl.1 rfl (Nat.le_of_ble_eq_true rfl) dX5_count_17 (Nat.zero_le _) (Nat.zero_le _) (fun r w1 H locs hQ hP hD hS => ?_)
  obtain ⟨rfl, rfl⟩ := hQ
  have hP : va_P C.1 vwCl (wO C mo (evm (nI n) ty (nI 0) pl fl tl) v o ++ ([(mo 1, .inl (C.2.2.1, 82, .inr (.inl (mB b))))] : va_W)) H := hP
  have hD : va_D (q_A (wO C mo (evm (nI n) ty tw pl fl tl) v o ++ ([(mo 1, .inl (C.2.2.1, 82, .inr (.inl (mB b))))] : va_W)) s) (wO C mo (evm (nI n) ty (nI 0) pl fl tl) v o ++ ([(mo 1, .inl (C.2.2.1, 82, .inr (.inl (mB b))))] : va_W)) := hD
  refine W.eq (g2 := F0 m 20 ls [.int (cnI b n k)]) rfl ?_
  refine lv_goto (tgt := 28) hx hb dX5_count_20 (by decide) ?_
  exact q_iret hx hb hr hlocks (w1 := wO C mo (evm (nI n) ty (nI 0) pl fl tl) v o ++ ([(mo 1, .inl (C.2.2.1, 82, .inr (.inl (mB b))))] : va_W)) hP hS rfl dX5_count_28 (⟨rfl, rfl⟩)
set_option maxHeartbeats 4000000 in
set_option maxRecDepth 100000 in
theorem c1_X5_sum (l : Launch) (C : q_C) (mo : Nat → Nat) (kp ty tw pl fl tl : Int32) (v o : Nat → Nat) (x : Int32) (hxx : decide (nI 0 ≤ x ∧ x ≤ nI 2) = false) : q_M C l yX5_sum wsX5_sum 1 23 [.ref (mo 0), .int x] (wO C mo (evm kp ty tw pl fl tl) v o) (fun r w => r = some (.long (lN 0)) ∧ w = wO C mo (evm kp ty (nI 1) pl fl tl) v o) := by
  refine q_head (cc := cX5_sum) (maxL := 2) (ret := (some .long)) (by decide +kernel) rfl (Nat.le_of_ble_eq_true rfl) ?_
  intro p e s m below meth c hx hb hr hlocks hml hown hts hK hP hD hS hA ls hl
  have hl : lv_has ls 2 [(0, .ref (mo 0)), (1, .int x)] := hl
  have hf42 := hts (.fieldLink RX5 42 "RestedArmsModel" "thrown" "I") (by decide +kernel)
  have hin5 : ∀ w ∈ u_ws RX5 TX5 13, w ∈ wsX5_sum := by decide +kernel
  refine lv_aload_n hx hb dX5_sum_0 rfl (lv_at hl 0 rfl) ?_
  refine lv_iconst (v := nI 0) hx hb dX5_sum_1 (by decide) ?_
  refine va_put (ci := 5) (v := .int (nI 0)) (ty := .int) (C := RX5) (T := TX5) (N := 13) hx hb hts hin5 tyX5 tyX5_ok nmX5 hown hK.1 hP hD hS 0 rfl rfl 6 (by decide) hf42 (fun _ h9 => h9) rfl (by decide +kernel) rfl rfl (Nat.le_of_ble_eq_true rfl) dX5_sum_2 (fun H locs hP hD hS => ?_)
  have hP : va_P C.1 vwCl (wO C mo (evm kp ty (nI 0) pl fl tl) v o) H := hP
  have hD : va_D (q_A (wO C mo (evm kp ty tw pl fl tl) v o) s) (wO C mo (evm kp ty (nI 0) pl fl tl) v o) := hD
  refine lv_iload_n hx hb dX5_sum_5 rfl (lv_at hl 1 rfl) ?_
  refine lv_i2l (v := x.toInt64) hx hb dX5_sum_6 rfl ?_
  refine lv_iconst (v := nI 0) hx hb dX5_sum_7 (by decide) ?_
  refine lv_iconst (v := nI 2) hx hb dX5_sum_8 (by decide) ?_
  refine q_S (As := [.long x.toInt64, .int (nI 0), .int (nI 2)]) (rest := []) ⟨hx, hb, hml, hown, hts⟩ (c_in32 l C x (nI 0) (nI 2)) (va_cwS 3 hts gX5_sum_X5_in rfl rfl rfl (by decide +kernel) ⟨Nat.le_of_ble_eq_true rfl, Nat.le_of_ble_eq_true rfl⟩) hK hP hD hS hA [] (by decide) rfl rfl hl.1 rfl (Nat.le_of_ble_eq_true rfl) dX5_sum_9 (Nat.zero_le _) (Nat.zero_le _) (fun r w1 H locs hQ hP hD hS => ?_)
  obtain ⟨rfl, rfl⟩ := hQ
  refine W.eq (g2 := F0 m 12 ls [.int (q_b (decide (nI 0 ≤ x ∧ x ≤ nI 2)))]) rfl ?_
  refine lv_if_eq (tgt := 27) hx hb dX5_sum_12 (by decide) (fun c12 => ?_) (fun c12 => ?_)
  · have c12 : decide (nI 0 ≤ x ∧ x ≤ nI 2) = false := q_b0.mp c12
    refine lv_aload_n hx hb dX5_sum_27 rfl (lv_at hl 0 rfl) ?_
    refine lv_iconst (v := nI 1) hx hb dX5_sum_28 (by decide) ?_
    refine q_V (As := [.int (nI 1)]) (rest := []) ⟨hx, hb, hml, hown, hts⟩ (c_X5_fails l C mo kp ty (nI 0) pl fl tl v o 1) (cwV 1 hts gX5_sum_X5_fails rfl rfl rfl (by decide +kernel) ⟨Nat.le_of_ble_eq_true rfl, Nat.le_of_ble_eq_true rfl⟩) hK hP hD hS hA [0, 1, 2] (by decide) rfl 0 rfl rfl rfl rfl hl.1 rfl (Nat.le_of_ble_eq_true rfl) dX5_sum_29 (Nat.zero_le _) (Nat.zero_le _) (fun r w1 H locs hQ hP hD hS => ?_)
    obtain ⟨rfl, rfl⟩ := hQ
    have hP : va_P C.1 vwCl (wO C mo (evm kp ty (nI 1) pl fl tl) v o) H := hP
    have hD : va_D (q_A (wO C mo (evm kp ty tw pl fl tl) v o) s) (wO C mo (evm kp ty (nI 1) pl fl tl) v o) := hD
    refine W.eq (g2 := F0 m 32 ls [.int (nI 0)]) rfl ?_
    refine lv_i2l (v := lN 0) hx hb dX5_sum_32 (by decide) ?_
    exact q_lret hx hb hr hlocks (w1 := wO C mo (evm kp ty (nI 1) pl fl tl) v o) hP hS rfl dX5_sum_33 (⟨rfl, rfl⟩)
  · have c12 : decide (nI 0 ≤ x ∧ x ≤ nI 2) = true := q_b1.mp c12
    exact absurd hxx (by rw [c12]; decide)
set_option maxHeartbeats 4000000 in
set_option maxRecDepth 100000 in
theorem c_X5_sum (l : Launch) (C : q_C) (mo : Nat → Nat) (kp ty tw pl fl tl : Int32) (v o : Nat → Nat) (b : Bd) (k : Nat) (hk : k < 3) : q_M C l yX5_sum wsX5_sum 1 23 [.ref (mo 0), .int (nI k)] (wO C mo (evm kp ty tw pl fl tl) v o ++ ([(mo 1, .inl (C.2.2.1, 82, .inr (.inl (mB b))))] : va_W)) (fun r w1 => r = some (.long (suL b k)) ∧ w1 = wO C mo (evm kp ty (nI 0) pl fl tl) v o ++ ([(mo 1, .inl (C.2.2.1, 82, .inr (.inl (mB b))))] : va_W)) := by
  refine q_head (cc := cX5_sum) (maxL := 2) (ret := (some .long)) (by decide +kernel) rfl (Nat.le_of_ble_eq_true rfl) ?_
  intro p e s m below meth c hx hb hr hlocks hml hown hts hK hP hD hS hA ls hl
  have hl : lv_has ls 2 [(0, .ref (mo 0)), (1, .int (nI k))] := hl
  have hf42 := hts (.fieldLink RX5 42 "RestedArmsModel" "thrown" "I") (by decide +kernel)
  have hf7 := hts (.fieldLink RX5 7 "RestedArmsModel" "now" "[J") (by decide +kernel)
  have hin5 : ∀ w ∈ u_ws RX5 TX5 13, w ∈ wsX5_sum := by decide +kernel
  refine lv_aload_n hx hb dX5_sum_0 rfl (lv_at hl 0 rfl) ?_
  refine lv_iconst (v := nI 0) hx hb dX5_sum_1 (by decide) ?_
  refine va_put (ci := 5) (v := .int (nI 0)) (ty := .int) (C := RX5) (T := TX5) (N := 13) hx hb hts hin5 tyX5 tyX5_ok nmX5 hown hK.1 hP hD hS 0 rfl rfl 6 (by decide) hf42 (fun _ h9 => h9) rfl (by decide +kernel) rfl rfl (Nat.le_of_ble_eq_true rfl) dX5_sum_2 (fun H locs hP hD hS => ?_)
  have hP : va_P C.1 vwCl (wO C mo (evm kp ty (nI 0) pl fl tl) v o ++ ([(mo 1, .inl (C.2.2.1, 82, .inr (.inl (mB b))))] : va_W)) H := hP
  have hD : va_D (q_A (wO C mo (evm kp ty tw pl fl tl) v o ++ ([(mo 1, .inl (C.2.2.1, 82, .inr (.inl (mB b))))] : va_W)) s) (wO C mo (evm kp ty (nI 0) pl fl tl) v o ++ ([(mo 1, .inl (C.2.2.1, 82, .inr (.inl (mB b))))] : va_W)) := hD
  refine lv_iload_n hx hb dX5_sum_5 rfl (lv_at hl 1 rfl) ?_
  refine lv_i2l (v := lN k) hx hb dX5_sum_6 (nI_l (by omega)) ?_
  refine lv_iconst (v := nI 0) hx hb dX5_sum_7 (by decide) ?_
  refine lv_iconst (v := nI 2) hx hb dX5_sum_8 (by decide) ?_
  refine q_S (As := [.long (lN k), .int (nI 0), .int (nI 2)]) (rest := []) ⟨hx, hb, hml, hown, hts⟩ (c_inN l C k 0 2 (by omega) (by omega) (by omega)) (va_cwS 3 hts gX5_sum_X5_in rfl rfl rfl (by decide +kernel) ⟨Nat.le_of_ble_eq_true rfl, Nat.le_of_ble_eq_true rfl⟩) hK hP hD hS hA [] (by decide) rfl rfl hl.1 rfl (Nat.le_of_ble_eq_true rfl) dX5_sum_9 (Nat.zero_le _) (Nat.zero_le _) (fun r w1 H locs hQ hP hD hS => ?_)
  obtain ⟨rfl, rfl⟩ := hQ
  refine W.eq (g2 := F0 m 12 ls [.int (q_b (decide (0 ≤ k ∧ k ≤ 2)))]) rfl ?_
  refine lv_if_eq (tgt := 27) hx hb dX5_sum_12 (by decide) (fun c12 => ?_) (fun c12 => ?_)
  · have c12 : decide (0 ≤ k ∧ k ≤ 2) = false := q_b0.mp c12
    exact absurd (show _ ∧ _ from ⟨by omega, by omega⟩) (of_decide_eq_false c12)
  have c12 : decide (0 ≤ k ∧ k ≤ 2) = true := q_b1.mp c12
  refine lv_aload_n hx hb dX5_sum_15 rfl (lv_at hl 0 rfl) ?_
  refine va_get (ci := 5) (v := .ref (mo 1)) (C := RX5) (T := TX5) (N := 13) hx hb hts hin5 hown hK.1 hP 0 rfl rfl 0 (by decide) hf7 (fun _ h9 => h9) rfl dX5_sum_16 ?_
  refine lv_bipush (v := nI 7) hx hb dX5_sum_19 (by decide) ?_
  refine lv_iload_n hx hb dX5_sum_21 rfl (lv_at hl 1 rfl) ?_
  refine lv_iadd hx hb dX5_sum_22 ?_
  refine q_ti (y := nI (7 + k)) (nI_add _ _) ?_
  refine q_lald (n := (7 + k)) (v := mB b (7 + k)) hx hb hK hP 3 rfl (by omega) (by decide) rfl dX5_sum_23 ?_
  refine q_tl (y := suL b k) (mB_su b hk) ?_
  refine lv_goto (tgt := 33) hx hb dX5_sum_24 (by decide) ?_
  exact q_lret hx hb hr hlocks (w1 := wO C mo (evm kp ty (nI 0) pl fl tl) v o ++ ([(mo 1, .inl (C.2.2.1, 82, .inr (.inl (mB b))))] : va_W)) hP hS rfl dX5_sum_33 (⟨rfl, rfl⟩)
set_option maxHeartbeats 4000000 in
set_option maxRecDepth 100000 in
theorem c1_X5_setting (l : Launch) (C : q_C) (mo : Nat → Nat) (kp ty tw pl fl tl : Int32) (v o : Nat → Nat) (x : Int32) (hxx : decide (nI 0 ≤ x ∧ x ≤ nI 3) = false) : q_M C l yX5_setting wsX5_setting 1 23 [.ref (mo 0), .int x] (wO C mo (evm kp ty tw pl fl tl) v o) (fun r w => r = some (.int (nI 0)) ∧ w = wO C mo (evm kp ty (nI 1) pl fl tl) v o) := by
  refine q_head (cc := cX5_setting) (maxL := 2) (ret := (some .int)) (by decide +kernel) rfl (Nat.le_of_ble_eq_true rfl) ?_
  intro p e s m below meth c hx hb hr hlocks hml hown hts hK hP hD hS hA ls hl
  have hl : lv_has ls 2 [(0, .ref (mo 0)), (1, .int x)] := hl
  have hf42 := hts (.fieldLink RX5 42 "RestedArmsModel" "thrown" "I") (by decide +kernel)
  have hin5 : ∀ w ∈ u_ws RX5 TX5 13, w ∈ wsX5_setting := by decide +kernel
  refine lv_aload_n hx hb dX5_setting_0 rfl (lv_at hl 0 rfl) ?_
  refine lv_iconst (v := nI 0) hx hb dX5_setting_1 (by decide) ?_
  refine va_put (ci := 5) (v := .int (nI 0)) (ty := .int) (C := RX5) (T := TX5) (N := 13) hx hb hts hin5 tyX5 tyX5_ok nmX5 hown hK.1 hP hD hS 0 rfl rfl 6 (by decide) hf42 (fun _ h9 => h9) rfl (by decide +kernel) rfl rfl (Nat.le_of_ble_eq_true rfl) dX5_setting_2 (fun H locs hP hD hS => ?_)
  have hP : va_P C.1 vwCl (wO C mo (evm kp ty (nI 0) pl fl tl) v o) H := hP
  have hD : va_D (q_A (wO C mo (evm kp ty tw pl fl tl) v o) s) (wO C mo (evm kp ty (nI 0) pl fl tl) v o) := hD
  refine lv_iload_n hx hb dX5_setting_5 rfl (lv_at hl 1 rfl) ?_
  refine lv_i2l (v := x.toInt64) hx hb dX5_setting_6 rfl ?_
  refine lv_iconst (v := nI 0) hx hb dX5_setting_7 (by decide) ?_
  refine lv_iconst (v := nI 3) hx hb dX5_setting_8 (by decide) ?_
  refine q_S (As := [.long x.toInt64, .int (nI 0), .int (nI 3)]) (rest := []) ⟨hx, hb, hml, hown, hts⟩ (c_in32 l C x (nI 0) (nI 3)) (va_cwS 3 hts gX5_setting_X5_in rfl rfl rfl (by decide +kernel) ⟨Nat.le_of_ble_eq_true rfl, Nat.le_of_ble_eq_true rfl⟩) hK hP hD hS hA [] (by decide) rfl rfl hl.1 rfl (Nat.le_of_ble_eq_true rfl) dX5_setting_9 (Nat.zero_le _) (Nat.zero_le _) (fun r w1 H locs hQ hP hD hS => ?_)
  obtain ⟨rfl, rfl⟩ := hQ
  refine W.eq (g2 := F0 m 12 ls [.int (q_b (decide (nI 0 ≤ x ∧ x ≤ nI 3)))]) rfl ?_
  refine lv_if_eq (tgt := 25) hx hb dX5_setting_12 (by decide) (fun c12 => ?_) (fun c12 => ?_)
  · have c12 : decide (nI 0 ≤ x ∧ x ≤ nI 3) = false := q_b0.mp c12
    refine lv_aload_n hx hb dX5_setting_25 rfl (lv_at hl 0 rfl) ?_
    refine lv_iconst (v := nI 1) hx hb dX5_setting_26 (by decide) ?_
    refine q_V (As := [.int (nI 1)]) (rest := []) ⟨hx, hb, hml, hown, hts⟩ (c_X5_fails l C mo kp ty (nI 0) pl fl tl v o 1) (cwV 1 hts gX5_setting_X5_fails rfl rfl rfl (by decide +kernel) ⟨Nat.le_of_ble_eq_true rfl, Nat.le_of_ble_eq_true rfl⟩) hK hP hD hS hA [0, 1, 2] (by decide) rfl 0 rfl rfl rfl rfl hl.1 rfl (Nat.le_of_ble_eq_true rfl) dX5_setting_27 (Nat.zero_le _) (Nat.zero_le _) (fun r w1 H locs hQ hP hD hS => ?_)
    obtain ⟨rfl, rfl⟩ := hQ
    have hP : va_P C.1 vwCl (wO C mo (evm kp ty (nI 1) pl fl tl) v o) H := hP
    have hD : va_D (q_A (wO C mo (evm kp ty tw pl fl tl) v o) s) (wO C mo (evm kp ty (nI 1) pl fl tl) v o) := hD
    refine W.eq (g2 := F0 m 30 ls [.int (nI 0)]) rfl ?_
    exact q_iret hx hb hr hlocks (w1 := wO C mo (evm kp ty (nI 1) pl fl tl) v o) hP hS rfl dX5_setting_30 (⟨rfl, rfl⟩)
  · have c12 : decide (nI 0 ≤ x ∧ x ≤ nI 3) = true := q_b1.mp c12
    exact absurd hxx (by rw [c12]; decide)
set_option maxHeartbeats 4000000 in
set_option maxRecDepth 100000 in
theorem c_X5_setting (l : Launch) (C : q_C) (mo : Nat → Nat) (kp ty tw pl fl tl : Int32) (v o : Nat → Nat) (b : Bd) (k : Nat) (hk : k < 4) : q_M C l yX5_setting wsX5_setting 1 23 [.ref (mo 0), .int (nI k)] (wO C mo (evm kp ty tw pl fl tl) v o ++ ([(mo 1, .inl (C.2.2.1, 82, .inr (.inl (mB b))))] : va_W)) (fun r w1 => r = some (.int (nI (bs b k))) ∧ w1 = wO C mo (evm kp ty (nI 0) pl fl tl) v o ++ ([(mo 1, .inl (C.2.2.1, 82, .inr (.inl (mB b))))] : va_W)) := by
  refine q_head (cc := cX5_setting) (maxL := 2) (ret := (some .int)) (by decide +kernel) rfl (Nat.le_of_ble_eq_true rfl) ?_
  intro p e s m below meth c hx hb hr hlocks hml hown hts hK hP hD hS hA ls hl
  have hl : lv_has ls 2 [(0, .ref (mo 0)), (1, .int (nI k))] := hl
  have hf42 := hts (.fieldLink RX5 42 "RestedArmsModel" "thrown" "I") (by decide +kernel)
  have hf7 := hts (.fieldLink RX5 7 "RestedArmsModel" "now" "[J") (by decide +kernel)
  have hin5 : ∀ w ∈ u_ws RX5 TX5 13, w ∈ wsX5_setting := by decide +kernel
  refine lv_aload_n hx hb dX5_setting_0 rfl (lv_at hl 0 rfl) ?_
  refine lv_iconst (v := nI 0) hx hb dX5_setting_1 (by decide) ?_
  refine va_put (ci := 5) (v := .int (nI 0)) (ty := .int) (C := RX5) (T := TX5) (N := 13) hx hb hts hin5 tyX5 tyX5_ok nmX5 hown hK.1 hP hD hS 0 rfl rfl 6 (by decide) hf42 (fun _ h9 => h9) rfl (by decide +kernel) rfl rfl (Nat.le_of_ble_eq_true rfl) dX5_setting_2 (fun H locs hP hD hS => ?_)
  have hP : va_P C.1 vwCl (wO C mo (evm kp ty (nI 0) pl fl tl) v o ++ ([(mo 1, .inl (C.2.2.1, 82, .inr (.inl (mB b))))] : va_W)) H := hP
  have hD : va_D (q_A (wO C mo (evm kp ty tw pl fl tl) v o ++ ([(mo 1, .inl (C.2.2.1, 82, .inr (.inl (mB b))))] : va_W)) s) (wO C mo (evm kp ty (nI 0) pl fl tl) v o ++ ([(mo 1, .inl (C.2.2.1, 82, .inr (.inl (mB b))))] : va_W)) := hD
  refine lv_iload_n hx hb dX5_setting_5 rfl (lv_at hl 1 rfl) ?_
  refine lv_i2l (v := lN k) hx hb dX5_setting_6 (nI_l (by omega)) ?_
  refine lv_iconst (v := nI 0) hx hb dX5_setting_7 (by decide) ?_
  refine lv_iconst (v := nI 3) hx hb dX5_setting_8 (by decide) ?_
  refine q_S (As := [.long (lN k), .int (nI 0), .int (nI 3)]) (rest := []) ⟨hx, hb, hml, hown, hts⟩ (c_inN l C k 0 3 (by omega) (by omega) (by omega)) (va_cwS 3 hts gX5_setting_X5_in rfl rfl rfl (by decide +kernel) ⟨Nat.le_of_ble_eq_true rfl, Nat.le_of_ble_eq_true rfl⟩) hK hP hD hS hA [] (by decide) rfl rfl hl.1 rfl (Nat.le_of_ble_eq_true rfl) dX5_setting_9 (Nat.zero_le _) (Nat.zero_le _) (fun r w1 H locs hQ hP hD hS => ?_)
  obtain ⟨rfl, rfl⟩ := hQ
  refine W.eq (g2 := F0 m 12 ls [.int (q_b (decide (0 ≤ k ∧ k ≤ 3)))]) rfl ?_
  refine lv_if_eq (tgt := 25) hx hb dX5_setting_12 (by decide) (fun c12 => ?_) (fun c12 => ?_)
  · have c12 : decide (0 ≤ k ∧ k ≤ 3) = false := q_b0.mp c12
    exact absurd (show _ ∧ _ from ⟨by omega, by omega⟩) (of_decide_eq_false c12)
  have c12 : decide (0 ≤ k ∧ k ≤ 3) = true := q_b1.mp c12
  refine lv_aload_n hx hb dX5_setting_15 rfl (lv_at hl 0 rfl) ?_
  refine va_get (ci := 5) (v := .ref (mo 1)) (C := RX5) (T := TX5) (N := 13) hx hb hts hin5 hown hK.1 hP 0 rfl rfl 0 (by decide) hf7 (fun _ h9 => h9) rfl dX5_setting_16 ?_
  refine lv_iload_n hx hb dX5_setting_19 rfl (lv_at hl 1 rfl) ?_
  refine q_lald (n := k) (v := mB b k) hx hb hK hP 3 rfl (by omega) (by decide) rfl dX5_setting_20 ?_
  refine q_tl (y := lN (bs b k)) (mB_s b hk) ?_
  refine lv_l2i (v := nI (bs b k)) hx hb dX5_setting_21 (lN_i _) ?_
  refine lv_goto (tgt := 30) hx hb dX5_setting_22 (by decide) ?_
  exact q_iret hx hb hr hlocks (w1 := wO C mo (evm kp ty (nI 0) pl fl tl) v o ++ ([(mo 1, .inl (C.2.2.1, 82, .inr (.inl (mB b))))] : va_W)) hP hS rfl dX5_setting_30 (⟨rfl, rfl⟩)
set_option maxHeartbeats 4000000 in
set_option maxRecDepth 100000 in
theorem c1_X5_choice (l : Launch) (C : q_C) (mo : Nat → Nat) (kp ty tw pl fl tl : Int32) (v o : Nat → Nat) (x : Int32) (hxx : decide (nI 0 ≤ x ∧ x ≤ nI 2) = false) : q_M C l yX5_choice wsX5_choice 1 23 [.ref (mo 0), .int x] (wO C mo (evm kp ty tw pl fl tl) v o) (fun r w => r = some (.int (nI 0)) ∧ w = wO C mo (evm kp ty (nI 1) pl fl tl) v o) := by
  refine q_head (cc := cX5_choice) (maxL := 2) (ret := (some .int)) (by decide +kernel) rfl (Nat.le_of_ble_eq_true rfl) ?_
  intro p e s m below meth c hx hb hr hlocks hml hown hts hK hP hD hS hA ls hl
  have hl : lv_has ls 2 [(0, .ref (mo 0)), (1, .int x)] := hl
  have hf42 := hts (.fieldLink RX5 42 "RestedArmsModel" "thrown" "I") (by decide +kernel)
  have hin5 : ∀ w ∈ u_ws RX5 TX5 13, w ∈ wsX5_choice := by decide +kernel
  refine lv_aload_n hx hb dX5_choice_0 rfl (lv_at hl 0 rfl) ?_
  refine lv_iconst (v := nI 0) hx hb dX5_choice_1 (by decide) ?_
  refine va_put (ci := 5) (v := .int (nI 0)) (ty := .int) (C := RX5) (T := TX5) (N := 13) hx hb hts hin5 tyX5 tyX5_ok nmX5 hown hK.1 hP hD hS 0 rfl rfl 6 (by decide) hf42 (fun _ h9 => h9) rfl (by decide +kernel) rfl rfl (Nat.le_of_ble_eq_true rfl) dX5_choice_2 (fun H locs hP hD hS => ?_)
  have hP : va_P C.1 vwCl (wO C mo (evm kp ty (nI 0) pl fl tl) v o) H := hP
  have hD : va_D (q_A (wO C mo (evm kp ty tw pl fl tl) v o) s) (wO C mo (evm kp ty (nI 0) pl fl tl) v o) := hD
  refine lv_iload_n hx hb dX5_choice_5 rfl (lv_at hl 1 rfl) ?_
  refine lv_i2l (v := x.toInt64) hx hb dX5_choice_6 rfl ?_
  refine lv_iconst (v := nI 0) hx hb dX5_choice_7 (by decide) ?_
  refine lv_iconst (v := nI 2) hx hb dX5_choice_8 (by decide) ?_
  refine q_S (As := [.long x.toInt64, .int (nI 0), .int (nI 2)]) (rest := []) ⟨hx, hb, hml, hown, hts⟩ (c_in32 l C x (nI 0) (nI 2)) (va_cwS 3 hts gX5_choice_X5_in rfl rfl rfl (by decide +kernel) ⟨Nat.le_of_ble_eq_true rfl, Nat.le_of_ble_eq_true rfl⟩) hK hP hD hS hA [] (by decide) rfl rfl hl.1 rfl (Nat.le_of_ble_eq_true rfl) dX5_choice_9 (Nat.zero_le _) (Nat.zero_le _) (fun r w1 H locs hQ hP hD hS => ?_)
  obtain ⟨rfl, rfl⟩ := hQ
  refine W.eq (g2 := F0 m 12 ls [.int (q_b (decide (nI 0 ≤ x ∧ x ≤ nI 2)))]) rfl ?_
  refine lv_if_eq (tgt := 27) hx hb dX5_choice_12 (by decide) (fun c12 => ?_) (fun c12 => ?_)
  · have c12 : decide (nI 0 ≤ x ∧ x ≤ nI 2) = false := q_b0.mp c12
    refine lv_aload_n hx hb dX5_choice_27 rfl (lv_at hl 0 rfl) ?_
    refine lv_iconst (v := nI 1) hx hb dX5_choice_28 (by decide) ?_
    refine q_V (As := [.int (nI 1)]) (rest := []) ⟨hx, hb, hml, hown, hts⟩ (c_X5_fails l C mo kp ty (nI 0) pl fl tl v o 1) (cwV 1 hts gX5_choice_X5_fails rfl rfl rfl (by decide +kernel) ⟨Nat.le_of_ble_eq_true rfl, Nat.le_of_ble_eq_true rfl⟩) hK hP hD hS hA [0, 1, 2] (by decide) rfl 0 rfl rfl rfl rfl hl.1 rfl (Nat.le_of_ble_eq_true rfl) dX5_choice_29 (Nat.zero_le _) (Nat.zero_le _) (fun r w1 H locs hQ hP hD hS => ?_)
    obtain ⟨rfl, rfl⟩ := hQ
    have hP : va_P C.1 vwCl (wO C mo (evm kp ty (nI 1) pl fl tl) v o) H := hP
    have hD : va_D (q_A (wO C mo (evm kp ty tw pl fl tl) v o) s) (wO C mo (evm kp ty (nI 1) pl fl tl) v o) := hD
    refine W.eq (g2 := F0 m 32 ls [.int (nI 0)]) rfl ?_
    exact q_iret hx hb hr hlocks (w1 := wO C mo (evm kp ty (nI 1) pl fl tl) v o) hP hS rfl dX5_choice_32 (⟨rfl, rfl⟩)
  · have c12 : decide (nI 0 ≤ x ∧ x ≤ nI 2) = true := q_b1.mp c12
    exact absurd hxx (by rw [c12]; decide)
set_option maxHeartbeats 4000000 in
set_option maxRecDepth 100000 in
theorem c_X5_choice (l : Launch) (C : q_C) (mo : Nat → Nat) (kp ty tw pl fl tl : Int32) (v o : Nat → Nat) (b : Bd) (k : Nat) (hB : OkB b) (hk : k < 3) : q_M C l yX5_choice wsX5_choice 6 148 [.ref (mo 0), .int (nI k)] (wO C mo (evm kp ty tw pl fl tl) v o ++ ([(mo 1, .inl (C.2.2.1, 82, .inr (.inl (mB b))))] : va_W)) (fun r w1 => ∃ v1 o1, r = some (.int (nI (choN b (idxT b) k))) ∧ w1 = wO C mo (evm kp ty (nI 0) pl fl tl) v1 o1 ++ ([(mo 1, .inl (C.2.2.1, 82, .inr (.inl (mB b))))] : va_W)) := by
  refine q_head (cc := cX5_choice) (maxL := 2) (ret := (some .int)) (by decide +kernel) rfl (Nat.le_of_ble_eq_true rfl) ?_
  intro p e s m below meth c hx hb hr hlocks hml hown hts hK hP hD hS hA ls hl
  have hl : lv_has ls 2 [(0, .ref (mo 0)), (1, .int (nI k))] := hl
  have hf42 := hts (.fieldLink RX5 42 "RestedArmsModel" "thrown" "I") (by decide +kernel)
  have hf7 := hts (.fieldLink RX5 7 "RestedArmsModel" "now" "[J") (by decide +kernel)
  have hin5 : ∀ w ∈ u_ws RX5 TX5 13, w ∈ wsX5_choice := by decide +kernel
  refine lv_aload_n hx hb dX5_choice_0 rfl (lv_at hl 0 rfl) ?_
  refine lv_iconst (v := nI 0) hx hb dX5_choice_1 (by decide) ?_
  refine va_put (ci := 5) (v := .int (nI 0)) (ty := .int) (C := RX5) (T := TX5) (N := 13) hx hb hts hin5 tyX5 tyX5_ok nmX5 hown hK.1 hP hD hS 0 rfl rfl 6 (by decide) hf42 (fun _ h9 => h9) rfl (by decide +kernel) rfl rfl (Nat.le_of_ble_eq_true rfl) dX5_choice_2 (fun H locs hP hD hS => ?_)
  have hP : va_P C.1 vwCl (wO C mo (evm kp ty (nI 0) pl fl tl) v o ++ ([(mo 1, .inl (C.2.2.1, 82, .inr (.inl (mB b))))] : va_W)) H := hP
  have hD : va_D (q_A (wO C mo (evm kp ty tw pl fl tl) v o ++ ([(mo 1, .inl (C.2.2.1, 82, .inr (.inl (mB b))))] : va_W)) s) (wO C mo (evm kp ty (nI 0) pl fl tl) v o ++ ([(mo 1, .inl (C.2.2.1, 82, .inr (.inl (mB b))))] : va_W)) := hD
  refine lv_iload_n hx hb dX5_choice_5 rfl (lv_at hl 1 rfl) ?_
  refine lv_i2l (v := lN k) hx hb dX5_choice_6 (nI_l (by omega)) ?_
  refine lv_iconst (v := nI 0) hx hb dX5_choice_7 (by decide) ?_
  refine lv_iconst (v := nI 2) hx hb dX5_choice_8 (by decide) ?_
  refine q_S (As := [.long (lN k), .int (nI 0), .int (nI 2)]) (rest := []) ⟨hx, hb, hml, hown, hts⟩ (c_inN l C k 0 2 (by omega) (by omega) (by omega)) (va_cwS 3 hts gX5_choice_X5_in rfl rfl rfl (by decide +kernel) ⟨Nat.le_of_ble_eq_true rfl, Nat.le_of_ble_eq_true rfl⟩) hK hP hD hS hA [] (by decide) rfl rfl hl.1 rfl (Nat.le_of_ble_eq_true rfl) dX5_choice_9 (Nat.zero_le _) (Nat.zero_le _) (fun r w1 H locs hQ hP hD hS => ?_)
  obtain ⟨rfl, rfl⟩ := hQ
  refine W.eq (g2 := F0 m 12 ls [.int (q_b (decide (0 ≤ k ∧ k ≤ 2)))]) rfl ?_
  refine lv_if_eq (tgt := 27) hx hb dX5_choice_12 (by decide) (fun c12 => ?_) (fun c12 => ?_)
  · have c12 : decide (0 ≤ k ∧ k ≤ 2) = false := q_b0.mp c12
    exact absurd (show _ ∧ _ from ⟨by omega, by omega⟩) (of_decide_eq_false c12)
  have c12 : decide (0 ≤ k ∧ k ≤ 2) = true := q_b1.mp c12
  refine lv_aload_n hx hb dX5_choice_15 rfl (lv_at hl 0 rfl) ?_
  refine lv_aload_n hx hb dX5_choice_16 rfl (lv_at hl 0 rfl) ?_
  refine va_get (ci := 5) (v := .ref (mo 1)) (C := RX5) (T := TX5) (N := 13) hx hb hts hin5 hown hK.1 hP 0 rfl rfl 0 (by decide) hf7 (fun _ h9 => h9) rfl dX5_choice_17 ?_
  refine lv_iload_n hx hb dX5_choice_20 rfl (lv_at hl 1 rfl) ?_
  refine q_V (As := [.ref (mo 1), .int (nI k)]) (rest := []) ⟨hx, hb, hml, hown, hts⟩ (c_X5_chosen l C mo (evm kp ty (nI 0) pl fl tl) v o (mo 1) b k hB (by omega)) (cwV 2 hts gX5_choice_X5_chosen rfl rfl rfl (by decide +kernel) ⟨Nat.le_of_ble_eq_true rfl, Nat.le_of_ble_eq_true rfl⟩) hK hP hD hS hA [0, 1, 2, 3] (by decide) rfl 0 rfl rfl rfl rfl hl.1 rfl (Nat.le_of_ble_eq_true rfl) dX5_choice_21 (Nat.zero_le _) (Nat.zero_le _) (fun r w1 H locs hQ hP hD hS => ?_)
  obtain ⟨vx1, ox1, rfl, rfl⟩ := hQ
  have hP : va_P C.1 vwCl (wO C mo (evm kp ty (nI 0) pl fl tl) vx1 ox1 ++ ([(mo 1, .inl (C.2.2.1, 82, .inr (.inl (mB b))))] : va_W)) H := hP
  have hD : va_D (q_A (wO C mo (evm kp ty tw pl fl tl) v o ++ ([(mo 1, .inl (C.2.2.1, 82, .inr (.inl (mB b))))] : va_W)) s) (wO C mo (evm kp ty (nI 0) pl fl tl) vx1 ox1 ++ ([(mo 1, .inl (C.2.2.1, 82, .inr (.inl (mB b))))] : va_W)) := hD
  refine W.eq (g2 := F0 m 24 ls [.int (nI (choN b (idxT b) k))]) rfl ?_
  refine lv_goto (tgt := 32) hx hb dX5_choice_24 (by decide) ?_
  exact q_iret hx hb hr hlocks (w1 := wO C mo (evm kp ty (nI 0) pl fl tl) vx1 ox1 ++ ([(mo 1, .inl (C.2.2.1, 82, .inr (.inl (mB b))))] : va_W)) hP hS rfl dX5_choice_32 (⟨_, _, rfl, rfl⟩)
set_option maxHeartbeats 4000000 in
set_option maxRecDepth 100000 in
theorem c1_X5_ifPlayed (l : Launch) (C : q_C) (mo : Nat → Nat) (kp ty tw pl fl tl : Int32) (v o : Nat → Nat) (x y : Int32) (hxx : (decide (nI 0 ≤ x ∧ x ≤ nI 2) && decide (nI 1 ≤ y ∧ y ≤ nI 99)) = false) : q_M C l yX5_ifPlayed wsX5_ifPlayed 2 44 [.ref (mo 0), .int x, .int y] (wO C mo (evm kp ty tw pl fl tl) v o) (fun r w => r = some (.long (lN 0)) ∧ w = wO C mo (evm kp ty (nI 1) pl fl tl) v o) := by
  refine q_head (cc := cX5_ifPlayed) (maxL := 3) (ret := (some .long)) (by decide +kernel) rfl (Nat.le_of_ble_eq_true rfl) ?_
  intro p e s m below meth c hx hb hr hlocks hml hown hts hK hP hD hS hA ls hl
  have hl : lv_has ls 3 [(0, .ref (mo 0)), (1, .int x), (2, .int y)] := hl
  have hf42 := hts (.fieldLink RX5 42 "RestedArmsModel" "thrown" "I") (by decide +kernel)
  have hin5 : ∀ w ∈ u_ws RX5 TX5 13, w ∈ wsX5_ifPlayed := by decide +kernel
  refine lv_aload_n hx hb dX5_ifPlayed_0 rfl (lv_at hl 0 rfl) ?_
  refine lv_iconst (v := nI 0) hx hb dX5_ifPlayed_1 (by decide) ?_
  refine va_put (ci := 5) (v := .int (nI 0)) (ty := .int) (C := RX5) (T := TX5) (N := 13) hx hb hts hin5 tyX5 tyX5_ok nmX5 hown hK.1 hP hD hS 0 rfl rfl 6 (by decide) hf42 (fun _ h9 => h9) rfl (by decide +kernel) rfl rfl (Nat.le_of_ble_eq_true rfl) dX5_ifPlayed_2 (fun H locs hP hD hS => ?_)
  have hP : va_P C.1 vwCl (wO C mo (evm kp ty (nI 0) pl fl tl) v o) H := hP
  have hD : va_D (q_A (wO C mo (evm kp ty tw pl fl tl) v o) s) (wO C mo (evm kp ty (nI 0) pl fl tl) v o) := hD
  refine lv_iload_n hx hb dX5_ifPlayed_5 rfl (lv_at hl 1 rfl) ?_
  refine lv_iload_n hx hb dX5_ifPlayed_6 rfl (lv_at hl 2 rfl) ?_
  refine q_S (As := [.int x, .int y]) (rest := []) ⟨hx, hb, hml, hown, hts⟩ (c_X5_isPlay l C x y) (va_cwS 2 hts gX5_ifPlayed_X5_isPlay rfl rfl rfl (by decide +kernel) ⟨Nat.le_of_ble_eq_true rfl, Nat.le_of_ble_eq_true rfl⟩) hK hP hD hS hA [] (by decide) rfl rfl hl.1 rfl (Nat.le_of_ble_eq_true rfl) dX5_ifPlayed_7 (Nat.zero_le _) (Nat.zero_le _) (fun r w1 H locs hQ hP hD hS => ?_)
  obtain ⟨rfl, rfl⟩ := hQ
  refine W.eq (g2 := F0 m 10 ls [.int (q_b (decide (nI 0 ≤ x ∧ x ≤ nI 2) && decide (nI 1 ≤ y ∧ y ≤ nI 99)))]) rfl ?_
  refine lv_if_eq (tgt := 22) hx hb dX5_ifPlayed_10 (by decide) (fun c10 => ?_) (fun c10 => ?_)
  · have c10 : (decide (nI 0 ≤ x ∧ x ≤ nI 2) && decide (nI 1 ≤ y ∧ y ≤ nI 99)) = false := q_b0.mp c10
    refine lv_aload_n hx hb dX5_ifPlayed_22 rfl (lv_at hl 0 rfl) ?_
    refine lv_iconst (v := nI 1) hx hb dX5_ifPlayed_23 (by decide) ?_
    refine q_V (As := [.int (nI 1)]) (rest := []) ⟨hx, hb, hml, hown, hts⟩ (c_X5_fails l C mo kp ty (nI 0) pl fl tl v o 1) (cwV 1 hts gX5_ifPlayed_X5_fails rfl rfl rfl (by decide +kernel) ⟨Nat.le_of_ble_eq_true rfl, Nat.le_of_ble_eq_true rfl⟩) hK hP hD hS hA [0, 1, 2] (by decide) rfl 0 rfl rfl rfl rfl hl.1 rfl (Nat.le_of_ble_eq_true rfl) dX5_ifPlayed_24 (Nat.zero_le _) (Nat.zero_le _) (fun r w1 H locs hQ hP hD hS => ?_)
    obtain ⟨rfl, rfl⟩ := hQ
    have hP : va_P C.1 vwCl (wO C mo (evm kp ty (nI 1) pl fl tl) v o) H := hP
    have hD : va_D (q_A (wO C mo (evm kp ty tw pl fl tl) v o) s) (wO C mo (evm kp ty (nI 1) pl fl tl) v o) := hD
    refine W.eq (g2 := F0 m 27 ls [.int (nI 0)]) rfl ?_
    refine lv_i2l (v := lN 0) hx hb dX5_ifPlayed_27 (by decide) ?_
    exact q_lret hx hb hr hlocks (w1 := wO C mo (evm kp ty (nI 1) pl fl tl) v o) hP hS rfl dX5_ifPlayed_28 (⟨rfl, rfl⟩)
  · have c10 : (decide (nI 0 ≤ x ∧ x ≤ nI 2) && decide (nI 1 ≤ y ∧ y ≤ nI 99)) = true := q_b1.mp c10
    exact absurd hxx (by rw [c10]; decide)
set_option maxHeartbeats 4000000 in
set_option maxRecDepth 100000 in
theorem c_X5_ifPlayed (l : Launch) (C : q_C) (mo : Nat → Nat) (kp ty tw pl fl tl : Int32) (v o : Nat → Nat) (b : Bd) (g : Nat → Int64) (rule k : Nat) (hB : OkB b) (hr3 : rule < 3) (h1 : 1 ≤ k) (h2 : k ≤ 99) : q_M C l yX5_ifPlayed wsX5_ifPlayed 8 194 [.ref (mo 0), .int (nI rule), .int (nI k)] (wO C mo (evm kp ty tw pl fl tl) v o ++ ([(mo 1, .inl (C.2.2.1, 82, .inr (.inl (mB b)))), (mo 2, .inl (C.2.2.1, 82, .inr (.inl g)))] : va_W)) (fun r w1 => ∃ v1 o1 g1, r = some (.long (gnN b rule k)) ∧ w1 = wO C mo (evm kp ty (nI 0) pl fl tl) v1 o1 ++ ([(mo 1, .inl (C.2.2.1, 82, .inr (.inl (mB b)))), (mo 2, .inl (C.2.2.1, 82, .inr (.inl g1)))] : va_W)) := by
  refine q_head (cc := cX5_ifPlayed) (maxL := 3) (ret := (some .long)) (by decide +kernel) rfl (Nat.le_of_ble_eq_true rfl) ?_
  intro p e s m below meth c hx hb hr hlocks hml hown hts hK hP hD hS hA ls hl
  have hl : lv_has ls 3 [(0, .ref (mo 0)), (1, .int (nI rule)), (2, .int (nI k))] := hl
  have hf42 := hts (.fieldLink RX5 42 "RestedArmsModel" "thrown" "I") (by decide +kernel)
  have hin5 : ∀ w ∈ u_ws RX5 TX5 13, w ∈ wsX5_ifPlayed := by decide +kernel
  refine lv_aload_n hx hb dX5_ifPlayed_0 rfl (lv_at hl 0 rfl) ?_
  refine lv_iconst (v := nI 0) hx hb dX5_ifPlayed_1 (by decide) ?_
  refine va_put (ci := 5) (v := .int (nI 0)) (ty := .int) (C := RX5) (T := TX5) (N := 13) hx hb hts hin5 tyX5 tyX5_ok nmX5 hown hK.1 hP hD hS 0 rfl rfl 6 (by decide) hf42 (fun _ h9 => h9) rfl (by decide +kernel) rfl rfl (Nat.le_of_ble_eq_true rfl) dX5_ifPlayed_2 (fun H locs hP hD hS => ?_)
  have hP : va_P C.1 vwCl (wO C mo (evm kp ty (nI 0) pl fl tl) v o ++ ([(mo 1, .inl (C.2.2.1, 82, .inr (.inl (mB b)))), (mo 2, .inl (C.2.2.1, 82, .inr (.inl g)))] : va_W)) H := hP
  have hD : va_D (q_A (wO C mo (evm kp ty tw pl fl tl) v o ++ ([(mo 1, .inl (C.2.2.1, 82, .inr (.inl (mB b)))), (mo 2, .inl (C.2.2.1, 82, .inr (.inl g)))] : va_W)) s) (wO C mo (evm kp ty (nI 0) pl fl tl) v o ++ ([(mo 1, .inl (C.2.2.1, 82, .inr (.inl (mB b)))), (mo 2, .inl (C.2.2.1, 82, .inr (.inl g)))] : va_W)) := hD
  refine lv_iload_n hx hb dX5_ifPlayed_5 rfl (lv_at hl 1 rfl) ?_
  refine lv_iload_n hx hb dX5_ifPlayed_6 rfl (lv_at hl 2 rfl) ?_
  refine q_S (As := [.int (nI rule), .int (nI k)]) (rest := []) ⟨hx, hb, hml, hown, hts⟩ (c_X5_isPlay l C (nI rule) (nI k)) (va_cwS 2 hts gX5_ifPlayed_X5_isPlay rfl rfl rfl (by decide +kernel) ⟨Nat.le_of_ble_eq_true rfl, Nat.le_of_ble_eq_true rfl⟩) hK hP hD hS hA [] (by decide) rfl rfl hl.1 rfl (Nat.le_of_ble_eq_true rfl) dX5_ifPlayed_7 (Nat.zero_le _) (Nat.zero_le _) (fun r w1 H locs hQ hP hD hS => ?_)
  obtain ⟨rfl, rfl⟩ := hQ
  refine W.eq (g2 := F0 m 10 ls [.int (q_b (decide (nI 0 ≤ (nI rule) ∧ (nI rule) ≤ nI 2) && decide (nI 1 ≤ (nI k) ∧ (nI k) ≤ nI 99)))]) rfl ?_
  refine lv_if_eq (tgt := 22) hx hb dX5_ifPlayed_10 (by decide) (fun c10 => ?_) (fun c10 => ?_)
  · have c10 : (decide (nI 0 ≤ (nI rule) ∧ (nI rule) ≤ nI 2) && decide (nI 1 ≤ (nI k) ∧ (nI k) ≤ nI 99)) = false := q_b0.mp c10
    exact absurd (c10.symm.trans (isT2 (inT (by omega) (by omega) (by decide)) (inT (by omega) (by omega) (by decide)))) (by decide)
  have c10 : (decide (nI 0 ≤ (nI rule) ∧ (nI rule) ≤ nI 2) && decide (nI 1 ≤ (nI k) ∧ (nI k) ≤ nI 99)) = true := q_b1.mp c10
  refine lv_aload_n hx hb dX5_ifPlayed_13 rfl (lv_at hl 0 rfl) ?_
  refine lv_iload_n hx hb dX5_ifPlayed_14 rfl (lv_at hl 1 rfl) ?_
  refine lv_iload_n hx hb dX5_ifPlayed_15 rfl (lv_at hl 2 rfl) ?_
  refine q_V (As := [.int (nI rule), .int (nI k)]) (rest := []) ⟨hx, hb, hml, hown, hts⟩ (c_X5_byPlay l C mo kp ty (nI 0) pl fl tl v o b g rule k hB (by omega) (by omega)) (cwV 2 hts gX5_ifPlayed_X5_byPlay rfl rfl rfl (by decide +kernel) ⟨Nat.le_of_ble_eq_true rfl, Nat.le_of_ble_eq_true rfl⟩) hK hP hD hS hA [0, 1, 2, 3, 4] (by decide) rfl 0 rfl rfl rfl rfl hl.1 rfl (Nat.le_of_ble_eq_true rfl) dX5_ifPlayed_16 (Nat.zero_le _) (Nat.zero_le _) (fun r w1 H locs hQ hP hD hS => ?_)
  obtain ⟨vx1, ox1, rfl, rfl⟩ := hQ
  have hP : va_P C.1 vwCl (wO C mo (evm kp ty (nI 0) pl fl tl) vx1 ox1 ++ ([(mo 1, .inl (C.2.2.1, 82, .inr (.inl (mB b)))), (mo 2, .inl (C.2.2.1, 82, .inr (.inl (mB (plN b (idxT b) rule k)))))] : va_W)) H := hP
  have hD : va_D (q_A (wO C mo (evm kp ty tw pl fl tl) v o ++ ([(mo 1, .inl (C.2.2.1, 82, .inr (.inl (mB b)))), (mo 2, .inl (C.2.2.1, 82, .inr (.inl g)))] : va_W)) s) (wO C mo (evm kp ty (nI 0) pl fl tl) vx1 ox1 ++ ([(mo 1, .inl (C.2.2.1, 82, .inr (.inl (mB b)))), (mo 2, .inl (C.2.2.1, 82, .inr (.inl (mB (plN b (idxT b) rule k)))))] : va_W)) := hD
  refine W.eq (g2 := F0 m 19 ls [.long (gnN b rule k)]) rfl ?_
  refine lv_goto (tgt := 28) hx hb dX5_ifPlayed_19 (by decide) ?_
  exact q_lret hx hb hr hlocks (w1 := wO C mo (evm kp ty (nI 0) pl fl tl) vx1 ox1 ++ ([(mo 1, .inl (C.2.2.1, 82, .inr (.inl (mB b)))), (mo 2, .inl (C.2.2.1, 82, .inr (.inl (mB (plN b (idxT b) rule k)))))] : va_W)) hP hS rfl dX5_ifPlayed_28 (⟨_, _, _, rfl, rfl⟩)
set_option maxHeartbeats 4000000 in
set_option maxRecDepth 100000 in
theorem c1_X5_bestRule (l : Launch) (C : q_C) (mo : Nat → Nat) (kp ty tw pl fl tl : Int32) (v o : Nat → Nat) (x : Int32) (hxx : decide (nI 1 ≤ x ∧ x ≤ nI 99) = false) : q_M C l yX5_bestRule wsX5_bestRule 1 23 [.ref (mo 0), .int x] (wO C mo (evm kp ty tw pl fl tl) v o) (fun r w => r = some (.int (nI 0)) ∧ w = wO C mo (evm kp ty (nI 1) pl fl tl) v o) := by
  refine q_head (cc := cX5_bestRule) (maxL := 2) (ret := (some .int)) (by decide +kernel) rfl (Nat.le_of_ble_eq_true rfl) ?_
  intro p e s m below meth c hx hb hr hlocks hml hown hts hK hP hD hS hA ls hl
  have hl : lv_has ls 2 [(0, .ref (mo 0)), (1, .int x)] := hl
  have hf42 := hts (.fieldLink RX5 42 "RestedArmsModel" "thrown" "I") (by decide +kernel)
  have hin5 : ∀ w ∈ u_ws RX5 TX5 13, w ∈ wsX5_bestRule := by decide +kernel
  refine lv_aload_n hx hb dX5_bestRule_0 rfl (lv_at hl 0 rfl) ?_
  refine lv_iconst (v := nI 0) hx hb dX5_bestRule_1 (by decide) ?_
  refine va_put (ci := 5) (v := .int (nI 0)) (ty := .int) (C := RX5) (T := TX5) (N := 13) hx hb hts hin5 tyX5 tyX5_ok nmX5 hown hK.1 hP hD hS 0 rfl rfl 6 (by decide) hf42 (fun _ h9 => h9) rfl (by decide +kernel) rfl rfl (Nat.le_of_ble_eq_true rfl) dX5_bestRule_2 (fun H locs hP hD hS => ?_)
  have hP : va_P C.1 vwCl (wO C mo (evm kp ty (nI 0) pl fl tl) v o) H := hP
  have hD : va_D (q_A (wO C mo (evm kp ty tw pl fl tl) v o) s) (wO C mo (evm kp ty (nI 0) pl fl tl) v o) := hD
  refine lv_iload_n hx hb dX5_bestRule_5 rfl (lv_at hl 1 rfl) ?_
  refine lv_i2l (v := x.toInt64) hx hb dX5_bestRule_6 rfl ?_
  refine lv_iconst (v := nI 1) hx hb dX5_bestRule_7 (by decide) ?_
  refine lv_bipush (v := nI 99) hx hb dX5_bestRule_8 (by decide) ?_
  refine q_S (As := [.long x.toInt64, .int (nI 1), .int (nI 99)]) (rest := []) ⟨hx, hb, hml, hown, hts⟩ (c_in32 l C x (nI 1) (nI 99)) (va_cwS 3 hts gX5_bestRule_X5_in rfl rfl rfl (by decide +kernel) ⟨Nat.le_of_ble_eq_true rfl, Nat.le_of_ble_eq_true rfl⟩) hK hP hD hS hA [] (by decide) rfl rfl hl.1 rfl (Nat.le_of_ble_eq_true rfl) dX5_bestRule_10 (Nat.zero_le _) (Nat.zero_le _) (fun r w1 H locs hQ hP hD hS => ?_)
  obtain ⟨rfl, rfl⟩ := hQ
  refine W.eq (g2 := F0 m 13 ls [.int (q_b (decide (nI 1 ≤ x ∧ x ≤ nI 99)))]) rfl ?_
  refine lv_if_eq (tgt := 24) hx hb dX5_bestRule_13 (by decide) (fun c13 => ?_) (fun c13 => ?_)
  · have c13 : decide (nI 1 ≤ x ∧ x ≤ nI 99) = false := q_b0.mp c13
    refine lv_aload_n hx hb dX5_bestRule_24 rfl (lv_at hl 0 rfl) ?_
    refine lv_iconst (v := nI 1) hx hb dX5_bestRule_25 (by decide) ?_
    refine q_V (As := [.int (nI 1)]) (rest := []) ⟨hx, hb, hml, hown, hts⟩ (c_X5_fails l C mo kp ty (nI 0) pl fl tl v o 1) (cwV 1 hts gX5_bestRule_X5_fails rfl rfl rfl (by decide +kernel) ⟨Nat.le_of_ble_eq_true rfl, Nat.le_of_ble_eq_true rfl⟩) hK hP hD hS hA [0, 1, 2] (by decide) rfl 0 rfl rfl rfl rfl hl.1 rfl (Nat.le_of_ble_eq_true rfl) dX5_bestRule_26 (Nat.zero_le _) (Nat.zero_le _) (fun r w1 H locs hQ hP hD hS => ?_)
    obtain ⟨rfl, rfl⟩ := hQ
    have hP : va_P C.1 vwCl (wO C mo (evm kp ty (nI 1) pl fl tl) v o) H := hP
    have hD : va_D (q_A (wO C mo (evm kp ty tw pl fl tl) v o) s) (wO C mo (evm kp ty (nI 1) pl fl tl) v o) := hD
    refine W.eq (g2 := F0 m 29 ls [.int (nI 0)]) rfl ?_
    exact q_iret hx hb hr hlocks (w1 := wO C mo (evm kp ty (nI 1) pl fl tl) v o) hP hS rfl dX5_bestRule_29 (⟨rfl, rfl⟩)
  · have c13 : decide (nI 1 ≤ x ∧ x ≤ nI 99) = true := q_b1.mp c13
    exact absurd hxx (by rw [c13]; decide)
set_option maxHeartbeats 4000000 in
set_option maxRecDepth 100000 in
theorem c_X5_bestRule (l : Launch) (C : q_C) (mo : Nat → Nat) (kp ty tw pl fl tl : Int32) (v o : Nat → Nat) (b : Bd) (g : Nat → Int64) (k : Nat) (hB : OkB b) (h1 : 1 ≤ k) (h2 : k ≤ 99) : q_M C l yX5_bestRule wsX5_bestRule 9 217 [.ref (mo 0), .int (nI k)] (wO C mo (evm kp ty tw pl fl tl) v o ++ ([(mo 1, .inl (C.2.2.1, 82, .inr (.inl (mB b)))), (mo 2, .inl (C.2.2.1, 82, .inr (.inl g)))] : va_W)) (fun r w1 => ∃ v1 o1 g1, r = some (.int (nI (bsrN b k 2))) ∧ w1 = wO C mo (evm kp ty (nI 0) pl fl tl) v1 o1 ++ ([(mo 1, .inl (C.2.2.1, 82, .inr (.inl (mB b)))), (mo 2, .inl (C.2.2.1, 82, .inr (.inl g1)))] : va_W)) := by
  refine q_head (cc := cX5_bestRule) (maxL := 2) (ret := (some .int)) (by decide +kernel) rfl (Nat.le_of_ble_eq_true rfl) ?_
  intro p e s m below meth c hx hb hr hlocks hml hown hts hK hP hD hS hA ls hl
  have hl : lv_has ls 2 [(0, .ref (mo 0)), (1, .int (nI k))] := hl
  have hf42 := hts (.fieldLink RX5 42 "RestedArmsModel" "thrown" "I") (by decide +kernel)
  have hin5 : ∀ w ∈ u_ws RX5 TX5 13, w ∈ wsX5_bestRule := by decide +kernel
  refine lv_aload_n hx hb dX5_bestRule_0 rfl (lv_at hl 0 rfl) ?_
  refine lv_iconst (v := nI 0) hx hb dX5_bestRule_1 (by decide) ?_
  refine va_put (ci := 5) (v := .int (nI 0)) (ty := .int) (C := RX5) (T := TX5) (N := 13) hx hb hts hin5 tyX5 tyX5_ok nmX5 hown hK.1 hP hD hS 0 rfl rfl 6 (by decide) hf42 (fun _ h9 => h9) rfl (by decide +kernel) rfl rfl (Nat.le_of_ble_eq_true rfl) dX5_bestRule_2 (fun H locs hP hD hS => ?_)
  have hP : va_P C.1 vwCl (wO C mo (evm kp ty (nI 0) pl fl tl) v o ++ ([(mo 1, .inl (C.2.2.1, 82, .inr (.inl (mB b)))), (mo 2, .inl (C.2.2.1, 82, .inr (.inl g)))] : va_W)) H := hP
  have hD : va_D (q_A (wO C mo (evm kp ty tw pl fl tl) v o ++ ([(mo 1, .inl (C.2.2.1, 82, .inr (.inl (mB b)))), (mo 2, .inl (C.2.2.1, 82, .inr (.inl g)))] : va_W)) s) (wO C mo (evm kp ty (nI 0) pl fl tl) v o ++ ([(mo 1, .inl (C.2.2.1, 82, .inr (.inl (mB b)))), (mo 2, .inl (C.2.2.1, 82, .inr (.inl g)))] : va_W)) := hD
  refine lv_iload_n hx hb dX5_bestRule_5 rfl (lv_at hl 1 rfl) ?_
  refine lv_i2l (v := lN k) hx hb dX5_bestRule_6 (nI_l (by omega)) ?_
  refine lv_iconst (v := nI 1) hx hb dX5_bestRule_7 (by decide) ?_
  refine lv_bipush (v := nI 99) hx hb dX5_bestRule_8 (by decide) ?_
  refine q_S (As := [.long (lN k), .int (nI 1), .int (nI 99)]) (rest := []) ⟨hx, hb, hml, hown, hts⟩ (c_inN l C k 1 99 (by omega) (by omega) (by omega)) (va_cwS 3 hts gX5_bestRule_X5_in rfl rfl rfl (by decide +kernel) ⟨Nat.le_of_ble_eq_true rfl, Nat.le_of_ble_eq_true rfl⟩) hK hP hD hS hA [] (by decide) rfl rfl hl.1 rfl (Nat.le_of_ble_eq_true rfl) dX5_bestRule_10 (Nat.zero_le _) (Nat.zero_le _) (fun r w1 H locs hQ hP hD hS => ?_)
  obtain ⟨rfl, rfl⟩ := hQ
  refine W.eq (g2 := F0 m 13 ls [.int (q_b (decide (1 ≤ k ∧ k ≤ 99)))]) rfl ?_
  refine lv_if_eq (tgt := 24) hx hb dX5_bestRule_13 (by decide) (fun c13 => ?_) (fun c13 => ?_)
  · have c13 : decide (1 ≤ k ∧ k ≤ 99) = false := q_b0.mp c13
    exact absurd (show _ ∧ _ from ⟨by omega, by omega⟩) (of_decide_eq_false c13)
  have c13 : decide (1 ≤ k ∧ k ≤ 99) = true := q_b1.mp c13
  refine lv_aload_n hx hb dX5_bestRule_16 rfl (lv_at hl 0 rfl) ?_
  refine lv_iload_n hx hb dX5_bestRule_17 rfl (lv_at hl 1 rfl) ?_
  refine q_V (As := [.int (nI k)]) (rest := []) ⟨hx, hb, hml, hown, hts⟩ (c_X5_best l C mo kp ty (nI 0) pl fl tl v o b g k hB (by omega)) (cwV 1 hts gX5_bestRule_X5_best rfl rfl rfl (by decide +kernel) ⟨Nat.le_of_ble_eq_true rfl, Nat.le_of_ble_eq_true rfl⟩) hK hP hD hS hA [0, 1, 2, 3, 4] (by decide) rfl 0 rfl rfl rfl rfl hl.1 rfl (Nat.le_of_ble_eq_true rfl) dX5_bestRule_18 (Nat.zero_le _) (Nat.zero_le _) (fun r w1 H locs hQ hP hD hS => ?_)
  obtain ⟨vx1, ox1, gx1, rfl, rfl⟩ := hQ
  have hP : va_P C.1 vwCl (wO C mo (evm kp ty (nI 0) pl fl tl) vx1 ox1 ++ ([(mo 1, .inl (C.2.2.1, 82, .inr (.inl (mB b)))), (mo 2, .inl (C.2.2.1, 82, .inr (.inl gx1)))] : va_W)) H := hP
  have hD : va_D (q_A (wO C mo (evm kp ty tw pl fl tl) v o ++ ([(mo 1, .inl (C.2.2.1, 82, .inr (.inl (mB b)))), (mo 2, .inl (C.2.2.1, 82, .inr (.inl g)))] : va_W)) s) (wO C mo (evm kp ty (nI 0) pl fl tl) vx1 ox1 ++ ([(mo 1, .inl (C.2.2.1, 82, .inr (.inl (mB b)))), (mo 2, .inl (C.2.2.1, 82, .inr (.inl gx1)))] : va_W)) := hD
  refine W.eq (g2 := F0 m 21 ls [.int (nI (bsrN b k 2))]) rfl ?_
  refine lv_goto (tgt := 29) hx hb dX5_bestRule_21 (by decide) ?_
  exact q_iret hx hb hr hlocks (w1 := wO C mo (evm kp ty (nI 0) pl fl tl) vx1 ox1 ++ ([(mo 1, .inl (C.2.2.1, 82, .inr (.inl (mB b)))), (mo 2, .inl (C.2.2.1, 82, .inr (.inl gx1)))] : va_W)) hP hS rfl dX5_bestRule_29 (⟨_, _, _, rfl, rfl⟩)
set_option maxHeartbeats 4000000 in
set_option maxRecDepth 100000 in
theorem c1_X5_giftFor (l : Launch) (C : q_C) (mo : Nat → Nat) (kp ty tw pl fl tl : Int32) (v o : Nat → Nat) (x y : Int32) (hxx : (decide (nI 0 ≤ x ∧ x ≤ nI 3) && decide (nI 0 ≤ y ∧ y ≤ nI 3)) = false) : q_M C l yX5_giftFor wsX5_giftFor 2 43 [.ref (mo 0), .int x, .int y] (wO C mo (evm kp ty tw pl fl tl) v o) (fun r w => r = some (.int (nI 0)) ∧ w = wO C mo (evm kp ty (nI 1) pl fl tl) v o) := by
  refine q_head (cc := cX5_giftFor) (maxL := 3) (ret := (some .int)) (by decide +kernel) rfl (Nat.le_of_ble_eq_true rfl) ?_
  intro p e s m below meth c hx hb hr hlocks hml hown hts hK hP hD hS hA ls hl
  have hl : lv_has ls 3 [(0, .ref (mo 0)), (1, .int x), (2, .int y)] := hl
  have hf42 := hts (.fieldLink RX5 42 "RestedArmsModel" "thrown" "I") (by decide +kernel)
  have hin5 : ∀ w ∈ u_ws RX5 TX5 13, w ∈ wsX5_giftFor := by decide +kernel
  refine lv_aload_n hx hb dX5_giftFor_0 rfl (lv_at hl 0 rfl) ?_
  refine lv_iconst (v := nI 0) hx hb dX5_giftFor_1 (by decide) ?_
  refine va_put (ci := 5) (v := .int (nI 0)) (ty := .int) (C := RX5) (T := TX5) (N := 13) hx hb hts hin5 tyX5 tyX5_ok nmX5 hown hK.1 hP hD hS 0 rfl rfl 6 (by decide) hf42 (fun _ h9 => h9) rfl (by decide +kernel) rfl rfl (Nat.le_of_ble_eq_true rfl) dX5_giftFor_2 (fun H locs hP hD hS => ?_)
  have hP : va_P C.1 vwCl (wO C mo (evm kp ty (nI 0) pl fl tl) v o) H := hP
  have hD : va_D (q_A (wO C mo (evm kp ty tw pl fl tl) v o) s) (wO C mo (evm kp ty (nI 0) pl fl tl) v o) := hD
  refine lv_iload_n hx hb dX5_giftFor_5 rfl (lv_at hl 1 rfl) ?_
  refine q_S (As := [.int x]) (rest := []) ⟨hx, hb, hml, hown, hts⟩ (c_X5_isArm l C x) (va_cwS 1 hts gX5_giftFor_X5_isArm rfl rfl rfl (by decide +kernel) ⟨Nat.le_of_ble_eq_true rfl, Nat.le_of_ble_eq_true rfl⟩) hK hP hD hS hA [] (by decide) rfl rfl hl.1 rfl (Nat.le_of_ble_eq_true rfl) dX5_giftFor_6 (Nat.zero_le _) (Nat.zero_le _) (fun r w1 H locs hQ hP hD hS => ?_)
  obtain ⟨rfl, rfl⟩ := hQ
  refine W.eq (g2 := F0 m 9 ls [.int (q_b (decide (nI 0 ≤ x ∧ x ≤ nI 3)))]) rfl ?_
  refine lv_if_eq (tgt := 28) hx hb dX5_giftFor_9 (by decide) (fun c9 => ?_) (fun c9 => ?_)
  · have c9 : decide (nI 0 ≤ x ∧ x ≤ nI 3) = false := q_b0.mp c9
    refine lv_aload_n hx hb dX5_giftFor_28 rfl (lv_at hl 0 rfl) ?_
    refine lv_iconst (v := nI 1) hx hb dX5_giftFor_29 (by decide) ?_
    refine q_V (As := [.int (nI 1)]) (rest := []) ⟨hx, hb, hml, hown, hts⟩ (c_X5_fails l C mo kp ty (nI 0) pl fl tl v o 1) (cwV 1 hts gX5_giftFor_X5_fails rfl rfl rfl (by decide +kernel) ⟨Nat.le_of_ble_eq_true rfl, Nat.le_of_ble_eq_true rfl⟩) hK hP hD hS hA [0, 1, 2] (by decide) rfl 0 rfl rfl rfl rfl hl.1 rfl (Nat.le_of_ble_eq_true rfl) dX5_giftFor_30 (Nat.zero_le _) (Nat.zero_le _) (fun r w1 H locs hQ hP hD hS => ?_)
    obtain ⟨rfl, rfl⟩ := hQ
    have hP : va_P C.1 vwCl (wO C mo (evm kp ty (nI 1) pl fl tl) v o) H := hP
    have hD : va_D (q_A (wO C mo (evm kp ty tw pl fl tl) v o) s) (wO C mo (evm kp ty (nI 1) pl fl tl) v o) := hD
    refine W.eq (g2 := F0 m 33 ls [.int (nI 0)]) rfl ?_
    exact q_iret hx hb hr hlocks (w1 := wO C mo (evm kp ty (nI 1) pl fl tl) v o) hP hS rfl dX5_giftFor_33 (⟨rfl, rfl⟩)
  · have c9 : decide (nI 0 ≤ x ∧ x ≤ nI 3) = true := q_b1.mp c9
    refine lv_iload_n hx hb dX5_giftFor_12 rfl (lv_at hl 2 rfl) ?_
    refine q_S (As := [.int y]) (rest := []) ⟨hx, hb, hml, hown, hts⟩ (c_X5_isState l C y) (va_cwS 1 hts gX5_giftFor_X5_isState rfl rfl rfl (by decide +kernel) ⟨Nat.le_of_ble_eq_true rfl, Nat.le_of_ble_eq_true rfl⟩) hK hP hD hS hA [] (by decide) rfl rfl hl.1 rfl (Nat.le_of_ble_eq_true rfl) dX5_giftFor_13 (Nat.zero_le _) (Nat.zero_le _) (fun r w1 H locs hQ hP hD hS => ?_)
    obtain ⟨rfl, rfl⟩ := hQ
    refine W.eq (g2 := F0 m 16 ls [.int (q_b (decide (nI 0 ≤ y ∧ y ≤ nI 3)))]) rfl ?_
    refine lv_if_eq (tgt := 28) hx hb dX5_giftFor_16 (by decide) (fun c16 => ?_) (fun c16 => ?_)
    · have c16 : decide (nI 0 ≤ y ∧ y ≤ nI 3) = false := q_b0.mp c16
      refine lv_aload_n hx hb dX5_giftFor_28 rfl (lv_at hl 0 rfl) ?_
      refine lv_iconst (v := nI 1) hx hb dX5_giftFor_29 (by decide) ?_
      refine q_V (As := [.int (nI 1)]) (rest := []) ⟨hx, hb, hml, hown, hts⟩ (c_X5_fails l C mo kp ty (nI 0) pl fl tl v o 1) (cwV 1 hts gX5_giftFor_X5_fails rfl rfl rfl (by decide +kernel) ⟨Nat.le_of_ble_eq_true rfl, Nat.le_of_ble_eq_true rfl⟩) hK hP hD hS hA [0, 1, 2] (by decide) rfl 0 rfl rfl rfl rfl hl.1 rfl (Nat.le_of_ble_eq_true rfl) dX5_giftFor_30 (Nat.zero_le _) (Nat.zero_le _) (fun r w1 H locs hQ hP hD hS => ?_)
      obtain ⟨rfl, rfl⟩ := hQ
      have hP : va_P C.1 vwCl (wO C mo (evm kp ty (nI 1) pl fl tl) v o) H := hP
      have hD : va_D (q_A (wO C mo (evm kp ty tw pl fl tl) v o) s) (wO C mo (evm kp ty (nI 1) pl fl tl) v o) := hD
      refine W.eq (g2 := F0 m 33 ls [.int (nI 0)]) rfl ?_
      exact q_iret hx hb hr hlocks (w1 := wO C mo (evm kp ty (nI 1) pl fl tl) v o) hP hS rfl dX5_giftFor_33 (⟨rfl, rfl⟩)
    · have c16 : decide (nI 0 ≤ y ∧ y ≤ nI 3) = true := q_b1.mp c16
      exact absurd hxx (by rw [c9, c16]; decide)
set_option maxHeartbeats 4000000 in
set_option maxRecDepth 100000 in
theorem c_X5_giftFor (l : Launch) (C : q_C) (mo : Nat → Nat) (kp ty tw pl fl tl : Int32) (v o : Nat → Nat) (b : Bd) (g : Nat → Int64) (a t : Nat) (hB : OkB b) (ha : a < 4) (ht : t < 4) : q_M C l yX5_giftFor wsX5_giftFor 7 171 [.ref (mo 0), .int (nI a), .int (nI t)] (wO C mo (evm kp ty tw pl fl tl) v o ++ ([(mo 1, .inl (C.2.2.1, 82, .inr (.inl (mB b)))), (mo 2, .inl (C.2.2.1, 82, .inr (.inl g)))] : va_W)) (fun r w1 => ∃ v1 o1 g1, r = some (.int (lgI (lgN b a t))) ∧ w1 = wO C mo (evm kp ty (nI 0) pl fl tl) v1 o1 ++ ([(mo 1, .inl (C.2.2.1, 82, .inr (.inl (mB b)))), (mo 2, .inl (C.2.2.1, 82, .inr (.inl g1)))] : va_W)) := by
  refine q_head (cc := cX5_giftFor) (maxL := 3) (ret := (some .int)) (by decide +kernel) rfl (Nat.le_of_ble_eq_true rfl) ?_
  intro p e s m below meth c hx hb hr hlocks hml hown hts hK hP hD hS hA ls hl
  have hl : lv_has ls 3 [(0, .ref (mo 0)), (1, .int (nI a)), (2, .int (nI t))] := hl
  have hf42 := hts (.fieldLink RX5 42 "RestedArmsModel" "thrown" "I") (by decide +kernel)
  have hin5 : ∀ w ∈ u_ws RX5 TX5 13, w ∈ wsX5_giftFor := by decide +kernel
  refine lv_aload_n hx hb dX5_giftFor_0 rfl (lv_at hl 0 rfl) ?_
  refine lv_iconst (v := nI 0) hx hb dX5_giftFor_1 (by decide) ?_
  refine va_put (ci := 5) (v := .int (nI 0)) (ty := .int) (C := RX5) (T := TX5) (N := 13) hx hb hts hin5 tyX5 tyX5_ok nmX5 hown hK.1 hP hD hS 0 rfl rfl 6 (by decide) hf42 (fun _ h9 => h9) rfl (by decide +kernel) rfl rfl (Nat.le_of_ble_eq_true rfl) dX5_giftFor_2 (fun H locs hP hD hS => ?_)
  have hP : va_P C.1 vwCl (wO C mo (evm kp ty (nI 0) pl fl tl) v o ++ ([(mo 1, .inl (C.2.2.1, 82, .inr (.inl (mB b)))), (mo 2, .inl (C.2.2.1, 82, .inr (.inl g)))] : va_W)) H := hP
  have hD : va_D (q_A (wO C mo (evm kp ty tw pl fl tl) v o ++ ([(mo 1, .inl (C.2.2.1, 82, .inr (.inl (mB b)))), (mo 2, .inl (C.2.2.1, 82, .inr (.inl g)))] : va_W)) s) (wO C mo (evm kp ty (nI 0) pl fl tl) v o ++ ([(mo 1, .inl (C.2.2.1, 82, .inr (.inl (mB b)))), (mo 2, .inl (C.2.2.1, 82, .inr (.inl g)))] : va_W)) := hD
  refine lv_iload_n hx hb dX5_giftFor_5 rfl (lv_at hl 1 rfl) ?_
  refine q_S (As := [.int (nI a)]) (rest := []) ⟨hx, hb, hml, hown, hts⟩ (c_X5_isArm l C (nI a)) (va_cwS 1 hts gX5_giftFor_X5_isArm rfl rfl rfl (by decide +kernel) ⟨Nat.le_of_ble_eq_true rfl, Nat.le_of_ble_eq_true rfl⟩) hK hP hD hS hA [] (by decide) rfl rfl hl.1 rfl (Nat.le_of_ble_eq_true rfl) dX5_giftFor_6 (Nat.zero_le _) (Nat.zero_le _) (fun r w1 H locs hQ hP hD hS => ?_)
  obtain ⟨rfl, rfl⟩ := hQ
  refine W.eq (g2 := F0 m 9 ls [.int (q_b (decide (nI 0 ≤ (nI a) ∧ (nI a) ≤ nI 3)))]) rfl ?_
  refine lv_if_eq (tgt := 28) hx hb dX5_giftFor_9 (by decide) (fun c9 => ?_) (fun c9 => ?_)
  · have c9 : decide (nI 0 ≤ (nI a) ∧ (nI a) ≤ nI 3) = false := q_b0.mp c9
    exact absurd (c9.symm.trans (inT (by omega) (by omega) (by decide))) (by decide)
  have c9 : decide (nI 0 ≤ (nI a) ∧ (nI a) ≤ nI 3) = true := q_b1.mp c9
  refine lv_iload_n hx hb dX5_giftFor_12 rfl (lv_at hl 2 rfl) ?_
  refine q_S (As := [.int (nI t)]) (rest := []) ⟨hx, hb, hml, hown, hts⟩ (c_X5_isState l C (nI t)) (va_cwS 1 hts gX5_giftFor_X5_isState rfl rfl rfl (by decide +kernel) ⟨Nat.le_of_ble_eq_true rfl, Nat.le_of_ble_eq_true rfl⟩) hK hP hD hS hA [] (by decide) rfl rfl hl.1 rfl (Nat.le_of_ble_eq_true rfl) dX5_giftFor_13 (Nat.zero_le _) (Nat.zero_le _) (fun r w1 H locs hQ hP hD hS => ?_)
  obtain ⟨rfl, rfl⟩ := hQ
  refine W.eq (g2 := F0 m 16 ls [.int (q_b (decide (nI 0 ≤ (nI t) ∧ (nI t) ≤ nI 3)))]) rfl ?_
  refine lv_if_eq (tgt := 28) hx hb dX5_giftFor_16 (by decide) (fun c16 => ?_) (fun c16 => ?_)
  · have c16 : decide (nI 0 ≤ (nI t) ∧ (nI t) ≤ nI 3) = false := q_b0.mp c16
    exact absurd (c16.symm.trans (inT (by omega) (by omega) (by decide))) (by decide)
  have c16 : decide (nI 0 ≤ (nI t) ∧ (nI t) ≤ nI 3) = true := q_b1.mp c16
  refine lv_aload_n hx hb dX5_giftFor_19 rfl (lv_at hl 0 rfl) ?_
  refine lv_iload_n hx hb dX5_giftFor_20 rfl (lv_at hl 1 rfl) ?_
  refine lv_iload_n hx hb dX5_giftFor_21 rfl (lv_at hl 2 rfl) ?_
  refine q_V (As := [.int (nI a), .int (nI t)]) (rest := []) ⟨hx, hb, hml, hown, hts⟩ (c_X5_least l C mo kp ty (nI 0) pl fl tl v o b g a t hB (by omega) (by omega)) (cwV 2 hts gX5_giftFor_X5_least rfl rfl rfl (by decide +kernel) ⟨Nat.le_of_ble_eq_true rfl, Nat.le_of_ble_eq_true rfl⟩) hK hP hD hS hA [0, 1, 2, 3, 4] (by decide) rfl 0 rfl rfl rfl rfl hl.1 rfl (Nat.le_of_ble_eq_true rfl) dX5_giftFor_22 (Nat.zero_le _) (Nat.zero_le _) (fun r w1 H locs hQ hP hD hS => ?_)
  obtain ⟨vx1, ox1, gx1, rfl, rfl⟩ := hQ
  have hP : va_P C.1 vwCl (wO C mo (evm kp ty (nI 0) pl fl tl) vx1 ox1 ++ ([(mo 1, .inl (C.2.2.1, 82, .inr (.inl (mB b)))), (mo 2, .inl (C.2.2.1, 82, .inr (.inl gx1)))] : va_W)) H := hP
  have hD : va_D (q_A (wO C mo (evm kp ty tw pl fl tl) v o ++ ([(mo 1, .inl (C.2.2.1, 82, .inr (.inl (mB b)))), (mo 2, .inl (C.2.2.1, 82, .inr (.inl g)))] : va_W)) s) (wO C mo (evm kp ty (nI 0) pl fl tl) vx1 ox1 ++ ([(mo 1, .inl (C.2.2.1, 82, .inr (.inl (mB b)))), (mo 2, .inl (C.2.2.1, 82, .inr (.inl gx1)))] : va_W)) := hD
  refine W.eq (g2 := F0 m 25 ls [.int (lgI (lgN b a t))]) rfl ?_
  refine lv_goto (tgt := 33) hx hb dX5_giftFor_25 (by decide) ?_
  exact q_iret hx hb hr hlocks (w1 := wO C mo (evm kp ty (nI 0) pl fl tl) vx1 ox1 ++ ([(mo 1, .inl (C.2.2.1, 82, .inr (.inl (mB b)))), (mo 2, .inl (C.2.2.1, 82, .inr (.inl gx1)))] : va_W)) hP hS rfl dX5_giftFor_33 (⟨_, _, _, rfl, rfl⟩)
set_option maxHeartbeats 4000000 in
set_option maxRecDepth 100000 in
theorem c_X5_evenness (l : Launch) (C : q_C) (mo : Nat → Nat) (kp ty tw pl fl tl : Int32) (v o : Nat → Nat) (b : Bd) (hU : sumU b ≤ 9999) : q_M C l yX5_evenness wsX5_evenness 1 27 [.ref (mo 0)] (wO C mo (evm kp ty tw pl fl tl) v o ++ ([(mo 1, .inl (C.2.2.1, 82, .inr (.inl (mB b))))] : va_W)) (fun r w1 => r = some (.double (evD b)) ∧ w1 = wO C mo (evm kp ty (nI 0) pl fl tl) v o ++ ([(mo 1, .inl (C.2.2.1, 82, .inr (.inl (mB b))))] : va_W)) := by
  refine q_head (cc := cX5_evenness) (maxL := 1) (ret := (some .double)) (by decide +kernel) rfl (Nat.le_of_ble_eq_true rfl) ?_
  intro p e s m below meth c hx hb hr hlocks hml hown hts hK hP hD hS hA ls hl
  have hl : lv_has ls 1 [(0, .ref (mo 0))] := hl
  have hf42 := hts (.fieldLink RX5 42 "RestedArmsModel" "thrown" "I") (by decide +kernel)
  have hin5 : ∀ w ∈ u_ws RX5 TX5 13, w ∈ wsX5_evenness := by decide +kernel
  refine lv_aload_n hx hb dX5_evenness_0 rfl (lv_at hl 0 rfl) ?_
  refine lv_iconst (v := nI 0) hx hb dX5_evenness_1 (by decide) ?_
  refine va_put (ci := 5) (v := .int (nI 0)) (ty := .int) (C := RX5) (T := TX5) (N := 13) hx hb hts hin5 tyX5 tyX5_ok nmX5 hown hK.1 hP hD hS 0 rfl rfl 6 (by decide) hf42 (fun _ h9 => h9) rfl (by decide +kernel) rfl rfl (Nat.le_of_ble_eq_true rfl) dX5_evenness_2 (fun H locs hP hD hS => ?_)
  have hP : va_P C.1 vwCl (wO C mo (evm kp ty (nI 0) pl fl tl) v o ++ ([(mo 1, .inl (C.2.2.1, 82, .inr (.inl (mB b))))] : va_W)) H := hP
  have hD : va_D (q_A (wO C mo (evm kp ty tw pl fl tl) v o ++ ([(mo 1, .inl (C.2.2.1, 82, .inr (.inl (mB b))))] : va_W)) s) (wO C mo (evm kp ty (nI 0) pl fl tl) v o ++ ([(mo 1, .inl (C.2.2.1, 82, .inr (.inl (mB b))))] : va_W)) := hD
  refine lv_aload_n hx hb dX5_evenness_5 rfl (lv_at hl 0 rfl) ?_
  refine q_V (As := []) (rest := []) ⟨hx, hb, hml, hown, hts⟩ (c_X5_even l C mo kp ty (nI 0) pl fl tl v o b hU) (cwV 0 hts gX5_evenness_X5_even rfl rfl rfl (by decide +kernel) ⟨Nat.le_of_ble_eq_true rfl, Nat.le_of_ble_eq_true rfl⟩) hK hP hD hS hA [0, 1, 2, 3] (by decide) rfl 0 rfl rfl rfl rfl hl.1 rfl (Nat.le_of_ble_eq_true rfl) dX5_evenness_6 (Nat.zero_le _) (Nat.zero_le _) (fun r w1 H locs hQ hP hD hS => ?_)
  obtain ⟨rfl, rfl⟩ := hQ
  have hP : va_P C.1 vwCl (wO C mo (evm kp ty (nI 0) pl fl tl) v o ++ ([(mo 1, .inl (C.2.2.1, 82, .inr (.inl (mB b))))] : va_W)) H := hP
  have hD : va_D (q_A (wO C mo (evm kp ty tw pl fl tl) v o ++ ([(mo 1, .inl (C.2.2.1, 82, .inr (.inl (mB b))))] : va_W)) s) (wO C mo (evm kp ty (nI 0) pl fl tl) v o ++ ([(mo 1, .inl (C.2.2.1, 82, .inr (.inl (mB b))))] : va_W)) := hD
  refine W.eq (g2 := F0 m 9 ls [.double (evD b)]) rfl ?_
  exact q_dret hx hb hr hlocks (w1 := wO C mo (evm kp ty (nI 0) pl fl tl) v o ++ ([(mo 1, .inl (C.2.2.1, 82, .inr (.inl (mB b))))] : va_W)) hP hS rfl dX5_evenness_9 (⟨rfl, rfl⟩)
set_option maxHeartbeats 4000000 in
set_option maxRecDepth 100000 in
theorem c_Jxe99ae_isNaN_b9ae7 (l : Launch) (C : q_C) (x : UInt64) (hxx : FP.dcmp x x = some .eq) : q_M C l yJxe99ae_isNaN_b9ae7 wsJxe99ae_isNaN_b9ae7 0 0 [.double x] (([] : va_W)) (fun r w => r = some (.int (nI 0)) ∧ w = []) := by
  refine q_head (cc := cJxe99ae_isNaN_b9ae7) (maxL := 2) (ret := (some .boolean)) (by decide +kernel) rfl (Nat.le_of_ble_eq_true rfl) ?_
  intro p e s m below meth c hx hb hr hlocks hml hown hts hK hP hD hS hA ls hl
  have hl : lv_has ls 2 [(0, .double x)] := hl
  refine lv_dload_n hx hb dJxe99ae_isNaN_b9ae7_0 rfl (lv_at hl 0 rfl) ?_
  refine lv_dload_n hx hb dJxe99ae_isNaN_b9ae7_1 rfl (lv_at hl 0 rfl) ?_
  refine lv_dcmp hx hb dJxe99ae_isNaN_b9ae7_2 ?_
  refine q_ti (y := nI 0) (by rw [hxx]; decide) ?_
  refine lv_if_eq (tgt := 10) hx hb dJxe99ae_isNaN_b9ae7_3 (by decide) (fun _ => ?_) (fun c => absurd (by decide) c)
  refine lv_iconst (v := nI 0) hx hb dJxe99ae_isNaN_b9ae7_10 (by decide) ?_
  exact q_zret hx hb hr hlocks rfl (w1 := ([] : va_W)) hP hS rfl dJxe99ae_isNaN_b9ae7_11 (⟨rfl, rfl⟩)
set_option maxHeartbeats 4000000 in
set_option maxRecDepth 100000 in
theorem c_Jxe99ae_doubleToLongBits_ccdee (l : Launch) (C : q_C) (x : UInt64) (hxx : FP.dcmp x x = some .eq) : q_M C l yJxe99ae_doubleToLongBits_ccdee wsJxe99ae_doubleToLongBits_ccdee 1 23 [.double x] (([] : va_W)) (fun r w => r = some (.long x.toInt64) ∧ w = []) := by
  refine q_head (cc := cJxe99ae_doubleToLongBits_ccdee) (maxL := 2) (ret := (some .long)) (by decide +kernel) rfl (Nat.le_of_ble_eq_true rfl) ?_
  intro p e s m below meth c hx hb hr hlocks hml hown hts hK hP hD hS hA ls hl
  have hl : lv_has ls 2 [(0, .double x)] := hl
  have hc1_134 := hts (.methodLink RJxe99ae 134 ⟨"java/lang/Double", "doubleToRawLongBits", "(D)J"⟩) (by decide +kernel)
  have hc2_134 := hts (.native ⟨"java/lang/Double", "doubleToRawLongBits", "(D)J"⟩) (by decide +kernel)
  have hc3_134 := hts (.static ⟨"java/lang/Double", "doubleToRawLongBits", "(D)J"⟩) (by decide +kernel)
  have hc4_134 := hts (.initialized "java/lang/Double") (by decide +kernel)
  refine lv_dload_n hx hb dJxe99ae_doubleToLongBits_ccdee_0 rfl (lv_at hl 0 rfl) ?_
  refine q_S (As := [.double x]) (rest := []) ⟨hx, hb, hml, hown, hts⟩ (c_Jxe99ae_isNaN_b9ae7 l C x hxx) (va_cwS 1 hts gJxe99ae_doubleToLongBits_ccdee_Jxe99ae_isNaN_b9ae7 rfl rfl rfl (by decide +kernel) ⟨Nat.le_of_ble_eq_true rfl, Nat.le_of_ble_eq_true rfl⟩) hK hP hD hS hA [] (by decide) rfl rfl hl.1 rfl (Nat.le_of_ble_eq_true rfl) dJxe99ae_doubleToLongBits_ccdee_1 (Nat.zero_le _) (Nat.zero_le _) (fun r w1 H locs hQ hP hD hS => ?_)
  obtain ⟨rfl, rfl⟩ := hQ
  refine W.eq (g2 := F0 m 4 ls [.int (nI 0)]) rfl ?_
  refine lv_if_ne (tgt := 12) hx hb dJxe99ae_doubleToLongBits_ccdee_4 (by decide) (fun c => absurd c (by decide)) (fun _ => ?_)
  refine lv_dload_n hx hb dJxe99ae_doubleToLongBits_ccdee_7 rfl (lv_at hl 0 rfl) ?_
  refine vn_d2l hx hb (hml.trans hl.1.symm) hown hc1_134 hc2_134 hc3_134 hc4_134 (Nat.le_of_ble_eq_true rfl) (Nat.le_of_ble_eq_true rfl) dJxe99ae_doubleToLongBits_ccdee_8 ?_
  exact q_lret hx hb hr hlocks (w1 := ([] : va_W)) hP hS rfl dJxe99ae_doubleToLongBits_ccdee_11 (⟨rfl, rfl⟩)
set_option maxHeartbeats 4000000 in
set_option maxRecDepth 100000 in
theorem c_X5_digest (l : Launch) (C : q_C) (mo : Nat → Nat) (tw pl fl tl : Int32) (v o : Nat → Nat) (b : Bd) (g : Nat → Int64) (n y0 : Nat) (cd : Nat → Nat) (hB : OkB b) (hU : sumU b ≤ 9999) (hy60 : y0 ≤ 60) (hcd : ∀ k, k < y0 → cd k < 2 ^ 31) : q_M C l yX5_digest wsX5_digest 9 217 [.ref (mo 0)] (List.flatten [wO C mo (evm (nI n) (nI y0) tw pl fl tl) v o, ([(mo 1, .inl (C.2.2.1, 82, .inr (.inl (mB b))))] : va_W), ([(mo 2, .inl (C.2.2.1, 82, .inr (.inl g)))] : va_W), ([(mo 4, .inl (C.2.1, 60, .inl (fun k => nI (cd k))))] : va_W)]) (fun r w1 => ∃ v1 o1 g1, r = some (.long (dgL b n y0 cd)) ∧ w1 = List.flatten [wO C mo (evm (nI n) (nI y0) (nI 0) pl fl tl) v1 o1, ([(mo 1, .inl (C.2.2.1, 82, .inr (.inl (mB b))))] : va_W), ([(mo 2, .inl (C.2.2.1, 82, .inr (.inl g1)))] : va_W), ([(mo 4, .inl (C.2.1, 60, .inl (fun k => nI (cd k))))] : va_W)]) := by
  refine q_head (cc := cX5_digest) (maxL := 6) (ret := (some .long)) (by decide +kernel) rfl (Nat.le_of_ble_eq_true rfl) ?_
  intro p e s m below meth c hx hb hr hlocks hml hown hts hK hP hD hS hA ls hl
  have hl : lv_has ls 6 [(0, .ref (mo 0))] := hl
  have hf150 := hts (.fieldLink RX5 150 "RestedArmsModel" "typed" "I") (by decide +kernel)
  have hf19 := hts (.fieldLink RX5 19 "RestedArmsModel" "text" "[I") (by decide +kernel)
  have hf42 := hts (.fieldLink RX5 42 "RestedArmsModel" "thrown" "I") (by decide +kernel)
  have hf7 := hts (.fieldLink RX5 7 "RestedArmsModel" "now" "[J") (by decide +kernel)
  have hin5 : ∀ w ∈ u_ws RX5 TX5 13, w ∈ wsX5_digest := by decide +kernel
  have hk219 := hts (.constantLong RX5 219 (2843)) (by decide +kernel)
  have hk221 := hts (.constantLong RX5 221 (31)) (by decide +kernel)
  refine lv_aload_n hx hb dX5_digest_0 rfl (lv_at hl 0 rfl) ?_
  refine lv_iconst (v := nI 0) hx hb dX5_digest_1 (by decide) ?_
  refine va_put (ci := 5) (v := .int (nI 0)) (ty := .int) (C := RX5) (T := TX5) (N := 13) hx hb hts hin5 tyX5 tyX5_ok nmX5 hown hK.1 hP hD hS 0 rfl rfl 6 (by decide) hf42 (fun _ h9 => h9) rfl (by decide +kernel) rfl rfl (Nat.le_of_ble_eq_true rfl) dX5_digest_2 (fun H locs hP hD hS => ?_)
  rw [q_fset [wO C mo (evm (nI n) (nI y0) tw pl fl tl) v o, ([(mo 1, .inl (C.2.2.1, 82, .inr (.inl (mB b))))] : va_W), ([(mo 2, .inl (C.2.2.1, 82, .inr (.inl g)))] : va_W), ([(mo 4, .inl (C.2.1, 60, .inl (fun k => nI (cd k))))] : va_W)] 0 0 0 (B := wO C mo (evm (nI n) (nI y0) tw pl fl tl) v o) rfl (Nat.le_of_ble_eq_true rfl) rfl] at hP hD
  have hP : va_P C.1 vwCl (List.flatten [wO C mo (evm (nI n) (nI y0) (nI 0) pl fl tl) v o, ([(mo 1, .inl (C.2.2.1, 82, .inr (.inl (mB b))))] : va_W), ([(mo 2, .inl (C.2.2.1, 82, .inr (.inl g)))] : va_W), ([(mo 4, .inl (C.2.1, 60, .inl (fun k => nI (cd k))))] : va_W)]) H := hP
  have hD : va_D (q_A (List.flatten [wO C mo (evm (nI n) (nI y0) tw pl fl tl) v o, ([(mo 1, .inl (C.2.2.1, 82, .inr (.inl (mB b))))] : va_W), ([(mo 2, .inl (C.2.2.1, 82, .inr (.inl g)))] : va_W), ([(mo 4, .inl (C.2.1, 60, .inl (fun k => nI (cd k))))] : va_W)]) s) (List.flatten [wO C mo (evm (nI n) (nI y0) (nI 0) pl fl tl) v o, ([(mo 1, .inl (C.2.2.1, 82, .inr (.inl (mB b))))] : va_W), ([(mo 2, .inl (C.2.2.1, 82, .inr (.inl g)))] : va_W), ([(mo 4, .inl (C.2.1, 60, .inl (fun k => nI (cd k))))] : va_W)]) := hD
  refine lv_ldc2 hx hb hown hk219 dX5_digest_5 ?_
  refine q_tl (y := lN 2843) (by decide) ?_
  refine lv_lstore_n (lv' := [(1, .long (lN 2843)), (0, .ref (mo 0))]) hx hb dX5_digest_8 rfl hl (by decide) rfl (fun ls hl => ?_)
  refine lv_iconst (v := nI 0) hx hb dX5_digest_9 (by decide) ?_
  refine lv_istore_n (lv' := [(3, .int (nI 0)), (1, .long (lN 2843)), (0, .ref (mo 0))]) hx hb dX5_digest_10 rfl hl (by decide) rfl (fun ls hl => ?_)
  have K11 : ∀ (n11 i11 : Nat), ∀ (h11 : Int64), i11 ≤ 4 → 4 + 1 ≤ i11 + n11 → (hsF (fun w => (cnI b n w).toInt64) (lN 2843) i11 = h11) → ∀ (H : Heap) (locs : List Loc) (ls : Array Slot), va_P C.1 vwCl (List.flatten [wO C mo (evm (nI n) (nI y0) (nI 0) pl fl tl) v o, ([(mo 1, .inl (C.2.2.1, 82, .inr (.inl (mB b))))] : va_W), ([(mo 2, .inl (C.2.2.1, 82, .inr (.inl g)))] : va_W), ([(mo 4, .inl (C.2.1, 60, .inl (fun k => nI (cd k))))] : va_W)]) H → va_D (q_A (List.flatten [wO C mo (evm (nI n) (nI y0) tw pl fl tl) v o, ([(mo 1, .inl (C.2.2.1, 82, .inr (.inl (mB b))))] : va_W), ([(mo 2, .inl (C.2.2.1, 82, .inr (.inl g)))] : va_W), ([(mo 4, .inl (C.2.1, 60, .inl (fun k => nI (cd k))))] : va_W)]) s) (List.flatten [wO C mo (evm (nI n) (nI y0) (nI 0) pl fl tl) v o, ([(mo 1, .inl (C.2.2.1, 82, .inr (.inl (mB b))))] : va_W), ([(mo 2, .inl (C.2.2.1, 82, .inr (.inl g)))] : va_W), ([(mo 4, .inl (C.2.1, 60, .inl (fun k => nI (cd k))))] : va_W)]) → va_S (q_A (List.flatten [wO C mo (evm (nI n) (nI y0) tw pl fl tl) v o, ([(mo 1, .inl (C.2.2.1, 82, .inr (.inl (mB b))))] : va_W), ([(mo 2, .inl (C.2.2.1, 82, .inr (.inl g)))] : va_W), ([(mo 4, .inl (C.2.1, 60, .inl (fun k => nI (cd k))))] : va_W)]) s) s.heap H locs → lv_has ls 6 [(3, .int (nI i11)), (1, .long h11), (0, .ref (mo 0))] → W p l e (q_R 9 217) s m ([.ref (mo 0)] : List Value).toArray below meth c H locs 0 0 (q_G C below (List.flatten [wO C mo (evm (nI n) (nI y0) tw pl fl tl) v o, ([(mo 1, .inl (C.2.2.1, 82, .inr (.inl (mB b))))] : va_W), ([(mo 2, .inl (C.2.2.1, 82, .inr (.inl g)))] : va_W), ([(mo 4, .inl (C.2.1, 60, .inl (fun k => nI (cd k))))] : va_W)]) (fun r w1 => ∃ v1 o1 g1, r = some (.long (dgL b n y0 cd)) ∧ w1 = List.flatten [wO C mo (evm (nI n) (nI y0) (nI 0) pl fl tl) v1 o1, ([(mo 1, .inl (C.2.2.1, 82, .inr (.inl (mB b))))] : va_W), ([(mo 2, .inl (C.2.2.1, 82, .inr (.inl g1)))] : va_W), ([(mo 4, .inl (C.2.1, 60, .inl (fun k => nI (cd k))))] : va_W)]) ([.ref (mo 0)] : List Value).toArray s) (F0 m 11 ls []) := by
    intro n11
    induction n11 with
    | zero => intro i11 h11 q1 q2; exact absurd q2 (by omega)
    | succ n11 ih11 =>
      intro i11 h11 hi11 hn11 hH11 H locs ls hP hD hS hl
      refine lv_iload_n hx hb dX5_digest_11 rfl (lv_at hl 0 rfl) ?_
      refine lv_iconst (v := nI 4) hx hb dX5_digest_12 (by decide) ?_
      refine lv_icmp_ge (tgt := 35) hx hb dX5_digest_13 (by decide) (fun c13 => ?_) (fun c13 => ?_)
      · have c13 : 4 ≤ i11 := q_nge (by omega) (by omega) c13
        refine lv_iconst (v := nI 0) hx hb dX5_digest_35 (by decide) ?_
        refine lv_istore_n (lv' := [(3, .int (nI 0)), (1, .long h11), (0, .ref (mo 0))]) hx hb dX5_digest_36 rfl hl (by decide) rfl (fun ls hl => ?_)
        have K37 : ∀ (n37 i37 : Nat), ∀ (h37 : Int64), i37 ≤ 3 → 3 + 1 ≤ i37 + n37 → (hsF (fun w => suL b w) (hsF (fun w => (cnI b n w).toInt64) (lN 2843) 4) i37 = h37) → ∀ (H : Heap) (locs : List Loc) (ls : Array Slot), va_P C.1 vwCl (List.flatten [wO C mo (evm (nI n) (nI y0) (nI 0) pl fl tl) v o, ([(mo 1, .inl (C.2.2.1, 82, .inr (.inl (mB b))))] : va_W), ([(mo 2, .inl (C.2.2.1, 82, .inr (.inl g)))] : va_W), ([(mo 4, .inl (C.2.1, 60, .inl (fun k => nI (cd k))))] : va_W)]) H → va_D (q_A (List.flatten [wO C mo (evm (nI n) (nI y0) tw pl fl tl) v o, ([(mo 1, .inl (C.2.2.1, 82, .inr (.inl (mB b))))] : va_W), ([(mo 2, .inl (C.2.2.1, 82, .inr (.inl g)))] : va_W), ([(mo 4, .inl (C.2.1, 60, .inl (fun k => nI (cd k))))] : va_W)]) s) (List.flatten [wO C mo (evm (nI n) (nI y0) (nI 0) pl fl tl) v o, ([(mo 1, .inl (C.2.2.1, 82, .inr (.inl (mB b))))] : va_W), ([(mo 2, .inl (C.2.2.1, 82, .inr (.inl g)))] : va_W), ([(mo 4, .inl (C.2.1, 60, .inl (fun k => nI (cd k))))] : va_W)]) → va_S (q_A (List.flatten [wO C mo (evm (nI n) (nI y0) tw pl fl tl) v o, ([(mo 1, .inl (C.2.2.1, 82, .inr (.inl (mB b))))] : va_W), ([(mo 2, .inl (C.2.2.1, 82, .inr (.inl g)))] : va_W), ([(mo 4, .inl (C.2.1, 60, .inl (fun k => nI (cd k))))] : va_W)]) s) s.heap H locs → lv_has ls 6 [(3, .int (nI i37)), (1, .long h37), (0, .ref (mo 0))] → W p l e (q_R 9 217) s m ([.ref (mo 0)] : List Value).toArray below meth c H locs 0 0 (q_G C below (List.flatten [wO C mo (evm (nI n) (nI y0) tw pl fl tl) v o, ([(mo 1, .inl (C.2.2.1, 82, .inr (.inl (mB b))))] : va_W), ([(mo 2, .inl (C.2.2.1, 82, .inr (.inl g)))] : va_W), ([(mo 4, .inl (C.2.1, 60, .inl (fun k => nI (cd k))))] : va_W)]) (fun r w1 => ∃ v1 o1 g1, r = some (.long (dgL b n y0 cd)) ∧ w1 = List.flatten [wO C mo (evm (nI n) (nI y0) (nI 0) pl fl tl) v1 o1, ([(mo 1, .inl (C.2.2.1, 82, .inr (.inl (mB b))))] : va_W), ([(mo 2, .inl (C.2.2.1, 82, .inr (.inl g1)))] : va_W), ([(mo 4, .inl (C.2.1, 60, .inl (fun k => nI (cd k))))] : va_W)]) ([.ref (mo 0)] : List Value).toArray s) (F0 m 37 ls []) := by
          intro n37
          induction n37 with
          | zero => intro i37 h37 q1 q2; exact absurd q2 (by omega)
          | succ n37 ih37 =>
            intro i37 h37 hi37 hn37 hH37 H locs ls hP hD hS hl
            refine lv_iload_n hx hb dX5_digest_37 rfl (lv_at hl 0 rfl) ?_
            refine lv_iconst (v := nI 3) hx hb dX5_digest_38 (by decide) ?_
            refine lv_icmp_ge (tgt := 64) hx hb dX5_digest_39 (by decide) (fun c39 => ?_) (fun c39 => ?_)
            · have c39 : 3 ≤ i37 := q_nge (by omega) (by omega) c39
              refine lv_iconst (v := nI 0) hx hb dX5_digest_64 (by decide) ?_
              refine lv_istore_n (lv' := [(3, .int (nI 0)), (1, .long h37), (0, .ref (mo 0))]) hx hb dX5_digest_65 rfl hl (by decide) rfl (fun ls hl => ?_)
              have K66 : ∀ (n66 i66 : Nat), ∀ (h66 : Int64), i66 ≤ 4 → 4 + 1 ≤ i66 + n66 → (hsF (fun k => lN (bs b k)) (hsF (fun w => suL b w) (hsF (fun w => (cnI b n w).toInt64) (lN 2843) 4) 3) i66 = h66) → ∀ (H : Heap) (locs : List Loc) (ls : Array Slot), va_P C.1 vwCl (List.flatten [wO C mo (evm (nI n) (nI y0) (nI 0) pl fl tl) v o, ([(mo 1, .inl (C.2.2.1, 82, .inr (.inl (mB b))))] : va_W), ([(mo 2, .inl (C.2.2.1, 82, .inr (.inl g)))] : va_W), ([(mo 4, .inl (C.2.1, 60, .inl (fun k => nI (cd k))))] : va_W)]) H → va_D (q_A (List.flatten [wO C mo (evm (nI n) (nI y0) tw pl fl tl) v o, ([(mo 1, .inl (C.2.2.1, 82, .inr (.inl (mB b))))] : va_W), ([(mo 2, .inl (C.2.2.1, 82, .inr (.inl g)))] : va_W), ([(mo 4, .inl (C.2.1, 60, .inl (fun k => nI (cd k))))] : va_W)]) s) (List.flatten [wO C mo (evm (nI n) (nI y0) (nI 0) pl fl tl) v o, ([(mo 1, .inl (C.2.2.1, 82, .inr (.inl (mB b))))] : va_W), ([(mo 2, .inl (C.2.2.1, 82, .inr (.inl g)))] : va_W), ([(mo 4, .inl (C.2.1, 60, .inl (fun k => nI (cd k))))] : va_W)]) → va_S (q_A (List.flatten [wO C mo (evm (nI n) (nI y0) tw pl fl tl) v o, ([(mo 1, .inl (C.2.2.1, 82, .inr (.inl (mB b))))] : va_W), ([(mo 2, .inl (C.2.2.1, 82, .inr (.inl g)))] : va_W), ([(mo 4, .inl (C.2.1, 60, .inl (fun k => nI (cd k))))] : va_W)]) s) s.heap H locs → lv_has ls 6 [(3, .int (nI i66)), (1, .long h66), (0, .ref (mo 0))] → W p l e (q_R 9 217) s m ([.ref (mo 0)] : List Value).toArray below meth c H locs 0 0 (q_G C below (List.flatten [wO C mo (evm (nI n) (nI y0) tw pl fl tl) v o, ([(mo 1, .inl (C.2.2.1, 82, .inr (.inl (mB b))))] : va_W), ([(mo 2, .inl (C.2.2.1, 82, .inr (.inl g)))] : va_W), ([(mo 4, .inl (C.2.1, 60, .inl (fun k => nI (cd k))))] : va_W)]) (fun r w1 => ∃ v1 o1 g1, r = some (.long (dgL b n y0 cd)) ∧ w1 = List.flatten [wO C mo (evm (nI n) (nI y0) (nI 0) pl fl tl) v1 o1, ([(mo 1, .inl (C.2.2.1, 82, .inr (.inl (mB b))))] : va_W), ([(mo 2, .inl (C.2.2.1, 82, .inr (.inl g1)))] : va_W), ([(mo 4, .inl (C.2.1, 60, .inl (fun k => nI (cd k))))] : va_W)]) ([.ref (mo 0)] : List Value).toArray s) (F0 m 66 ls []) := by
                intro n66
                induction n66 with
                | zero => intro i66 h66 q1 q2; exact absurd q2 (by omega)
                | succ n66 ih66 =>
                  intro i66 h66 hi66 hn66 hH66 H locs ls hP hD hS hl
                  refine lv_iload_n hx hb dX5_digest_66 rfl (lv_at hl 0 rfl) ?_
                  refine lv_iconst (v := nI 4) hx hb dX5_digest_67 (by decide) ?_
                  refine lv_icmp_ge (tgt := 90) hx hb dX5_digest_68 (by decide) (fun c68 => ?_) (fun c68 => ?_)
                  · have c68 : 4 ≤ i66 := q_nge (by omega) (by omega) c68
                    refine lv_iconst (v := nI 0) hx hb dX5_digest_90 (by decide) ?_
                    refine lv_istore_n (lv' := [(3, .int (nI 0)), (1, .long h66), (0, .ref (mo 0))]) hx hb dX5_digest_91 rfl hl (by decide) rfl (fun ls hl => ?_)
                    have K92 : ∀ (n92 i92 : Nat), ∀ (h92 : Int64) (v92 : Nat → Nat) (o92 : Nat → Nat), i92 ≤ 4 → 4 + 1 ≤ i92 + n92 → (hArms b (hsF (fun k => lN (bs b k)) (hsF (fun w => suL b w) (hsF (fun w => (cnI b n w).toInt64) (lN 2843) 4) 3) 4) i92 = h92) → ∀ (H : Heap) (locs : List Loc) (ls : Array Slot), va_P C.1 vwCl (List.flatten [wO C mo (evm (nI n) (nI y0) (nI 0) pl fl tl) v92 o92, ([(mo 1, .inl (C.2.2.1, 82, .inr (.inl (mB b))))] : va_W), ([(mo 2, .inl (C.2.2.1, 82, .inr (.inl g)))] : va_W), ([(mo 4, .inl (C.2.1, 60, .inl (fun k => nI (cd k))))] : va_W)]) H → va_D (q_A (List.flatten [wO C mo (evm (nI n) (nI y0) tw pl fl tl) v o, ([(mo 1, .inl (C.2.2.1, 82, .inr (.inl (mB b))))] : va_W), ([(mo 2, .inl (C.2.2.1, 82, .inr (.inl g)))] : va_W), ([(mo 4, .inl (C.2.1, 60, .inl (fun k => nI (cd k))))] : va_W)]) s) (List.flatten [wO C mo (evm (nI n) (nI y0) (nI 0) pl fl tl) v92 o92, ([(mo 1, .inl (C.2.2.1, 82, .inr (.inl (mB b))))] : va_W), ([(mo 2, .inl (C.2.2.1, 82, .inr (.inl g)))] : va_W), ([(mo 4, .inl (C.2.1, 60, .inl (fun k => nI (cd k))))] : va_W)]) → va_S (q_A (List.flatten [wO C mo (evm (nI n) (nI y0) tw pl fl tl) v o, ([(mo 1, .inl (C.2.2.1, 82, .inr (.inl (mB b))))] : va_W), ([(mo 2, .inl (C.2.2.1, 82, .inr (.inl g)))] : va_W), ([(mo 4, .inl (C.2.1, 60, .inl (fun k => nI (cd k))))] : va_W)]) s) s.heap H locs → lv_has ls 6 [(3, .int (nI i92)), (1, .long h92), (0, .ref (mo 0))] → W p l e (q_R 9 217) s m ([.ref (mo 0)] : List Value).toArray below meth c H locs 0 0 (q_G C below (List.flatten [wO C mo (evm (nI n) (nI y0) tw pl fl tl) v o, ([(mo 1, .inl (C.2.2.1, 82, .inr (.inl (mB b))))] : va_W), ([(mo 2, .inl (C.2.2.1, 82, .inr (.inl g)))] : va_W), ([(mo 4, .inl (C.2.1, 60, .inl (fun k => nI (cd k))))] : va_W)]) (fun r w1 => ∃ v1 o1 g1, r = some (.long (dgL b n y0 cd)) ∧ w1 = List.flatten [wO C mo (evm (nI n) (nI y0) (nI 0) pl fl tl) v1 o1, ([(mo 1, .inl (C.2.2.1, 82, .inr (.inl (mB b))))] : va_W), ([(mo 2, .inl (C.2.2.1, 82, .inr (.inl g1)))] : va_W), ([(mo 4, .inl (C.2.1, 60, .inl (fun k => nI (cd k))))] : va_W)]) ([.ref (mo 0)] : List Value).toArray s) (F0 m 92 ls []) := by
                      intro n92
                      induction n92 with
                      | zero => intro i92 h92 v92 o92 q1 q2; exact absurd q2 (by omega)
                      | succ n92 ih92 =>
                        intro i92 h92 v92 o92 hi92 hn92 hH92 H locs ls hP hD hS hl
                        refine lv_iload_n hx hb dX5_digest_92 rfl (lv_at hl 0 rfl) ?_
                        refine lv_iconst (v := nI 4) hx hb dX5_digest_93 (by decide) ?_
                        refine lv_icmp_ge (tgt := 198) hx hb dX5_digest_94 (by decide) (fun c94 => ?_) (fun c94 => ?_)
                        · have c94 : 4 ≤ i92 := q_nge (by omega) (by omega) c94
                          refine lv_iconst (v := nI 0) hx hb dX5_digest_198 (by decide) ?_
                          refine lv_istore_n (lv' := [(3, .int (nI 0)), (1, .long h92), (0, .ref (mo 0))]) hx hb dX5_digest_199 rfl hl (by decide) rfl (fun ls hl => ?_)
                          have K200 : ∀ (n200 i200 : Nat), ∀ (h200 : Int64) (v200 : Nat → Nat) (o200 : Nat → Nat) (g200 : Nat → Int64), i200 ≤ 3 → 3 + 1 ≤ i200 + n200 → (hRul b (hArms b (hsF (fun k => lN (bs b k)) (hsF (fun w => suL b w) (hsF (fun w => (cnI b n w).toInt64) (lN 2843) 4) 3) 4) 4) i200 = h200) → ∀ (H : Heap) (locs : List Loc) (ls : Array Slot), va_P C.1 vwCl (List.flatten [wO C mo (evm (nI n) (nI y0) (nI 0) pl fl tl) v200 o200, ([(mo 1, .inl (C.2.2.1, 82, .inr (.inl (mB b))))] : va_W), ([(mo 2, .inl (C.2.2.1, 82, .inr (.inl g200)))] : va_W), ([(mo 4, .inl (C.2.1, 60, .inl (fun k => nI (cd k))))] : va_W)]) H → va_D (q_A (List.flatten [wO C mo (evm (nI n) (nI y0) tw pl fl tl) v o, ([(mo 1, .inl (C.2.2.1, 82, .inr (.inl (mB b))))] : va_W), ([(mo 2, .inl (C.2.2.1, 82, .inr (.inl g)))] : va_W), ([(mo 4, .inl (C.2.1, 60, .inl (fun k => nI (cd k))))] : va_W)]) s) (List.flatten [wO C mo (evm (nI n) (nI y0) (nI 0) pl fl tl) v200 o200, ([(mo 1, .inl (C.2.2.1, 82, .inr (.inl (mB b))))] : va_W), ([(mo 2, .inl (C.2.2.1, 82, .inr (.inl g200)))] : va_W), ([(mo 4, .inl (C.2.1, 60, .inl (fun k => nI (cd k))))] : va_W)]) → va_S (q_A (List.flatten [wO C mo (evm (nI n) (nI y0) tw pl fl tl) v o, ([(mo 1, .inl (C.2.2.1, 82, .inr (.inl (mB b))))] : va_W), ([(mo 2, .inl (C.2.2.1, 82, .inr (.inl g)))] : va_W), ([(mo 4, .inl (C.2.1, 60, .inl (fun k => nI (cd k))))] : va_W)]) s) s.heap H locs → lv_has ls 6 [(3, .int (nI i200)), (1, .long h200), (0, .ref (mo 0))] → W p l e (q_R 9 217) s m ([.ref (mo 0)] : List Value).toArray below meth c H locs 0 0 (q_G C below (List.flatten [wO C mo (evm (nI n) (nI y0) tw pl fl tl) v o, ([(mo 1, .inl (C.2.2.1, 82, .inr (.inl (mB b))))] : va_W), ([(mo 2, .inl (C.2.2.1, 82, .inr (.inl g)))] : va_W), ([(mo 4, .inl (C.2.1, 60, .inl (fun k => nI (cd k))))] : va_W)]) (fun r w1 => ∃ v1 o1 g1, r = some (.long (dgL b n y0 cd)) ∧ w1 = List.flatten [wO C mo (evm (nI n) (nI y0) (nI 0) pl fl tl) v1 o1, ([(mo 1, .inl (C.2.2.1, 82, .inr (.inl (mB b))))] : va_W), ([(mo 2, .inl (C.2.2.1, 82, .inr (.inl g1)))] : va_W), ([(mo 4, .inl (C.2.1, 60, .inl (fun k => nI (cd k))))] : va_W)]) ([.ref (mo 0)] : List Value).toArray s) (F0 m 200 ls []) := by
                            intro n200
                            induction n200 with
                            | zero => intro i200 h200 v200 o200 g200 q1 q2; exact absurd q2 (by omega)
                            | succ n200 ih200 =>
                              intro i200 h200 v200 o200 g200 hi200 hn200 hH200 H locs ls hP hD hS hl
                              refine lv_iload_n hx hb dX5_digest_200 rfl (lv_at hl 0 rfl) ?_
                              refine lv_iconst (v := nI 3) hx hb dX5_digest_201 (by decide) ?_
                              refine lv_icmp_ge (tgt := 239) hx hb dX5_digest_202 (by decide) (fun c202 => ?_) (fun c202 => ?_)
                              · have c202 : 3 ≤ i200 := q_nge (by omega) (by omega) c202
                                have hq1 : dg1 b n = h200 := by have q := hH200; rw [show i200 = 3 by omega] at q; exact q
                                refine lv_ldc2 hx hb hown hk221 dX5_digest_239 ?_
                                refine q_tl (y := lN 31) (by decide) ?_
                                refine lv_ldc2 hx hb hown hk221 dX5_digest_242 ?_
                                refine q_tl (y := lN 31) (by decide) ?_
                                refine lv_lload_n hx hb dX5_digest_245 rfl (lv_at hl 1 rfl) ?_
                                refine lv_lmul hx hb dX5_digest_246 ?_
                                refine lv_aload_n hx hb dX5_digest_247 rfl (lv_at hl 2 rfl) ?_
                                refine lv_bipush (v := nI 8) hx hb dX5_digest_248 (by decide) ?_
                                refine q_VB (cs := [wO C mo (evm (nI n) (nI y0) (nI 0) pl fl tl) v200 o200, ([(mo 1, .inl (C.2.2.1, 82, .inr (.inl (mB b))))] : va_W), ([(mo 2, .inl (C.2.2.1, 82, .inr (.inl g200)))] : va_W)]) (As := [.int (nI 8)]) (rest := [.long ((lN 31) * h200), .long (lN 31)]) ⟨hx, hb, hml, hown, hts⟩ (c_X5_best l C mo (nI n) (nI y0) (nI 0) pl fl tl v200 o200 b g200 8 hB (by omega)) (cwV 1 hts gX5_digest_X5_best rfl rfl rfl (by decide +kernel) ⟨Nat.le_of_ble_eq_true rfl, Nat.le_of_ble_eq_true rfl⟩) hK hP hD hS hA [0, 1, 2] (by decide) rfl 0 rfl rfl rfl rfl hl.1 rfl (Nat.le_of_ble_eq_true rfl) dX5_digest_250 (Nat.zero_le _) (Nat.zero_le _) (fun r w1 H locs hQ hF hS => ?_)
                                obtain ⟨vx1, ox1, gx1, rfl, rfl⟩ := hQ
                                obtain ⟨hP, hD⟩ := hF [wO C mo (evm (nI n) (nI y0) (nI 0) pl fl tl) vx1 ox1, ([(mo 1, .inl (C.2.2.1, 82, .inr (.inl (mB b))))] : va_W), ([(mo 2, .inl (C.2.2.1, 82, .inr (.inl gx1)))] : va_W)] rfl rfl
                                have hP : va_P C.1 vwCl (List.flatten [wO C mo (evm (nI n) (nI y0) (nI 0) pl fl tl) vx1 ox1, ([(mo 1, .inl (C.2.2.1, 82, .inr (.inl (mB b))))] : va_W), ([(mo 2, .inl (C.2.2.1, 82, .inr (.inl gx1)))] : va_W), ([(mo 4, .inl (C.2.1, 60, .inl (fun k => nI (cd k))))] : va_W)]) H := hP
                                have hD : va_D (q_A (List.flatten [wO C mo (evm (nI n) (nI y0) tw pl fl tl) v o, ([(mo 1, .inl (C.2.2.1, 82, .inr (.inl (mB b))))] : va_W), ([(mo 2, .inl (C.2.2.1, 82, .inr (.inl g)))] : va_W), ([(mo 4, .inl (C.2.1, 60, .inl (fun k => nI (cd k))))] : va_W)]) s) (List.flatten [wO C mo (evm (nI n) (nI y0) (nI 0) pl fl tl) vx1 ox1, ([(mo 1, .inl (C.2.2.1, 82, .inr (.inl (mB b))))] : va_W), ([(mo 2, .inl (C.2.2.1, 82, .inr (.inl gx1)))] : va_W), ([(mo 4, .inl (C.2.1, 60, .inl (fun k => nI (cd k))))] : va_W)]) := hD
                                refine W.eq (g2 := F0 m 253 ls [.int (nI (bsrN b 8 2)), .long ((lN 31) * h200), .long (lN 31)]) rfl ?_
                                refine lv_i2l (v := (nI (bsrN b 8 2)).toInt64) hx hb dX5_digest_253 rfl ?_
                                refine lv_ladd hx hb dX5_digest_254 ?_
                                refine lv_lmul hx hb dX5_digest_255 ?_
                                refine lv_aload_n hx hb dX5_digest_256 rfl (lv_at hl 2 rfl) ?_
                                refine lv_iconst (v := nI 1) hx hb dX5_digest_257 (by decide) ?_
                                refine lv_iconst (v := nI 0) hx hb dX5_digest_258 (by decide) ?_
                                refine q_VB (cs := [wO C mo (evm (nI n) (nI y0) (nI 0) pl fl tl) vx1 ox1, ([(mo 1, .inl (C.2.2.1, 82, .inr (.inl (mB b))))] : va_W), ([(mo 2, .inl (C.2.2.1, 82, .inr (.inl gx1)))] : va_W)]) (As := [.int (nI 1), .int (nI 0)]) (rest := [.long ((lN 31) * (((lN 31) * h200) + ((nI (bsrN b 8 2)).toInt64)))]) ⟨hx, hb, hml, hown, hts⟩ (c_X5_least l C mo (nI n) (nI y0) (nI 0) pl fl tl vx1 ox1 b gx1 1 0 hB (by omega) (by omega)) (cwV 2 hts gX5_digest_X5_least rfl rfl rfl (by decide +kernel) ⟨Nat.le_of_ble_eq_true rfl, Nat.le_of_ble_eq_true rfl⟩) hK hP hD hS hA [0, 1, 2] (by decide) rfl 0 rfl rfl rfl rfl hl.1 rfl (Nat.le_of_ble_eq_true rfl) dX5_digest_259 (Nat.zero_le _) (Nat.zero_le _) (fun r w1 H locs hQ hF hS => ?_)
                                obtain ⟨vx2, ox2, gx2, rfl, rfl⟩ := hQ
                                obtain ⟨hP, hD⟩ := hF [wO C mo (evm (nI n) (nI y0) (nI 0) pl fl tl) vx2 ox2, ([(mo 1, .inl (C.2.2.1, 82, .inr (.inl (mB b))))] : va_W), ([(mo 2, .inl (C.2.2.1, 82, .inr (.inl gx2)))] : va_W)] rfl rfl
                                have hP : va_P C.1 vwCl (List.flatten [wO C mo (evm (nI n) (nI y0) (nI 0) pl fl tl) vx2 ox2, ([(mo 1, .inl (C.2.2.1, 82, .inr (.inl (mB b))))] : va_W), ([(mo 2, .inl (C.2.2.1, 82, .inr (.inl gx2)))] : va_W), ([(mo 4, .inl (C.2.1, 60, .inl (fun k => nI (cd k))))] : va_W)]) H := hP
                                have hD : va_D (q_A (List.flatten [wO C mo (evm (nI n) (nI y0) tw pl fl tl) v o, ([(mo 1, .inl (C.2.2.1, 82, .inr (.inl (mB b))))] : va_W), ([(mo 2, .inl (C.2.2.1, 82, .inr (.inl g)))] : va_W), ([(mo 4, .inl (C.2.1, 60, .inl (fun k => nI (cd k))))] : va_W)]) s) (List.flatten [wO C mo (evm (nI n) (nI y0) (nI 0) pl fl tl) vx2 ox2, ([(mo 1, .inl (C.2.2.1, 82, .inr (.inl (mB b))))] : va_W), ([(mo 2, .inl (C.2.2.1, 82, .inr (.inl gx2)))] : va_W), ([(mo 4, .inl (C.2.1, 60, .inl (fun k => nI (cd k))))] : va_W)]) := hD
                                refine W.eq (g2 := F0 m 262 ls [.int (lgI (lgN b 1 0)), .long ((lN 31) * (((lN 31) * h200) + ((nI (bsrN b 8 2)).toInt64)))]) rfl ?_
                                refine lv_i2l (v := (lgI (lgN b 1 0)).toInt64) hx hb dX5_digest_262 rfl ?_
                                refine lv_ladd hx hb dX5_digest_263 ?_
                                have hq2 : dg2 b n = ((lN 31) * (((lN 31) * h200) + ((nI (bsrN b 8 2)).toInt64))) + ((lgI (lgN b 1 0)).toInt64) := by rw [dg2, hq1]; rfl
                                rw [← hq2]
                                refine lv_lstore_n (lv' := [(1, .long (dg2 b n)), (3, .int (nI i200)), (0, .ref (mo 0))]) hx hb dX5_digest_264 rfl hl (by decide) rfl (fun ls hl => ?_)
                                refine lv_ldc2 hx hb hown hk221 dX5_digest_265 ?_
                                refine q_tl (y := lN 31) (by decide) ?_
                                refine lv_ldc2 hx hb hown hk221 dX5_digest_268 ?_
                                refine q_tl (y := lN 31) (by decide) ?_
                                refine lv_lload_n hx hb dX5_digest_271 rfl (lv_at hl 0 rfl) ?_
                                refine lv_lmul hx hb dX5_digest_272 ?_
                                refine lv_aload_n hx hb dX5_digest_273 rfl (lv_at hl 2 rfl) ?_
                                refine q_V0 (As := []) (rest := [.long ((lN 31) * (dg2 b n)), .long (lN 31)]) ⟨hx, hb, hml, hown, hts⟩ (c_X5_even l C mo (nI n) (nI y0) (nI 0) pl fl tl vx2 ox2 b hU) (cwV 0 hts gX5_digest_X5_even rfl rfl rfl (by decide +kernel) ⟨Nat.le_of_ble_eq_true rfl, Nat.le_of_ble_eq_true rfl⟩) hK hP hD hS hA [0, 1, 2, 3] (by decide) rfl 0 rfl rfl rfl rfl hl.1 rfl (Nat.le_of_ble_eq_true rfl) dX5_digest_274 (Nat.zero_le _) (Nat.zero_le _) (fun H locs hP hS => ?_)
                                refine W.eq (g2 := F0 m 277 ls [.double (evD b), .long ((lN 31) * (dg2 b n)), .long (lN 31)]) rfl ?_
                                refine q_S0 (As := [.double (evD b)]) (rest := [.long ((lN 31) * (dg2 b n)), .long (lN 31)]) ⟨hx, hb, hml, hown, hts⟩ (c_Jxe99ae_doubleToLongBits_ccdee l C (evD b) (fp_rf (evD_sh hU))) (va_cwS 1 hts gX5_digest_Jxe99ae_doubleToLongBits_ccdee rfl rfl rfl (by decide +kernel) ⟨Nat.le_of_ble_eq_true rfl, Nat.le_of_ble_eq_true rfl⟩) hK hP hD hS hA [] (by decide) rfl rfl hl.1 rfl (Nat.le_of_ble_eq_true rfl) dX5_digest_277 (Nat.zero_le _) (Nat.zero_le _) (fun H locs hP hS => ?_)
                                refine W.eq (g2 := F0 m 280 ls [.long ((evD b).toInt64), .long ((lN 31) * (dg2 b n)), .long (lN 31)]) rfl ?_
                                refine lv_ladd hx hb dX5_digest_280 ?_
                                refine lv_lmul hx hb dX5_digest_281 ?_
                                refine lv_aload_n hx hb dX5_digest_282 rfl (lv_at hl 2 rfl) ?_
                                refine va_get (ci := 5) (v := .int (nI y0)) (C := RX5) (T := TX5) (N := 13) hx hb hts hin5 hown hK.1 hP 0 rfl rfl 5 (by decide) hf150 (fun _ h9 => h9) rfl dX5_digest_283 ?_
                                refine lv_i2l (v := lN y0) hx hb dX5_digest_286 (nI_l (by omega)) ?_
                                refine lv_ladd hx hb dX5_digest_287 ?_
                                have hq3 : dg3 b n y0 = ((lN 31) * (((lN 31) * (dg2 b n)) + ((evD b).toInt64))) + (lN y0) := rfl
                                rw [← hq3]
                                refine lv_lstore_n (lv' := [(1, .long (dg3 b n y0)), (3, .int (nI i200)), (0, .ref (mo 0))]) hx hb dX5_digest_288 rfl hl (by decide) rfl (fun ls hl => ?_)
                                refine lv_iconst (v := nI 0) hx hb dX5_digest_289 (by decide) ?_
                                refine lv_istore_n (lv' := [(3, .int (nI 0)), (1, .long (dg3 b n y0)), (0, .ref (mo 0))]) hx hb dX5_digest_290 rfl hl (by decide) rfl (fun ls hl => ?_)
                                have K291 : ∀ (n291 i291 : Nat), ∀ (h291 : Int64), i291 ≤ y0 → y0 + 1 ≤ i291 + n291 → (hsF (fun k => lN (cd k)) (dg3 b n y0) i291 = h291) → ∀ (H : Heap) (locs : List Loc) (ls : Array Slot), va_P C.1 vwCl (List.flatten [wO C mo (evm (nI n) (nI y0) (nI 0) pl fl tl) vx2 ox2, ([(mo 1, .inl (C.2.2.1, 82, .inr (.inl (mB b))))] : va_W), ([(mo 2, .inl (C.2.2.1, 82, .inr (.inl gx2)))] : va_W), ([(mo 4, .inl (C.2.1, 60, .inl (fun k => nI (cd k))))] : va_W)]) H → va_D (q_A (List.flatten [wO C mo (evm (nI n) (nI y0) tw pl fl tl) v o, ([(mo 1, .inl (C.2.2.1, 82, .inr (.inl (mB b))))] : va_W), ([(mo 2, .inl (C.2.2.1, 82, .inr (.inl g)))] : va_W), ([(mo 4, .inl (C.2.1, 60, .inl (fun k => nI (cd k))))] : va_W)]) s) (List.flatten [wO C mo (evm (nI n) (nI y0) (nI 0) pl fl tl) vx2 ox2, ([(mo 1, .inl (C.2.2.1, 82, .inr (.inl (mB b))))] : va_W), ([(mo 2, .inl (C.2.2.1, 82, .inr (.inl gx2)))] : va_W), ([(mo 4, .inl (C.2.1, 60, .inl (fun k => nI (cd k))))] : va_W)]) → va_S (q_A (List.flatten [wO C mo (evm (nI n) (nI y0) tw pl fl tl) v o, ([(mo 1, .inl (C.2.2.1, 82, .inr (.inl (mB b))))] : va_W), ([(mo 2, .inl (C.2.2.1, 82, .inr (.inl g)))] : va_W), ([(mo 4, .inl (C.2.1, 60, .inl (fun k => nI (cd k))))] : va_W)]) s) s.heap H locs → lv_has ls 6 [(3, .int (nI i291)), (1, .long h291), (0, .ref (mo 0))] → W p l e (q_R 9 217) s m ([.ref (mo 0)] : List Value).toArray below meth c H locs 0 0 (q_G C below (List.flatten [wO C mo (evm (nI n) (nI y0) tw pl fl tl) v o, ([(mo 1, .inl (C.2.2.1, 82, .inr (.inl (mB b))))] : va_W), ([(mo 2, .inl (C.2.2.1, 82, .inr (.inl g)))] : va_W), ([(mo 4, .inl (C.2.1, 60, .inl (fun k => nI (cd k))))] : va_W)]) (fun r w1 => ∃ v1 o1 g1, r = some (.long (dgL b n y0 cd)) ∧ w1 = List.flatten [wO C mo (evm (nI n) (nI y0) (nI 0) pl fl tl) v1 o1, ([(mo 1, .inl (C.2.2.1, 82, .inr (.inl (mB b))))] : va_W), ([(mo 2, .inl (C.2.2.1, 82, .inr (.inl g1)))] : va_W), ([(mo 4, .inl (C.2.1, 60, .inl (fun k => nI (cd k))))] : va_W)]) ([.ref (mo 0)] : List Value).toArray s) (F0 m 291 ls []) := by
                                  intro n291
                                  induction n291 with
                                  | zero => intro i291 h291 q1 q2; exact absurd q2 (by omega)
                                  | succ n291 ih291 =>
                                    intro i291 h291 hi291 hn291 hH291 H locs ls hP hD hS hl
                                    refine lv_iload_n hx hb dX5_digest_291 rfl (lv_at hl 0 rfl) ?_
                                    refine lv_aload_n hx hb dX5_digest_292 rfl (lv_at hl 2 rfl) ?_
                                    refine va_get (ci := 5) (v := .int (nI y0)) (C := RX5) (T := TX5) (N := 13) hx hb hts hin5 hown hK.1 hP 0 rfl rfl 5 (by decide) hf150 (fun _ h9 => h9) rfl dX5_digest_293 ?_
                                    refine lv_icmp_ge (tgt := 319) hx hb dX5_digest_296 (by decide) (fun c296 => ?_) (fun c296 => ?_)
                                    · have c296 : y0 ≤ i291 := q_nge (by omega) (by omega) c296
                                      refine lv_lload_n hx hb dX5_digest_319 rfl (lv_at hl 1 rfl) ?_
                                      exact q_lret hx hb hr hlocks (w1 := List.flatten [wO C mo (evm (nI n) (nI y0) (nI 0) pl fl tl) vx2 ox2, ([(mo 1, .inl (C.2.2.1, 82, .inr (.inl (mB b))))] : va_W), ([(mo 2, .inl (C.2.2.1, 82, .inr (.inl gx2)))] : va_W), ([(mo 4, .inl (C.2.1, 60, .inl (fun k => nI (cd k))))] : va_W)]) hP hS rfl dX5_digest_320 (⟨_, _, _, by rw [dgL, ← hH291, show i291 = y0 by omega], rfl⟩)
                                    · have c296 : i291 < y0 := q_nge' (by omega) (by omega) c296
                                      refine lv_ldc2 hx hb hown hk221 dX5_digest_299 ?_
                                      refine q_tl (y := lN 31) (by decide) ?_
                                      refine lv_lload_n hx hb dX5_digest_302 rfl (lv_at hl 1 rfl) ?_
                                      refine lv_lmul hx hb dX5_digest_303 ?_
                                      refine lv_aload_n hx hb dX5_digest_304 rfl (lv_at hl 2 rfl) ?_
                                      refine va_get (ci := 5) (v := .ref (mo 4)) (C := RX5) (T := TX5) (N := 13) hx hb hts hin5 hown hK.1 hP 0 rfl rfl 4 (by decide) hf19 (fun _ h9 => h9) rfl dX5_digest_305 ?_
                                      refine lv_iload_n hx hb dX5_digest_308 rfl (lv_at hl 0 rfl) ?_
                                      refine q_iald (n := i291) (v := nI (cd i291)) hx hb hK hP 5 rfl (by omega) (by decide) rfl dX5_digest_309 ?_
                                      have hc310 := hcd i291 (by omega)
                                      refine lv_i2l (v := lN (cd i291)) hx hb dX5_digest_310 (nI_l (by omega)) ?_
                                      refine lv_ladd hx hb dX5_digest_311 ?_
                                      refine lv_lstore_n (lv' := [(1, .long (((lN 31) * h291) + (lN (cd i291)))), (3, .int (nI i291)), (0, .ref (mo 0))]) hx hb dX5_digest_312 rfl hl (by decide) rfl (fun ls hl => ?_)
                                      refine lv_iinc (v := nI (i291 + 1)) (lv' := [(3, .int (nI (i291 + 1))), (1, .long (((lN 31) * h291) + (lN (cd i291)))), (0, .ref (mo 0))]) hx hb dX5_digest_313 hl (k := 1) rfl (nI_1 _) (by decide) rfl (fun ls hl => ?_)
                                      refine lv_goto (tgt := 291) hx hb dX5_digest_316 (by decide) ?_
                                      exact ih291 (i291 + 1) (((lN 31) * h291) + (lN (cd i291))) (by omega) (by omega) (by show h31 (hsF (fun k => lN (cd k)) (dg3 b n y0) i291) _ = _; rw [hH291]; rfl) _ _ ls hP hD hS (lv_sub hl [0, 1, 2] rfl)
                                exact K291 (y0 + 1 - 0) 0 (dg3 b n y0) (by omega) (by omega) rfl _ _ ls hP hD hS (lv_sub hl [0, 1, 2] rfl)
                              · have c202 : i200 < 3 := q_nge' (by omega) (by omega) c202
                                refine lv_ldc2 hx hb hown hk221 dX5_digest_205 ?_
                                refine q_tl (y := lN 31) (by decide) ?_
                                refine lv_ldc2 hx hb hown hk221 dX5_digest_208 ?_
                                refine q_tl (y := lN 31) (by decide) ?_
                                refine lv_lload_n hx hb dX5_digest_211 rfl (lv_at hl 1 rfl) ?_
                                refine lv_lmul hx hb dX5_digest_212 ?_
                                refine lv_aload_n hx hb dX5_digest_213 rfl (lv_at hl 2 rfl) ?_
                                refine lv_aload_n hx hb dX5_digest_214 rfl (lv_at hl 2 rfl) ?_
                                refine va_get (ci := 5) (v := .ref (mo 1)) (C := RX5) (T := TX5) (N := 13) hx hb hts hin5 hown hK.1 hP 0 rfl rfl 0 (by decide) hf7 (fun _ h9 => h9) rfl dX5_digest_215 ?_
                                refine lv_iload_n hx hb dX5_digest_218 rfl (lv_at hl 0 rfl) ?_
                                refine q_VB (cs := [wO C mo (evm (nI n) (nI y0) (nI 0) pl fl tl) v200 o200, ([(mo 1, .inl (C.2.2.1, 82, .inr (.inl (mB b))))] : va_W)]) (As := [.ref (mo 1), .int (nI i200)]) (rest := [.long ((lN 31) * h200), .long (lN 31)]) ⟨hx, hb, hml, hown, hts⟩ (c_X5_chosen l C mo (evm (nI n) (nI y0) (nI 0) pl fl tl) v200 o200 (mo 1) b i200 hB (by omega)) (cwV 2 hts gX5_digest_X5_chosen rfl rfl rfl (by decide +kernel) ⟨Nat.le_of_ble_eq_true rfl, Nat.le_of_ble_eq_true rfl⟩) hK hP hD hS hA [0, 1] (by decide) rfl 0 rfl rfl rfl rfl hl.1 rfl (Nat.le_of_ble_eq_true rfl) dX5_digest_219 (Nat.zero_le _) (Nat.zero_le _) (fun r w1 H locs hQ hF hS => ?_)
                                obtain ⟨vx4, ox4, rfl, rfl⟩ := hQ
                                obtain ⟨hP, hD⟩ := hF [wO C mo (evm (nI n) (nI y0) (nI 0) pl fl tl) vx4 ox4, ([(mo 1, .inl (C.2.2.1, 82, .inr (.inl (mB b))))] : va_W)] rfl rfl
                                have hP : va_P C.1 vwCl (List.flatten [wO C mo (evm (nI n) (nI y0) (nI 0) pl fl tl) vx4 ox4, ([(mo 1, .inl (C.2.2.1, 82, .inr (.inl (mB b))))] : va_W), ([(mo 2, .inl (C.2.2.1, 82, .inr (.inl g200)))] : va_W), ([(mo 4, .inl (C.2.1, 60, .inl (fun k => nI (cd k))))] : va_W)]) H := hP
                                have hD : va_D (q_A (List.flatten [wO C mo (evm (nI n) (nI y0) tw pl fl tl) v o, ([(mo 1, .inl (C.2.2.1, 82, .inr (.inl (mB b))))] : va_W), ([(mo 2, .inl (C.2.2.1, 82, .inr (.inl g)))] : va_W), ([(mo 4, .inl (C.2.1, 60, .inl (fun k => nI (cd k))))] : va_W)]) s) (List.flatten [wO C mo (evm (nI n) (nI y0) (nI 0) pl fl tl) vx4 ox4, ([(mo 1, .inl (C.2.2.1, 82, .inr (.inl (mB b))))] : va_W), ([(mo 2, .inl (C.2.2.1, 82, .inr (.inl g200)))] : va_W), ([(mo 4, .inl (C.2.1, 60, .inl (fun k => nI (cd k))))] : va_W)]) := hD
                                refine W.eq (g2 := F0 m 222 ls [.int (nI (choN b (idxT b) i200)), .long ((lN 31) * h200), .long (lN 31)]) rfl ?_
                                refine lv_i2l (v := (nI (choN b (idxT b) i200)).toInt64) hx hb dX5_digest_222 rfl ?_
                                refine lv_ladd hx hb dX5_digest_223 ?_
                                refine lv_lmul hx hb dX5_digest_224 ?_
                                refine lv_aload_n hx hb dX5_digest_225 rfl (lv_at hl 2 rfl) ?_
                                refine lv_iload_n hx hb dX5_digest_226 rfl (lv_at hl 0 rfl) ?_
                                refine lv_iconst (v := nI 5) hx hb dX5_digest_227 (by decide) ?_
                                refine q_VB (cs := [wO C mo (evm (nI n) (nI y0) (nI 0) pl fl tl) vx4 ox4, ([(mo 1, .inl (C.2.2.1, 82, .inr (.inl (mB b))))] : va_W), ([(mo 2, .inl (C.2.2.1, 82, .inr (.inl g200)))] : va_W)]) (As := [.int (nI i200), .int (nI 5)]) (rest := [.long ((lN 31) * (((lN 31) * h200) + ((nI (choN b (idxT b) i200)).toInt64)))]) ⟨hx, hb, hml, hown, hts⟩ (c_X5_byPlay l C mo (nI n) (nI y0) (nI 0) pl fl tl vx4 ox4 b g200 i200 5 hB (by omega) (by omega)) (cwV 2 hts gX5_digest_X5_byPlay rfl rfl rfl (by decide +kernel) ⟨Nat.le_of_ble_eq_true rfl, Nat.le_of_ble_eq_true rfl⟩) hK hP hD hS hA [0, 1, 2] (by decide) rfl 0 rfl rfl rfl rfl hl.1 rfl (Nat.le_of_ble_eq_true rfl) dX5_digest_228 (Nat.zero_le _) (Nat.zero_le _) (fun r w1 H locs hQ hF hS => ?_)
                                obtain ⟨vx5, ox5, rfl, rfl⟩ := hQ
                                obtain ⟨hP, hD⟩ := hF [wO C mo (evm (nI n) (nI y0) (nI 0) pl fl tl) vx5 ox5, ([(mo 1, .inl (C.2.2.1, 82, .inr (.inl (mB b))))] : va_W), ([(mo 2, .inl (C.2.2.1, 82, .inr (.inl (mB (plN b (idxT b) i200 5)))))] : va_W)] rfl rfl
                                have hP : va_P C.1 vwCl (List.flatten [wO C mo (evm (nI n) (nI y0) (nI 0) pl fl tl) vx5 ox5, ([(mo 1, .inl (C.2.2.1, 82, .inr (.inl (mB b))))] : va_W), ([(mo 2, .inl (C.2.2.1, 82, .inr (.inl (mB (plN b (idxT b) i200 5)))))] : va_W), ([(mo 4, .inl (C.2.1, 60, .inl (fun k => nI (cd k))))] : va_W)]) H := hP
                                have hD : va_D (q_A (List.flatten [wO C mo (evm (nI n) (nI y0) tw pl fl tl) v o, ([(mo 1, .inl (C.2.2.1, 82, .inr (.inl (mB b))))] : va_W), ([(mo 2, .inl (C.2.2.1, 82, .inr (.inl g)))] : va_W), ([(mo 4, .inl (C.2.1, 60, .inl (fun k => nI (cd k))))] : va_W)]) s) (List.flatten [wO C mo (evm (nI n) (nI y0) (nI 0) pl fl tl) vx5 ox5, ([(mo 1, .inl (C.2.2.1, 82, .inr (.inl (mB b))))] : va_W), ([(mo 2, .inl (C.2.2.1, 82, .inr (.inl (mB (plN b (idxT b) i200 5)))))] : va_W), ([(mo 4, .inl (C.2.1, 60, .inl (fun k => nI (cd k))))] : va_W)]) := hD
                                refine W.eq (g2 := F0 m 231 ls [.long (gnN b i200 5), .long ((lN 31) * (((lN 31) * h200) + ((nI (choN b (idxT b) i200)).toInt64)))]) rfl ?_
                                refine lv_ladd hx hb dX5_digest_231 ?_
                                refine lv_lstore_n (lv' := [(1, .long (((lN 31) * (((lN 31) * h200) + ((nI (choN b (idxT b) i200)).toInt64))) + (gnN b i200 5))), (3, .int (nI i200)), (0, .ref (mo 0))]) hx hb dX5_digest_232 rfl hl (by decide) rfl (fun ls hl => ?_)
                                refine lv_iinc (v := nI (i200 + 1)) (lv' := [(3, .int (nI (i200 + 1))), (1, .long (((lN 31) * (((lN 31) * h200) + ((nI (choN b (idxT b) i200)).toInt64))) + (gnN b i200 5))), (0, .ref (mo 0))]) hx hb dX5_digest_233 hl (k := 1) rfl (nI_1 _) (by decide) rfl (fun ls hl => ?_)
                                refine lv_goto (tgt := 200) hx hb dX5_digest_236 (by decide) ?_
                                exact ih200 (i200 + 1) (((lN 31) * (((lN 31) * h200) + ((nI (choN b (idxT b) i200)).toInt64))) + (gnN b i200 5)) vx5 ox5 (mB (plN b (idxT b) i200 5)) (by omega) (by omega) (by show h31 (h31 (hRul b (hArms b (hsF (fun k => lN (bs b k)) (hsF (fun w => suL b w) (hsF (fun w => (cnI b n w).toInt64) (lN 2843) 4) 3) 4) 4) i200) _) _ = _; rw [hH200]; rfl) _ _ ls hP hD hS (lv_sub hl [0, 1, 2] rfl)
                          exact K200 (3 + 1 - 0) 0 h92 v92 o92 g (by omega) (by omega) (by have q := hH92; rw [show i92 = 4 by omega] at q; exact q) _ _ ls hP hD hS (lv_sub hl [0, 1, 2] rfl)
                        · have c94 : i92 < 4 := q_nge' (by omega) (by omega) c94
                          refine lv_iconst (v := nI 0) hx hb dX5_digest_97 (by decide) ?_
                          refine lv_istore (lv' := [(4, .int (nI 0)), (3, .int (nI i92)), (1, .long h92), (0, .ref (mo 0))]) hx hb dX5_digest_98 hl (by decide) rfl (fun ls hl => ?_)
                          have K100 : ∀ (n100 i100 : Nat), ∀ (h100 : Int64) (v100 : Nat → Nat) (o100 : Nat → Nat), i100 ≤ 4 → 4 + 1 ≤ i100 + n100 → (hsF (fun w => (nI (oaN b i92 w)).toInt64) (hArms b (hsF (fun k => lN (bs b k)) (hsF (fun w => suL b w) (hsF (fun w => (cnI b n w).toInt64) (lN 2843) 4) 3) 4) i92) i100 = h100) → ∀ (H : Heap) (locs : List Loc) (ls : Array Slot), va_P C.1 vwCl (List.flatten [wO C mo (evm (nI n) (nI y0) (nI 0) pl fl tl) v100 o100, ([(mo 1, .inl (C.2.2.1, 82, .inr (.inl (mB b))))] : va_W), ([(mo 2, .inl (C.2.2.1, 82, .inr (.inl g)))] : va_W), ([(mo 4, .inl (C.2.1, 60, .inl (fun k => nI (cd k))))] : va_W)]) H → va_D (q_A (List.flatten [wO C mo (evm (nI n) (nI y0) tw pl fl tl) v o, ([(mo 1, .inl (C.2.2.1, 82, .inr (.inl (mB b))))] : va_W), ([(mo 2, .inl (C.2.2.1, 82, .inr (.inl g)))] : va_W), ([(mo 4, .inl (C.2.1, 60, .inl (fun k => nI (cd k))))] : va_W)]) s) (List.flatten [wO C mo (evm (nI n) (nI y0) (nI 0) pl fl tl) v100 o100, ([(mo 1, .inl (C.2.2.1, 82, .inr (.inl (mB b))))] : va_W), ([(mo 2, .inl (C.2.2.1, 82, .inr (.inl g)))] : va_W), ([(mo 4, .inl (C.2.1, 60, .inl (fun k => nI (cd k))))] : va_W)]) → va_S (q_A (List.flatten [wO C mo (evm (nI n) (nI y0) tw pl fl tl) v o, ([(mo 1, .inl (C.2.2.1, 82, .inr (.inl (mB b))))] : va_W), ([(mo 2, .inl (C.2.2.1, 82, .inr (.inl g)))] : va_W), ([(mo 4, .inl (C.2.1, 60, .inl (fun k => nI (cd k))))] : va_W)]) s) s.heap H locs → lv_has ls 6 [(4, .int (nI i100)), (1, .long h100), (3, .int (nI i92)), (0, .ref (mo 0))] → W p l e (q_R 9 217) s m ([.ref (mo 0)] : List Value).toArray below meth c H locs 0 0 (q_G C below (List.flatten [wO C mo (evm (nI n) (nI y0) tw pl fl tl) v o, ([(mo 1, .inl (C.2.2.1, 82, .inr (.inl (mB b))))] : va_W), ([(mo 2, .inl (C.2.2.1, 82, .inr (.inl g)))] : va_W), ([(mo 4, .inl (C.2.1, 60, .inl (fun k => nI (cd k))))] : va_W)]) (fun r w1 => ∃ v1 o1 g1, r = some (.long (dgL b n y0 cd)) ∧ w1 = List.flatten [wO C mo (evm (nI n) (nI y0) (nI 0) pl fl tl) v1 o1, ([(mo 1, .inl (C.2.2.1, 82, .inr (.inl (mB b))))] : va_W), ([(mo 2, .inl (C.2.2.1, 82, .inr (.inl g1)))] : va_W), ([(mo 4, .inl (C.2.1, 60, .inl (fun k => nI (cd k))))] : va_W)]) ([.ref (mo 0)] : List Value).toArray s) (F0 m 100 ls []) := by
                            intro n100
                            induction n100 with
                            | zero => intro i100 h100 v100 o100 q1 q2; exact absurd q2 (by omega)
                            | succ n100 ih100 =>
                              intro i100 h100 v100 o100 hi100 hn100 hH100 H locs ls hP hD hS hl
                              refine lv_iload hx hb dX5_digest_100 (lv_at hl 0 rfl) ?_
                              refine lv_iconst (v := nI 4) hx hb dX5_digest_102 (by decide) ?_
                              refine lv_icmp_ge (tgt := 127) hx hb dX5_digest_103 (by decide) (fun c103 => ?_) (fun c103 => ?_)
                              · have c103 : 4 ≤ i100 := q_nge (by omega) (by omega) c103
                                refine lv_iconst (v := nI 0) hx hb dX5_digest_127 (by decide) ?_
                                refine lv_istore (lv' := [(4, .int (nI 0)), (1, .long h100), (3, .int (nI i92)), (0, .ref (mo 0))]) hx hb dX5_digest_128 hl (by decide) rfl (fun ls hl => ?_)
                                have K130 : ∀ (n130 i130 : Nat), ∀ (h130 : Int64) (v130 : Nat → Nat) (o130 : Nat → Nat), i130 ≤ 4 → 4 + 1 ≤ i130 + n130 → (hArm.hF2 b i92 (hsF (fun w => (nI (oaN b i92 w)).toInt64) (hArms b (hsF (fun k => lN (bs b k)) (hsF (fun w => suL b w) (hsF (fun w => (cnI b n w).toInt64) (lN 2843) 4) 3) 4) i92) 4) i130 = h130) → ∀ (H : Heap) (locs : List Loc) (ls : Array Slot), va_P C.1 vwCl (List.flatten [wO C mo (evm (nI n) (nI y0) (nI 0) pl fl tl) v130 o130, ([(mo 1, .inl (C.2.2.1, 82, .inr (.inl (mB b))))] : va_W), ([(mo 2, .inl (C.2.2.1, 82, .inr (.inl g)))] : va_W), ([(mo 4, .inl (C.2.1, 60, .inl (fun k => nI (cd k))))] : va_W)]) H → va_D (q_A (List.flatten [wO C mo (evm (nI n) (nI y0) tw pl fl tl) v o, ([(mo 1, .inl (C.2.2.1, 82, .inr (.inl (mB b))))] : va_W), ([(mo 2, .inl (C.2.2.1, 82, .inr (.inl g)))] : va_W), ([(mo 4, .inl (C.2.1, 60, .inl (fun k => nI (cd k))))] : va_W)]) s) (List.flatten [wO C mo (evm (nI n) (nI y0) (nI 0) pl fl tl) v130 o130, ([(mo 1, .inl (C.2.2.1, 82, .inr (.inl (mB b))))] : va_W), ([(mo 2, .inl (C.2.2.1, 82, .inr (.inl g)))] : va_W), ([(mo 4, .inl (C.2.1, 60, .inl (fun k => nI (cd k))))] : va_W)]) → va_S (q_A (List.flatten [wO C mo (evm (nI n) (nI y0) tw pl fl tl) v o, ([(mo 1, .inl (C.2.2.1, 82, .inr (.inl (mB b))))] : va_W), ([(mo 2, .inl (C.2.2.1, 82, .inr (.inl g)))] : va_W), ([(mo 4, .inl (C.2.1, 60, .inl (fun k => nI (cd k))))] : va_W)]) s) s.heap H locs → lv_has ls 6 [(4, .int (nI i130)), (1, .long h130), (3, .int (nI i92)), (0, .ref (mo 0))] → W p l e (q_R 9 217) s m ([.ref (mo 0)] : List Value).toArray below meth c H locs 0 0 (q_G C below (List.flatten [wO C mo (evm (nI n) (nI y0) tw pl fl tl) v o, ([(mo 1, .inl (C.2.2.1, 82, .inr (.inl (mB b))))] : va_W), ([(mo 2, .inl (C.2.2.1, 82, .inr (.inl g)))] : va_W), ([(mo 4, .inl (C.2.1, 60, .inl (fun k => nI (cd k))))] : va_W)]) (fun r w1 => ∃ v1 o1 g1, r = some (.long (dgL b n y0 cd)) ∧ w1 = List.flatten [wO C mo (evm (nI n) (nI y0) (nI 0) pl fl tl) v1 o1, ([(mo 1, .inl (C.2.2.1, 82, .inr (.inl (mB b))))] : va_W), ([(mo 2, .inl (C.2.2.1, 82, .inr (.inl g1)))] : va_W), ([(mo 4, .inl (C.2.1, 60, .inl (fun k => nI (cd k))))] : va_W)]) ([.ref (mo 0)] : List Value).toArray s) (F0 m 130 ls []) := by
                                  intro n130
                                  induction n130 with
                                  | zero => intro i130 h130 v130 o130 q1 q2; exact absurd q2 (by omega)
                                  | succ n130 ih130 =>
                                    intro i130 h130 v130 o130 hi130 hn130 hH130 H locs ls hP hD hS hl
                                    refine lv_iload hx hb dX5_digest_130 (lv_at hl 0 rfl) ?_
                                    refine lv_iconst (v := nI 4) hx hb dX5_digest_132 (by decide) ?_
                                    refine lv_icmp_ge (tgt := 192) hx hb dX5_digest_133 (by decide) (fun c133 => ?_) (fun c133 => ?_)
                                    · have c133 : 4 ≤ i130 := q_nge (by omega) (by omega) c133
                                      refine lv_iinc (v := nI (i92 + 1)) (lv' := [(3, .int (nI (i92 + 1))), (4, .int (nI i130)), (1, .long h130), (0, .ref (mo 0))]) hx hb dX5_digest_192 hl (k := 2) rfl (nI_1 _) (by decide) rfl (fun ls hl => ?_)
                                      refine lv_goto (tgt := 92) hx hb dX5_digest_195 (by decide) ?_
                                      exact ih92 (i92 + 1) h130 v130 o130 (by omega) (by omega) (by have q := hH130; rw [show i130 = 4 by omega] at q; exact q) _ _ ls hP hD hS (lv_sub hl [0, 2, 3] rfl)
                                    · have c133 : i130 < 4 := q_nge' (by omega) (by omega) c133
                                      refine lv_iconst (v := nI 0) hx hb dX5_digest_136 (by decide) ?_
                                      refine lv_istore (lv' := [(5, .int (nI 0)), (4, .int (nI i130)), (1, .long h130), (3, .int (nI i92)), (0, .ref (mo 0))]) hx hb dX5_digest_137 hl (by decide) rfl (fun ls hl => ?_)
                                      have K139 : ∀ (n139 i139 : Nat), ∀ (h139 : Int64), i139 ≤ 5 → 5 + 1 ≤ i139 + n139 → (hsF (fun w => (nI (osN b i92 i130 w)).toInt64) (hArm.hF2 b i92 (hsF (fun w => (nI (oaN b i92 w)).toInt64) (hArms b (hsF (fun k => lN (bs b k)) (hsF (fun w => suL b w) (hsF (fun w => (cnI b n w).toInt64) (lN 2843) 4) 3) 4) i92) 4) i130) i139 = h139) → ∀ (H : Heap) (locs : List Loc) (ls : Array Slot), va_P C.1 vwCl (List.flatten [wO C mo (evm (nI n) (nI y0) (nI 0) pl fl tl) v130 o130, ([(mo 1, .inl (C.2.2.1, 82, .inr (.inl (mB b))))] : va_W), ([(mo 2, .inl (C.2.2.1, 82, .inr (.inl g)))] : va_W), ([(mo 4, .inl (C.2.1, 60, .inl (fun k => nI (cd k))))] : va_W)]) H → va_D (q_A (List.flatten [wO C mo (evm (nI n) (nI y0) tw pl fl tl) v o, ([(mo 1, .inl (C.2.2.1, 82, .inr (.inl (mB b))))] : va_W), ([(mo 2, .inl (C.2.2.1, 82, .inr (.inl g)))] : va_W), ([(mo 4, .inl (C.2.1, 60, .inl (fun k => nI (cd k))))] : va_W)]) s) (List.flatten [wO C mo (evm (nI n) (nI y0) (nI 0) pl fl tl) v130 o130, ([(mo 1, .inl (C.2.2.1, 82, .inr (.inl (mB b))))] : va_W), ([(mo 2, .inl (C.2.2.1, 82, .inr (.inl g)))] : va_W), ([(mo 4, .inl (C.2.1, 60, .inl (fun k => nI (cd k))))] : va_W)]) → va_S (q_A (List.flatten [wO C mo (evm (nI n) (nI y0) tw pl fl tl) v o, ([(mo 1, .inl (C.2.2.1, 82, .inr (.inl (mB b))))] : va_W), ([(mo 2, .inl (C.2.2.1, 82, .inr (.inl g)))] : va_W), ([(mo 4, .inl (C.2.1, 60, .inl (fun k => nI (cd k))))] : va_W)]) s) s.heap H locs → lv_has ls 6 [(5, .int (nI i139)), (1, .long h139), (4, .int (nI i130)), (3, .int (nI i92)), (0, .ref (mo 0))] → W p l e (q_R 9 217) s m ([.ref (mo 0)] : List Value).toArray below meth c H locs 0 0 (q_G C below (List.flatten [wO C mo (evm (nI n) (nI y0) tw pl fl tl) v o, ([(mo 1, .inl (C.2.2.1, 82, .inr (.inl (mB b))))] : va_W), ([(mo 2, .inl (C.2.2.1, 82, .inr (.inl g)))] : va_W), ([(mo 4, .inl (C.2.1, 60, .inl (fun k => nI (cd k))))] : va_W)]) (fun r w1 => ∃ v1 o1 g1, r = some (.long (dgL b n y0 cd)) ∧ w1 = List.flatten [wO C mo (evm (nI n) (nI y0) (nI 0) pl fl tl) v1 o1, ([(mo 1, .inl (C.2.2.1, 82, .inr (.inl (mB b))))] : va_W), ([(mo 2, .inl (C.2.2.1, 82, .inr (.inl g1)))] : va_W), ([(mo 4, .inl (C.2.1, 60, .inl (fun k => nI (cd k))))] : va_W)]) ([.ref (mo 0)] : List Value).toArray s) (F0 m 139 ls []) := by
                                        intro n139
                                        induction n139 with
                                        | zero => intro i139 h139 q1 q2; exact absurd q2 (by omega)
                                        | succ n139 ih139 =>
                                          intro i139 h139 hi139 hn139 hH139 H locs ls hP hD hS hl
                                          refine lv_iload hx hb dX5_digest_139 (lv_at hl 0 rfl) ?_
                                          refine lv_iconst (v := nI 5) hx hb dX5_digest_141 (by decide) ?_
                                          refine lv_icmp_ge (tgt := 168) hx hb dX5_digest_142 (by decide) (fun c142 => ?_) (fun c142 => ?_)
                                          · have c142 : 5 ≤ i139 := q_nge (by omega) (by omega) c142
                                            have hq168 : hsF (fun w => (nI (osN b i92 i130 w)).toInt64) (hArm.hF2 b i92 (hsF (fun w => (nI (oaN b i92 w)).toInt64) (hArms b (hsF (fun k => lN (bs b k)) (hsF (fun w => suL b w) (hsF (fun w => (cnI b n w).toInt64) (lN 2843) 4) 3) 4) i92) 4) i130) 5 = h139 := by have q := hH139; rw [show i139 = 5 by omega] at q; exact q
                                            refine lv_ldc2 hx hb hown hk221 dX5_digest_168 ?_
                                            refine q_tl (y := lN 31) (by decide) ?_
                                            refine lv_lload_n hx hb dX5_digest_171 rfl (lv_at hl 1 rfl) ?_
                                            refine lv_lmul hx hb dX5_digest_172 ?_
                                            refine lv_aload_n hx hb dX5_digest_173 rfl (lv_at hl 4 rfl) ?_
                                            refine lv_aload_n hx hb dX5_digest_174 rfl (lv_at hl 4 rfl) ?_
                                            refine va_get (ci := 5) (v := .ref (mo 1)) (C := RX5) (T := TX5) (N := 13) hx hb hts hin5 hown hK.1 hP 0 rfl rfl 0 (by decide) hf7 (fun _ h9 => h9) rfl dX5_digest_175 ?_
                                            refine lv_iload_n hx hb dX5_digest_178 rfl (lv_at hl 3 rfl) ?_
                                            refine lv_iload hx hb dX5_digest_179 (lv_at hl 2 rfl) ?_
                                            refine q_VB (cs := [wO C mo (evm (nI n) (nI y0) (nI 0) pl fl tl) v130 o130, ([(mo 1, .inl (C.2.2.1, 82, .inr (.inl (mB b))))] : va_W)]) (As := [.ref (mo 1), .int (nI i92), .int (nI i130)]) (rest := [.long ((lN 31) * h139)]) ⟨hx, hb, hml, hown, hts⟩ (c_X5_indexOf l C mo (evm (nI n) (nI y0) (nI 0) pl fl tl) v130 o130 (mo 1) b i92 i130 hB (by omega) (by omega)) (cwV 3 hts gX5_digest_X5_indexOf rfl rfl rfl (by decide +kernel) ⟨Nat.le_of_ble_eq_true rfl, Nat.le_of_ble_eq_true rfl⟩) hK hP hD hS hA [0, 1] (by decide) rfl 0 rfl rfl rfl rfl hl.1 rfl (Nat.le_of_ble_eq_true rfl) dX5_digest_181 (Nat.zero_le _) (Nat.zero_le _) (fun r w1 H locs hQ hF hS => ?_)
                                            obtain ⟨rfl, rfl⟩ := hQ
                                            obtain ⟨hP, hD⟩ := hF [wO C mo (evm (nI n) (nI y0) (nI 0) pl fl tl) (valsN b i92 i130 (bs b 1)) (ownsN b i92 i130 o130 (bs b 1)), ([(mo 1, .inl (C.2.2.1, 82, .inr (.inl (mB b))))] : va_W)] rfl rfl
                                            have hP : va_P C.1 vwCl (List.flatten [wO C mo (evm (nI n) (nI y0) (nI 0) pl fl tl) (valsN b i92 i130 (bs b 1)) (ownsN b i92 i130 o130 (bs b 1)), ([(mo 1, .inl (C.2.2.1, 82, .inr (.inl (mB b))))] : va_W), ([(mo 2, .inl (C.2.2.1, 82, .inr (.inl g)))] : va_W), ([(mo 4, .inl (C.2.1, 60, .inl (fun k => nI (cd k))))] : va_W)]) H := hP
                                            have hD : va_D (q_A (List.flatten [wO C mo (evm (nI n) (nI y0) tw pl fl tl) v o, ([(mo 1, .inl (C.2.2.1, 82, .inr (.inl (mB b))))] : va_W), ([(mo 2, .inl (C.2.2.1, 82, .inr (.inl g)))] : va_W), ([(mo 4, .inl (C.2.1, 60, .inl (fun k => nI (cd k))))] : va_W)]) s) (List.flatten [wO C mo (evm (nI n) (nI y0) (nI 0) pl fl tl) (valsN b i92 i130 (bs b 1)) (ownsN b i92 i130 o130 (bs b 1)), ([(mo 1, .inl (C.2.2.1, 82, .inr (.inl (mB b))))] : va_W), ([(mo 2, .inl (C.2.2.1, 82, .inr (.inl g)))] : va_W), ([(mo 4, .inl (C.2.1, 60, .inl (fun k => nI (cd k))))] : va_W)]) := hD
                                            refine W.eq (g2 := F0 m 184 ls [.long (lN (idxN b i92 i130)), .long ((lN 31) * h139)]) rfl ?_
                                            refine lv_ladd hx hb dX5_digest_184 ?_
                                            refine lv_lstore_n (lv' := [(1, .long (((lN 31) * h139) + (lN (idxN b i92 i130)))), (5, .int (nI i139)), (4, .int (nI i130)), (3, .int (nI i92)), (0, .ref (mo 0))]) hx hb dX5_digest_185 rfl hl (by decide) rfl (fun ls hl => ?_)
                                            refine lv_iinc (v := nI (i130 + 1)) (lv' := [(4, .int (nI (i130 + 1))), (1, .long (((lN 31) * h139) + (lN (idxN b i92 i130)))), (5, .int (nI i139)), (3, .int (nI i92)), (0, .ref (mo 0))]) hx hb dX5_digest_186 hl (k := 2) rfl (nI_1 _) (by decide) rfl (fun ls hl => ?_)
                                            refine lv_goto (tgt := 130) hx hb dX5_digest_189 (by decide) ?_
                                            exact ih130 (i130 + 1) (((lN 31) * h139) + (lN (idxN b i92 i130))) (valsN b i92 i130 (bs b 1)) (ownsN b i92 i130 o130 (bs b 1)) (by omega) (by omega) (by show h31 (hsF (fun w => (nI (osN b i92 i130 w)).toInt64) (hArm.hF2 b i92 (hsF (fun w => (nI (oaN b i92 w)).toInt64) (hArms b (hsF (fun k => lN (bs b k)) (hsF (fun w => suL b w) (hsF (fun w => (cnI b n w).toInt64) (lN 2843) 4) 3) 4) i92) 4) i130) 5) _ = _; rw [hq168]; rfl) _ _ ls hP hD hS (lv_sub hl [0, 1, 3, 4] rfl)
                                          · have c142 : i139 < 5 := q_nge' (by omega) (by omega) c142
                                            refine lv_ldc2 hx hb hown hk221 dX5_digest_145 ?_
                                            refine q_tl (y := lN 31) (by decide) ?_
                                            refine lv_lload_n hx hb dX5_digest_148 rfl (lv_at hl 1 rfl) ?_
                                            refine lv_lmul hx hb dX5_digest_149 ?_
                                            refine lv_aload_n hx hb dX5_digest_150 rfl (lv_at hl 4 rfl) ?_
                                            refine lv_iload_n hx hb dX5_digest_151 rfl (lv_at hl 3 rfl) ?_
                                            refine lv_iload hx hb dX5_digest_152 (lv_at hl 2 rfl) ?_
                                            refine lv_iload hx hb dX5_digest_154 (lv_at hl 0 rfl) ?_
                                            refine q_V0 (As := [.int (nI i92), .int (nI i130), .int (nI i139)]) (rest := [.long ((lN 31) * h139)]) ⟨hx, hb, hml, hown, hts⟩ (c_X5_ofState l C mo (nI n) (nI y0) (nI 0) pl fl tl v130 o130 b i92 i130 i139 hB (by omega) (by omega) (by omega)) (cwV 3 hts gX5_digest_X5_ofState rfl rfl rfl (by decide +kernel) ⟨Nat.le_of_ble_eq_true rfl, Nat.le_of_ble_eq_true rfl⟩) hK hP hD hS hA [0, 1, 2, 3] (by decide) rfl 0 rfl rfl rfl rfl hl.1 rfl (Nat.le_of_ble_eq_true rfl) dX5_digest_156 (Nat.zero_le _) (Nat.zero_le _) (fun H locs hP hS => ?_)
                                            refine W.eq (g2 := F0 m 159 ls [.int (nI (osN b i92 i130 i139)), .long ((lN 31) * h139)]) rfl ?_
                                            refine lv_i2l (v := (nI (osN b i92 i130 i139)).toInt64) hx hb dX5_digest_159 rfl ?_
                                            refine lv_ladd hx hb dX5_digest_160 ?_
                                            refine lv_lstore_n (lv' := [(1, .long (((lN 31) * h139) + ((nI (osN b i92 i130 i139)).toInt64))), (5, .int (nI i139)), (4, .int (nI i130)), (3, .int (nI i92)), (0, .ref (mo 0))]) hx hb dX5_digest_161 rfl hl (by decide) rfl (fun ls hl => ?_)
                                            refine lv_iinc (v := nI (i139 + 1)) (lv' := [(5, .int (nI (i139 + 1))), (1, .long (((lN 31) * h139) + ((nI (osN b i92 i130 i139)).toInt64))), (4, .int (nI i130)), (3, .int (nI i92)), (0, .ref (mo 0))]) hx hb dX5_digest_162 hl (k := 1) rfl (nI_1 _) (by decide) rfl (fun ls hl => ?_)
                                            refine lv_goto (tgt := 139) hx hb dX5_digest_165 (by decide) ?_
                                            exact ih139 (i139 + 1) (((lN 31) * h139) + ((nI (osN b i92 i130 i139)).toInt64)) (by omega) (by omega) (by show h31 (hsF (fun w => (nI (osN b i92 i130 w)).toInt64) (hArm.hF2 b i92 (hsF (fun w => (nI (oaN b i92 w)).toInt64) (hArms b (hsF (fun k => lN (bs b k)) (hsF (fun w => suL b w) (hsF (fun w => (cnI b n w).toInt64) (lN 2843) 4) 3) 4) i92) 4) i130) i139) _ = _; rw [hH139]; rfl) _ _ ls hP hD hS (lv_sub hl [0, 1, 2, 3, 4] rfl)
                                      exact K139 (5 + 1 - 0) 0 h130 (by omega) (by omega) hH130 _ _ ls hP hD hS (lv_sub hl [0, 2, 1, 3, 4] rfl)
                                exact K130 (4 + 1 - 0) 0 h100 v100 o100 (by omega) (by omega) (by have q := hH100; rw [show i100 = 4 by omega] at q; exact q) _ _ ls hP hD hS (lv_sub hl [0, 1, 2, 3] rfl)
                              · have c103 : i100 < 4 := q_nge' (by omega) (by omega) c103
                                refine lv_ldc2 hx hb hown hk221 dX5_digest_106 ?_
                                refine q_tl (y := lN 31) (by decide) ?_
                                refine lv_lload_n hx hb dX5_digest_109 rfl (lv_at hl 1 rfl) ?_
                                refine lv_lmul hx hb dX5_digest_110 ?_
                                refine lv_aload_n hx hb dX5_digest_111 rfl (lv_at hl 3 rfl) ?_
                                refine lv_iload_n hx hb dX5_digest_112 rfl (lv_at hl 2 rfl) ?_
                                refine lv_iload hx hb dX5_digest_113 (lv_at hl 0 rfl) ?_
                                refine q_VB (cs := [wO C mo (evm (nI n) (nI y0) (nI 0) pl fl tl) v100 o100, ([(mo 1, .inl (C.2.2.1, 82, .inr (.inl (mB b))))] : va_W)]) (As := [.int (nI i92), .int (nI i100)]) (rest := [.long ((lN 31) * h100)]) ⟨hx, hb, hml, hown, hts⟩ (c_X5_ofArm l C mo (nI n) (nI y0) (nI 0) pl fl tl v100 o100 b i92 i100 hB (by omega) (by omega)) (cwV 2 hts gX5_digest_X5_ofArm rfl rfl rfl (by decide +kernel) ⟨Nat.le_of_ble_eq_true rfl, Nat.le_of_ble_eq_true rfl⟩) hK hP hD hS hA [0, 1] (by decide) rfl 0 rfl rfl rfl rfl hl.1 rfl (Nat.le_of_ble_eq_true rfl) dX5_digest_115 (Nat.zero_le _) (Nat.zero_le _) (fun r w1 H locs hQ hF hS => ?_)
                                obtain ⟨vx7, ox7, rfl, rfl⟩ := hQ
                                obtain ⟨hP, hD⟩ := hF [wO C mo (evm (nI n) (nI y0) (nI 0) pl fl tl) vx7 ox7, ([(mo 1, .inl (C.2.2.1, 82, .inr (.inl (mB b))))] : va_W)] rfl rfl
                                have hP : va_P C.1 vwCl (List.flatten [wO C mo (evm (nI n) (nI y0) (nI 0) pl fl tl) vx7 ox7, ([(mo 1, .inl (C.2.2.1, 82, .inr (.inl (mB b))))] : va_W), ([(mo 2, .inl (C.2.2.1, 82, .inr (.inl g)))] : va_W), ([(mo 4, .inl (C.2.1, 60, .inl (fun k => nI (cd k))))] : va_W)]) H := hP
                                have hD : va_D (q_A (List.flatten [wO C mo (evm (nI n) (nI y0) tw pl fl tl) v o, ([(mo 1, .inl (C.2.2.1, 82, .inr (.inl (mB b))))] : va_W), ([(mo 2, .inl (C.2.2.1, 82, .inr (.inl g)))] : va_W), ([(mo 4, .inl (C.2.1, 60, .inl (fun k => nI (cd k))))] : va_W)]) s) (List.flatten [wO C mo (evm (nI n) (nI y0) (nI 0) pl fl tl) vx7 ox7, ([(mo 1, .inl (C.2.2.1, 82, .inr (.inl (mB b))))] : va_W), ([(mo 2, .inl (C.2.2.1, 82, .inr (.inl g)))] : va_W), ([(mo 4, .inl (C.2.1, 60, .inl (fun k => nI (cd k))))] : va_W)]) := hD
                                refine W.eq (g2 := F0 m 118 ls [.int (nI (oaN b i92 i100)), .long ((lN 31) * h100)]) rfl ?_
                                refine lv_i2l (v := (nI (oaN b i92 i100)).toInt64) hx hb dX5_digest_118 rfl ?_
                                refine lv_ladd hx hb dX5_digest_119 ?_
                                refine lv_lstore_n (lv' := [(1, .long (((lN 31) * h100) + ((nI (oaN b i92 i100)).toInt64))), (4, .int (nI i100)), (3, .int (nI i92)), (0, .ref (mo 0))]) hx hb dX5_digest_120 rfl hl (by decide) rfl (fun ls hl => ?_)
                                refine lv_iinc (v := nI (i100 + 1)) (lv' := [(4, .int (nI (i100 + 1))), (1, .long (((lN 31) * h100) + ((nI (oaN b i92 i100)).toInt64))), (3, .int (nI i92)), (0, .ref (mo 0))]) hx hb dX5_digest_121 hl (k := 1) rfl (nI_1 _) (by decide) rfl (fun ls hl => ?_)
                                refine lv_goto (tgt := 100) hx hb dX5_digest_124 (by decide) ?_
                                exact ih100 (i100 + 1) (((lN 31) * h100) + ((nI (oaN b i92 i100)).toInt64)) vx7 ox7 (by omega) (by omega) (by show h31 (hsF (fun w => (nI (oaN b i92 w)).toInt64) (hArms b (hsF (fun k => lN (bs b k)) (hsF (fun w => suL b w) (hsF (fun w => (cnI b n w).toInt64) (lN 2843) 4) 3) 4) i92) i100) _ = _; rw [hH100]; rfl) _ _ ls hP hD hS (lv_sub hl [0, 1, 2, 3] rfl)
                          exact K100 (4 + 1 - 0) 0 h92 v92 o92 (by omega) (by omega) hH92 _ _ ls hP hD hS (lv_sub hl [0, 2, 1, 3] rfl)
                    exact K92 (4 + 1 - 0) 0 h66 v o (by omega) (by omega) (by have q := hH66; rw [show i66 = 4 by omega] at q; exact q) _ _ ls hP hD hS (lv_sub hl [0, 1, 2] rfl)
                  · have c68 : i66 < 4 := q_nge' (by omega) (by omega) c68
                    refine lv_ldc2 hx hb hown hk221 dX5_digest_71 ?_
                    refine q_tl (y := lN 31) (by decide) ?_
                    refine lv_lload_n hx hb dX5_digest_74 rfl (lv_at hl 1 rfl) ?_
                    refine lv_lmul hx hb dX5_digest_75 ?_
                    refine lv_aload_n hx hb dX5_digest_76 rfl (lv_at hl 2 rfl) ?_
                    refine va_get (ci := 5) (v := .ref (mo 1)) (C := RX5) (T := TX5) (N := 13) hx hb hts hin5 hown hK.1 hP 0 rfl rfl 0 (by decide) hf7 (fun _ h9 => h9) rfl dX5_digest_77 ?_
                    refine lv_iload_n hx hb dX5_digest_80 rfl (lv_at hl 0 rfl) ?_
                    refine q_lald (n := i66) (v := mB b i66) hx hb hK hP 3 rfl (by omega) (by decide) rfl dX5_digest_81 ?_
                    refine q_tl (y := lN (bs b i66)) (mB_s b (by omega)) ?_
                    refine lv_ladd hx hb dX5_digest_82 ?_
                    refine lv_lstore_n (lv' := [(1, .long (((lN 31) * h66) + (lN (bs b i66)))), (3, .int (nI i66)), (0, .ref (mo 0))]) hx hb dX5_digest_83 rfl hl (by decide) rfl (fun ls hl => ?_)
                    refine lv_iinc (v := nI (i66 + 1)) (lv' := [(3, .int (nI (i66 + 1))), (1, .long (((lN 31) * h66) + (lN (bs b i66)))), (0, .ref (mo 0))]) hx hb dX5_digest_84 hl (k := 1) rfl (nI_1 _) (by decide) rfl (fun ls hl => ?_)
                    refine lv_goto (tgt := 66) hx hb dX5_digest_87 (by decide) ?_
                    exact ih66 (i66 + 1) (((lN 31) * h66) + (lN (bs b i66))) (by omega) (by omega) (by show h31 (hsF (fun k => lN (bs b k)) (hsF (fun w => suL b w) (hsF (fun w => (cnI b n w).toInt64) (lN 2843) 4) 3) i66) _ = _; rw [hH66]; rfl) _ _ ls hP hD hS (lv_sub hl [0, 1, 2] rfl)
              exact K66 (4 + 1 - 0) 0 h37 (by omega) (by omega) (by have q := hH37; rw [show i37 = 3 by omega] at q; exact q) _ _ ls hP hD hS (lv_sub hl [0, 1, 2] rfl)
            · have c39 : i37 < 3 := q_nge' (by omega) (by omega) c39
              refine lv_ldc2 hx hb hown hk221 dX5_digest_42 ?_
              refine q_tl (y := lN 31) (by decide) ?_
              refine lv_lload_n hx hb dX5_digest_45 rfl (lv_at hl 1 rfl) ?_
              refine lv_lmul hx hb dX5_digest_46 ?_
              refine lv_aload_n hx hb dX5_digest_47 rfl (lv_at hl 2 rfl) ?_
              refine va_get (ci := 5) (v := .ref (mo 1)) (C := RX5) (T := TX5) (N := 13) hx hb hts hin5 hown hK.1 hP 0 rfl rfl 0 (by decide) hf7 (fun _ h9 => h9) rfl dX5_digest_48 ?_
              refine lv_bipush (v := nI 7) hx hb dX5_digest_51 (by decide) ?_
              refine lv_iload_n hx hb dX5_digest_53 rfl (lv_at hl 0 rfl) ?_
              refine lv_iadd hx hb dX5_digest_54 ?_
              refine q_ti (y := nI (7 + i37)) (nI_add _ _) ?_
              refine q_lald (n := (7 + i37)) (v := mB b (7 + i37)) hx hb hK hP 3 rfl (by omega) (by decide) rfl dX5_digest_55 ?_
              refine q_tl (y := suL b i37) (mB_su b (by omega)) ?_
              refine lv_ladd hx hb dX5_digest_56 ?_
              refine lv_lstore_n (lv' := [(1, .long (((lN 31) * h37) + (suL b i37))), (3, .int (nI i37)), (0, .ref (mo 0))]) hx hb dX5_digest_57 rfl hl (by decide) rfl (fun ls hl => ?_)
              refine lv_iinc (v := nI (i37 + 1)) (lv' := [(3, .int (nI (i37 + 1))), (1, .long (((lN 31) * h37) + (suL b i37))), (0, .ref (mo 0))]) hx hb dX5_digest_58 hl (k := 1) rfl (nI_1 _) (by decide) rfl (fun ls hl => ?_)
              refine lv_goto (tgt := 37) hx hb dX5_digest_61 (by decide) ?_
              exact ih37 (i37 + 1) (((lN 31) * h37) + (suL b i37)) (by omega) (by omega) (by show h31 (hsF (fun w => suL b w) (hsF (fun w => (cnI b n w).toInt64) (lN 2843) 4) i37) _ = _; rw [hH37]; rfl) _ _ ls hP hD hS (lv_sub hl [0, 1, 2] rfl)
        exact K37 (3 + 1 - 0) 0 h11 (by omega) (by omega) (by have q := hH11; rw [show i11 = 4 by omega] at q; exact q) _ _ ls hP hD hS (lv_sub hl [0, 1, 2] rfl)
      · have c13 : i11 < 4 := q_nge' (by omega) (by omega) c13
        refine lv_ldc2 hx hb hown hk221 dX5_digest_16 ?_
        refine q_tl (y := lN 31) (by decide) ?_
        refine lv_lload_n hx hb dX5_digest_19 rfl (lv_at hl 1 rfl) ?_
        refine lv_lmul hx hb dX5_digest_20 ?_
        refine lv_aload_n hx hb dX5_digest_21 rfl (lv_at hl 2 rfl) ?_
        refine lv_iload_n hx hb dX5_digest_22 rfl (lv_at hl 0 rfl) ?_
        refine q_V0 (As := [.int (nI i11)]) (rest := [.long ((lN 31) * h11)]) ⟨hx, hb, hml, hown, hts⟩ (c_X5_counted l C mo (nI y0) (nI 0) pl fl tl v o b n i11 (by omega)) (cwV 1 hts gX5_digest_X5_counted rfl rfl rfl (by decide +kernel) ⟨Nat.le_of_ble_eq_true rfl, Nat.le_of_ble_eq_true rfl⟩) hK hP hD hS hA [0, 1, 2, 3] (by decide) rfl 0 rfl rfl rfl rfl hl.1 rfl (Nat.le_of_ble_eq_true rfl) dX5_digest_23 (Nat.zero_le _) (Nat.zero_le _) (fun H locs hP hS => ?_)
        refine W.eq (g2 := F0 m 26 ls [.int (cnI b n i11), .long ((lN 31) * h11)]) rfl ?_
        refine lv_i2l (v := (cnI b n i11).toInt64) hx hb dX5_digest_26 rfl ?_
        refine lv_ladd hx hb dX5_digest_27 ?_
        refine lv_lstore_n (lv' := [(1, .long (((lN 31) * h11) + ((cnI b n i11).toInt64))), (3, .int (nI i11)), (0, .ref (mo 0))]) hx hb dX5_digest_28 rfl hl (by decide) rfl (fun ls hl => ?_)
        refine lv_iinc (v := nI (i11 + 1)) (lv' := [(3, .int (nI (i11 + 1))), (1, .long (((lN 31) * h11) + ((cnI b n i11).toInt64))), (0, .ref (mo 0))]) hx hb dX5_digest_29 hl (k := 1) rfl (nI_1 _) (by decide) rfl (fun ls hl => ?_)
        refine lv_goto (tgt := 11) hx hb dX5_digest_32 (by decide) ?_
        exact ih11 (i11 + 1) (((lN 31) * h11) + ((cnI b n i11).toInt64)) (by omega) (by omega) (by show h31 (hsF (fun w => (cnI b n w).toInt64) (lN 2843) i11) _ = _; rw [hH11]; rfl) _ _ ls hP hD hS (lv_sub hl [0, 1, 2] rfl)
  exact K11 (4 + 1 - 0) 0 (lN 2843) (by omega) (by omega) rfl _ _ ls hP hD hS (lv_sub hl [0, 1, 2] rfl)
