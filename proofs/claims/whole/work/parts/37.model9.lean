/-! the model: its calls, but for texts -/
set_option maxHeartbeats 4000000 in
set_option maxRecDepth 100000 in
theorem c1_X5_gift (l : Launch) (C : q_C) (mo : Nat → Nat) (kp ty tw pl fl tl : Int32) (v o : Nat → Nat) (x y z : Int32) (hxx : (decide (nI 0 ≤ x ∧ x ≤ nI 3) && decide (nI 0 ≤ y ∧ y ≤ nI 3)) = false) : q_M C l yX5_gift wsX5_gift 2 43 [.ref (mo 0), .int x, .int y, .int z] (wO C mo (evm kp ty tw pl fl tl) v o) (fun r w => r = some (.int (nI 0)) ∧ w = wO C mo (evm kp ty (nI 1) pl fl tl) v o) := by
  refine q_head (cc := cX5_gift) (maxL := 4) (ret := (some .int)) (by decide +kernel) rfl (Nat.le_of_ble_eq_true rfl) ?_
  intro p e s m below meth c hx hb hr hlocks hml hown hts hK hP hD hS hA ls hl
  have hl : lv_has ls 4 [(0, .ref (mo 0)), (1, .int x), (2, .int y), (3, .int z)] := hl
  have hf42 := hts (.fieldLink RX5 42 "RestedArmsModel" "thrown" "I") (by decide +kernel)
  have hin5 : ∀ w ∈ u_ws RX5 TX5 13, w ∈ wsX5_gift := by decide +kernel
  refine lv_aload_n hx hb dX5_gift_0 rfl (lv_at hl 0 rfl) ?_
  refine lv_iconst (v := nI 0) hx hb dX5_gift_1 (by decide) ?_
  refine va_put (ci := 5) (v := .int (nI 0)) (ty := .int) (C := RX5) (T := TX5) (N := 13) hx hb hts hin5 tyX5 tyX5_ok nmX5 hown hK.1 hP hD hS 0 rfl rfl 6 (by decide) hf42 (fun _ h9 => h9) rfl (by decide +kernel) rfl rfl (Nat.le_of_ble_eq_true rfl) dX5_gift_2 (fun H locs hP hD hS => ?_)
  have hP : va_P C.1 vwCl (wO C mo (evm kp ty (nI 0) pl fl tl) v o) H := hP
  have hD : va_D (q_A (wO C mo (evm kp ty tw pl fl tl) v o) s) (wO C mo (evm kp ty (nI 0) pl fl tl) v o) := hD
  refine lv_iload_n hx hb dX5_gift_5 rfl (lv_at hl 1 rfl) ?_
  refine q_S (As := [.int x]) (rest := []) ⟨hx, hb, hml, hown, hts⟩ (c_X5_isArm l C x) (va_cwS 1 hts gX5_gift_X5_isArm rfl rfl rfl (by decide +kernel) ⟨Nat.le_of_ble_eq_true rfl, Nat.le_of_ble_eq_true rfl⟩) hK hP hD hS hA [] (by decide) rfl rfl hl.1 rfl (Nat.le_of_ble_eq_true rfl) dX5_gift_6 (Nat.zero_le _) (Nat.zero_le _) (fun r w1 H locs hQ hP hD hS => ?_)
  obtain ⟨rfl, rfl⟩ := hQ
  refine W.eq (g2 := F0 m 9 ls [.int (q_b (decide (nI 0 ≤ x ∧ x ≤ nI 3)))]) rfl ?_
  refine lv_if_eq (tgt := 19) hx hb dX5_gift_9 (by decide) (fun c9 => ?_) (fun c9 => ?_)
  · have c9 : decide (nI 0 ≤ x ∧ x ≤ nI 3) = false := q_b0.mp c9
    refine lv_aload_n hx hb dX5_gift_19 rfl (lv_at hl 0 rfl) ?_
    refine lv_iconst (v := nI 1) hx hb dX5_gift_20 (by decide) ?_
    refine q_V (As := [.int (nI 1)]) (rest := []) ⟨hx, hb, hml, hown, hts⟩ (c_X5_fails l C mo kp ty (nI 0) pl fl tl v o 1) (cwV 1 hts gX5_gift_X5_fails rfl rfl rfl (by decide +kernel) ⟨Nat.le_of_ble_eq_true rfl, Nat.le_of_ble_eq_true rfl⟩) hK hP hD hS hA [0, 1, 2] (by decide) rfl 0 rfl rfl rfl rfl hl.1 rfl (Nat.le_of_ble_eq_true rfl) dX5_gift_21 (Nat.zero_le _) (Nat.zero_le _) (fun r w1 H locs hQ hP hD hS => ?_)
    obtain ⟨rfl, rfl⟩ := hQ
    have hP : va_P C.1 vwCl (wO C mo (evm kp ty (nI 1) pl fl tl) v o) H := hP
    have hD : va_D (q_A (wO C mo (evm kp ty tw pl fl tl) v o) s) (wO C mo (evm kp ty (nI 1) pl fl tl) v o) := hD
    refine W.eq (g2 := F0 m 24 ls [.int (nI 0)]) rfl ?_
    exact q_iret hx hb hr hlocks (w1 := wO C mo (evm kp ty (nI 1) pl fl tl) v o) hP hS rfl dX5_gift_24 (⟨rfl, rfl⟩)
  · have c9 : decide (nI 0 ≤ x ∧ x ≤ nI 3) = true := q_b1.mp c9
    refine lv_iload_n hx hb dX5_gift_12 rfl (lv_at hl 2 rfl) ?_
    refine q_S (As := [.int y]) (rest := []) ⟨hx, hb, hml, hown, hts⟩ (c_X5_isState l C y) (va_cwS 1 hts gX5_gift_X5_isState rfl rfl rfl (by decide +kernel) ⟨Nat.le_of_ble_eq_true rfl, Nat.le_of_ble_eq_true rfl⟩) hK hP hD hS hA [] (by decide) rfl rfl hl.1 rfl (Nat.le_of_ble_eq_true rfl) dX5_gift_13 (Nat.zero_le _) (Nat.zero_le _) (fun r w1 H locs hQ hP hD hS => ?_)
    obtain ⟨rfl, rfl⟩ := hQ
    refine W.eq (g2 := F0 m 16 ls [.int (q_b (decide (nI 0 ≤ y ∧ y ≤ nI 3)))]) rfl ?_
    refine lv_if_ne (tgt := 25) hx hb dX5_gift_16 (by decide) (fun c16 => ?_) (fun c16 => ?_)
    · have c16 : decide (nI 0 ≤ y ∧ y ≤ nI 3) = true := q_b1.mp c16
      exact absurd hxx (by rw [c9, c16]; decide)
    have c16 : decide (nI 0 ≤ y ∧ y ≤ nI 3) = false := q_b0.mp c16
    refine lv_aload_n hx hb dX5_gift_19 rfl (lv_at hl 0 rfl) ?_
    refine lv_iconst (v := nI 1) hx hb dX5_gift_20 (by decide) ?_
    refine q_V (As := [.int (nI 1)]) (rest := []) ⟨hx, hb, hml, hown, hts⟩ (c_X5_fails l C mo kp ty (nI 0) pl fl tl v o 1) (cwV 1 hts gX5_gift_X5_fails rfl rfl rfl (by decide +kernel) ⟨Nat.le_of_ble_eq_true rfl, Nat.le_of_ble_eq_true rfl⟩) hK hP hD hS hA [0, 1, 2] (by decide) rfl 0 rfl rfl rfl rfl hl.1 rfl (Nat.le_of_ble_eq_true rfl) dX5_gift_21 (Nat.zero_le _) (Nat.zero_le _) (fun r w1 H locs hQ hP hD hS => ?_)
    obtain ⟨rfl, rfl⟩ := hQ
    have hP : va_P C.1 vwCl (wO C mo (evm kp ty (nI 1) pl fl tl) v o) H := hP
    have hD : va_D (q_A (wO C mo (evm kp ty tw pl fl tl) v o) s) (wO C mo (evm kp ty (nI 1) pl fl tl) v o) := hD
    refine W.eq (g2 := F0 m 24 ls [.int (nI 0)]) rfl ?_
    exact q_iret hx hb hr hlocks (w1 := wO C mo (evm kp ty (nI 1) pl fl tl) v o) hP hS rfl dX5_gift_24 (⟨rfl, rfl⟩)
set_option maxHeartbeats 4000000 in
set_option maxRecDepth 100000 in
theorem c2_X5_gift (l : Launch) (C : q_C) (mo : Nat → Nat) (kp ty tw pl fl tl : Int32) (v o : Nat → Nat) (a t : Nat) (z : Int32) (ha : a < 4) (ht : t < 4) (hz : decide (nI 0 ≤ z ∧ z ≤ nI 99) = false) : q_M C l yX5_gift wsX5_gift 2 43 [.ref (mo 0), .int (nI a), .int (nI t), .int z] (wO C mo (evm kp ty tw pl fl tl) v o) (fun r w => r = some (.int (nI 0)) ∧ w = wO C mo (evm kp ty (nI 2) pl fl tl) v o) := by
  refine q_head (cc := cX5_gift) (maxL := 4) (ret := (some .int)) (by decide +kernel) rfl (Nat.le_of_ble_eq_true rfl) ?_
  intro p e s m below meth c hx hb hr hlocks hml hown hts hK hP hD hS hA ls hl
  have hl : lv_has ls 4 [(0, .ref (mo 0)), (1, .int (nI a)), (2, .int (nI t)), (3, .int z)] := hl
  have hf42 := hts (.fieldLink RX5 42 "RestedArmsModel" "thrown" "I") (by decide +kernel)
  have hin5 : ∀ w ∈ u_ws RX5 TX5 13, w ∈ wsX5_gift := by decide +kernel
  refine lv_aload_n hx hb dX5_gift_0 rfl (lv_at hl 0 rfl) ?_
  refine lv_iconst (v := nI 0) hx hb dX5_gift_1 (by decide) ?_
  refine va_put (ci := 5) (v := .int (nI 0)) (ty := .int) (C := RX5) (T := TX5) (N := 13) hx hb hts hin5 tyX5 tyX5_ok nmX5 hown hK.1 hP hD hS 0 rfl rfl 6 (by decide) hf42 (fun _ h9 => h9) rfl (by decide +kernel) rfl rfl (Nat.le_of_ble_eq_true rfl) dX5_gift_2 (fun H locs hP hD hS => ?_)
  have hP : va_P C.1 vwCl (wO C mo (evm kp ty (nI 0) pl fl tl) v o) H := hP
  have hD : va_D (q_A (wO C mo (evm kp ty tw pl fl tl) v o) s) (wO C mo (evm kp ty (nI 0) pl fl tl) v o) := hD
  refine lv_iload_n hx hb dX5_gift_5 rfl (lv_at hl 1 rfl) ?_
  refine q_S (As := [.int (nI a)]) (rest := []) ⟨hx, hb, hml, hown, hts⟩ (c_X5_isArm l C (nI a)) (va_cwS 1 hts gX5_gift_X5_isArm rfl rfl rfl (by decide +kernel) ⟨Nat.le_of_ble_eq_true rfl, Nat.le_of_ble_eq_true rfl⟩) hK hP hD hS hA [] (by decide) rfl rfl hl.1 rfl (Nat.le_of_ble_eq_true rfl) dX5_gift_6 (Nat.zero_le _) (Nat.zero_le _) (fun r w1 H locs hQ hP hD hS => ?_)
  obtain ⟨rfl, rfl⟩ := hQ
  refine W.eq (g2 := F0 m 9 ls [.int (q_b (decide (nI 0 ≤ (nI a) ∧ (nI a) ≤ nI 3)))]) rfl ?_
  refine lv_if_eq (tgt := 19) hx hb dX5_gift_9 (by decide) (fun c9 => ?_) (fun c9 => ?_)
  · have c9 : decide (nI 0 ≤ (nI a) ∧ (nI a) ≤ nI 3) = false := q_b0.mp c9
    exact absurd (c9.symm.trans (inT (by omega) (by omega) (by decide))) (by decide)
  have c9 : decide (nI 0 ≤ (nI a) ∧ (nI a) ≤ nI 3) = true := q_b1.mp c9
  refine lv_iload_n hx hb dX5_gift_12 rfl (lv_at hl 2 rfl) ?_
  refine q_S (As := [.int (nI t)]) (rest := []) ⟨hx, hb, hml, hown, hts⟩ (c_X5_isState l C (nI t)) (va_cwS 1 hts gX5_gift_X5_isState rfl rfl rfl (by decide +kernel) ⟨Nat.le_of_ble_eq_true rfl, Nat.le_of_ble_eq_true rfl⟩) hK hP hD hS hA [] (by decide) rfl rfl hl.1 rfl (Nat.le_of_ble_eq_true rfl) dX5_gift_13 (Nat.zero_le _) (Nat.zero_le _) (fun r w1 H locs hQ hP hD hS => ?_)
  obtain ⟨rfl, rfl⟩ := hQ
  refine W.eq (g2 := F0 m 16 ls [.int (q_b (decide (nI 0 ≤ (nI t) ∧ (nI t) ≤ nI 3)))]) rfl ?_
  refine lv_if_ne (tgt := 25) hx hb dX5_gift_16 (by decide) (fun c16 => ?_) (fun c16 => ?_)
  · have c16 : decide (nI 0 ≤ (nI t) ∧ (nI t) ≤ nI 3) = true := q_b1.mp c16
    refine lv_iload_n hx hb dX5_gift_25 rfl (lv_at hl 3 rfl) ?_
    refine lv_i2l (v := z.toInt64) hx hb dX5_gift_26 rfl ?_
    refine lv_iconst (v := nI 0) hx hb dX5_gift_27 (by decide) ?_
    refine lv_bipush (v := nI 99) hx hb dX5_gift_28 (by decide) ?_
    refine q_S (As := [.long z.toInt64, .int (nI 0), .int (nI 99)]) (rest := []) ⟨hx, hb, hml, hown, hts⟩ (c_in32 l C z (nI 0) (nI 99)) (va_cwS 3 hts gX5_gift_X5_in rfl rfl rfl (by decide +kernel) ⟨Nat.le_of_ble_eq_true rfl, Nat.le_of_ble_eq_true rfl⟩) hK hP hD hS hA [] (by decide) rfl rfl hl.1 rfl (Nat.le_of_ble_eq_true rfl) dX5_gift_30 (Nat.zero_le _) (Nat.zero_le _) (fun r w1 H locs hQ hP hD hS => ?_)
    obtain ⟨rfl, rfl⟩ := hQ
    refine W.eq (g2 := F0 m 33 ls [.int (q_b (decide (nI 0 ≤ z ∧ z ≤ nI 99)))]) rfl ?_
    refine lv_if_ne (tgt := 42) hx hb dX5_gift_33 (by decide) (fun c33 => ?_) (fun c33 => ?_)
    · have c33 : decide (nI 0 ≤ z ∧ z ≤ nI 99) = true := q_b1.mp c33
      exact absurd hz (by rw [c33]; decide)
    have c33 : decide (nI 0 ≤ z ∧ z ≤ nI 99) = false := q_b0.mp c33
    refine lv_aload_n hx hb dX5_gift_36 rfl (lv_at hl 0 rfl) ?_
    refine lv_iconst (v := nI 2) hx hb dX5_gift_37 (by decide) ?_
    refine q_V (As := [.int (nI 2)]) (rest := []) ⟨hx, hb, hml, hown, hts⟩ (c_X5_fails l C mo kp ty (nI 0) pl fl tl v o 2) (cwV 1 hts gX5_gift_X5_fails rfl rfl rfl (by decide +kernel) ⟨Nat.le_of_ble_eq_true rfl, Nat.le_of_ble_eq_true rfl⟩) hK hP hD hS hA [0, 1, 2] (by decide) rfl 0 rfl rfl rfl rfl hl.1 rfl (Nat.le_of_ble_eq_true rfl) dX5_gift_38 (Nat.zero_le _) (Nat.zero_le _) (fun r w1 H locs hQ hP hD hS => ?_)
    obtain ⟨rfl, rfl⟩ := hQ
    have hP : va_P C.1 vwCl (wO C mo (evm kp ty (nI 2) pl fl tl) v o) H := hP
    have hD : va_D (q_A (wO C mo (evm kp ty tw pl fl tl) v o) s) (wO C mo (evm kp ty (nI 2) pl fl tl) v o) := hD
    refine W.eq (g2 := F0 m 41 ls [.int (nI 0)]) rfl ?_
    exact q_iret hx hb hr hlocks (w1 := wO C mo (evm kp ty (nI 2) pl fl tl) v o) hP hS rfl dX5_gift_41 (⟨rfl, rfl⟩)
  · have c16 : decide (nI 0 ≤ (nI t) ∧ (nI t) ≤ nI 3) = false := q_b0.mp c16
    exact absurd (c16.symm.trans (inT (by omega) (by omega) (by decide))) (by decide)
set_option maxHeartbeats 4000000 in
set_option maxRecDepth 100000 in
theorem c_X5_gift (l : Launch) (C : q_C) (mo : Nat → Nat) (ty tw pl fl tl : Int32) (v o : Nat → Nat) (ph : Nat → Bd) (r n : Nat) (pa : Nat → Int64) (b : Bd) (a t g : Nat) (hr6 : r < 6) (hn6 : n ≤ 6) (hpa : mH ph r n pa) (ha : a < 4) (ht : t < 4) (hg : g ≤ 99) : q_M C l yX5_gift wsX5_gift 2 43 [.ref (mo 0), .int (nI a), .int (nI t), .int (nI g)] (wO C mo (evm (nI n) ty tw pl fl tl) v o ++ ([(mo 1, .inl (C.2.2.1, 82, .inr (.inl (mB b)))), (mo 3, .inl (C.2.2.1, 492, .inr (.inl pa)))] : va_W)) (fun r2 w => ∃ pa1, r2 = some (.int (nI (bg b (4 * a + t)))) ∧ w = wO C mo (evm (nI (kC n)) ty (nI 0) pl fl tl) v o ++ ([(mo 1, .inl (C.2.2.1, 82, .inr (.inl (mB (sg b (upN (bg b) (4 * a + t) g)))))), (mo 3, .inl (C.2.2.1, 492, .inr (.inl pa1)))] : va_W) ∧ mH (upB ph (kJ n r) b) (kR n r) (kC n) pa1) := by
  refine q_head (cc := cX5_gift) (maxL := 4) (ret := (some .int)) (by decide +kernel) rfl (Nat.le_of_ble_eq_true rfl) ?_
  intro p e s m below meth c hx hb hr hlocks hml hown hts hK hP hD hS hA ls hl
  have hl : lv_has ls 4 [(0, .ref (mo 0)), (1, .int (nI a)), (2, .int (nI t)), (3, .int (nI g))] := hl
  have hf42 := hts (.fieldLink RX5 42 "RestedArmsModel" "thrown" "I") (by decide +kernel)
  have hin5 : ∀ w ∈ u_ws RX5 TX5 13, w ∈ wsX5_gift := by decide +kernel
  refine lv_aload_n hx hb dX5_gift_0 rfl (lv_at hl 0 rfl) ?_
  refine lv_iconst (v := nI 0) hx hb dX5_gift_1 (by decide) ?_
  refine va_put (ci := 5) (v := .int (nI 0)) (ty := .int) (C := RX5) (T := TX5) (N := 13) hx hb hts hin5 tyX5 tyX5_ok nmX5 hown hK.1 hP hD hS 0 rfl rfl 6 (by decide) hf42 (fun _ h9 => h9) rfl (by decide +kernel) rfl rfl (Nat.le_of_ble_eq_true rfl) dX5_gift_2 (fun H locs hP hD hS => ?_)
  have hP : va_P C.1 vwCl (wO C mo (evm (nI n) ty (nI 0) pl fl tl) v o ++ ([(mo 1, .inl (C.2.2.1, 82, .inr (.inl (mB b)))), (mo 3, .inl (C.2.2.1, 492, .inr (.inl pa)))] : va_W)) H := hP
  have hD : va_D (q_A (wO C mo (evm (nI n) ty tw pl fl tl) v o ++ ([(mo 1, .inl (C.2.2.1, 82, .inr (.inl (mB b)))), (mo 3, .inl (C.2.2.1, 492, .inr (.inl pa)))] : va_W)) s) (wO C mo (evm (nI n) ty (nI 0) pl fl tl) v o ++ ([(mo 1, .inl (C.2.2.1, 82, .inr (.inl (mB b)))), (mo 3, .inl (C.2.2.1, 492, .inr (.inl pa)))] : va_W)) := hD
  refine lv_iload_n hx hb dX5_gift_5 rfl (lv_at hl 1 rfl) ?_
  refine q_S (As := [.int (nI a)]) (rest := []) ⟨hx, hb, hml, hown, hts⟩ (c_X5_isArm l C (nI a)) (va_cwS 1 hts gX5_gift_X5_isArm rfl rfl rfl (by decide +kernel) ⟨Nat.le_of_ble_eq_true rfl, Nat.le_of_ble_eq_true rfl⟩) hK hP hD hS hA [] (by decide) rfl rfl hl.1 rfl (Nat.le_of_ble_eq_true rfl) dX5_gift_6 (Nat.zero_le _) (Nat.zero_le _) (fun r w1 H locs hQ hP hD hS => ?_)
  obtain ⟨rfl, rfl⟩ := hQ
  refine W.eq (g2 := F0 m 9 ls [.int (q_b (decide (nI 0 ≤ (nI a) ∧ (nI a) ≤ nI 3)))]) rfl ?_
  refine lv_if_eq (tgt := 19) hx hb dX5_gift_9 (by decide) (fun c9 => ?_) (fun c9 => ?_)
  · have c9 : decide (nI 0 ≤ (nI a) ∧ (nI a) ≤ nI 3) = false := q_b0.mp c9
    exact absurd (c9.symm.trans (inT (by omega) (by omega) (by decide))) (by decide)
  have c9 : decide (nI 0 ≤ (nI a) ∧ (nI a) ≤ nI 3) = true := q_b1.mp c9
  refine lv_iload_n hx hb dX5_gift_12 rfl (lv_at hl 2 rfl) ?_
  refine q_S (As := [.int (nI t)]) (rest := []) ⟨hx, hb, hml, hown, hts⟩ (c_X5_isState l C (nI t)) (va_cwS 1 hts gX5_gift_X5_isState rfl rfl rfl (by decide +kernel) ⟨Nat.le_of_ble_eq_true rfl, Nat.le_of_ble_eq_true rfl⟩) hK hP hD hS hA [] (by decide) rfl rfl hl.1 rfl (Nat.le_of_ble_eq_true rfl) dX5_gift_13 (Nat.zero_le _) (Nat.zero_le _) (fun r w1 H locs hQ hP hD hS => ?_)
  obtain ⟨rfl, rfl⟩ := hQ
  refine W.eq (g2 := F0 m 16 ls [.int (q_b (decide (nI 0 ≤ (nI t) ∧ (nI t) ≤ nI 3)))]) rfl ?_
  refine lv_if_ne (tgt := 25) hx hb dX5_gift_16 (by decide) (fun c16 => ?_) (fun c16 => ?_)
  · have c16 : decide (nI 0 ≤ (nI t) ∧ (nI t) ≤ nI 3) = true := q_b1.mp c16
    refine lv_iload_n hx hb dX5_gift_25 rfl (lv_at hl 3 rfl) ?_
    refine lv_i2l (v := lN g) hx hb dX5_gift_26 (nI_l (by omega)) ?_
    refine lv_iconst (v := nI 0) hx hb dX5_gift_27 (by decide) ?_
    refine lv_bipush (v := nI 99) hx hb dX5_gift_28 (by decide) ?_
    refine q_S (As := [.long (lN g), .int (nI 0), .int (nI 99)]) (rest := []) ⟨hx, hb, hml, hown, hts⟩ (c_inN l C g 0 99 (by omega) (by omega) (by omega)) (va_cwS 3 hts gX5_gift_X5_in rfl rfl rfl (by decide +kernel) ⟨Nat.le_of_ble_eq_true rfl, Nat.le_of_ble_eq_true rfl⟩) hK hP hD hS hA [] (by decide) rfl rfl hl.1 rfl (Nat.le_of_ble_eq_true rfl) dX5_gift_30 (Nat.zero_le _) (Nat.zero_le _) (fun r w1 H locs hQ hP hD hS => ?_)
    obtain ⟨rfl, rfl⟩ := hQ
    refine W.eq (g2 := F0 m 33 ls [.int (q_b (decide (0 ≤ g ∧ g ≤ 99)))]) rfl ?_
    refine lv_if_ne (tgt := 42) hx hb dX5_gift_33 (by decide) (fun c33 => ?_) (fun c33 => ?_)
    · have c33 : decide (0 ≤ g ∧ g ≤ 99) = true := q_b1.mp c33
      refine lv_aload_n hx hb dX5_gift_42 rfl (lv_at hl 0 rfl) ?_
      refine q_V (As := []) (rest := []) ⟨hx, hb, hml, hown, hts⟩ (c_X5_saves l C mo ty (nI 0) pl fl tl v o ph r n pa b hr6 hn6 hpa) (cwV 0 hts gX5_gift_X5_saves rfl rfl rfl (by decide +kernel) ⟨Nat.le_of_ble_eq_true rfl, Nat.le_of_ble_eq_true rfl⟩) hK hP hD hS hA [0, 1, 2, 3, 4] (by decide) rfl 0 rfl rfl rfl rfl hl.1 rfl (Nat.le_of_ble_eq_true rfl) dX5_gift_43 (Nat.zero_le _) (Nat.zero_le _) (fun r w1 H locs hQ hP hD hS => ?_)
      obtain ⟨pa1, rfl, rfl, hpa1⟩ := hQ
      have hP : va_P C.1 vwCl (wO C mo (evm (nI (kC n)) ty (nI 0) pl fl tl) v o ++ ([(mo 1, .inl (C.2.2.1, 82, .inr (.inl (mB b)))), (mo 3, .inl (C.2.2.1, 492, .inr (.inl pa1)))] : va_W)) H := hP
      have hD : va_D (q_A (wO C mo (evm (nI n) ty tw pl fl tl) v o ++ ([(mo 1, .inl (C.2.2.1, 82, .inr (.inl (mB b)))), (mo 3, .inl (C.2.2.1, 492, .inr (.inl pa)))] : va_W)) s) (wO C mo (evm (nI (kC n)) ty (nI 0) pl fl tl) v o ++ ([(mo 1, .inl (C.2.2.1, 82, .inr (.inl (mB b)))), (mo 3, .inl (C.2.2.1, 492, .inr (.inl pa1)))] : va_W)) := hD
      refine W.eq (g2 := F0 m 46 ls []) rfl ?_
      refine lv_aload_n hx hb dX5_gift_46 rfl (lv_at hl 0 rfl) ?_
      refine lv_bipush (v := nI 18) hx hb dX5_gift_47 (by decide) ?_
      refine lv_iconst (v := nI 4) hx hb dX5_gift_49 (by decide) ?_
      refine lv_iconst (v := nI 4) hx hb dX5_gift_50 (by decide) ?_
      refine lv_iload_n hx hb dX5_gift_51 rfl (lv_at hl 1 rfl) ?_
      refine lv_imul hx hb dX5_gift_52 ?_
      refine q_ti (y := nI (4 * a)) (pk_mul _ _) ?_
      refine lv_iload_n hx hb dX5_gift_53 rfl (lv_at hl 2 rfl) ?_
      refine lv_iadd hx hb dX5_gift_54 ?_
      refine q_ti (y := nI ((4 * a) + t)) (nI_add _ _) ?_
      refine lv_imul hx hb dX5_gift_55 ?_
      refine q_ti (y := nI (4 * ((4 * a) + t))) (pk_mul _ _) ?_
      refine lv_iadd hx hb dX5_gift_56 ?_
      refine q_ti (y := nI (18 + (4 * ((4 * a) + t)))) (nI_add _ _) ?_
      refine lv_iload_n hx hb dX5_gift_57 rfl (lv_at hl 3 rfl) ?_
      refine q_V (As := [.int (nI (18 + (4 * ((4 * a) + t)))), .int (nI g)]) (rest := []) ⟨hx, hb, hml, hown, hts⟩ (c_X5_changes l C mo (nI (kC n)) ty (nI 0) pl fl tl v o (mB b) (18 + (4 * ((4 * a) + t))) g (by omega) (by omega)) (cwV 2 hts gX5_gift_X5_changes rfl rfl rfl (by decide +kernel) ⟨Nat.le_of_ble_eq_true rfl, Nat.le_of_ble_eq_true rfl⟩) hK hP hD hS hA [0, 1, 2, 3] (by decide) rfl 0 rfl rfl rfl rfl hl.1 rfl (Nat.le_of_ble_eq_true rfl) dX5_gift_58 (Nat.zero_le _) (Nat.zero_le _) (fun r w1 H locs hQ hP hD hS => ?_)
      obtain ⟨rfl, rfl⟩ := hQ
      have hP : va_P C.1 vwCl (wO C mo (evm (nI (kC n)) ty (nI 0) pl fl tl) v o ++ ([(mo 1, .inl (C.2.2.1, 82, .inr (.inl (vp_updL (mB b) (18 + (4 * ((4 * a) + t))) (lN g))))), (mo 3, .inl (C.2.2.1, 492, .inr (.inl pa1)))] : va_W)) H := hP
      have hD : va_D (q_A (wO C mo (evm (nI n) ty tw pl fl tl) v o ++ ([(mo 1, .inl (C.2.2.1, 82, .inr (.inl (mB b)))), (mo 3, .inl (C.2.2.1, 492, .inr (.inl pa)))] : va_W)) s) (wO C mo (evm (nI (kC n)) ty (nI 0) pl fl tl) v o ++ ([(mo 1, .inl (C.2.2.1, 82, .inr (.inl (vp_updL (mB b) (18 + (4 * ((4 * a) + t))) (lN g))))), (mo 3, .inl (C.2.2.1, 492, .inr (.inl pa1)))] : va_W)) := hD
      refine W.eq (g2 := F0 m 61 ls [.int ((mB b (18 + (4 * ((4 * a) + t)))).toInt32)]) rfl ?_
      rw [mB_wg0 _ (by omega)] at hP hD
      have hP : va_P C.1 vwCl (wO C mo (evm (nI (kC n)) ty (nI 0) pl fl tl) v o ++ ([(mo 1, .inl (C.2.2.1, 82, .inr (.inl (mB (sg b (upN (bg b) (4 * a + t) g)))))), (mo 3, .inl (C.2.2.1, 492, .inr (.inl pa1)))] : va_W)) H := hP
      have hD : va_D (q_A (wO C mo (evm (nI n) ty tw pl fl tl) v o ++ ([(mo 1, .inl (C.2.2.1, 82, .inr (.inl (mB b)))), (mo 3, .inl (C.2.2.1, 492, .inr (.inl pa)))] : va_W)) s) (wO C mo (evm (nI (kC n)) ty (nI 0) pl fl tl) v o ++ ([(mo 1, .inl (C.2.2.1, 82, .inr (.inl (mB (sg b (upN (bg b) (4 * a + t) g)))))), (mo 3, .inl (C.2.2.1, 492, .inr (.inl pa1)))] : va_W)) := hD
      refine q_ti (y := nI (bg b (4 * a + t))) (by rw [mB_g]; exact lN_i _) ?_
      exact q_iret hx hb hr hlocks (w1 := wO C mo (evm (nI (kC n)) ty (nI 0) pl fl tl) v o ++ ([(mo 1, .inl (C.2.2.1, 82, .inr (.inl (mB (sg b (upN (bg b) (4 * a + t) g)))))), (mo 3, .inl (C.2.2.1, 492, .inr (.inl pa1)))] : va_W)) hP hS rfl dX5_gift_61 (⟨_, rfl, rfl, hpa1⟩)
    · have c33 : decide (0 ≤ g ∧ g ≤ 99) = false := q_b0.mp c33
      exact absurd (show _ ∧ _ from ⟨by omega, by omega⟩) (of_decide_eq_false c33)
  · have c16 : decide (nI 0 ≤ (nI t) ∧ (nI t) ≤ nI 3) = false := q_b0.mp c16
    exact absurd (c16.symm.trans (inT (by omega) (by omega) (by decide))) (by decide)
set_option maxHeartbeats 4000000 in
set_option maxRecDepth 100000 in
theorem c1_X5_way (l : Launch) (C : q_C) (mo : Nat → Nat) (kp ty tw pl fl tl : Int32) (v o : Nat → Nat) (x y z z1 z2 : Int32) (hxx : (decide (nI 0 ≤ x ∧ x ≤ nI 3) && decide (nI 0 ≤ y ∧ y ≤ nI 3) && decide (nI 0 ≤ z ∧ z ≤ nI 3) && decide (nI 0 ≤ z1 ∧ z1 ≤ nI 3)) = false) : q_M C l yX5_way wsX5_way 2 43 [.ref (mo 0), .int x, .int y, .int z, .int z1, .int z2] (wO C mo (evm kp ty tw pl fl tl) v o) (fun r w => r = some (.int (nI 0)) ∧ w = wO C mo (evm kp ty (nI 1) pl fl tl) v o) := by
  refine q_head (cc := cX5_way) (maxL := 6) (ret := (some .int)) (by decide +kernel) rfl (Nat.le_of_ble_eq_true rfl) ?_
  intro p e s m below meth c hx hb hr hlocks hml hown hts hK hP hD hS hA ls hl
  have hl : lv_has ls 6 [(0, .ref (mo 0)), (1, .int x), (2, .int y), (3, .int z), (4, .int z1), (5, .int z2)] := hl
  have hf42 := hts (.fieldLink RX5 42 "RestedArmsModel" "thrown" "I") (by decide +kernel)
  have hin5 : ∀ w ∈ u_ws RX5 TX5 13, w ∈ wsX5_way := by decide +kernel
  refine lv_aload_n hx hb dX5_way_0 rfl (lv_at hl 0 rfl) ?_
  refine lv_iconst (v := nI 0) hx hb dX5_way_1 (by decide) ?_
  refine va_put (ci := 5) (v := .int (nI 0)) (ty := .int) (C := RX5) (T := TX5) (N := 13) hx hb hts hin5 tyX5 tyX5_ok nmX5 hown hK.1 hP hD hS 0 rfl rfl 6 (by decide) hf42 (fun _ h9 => h9) rfl (by decide +kernel) rfl rfl (Nat.le_of_ble_eq_true rfl) dX5_way_2 (fun H locs hP hD hS => ?_)
  have hP : va_P C.1 vwCl (wO C mo (evm kp ty (nI 0) pl fl tl) v o) H := hP
  have hD : va_D (q_A (wO C mo (evm kp ty tw pl fl tl) v o) s) (wO C mo (evm kp ty (nI 0) pl fl tl) v o) := hD
  refine lv_iload_n hx hb dX5_way_5 rfl (lv_at hl 1 rfl) ?_
  refine q_S (As := [.int x]) (rest := []) ⟨hx, hb, hml, hown, hts⟩ (c_X5_isArm l C x) (va_cwS 1 hts gX5_way_X5_isArm rfl rfl rfl (by decide +kernel) ⟨Nat.le_of_ble_eq_true rfl, Nat.le_of_ble_eq_true rfl⟩) hK hP hD hS hA [] (by decide) rfl rfl hl.1 rfl (Nat.le_of_ble_eq_true rfl) dX5_way_6 (Nat.zero_le _) (Nat.zero_le _) (fun r w1 H locs hQ hP hD hS => ?_)
  obtain ⟨rfl, rfl⟩ := hQ
  refine W.eq (g2 := F0 m 9 ls [.int (q_b (decide (nI 0 ≤ x ∧ x ≤ nI 3)))]) rfl ?_
  refine lv_if_eq (tgt := 34) hx hb dX5_way_9 (by decide) (fun c9 => ?_) (fun c9 => ?_)
  · have c9 : decide (nI 0 ≤ x ∧ x ≤ nI 3) = false := q_b0.mp c9
    refine lv_aload_n hx hb dX5_way_34 rfl (lv_at hl 0 rfl) ?_
    refine lv_iconst (v := nI 1) hx hb dX5_way_35 (by decide) ?_
    refine q_V (As := [.int (nI 1)]) (rest := []) ⟨hx, hb, hml, hown, hts⟩ (c_X5_fails l C mo kp ty (nI 0) pl fl tl v o 1) (cwV 1 hts gX5_way_X5_fails rfl rfl rfl (by decide +kernel) ⟨Nat.le_of_ble_eq_true rfl, Nat.le_of_ble_eq_true rfl⟩) hK hP hD hS hA [0, 1, 2] (by decide) rfl 0 rfl rfl rfl rfl hl.1 rfl (Nat.le_of_ble_eq_true rfl) dX5_way_36 (Nat.zero_le _) (Nat.zero_le _) (fun r w1 H locs hQ hP hD hS => ?_)
    obtain ⟨rfl, rfl⟩ := hQ
    have hP : va_P C.1 vwCl (wO C mo (evm kp ty (nI 1) pl fl tl) v o) H := hP
    have hD : va_D (q_A (wO C mo (evm kp ty tw pl fl tl) v o) s) (wO C mo (evm kp ty (nI 1) pl fl tl) v o) := hD
    refine W.eq (g2 := F0 m 39 ls [.int (nI 0)]) rfl ?_
    exact q_iret hx hb hr hlocks (w1 := wO C mo (evm kp ty (nI 1) pl fl tl) v o) hP hS rfl dX5_way_39 (⟨rfl, rfl⟩)
  · have c9 : decide (nI 0 ≤ x ∧ x ≤ nI 3) = true := q_b1.mp c9
    refine lv_iload_n hx hb dX5_way_12 rfl (lv_at hl 2 rfl) ?_
    refine q_S (As := [.int y]) (rest := []) ⟨hx, hb, hml, hown, hts⟩ (c_X5_isState l C y) (va_cwS 1 hts gX5_way_X5_isState rfl rfl rfl (by decide +kernel) ⟨Nat.le_of_ble_eq_true rfl, Nat.le_of_ble_eq_true rfl⟩) hK hP hD hS hA [] (by decide) rfl rfl hl.1 rfl (Nat.le_of_ble_eq_true rfl) dX5_way_13 (Nat.zero_le _) (Nat.zero_le _) (fun r w1 H locs hQ hP hD hS => ?_)
    obtain ⟨rfl, rfl⟩ := hQ
    refine W.eq (g2 := F0 m 16 ls [.int (q_b (decide (nI 0 ≤ y ∧ y ≤ nI 3)))]) rfl ?_
    refine lv_if_eq (tgt := 34) hx hb dX5_way_16 (by decide) (fun c16 => ?_) (fun c16 => ?_)
    · have c16 : decide (nI 0 ≤ y ∧ y ≤ nI 3) = false := q_b0.mp c16
      refine lv_aload_n hx hb dX5_way_34 rfl (lv_at hl 0 rfl) ?_
      refine lv_iconst (v := nI 1) hx hb dX5_way_35 (by decide) ?_
      refine q_V (As := [.int (nI 1)]) (rest := []) ⟨hx, hb, hml, hown, hts⟩ (c_X5_fails l C mo kp ty (nI 0) pl fl tl v o 1) (cwV 1 hts gX5_way_X5_fails rfl rfl rfl (by decide +kernel) ⟨Nat.le_of_ble_eq_true rfl, Nat.le_of_ble_eq_true rfl⟩) hK hP hD hS hA [0, 1, 2] (by decide) rfl 0 rfl rfl rfl rfl hl.1 rfl (Nat.le_of_ble_eq_true rfl) dX5_way_36 (Nat.zero_le _) (Nat.zero_le _) (fun r w1 H locs hQ hP hD hS => ?_)
      obtain ⟨rfl, rfl⟩ := hQ
      have hP : va_P C.1 vwCl (wO C mo (evm kp ty (nI 1) pl fl tl) v o) H := hP
      have hD : va_D (q_A (wO C mo (evm kp ty tw pl fl tl) v o) s) (wO C mo (evm kp ty (nI 1) pl fl tl) v o) := hD
      refine W.eq (g2 := F0 m 39 ls [.int (nI 0)]) rfl ?_
      exact q_iret hx hb hr hlocks (w1 := wO C mo (evm kp ty (nI 1) pl fl tl) v o) hP hS rfl dX5_way_39 (⟨rfl, rfl⟩)
    · have c16 : decide (nI 0 ≤ y ∧ y ≤ nI 3) = true := q_b1.mp c16
      refine lv_iload_n hx hb dX5_way_19 rfl (lv_at hl 3 rfl) ?_
      refine q_S (As := [.int z]) (rest := []) ⟨hx, hb, hml, hown, hts⟩ (c_X5_isState l C z) (va_cwS 1 hts gX5_way_X5_isState rfl rfl rfl (by decide +kernel) ⟨Nat.le_of_ble_eq_true rfl, Nat.le_of_ble_eq_true rfl⟩) hK hP hD hS hA [] (by decide) rfl rfl hl.1 rfl (Nat.le_of_ble_eq_true rfl) dX5_way_20 (Nat.zero_le _) (Nat.zero_le _) (fun r w1 H locs hQ hP hD hS => ?_)
      obtain ⟨rfl, rfl⟩ := hQ
      refine W.eq (g2 := F0 m 23 ls [.int (q_b (decide (nI 0 ≤ z ∧ z ≤ nI 3)))]) rfl ?_
      refine lv_if_eq (tgt := 34) hx hb dX5_way_23 (by decide) (fun c23 => ?_) (fun c23 => ?_)
      · have c23 : decide (nI 0 ≤ z ∧ z ≤ nI 3) = false := q_b0.mp c23
        refine lv_aload_n hx hb dX5_way_34 rfl (lv_at hl 0 rfl) ?_
        refine lv_iconst (v := nI 1) hx hb dX5_way_35 (by decide) ?_
        refine q_V (As := [.int (nI 1)]) (rest := []) ⟨hx, hb, hml, hown, hts⟩ (c_X5_fails l C mo kp ty (nI 0) pl fl tl v o 1) (cwV 1 hts gX5_way_X5_fails rfl rfl rfl (by decide +kernel) ⟨Nat.le_of_ble_eq_true rfl, Nat.le_of_ble_eq_true rfl⟩) hK hP hD hS hA [0, 1, 2] (by decide) rfl 0 rfl rfl rfl rfl hl.1 rfl (Nat.le_of_ble_eq_true rfl) dX5_way_36 (Nat.zero_le _) (Nat.zero_le _) (fun r w1 H locs hQ hP hD hS => ?_)
        obtain ⟨rfl, rfl⟩ := hQ
        have hP : va_P C.1 vwCl (wO C mo (evm kp ty (nI 1) pl fl tl) v o) H := hP
        have hD : va_D (q_A (wO C mo (evm kp ty tw pl fl tl) v o) s) (wO C mo (evm kp ty (nI 1) pl fl tl) v o) := hD
        refine W.eq (g2 := F0 m 39 ls [.int (nI 0)]) rfl ?_
        exact q_iret hx hb hr hlocks (w1 := wO C mo (evm kp ty (nI 1) pl fl tl) v o) hP hS rfl dX5_way_39 (⟨rfl, rfl⟩)
      · have c23 : decide (nI 0 ≤ z ∧ z ≤ nI 3) = true := q_b1.mp c23
        refine lv_iload hx hb dX5_way_26 (lv_at hl 4 rfl) ?_
        refine q_S (As := [.int z1]) (rest := []) ⟨hx, hb, hml, hown, hts⟩ (c_X5_isState l C z1) (va_cwS 1 hts gX5_way_X5_isState rfl rfl rfl (by decide +kernel) ⟨Nat.le_of_ble_eq_true rfl, Nat.le_of_ble_eq_true rfl⟩) hK hP hD hS hA [] (by decide) rfl rfl hl.1 rfl (Nat.le_of_ble_eq_true rfl) dX5_way_28 (Nat.zero_le _) (Nat.zero_le _) (fun r w1 H locs hQ hP hD hS => ?_)
        obtain ⟨rfl, rfl⟩ := hQ
        refine W.eq (g2 := F0 m 31 ls [.int (q_b (decide (nI 0 ≤ z1 ∧ z1 ≤ nI 3)))]) rfl ?_
        refine lv_if_ne (tgt := 40) hx hb dX5_way_31 (by decide) (fun c31 => ?_) (fun c31 => ?_)
        · have c31 : decide (nI 0 ≤ z1 ∧ z1 ≤ nI 3) = true := q_b1.mp c31
          exact absurd hxx (by rw [c9, c16, c23, c31]; decide)
        have c31 : decide (nI 0 ≤ z1 ∧ z1 ≤ nI 3) = false := q_b0.mp c31
        refine lv_aload_n hx hb dX5_way_34 rfl (lv_at hl 0 rfl) ?_
        refine lv_iconst (v := nI 1) hx hb dX5_way_35 (by decide) ?_
        refine q_V (As := [.int (nI 1)]) (rest := []) ⟨hx, hb, hml, hown, hts⟩ (c_X5_fails l C mo kp ty (nI 0) pl fl tl v o 1) (cwV 1 hts gX5_way_X5_fails rfl rfl rfl (by decide +kernel) ⟨Nat.le_of_ble_eq_true rfl, Nat.le_of_ble_eq_true rfl⟩) hK hP hD hS hA [0, 1, 2] (by decide) rfl 0 rfl rfl rfl rfl hl.1 rfl (Nat.le_of_ble_eq_true rfl) dX5_way_36 (Nat.zero_le _) (Nat.zero_le _) (fun r w1 H locs hQ hP hD hS => ?_)
        obtain ⟨rfl, rfl⟩ := hQ
        have hP : va_P C.1 vwCl (wO C mo (evm kp ty (nI 1) pl fl tl) v o) H := hP
        have hD : va_D (q_A (wO C mo (evm kp ty tw pl fl tl) v o) s) (wO C mo (evm kp ty (nI 1) pl fl tl) v o) := hD
        refine W.eq (g2 := F0 m 39 ls [.int (nI 0)]) rfl ?_
        exact q_iret hx hb hr hlocks (w1 := wO C mo (evm kp ty (nI 1) pl fl tl) v o) hP hS rfl dX5_way_39 (⟨rfl, rfl⟩)
set_option maxHeartbeats 4000000 in
set_option maxRecDepth 100000 in
theorem c2_X5_way (l : Launch) (C : q_C) (mo : Nat → Nat) (kp ty tw pl fl tl : Int32) (v o : Nat → Nat) (a t x1 x2 : Nat) (z : Int32) (ha : a < 4) (ht : t < 4) (h1 : x1 < 4) (h2 : x2 < 4) (hz : decide (nI 0 ≤ z ∧ z ≤ nI 8) = false) : q_M C l yX5_way wsX5_way 2 43 [.ref (mo 0), .int (nI a), .int (nI t), .int (nI x1), .int (nI x2), .int z] (wO C mo (evm kp ty tw pl fl tl) v o) (fun r w => r = some (.int (nI 0)) ∧ w = wO C mo (evm kp ty (nI 2) pl fl tl) v o) := by
  refine q_head (cc := cX5_way) (maxL := 6) (ret := (some .int)) (by decide +kernel) rfl (Nat.le_of_ble_eq_true rfl) ?_
  intro p e s m below meth c hx hb hr hlocks hml hown hts hK hP hD hS hA ls hl
  have hl : lv_has ls 6 [(0, .ref (mo 0)), (1, .int (nI a)), (2, .int (nI t)), (3, .int (nI x1)), (4, .int (nI x2)), (5, .int z)] := hl
  have hf42 := hts (.fieldLink RX5 42 "RestedArmsModel" "thrown" "I") (by decide +kernel)
  have hin5 : ∀ w ∈ u_ws RX5 TX5 13, w ∈ wsX5_way := by decide +kernel
  refine lv_aload_n hx hb dX5_way_0 rfl (lv_at hl 0 rfl) ?_
  refine lv_iconst (v := nI 0) hx hb dX5_way_1 (by decide) ?_
  refine va_put (ci := 5) (v := .int (nI 0)) (ty := .int) (C := RX5) (T := TX5) (N := 13) hx hb hts hin5 tyX5 tyX5_ok nmX5 hown hK.1 hP hD hS 0 rfl rfl 6 (by decide) hf42 (fun _ h9 => h9) rfl (by decide +kernel) rfl rfl (Nat.le_of_ble_eq_true rfl) dX5_way_2 (fun H locs hP hD hS => ?_)
  have hP : va_P C.1 vwCl (wO C mo (evm kp ty (nI 0) pl fl tl) v o) H := hP
  have hD : va_D (q_A (wO C mo (evm kp ty tw pl fl tl) v o) s) (wO C mo (evm kp ty (nI 0) pl fl tl) v o) := hD
  refine lv_iload_n hx hb dX5_way_5 rfl (lv_at hl 1 rfl) ?_
  refine q_S (As := [.int (nI a)]) (rest := []) ⟨hx, hb, hml, hown, hts⟩ (c_X5_isArm l C (nI a)) (va_cwS 1 hts gX5_way_X5_isArm rfl rfl rfl (by decide +kernel) ⟨Nat.le_of_ble_eq_true rfl, Nat.le_of_ble_eq_true rfl⟩) hK hP hD hS hA [] (by decide) rfl rfl hl.1 rfl (Nat.le_of_ble_eq_true rfl) dX5_way_6 (Nat.zero_le _) (Nat.zero_le _) (fun r w1 H locs hQ hP hD hS => ?_)
  obtain ⟨rfl, rfl⟩ := hQ
  refine W.eq (g2 := F0 m 9 ls [.int (q_b (decide (nI 0 ≤ (nI a) ∧ (nI a) ≤ nI 3)))]) rfl ?_
  refine lv_if_eq (tgt := 34) hx hb dX5_way_9 (by decide) (fun c9 => ?_) (fun c9 => ?_)
  · have c9 : decide (nI 0 ≤ (nI a) ∧ (nI a) ≤ nI 3) = false := q_b0.mp c9
    exact absurd (c9.symm.trans (inT (by omega) (by omega) (by decide))) (by decide)
  have c9 : decide (nI 0 ≤ (nI a) ∧ (nI a) ≤ nI 3) = true := q_b1.mp c9
  refine lv_iload_n hx hb dX5_way_12 rfl (lv_at hl 2 rfl) ?_
  refine q_S (As := [.int (nI t)]) (rest := []) ⟨hx, hb, hml, hown, hts⟩ (c_X5_isState l C (nI t)) (va_cwS 1 hts gX5_way_X5_isState rfl rfl rfl (by decide +kernel) ⟨Nat.le_of_ble_eq_true rfl, Nat.le_of_ble_eq_true rfl⟩) hK hP hD hS hA [] (by decide) rfl rfl hl.1 rfl (Nat.le_of_ble_eq_true rfl) dX5_way_13 (Nat.zero_le _) (Nat.zero_le _) (fun r w1 H locs hQ hP hD hS => ?_)
  obtain ⟨rfl, rfl⟩ := hQ
  refine W.eq (g2 := F0 m 16 ls [.int (q_b (decide (nI 0 ≤ (nI t) ∧ (nI t) ≤ nI 3)))]) rfl ?_
  refine lv_if_eq (tgt := 34) hx hb dX5_way_16 (by decide) (fun c16 => ?_) (fun c16 => ?_)
  · have c16 : decide (nI 0 ≤ (nI t) ∧ (nI t) ≤ nI 3) = false := q_b0.mp c16
    exact absurd (c16.symm.trans (inT (by omega) (by omega) (by decide))) (by decide)
  have c16 : decide (nI 0 ≤ (nI t) ∧ (nI t) ≤ nI 3) = true := q_b1.mp c16
  refine lv_iload_n hx hb dX5_way_19 rfl (lv_at hl 3 rfl) ?_
  refine q_S (As := [.int (nI x1)]) (rest := []) ⟨hx, hb, hml, hown, hts⟩ (c_X5_isState l C (nI x1)) (va_cwS 1 hts gX5_way_X5_isState rfl rfl rfl (by decide +kernel) ⟨Nat.le_of_ble_eq_true rfl, Nat.le_of_ble_eq_true rfl⟩) hK hP hD hS hA [] (by decide) rfl rfl hl.1 rfl (Nat.le_of_ble_eq_true rfl) dX5_way_20 (Nat.zero_le _) (Nat.zero_le _) (fun r w1 H locs hQ hP hD hS => ?_)
  obtain ⟨rfl, rfl⟩ := hQ
  refine W.eq (g2 := F0 m 23 ls [.int (q_b (decide (nI 0 ≤ (nI x1) ∧ (nI x1) ≤ nI 3)))]) rfl ?_
  refine lv_if_eq (tgt := 34) hx hb dX5_way_23 (by decide) (fun c23 => ?_) (fun c23 => ?_)
  · have c23 : decide (nI 0 ≤ (nI x1) ∧ (nI x1) ≤ nI 3) = false := q_b0.mp c23
    exact absurd (c23.symm.trans (inT (by omega) (by omega) (by decide))) (by decide)
  have c23 : decide (nI 0 ≤ (nI x1) ∧ (nI x1) ≤ nI 3) = true := q_b1.mp c23
  refine lv_iload hx hb dX5_way_26 (lv_at hl 4 rfl) ?_
  refine q_S (As := [.int (nI x2)]) (rest := []) ⟨hx, hb, hml, hown, hts⟩ (c_X5_isState l C (nI x2)) (va_cwS 1 hts gX5_way_X5_isState rfl rfl rfl (by decide +kernel) ⟨Nat.le_of_ble_eq_true rfl, Nat.le_of_ble_eq_true rfl⟩) hK hP hD hS hA [] (by decide) rfl rfl hl.1 rfl (Nat.le_of_ble_eq_true rfl) dX5_way_28 (Nat.zero_le _) (Nat.zero_le _) (fun r w1 H locs hQ hP hD hS => ?_)
  obtain ⟨rfl, rfl⟩ := hQ
  refine W.eq (g2 := F0 m 31 ls [.int (q_b (decide (nI 0 ≤ (nI x2) ∧ (nI x2) ≤ nI 3)))]) rfl ?_
  refine lv_if_ne (tgt := 40) hx hb dX5_way_31 (by decide) (fun c31 => ?_) (fun c31 => ?_)
  · have c31 : decide (nI 0 ≤ (nI x2) ∧ (nI x2) ≤ nI 3) = true := q_b1.mp c31
    refine lv_iload hx hb dX5_way_40 (lv_at hl 5 rfl) ?_
    refine lv_i2l (v := z.toInt64) hx hb dX5_way_42 rfl ?_
    refine lv_iconst (v := nI 0) hx hb dX5_way_43 (by decide) ?_
    refine lv_bipush (v := nI 8) hx hb dX5_way_44 (by decide) ?_
    refine q_S (As := [.long z.toInt64, .int (nI 0), .int (nI 8)]) (rest := []) ⟨hx, hb, hml, hown, hts⟩ (c_in32 l C z (nI 0) (nI 8)) (va_cwS 3 hts gX5_way_X5_in rfl rfl rfl (by decide +kernel) ⟨Nat.le_of_ble_eq_true rfl, Nat.le_of_ble_eq_true rfl⟩) hK hP hD hS hA [] (by decide) rfl rfl hl.1 rfl (Nat.le_of_ble_eq_true rfl) dX5_way_46 (Nat.zero_le _) (Nat.zero_le _) (fun r w1 H locs hQ hP hD hS => ?_)
    obtain ⟨rfl, rfl⟩ := hQ
    refine W.eq (g2 := F0 m 49 ls [.int (q_b (decide (nI 0 ≤ z ∧ z ≤ nI 8)))]) rfl ?_
    refine lv_if_ne (tgt := 58) hx hb dX5_way_49 (by decide) (fun c49 => ?_) (fun c49 => ?_)
    · have c49 : decide (nI 0 ≤ z ∧ z ≤ nI 8) = true := q_b1.mp c49
      exact absurd hz (by rw [c49]; decide)
    have c49 : decide (nI 0 ≤ z ∧ z ≤ nI 8) = false := q_b0.mp c49
    refine lv_aload_n hx hb dX5_way_52 rfl (lv_at hl 0 rfl) ?_
    refine lv_iconst (v := nI 2) hx hb dX5_way_53 (by decide) ?_
    refine q_V (As := [.int (nI 2)]) (rest := []) ⟨hx, hb, hml, hown, hts⟩ (c_X5_fails l C mo kp ty (nI 0) pl fl tl v o 2) (cwV 1 hts gX5_way_X5_fails rfl rfl rfl (by decide +kernel) ⟨Nat.le_of_ble_eq_true rfl, Nat.le_of_ble_eq_true rfl⟩) hK hP hD hS hA [0, 1, 2] (by decide) rfl 0 rfl rfl rfl rfl hl.1 rfl (Nat.le_of_ble_eq_true rfl) dX5_way_54 (Nat.zero_le _) (Nat.zero_le _) (fun r w1 H locs hQ hP hD hS => ?_)
    obtain ⟨rfl, rfl⟩ := hQ
    have hP : va_P C.1 vwCl (wO C mo (evm kp ty (nI 2) pl fl tl) v o) H := hP
    have hD : va_D (q_A (wO C mo (evm kp ty tw pl fl tl) v o) s) (wO C mo (evm kp ty (nI 2) pl fl tl) v o) := hD
    refine W.eq (g2 := F0 m 57 ls [.int (nI 0)]) rfl ?_
    exact q_iret hx hb hr hlocks (w1 := wO C mo (evm kp ty (nI 2) pl fl tl) v o) hP hS rfl dX5_way_57 (⟨rfl, rfl⟩)
  · have c31 : decide (nI 0 ≤ (nI x2) ∧ (nI x2) ≤ nI 3) = false := q_b0.mp c31
    exact absurd (c31.symm.trans (inT (by omega) (by omega) (by decide))) (by decide)
set_option maxHeartbeats 4000000 in
set_option maxRecDepth 100000 in
theorem c_X5_way (l : Launch) (C : q_C) (mo : Nat → Nat) (ty tw pl fl tl : Int32) (v o : Nat → Nat) (ph : Nat → Bd) (r n : Nat) (pa : Nat → Int64) (b : Bd) (a t x1 x2 x3 : Nat) (hr6 : r < 6) (hn6 : n ≤ 6) (hpa : mH ph r n pa) (ha : a < 4) (ht : t < 4) (h1 : x1 < 4) (h2 : x2 < 4) (h3 : x3 ≤ 8) : q_M C l yX5_way wsX5_way 2 49 [.ref (mo 0), .int (nI a), .int (nI t), .int (nI x1), .int (nI x2), .int (nI x3)] (wO C mo (evm (nI n) ty tw pl fl tl) v o ++ ([(mo 1, .inl (C.2.2.1, 82, .inr (.inl (mB b)))), (mo 3, .inl (C.2.2.1, 492, .inr (.inl pa)))] : va_W)) (fun r2 w => ∃ pa1, r2 = some (.int (nI (100 * bo b (4 * a + t) + 10 * bb b (4 * a + t) + bc b (4 * a + t)))) ∧ w = wO C mo (evm (nI (kC n)) ty (nI 0) pl fl tl) v o ++ ([(mo 1, .inl (C.2.2.1, 82, .inr (.inl (mB (sc (sb (so b (upN (bo b) (4 * a + t) x1)) (upN (bb b) (4 * a + t) x2)) (upN (bc b) (4 * a + t) x3)))))), (mo 3, .inl (C.2.2.1, 492, .inr (.inl pa1)))] : va_W) ∧ mH (upB ph (kJ n r) b) (kR n r) (kC n) pa1) := by
  refine q_head (cc := cX5_way) (maxL := 6) (ret := (some .int)) (by decide +kernel) rfl (Nat.le_of_ble_eq_true rfl) ?_
  intro p e s m below meth c hx hb hr hlocks hml hown hts hK hP hD hS hA ls hl
  have hl : lv_has ls 6 [(0, .ref (mo 0)), (1, .int (nI a)), (2, .int (nI t)), (3, .int (nI x1)), (4, .int (nI x2)), (5, .int (nI x3))] := hl
  have hf42 := hts (.fieldLink RX5 42 "RestedArmsModel" "thrown" "I") (by decide +kernel)
  have hin5 : ∀ w ∈ u_ws RX5 TX5 13, w ∈ wsX5_way := by decide +kernel
  refine lv_aload_n hx hb dX5_way_0 rfl (lv_at hl 0 rfl) ?_
  refine lv_iconst (v := nI 0) hx hb dX5_way_1 (by decide) ?_
  refine va_put (ci := 5) (v := .int (nI 0)) (ty := .int) (C := RX5) (T := TX5) (N := 13) hx hb hts hin5 tyX5 tyX5_ok nmX5 hown hK.1 hP hD hS 0 rfl rfl 6 (by decide) hf42 (fun _ h9 => h9) rfl (by decide +kernel) rfl rfl (Nat.le_of_ble_eq_true rfl) dX5_way_2 (fun H locs hP hD hS => ?_)
  have hP : va_P C.1 vwCl (wO C mo (evm (nI n) ty (nI 0) pl fl tl) v o ++ ([(mo 1, .inl (C.2.2.1, 82, .inr (.inl (mB b)))), (mo 3, .inl (C.2.2.1, 492, .inr (.inl pa)))] : va_W)) H := hP
  have hD : va_D (q_A (wO C mo (evm (nI n) ty tw pl fl tl) v o ++ ([(mo 1, .inl (C.2.2.1, 82, .inr (.inl (mB b)))), (mo 3, .inl (C.2.2.1, 492, .inr (.inl pa)))] : va_W)) s) (wO C mo (evm (nI n) ty (nI 0) pl fl tl) v o ++ ([(mo 1, .inl (C.2.2.1, 82, .inr (.inl (mB b)))), (mo 3, .inl (C.2.2.1, 492, .inr (.inl pa)))] : va_W)) := hD
  refine lv_iload_n hx hb dX5_way_5 rfl (lv_at hl 1 rfl) ?_
  refine q_S (As := [.int (nI a)]) (rest := []) ⟨hx, hb, hml, hown, hts⟩ (c_X5_isArm l C (nI a)) (va_cwS 1 hts gX5_way_X5_isArm rfl rfl rfl (by decide +kernel) ⟨Nat.le_of_ble_eq_true rfl, Nat.le_of_ble_eq_true rfl⟩) hK hP hD hS hA [] (by decide) rfl rfl hl.1 rfl (Nat.le_of_ble_eq_true rfl) dX5_way_6 (Nat.zero_le _) (Nat.zero_le _) (fun r w1 H locs hQ hP hD hS => ?_)
  obtain ⟨rfl, rfl⟩ := hQ
  refine W.eq (g2 := F0 m 9 ls [.int (q_b (decide (nI 0 ≤ (nI a) ∧ (nI a) ≤ nI 3)))]) rfl ?_
  refine lv_if_eq (tgt := 34) hx hb dX5_way_9 (by decide) (fun c9 => ?_) (fun c9 => ?_)
  · have c9 : decide (nI 0 ≤ (nI a) ∧ (nI a) ≤ nI 3) = false := q_b0.mp c9
    exact absurd (c9.symm.trans (inT (by omega) (by omega) (by decide))) (by decide)
  have c9 : decide (nI 0 ≤ (nI a) ∧ (nI a) ≤ nI 3) = true := q_b1.mp c9
  refine lv_iload_n hx hb dX5_way_12 rfl (lv_at hl 2 rfl) ?_
  refine q_S (As := [.int (nI t)]) (rest := []) ⟨hx, hb, hml, hown, hts⟩ (c_X5_isState l C (nI t)) (va_cwS 1 hts gX5_way_X5_isState rfl rfl rfl (by decide +kernel) ⟨Nat.le_of_ble_eq_true rfl, Nat.le_of_ble_eq_true rfl⟩) hK hP hD hS hA [] (by decide) rfl rfl hl.1 rfl (Nat.le_of_ble_eq_true rfl) dX5_way_13 (Nat.zero_le _) (Nat.zero_le _) (fun r w1 H locs hQ hP hD hS => ?_)
  obtain ⟨rfl, rfl⟩ := hQ
  refine W.eq (g2 := F0 m 16 ls [.int (q_b (decide (nI 0 ≤ (nI t) ∧ (nI t) ≤ nI 3)))]) rfl ?_
  refine lv_if_eq (tgt := 34) hx hb dX5_way_16 (by decide) (fun c16 => ?_) (fun c16 => ?_)
  · have c16 : decide (nI 0 ≤ (nI t) ∧ (nI t) ≤ nI 3) = false := q_b0.mp c16
    exact absurd (c16.symm.trans (inT (by omega) (by omega) (by decide))) (by decide)
  have c16 : decide (nI 0 ≤ (nI t) ∧ (nI t) ≤ nI 3) = true := q_b1.mp c16
  refine lv_iload_n hx hb dX5_way_19 rfl (lv_at hl 3 rfl) ?_
  refine q_S (As := [.int (nI x1)]) (rest := []) ⟨hx, hb, hml, hown, hts⟩ (c_X5_isState l C (nI x1)) (va_cwS 1 hts gX5_way_X5_isState rfl rfl rfl (by decide +kernel) ⟨Nat.le_of_ble_eq_true rfl, Nat.le_of_ble_eq_true rfl⟩) hK hP hD hS hA [] (by decide) rfl rfl hl.1 rfl (Nat.le_of_ble_eq_true rfl) dX5_way_20 (Nat.zero_le _) (Nat.zero_le _) (fun r w1 H locs hQ hP hD hS => ?_)
  obtain ⟨rfl, rfl⟩ := hQ
  refine W.eq (g2 := F0 m 23 ls [.int (q_b (decide (nI 0 ≤ (nI x1) ∧ (nI x1) ≤ nI 3)))]) rfl ?_
  refine lv_if_eq (tgt := 34) hx hb dX5_way_23 (by decide) (fun c23 => ?_) (fun c23 => ?_)
  · have c23 : decide (nI 0 ≤ (nI x1) ∧ (nI x1) ≤ nI 3) = false := q_b0.mp c23
    exact absurd (c23.symm.trans (inT (by omega) (by omega) (by decide))) (by decide)
  have c23 : decide (nI 0 ≤ (nI x1) ∧ (nI x1) ≤ nI 3) = true := q_b1.mp c23
  refine lv_iload hx hb dX5_way_26 (lv_at hl 4 rfl) ?_
  refine q_S (As := [.int (nI x2)]) (rest := []) ⟨hx, hb, hml, hown, hts⟩ (c_X5_isState l C (nI x2)) (va_cwS 1 hts gX5_way_X5_isState rfl rfl rfl (by decide +kernel) ⟨Nat.le_of_ble_eq_true rfl, Nat.le_of_ble_eq_true rfl⟩) hK hP hD hS hA [] (by decide) rfl rfl hl.1 rfl (Nat.le_of_ble_eq_true rfl) dX5_way_28 (Nat.zero_le _) (Nat.zero_le _) (fun r w1 H locs hQ hP hD hS => ?_)
  obtain ⟨rfl, rfl⟩ := hQ
  refine W.eq (g2 := F0 m 31 ls [.int (q_b (decide (nI 0 ≤ (nI x2) ∧ (nI x2) ≤ nI 3)))]) rfl ?_
  refine lv_if_ne (tgt := 40) hx hb dX5_way_31 (by decide) (fun c31 => ?_) (fun c31 => ?_)
  · have c31 : decide (nI 0 ≤ (nI x2) ∧ (nI x2) ≤ nI 3) = true := q_b1.mp c31
    refine lv_iload hx hb dX5_way_40 (lv_at hl 5 rfl) ?_
    refine lv_i2l (v := lN x3) hx hb dX5_way_42 (nI_l (by omega)) ?_
    refine lv_iconst (v := nI 0) hx hb dX5_way_43 (by decide) ?_
    refine lv_bipush (v := nI 8) hx hb dX5_way_44 (by decide) ?_
    refine q_S (As := [.long (lN x3), .int (nI 0), .int (nI 8)]) (rest := []) ⟨hx, hb, hml, hown, hts⟩ (c_inN l C x3 0 8 (by omega) (by omega) (by omega)) (va_cwS 3 hts gX5_way_X5_in rfl rfl rfl (by decide +kernel) ⟨Nat.le_of_ble_eq_true rfl, Nat.le_of_ble_eq_true rfl⟩) hK hP hD hS hA [] (by decide) rfl rfl hl.1 rfl (Nat.le_of_ble_eq_true rfl) dX5_way_46 (Nat.zero_le _) (Nat.zero_le _) (fun r w1 H locs hQ hP hD hS => ?_)
    obtain ⟨rfl, rfl⟩ := hQ
    refine W.eq (g2 := F0 m 49 ls [.int (q_b (decide (0 ≤ x3 ∧ x3 ≤ 8)))]) rfl ?_
    refine lv_if_ne (tgt := 58) hx hb dX5_way_49 (by decide) (fun c49 => ?_) (fun c49 => ?_)
    · have c49 : decide (0 ≤ x3 ∧ x3 ≤ 8) = true := q_b1.mp c49
      refine lv_aload_n hx hb dX5_way_58 rfl (lv_at hl 0 rfl) ?_
      refine q_V (As := []) (rest := []) ⟨hx, hb, hml, hown, hts⟩ (c_X5_saves l C mo ty (nI 0) pl fl tl v o ph r n pa b hr6 hn6 hpa) (cwV 0 hts gX5_way_X5_saves rfl rfl rfl (by decide +kernel) ⟨Nat.le_of_ble_eq_true rfl, Nat.le_of_ble_eq_true rfl⟩) hK hP hD hS hA [0, 1, 2, 3, 4] (by decide) rfl 0 rfl rfl rfl rfl hl.1 rfl (Nat.le_of_ble_eq_true rfl) dX5_way_59 (Nat.zero_le _) (Nat.zero_le _) (fun r w1 H locs hQ hP hD hS => ?_)
      obtain ⟨pa1, rfl, rfl, hpa1⟩ := hQ
      have hP : va_P C.1 vwCl (wO C mo (evm (nI (kC n)) ty (nI 0) pl fl tl) v o ++ ([(mo 1, .inl (C.2.2.1, 82, .inr (.inl (mB b)))), (mo 3, .inl (C.2.2.1, 492, .inr (.inl pa1)))] : va_W)) H := hP
      have hD : va_D (q_A (wO C mo (evm (nI n) ty tw pl fl tl) v o ++ ([(mo 1, .inl (C.2.2.1, 82, .inr (.inl (mB b)))), (mo 3, .inl (C.2.2.1, 492, .inr (.inl pa)))] : va_W)) s) (wO C mo (evm (nI (kC n)) ty (nI 0) pl fl tl) v o ++ ([(mo 1, .inl (C.2.2.1, 82, .inr (.inl (mB b)))), (mo 3, .inl (C.2.2.1, 492, .inr (.inl pa1)))] : va_W)) := hD
      refine W.eq (g2 := F0 m 62 ls []) rfl ?_
      refine lv_aload_n hx hb dX5_way_62 rfl (lv_at hl 0 rfl) ?_
      refine lv_iload_n hx hb dX5_way_63 rfl (lv_at hl 1 rfl) ?_
      refine lv_iload_n hx hb dX5_way_64 rfl (lv_at hl 2 rfl) ?_
      refine lv_iload_n hx hb dX5_way_65 rfl (lv_at hl 3 rfl) ?_
      refine lv_iload hx hb dX5_way_66 (lv_at hl 4 rfl) ?_
      refine lv_iload hx hb dX5_way_68 (lv_at hl 5 rfl) ?_
      refine q_V (As := [.int (nI a), .int (nI t), .int (nI x1), .int (nI x2), .int (nI x3)]) (rest := []) ⟨hx, hb, hml, hown, hts⟩ (c_X5_ways l C mo (nI (kC n)) ty (nI 0) pl fl tl v o b a t x1 x2 x3 (by omega) (by omega) (by omega) (by omega) (by omega)) (cwV 5 hts gX5_way_X5_ways rfl rfl rfl (by decide +kernel) ⟨Nat.le_of_ble_eq_true rfl, Nat.le_of_ble_eq_true rfl⟩) hK hP hD hS hA [0, 1, 2, 3] (by decide) rfl 0 rfl rfl rfl rfl hl.1 rfl (Nat.le_of_ble_eq_true rfl) dX5_way_70 (Nat.zero_le _) (Nat.zero_le _) (fun r w1 H locs hQ hP hD hS => ?_)
      obtain ⟨rfl, rfl⟩ := hQ
      have hP : va_P C.1 vwCl (wO C mo (evm (nI (kC n)) ty (nI 0) pl fl tl) v o ++ ([(mo 1, .inl (C.2.2.1, 82, .inr (.inl (mB (sc (sb (so b (upN (bo b) (4 * a + t) x1)) (upN (bb b) (4 * a + t) x2)) (upN (bc b) (4 * a + t) x3)))))), (mo 3, .inl (C.2.2.1, 492, .inr (.inl pa1)))] : va_W)) H := hP
      have hD : va_D (q_A (wO C mo (evm (nI n) ty tw pl fl tl) v o ++ ([(mo 1, .inl (C.2.2.1, 82, .inr (.inl (mB b)))), (mo 3, .inl (C.2.2.1, 492, .inr (.inl pa)))] : va_W)) s) (wO C mo (evm (nI (kC n)) ty (nI 0) pl fl tl) v o ++ ([(mo 1, .inl (C.2.2.1, 82, .inr (.inl (mB (sc (sb (so b (upN (bo b) (4 * a + t) x1)) (upN (bb b) (4 * a + t) x2)) (upN (bc b) (4 * a + t) x3)))))), (mo 3, .inl (C.2.2.1, 492, .inr (.inl pa1)))] : va_W)) := hD
      refine W.eq (g2 := F0 m 73 ls [.int (nI (100 * bo b (4 * a + t) + 10 * bb b (4 * a + t) + bc b (4 * a + t)))]) rfl ?_
      exact q_iret hx hb hr hlocks (w1 := wO C mo (evm (nI (kC n)) ty (nI 0) pl fl tl) v o ++ ([(mo 1, .inl (C.2.2.1, 82, .inr (.inl (mB (sc (sb (so b (upN (bo b) (4 * a + t) x1)) (upN (bb b) (4 * a + t) x2)) (upN (bc b) (4 * a + t) x3)))))), (mo 3, .inl (C.2.2.1, 492, .inr (.inl pa1)))] : va_W)) hP hS rfl dX5_way_73 (⟨_, rfl, rfl, hpa1⟩)
    · have c49 : decide (0 ≤ x3 ∧ x3 ≤ 8) = false := q_b0.mp c49
      exact absurd (show _ ∧ _ from ⟨by omega, by omega⟩) (of_decide_eq_false c49)
  · have c31 : decide (nI 0 ≤ (nI x2) ∧ (nI x2) ≤ nI 3) = false := q_b0.mp c31
    exact absurd (c31.symm.trans (inT (by omega) (by omega) (by decide))) (by decide)
set_option maxHeartbeats 4000000 in
set_option maxRecDepth 100000 in
theorem c1_X5_put (l : Launch) (C : q_C) (mo : Nat → Nat) (kp ty tw pl fl tl : Int32) (v o : Nat → Nat) (x y : Int32) (hxx : (decide (nI 0 ≤ x ∧ x ≤ nI 3) && decide (nI 0 ≤ y ∧ y ≤ nI 3)) = false) : q_M C l yX5_put wsX5_put 2 43 [.ref (mo 0), .int x, .int y] (wO C mo (evm kp ty tw pl fl tl) v o) (fun r w => r = some (.int (nI 0)) ∧ w = wO C mo (evm kp ty (nI 1) pl fl tl) v o) := by
  refine q_head (cc := cX5_put) (maxL := 3) (ret := (some .int)) (by decide +kernel) rfl (Nat.le_of_ble_eq_true rfl) ?_
  intro p e s m below meth c hx hb hr hlocks hml hown hts hK hP hD hS hA ls hl
  have hl : lv_has ls 3 [(0, .ref (mo 0)), (1, .int x), (2, .int y)] := hl
  have hf42 := hts (.fieldLink RX5 42 "RestedArmsModel" "thrown" "I") (by decide +kernel)
  have hin5 : ∀ w ∈ u_ws RX5 TX5 13, w ∈ wsX5_put := by decide +kernel
  refine lv_aload_n hx hb dX5_put_0 rfl (lv_at hl 0 rfl) ?_
  refine lv_iconst (v := nI 0) hx hb dX5_put_1 (by decide) ?_
  refine va_put (ci := 5) (v := .int (nI 0)) (ty := .int) (C := RX5) (T := TX5) (N := 13) hx hb hts hin5 tyX5 tyX5_ok nmX5 hown hK.1 hP hD hS 0 rfl rfl 6 (by decide) hf42 (fun _ h9 => h9) rfl (by decide +kernel) rfl rfl (Nat.le_of_ble_eq_true rfl) dX5_put_2 (fun H locs hP hD hS => ?_)
  have hP : va_P C.1 vwCl (wO C mo (evm kp ty (nI 0) pl fl tl) v o) H := hP
  have hD : va_D (q_A (wO C mo (evm kp ty tw pl fl tl) v o) s) (wO C mo (evm kp ty (nI 0) pl fl tl) v o) := hD
  refine lv_iload_n hx hb dX5_put_5 rfl (lv_at hl 1 rfl) ?_
  refine q_S (As := [.int x]) (rest := []) ⟨hx, hb, hml, hown, hts⟩ (c_X5_isArm l C x) (va_cwS 1 hts gX5_put_X5_isArm rfl rfl rfl (by decide +kernel) ⟨Nat.le_of_ble_eq_true rfl, Nat.le_of_ble_eq_true rfl⟩) hK hP hD hS hA [] (by decide) rfl rfl hl.1 rfl (Nat.le_of_ble_eq_true rfl) dX5_put_6 (Nat.zero_le _) (Nat.zero_le _) (fun r w1 H locs hQ hP hD hS => ?_)
  obtain ⟨rfl, rfl⟩ := hQ
  refine W.eq (g2 := F0 m 9 ls [.int (q_b (decide (nI 0 ≤ x ∧ x ≤ nI 3)))]) rfl ?_
  refine lv_if_eq (tgt := 19) hx hb dX5_put_9 (by decide) (fun c9 => ?_) (fun c9 => ?_)
  · have c9 : decide (nI 0 ≤ x ∧ x ≤ nI 3) = false := q_b0.mp c9
    refine lv_aload_n hx hb dX5_put_19 rfl (lv_at hl 0 rfl) ?_
    refine lv_iconst (v := nI 1) hx hb dX5_put_20 (by decide) ?_
    refine q_V (As := [.int (nI 1)]) (rest := []) ⟨hx, hb, hml, hown, hts⟩ (c_X5_fails l C mo kp ty (nI 0) pl fl tl v o 1) (cwV 1 hts gX5_put_X5_fails rfl rfl rfl (by decide +kernel) ⟨Nat.le_of_ble_eq_true rfl, Nat.le_of_ble_eq_true rfl⟩) hK hP hD hS hA [0, 1, 2] (by decide) rfl 0 rfl rfl rfl rfl hl.1 rfl (Nat.le_of_ble_eq_true rfl) dX5_put_21 (Nat.zero_le _) (Nat.zero_le _) (fun r w1 H locs hQ hP hD hS => ?_)
    obtain ⟨rfl, rfl⟩ := hQ
    have hP : va_P C.1 vwCl (wO C mo (evm kp ty (nI 1) pl fl tl) v o) H := hP
    have hD : va_D (q_A (wO C mo (evm kp ty tw pl fl tl) v o) s) (wO C mo (evm kp ty (nI 1) pl fl tl) v o) := hD
    refine W.eq (g2 := F0 m 24 ls [.int (nI 0)]) rfl ?_
    exact q_iret hx hb hr hlocks (w1 := wO C mo (evm kp ty (nI 1) pl fl tl) v o) hP hS rfl dX5_put_24 (⟨rfl, rfl⟩)
  · have c9 : decide (nI 0 ≤ x ∧ x ≤ nI 3) = true := q_b1.mp c9
    refine lv_iload_n hx hb dX5_put_12 rfl (lv_at hl 2 rfl) ?_
    refine q_S (As := [.int y]) (rest := []) ⟨hx, hb, hml, hown, hts⟩ (c_X5_isState l C y) (va_cwS 1 hts gX5_put_X5_isState rfl rfl rfl (by decide +kernel) ⟨Nat.le_of_ble_eq_true rfl, Nat.le_of_ble_eq_true rfl⟩) hK hP hD hS hA [] (by decide) rfl rfl hl.1 rfl (Nat.le_of_ble_eq_true rfl) dX5_put_13 (Nat.zero_le _) (Nat.zero_le _) (fun r w1 H locs hQ hP hD hS => ?_)
    obtain ⟨rfl, rfl⟩ := hQ
    refine W.eq (g2 := F0 m 16 ls [.int (q_b (decide (nI 0 ≤ y ∧ y ≤ nI 3)))]) rfl ?_
    refine lv_if_ne (tgt := 25) hx hb dX5_put_16 (by decide) (fun c16 => ?_) (fun c16 => ?_)
    · have c16 : decide (nI 0 ≤ y ∧ y ≤ nI 3) = true := q_b1.mp c16
      exact absurd hxx (by rw [c9, c16]; decide)
    have c16 : decide (nI 0 ≤ y ∧ y ≤ nI 3) = false := q_b0.mp c16
    refine lv_aload_n hx hb dX5_put_19 rfl (lv_at hl 0 rfl) ?_
    refine lv_iconst (v := nI 1) hx hb dX5_put_20 (by decide) ?_
    refine q_V (As := [.int (nI 1)]) (rest := []) ⟨hx, hb, hml, hown, hts⟩ (c_X5_fails l C mo kp ty (nI 0) pl fl tl v o 1) (cwV 1 hts gX5_put_X5_fails rfl rfl rfl (by decide +kernel) ⟨Nat.le_of_ble_eq_true rfl, Nat.le_of_ble_eq_true rfl⟩) hK hP hD hS hA [0, 1, 2] (by decide) rfl 0 rfl rfl rfl rfl hl.1 rfl (Nat.le_of_ble_eq_true rfl) dX5_put_21 (Nat.zero_le _) (Nat.zero_le _) (fun r w1 H locs hQ hP hD hS => ?_)
    obtain ⟨rfl, rfl⟩ := hQ
    have hP : va_P C.1 vwCl (wO C mo (evm kp ty (nI 1) pl fl tl) v o) H := hP
    have hD : va_D (q_A (wO C mo (evm kp ty tw pl fl tl) v o) s) (wO C mo (evm kp ty (nI 1) pl fl tl) v o) := hD
    refine W.eq (g2 := F0 m 24 ls [.int (nI 0)]) rfl ?_
    exact q_iret hx hb hr hlocks (w1 := wO C mo (evm kp ty (nI 1) pl fl tl) v o) hP hS rfl dX5_put_24 (⟨rfl, rfl⟩)
set_option maxHeartbeats 4000000 in
set_option maxRecDepth 100000 in
theorem c_X5_put (l : Launch) (C : q_C) (mo : Nat → Nat) (ty tw pl fl tl : Int32) (v o : Nat → Nat) (ph : Nat → Bd) (r n : Nat) (pa : Nat → Int64) (b : Bd) (a t : Nat) (hr6 : r < 6) (hn6 : n ≤ 6) (hpa : mH ph r n pa) (ha : a < 4) (ht : t < 4) : q_M C l yX5_put wsX5_put 2 43 [.ref (mo 0), .int (nI a), .int (nI t)] (wO C mo (evm (nI n) ty tw pl fl tl) v o ++ ([(mo 1, .inl (C.2.2.1, 82, .inr (.inl (mB b)))), (mo 3, .inl (C.2.2.1, 492, .inr (.inl pa)))] : va_W)) (fun r2 w => ∃ pa1, r2 = some (.int (nI (bp b a))) ∧ w = wO C mo (evm (nI (kC n)) ty (nI 0) pl fl tl) v o ++ ([(mo 1, .inl (C.2.2.1, 82, .inr (.inl (mB (sp b (upN (bp b) a t)))))), (mo 3, .inl (C.2.2.1, 492, .inr (.inl pa1)))] : va_W) ∧ mH (upB ph (kJ n r) b) (kR n r) (kC n) pa1) := by
  refine q_head (cc := cX5_put) (maxL := 3) (ret := (some .int)) (by decide +kernel) rfl (Nat.le_of_ble_eq_true rfl) ?_
  intro p e s m below meth c hx hb hr hlocks hml hown hts hK hP hD hS hA ls hl
  have hl : lv_has ls 3 [(0, .ref (mo 0)), (1, .int (nI a)), (2, .int (nI t))] := hl
  have hf42 := hts (.fieldLink RX5 42 "RestedArmsModel" "thrown" "I") (by decide +kernel)
  have hin5 : ∀ w ∈ u_ws RX5 TX5 13, w ∈ wsX5_put := by decide +kernel
  refine lv_aload_n hx hb dX5_put_0 rfl (lv_at hl 0 rfl) ?_
  refine lv_iconst (v := nI 0) hx hb dX5_put_1 (by decide) ?_
  refine va_put (ci := 5) (v := .int (nI 0)) (ty := .int) (C := RX5) (T := TX5) (N := 13) hx hb hts hin5 tyX5 tyX5_ok nmX5 hown hK.1 hP hD hS 0 rfl rfl 6 (by decide) hf42 (fun _ h9 => h9) rfl (by decide +kernel) rfl rfl (Nat.le_of_ble_eq_true rfl) dX5_put_2 (fun H locs hP hD hS => ?_)
  have hP : va_P C.1 vwCl (wO C mo (evm (nI n) ty (nI 0) pl fl tl) v o ++ ([(mo 1, .inl (C.2.2.1, 82, .inr (.inl (mB b)))), (mo 3, .inl (C.2.2.1, 492, .inr (.inl pa)))] : va_W)) H := hP
  have hD : va_D (q_A (wO C mo (evm (nI n) ty tw pl fl tl) v o ++ ([(mo 1, .inl (C.2.2.1, 82, .inr (.inl (mB b)))), (mo 3, .inl (C.2.2.1, 492, .inr (.inl pa)))] : va_W)) s) (wO C mo (evm (nI n) ty (nI 0) pl fl tl) v o ++ ([(mo 1, .inl (C.2.2.1, 82, .inr (.inl (mB b)))), (mo 3, .inl (C.2.2.1, 492, .inr (.inl pa)))] : va_W)) := hD
  refine lv_iload_n hx hb dX5_put_5 rfl (lv_at hl 1 rfl) ?_
  refine q_S (As := [.int (nI a)]) (rest := []) ⟨hx, hb, hml, hown, hts⟩ (c_X5_isArm l C (nI a)) (va_cwS 1 hts gX5_put_X5_isArm rfl rfl rfl (by decide +kernel) ⟨Nat.le_of_ble_eq_true rfl, Nat.le_of_ble_eq_true rfl⟩) hK hP hD hS hA [] (by decide) rfl rfl hl.1 rfl (Nat.le_of_ble_eq_true rfl) dX5_put_6 (Nat.zero_le _) (Nat.zero_le _) (fun r w1 H locs hQ hP hD hS => ?_)
  obtain ⟨rfl, rfl⟩ := hQ
  refine W.eq (g2 := F0 m 9 ls [.int (q_b (decide (nI 0 ≤ (nI a) ∧ (nI a) ≤ nI 3)))]) rfl ?_
  refine lv_if_eq (tgt := 19) hx hb dX5_put_9 (by decide) (fun c9 => ?_) (fun c9 => ?_)
  · have c9 : decide (nI 0 ≤ (nI a) ∧ (nI a) ≤ nI 3) = false := q_b0.mp c9
    exact absurd (c9.symm.trans (inT (by omega) (by omega) (by decide))) (by decide)
  have c9 : decide (nI 0 ≤ (nI a) ∧ (nI a) ≤ nI 3) = true := q_b1.mp c9
  refine lv_iload_n hx hb dX5_put_12 rfl (lv_at hl 2 rfl) ?_
  refine q_S (As := [.int (nI t)]) (rest := []) ⟨hx, hb, hml, hown, hts⟩ (c_X5_isState l C (nI t)) (va_cwS 1 hts gX5_put_X5_isState rfl rfl rfl (by decide +kernel) ⟨Nat.le_of_ble_eq_true rfl, Nat.le_of_ble_eq_true rfl⟩) hK hP hD hS hA [] (by decide) rfl rfl hl.1 rfl (Nat.le_of_ble_eq_true rfl) dX5_put_13 (Nat.zero_le _) (Nat.zero_le _) (fun r w1 H locs hQ hP hD hS => ?_)
  obtain ⟨rfl, rfl⟩ := hQ
  refine W.eq (g2 := F0 m 16 ls [.int (q_b (decide (nI 0 ≤ (nI t) ∧ (nI t) ≤ nI 3)))]) rfl ?_
  refine lv_if_ne (tgt := 25) hx hb dX5_put_16 (by decide) (fun c16 => ?_) (fun c16 => ?_)
  · have c16 : decide (nI 0 ≤ (nI t) ∧ (nI t) ≤ nI 3) = true := q_b1.mp c16
    refine lv_aload_n hx hb dX5_put_25 rfl (lv_at hl 0 rfl) ?_
    refine q_V (As := []) (rest := []) ⟨hx, hb, hml, hown, hts⟩ (c_X5_saves l C mo ty (nI 0) pl fl tl v o ph r n pa b hr6 hn6 hpa) (cwV 0 hts gX5_put_X5_saves rfl rfl rfl (by decide +kernel) ⟨Nat.le_of_ble_eq_true rfl, Nat.le_of_ble_eq_true rfl⟩) hK hP hD hS hA [0, 1, 2, 3, 4] (by decide) rfl 0 rfl rfl rfl rfl hl.1 rfl (Nat.le_of_ble_eq_true rfl) dX5_put_26 (Nat.zero_le _) (Nat.zero_le _) (fun r w1 H locs hQ hP hD hS => ?_)
    obtain ⟨pa1, rfl, rfl, hpa1⟩ := hQ
    have hP : va_P C.1 vwCl (wO C mo (evm (nI (kC n)) ty (nI 0) pl fl tl) v o ++ ([(mo 1, .inl (C.2.2.1, 82, .inr (.inl (mB b)))), (mo 3, .inl (C.2.2.1, 492, .inr (.inl pa1)))] : va_W)) H := hP
    have hD : va_D (q_A (wO C mo (evm (nI n) ty tw pl fl tl) v o ++ ([(mo 1, .inl (C.2.2.1, 82, .inr (.inl (mB b)))), (mo 3, .inl (C.2.2.1, 492, .inr (.inl pa)))] : va_W)) s) (wO C mo (evm (nI (kC n)) ty (nI 0) pl fl tl) v o ++ ([(mo 1, .inl (C.2.2.1, 82, .inr (.inl (mB b)))), (mo 3, .inl (C.2.2.1, 492, .inr (.inl pa1)))] : va_W)) := hD
    refine W.eq (g2 := F0 m 29 ls []) rfl ?_
    refine lv_aload_n hx hb dX5_put_29 rfl (lv_at hl 0 rfl) ?_
    refine lv_bipush (v := nI 10) hx hb dX5_put_30 (by decide) ?_
    refine lv_iconst (v := nI 2) hx hb dX5_put_32 (by decide) ?_
    refine lv_iload_n hx hb dX5_put_33 rfl (lv_at hl 1 rfl) ?_
    refine lv_imul hx hb dX5_put_34 ?_
    refine q_ti (y := nI (2 * a)) (pk_mul _ _) ?_
    refine lv_iadd hx hb dX5_put_35 ?_
    refine q_ti (y := nI (10 + (2 * a))) (nI_add _ _) ?_
    refine lv_iload_n hx hb dX5_put_36 rfl (lv_at hl 2 rfl) ?_
    refine q_V (As := [.int (nI (10 + (2 * a))), .int (nI t)]) (rest := []) ⟨hx, hb, hml, hown, hts⟩ (c_X5_changes l C mo (nI (kC n)) ty (nI 0) pl fl tl v o (mB b) (10 + (2 * a)) t (by omega) (by omega)) (cwV 2 hts gX5_put_X5_changes rfl rfl rfl (by decide +kernel) ⟨Nat.le_of_ble_eq_true rfl, Nat.le_of_ble_eq_true rfl⟩) hK hP hD hS hA [0, 1, 2, 3] (by decide) rfl 0 rfl rfl rfl rfl hl.1 rfl (Nat.le_of_ble_eq_true rfl) dX5_put_37 (Nat.zero_le _) (Nat.zero_le _) (fun r w1 H locs hQ hP hD hS => ?_)
    obtain ⟨rfl, rfl⟩ := hQ
    have hP : va_P C.1 vwCl (wO C mo (evm (nI (kC n)) ty (nI 0) pl fl tl) v o ++ ([(mo 1, .inl (C.2.2.1, 82, .inr (.inl (vp_updL (mB b) (10 + (2 * a)) (lN t))))), (mo 3, .inl (C.2.2.1, 492, .inr (.inl pa1)))] : va_W)) H := hP
    have hD : va_D (q_A (wO C mo (evm (nI n) ty tw pl fl tl) v o ++ ([(mo 1, .inl (C.2.2.1, 82, .inr (.inl (mB b)))), (mo 3, .inl (C.2.2.1, 492, .inr (.inl pa)))] : va_W)) s) (wO C mo (evm (nI (kC n)) ty (nI 0) pl fl tl) v o ++ ([(mo 1, .inl (C.2.2.1, 82, .inr (.inl (vp_updL (mB b) (10 + (2 * a)) (lN t))))), (mo 3, .inl (C.2.2.1, 492, .inr (.inl pa1)))] : va_W)) := hD
    refine W.eq (g2 := F0 m 40 ls [.int ((mB b (10 + (2 * a))).toInt32)]) rfl ?_
    rw [mB_wp _ ha] at hP hD
    have hP : va_P C.1 vwCl (wO C mo (evm (nI (kC n)) ty (nI 0) pl fl tl) v o ++ ([(mo 1, .inl (C.2.2.1, 82, .inr (.inl (mB (sp b (upN (bp b) a t)))))), (mo 3, .inl (C.2.2.1, 492, .inr (.inl pa1)))] : va_W)) H := hP
    have hD : va_D (q_A (wO C mo (evm (nI n) ty tw pl fl tl) v o ++ ([(mo 1, .inl (C.2.2.1, 82, .inr (.inl (mB b)))), (mo 3, .inl (C.2.2.1, 492, .inr (.inl pa)))] : va_W)) s) (wO C mo (evm (nI (kC n)) ty (nI 0) pl fl tl) v o ++ ([(mo 1, .inl (C.2.2.1, 82, .inr (.inl (mB (sp b (upN (bp b) a t)))))), (mo 3, .inl (C.2.2.1, 492, .inr (.inl pa1)))] : va_W)) := hD
    refine q_ti (y := nI (bp b a)) (by rw [mB_p _ ha]; exact lN_i _) ?_
    exact q_iret hx hb hr hlocks (w1 := wO C mo (evm (nI (kC n)) ty (nI 0) pl fl tl) v o ++ ([(mo 1, .inl (C.2.2.1, 82, .inr (.inl (mB (sp b (upN (bp b) a t)))))), (mo 3, .inl (C.2.2.1, 492, .inr (.inl pa1)))] : va_W)) hP hS rfl dX5_put_40 (⟨_, rfl, rfl, hpa1⟩)
  · have c16 : decide (nI 0 ≤ (nI t) ∧ (nI t) ≤ nI 3) = false := q_b0.mp c16
    exact absurd (c16.symm.trans (inT (by omega) (by omega) (by decide))) (by decide)
set_option maxHeartbeats 4000000 in
set_option maxRecDepth 100000 in
theorem c1_X5_set (l : Launch) (C : q_C) (mo : Nat → Nat) (kp ty tw pl fl tl : Int32) (v o : Nat → Nat) (x y : Int32) (hxx : decide (nI 0 ≤ x ∧ x ≤ nI 3) = false) : q_M C l yX5_set wsX5_set 1 23 [.ref (mo 0), .int x, .int y] (wO C mo (evm kp ty tw pl fl tl) v o) (fun r w => r = some (.int (nI 0)) ∧ w = wO C mo (evm kp ty (nI 1) pl fl tl) v o) := by
  refine q_head (cc := cX5_set) (maxL := 3) (ret := (some .int)) (by decide +kernel) rfl (Nat.le_of_ble_eq_true rfl) ?_
  intro p e s m below meth c hx hb hr hlocks hml hown hts hK hP hD hS hA ls hl
  have hl : lv_has ls 3 [(0, .ref (mo 0)), (1, .int x), (2, .int y)] := hl
  have hf42 := hts (.fieldLink RX5 42 "RestedArmsModel" "thrown" "I") (by decide +kernel)
  have hin5 : ∀ w ∈ u_ws RX5 TX5 13, w ∈ wsX5_set := by decide +kernel
  refine lv_aload_n hx hb dX5_set_0 rfl (lv_at hl 0 rfl) ?_
  refine lv_iconst (v := nI 0) hx hb dX5_set_1 (by decide) ?_
  refine va_put (ci := 5) (v := .int (nI 0)) (ty := .int) (C := RX5) (T := TX5) (N := 13) hx hb hts hin5 tyX5 tyX5_ok nmX5 hown hK.1 hP hD hS 0 rfl rfl 6 (by decide) hf42 (fun _ h9 => h9) rfl (by decide +kernel) rfl rfl (Nat.le_of_ble_eq_true rfl) dX5_set_2 (fun H locs hP hD hS => ?_)
  have hP : va_P C.1 vwCl (wO C mo (evm kp ty (nI 0) pl fl tl) v o) H := hP
  have hD : va_D (q_A (wO C mo (evm kp ty tw pl fl tl) v o) s) (wO C mo (evm kp ty (nI 0) pl fl tl) v o) := hD
  refine lv_iload_n hx hb dX5_set_5 rfl (lv_at hl 1 rfl) ?_
  refine lv_i2l (v := x.toInt64) hx hb dX5_set_6 rfl ?_
  refine lv_iconst (v := nI 0) hx hb dX5_set_7 (by decide) ?_
  refine lv_iconst (v := nI 3) hx hb dX5_set_8 (by decide) ?_
  refine q_S (As := [.long x.toInt64, .int (nI 0), .int (nI 3)]) (rest := []) ⟨hx, hb, hml, hown, hts⟩ (c_in32 l C x (nI 0) (nI 3)) (va_cwS 3 hts gX5_set_X5_in rfl rfl rfl (by decide +kernel) ⟨Nat.le_of_ble_eq_true rfl, Nat.le_of_ble_eq_true rfl⟩) hK hP hD hS hA [] (by decide) rfl rfl hl.1 rfl (Nat.le_of_ble_eq_true rfl) dX5_set_9 (Nat.zero_le _) (Nat.zero_le _) (fun r w1 H locs hQ hP hD hS => ?_)
  obtain ⟨rfl, rfl⟩ := hQ
  refine W.eq (g2 := F0 m 12 ls [.int (q_b (decide (nI 0 ≤ x ∧ x ≤ nI 3)))]) rfl ?_
  refine lv_if_ne (tgt := 21) hx hb dX5_set_12 (by decide) (fun c12 => ?_) (fun c12 => ?_)
  · have c12 : decide (nI 0 ≤ x ∧ x ≤ nI 3) = true := q_b1.mp c12
    exact absurd hxx (by rw [c12]; decide)
  have c12 : decide (nI 0 ≤ x ∧ x ≤ nI 3) = false := q_b0.mp c12
  refine lv_aload_n hx hb dX5_set_15 rfl (lv_at hl 0 rfl) ?_
  refine lv_iconst (v := nI 1) hx hb dX5_set_16 (by decide) ?_
  refine q_V (As := [.int (nI 1)]) (rest := []) ⟨hx, hb, hml, hown, hts⟩ (c_X5_fails l C mo kp ty (nI 0) pl fl tl v o 1) (cwV 1 hts gX5_set_X5_fails rfl rfl rfl (by decide +kernel) ⟨Nat.le_of_ble_eq_true rfl, Nat.le_of_ble_eq_true rfl⟩) hK hP hD hS hA [0, 1, 2] (by decide) rfl 0 rfl rfl rfl rfl hl.1 rfl (Nat.le_of_ble_eq_true rfl) dX5_set_17 (Nat.zero_le _) (Nat.zero_le _) (fun r w1 H locs hQ hP hD hS => ?_)
  obtain ⟨rfl, rfl⟩ := hQ
  have hP : va_P C.1 vwCl (wO C mo (evm kp ty (nI 1) pl fl tl) v o) H := hP
  have hD : va_D (q_A (wO C mo (evm kp ty tw pl fl tl) v o) s) (wO C mo (evm kp ty (nI 1) pl fl tl) v o) := hD
  refine W.eq (g2 := F0 m 20 ls [.int (nI 0)]) rfl ?_
  exact q_iret hx hb hr hlocks (w1 := wO C mo (evm kp ty (nI 1) pl fl tl) v o) hP hS rfl dX5_set_20 (⟨rfl, rfl⟩)
set_option maxHeartbeats 4000000 in
set_option maxRecDepth 100000 in
theorem c2_X5_set (l : Launch) (C : q_C) (mo : Nat → Nat) (kp ty tw pl fl tl : Int32) (v o : Nat → Nat) (k : Nat) (y : Int32) (hk : k < 4) (hyy : decide (nI (leS k) ≤ y ∧ y ≤ nI (grS k)) = false) : q_M C l yX5_set wsX5_set 2 44 [.ref (mo 0), .int (nI k), .int y] (wO C mo (evm kp ty tw pl fl tl) v o) (fun r w => r = some (.int (nI 0)) ∧ w = wO C mo (evm kp ty (nI 2) pl fl tl) v o) := by
  refine q_head (cc := cX5_set) (maxL := 3) (ret := (some .int)) (by decide +kernel) rfl (Nat.le_of_ble_eq_true rfl) ?_
  intro p e s m below meth c hx hb hr hlocks hml hown hts hK hP hD hS hA ls hl
  have hl : lv_has ls 3 [(0, .ref (mo 0)), (1, .int (nI k)), (2, .int y)] := hl
  have hf42 := hts (.fieldLink RX5 42 "RestedArmsModel" "thrown" "I") (by decide +kernel)
  have hin5 : ∀ w ∈ u_ws RX5 TX5 13, w ∈ wsX5_set := by decide +kernel
  refine lv_aload_n hx hb dX5_set_0 rfl (lv_at hl 0 rfl) ?_
  refine lv_iconst (v := nI 0) hx hb dX5_set_1 (by decide) ?_
  refine va_put (ci := 5) (v := .int (nI 0)) (ty := .int) (C := RX5) (T := TX5) (N := 13) hx hb hts hin5 tyX5 tyX5_ok nmX5 hown hK.1 hP hD hS 0 rfl rfl 6 (by decide) hf42 (fun _ h9 => h9) rfl (by decide +kernel) rfl rfl (Nat.le_of_ble_eq_true rfl) dX5_set_2 (fun H locs hP hD hS => ?_)
  have hP : va_P C.1 vwCl (wO C mo (evm kp ty (nI 0) pl fl tl) v o) H := hP
  have hD : va_D (q_A (wO C mo (evm kp ty tw pl fl tl) v o) s) (wO C mo (evm kp ty (nI 0) pl fl tl) v o) := hD
  refine lv_iload_n hx hb dX5_set_5 rfl (lv_at hl 1 rfl) ?_
  refine lv_i2l (v := lN k) hx hb dX5_set_6 (nI_l (by omega)) ?_
  refine lv_iconst (v := nI 0) hx hb dX5_set_7 (by decide) ?_
  refine lv_iconst (v := nI 3) hx hb dX5_set_8 (by decide) ?_
  refine q_S (As := [.long (lN k), .int (nI 0), .int (nI 3)]) (rest := []) ⟨hx, hb, hml, hown, hts⟩ (c_inN l C k 0 3 (by omega) (by omega) (by omega)) (va_cwS 3 hts gX5_set_X5_in rfl rfl rfl (by decide +kernel) ⟨Nat.le_of_ble_eq_true rfl, Nat.le_of_ble_eq_true rfl⟩) hK hP hD hS hA [] (by decide) rfl rfl hl.1 rfl (Nat.le_of_ble_eq_true rfl) dX5_set_9 (Nat.zero_le _) (Nat.zero_le _) (fun r w1 H locs hQ hP hD hS => ?_)
  obtain ⟨rfl, rfl⟩ := hQ
  refine W.eq (g2 := F0 m 12 ls [.int (q_b (decide (0 ≤ k ∧ k ≤ 3)))]) rfl ?_
  refine lv_if_ne (tgt := 21) hx hb dX5_set_12 (by decide) (fun c12 => ?_) (fun c12 => ?_)
  · have c12 : decide (0 ≤ k ∧ k ≤ 3) = true := q_b1.mp c12
    refine lv_iload_n hx hb dX5_set_21 rfl (lv_at hl 1 rfl) ?_
    refine lv_iload_n hx hb dX5_set_22 rfl (lv_at hl 2 rfl) ?_
    refine q_S (As := [.int (nI k), .int y]) (rest := []) ⟨hx, hb, hml, hown, hts⟩ (c_X5_isFor l C k y (by omega)) (va_cwS 2 hts gX5_set_X5_isFor rfl rfl rfl (by decide +kernel) ⟨Nat.le_of_ble_eq_true rfl, Nat.le_of_ble_eq_true rfl⟩) hK hP hD hS hA [] (by decide) rfl rfl hl.1 rfl (Nat.le_of_ble_eq_true rfl) dX5_set_23 (Nat.zero_le _) (Nat.zero_le _) (fun r w1 H locs hQ hP hD hS => ?_)
    obtain ⟨rfl, rfl⟩ := hQ
    refine W.eq (g2 := F0 m 26 ls [.int (q_b (decide (nI (leS k) ≤ y ∧ y ≤ nI (grS k))))]) rfl ?_
    refine lv_if_ne (tgt := 35) hx hb dX5_set_26 (by decide) (fun c26 => ?_) (fun c26 => ?_)
    · have c26 : decide (nI (leS k) ≤ y ∧ y ≤ nI (grS k)) = true := q_b1.mp c26
      exact absurd hyy (by rw [c26]; decide)
    have c26 : decide (nI (leS k) ≤ y ∧ y ≤ nI (grS k)) = false := q_b0.mp c26
    refine lv_aload_n hx hb dX5_set_29 rfl (lv_at hl 0 rfl) ?_
    refine lv_iconst (v := nI 2) hx hb dX5_set_30 (by decide) ?_
    refine q_V (As := [.int (nI 2)]) (rest := []) ⟨hx, hb, hml, hown, hts⟩ (c_X5_fails l C mo kp ty (nI 0) pl fl tl v o 2) (cwV 1 hts gX5_set_X5_fails rfl rfl rfl (by decide +kernel) ⟨Nat.le_of_ble_eq_true rfl, Nat.le_of_ble_eq_true rfl⟩) hK hP hD hS hA [0, 1, 2] (by decide) rfl 0 rfl rfl rfl rfl hl.1 rfl (Nat.le_of_ble_eq_true rfl) dX5_set_31 (Nat.zero_le _) (Nat.zero_le _) (fun r w1 H locs hQ hP hD hS => ?_)
    obtain ⟨rfl, rfl⟩ := hQ
    have hP : va_P C.1 vwCl (wO C mo (evm kp ty (nI 2) pl fl tl) v o) H := hP
    have hD : va_D (q_A (wO C mo (evm kp ty tw pl fl tl) v o) s) (wO C mo (evm kp ty (nI 2) pl fl tl) v o) := hD
    refine W.eq (g2 := F0 m 34 ls [.int (nI 0)]) rfl ?_
    exact q_iret hx hb hr hlocks (w1 := wO C mo (evm kp ty (nI 2) pl fl tl) v o) hP hS rfl dX5_set_34 (⟨rfl, rfl⟩)
  · have c12 : decide (0 ≤ k ∧ k ≤ 3) = false := q_b0.mp c12
    exact absurd (show _ ∧ _ from ⟨by omega, by omega⟩) (of_decide_eq_false c12)
set_option maxHeartbeats 4000000 in
set_option maxRecDepth 100000 in
theorem c_X5_set (l : Launch) (C : q_C) (mo : Nat → Nat) (ty tw pl fl tl : Int32) (v o : Nat → Nat) (ph : Nat → Bd) (r n : Nat) (pa : Nat → Int64) (b : Bd) (k y : Nat) (hr6 : r < 6) (hn6 : n ≤ 6) (hpa : mH ph r n pa) (hk : k < 4) (h1 : leS k ≤ y) (h2 : y ≤ grS k) (h3 : grS k ≤ 99) : q_M C l yX5_set wsX5_set 2 44 [.ref (mo 0), .int (nI k), .int (nI y)] (wO C mo (evm (nI n) ty tw pl fl tl) v o ++ ([(mo 1, .inl (C.2.2.1, 82, .inr (.inl (mB b)))), (mo 3, .inl (C.2.2.1, 492, .inr (.inl pa)))] : va_W)) (fun r2 w => ∃ pa1, r2 = some (.int (nI (bs b k))) ∧ w = wO C mo (evm (nI (kC n)) ty (nI 0) pl fl tl) v o ++ ([(mo 1, .inl (C.2.2.1, 82, .inr (.inl (mB (ss b (upN (bs b) k y)))))), (mo 3, .inl (C.2.2.1, 492, .inr (.inl pa1)))] : va_W) ∧ mH (upB ph (kJ n r) b) (kR n r) (kC n) pa1) := by
  refine q_head (cc := cX5_set) (maxL := 3) (ret := (some .int)) (by decide +kernel) rfl (Nat.le_of_ble_eq_true rfl) ?_
  intro p e s m below meth c hx hb hr hlocks hml hown hts hK hP hD hS hA ls hl
  have hl : lv_has ls 3 [(0, .ref (mo 0)), (1, .int (nI k)), (2, .int (nI y))] := hl
  have hf42 := hts (.fieldLink RX5 42 "RestedArmsModel" "thrown" "I") (by decide +kernel)
  have hin5 : ∀ w ∈ u_ws RX5 TX5 13, w ∈ wsX5_set := by decide +kernel
  refine lv_aload_n hx hb dX5_set_0 rfl (lv_at hl 0 rfl) ?_
  refine lv_iconst (v := nI 0) hx hb dX5_set_1 (by decide) ?_
  refine va_put (ci := 5) (v := .int (nI 0)) (ty := .int) (C := RX5) (T := TX5) (N := 13) hx hb hts hin5 tyX5 tyX5_ok nmX5 hown hK.1 hP hD hS 0 rfl rfl 6 (by decide) hf42 (fun _ h9 => h9) rfl (by decide +kernel) rfl rfl (Nat.le_of_ble_eq_true rfl) dX5_set_2 (fun H locs hP hD hS => ?_)
  have hP : va_P C.1 vwCl (wO C mo (evm (nI n) ty (nI 0) pl fl tl) v o ++ ([(mo 1, .inl (C.2.2.1, 82, .inr (.inl (mB b)))), (mo 3, .inl (C.2.2.1, 492, .inr (.inl pa)))] : va_W)) H := hP
  have hD : va_D (q_A (wO C mo (evm (nI n) ty tw pl fl tl) v o ++ ([(mo 1, .inl (C.2.2.1, 82, .inr (.inl (mB b)))), (mo 3, .inl (C.2.2.1, 492, .inr (.inl pa)))] : va_W)) s) (wO C mo (evm (nI n) ty (nI 0) pl fl tl) v o ++ ([(mo 1, .inl (C.2.2.1, 82, .inr (.inl (mB b)))), (mo 3, .inl (C.2.2.1, 492, .inr (.inl pa)))] : va_W)) := hD
  refine lv_iload_n hx hb dX5_set_5 rfl (lv_at hl 1 rfl) ?_
  refine lv_i2l (v := lN k) hx hb dX5_set_6 (nI_l (by omega)) ?_
  refine lv_iconst (v := nI 0) hx hb dX5_set_7 (by decide) ?_
  refine lv_iconst (v := nI 3) hx hb dX5_set_8 (by decide) ?_
  refine q_S (As := [.long (lN k), .int (nI 0), .int (nI 3)]) (rest := []) ⟨hx, hb, hml, hown, hts⟩ (c_inN l C k 0 3 (by omega) (by omega) (by omega)) (va_cwS 3 hts gX5_set_X5_in rfl rfl rfl (by decide +kernel) ⟨Nat.le_of_ble_eq_true rfl, Nat.le_of_ble_eq_true rfl⟩) hK hP hD hS hA [] (by decide) rfl rfl hl.1 rfl (Nat.le_of_ble_eq_true rfl) dX5_set_9 (Nat.zero_le _) (Nat.zero_le _) (fun r w1 H locs hQ hP hD hS => ?_)
  obtain ⟨rfl, rfl⟩ := hQ
  refine W.eq (g2 := F0 m 12 ls [.int (q_b (decide (0 ≤ k ∧ k ≤ 3)))]) rfl ?_
  refine lv_if_ne (tgt := 21) hx hb dX5_set_12 (by decide) (fun c12 => ?_) (fun c12 => ?_)
  · have c12 : decide (0 ≤ k ∧ k ≤ 3) = true := q_b1.mp c12
    refine lv_iload_n hx hb dX5_set_21 rfl (lv_at hl 1 rfl) ?_
    refine lv_iload_n hx hb dX5_set_22 rfl (lv_at hl 2 rfl) ?_
    refine q_S (As := [.int (nI k), .int (nI y)]) (rest := []) ⟨hx, hb, hml, hown, hts⟩ (c_X5_isFor l C k (nI y) (by omega)) (va_cwS 2 hts gX5_set_X5_isFor rfl rfl rfl (by decide +kernel) ⟨Nat.le_of_ble_eq_true rfl, Nat.le_of_ble_eq_true rfl⟩) hK hP hD hS hA [] (by decide) rfl rfl hl.1 rfl (Nat.le_of_ble_eq_true rfl) dX5_set_23 (Nat.zero_le _) (Nat.zero_le _) (fun r w1 H locs hQ hP hD hS => ?_)
    obtain ⟨rfl, rfl⟩ := hQ
    refine W.eq (g2 := F0 m 26 ls [.int (q_b (decide (nI (leS k) ≤ (nI y) ∧ (nI y) ≤ nI (grS k))))]) rfl ?_
    refine lv_if_ne (tgt := 35) hx hb dX5_set_26 (by decide) (fun c26 => ?_) (fun c26 => ?_)
    · have c26 : decide (nI (leS k) ≤ (nI y) ∧ (nI y) ≤ nI (grS k)) = true := q_b1.mp c26
      refine lv_aload_n hx hb dX5_set_35 rfl (lv_at hl 0 rfl) ?_
      refine q_V (As := []) (rest := []) ⟨hx, hb, hml, hown, hts⟩ (c_X5_saves l C mo ty (nI 0) pl fl tl v o ph r n pa b hr6 hn6 hpa) (cwV 0 hts gX5_set_X5_saves rfl rfl rfl (by decide +kernel) ⟨Nat.le_of_ble_eq_true rfl, Nat.le_of_ble_eq_true rfl⟩) hK hP hD hS hA [0, 1, 2, 3, 4] (by decide) rfl 0 rfl rfl rfl rfl hl.1 rfl (Nat.le_of_ble_eq_true rfl) dX5_set_36 (Nat.zero_le _) (Nat.zero_le _) (fun r w1 H locs hQ hP hD hS => ?_)
      obtain ⟨pa1, rfl, rfl, hpa1⟩ := hQ
      have hP : va_P C.1 vwCl (wO C mo (evm (nI (kC n)) ty (nI 0) pl fl tl) v o ++ ([(mo 1, .inl (C.2.2.1, 82, .inr (.inl (mB b)))), (mo 3, .inl (C.2.2.1, 492, .inr (.inl pa1)))] : va_W)) H := hP
      have hD : va_D (q_A (wO C mo (evm (nI n) ty tw pl fl tl) v o ++ ([(mo 1, .inl (C.2.2.1, 82, .inr (.inl (mB b)))), (mo 3, .inl (C.2.2.1, 492, .inr (.inl pa)))] : va_W)) s) (wO C mo (evm (nI (kC n)) ty (nI 0) pl fl tl) v o ++ ([(mo 1, .inl (C.2.2.1, 82, .inr (.inl (mB b)))), (mo 3, .inl (C.2.2.1, 492, .inr (.inl pa1)))] : va_W)) := hD
      refine W.eq (g2 := F0 m 39 ls []) rfl ?_
      refine lv_aload_n hx hb dX5_set_39 rfl (lv_at hl 0 rfl) ?_
      refine lv_iload_n hx hb dX5_set_40 rfl (lv_at hl 1 rfl) ?_
      refine lv_iload_n hx hb dX5_set_41 rfl (lv_at hl 2 rfl) ?_
      refine q_V (As := [.int (nI k), .int (nI y)]) (rest := []) ⟨hx, hb, hml, hown, hts⟩ (c_X5_changes l C mo (nI (kC n)) ty (nI 0) pl fl tl v o (mB b) k y (by omega) (by omega)) (cwV 2 hts gX5_set_X5_changes rfl rfl rfl (by decide +kernel) ⟨Nat.le_of_ble_eq_true rfl, Nat.le_of_ble_eq_true rfl⟩) hK hP hD hS hA [0, 1, 2, 3] (by decide) rfl 0 rfl rfl rfl rfl hl.1 rfl (Nat.le_of_ble_eq_true rfl) dX5_set_42 (Nat.zero_le _) (Nat.zero_le _) (fun r w1 H locs hQ hP hD hS => ?_)
      obtain ⟨rfl, rfl⟩ := hQ
      have hP : va_P C.1 vwCl (wO C mo (evm (nI (kC n)) ty (nI 0) pl fl tl) v o ++ ([(mo 1, .inl (C.2.2.1, 82, .inr (.inl (vp_updL (mB b) k (lN y))))), (mo 3, .inl (C.2.2.1, 492, .inr (.inl pa1)))] : va_W)) H := hP
      have hD : va_D (q_A (wO C mo (evm (nI n) ty tw pl fl tl) v o ++ ([(mo 1, .inl (C.2.2.1, 82, .inr (.inl (mB b)))), (mo 3, .inl (C.2.2.1, 492, .inr (.inl pa)))] : va_W)) s) (wO C mo (evm (nI (kC n)) ty (nI 0) pl fl tl) v o ++ ([(mo 1, .inl (C.2.2.1, 82, .inr (.inl (vp_updL (mB b) k (lN y))))), (mo 3, .inl (C.2.2.1, 492, .inr (.inl pa1)))] : va_W)) := hD
      refine W.eq (g2 := F0 m 45 ls [.int ((mB b k).toInt32)]) rfl ?_
      rw [mB_ws _ hk] at hP hD
      have hP : va_P C.1 vwCl (wO C mo (evm (nI (kC n)) ty (nI 0) pl fl tl) v o ++ ([(mo 1, .inl (C.2.2.1, 82, .inr (.inl (mB (ss b (upN (bs b) k y)))))), (mo 3, .inl (C.2.2.1, 492, .inr (.inl pa1)))] : va_W)) H := hP
      have hD : va_D (q_A (wO C mo (evm (nI n) ty tw pl fl tl) v o ++ ([(mo 1, .inl (C.2.2.1, 82, .inr (.inl (mB b)))), (mo 3, .inl (C.2.2.1, 492, .inr (.inl pa)))] : va_W)) s) (wO C mo (evm (nI (kC n)) ty (nI 0) pl fl tl) v o ++ ([(mo 1, .inl (C.2.2.1, 82, .inr (.inl (mB (ss b (upN (bs b) k y)))))), (mo 3, .inl (C.2.2.1, 492, .inr (.inl pa1)))] : va_W)) := hD
      refine q_ti (y := nI (bs b k)) (by rw [mB_s _ hk]; exact lN_i _) ?_
      exact q_iret hx hb hr hlocks (w1 := wO C mo (evm (nI (kC n)) ty (nI 0) pl fl tl) v o ++ ([(mo 1, .inl (C.2.2.1, 82, .inr (.inl (mB (ss b (upN (bs b) k y)))))), (mo 3, .inl (C.2.2.1, 492, .inr (.inl pa1)))] : va_W)) hP hS rfl dX5_set_45 (⟨_, rfl, rfl, hpa1⟩)
    · have c26 : decide (nI (leS k) ≤ (nI y) ∧ (nI y) ≤ nI (grS k)) = false := q_b0.mp c26
      exact absurd (c26.symm.trans (inT h1 h2 (by omega))) (by decide)
  · have c12 : decide (0 ≤ k ∧ k ≤ 3) = false := q_b0.mp c12
    exact absurd (show _ ∧ _ from ⟨by omega, by omega⟩) (of_decide_eq_false c12)
set_option maxHeartbeats 4000000 in
set_option maxRecDepth 100000 in
theorem c1_X5_pull (l : Launch) (C : q_C) (mo : Nat → Nat) (kp ty tw pl fl tl : Int32) (v o : Nat → Nat) (x : Int32) (hxx : decide (nI 0 ≤ x ∧ x ≤ nI 3) = false) : q_M C l yX5_pull wsX5_pull 2 43 [.ref (mo 0), .int x] (wO C mo (evm kp ty tw pl fl tl) v o) (fun r w => r = some (.int (nI 0)) ∧ w = wO C mo (evm kp ty (nI 1) pl fl tl) v o) := by
  refine q_head (cc := cX5_pull) (maxL := 2) (ret := (some .int)) (by decide +kernel) rfl (Nat.le_of_ble_eq_true rfl) ?_
  intro p e s m below meth c hx hb hr hlocks hml hown hts hK hP hD hS hA ls hl
  have hl : lv_has ls 2 [(0, .ref (mo 0)), (1, .int x)] := hl
  have hf42 := hts (.fieldLink RX5 42 "RestedArmsModel" "thrown" "I") (by decide +kernel)
  have hin5 : ∀ w ∈ u_ws RX5 TX5 13, w ∈ wsX5_pull := by decide +kernel
  refine lv_aload_n hx hb dX5_pull_0 rfl (lv_at hl 0 rfl) ?_
  refine lv_iconst (v := nI 0) hx hb dX5_pull_1 (by decide) ?_
  refine va_put (ci := 5) (v := .int (nI 0)) (ty := .int) (C := RX5) (T := TX5) (N := 13) hx hb hts hin5 tyX5 tyX5_ok nmX5 hown hK.1 hP hD hS 0 rfl rfl 6 (by decide) hf42 (fun _ h9 => h9) rfl (by decide +kernel) rfl rfl (Nat.le_of_ble_eq_true rfl) dX5_pull_2 (fun H locs hP hD hS => ?_)
  have hP : va_P C.1 vwCl (wO C mo (evm kp ty (nI 0) pl fl tl) v o) H := hP
  have hD : va_D (q_A (wO C mo (evm kp ty tw pl fl tl) v o) s) (wO C mo (evm kp ty (nI 0) pl fl tl) v o) := hD
  refine lv_iload_n hx hb dX5_pull_5 rfl (lv_at hl 1 rfl) ?_
  refine q_S (As := [.int x]) (rest := []) ⟨hx, hb, hml, hown, hts⟩ (c_X5_isArm l C x) (va_cwS 1 hts gX5_pull_X5_isArm rfl rfl rfl (by decide +kernel) ⟨Nat.le_of_ble_eq_true rfl, Nat.le_of_ble_eq_true rfl⟩) hK hP hD hS hA [] (by decide) rfl rfl hl.1 rfl (Nat.le_of_ble_eq_true rfl) dX5_pull_6 (Nat.zero_le _) (Nat.zero_le _) (fun r w1 H locs hQ hP hD hS => ?_)
  obtain ⟨rfl, rfl⟩ := hQ
  refine W.eq (g2 := F0 m 9 ls [.int (q_b (decide (nI 0 ≤ x ∧ x ≤ nI 3)))]) rfl ?_
  refine lv_if_ne (tgt := 18) hx hb dX5_pull_9 (by decide) (fun c9 => ?_) (fun c9 => ?_)
  · have c9 : decide (nI 0 ≤ x ∧ x ≤ nI 3) = true := q_b1.mp c9
    exact absurd hxx (by rw [c9]; decide)
  have c9 : decide (nI 0 ≤ x ∧ x ≤ nI 3) = false := q_b0.mp c9
  refine lv_aload_n hx hb dX5_pull_12 rfl (lv_at hl 0 rfl) ?_
  refine lv_iconst (v := nI 1) hx hb dX5_pull_13 (by decide) ?_
  refine q_V (As := [.int (nI 1)]) (rest := []) ⟨hx, hb, hml, hown, hts⟩ (c_X5_fails l C mo kp ty (nI 0) pl fl tl v o 1) (cwV 1 hts gX5_pull_X5_fails rfl rfl rfl (by decide +kernel) ⟨Nat.le_of_ble_eq_true rfl, Nat.le_of_ble_eq_true rfl⟩) hK hP hD hS hA [0, 1, 2] (by decide) rfl 0 rfl rfl rfl rfl hl.1 rfl (Nat.le_of_ble_eq_true rfl) dX5_pull_14 (Nat.zero_le _) (Nat.zero_le _) (fun r w1 H locs hQ hP hD hS => ?_)
  obtain ⟨rfl, rfl⟩ := hQ
  have hP : va_P C.1 vwCl (wO C mo (evm kp ty (nI 1) pl fl tl) v o) H := hP
  have hD : va_D (q_A (wO C mo (evm kp ty tw pl fl tl) v o) s) (wO C mo (evm kp ty (nI 1) pl fl tl) v o) := hD
  refine W.eq (g2 := F0 m 17 ls [.int (nI 0)]) rfl ?_
  exact q_iret hx hb hr hlocks (w1 := wO C mo (evm kp ty (nI 1) pl fl tl) v o) hP hS rfl dX5_pull_17 (⟨rfl, rfl⟩)
set_option maxHeartbeats 4000000 in
set_option maxRecDepth 100000 in
theorem c2_X5_pull (l : Launch) (C : q_C) (mo : Nat → Nat) (kp ty tw pl fl tl : Int32) (v o : Nat → Nat) (b : Bd) (a : Nat) (ha : a < 4) (hU : sumU b = 9999) : q_M C l yX5_pull wsX5_pull 2 43 [.ref (mo 0), .int (nI a)] (wO C mo (evm kp ty tw pl fl tl) v o ++ ([(mo 1, .inl (C.2.2.1, 82, .inr (.inl (mB b))))] : va_W)) (fun r w => r = some (.int (nI 0)) ∧ w = wO C mo (evm kp ty (nI 2) pl fl tl) v o ++ ([(mo 1, .inl (C.2.2.1, 82, .inr (.inl (mB b))))] : va_W)) := by
  refine q_head (cc := cX5_pull) (maxL := 2) (ret := (some .int)) (by decide +kernel) rfl (Nat.le_of_ble_eq_true rfl) ?_
  intro p e s m below meth c hx hb hr hlocks hml hown hts hK hP hD hS hA ls hl
  have hl : lv_has ls 2 [(0, .ref (mo 0)), (1, .int (nI a))] := hl
  have hf42 := hts (.fieldLink RX5 42 "RestedArmsModel" "thrown" "I") (by decide +kernel)
  have hf7 := hts (.fieldLink RX5 7 "RestedArmsModel" "now" "[J") (by decide +kernel)
  have hin5 : ∀ w ∈ u_ws RX5 TX5 13, w ∈ wsX5_pull := by decide +kernel
  have hk142 := hts (.constantLong RX5 142 (9999)) (by decide +kernel)
  refine lv_aload_n hx hb dX5_pull_0 rfl (lv_at hl 0 rfl) ?_
  refine lv_iconst (v := nI 0) hx hb dX5_pull_1 (by decide) ?_
  refine va_put (ci := 5) (v := .int (nI 0)) (ty := .int) (C := RX5) (T := TX5) (N := 13) hx hb hts hin5 tyX5 tyX5_ok nmX5 hown hK.1 hP hD hS 0 rfl rfl 6 (by decide) hf42 (fun _ h9 => h9) rfl (by decide +kernel) rfl rfl (Nat.le_of_ble_eq_true rfl) dX5_pull_2 (fun H locs hP hD hS => ?_)
  have hP : va_P C.1 vwCl (wO C mo (evm kp ty (nI 0) pl fl tl) v o ++ ([(mo 1, .inl (C.2.2.1, 82, .inr (.inl (mB b))))] : va_W)) H := hP
  have hD : va_D (q_A (wO C mo (evm kp ty tw pl fl tl) v o ++ ([(mo 1, .inl (C.2.2.1, 82, .inr (.inl (mB b))))] : va_W)) s) (wO C mo (evm kp ty (nI 0) pl fl tl) v o ++ ([(mo 1, .inl (C.2.2.1, 82, .inr (.inl (mB b))))] : va_W)) := hD
  refine lv_iload_n hx hb dX5_pull_5 rfl (lv_at hl 1 rfl) ?_
  refine q_S (As := [.int (nI a)]) (rest := []) ⟨hx, hb, hml, hown, hts⟩ (c_X5_isArm l C (nI a)) (va_cwS 1 hts gX5_pull_X5_isArm rfl rfl rfl (by decide +kernel) ⟨Nat.le_of_ble_eq_true rfl, Nat.le_of_ble_eq_true rfl⟩) hK hP hD hS hA [] (by decide) rfl rfl hl.1 rfl (Nat.le_of_ble_eq_true rfl) dX5_pull_6 (Nat.zero_le _) (Nat.zero_le _) (fun r w1 H locs hQ hP hD hS => ?_)
  obtain ⟨rfl, rfl⟩ := hQ
  refine W.eq (g2 := F0 m 9 ls [.int (q_b (decide (nI 0 ≤ (nI a) ∧ (nI a) ≤ nI 3)))]) rfl ?_
  refine lv_if_ne (tgt := 18) hx hb dX5_pull_9 (by decide) (fun c9 => ?_) (fun c9 => ?_)
  · have c9 : decide (nI 0 ≤ (nI a) ∧ (nI a) ≤ nI 3) = true := q_b1.mp c9
    refine lv_aload_n hx hb dX5_pull_18 rfl (lv_at hl 0 rfl) ?_
    refine va_get (ci := 5) (v := .ref (mo 1)) (C := RX5) (T := TX5) (N := 13) hx hb hts hin5 hown hK.1 hP 0 rfl rfl 0 (by decide) hf7 (fun _ h9 => h9) rfl dX5_pull_19 ?_
    refine lv_iconst (v := nI 4) hx hb dX5_pull_22 (by decide) ?_
    refine q_lald (n := 4) (v := mB b 4) hx hb hK hP 3 rfl (by decide) (by decide) rfl dX5_pull_23 ?_
    refine q_tl (y := lN (sumU b)) (mB_4 b) ?_
    refine lv_ldc2 hx hb hown hk142 dX5_pull_24 ?_
    refine q_tl (y := lN 9999) (by decide) ?_
    refine W.lcmp hx hb dX5_pull_27 ?_
    refine lv_if_ne (tgt := 37) hx hb dX5_pull_28 (by decide) (fun c28 => ?_) (fun c28 => ?_)
    · have c28 : (sumU b) ≠ 9999 := q_Lne (by omega) (by omega) c28
      exact absurd hU c28
    have c28 : (sumU b) = 9999 := q_Lne' (by omega) (by omega) c28
    refine lv_aload_n hx hb dX5_pull_31 rfl (lv_at hl 0 rfl) ?_
    refine lv_iconst (v := nI 2) hx hb dX5_pull_32 (by decide) ?_
    refine q_V (As := [.int (nI 2)]) (rest := []) ⟨hx, hb, hml, hown, hts⟩ (c_X5_fails l C mo kp ty (nI 0) pl fl tl v o 2) (cwV 1 hts gX5_pull_X5_fails rfl rfl rfl (by decide +kernel) ⟨Nat.le_of_ble_eq_true rfl, Nat.le_of_ble_eq_true rfl⟩) hK hP hD hS hA [0, 1, 2] (by decide) rfl 0 rfl rfl rfl rfl hl.1 rfl (Nat.le_of_ble_eq_true rfl) dX5_pull_33 (Nat.zero_le _) (Nat.zero_le _) (fun r w1 H locs hQ hP hD hS => ?_)
    obtain ⟨rfl, rfl⟩ := hQ
    have hP : va_P C.1 vwCl (wO C mo (evm kp ty (nI 2) pl fl tl) v o ++ ([(mo 1, .inl (C.2.2.1, 82, .inr (.inl (mB b))))] : va_W)) H := hP
    have hD : va_D (q_A (wO C mo (evm kp ty tw pl fl tl) v o ++ ([(mo 1, .inl (C.2.2.1, 82, .inr (.inl (mB b))))] : va_W)) s) (wO C mo (evm kp ty (nI 2) pl fl tl) v o ++ ([(mo 1, .inl (C.2.2.1, 82, .inr (.inl (mB b))))] : va_W)) := hD
    refine W.eq (g2 := F0 m 36 ls [.int (nI 0)]) rfl ?_
    exact q_iret hx hb hr hlocks (w1 := wO C mo (evm kp ty (nI 2) pl fl tl) v o ++ ([(mo 1, .inl (C.2.2.1, 82, .inr (.inl (mB b))))] : va_W)) hP hS rfl dX5_pull_36 (⟨rfl, rfl⟩)
  · have c9 : decide (nI 0 ≤ (nI a) ∧ (nI a) ≤ nI 3) = false := q_b0.mp c9
    exact absurd (c9.symm.trans (inT (by omega) (by omega) (by decide))) (by decide)
set_option maxHeartbeats 4000000 in
set_option maxRecDepth 100000 in
theorem c_X5_pull (l : Launch) (C : q_C) (mo : Nat → Nat) (ty tw pl fl tl : Int32) (v o : Nat → Nat) (ph : Nat → Bd) (r n : Nat) (pa : Nat → Int64) (b : Bd) (a : Nat) (hr6 : r < 6) (hn6 : n ≤ 6) (hpa : mH ph r n pa) (hB : OkB b) (ha : a < 4) (hU : sumU b < 9999) : q_M C l yX5_pull wsX5_pull 3 71 [.ref (mo 0), .int (nI a)] (wO C mo (evm (nI n) ty tw pl fl tl) v o ++ ([(mo 1, .inl (C.2.2.1, 82, .inr (.inl (mB b)))), (mo 3, .inl (C.2.2.1, 492, .inr (.inl pa)))] : va_W)) (fun r2 w => ∃ pa1, r2 = some (.int (nI (bp (pulB b a) a))) ∧ w = wO C mo (evm (nI (kC n)) ty (nI 0) pl fl tl) v o ++ ([(mo 1, .inl (C.2.2.1, 82, .inr (.inl (mB (pulB b a))))), (mo 3, .inl (C.2.2.1, 492, .inr (.inl pa1)))] : va_W) ∧ mH (upB ph (kJ n r) b) (kR n r) (kC n) pa1) := by
  refine q_head (cc := cX5_pull) (maxL := 2) (ret := (some .int)) (by decide +kernel) rfl (Nat.le_of_ble_eq_true rfl) ?_
  intro p e s m below meth c hx hb hr hlocks hml hown hts hK hP hD hS hA ls hl
  have hl : lv_has ls 2 [(0, .ref (mo 0)), (1, .int (nI a))] := hl
  have hf42 := hts (.fieldLink RX5 42 "RestedArmsModel" "thrown" "I") (by decide +kernel)
  have hf7 := hts (.fieldLink RX5 7 "RestedArmsModel" "now" "[J") (by decide +kernel)
  have hin5 : ∀ w ∈ u_ws RX5 TX5 13, w ∈ wsX5_pull := by decide +kernel
  have hk142 := hts (.constantLong RX5 142 (9999)) (by decide +kernel)
  refine lv_aload_n hx hb dX5_pull_0 rfl (lv_at hl 0 rfl) ?_
  refine lv_iconst (v := nI 0) hx hb dX5_pull_1 (by decide) ?_
  refine va_put (ci := 5) (v := .int (nI 0)) (ty := .int) (C := RX5) (T := TX5) (N := 13) hx hb hts hin5 tyX5 tyX5_ok nmX5 hown hK.1 hP hD hS 0 rfl rfl 6 (by decide) hf42 (fun _ h9 => h9) rfl (by decide +kernel) rfl rfl (Nat.le_of_ble_eq_true rfl) dX5_pull_2 (fun H locs hP hD hS => ?_)
  have hP : va_P C.1 vwCl (wO C mo (evm (nI n) ty (nI 0) pl fl tl) v o ++ ([(mo 1, .inl (C.2.2.1, 82, .inr (.inl (mB b)))), (mo 3, .inl (C.2.2.1, 492, .inr (.inl pa)))] : va_W)) H := hP
  have hD : va_D (q_A (wO C mo (evm (nI n) ty tw pl fl tl) v o ++ ([(mo 1, .inl (C.2.2.1, 82, .inr (.inl (mB b)))), (mo 3, .inl (C.2.2.1, 492, .inr (.inl pa)))] : va_W)) s) (wO C mo (evm (nI n) ty (nI 0) pl fl tl) v o ++ ([(mo 1, .inl (C.2.2.1, 82, .inr (.inl (mB b)))), (mo 3, .inl (C.2.2.1, 492, .inr (.inl pa)))] : va_W)) := hD
  refine lv_iload_n hx hb dX5_pull_5 rfl (lv_at hl 1 rfl) ?_
  refine q_S (As := [.int (nI a)]) (rest := []) ⟨hx, hb, hml, hown, hts⟩ (c_X5_isArm l C (nI a)) (va_cwS 1 hts gX5_pull_X5_isArm rfl rfl rfl (by decide +kernel) ⟨Nat.le_of_ble_eq_true rfl, Nat.le_of_ble_eq_true rfl⟩) hK hP hD hS hA [] (by decide) rfl rfl hl.1 rfl (Nat.le_of_ble_eq_true rfl) dX5_pull_6 (Nat.zero_le _) (Nat.zero_le _) (fun r w1 H locs hQ hP hD hS => ?_)
  obtain ⟨rfl, rfl⟩ := hQ
  refine W.eq (g2 := F0 m 9 ls [.int (q_b (decide (nI 0 ≤ (nI a) ∧ (nI a) ≤ nI 3)))]) rfl ?_
  refine lv_if_ne (tgt := 18) hx hb dX5_pull_9 (by decide) (fun c9 => ?_) (fun c9 => ?_)
  · have c9 : decide (nI 0 ≤ (nI a) ∧ (nI a) ≤ nI 3) = true := q_b1.mp c9
    refine lv_aload_n hx hb dX5_pull_18 rfl (lv_at hl 0 rfl) ?_
    refine va_get (ci := 5) (v := .ref (mo 1)) (C := RX5) (T := TX5) (N := 13) hx hb hts hin5 hown hK.1 hP 0 rfl rfl 0 (by decide) hf7 (fun _ h9 => h9) rfl dX5_pull_19 ?_
    refine lv_iconst (v := nI 4) hx hb dX5_pull_22 (by decide) ?_
    refine q_lald (n := 4) (v := mB b 4) hx hb hK hP 3 rfl (by decide) (by decide) rfl dX5_pull_23 ?_
    refine q_tl (y := lN (sumU b)) (mB_4 b) ?_
    refine lv_ldc2 hx hb hown hk142 dX5_pull_24 ?_
    refine q_tl (y := lN 9999) (by decide) ?_
    refine W.lcmp hx hb dX5_pull_27 ?_
    refine lv_if_ne (tgt := 37) hx hb dX5_pull_28 (by decide) (fun c28 => ?_) (fun c28 => ?_)
    · have c28 : (sumU b) ≠ 9999 := q_Lne (by omega) (by omega) c28
      refine lv_aload_n hx hb dX5_pull_37 rfl (lv_at hl 0 rfl) ?_
      refine q_V (As := []) (rest := []) ⟨hx, hb, hml, hown, hts⟩ (c_X5_saves l C mo ty (nI 0) pl fl tl v o ph r n pa b hr6 hn6 hpa) (cwV 0 hts gX5_pull_X5_saves rfl rfl rfl (by decide +kernel) ⟨Nat.le_of_ble_eq_true rfl, Nat.le_of_ble_eq_true rfl⟩) hK hP hD hS hA [0, 1, 2, 3, 4] (by decide) rfl 0 rfl rfl rfl rfl hl.1 rfl (Nat.le_of_ble_eq_true rfl) dX5_pull_38 (Nat.zero_le _) (Nat.zero_le _) (fun r w1 H locs hQ hP hD hS => ?_)
      obtain ⟨pa1, rfl, rfl, hpa1⟩ := hQ
      have hP : va_P C.1 vwCl (wO C mo (evm (nI (kC n)) ty (nI 0) pl fl tl) v o ++ ([(mo 1, .inl (C.2.2.1, 82, .inr (.inl (mB b)))), (mo 3, .inl (C.2.2.1, 492, .inr (.inl pa1)))] : va_W)) H := hP
      have hD : va_D (q_A (wO C mo (evm (nI n) ty tw pl fl tl) v o ++ ([(mo 1, .inl (C.2.2.1, 82, .inr (.inl (mB b)))), (mo 3, .inl (C.2.2.1, 492, .inr (.inl pa)))] : va_W)) s) (wO C mo (evm (nI (kC n)) ty (nI 0) pl fl tl) v o ++ ([(mo 1, .inl (C.2.2.1, 82, .inr (.inl (mB b)))), (mo 3, .inl (C.2.2.1, 492, .inr (.inl pa1)))] : va_W)) := hD
      refine W.eq (g2 := F0 m 41 ls []) rfl ?_
      refine lv_aload_n hx hb dX5_pull_41 rfl (lv_at hl 0 rfl) ?_
      refine va_get (ci := 5) (v := .ref (mo 1)) (C := RX5) (T := TX5) (N := 13) hx hb hts hin5 hown hK.1 hP 0 rfl rfl 0 (by decide) hf7 (fun _ h9 => h9) rfl dX5_pull_42 ?_
      refine lv_iload_n hx hb dX5_pull_45 rfl (lv_at hl 1 rfl) ?_
      refine q_S (As := [.ref (mo 1), .int (nI a)]) (rest := []) ⟨hx, hb, hml, hown, hts⟩ (c_X5_pulls l C (mo 1) b a hB (by omega)) (va_cwS 2 hts gX5_pull_X5_pulls rfl rfl rfl (by decide +kernel) ⟨Nat.le_of_ble_eq_true rfl, Nat.le_of_ble_eq_true rfl⟩) hK hP hD hS hA [3] (by decide) rfl rfl hl.1 rfl (Nat.le_of_ble_eq_true rfl) dX5_pull_46 (Nat.zero_le _) (Nat.zero_le _) (fun r w1 H locs hQ hP hD hS => ?_)
      obtain ⟨rfl, rfl⟩ := hQ
      have hP : va_P C.1 vwCl (wO C mo (evm (nI (kC n)) ty (nI 0) pl fl tl) v o ++ ([(mo 1, .inl (C.2.2.1, 82, .inr (.inl (mB (pulB b a))))), (mo 3, .inl (C.2.2.1, 492, .inr (.inl pa1)))] : va_W)) H := hP
      have hD : va_D (q_A (wO C mo (evm (nI n) ty tw pl fl tl) v o ++ ([(mo 1, .inl (C.2.2.1, 82, .inr (.inl (mB b)))), (mo 3, .inl (C.2.2.1, 492, .inr (.inl pa)))] : va_W)) s) (wO C mo (evm (nI (kC n)) ty (nI 0) pl fl tl) v o ++ ([(mo 1, .inl (C.2.2.1, 82, .inr (.inl (mB (pulB b a))))), (mo 3, .inl (C.2.2.1, 492, .inr (.inl pa1)))] : va_W)) := hD
      refine W.eq (g2 := F0 m 49 ls []) rfl ?_
      refine lv_aload_n hx hb dX5_pull_49 rfl (lv_at hl 0 rfl) ?_
      refine va_get (ci := 5) (v := .ref (mo 1)) (C := RX5) (T := TX5) (N := 13) hx hb hts hin5 hown hK.1 hP 0 rfl rfl 0 (by decide) hf7 (fun _ h9 => h9) rfl dX5_pull_50 ?_
      refine lv_iload_n hx hb dX5_pull_53 rfl (lv_at hl 1 rfl) ?_
      refine q_S (As := [.ref (mo 1), .int (nI a)]) (rest := []) ⟨hx, hb, hml, hown, hts⟩ (c_X5_stands l C (mo 1) (pulB b a) a (by omega)) (va_cwS 2 hts gX5_pull_X5_stands rfl rfl rfl (by decide +kernel) ⟨Nat.le_of_ble_eq_true rfl, Nat.le_of_ble_eq_true rfl⟩) hK hP hD hS hA [3] (by decide) rfl rfl hl.1 rfl (Nat.le_of_ble_eq_true rfl) dX5_pull_54 (Nat.zero_le _) (Nat.zero_le _) (fun r w1 H locs hQ hP hD hS => ?_)
      obtain ⟨rfl, rfl⟩ := hQ
      have hP : va_P C.1 vwCl (wO C mo (evm (nI (kC n)) ty (nI 0) pl fl tl) v o ++ ([(mo 1, .inl (C.2.2.1, 82, .inr (.inl (mB (pulB b a))))), (mo 3, .inl (C.2.2.1, 492, .inr (.inl pa1)))] : va_W)) H := hP
      have hD : va_D (q_A (wO C mo (evm (nI n) ty tw pl fl tl) v o ++ ([(mo 1, .inl (C.2.2.1, 82, .inr (.inl (mB b)))), (mo 3, .inl (C.2.2.1, 492, .inr (.inl pa)))] : va_W)) s) (wO C mo (evm (nI (kC n)) ty (nI 0) pl fl tl) v o ++ ([(mo 1, .inl (C.2.2.1, 82, .inr (.inl (mB (pulB b a))))), (mo 3, .inl (C.2.2.1, 492, .inr (.inl pa1)))] : va_W)) := hD
      refine W.eq (g2 := F0 m 57 ls [.int (nI (bp (pulB b a) a))]) rfl ?_
      exact q_iret hx hb hr hlocks (w1 := wO C mo (evm (nI (kC n)) ty (nI 0) pl fl tl) v o ++ ([(mo 1, .inl (C.2.2.1, 82, .inr (.inl (mB (pulB b a))))), (mo 3, .inl (C.2.2.1, 492, .inr (.inl pa1)))] : va_W)) hP hS rfl dX5_pull_57 (⟨_, rfl, rfl, hpa1⟩)
    · have c28 : (sumU b) = 9999 := q_Lne' (by omega) (by omega) c28
      exact absurd hU (by omega)
  · have c9 : decide (nI 0 ≤ (nI a) ∧ (nI a) ≤ nI 3) = false := q_b0.mp c9
    exact absurd (c9.symm.trans (inT (by omega) (by omega) (by decide))) (by decide)
set_option maxHeartbeats 4000000 in
set_option maxRecDepth 100000 in
theorem c1_X5_play (l : Launch) (C : q_C) (mo : Nat → Nat) (kp ty tw pl fl tl : Int32) (v o : Nat → Nat) (x y : Int32) (hxx : (decide (nI 0 ≤ x ∧ x ≤ nI 2) && decide (nI 1 ≤ y ∧ y ≤ nI 99)) = false) : q_M C l yX5_play wsX5_play 2 44 [.ref (mo 0), .int x, .int y] (wO C mo (evm kp ty tw pl fl tl) v o) (fun r w => r = some (.int (nI 0)) ∧ w = wO C mo (evm kp ty (nI 1) pl fl tl) v o) := by
  refine q_head (cc := cX5_play) (maxL := 5) (ret := (some .int)) (by decide +kernel) rfl (Nat.le_of_ble_eq_true rfl) ?_
  intro p e s m below meth c hx hb hr hlocks hml hown hts hK hP hD hS hA ls hl
  have hl : lv_has ls 5 [(0, .ref (mo 0)), (1, .int x), (2, .int y)] := hl
  have hf42 := hts (.fieldLink RX5 42 "RestedArmsModel" "thrown" "I") (by decide +kernel)
  have hin5 : ∀ w ∈ u_ws RX5 TX5 13, w ∈ wsX5_play := by decide +kernel
  refine lv_aload_n hx hb dX5_play_0 rfl (lv_at hl 0 rfl) ?_
  refine lv_iconst (v := nI 0) hx hb dX5_play_1 (by decide) ?_
  refine va_put (ci := 5) (v := .int (nI 0)) (ty := .int) (C := RX5) (T := TX5) (N := 13) hx hb hts hin5 tyX5 tyX5_ok nmX5 hown hK.1 hP hD hS 0 rfl rfl 6 (by decide) hf42 (fun _ h9 => h9) rfl (by decide +kernel) rfl rfl (Nat.le_of_ble_eq_true rfl) dX5_play_2 (fun H locs hP hD hS => ?_)
  have hP : va_P C.1 vwCl (wO C mo (evm kp ty (nI 0) pl fl tl) v o) H := hP
  have hD : va_D (q_A (wO C mo (evm kp ty tw pl fl tl) v o) s) (wO C mo (evm kp ty (nI 0) pl fl tl) v o) := hD
  refine lv_iload_n hx hb dX5_play_5 rfl (lv_at hl 1 rfl) ?_
  refine lv_iload_n hx hb dX5_play_6 rfl (lv_at hl 2 rfl) ?_
  refine q_S (As := [.int x, .int y]) (rest := []) ⟨hx, hb, hml, hown, hts⟩ (c_X5_isPlay l C x y) (va_cwS 2 hts gX5_play_X5_isPlay rfl rfl rfl (by decide +kernel) ⟨Nat.le_of_ble_eq_true rfl, Nat.le_of_ble_eq_true rfl⟩) hK hP hD hS hA [] (by decide) rfl rfl hl.1 rfl (Nat.le_of_ble_eq_true rfl) dX5_play_7 (Nat.zero_le _) (Nat.zero_le _) (fun r w1 H locs hQ hP hD hS => ?_)
  obtain ⟨rfl, rfl⟩ := hQ
  refine W.eq (g2 := F0 m 10 ls [.int (q_b (decide (nI 0 ≤ x ∧ x ≤ nI 2) && decide (nI 1 ≤ y ∧ y ≤ nI 99)))]) rfl ?_
  refine lv_if_ne (tgt := 19) hx hb dX5_play_10 (by decide) (fun c10 => ?_) (fun c10 => ?_)
  · have c10 : (decide (nI 0 ≤ x ∧ x ≤ nI 2) && decide (nI 1 ≤ y ∧ y ≤ nI 99)) = true := q_b1.mp c10
    exact absurd hxx (by rw [c10]; decide)
  have c10 : (decide (nI 0 ≤ x ∧ x ≤ nI 2) && decide (nI 1 ≤ y ∧ y ≤ nI 99)) = false := q_b0.mp c10
  refine lv_aload_n hx hb dX5_play_13 rfl (lv_at hl 0 rfl) ?_
  refine lv_iconst (v := nI 1) hx hb dX5_play_14 (by decide) ?_
  refine q_V (As := [.int (nI 1)]) (rest := []) ⟨hx, hb, hml, hown, hts⟩ (c_X5_fails l C mo kp ty (nI 0) pl fl tl v o 1) (cwV 1 hts gX5_play_X5_fails rfl rfl rfl (by decide +kernel) ⟨Nat.le_of_ble_eq_true rfl, Nat.le_of_ble_eq_true rfl⟩) hK hP hD hS hA [0, 1, 2] (by decide) rfl 0 rfl rfl rfl rfl hl.1 rfl (Nat.le_of_ble_eq_true rfl) dX5_play_15 (Nat.zero_le _) (Nat.zero_le _) (fun r w1 H locs hQ hP hD hS => ?_)
  obtain ⟨rfl, rfl⟩ := hQ
  have hP : va_P C.1 vwCl (wO C mo (evm kp ty (nI 1) pl fl tl) v o) H := hP
  have hD : va_D (q_A (wO C mo (evm kp ty tw pl fl tl) v o) s) (wO C mo (evm kp ty (nI 1) pl fl tl) v o) := hD
  refine W.eq (g2 := F0 m 18 ls [.int (nI 0)]) rfl ?_
  exact q_iret hx hb hr hlocks (w1 := wO C mo (evm kp ty (nI 1) pl fl tl) v o) hP hS rfl dX5_play_18 (⟨rfl, rfl⟩)
set_option maxHeartbeats 4000000 in
set_option maxRecDepth 100000 in
theorem c2_X5_play (l : Launch) (C : q_C) (mo : Nat → Nat) (kp ty tw pl fl tl : Int32) (v o : Nat → Nat) (b : Bd) (rule k : Nat) (hr3 : rule < 3) (h1 : 1 ≤ k) (h2 : k ≤ 99) (hs : sumU b ≤ 9999) (hU : 9999 < sumU b + k) : q_M C l yX5_play wsX5_play 2 44 [.ref (mo 0), .int (nI rule), .int (nI k)] (wO C mo (evm kp ty tw pl fl tl) v o ++ ([(mo 1, .inl (C.2.2.1, 82, .inr (.inl (mB b))))] : va_W)) (fun r w => r = some (.int (nI 0)) ∧ w = wO C mo (evm kp ty (nI 2) pl fl tl) v o ++ ([(mo 1, .inl (C.2.2.1, 82, .inr (.inl (mB b))))] : va_W)) := by
  refine q_head (cc := cX5_play) (maxL := 5) (ret := (some .int)) (by decide +kernel) rfl (Nat.le_of_ble_eq_true rfl) ?_
  intro p e s m below meth c hx hb hr hlocks hml hown hts hK hP hD hS hA ls hl
  have hl : lv_has ls 5 [(0, .ref (mo 0)), (1, .int (nI rule)), (2, .int (nI k))] := hl
  have hf42 := hts (.fieldLink RX5 42 "RestedArmsModel" "thrown" "I") (by decide +kernel)
  have hf7 := hts (.fieldLink RX5 7 "RestedArmsModel" "now" "[J") (by decide +kernel)
  have hin5 : ∀ w ∈ u_ws RX5 TX5 13, w ∈ wsX5_play := by decide +kernel
  have hk142 := hts (.constantLong RX5 142 (9999)) (by decide +kernel)
  refine lv_aload_n hx hb dX5_play_0 rfl (lv_at hl 0 rfl) ?_
  refine lv_iconst (v := nI 0) hx hb dX5_play_1 (by decide) ?_
  refine va_put (ci := 5) (v := .int (nI 0)) (ty := .int) (C := RX5) (T := TX5) (N := 13) hx hb hts hin5 tyX5 tyX5_ok nmX5 hown hK.1 hP hD hS 0 rfl rfl 6 (by decide) hf42 (fun _ h9 => h9) rfl (by decide +kernel) rfl rfl (Nat.le_of_ble_eq_true rfl) dX5_play_2 (fun H locs hP hD hS => ?_)
  have hP : va_P C.1 vwCl (wO C mo (evm kp ty (nI 0) pl fl tl) v o ++ ([(mo 1, .inl (C.2.2.1, 82, .inr (.inl (mB b))))] : va_W)) H := hP
  have hD : va_D (q_A (wO C mo (evm kp ty tw pl fl tl) v o ++ ([(mo 1, .inl (C.2.2.1, 82, .inr (.inl (mB b))))] : va_W)) s) (wO C mo (evm kp ty (nI 0) pl fl tl) v o ++ ([(mo 1, .inl (C.2.2.1, 82, .inr (.inl (mB b))))] : va_W)) := hD
  refine lv_iload_n hx hb dX5_play_5 rfl (lv_at hl 1 rfl) ?_
  refine lv_iload_n hx hb dX5_play_6 rfl (lv_at hl 2 rfl) ?_
  refine q_S (As := [.int (nI rule), .int (nI k)]) (rest := []) ⟨hx, hb, hml, hown, hts⟩ (c_X5_isPlay l C (nI rule) (nI k)) (va_cwS 2 hts gX5_play_X5_isPlay rfl rfl rfl (by decide +kernel) ⟨Nat.le_of_ble_eq_true rfl, Nat.le_of_ble_eq_true rfl⟩) hK hP hD hS hA [] (by decide) rfl rfl hl.1 rfl (Nat.le_of_ble_eq_true rfl) dX5_play_7 (Nat.zero_le _) (Nat.zero_le _) (fun r w1 H locs hQ hP hD hS => ?_)
  obtain ⟨rfl, rfl⟩ := hQ
  refine W.eq (g2 := F0 m 10 ls [.int (q_b (decide (nI 0 ≤ (nI rule) ∧ (nI rule) ≤ nI 2) && decide (nI 1 ≤ (nI k) ∧ (nI k) ≤ nI 99)))]) rfl ?_
  refine lv_if_ne (tgt := 19) hx hb dX5_play_10 (by decide) (fun c10 => ?_) (fun c10 => ?_)
  · have c10 : (decide (nI 0 ≤ (nI rule) ∧ (nI rule) ≤ nI 2) && decide (nI 1 ≤ (nI k) ∧ (nI k) ≤ nI 99)) = true := q_b1.mp c10
    refine lv_aload_n hx hb dX5_play_19 rfl (lv_at hl 0 rfl) ?_
    refine va_get (ci := 5) (v := .ref (mo 1)) (C := RX5) (T := TX5) (N := 13) hx hb hts hin5 hown hK.1 hP 0 rfl rfl 0 (by decide) hf7 (fun _ h9 => h9) rfl dX5_play_20 ?_
    refine lv_iconst (v := nI 4) hx hb dX5_play_23 (by decide) ?_
    refine q_lald (n := 4) (v := mB b 4) hx hb hK hP 3 rfl (by decide) (by decide) rfl dX5_play_24 ?_
    refine q_tl (y := lN (sumU b)) (mB_4 b) ?_
    refine lv_iload_n hx hb dX5_play_25 rfl (lv_at hl 2 rfl) ?_
    refine lv_i2l (v := lN k) hx hb dX5_play_26 (nI_l (by omega)) ?_
    refine lv_ladd hx hb dX5_play_27 ?_
    refine q_tl (y := lN ((sumU b) + k)) (lN_add _ _) ?_
    refine lv_ldc2 hx hb hown hk142 dX5_play_28 ?_
    refine q_tl (y := lN 9999) (by decide) ?_
    refine W.lcmp hx hb dX5_play_31 ?_
    refine lv_if_le (tgt := 41) hx hb dX5_play_32 (by decide) (fun c32 => ?_) (fun c32 => ?_)
    · have c32 : ((sumU b) + k) ≤ 9999 := q_Lle (by omega) (by omega) c32
      exact absurd hU (by omega)
    have c32 : 9999 < ((sumU b) + k) := q_Lle' (by omega) (by omega) c32
    refine lv_aload_n hx hb dX5_play_35 rfl (lv_at hl 0 rfl) ?_
    refine lv_iconst (v := nI 2) hx hb dX5_play_36 (by decide) ?_
    refine q_V (As := [.int (nI 2)]) (rest := []) ⟨hx, hb, hml, hown, hts⟩ (c_X5_fails l C mo kp ty (nI 0) pl fl tl v o 2) (cwV 1 hts gX5_play_X5_fails rfl rfl rfl (by decide +kernel) ⟨Nat.le_of_ble_eq_true rfl, Nat.le_of_ble_eq_true rfl⟩) hK hP hD hS hA [0, 1, 2] (by decide) rfl 0 rfl rfl rfl rfl hl.1 rfl (Nat.le_of_ble_eq_true rfl) dX5_play_37 (Nat.zero_le _) (Nat.zero_le _) (fun r w1 H locs hQ hP hD hS => ?_)
    obtain ⟨rfl, rfl⟩ := hQ
    have hP : va_P C.1 vwCl (wO C mo (evm kp ty (nI 2) pl fl tl) v o ++ ([(mo 1, .inl (C.2.2.1, 82, .inr (.inl (mB b))))] : va_W)) H := hP
    have hD : va_D (q_A (wO C mo (evm kp ty tw pl fl tl) v o ++ ([(mo 1, .inl (C.2.2.1, 82, .inr (.inl (mB b))))] : va_W)) s) (wO C mo (evm kp ty (nI 2) pl fl tl) v o ++ ([(mo 1, .inl (C.2.2.1, 82, .inr (.inl (mB b))))] : va_W)) := hD
    refine W.eq (g2 := F0 m 40 ls [.int (nI 0)]) rfl ?_
    exact q_iret hx hb hr hlocks (w1 := wO C mo (evm kp ty (nI 2) pl fl tl) v o ++ ([(mo 1, .inl (C.2.2.1, 82, .inr (.inl (mB b))))] : va_W)) hP hS rfl dX5_play_40 (⟨rfl, rfl⟩)
  · have c10 : (decide (nI 0 ≤ (nI rule) ∧ (nI rule) ≤ nI 2) && decide (nI 1 ≤ (nI k) ∧ (nI k) ≤ nI 99)) = false := q_b0.mp c10
    exact absurd (c10.symm.trans (isT2 (inT (by omega) (by omega) (by decide)) (inT (by omega) (by omega) (by decide)))) (by decide)
set_option maxHeartbeats 4000000 in
set_option maxRecDepth 100000 in
theorem c_X5_play (l : Launch) (C : q_C) (mo : Nat → Nat) (ty tw pl fl tl : Int32) (v o : Nat → Nat) (ph : Nat → Bd) (r n : Nat) (pa : Nat → Int64) (b : Bd) (rule k : Nat) (hr6 : r < 6) (hn6 : n ≤ 6) (hpa : mH ph r n pa) (hB : OkB b) (hr3 : rule < 3) (h1 : 1 ≤ k) (h2 : k ≤ 99) (hs : sumU b + k ≤ 9999) : q_M C l yX5_play wsX5_play 7 172 [.ref (mo 0), .int (nI rule), .int (nI k)] (wO C mo (evm (nI n) ty tw pl fl tl) v o ++ ([(mo 1, .inl (C.2.2.1, 82, .inr (.inl (mB b)))), (mo 3, .inl (C.2.2.1, 492, .inr (.inl pa)))] : va_W)) (fun r2 w => ∃ pa1 v1 o1, r2 = some (.int (nI (bx (plN b (idxT b) rule k)) - nI (bx b))) ∧ w = wO C mo (evm (nI (kC n)) ty (nI 0) pl fl tl) v1 o1 ++ ([(mo 1, .inl (C.2.2.1, 82, .inr (.inl (mB (plN b (idxT b) rule k))))), (mo 3, .inl (C.2.2.1, 492, .inr (.inl pa1)))] : va_W) ∧ mH (upB ph (kJ n r) b) (kR n r) (kC n) pa1) := by
  refine q_head (cc := cX5_play) (maxL := 5) (ret := (some .int)) (by decide +kernel) rfl (Nat.le_of_ble_eq_true rfl) ?_
  intro p e s m below meth c hx hb hr hlocks hml hown hts hK hP hD hS hA ls hl
  have hl : lv_has ls 5 [(0, .ref (mo 0)), (1, .int (nI rule)), (2, .int (nI k))] := hl
  have hf42 := hts (.fieldLink RX5 42 "RestedArmsModel" "thrown" "I") (by decide +kernel)
  have hf7 := hts (.fieldLink RX5 7 "RestedArmsModel" "now" "[J") (by decide +kernel)
  have hin5 : ∀ w ∈ u_ws RX5 TX5 13, w ∈ wsX5_play := by decide +kernel
  have hk142 := hts (.constantLong RX5 142 (9999)) (by decide +kernel)
  refine lv_aload_n hx hb dX5_play_0 rfl (lv_at hl 0 rfl) ?_
  refine lv_iconst (v := nI 0) hx hb dX5_play_1 (by decide) ?_
  refine va_put (ci := 5) (v := .int (nI 0)) (ty := .int) (C := RX5) (T := TX5) (N := 13) hx hb hts hin5 tyX5 tyX5_ok nmX5 hown hK.1 hP hD hS 0 rfl rfl 6 (by decide) hf42 (fun _ h9 => h9) rfl (by decide +kernel) rfl rfl (Nat.le_of_ble_eq_true rfl) dX5_play_2 (fun H locs hP hD hS => ?_)
  have hP : va_P C.1 vwCl (wO C mo (evm (nI n) ty (nI 0) pl fl tl) v o ++ ([(mo 1, .inl (C.2.2.1, 82, .inr (.inl (mB b)))), (mo 3, .inl (C.2.2.1, 492, .inr (.inl pa)))] : va_W)) H := hP
  have hD : va_D (q_A (wO C mo (evm (nI n) ty tw pl fl tl) v o ++ ([(mo 1, .inl (C.2.2.1, 82, .inr (.inl (mB b)))), (mo 3, .inl (C.2.2.1, 492, .inr (.inl pa)))] : va_W)) s) (wO C mo (evm (nI n) ty (nI 0) pl fl tl) v o ++ ([(mo 1, .inl (C.2.2.1, 82, .inr (.inl (mB b)))), (mo 3, .inl (C.2.2.1, 492, .inr (.inl pa)))] : va_W)) := hD
  refine lv_iload_n hx hb dX5_play_5 rfl (lv_at hl 1 rfl) ?_
  refine lv_iload_n hx hb dX5_play_6 rfl (lv_at hl 2 rfl) ?_
  refine q_S (As := [.int (nI rule), .int (nI k)]) (rest := []) ⟨hx, hb, hml, hown, hts⟩ (c_X5_isPlay l C (nI rule) (nI k)) (va_cwS 2 hts gX5_play_X5_isPlay rfl rfl rfl (by decide +kernel) ⟨Nat.le_of_ble_eq_true rfl, Nat.le_of_ble_eq_true rfl⟩) hK hP hD hS hA [] (by decide) rfl rfl hl.1 rfl (Nat.le_of_ble_eq_true rfl) dX5_play_7 (Nat.zero_le _) (Nat.zero_le _) (fun r w1 H locs hQ hP hD hS => ?_)
  obtain ⟨rfl, rfl⟩ := hQ
  refine W.eq (g2 := F0 m 10 ls [.int (q_b (decide (nI 0 ≤ (nI rule) ∧ (nI rule) ≤ nI 2) && decide (nI 1 ≤ (nI k) ∧ (nI k) ≤ nI 99)))]) rfl ?_
  refine lv_if_ne (tgt := 19) hx hb dX5_play_10 (by decide) (fun c10 => ?_) (fun c10 => ?_)
  · have c10 : (decide (nI 0 ≤ (nI rule) ∧ (nI rule) ≤ nI 2) && decide (nI 1 ≤ (nI k) ∧ (nI k) ≤ nI 99)) = true := q_b1.mp c10
    refine lv_aload_n hx hb dX5_play_19 rfl (lv_at hl 0 rfl) ?_
    refine va_get (ci := 5) (v := .ref (mo 1)) (C := RX5) (T := TX5) (N := 13) hx hb hts hin5 hown hK.1 hP 0 rfl rfl 0 (by decide) hf7 (fun _ h9 => h9) rfl dX5_play_20 ?_
    refine lv_iconst (v := nI 4) hx hb dX5_play_23 (by decide) ?_
    refine q_lald (n := 4) (v := mB b 4) hx hb hK hP 3 rfl (by decide) (by decide) rfl dX5_play_24 ?_
    refine q_tl (y := lN (sumU b)) (mB_4 b) ?_
    refine lv_iload_n hx hb dX5_play_25 rfl (lv_at hl 2 rfl) ?_
    refine lv_i2l (v := lN k) hx hb dX5_play_26 (nI_l (by omega)) ?_
    refine lv_ladd hx hb dX5_play_27 ?_
    refine q_tl (y := lN ((sumU b) + k)) (lN_add _ _) ?_
    refine lv_ldc2 hx hb hown hk142 dX5_play_28 ?_
    refine q_tl (y := lN 9999) (by decide) ?_
    refine W.lcmp hx hb dX5_play_31 ?_
    refine lv_if_le (tgt := 41) hx hb dX5_play_32 (by decide) (fun c32 => ?_) (fun c32 => ?_)
    · have c32 : ((sumU b) + k) ≤ 9999 := q_Lle (by omega) (by omega) c32
      refine lv_aload_n hx hb dX5_play_41 rfl (lv_at hl 0 rfl) ?_
      refine q_V (As := []) (rest := []) ⟨hx, hb, hml, hown, hts⟩ (c_X5_saves l C mo ty (nI 0) pl fl tl v o ph r n pa b hr6 hn6 hpa) (cwV 0 hts gX5_play_X5_saves rfl rfl rfl (by decide +kernel) ⟨Nat.le_of_ble_eq_true rfl, Nat.le_of_ble_eq_true rfl⟩) hK hP hD hS hA [0, 1, 2, 3, 4] (by decide) rfl 0 rfl rfl rfl rfl hl.1 rfl (Nat.le_of_ble_eq_true rfl) dX5_play_42 (Nat.zero_le _) (Nat.zero_le _) (fun r w1 H locs hQ hP hD hS => ?_)
      obtain ⟨pa1, rfl, rfl, hpa1⟩ := hQ
      have hP : va_P C.1 vwCl (wO C mo (evm (nI (kC n)) ty (nI 0) pl fl tl) v o ++ ([(mo 1, .inl (C.2.2.1, 82, .inr (.inl (mB b)))), (mo 3, .inl (C.2.2.1, 492, .inr (.inl pa1)))] : va_W)) H := hP
      have hD : va_D (q_A (wO C mo (evm (nI n) ty tw pl fl tl) v o ++ ([(mo 1, .inl (C.2.2.1, 82, .inr (.inl (mB b)))), (mo 3, .inl (C.2.2.1, 492, .inr (.inl pa)))] : va_W)) s) (wO C mo (evm (nI (kC n)) ty (nI 0) pl fl tl) v o ++ ([(mo 1, .inl (C.2.2.1, 82, .inr (.inl (mB b)))), (mo 3, .inl (C.2.2.1, 492, .inr (.inl pa1)))] : va_W)) := hD
      refine W.eq (g2 := F0 m 45 ls []) rfl ?_
      refine lv_aload_n hx hb dX5_play_45 rfl (lv_at hl 0 rfl) ?_
      refine va_get (ci := 5) (v := .ref (mo 1)) (C := RX5) (T := TX5) (N := 13) hx hb hts hin5 hown hK.1 hP 0 rfl rfl 0 (by decide) hf7 (fun _ h9 => h9) rfl dX5_play_46 ?_
      refine lv_iconst (v := nI 5) hx hb dX5_play_49 (by decide) ?_
      refine q_lald (n := 5) (v := mB b 5) hx hb hK hP 3 rfl (by decide) (by decide) rfl dX5_play_50 ?_
      refine q_tl (y := lN (bx b)) (mB_5 _) ?_
      refine lv_lstore_n (lv' := [(3, .long (lN (bx b))), (0, .ref (mo 0)), (1, .int (nI rule)), (2, .int (nI k))]) hx hb dX5_play_51 rfl hl (by decide) rfl (fun ls hl => ?_)
      refine lv_aload_n hx hb dX5_play_52 rfl (lv_at hl 1 rfl) ?_
      refine lv_aload_n hx hb dX5_play_53 rfl (lv_at hl 1 rfl) ?_
      refine va_get (ci := 5) (v := .ref (mo 1)) (C := RX5) (T := TX5) (N := 13) hx hb hts hin5 hown hK.1 hP 0 rfl rfl 0 (by decide) hf7 (fun _ h9 => h9) rfl dX5_play_54 ?_
      refine lv_iload_n hx hb dX5_play_57 rfl (lv_at hl 2 rfl) ?_
      refine lv_iload_n hx hb dX5_play_58 rfl (lv_at hl 3 rfl) ?_
      refine q_V (As := [.ref (mo 1), .int (nI rule), .int (nI k)]) (rest := []) ⟨hx, hb, hml, hown, hts⟩ (c_X5_plays l C mo (evm (nI (kC n)) ty (nI 0) pl fl tl) v o (mo 1) b rule k hB (by omega) (by omega)) (cwV 3 hts gX5_play_X5_plays rfl rfl rfl (by decide +kernel) ⟨Nat.le_of_ble_eq_true rfl, Nat.le_of_ble_eq_true rfl⟩) hK hP hD hS hA [0, 1, 2, 3] (by decide) rfl 0 rfl rfl rfl rfl hl.1 rfl (Nat.le_of_ble_eq_true rfl) dX5_play_59 (Nat.zero_le _) (Nat.zero_le _) (fun r w1 H locs hQ hP hD hS => ?_)
      obtain ⟨vx2, ox2, rfl, rfl⟩ := hQ
      have hP : va_P C.1 vwCl (wO C mo (evm (nI (kC n)) ty (nI 0) pl fl tl) vx2 ox2 ++ ([(mo 1, .inl (C.2.2.1, 82, .inr (.inl (mB (plN b (idxT b) rule k))))), (mo 3, .inl (C.2.2.1, 492, .inr (.inl pa1)))] : va_W)) H := hP
      have hD : va_D (q_A (wO C mo (evm (nI n) ty tw pl fl tl) v o ++ ([(mo 1, .inl (C.2.2.1, 82, .inr (.inl (mB b)))), (mo 3, .inl (C.2.2.1, 492, .inr (.inl pa)))] : va_W)) s) (wO C mo (evm (nI (kC n)) ty (nI 0) pl fl tl) vx2 ox2 ++ ([(mo 1, .inl (C.2.2.1, 82, .inr (.inl (mB (plN b (idxT b) rule k))))), (mo 3, .inl (C.2.2.1, 492, .inr (.inl pa1)))] : va_W)) := hD
      refine W.eq (g2 := F0 m 62 ls []) rfl ?_
      refine lv_aload_n hx hb dX5_play_62 rfl (lv_at hl 1 rfl) ?_
      refine va_get (ci := 5) (v := .ref (mo 1)) (C := RX5) (T := TX5) (N := 13) hx hb hts hin5 hown hK.1 hP 0 rfl rfl 0 (by decide) hf7 (fun _ h9 => h9) rfl dX5_play_63 ?_
      refine lv_iconst (v := nI 5) hx hb dX5_play_66 (by decide) ?_
      refine q_lald (n := 5) (v := mB (plN b (idxT b) rule k) 5) hx hb hK hP 3 rfl (by decide) (by decide) rfl dX5_play_67 ?_
      refine q_tl (y := lN (bx (plN b (idxT b) rule k))) (mB_5 _) ?_
      refine lv_lload_n hx hb dX5_play_68 rfl (lv_at hl 0 rfl) ?_
      refine lv_lsub hx hb dX5_play_69 ?_
      refine lv_l2i (v := ((lN (bx (plN b (idxT b) rule k))) - (lN (bx b))).toInt32) hx hb dX5_play_70 rfl ?_
      refine q_ti (y := nI (bx (plN b (idxT b) rule k)) - nI (bx b)) (l2i_sb _ _) ?_
      exact q_iret hx hb hr hlocks (w1 := wO C mo (evm (nI (kC n)) ty (nI 0) pl fl tl) vx2 ox2 ++ ([(mo 1, .inl (C.2.2.1, 82, .inr (.inl (mB (plN b (idxT b) rule k))))), (mo 3, .inl (C.2.2.1, 492, .inr (.inl pa1)))] : va_W)) hP hS rfl dX5_play_71 (⟨_, _, _, rfl, rfl, hpa1⟩)
    · have c32 : 9999 < ((sumU b) + k) := q_Lle' (by omega) (by omega) c32
      exact absurd hs (by omega)
  · have c10 : (decide (nI 0 ≤ (nI rule) ∧ (nI rule) ≤ nI 2) && decide (nI 1 ≤ (nI k) ∧ (nI k) ≤ nI 99)) = false := q_b0.mp c10
    exact absurd (c10.symm.trans (isT2 (inT (by omega) (by omega) (by decide)) (inT (by omega) (by omega) (by decide)))) (by decide)
set_option maxHeartbeats 4000000 in
set_option maxRecDepth 100000 in
theorem c_X5_begin (l : Launch) (C : q_C) (mo : Nat → Nat) (ty tw pl fl tl : Int32) (v o : Nat → Nat) (ph : Nat → Bd) (r n : Nat) (pa : Nat → Int64) (b : Bd) (x : Int64) (hr6 : r < 6) (hn6 : n ≤ 6) (hpa : mH ph r n pa) : q_M C l yX5_begin wsX5_begin 1 21 [.ref (mo 0), .long x] (wO C mo (evm (nI n) ty tw pl fl tl) v o ++ ([(mo 1, .inl (C.2.2.1, 82, .inr (.inl (mB b)))), (mo 3, .inl (C.2.2.1, 492, .inr (.inl pa)))] : va_W)) (fun r2 w => ∃ pa1, r2 = some (.int (nI (sumU b))) ∧ w = wO C mo (evm (nI (kC n)) ty (nI 0) pl fl tl) v o ++ ([(mo 1, .inl (C.2.2.1, 82, .inr (.inl (mB (begB b x))))), (mo 3, .inl (C.2.2.1, 492, .inr (.inl pa1)))] : va_W) ∧ mH (upB ph (kJ n r) b) (kR n r) (kC n) pa1) := by
  refine q_head (cc := cX5_begin) (maxL := 5) (ret := (some .int)) (by decide +kernel) rfl (Nat.le_of_ble_eq_true rfl) ?_
  intro p e s m below meth c hx hb hr hlocks hml hown hts hK hP hD hS hA ls hl
  have hl : lv_has ls 5 [(0, .ref (mo 0)), (1, .long x)] := hl
  have hf42 := hts (.fieldLink RX5 42 "RestedArmsModel" "thrown" "I") (by decide +kernel)
  have hf7 := hts (.fieldLink RX5 7 "RestedArmsModel" "now" "[J") (by decide +kernel)
  have hin5 : ∀ w ∈ u_ws RX5 TX5 13, w ∈ wsX5_begin := by decide +kernel
  have hk36 := hts (.constantLong RX5 36 (-1)) (by decide +kernel)
  have hk38 := hts (.constantLong RX5 38 (1000000)) (by decide +kernel)
  refine lv_aload_n hx hb dX5_begin_0 rfl (lv_at hl 0 rfl) ?_
  refine lv_iconst (v := nI 0) hx hb dX5_begin_1 (by decide) ?_
  refine va_put (ci := 5) (v := .int (nI 0)) (ty := .int) (C := RX5) (T := TX5) (N := 13) hx hb hts hin5 tyX5 tyX5_ok nmX5 hown hK.1 hP hD hS 0 rfl rfl 6 (by decide) hf42 (fun _ h9 => h9) rfl (by decide +kernel) rfl rfl (Nat.le_of_ble_eq_true rfl) dX5_begin_2 (fun H locs hP hD hS => ?_)
  have hP : va_P C.1 vwCl (wO C mo (evm (nI n) ty (nI 0) pl fl tl) v o ++ ([(mo 1, .inl (C.2.2.1, 82, .inr (.inl (mB b)))), (mo 3, .inl (C.2.2.1, 492, .inr (.inl pa)))] : va_W)) H := hP
  have hD : va_D (q_A (wO C mo (evm (nI n) ty tw pl fl tl) v o ++ ([(mo 1, .inl (C.2.2.1, 82, .inr (.inl (mB b)))), (mo 3, .inl (C.2.2.1, 492, .inr (.inl pa)))] : va_W)) s) (wO C mo (evm (nI n) ty (nI 0) pl fl tl) v o ++ ([(mo 1, .inl (C.2.2.1, 82, .inr (.inl (mB b)))), (mo 3, .inl (C.2.2.1, 492, .inr (.inl pa)))] : va_W)) := hD
  refine lv_aload_n hx hb dX5_begin_5 rfl (lv_at hl 0 rfl) ?_
  refine q_V (As := []) (rest := []) ⟨hx, hb, hml, hown, hts⟩ (c_X5_saves l C mo ty (nI 0) pl fl tl v o ph r n pa b hr6 hn6 hpa) (cwV 0 hts gX5_begin_X5_saves rfl rfl rfl (by decide +kernel) ⟨Nat.le_of_ble_eq_true rfl, Nat.le_of_ble_eq_true rfl⟩) hK hP hD hS hA [0, 1, 2, 3, 4] (by decide) rfl 0 rfl rfl rfl rfl hl.1 rfl (Nat.le_of_ble_eq_true rfl) dX5_begin_6 (Nat.zero_le _) (Nat.zero_le _) (fun r w1 H locs hQ hP hD hS => ?_)
  obtain ⟨pa1, rfl, rfl, hpa1⟩ := hQ
  have hP : va_P C.1 vwCl (wO C mo (evm (nI (kC n)) ty (nI 0) pl fl tl) v o ++ ([(mo 1, .inl (C.2.2.1, 82, .inr (.inl (mB b)))), (mo 3, .inl (C.2.2.1, 492, .inr (.inl pa1)))] : va_W)) H := hP
  have hD : va_D (q_A (wO C mo (evm (nI n) ty tw pl fl tl) v o ++ ([(mo 1, .inl (C.2.2.1, 82, .inr (.inl (mB b)))), (mo 3, .inl (C.2.2.1, 492, .inr (.inl pa)))] : va_W)) s) (wO C mo (evm (nI (kC n)) ty (nI 0) pl fl tl) v o ++ ([(mo 1, .inl (C.2.2.1, 82, .inr (.inl (mB b)))), (mo 3, .inl (C.2.2.1, 492, .inr (.inl pa1)))] : va_W)) := hD
  refine W.eq (g2 := F0 m 9 ls []) rfl ?_
  refine lv_aload_n hx hb dX5_begin_9 rfl (lv_at hl 0 rfl) ?_
  refine va_get (ci := 5) (v := .ref (mo 1)) (C := RX5) (T := TX5) (N := 13) hx hb hts hin5 hown hK.1 hP 0 rfl rfl 0 (by decide) hf7 (fun _ h9 => h9) rfl dX5_begin_10 ?_
  refine lv_iconst (v := nI 4) hx hb dX5_begin_13 (by decide) ?_
  refine q_lald (n := 4) (v := mB b 4) hx hb hK hP 3 rfl (by decide) (by decide) rfl dX5_begin_14 ?_
  refine lv_l2i (v := (mB b 4).toInt32) hx hb dX5_begin_15 rfl ?_
  refine q_ti (y := nI (sumU b)) (by rw [mB_4]; exact lN_i _) ?_
  refine lv_istore_n (lv' := [(3, .int (nI (sumU b))), (0, .ref (mo 0)), (1, .long x)]) hx hb dX5_begin_16 rfl hl (by decide) rfl (fun ls hl => ?_)
  refine lv_iconst (v := nI 4) hx hb dX5_begin_17 (by decide) ?_
  refine lv_istore (lv' := [(4, .int (nI 4)), (3, .int (nI (sumU b))), (0, .ref (mo 0)), (1, .long x)]) hx hb dX5_begin_18 hl (by decide) rfl (fun ls hl => ?_)
  have K20 : ∀ (n20 i20 : Nat), ∀ (x20 : Nat → Int64), i20 ≤ 18 → 18 + 1 ≤ i20 + n20 → (∀ j, (j < 4 ∨ 18 ≤ j) → x20 j = mB b j) → (∀ j, 4 ≤ j → j < i20 → x20 j = lN 0) → (4 ≤ i20) → ∀ (H : Heap) (locs : List Loc) (ls : Array Slot), va_P C.1 vwCl (wO C mo (evm (nI (kC n)) ty (nI 0) pl fl tl) v o ++ ([(mo 1, .inl (C.2.2.1, 82, .inr (.inl x20))), (mo 3, .inl (C.2.2.1, 492, .inr (.inl pa1)))] : va_W)) H → va_D (q_A (wO C mo (evm (nI n) ty tw pl fl tl) v o ++ ([(mo 1, .inl (C.2.2.1, 82, .inr (.inl (mB b)))), (mo 3, .inl (C.2.2.1, 492, .inr (.inl pa)))] : va_W)) s) (wO C mo (evm (nI (kC n)) ty (nI 0) pl fl tl) v o ++ ([(mo 1, .inl (C.2.2.1, 82, .inr (.inl x20))), (mo 3, .inl (C.2.2.1, 492, .inr (.inl pa1)))] : va_W)) → va_S (q_A (wO C mo (evm (nI n) ty tw pl fl tl) v o ++ ([(mo 1, .inl (C.2.2.1, 82, .inr (.inl (mB b)))), (mo 3, .inl (C.2.2.1, 492, .inr (.inl pa)))] : va_W)) s) s.heap H locs → lv_has ls 5 [(4, .int (nI i20)), (3, .int (nI (sumU b))), (0, .ref (mo 0)), (1, .long x)] → W p l e (q_R 1 21) s m ([.ref (mo 0), .long x] : List Value).toArray below meth c H locs 0 0 (q_G C below (wO C mo (evm (nI n) ty tw pl fl tl) v o ++ ([(mo 1, .inl (C.2.2.1, 82, .inr (.inl (mB b)))), (mo 3, .inl (C.2.2.1, 492, .inr (.inl pa)))] : va_W)) (fun r2 w => ∃ pa1, r2 = some (.int (nI (sumU b))) ∧ w = wO C mo (evm (nI (kC n)) ty (nI 0) pl fl tl) v o ++ ([(mo 1, .inl (C.2.2.1, 82, .inr (.inl (mB (begB b x))))), (mo 3, .inl (C.2.2.1, 492, .inr (.inl pa1)))] : va_W) ∧ mH (upB ph (kJ n r) b) (kR n r) (kC n) pa1) ([.ref (mo 0), .long x] : List Value).toArray s) (F0 m 20 ls []) := by
    intro n20
    induction n20 with
    | zero => intro i20 x20 q1 q2; exact absurd q2 (by omega)
    | succ n20 ih20 =>
      intro i20 x20 hi20 hn20 hx20 hy20 hl20 H locs ls hP hD hS hl
      refine lv_iload hx hb dX5_begin_20 (lv_at hl 0 rfl) ?_
      refine lv_bipush (v := nI 18) hx hb dX5_begin_22 (by decide) ?_
      refine lv_icmp_ge (tgt := 41) hx hb dX5_begin_24 (by decide) (fun c24 => ?_) (fun c24 => ?_)
      · have c24 : 18 ≤ i20 := q_nge (by omega) (by omega) c24
        refine lv_aload_n hx hb dX5_begin_41 rfl (lv_at hl 2 rfl) ?_
        refine va_get (ci := 5) (v := .ref (mo 1)) (C := RX5) (T := TX5) (N := 13) hx hb hts hin5 hown hK.1 hP 0 rfl rfl 0 (by decide) hf7 (fun _ h9 => h9) rfl dX5_begin_42 ?_
        refine lv_bipush (v := nI 6) hx hb dX5_begin_45 (by decide) ?_
        refine lv_ldc2 hx hb hown hk36 dX5_begin_47 ?_
        refine q_last (n := 6) hx hb hK hP hD hS 3 rfl (by decide) (by decide) dX5_begin_50 (fun H locs hP hD hS => ?_)
        have hP : va_P C.1 vwCl (wO C mo (evm (nI (kC n)) ty (nI 0) pl fl tl) v o ++ ([(mo 1, .inl (C.2.2.1, 82, .inr (.inl (vp_updL x20 6 (-1))))), (mo 3, .inl (C.2.2.1, 492, .inr (.inl pa1)))] : va_W)) H := hP
        have hD : va_D (q_A (wO C mo (evm (nI n) ty tw pl fl tl) v o ++ ([(mo 1, .inl (C.2.2.1, 82, .inr (.inl (mB b)))), (mo 3, .inl (C.2.2.1, 492, .inr (.inl pa)))] : va_W)) s) (wO C mo (evm (nI (kC n)) ty (nI 0) pl fl tl) v o ++ ([(mo 1, .inl (C.2.2.1, 82, .inr (.inl (vp_updL x20 6 (-1))))), (mo 3, .inl (C.2.2.1, 492, .inr (.inl pa1)))] : va_W)) := hD
        refine lv_aload_n hx hb dX5_begin_51 rfl (lv_at hl 2 rfl) ?_
        refine va_get (ci := 5) (v := .ref (mo 1)) (C := RX5) (T := TX5) (N := 13) hx hb hts hin5 hown hK.1 hP 0 rfl rfl 0 (by decide) hf7 (fun _ h9 => h9) rfl dX5_begin_52 ?_
        refine lv_bipush (v := nI 8) hx hb dX5_begin_55 (by decide) ?_
        refine lv_ldc2 hx hb hown hk38 dX5_begin_57 ?_
        refine q_tl (y := lN 1000000) (by decide) ?_
        refine q_last (n := 8) hx hb hK hP hD hS 3 rfl (by decide) (by decide) dX5_begin_60 (fun H locs hP hD hS => ?_)
        have hP : va_P C.1 vwCl (wO C mo (evm (nI (kC n)) ty (nI 0) pl fl tl) v o ++ ([(mo 1, .inl (C.2.2.1, 82, .inr (.inl (vp_updL (vp_updL x20 6 (-1)) 8 (lN 1000000))))), (mo 3, .inl (C.2.2.1, 492, .inr (.inl pa1)))] : va_W)) H := hP
        have hD : va_D (q_A (wO C mo (evm (nI n) ty tw pl fl tl) v o ++ ([(mo 1, .inl (C.2.2.1, 82, .inr (.inl (mB b)))), (mo 3, .inl (C.2.2.1, 492, .inr (.inl pa)))] : va_W)) s) (wO C mo (evm (nI (kC n)) ty (nI 0) pl fl tl) v o ++ ([(mo 1, .inl (C.2.2.1, 82, .inr (.inl (vp_updL (vp_updL x20 6 (-1)) 8 (lN 1000000))))), (mo 3, .inl (C.2.2.1, 492, .inr (.inl pa1)))] : va_W)) := hD
        refine lv_aload_n hx hb dX5_begin_61 rfl (lv_at hl 2 rfl) ?_
        refine va_get (ci := 5) (v := .ref (mo 1)) (C := RX5) (T := TX5) (N := 13) hx hb hts hin5 hown hK.1 hP 0 rfl rfl 0 (by decide) hf7 (fun _ h9 => h9) rfl dX5_begin_62 ?_
        refine lv_bipush (v := nI 9) hx hb dX5_begin_65 (by decide) ?_
        refine lv_lload_n hx hb dX5_begin_67 rfl (lv_at hl 3 rfl) ?_
        refine q_last (n := 9) hx hb hK hP hD hS 3 rfl (by decide) (by decide) dX5_begin_68 (fun H locs hP hD hS => ?_)
        have hP : va_P C.1 vwCl (wO C mo (evm (nI (kC n)) ty (nI 0) pl fl tl) v o ++ ([(mo 1, .inl (C.2.2.1, 82, .inr (.inl (vp_updL (vp_updL (vp_updL x20 6 (-1)) 8 (lN 1000000)) 9 x)))), (mo 3, .inl (C.2.2.1, 492, .inr (.inl pa1)))] : va_W)) H := hP
        have hD : va_D (q_A (wO C mo (evm (nI n) ty tw pl fl tl) v o ++ ([(mo 1, .inl (C.2.2.1, 82, .inr (.inl (mB b)))), (mo 3, .inl (C.2.2.1, 492, .inr (.inl pa)))] : va_W)) s) (wO C mo (evm (nI (kC n)) ty (nI 0) pl fl tl) v o ++ ([(mo 1, .inl (C.2.2.1, 82, .inr (.inl (vp_updL (vp_updL (vp_updL x20 6 (-1)) 8 (lN 1000000)) 9 x)))), (mo 3, .inl (C.2.2.1, 492, .inr (.inl pa1)))] : va_W)) := hD
        have e9 : i20 = 18 := by omega
        subst e9
        have hP := q_swpL (g := mB (begB b x)) hP 3 rfl (mB_beg hx20 hy20)
        have hD := hD.set (p := 3) (a := mo 1) (e := .inl (C.2.2.1, 82, .inr (.inl (mB (begB b x))))) rfl
        have hP : va_P C.1 vwCl (wO C mo (evm (nI (kC n)) ty (nI 0) pl fl tl) v o ++ ([(mo 1, .inl (C.2.2.1, 82, .inr (.inl (mB (begB b x))))), (mo 3, .inl (C.2.2.1, 492, .inr (.inl pa1)))] : va_W)) H := hP
        have hD : va_D (q_A (wO C mo (evm (nI n) ty tw pl fl tl) v o ++ ([(mo 1, .inl (C.2.2.1, 82, .inr (.inl (mB b)))), (mo 3, .inl (C.2.2.1, 492, .inr (.inl pa)))] : va_W)) s) (wO C mo (evm (nI (kC n)) ty (nI 0) pl fl tl) v o ++ ([(mo 1, .inl (C.2.2.1, 82, .inr (.inl (mB (begB b x))))), (mo 3, .inl (C.2.2.1, 492, .inr (.inl pa1)))] : va_W)) := hD
        refine lv_iload_n hx hb dX5_begin_69 rfl (lv_at hl 1 rfl) ?_
        exact q_iret hx hb hr hlocks (w1 := wO C mo (evm (nI (kC n)) ty (nI 0) pl fl tl) v o ++ ([(mo 1, .inl (C.2.2.1, 82, .inr (.inl (mB (begB b x))))), (mo 3, .inl (C.2.2.1, 492, .inr (.inl pa1)))] : va_W)) hP hS rfl dX5_begin_70 (⟨_, rfl, rfl, hpa1⟩)
      · have c24 : i20 < 18 := q_nge' (by omega) (by omega) c24
        refine lv_aload_n hx hb dX5_begin_27 rfl (lv_at hl 2 rfl) ?_
        refine va_get (ci := 5) (v := .ref (mo 1)) (C := RX5) (T := TX5) (N := 13) hx hb hts hin5 hown hK.1 hP 0 rfl rfl 0 (by decide) hf7 (fun _ h9 => h9) rfl dX5_begin_28 ?_
        refine lv_iload hx hb dX5_begin_31 (lv_at hl 0 rfl) ?_
        refine lv_lconst (v := lN 0) hx hb dX5_begin_33 (by decide) ?_
        refine q_last (n := i20) hx hb hK hP hD hS 3 rfl (by omega) (by decide) dX5_begin_34 (fun H locs hP hD hS => ?_)
        have hP : va_P C.1 vwCl (wO C mo (evm (nI (kC n)) ty (nI 0) pl fl tl) v o ++ ([(mo 1, .inl (C.2.2.1, 82, .inr (.inl (vp_updL x20 i20 (lN 0))))), (mo 3, .inl (C.2.2.1, 492, .inr (.inl pa1)))] : va_W)) H := hP
        have hD : va_D (q_A (wO C mo (evm (nI n) ty tw pl fl tl) v o ++ ([(mo 1, .inl (C.2.2.1, 82, .inr (.inl (mB b)))), (mo 3, .inl (C.2.2.1, 492, .inr (.inl pa)))] : va_W)) s) (wO C mo (evm (nI (kC n)) ty (nI 0) pl fl tl) v o ++ ([(mo 1, .inl (C.2.2.1, 82, .inr (.inl (vp_updL x20 i20 (lN 0))))), (mo 3, .inl (C.2.2.1, 492, .inr (.inl pa1)))] : va_W)) := hD
        refine lv_iinc (v := nI (i20 + 1)) (lv' := [(4, .int (nI (i20 + 1))), (3, .int (nI (sumU b))), (0, .ref (mo 0)), (1, .long x)]) hx hb dX5_begin_35 hl (k := 0) rfl (nI_1 _) (by decide) rfl (fun ls hl => ?_)
        refine lv_goto (tgt := 20) hx hb dX5_begin_38 (by decide) ?_
        exact ih20 (i20 + 1) (vp_updL x20 i20 (lN 0)) (by omega) (by omega) (fun j hj => by rw [pk_uLn (by omega)]; exact hx20 j hj) (fun j h4 hj => by
              by_cases q : j = i20
              · subst q; exact pk_uLs
              · rw [pk_uLn q]; exact hy20 j h4 (by omega)) (by omega) _ _ ls hP hD hS (lv_sub hl [0, 1, 2, 3] rfl)
  exact K20 (18 + 1 - 4) 4 (mB b) (by omega) (by omega) (fun _ _ => rfl) (fun j h4 hj => absurd hj (by omega)) (Nat.le_refl 4) _ _ ls hP hD hS (lv_sub hl [0, 1, 2, 3] rfl)
set_option maxHeartbeats 4000000 in
set_option maxRecDepth 100000 in
theorem c1_X5_append (l : Launch) (C : q_C) (mo : Nat → Nat) (kp ty tw pl fl tl : Int32) (v o : Nat → Nat) (x : Int32) (hxx : decide (nI 33 ≤ x ∧ x ≤ nI 126) = false) : q_M C l yX5_append wsX5_append 1 23 [.ref (mo 0), .int x] (wO C mo (evm kp ty tw pl fl tl) v o) (fun r w => r = some (.int (nI 0)) ∧ w = wO C mo (evm kp ty (nI 1) pl fl tl) v o) := by
  refine q_head (cc := cX5_append) (maxL := 2) (ret := (some .int)) (by decide +kernel) rfl (Nat.le_of_ble_eq_true rfl) ?_
  intro p e s m below meth c hx hb hr hlocks hml hown hts hK hP hD hS hA ls hl
  have hl : lv_has ls 2 [(0, .ref (mo 0)), (1, .int x)] := hl
  have hf42 := hts (.fieldLink RX5 42 "RestedArmsModel" "thrown" "I") (by decide +kernel)
  have hin5 : ∀ w ∈ u_ws RX5 TX5 13, w ∈ wsX5_append := by decide +kernel
  refine lv_aload_n hx hb dX5_append_0 rfl (lv_at hl 0 rfl) ?_
  refine lv_iconst (v := nI 0) hx hb dX5_append_1 (by decide) ?_
  refine va_put (ci := 5) (v := .int (nI 0)) (ty := .int) (C := RX5) (T := TX5) (N := 13) hx hb hts hin5 tyX5 tyX5_ok nmX5 hown hK.1 hP hD hS 0 rfl rfl 6 (by decide) hf42 (fun _ h9 => h9) rfl (by decide +kernel) rfl rfl (Nat.le_of_ble_eq_true rfl) dX5_append_2 (fun H locs hP hD hS => ?_)
  have hP : va_P C.1 vwCl (wO C mo (evm kp ty (nI 0) pl fl tl) v o) H := hP
  have hD : va_D (q_A (wO C mo (evm kp ty tw pl fl tl) v o) s) (wO C mo (evm kp ty (nI 0) pl fl tl) v o) := hD
  refine lv_iload_n hx hb dX5_append_5 rfl (lv_at hl 1 rfl) ?_
  refine lv_i2l (v := x.toInt64) hx hb dX5_append_6 rfl ?_
  refine lv_bipush (v := nI 33) hx hb dX5_append_7 (by decide) ?_
  refine lv_bipush (v := nI 126) hx hb dX5_append_9 (by decide) ?_
  refine q_S (As := [.long x.toInt64, .int (nI 33), .int (nI 126)]) (rest := []) ⟨hx, hb, hml, hown, hts⟩ (c_in32 l C x (nI 33) (nI 126)) (va_cwS 3 hts gX5_append_X5_in rfl rfl rfl (by decide +kernel) ⟨Nat.le_of_ble_eq_true rfl, Nat.le_of_ble_eq_true rfl⟩) hK hP hD hS hA [] (by decide) rfl rfl hl.1 rfl (Nat.le_of_ble_eq_true rfl) dX5_append_11 (Nat.zero_le _) (Nat.zero_le _) (fun r w1 H locs hQ hP hD hS => ?_)
  obtain ⟨rfl, rfl⟩ := hQ
  refine W.eq (g2 := F0 m 14 ls [.int (q_b (decide (nI 33 ≤ x ∧ x ≤ nI 126)))]) rfl ?_
  refine lv_if_ne (tgt := 23) hx hb dX5_append_14 (by decide) (fun c14 => ?_) (fun c14 => ?_)
  · have c14 : decide (nI 33 ≤ x ∧ x ≤ nI 126) = true := q_b1.mp c14
    exact absurd hxx (by rw [c14]; decide)
  have c14 : decide (nI 33 ≤ x ∧ x ≤ nI 126) = false := q_b0.mp c14
  refine lv_aload_n hx hb dX5_append_17 rfl (lv_at hl 0 rfl) ?_
  refine lv_iconst (v := nI 1) hx hb dX5_append_18 (by decide) ?_
  refine q_V (As := [.int (nI 1)]) (rest := []) ⟨hx, hb, hml, hown, hts⟩ (c_X5_fails l C mo kp ty (nI 0) pl fl tl v o 1) (cwV 1 hts gX5_append_X5_fails rfl rfl rfl (by decide +kernel) ⟨Nat.le_of_ble_eq_true rfl, Nat.le_of_ble_eq_true rfl⟩) hK hP hD hS hA [0, 1, 2] (by decide) rfl 0 rfl rfl rfl rfl hl.1 rfl (Nat.le_of_ble_eq_true rfl) dX5_append_19 (Nat.zero_le _) (Nat.zero_le _) (fun r w1 H locs hQ hP hD hS => ?_)
  obtain ⟨rfl, rfl⟩ := hQ
  have hP : va_P C.1 vwCl (wO C mo (evm kp ty (nI 1) pl fl tl) v o) H := hP
  have hD : va_D (q_A (wO C mo (evm kp ty tw pl fl tl) v o) s) (wO C mo (evm kp ty (nI 1) pl fl tl) v o) := hD
  refine W.eq (g2 := F0 m 22 ls [.int (nI 0)]) rfl ?_
  exact q_iret hx hb hr hlocks (w1 := wO C mo (evm kp ty (nI 1) pl fl tl) v o) hP hS rfl dX5_append_22 (⟨rfl, rfl⟩)
set_option maxHeartbeats 4000000 in
set_option maxRecDepth 100000 in
theorem c2_X5_append (l : Launch) (C : q_C) (mo : Nat → Nat) (kp tw pl fl tl : Int32) (v o : Nat → Nat) (x : Nat) (h1 : 33 ≤ x) (h2 : x ≤ 126) : q_M C l yX5_append wsX5_append 1 23 [.ref (mo 0), .int (nI x)] (wO C mo (evm kp (nI 60) tw pl fl tl) v o) (fun r w => r = some (.int (nI 0)) ∧ w = wO C mo (evm kp (nI 60) (nI 2) pl fl tl) v o) := by
  refine q_head (cc := cX5_append) (maxL := 2) (ret := (some .int)) (by decide +kernel) rfl (Nat.le_of_ble_eq_true rfl) ?_
  intro p e s m below meth c hx hb hr hlocks hml hown hts hK hP hD hS hA ls hl
  have hl : lv_has ls 2 [(0, .ref (mo 0)), (1, .int (nI x))] := hl
  have hf150 := hts (.fieldLink RX5 150 "RestedArmsModel" "typed" "I") (by decide +kernel)
  have hf42 := hts (.fieldLink RX5 42 "RestedArmsModel" "thrown" "I") (by decide +kernel)
  have hin5 : ∀ w ∈ u_ws RX5 TX5 13, w ∈ wsX5_append := by decide +kernel
  refine lv_aload_n hx hb dX5_append_0 rfl (lv_at hl 0 rfl) ?_
  refine lv_iconst (v := nI 0) hx hb dX5_append_1 (by decide) ?_
  refine va_put (ci := 5) (v := .int (nI 0)) (ty := .int) (C := RX5) (T := TX5) (N := 13) hx hb hts hin5 tyX5 tyX5_ok nmX5 hown hK.1 hP hD hS 0 rfl rfl 6 (by decide) hf42 (fun _ h9 => h9) rfl (by decide +kernel) rfl rfl (Nat.le_of_ble_eq_true rfl) dX5_append_2 (fun H locs hP hD hS => ?_)
  have hP : va_P C.1 vwCl (wO C mo (evm kp (nI 60) (nI 0) pl fl tl) v o) H := hP
  have hD : va_D (q_A (wO C mo (evm kp (nI 60) tw pl fl tl) v o) s) (wO C mo (evm kp (nI 60) (nI 0) pl fl tl) v o) := hD
  refine lv_iload_n hx hb dX5_append_5 rfl (lv_at hl 1 rfl) ?_
  refine lv_i2l (v := lN x) hx hb dX5_append_6 (nI_l (by omega)) ?_
  refine lv_bipush (v := nI 33) hx hb dX5_append_7 (by decide) ?_
  refine lv_bipush (v := nI 126) hx hb dX5_append_9 (by decide) ?_
  refine q_S (As := [.long (lN x), .int (nI 33), .int (nI 126)]) (rest := []) ⟨hx, hb, hml, hown, hts⟩ (c_inN l C x 33 126 (by omega) (by omega) (by omega)) (va_cwS 3 hts gX5_append_X5_in rfl rfl rfl (by decide +kernel) ⟨Nat.le_of_ble_eq_true rfl, Nat.le_of_ble_eq_true rfl⟩) hK hP hD hS hA [] (by decide) rfl rfl hl.1 rfl (Nat.le_of_ble_eq_true rfl) dX5_append_11 (Nat.zero_le _) (Nat.zero_le _) (fun r w1 H locs hQ hP hD hS => ?_)
  obtain ⟨rfl, rfl⟩ := hQ
  refine W.eq (g2 := F0 m 14 ls [.int (q_b (decide (33 ≤ x ∧ x ≤ 126)))]) rfl ?_
  refine lv_if_ne (tgt := 23) hx hb dX5_append_14 (by decide) (fun c14 => ?_) (fun c14 => ?_)
  · have c14 : decide (33 ≤ x ∧ x ≤ 126) = true := q_b1.mp c14
    refine lv_aload_n hx hb dX5_append_23 rfl (lv_at hl 0 rfl) ?_
    refine va_get (ci := 5) (v := .int (nI 60)) (C := RX5) (T := TX5) (N := 13) hx hb hts hin5 hown hK.1 hP 0 rfl rfl 5 (by decide) hf150 (fun _ h9 => h9) rfl dX5_append_24 ?_
    refine lv_bipush (v := nI 60) hx hb dX5_append_27 (by decide) ?_
    refine lv_icmp_ne (tgt := 38) hx hb dX5_append_29 (by decide) (fun c => absurd c (by decide)) (fun _ => ?_)
    refine lv_aload_n hx hb dX5_append_32 rfl (lv_at hl 0 rfl) ?_
    refine lv_iconst (v := nI 2) hx hb dX5_append_33 (by decide) ?_
    refine q_V (As := [.int (nI 2)]) (rest := []) ⟨hx, hb, hml, hown, hts⟩ (c_X5_fails l C mo kp (nI 60) (nI 0) pl fl tl v o 2) (cwV 1 hts gX5_append_X5_fails rfl rfl rfl (by decide +kernel) ⟨Nat.le_of_ble_eq_true rfl, Nat.le_of_ble_eq_true rfl⟩) hK hP hD hS hA [0, 1, 2] (by decide) rfl 0 rfl rfl rfl rfl hl.1 rfl (Nat.le_of_ble_eq_true rfl) dX5_append_34 (Nat.zero_le _) (Nat.zero_le _) (fun r w1 H locs hQ hP hD hS => ?_)
    obtain ⟨rfl, rfl⟩ := hQ
    have hP : va_P C.1 vwCl (wO C mo (evm kp (nI 60) (nI 2) pl fl tl) v o) H := hP
    have hD : va_D (q_A (wO C mo (evm kp (nI 60) tw pl fl tl) v o) s) (wO C mo (evm kp (nI 60) (nI 2) pl fl tl) v o) := hD
    refine W.eq (g2 := F0 m 37 ls [.int (nI 0)]) rfl ?_
    exact q_iret hx hb hr hlocks (w1 := wO C mo (evm kp (nI 60) (nI 2) pl fl tl) v o) hP hS rfl dX5_append_37 (⟨rfl, rfl⟩)
  · have c14 : decide (33 ≤ x ∧ x ≤ 126) = false := q_b0.mp c14
    exact absurd (show _ ∧ _ from ⟨by omega, by omega⟩) (of_decide_eq_false c14)
set_option maxHeartbeats 4000000 in
set_option maxRecDepth 100000 in
theorem c_X5_append (l : Launch) (C : q_C) (mo : Nat → Nat) (kp tw pl fl tl : Int32) (v o : Nat → Nat) (n x : Nat) (cd : Nat → Nat) (h1 : 33 ≤ x) (h2 : x ≤ 126) (hn : n < 60) : q_M C l yX5_append wsX5_append 1 23 [.ref (mo 0), .int (nI x)] (wO C mo (evm kp (nI n) tw pl fl tl) v o ++ ([(mo 4, .inl (C.2.1, 60, .inl (fun k => nI (cd k))))] : va_W)) (fun r w => r = some (.int (nI (n + 1))) ∧ w = wO C mo (evm kp (nI (n + 1)) (nI 0) pl fl tl) v o ++ ([(mo 4, .inl (C.2.1, 60, .inl (fun k => nI ((upN cd n x) k))))] : va_W)) := by
  refine q_head (cc := cX5_append) (maxL := 2) (ret := (some .int)) (by decide +kernel) rfl (Nat.le_of_ble_eq_true rfl) ?_
  intro p e s m below meth c hx hb hr hlocks hml hown hts hK hP hD hS hA ls hl
  have hl : lv_has ls 2 [(0, .ref (mo 0)), (1, .int (nI x))] := hl
  have hf150 := hts (.fieldLink RX5 150 "RestedArmsModel" "typed" "I") (by decide +kernel)
  have hf19 := hts (.fieldLink RX5 19 "RestedArmsModel" "text" "[I") (by decide +kernel)
  have hf42 := hts (.fieldLink RX5 42 "RestedArmsModel" "thrown" "I") (by decide +kernel)
  have hin5 : ∀ w ∈ u_ws RX5 TX5 13, w ∈ wsX5_append := by decide +kernel
  refine lv_aload_n hx hb dX5_append_0 rfl (lv_at hl 0 rfl) ?_
  refine lv_iconst (v := nI 0) hx hb dX5_append_1 (by decide) ?_
  refine va_put (ci := 5) (v := .int (nI 0)) (ty := .int) (C := RX5) (T := TX5) (N := 13) hx hb hts hin5 tyX5 tyX5_ok nmX5 hown hK.1 hP hD hS 0 rfl rfl 6 (by decide) hf42 (fun _ h9 => h9) rfl (by decide +kernel) rfl rfl (Nat.le_of_ble_eq_true rfl) dX5_append_2 (fun H locs hP hD hS => ?_)
  have hP : va_P C.1 vwCl (wO C mo (evm kp (nI n) (nI 0) pl fl tl) v o ++ ([(mo 4, .inl (C.2.1, 60, .inl (fun k => nI (cd k))))] : va_W)) H := hP
  have hD : va_D (q_A (wO C mo (evm kp (nI n) tw pl fl tl) v o ++ ([(mo 4, .inl (C.2.1, 60, .inl (fun k => nI (cd k))))] : va_W)) s) (wO C mo (evm kp (nI n) (nI 0) pl fl tl) v o ++ ([(mo 4, .inl (C.2.1, 60, .inl (fun k => nI (cd k))))] : va_W)) := hD
  refine lv_iload_n hx hb dX5_append_5 rfl (lv_at hl 1 rfl) ?_
  refine lv_i2l (v := lN x) hx hb dX5_append_6 (nI_l (by omega)) ?_
  refine lv_bipush (v := nI 33) hx hb dX5_append_7 (by decide) ?_
  refine lv_bipush (v := nI 126) hx hb dX5_append_9 (by decide) ?_
  refine q_S (As := [.long (lN x), .int (nI 33), .int (nI 126)]) (rest := []) ⟨hx, hb, hml, hown, hts⟩ (c_inN l C x 33 126 (by omega) (by omega) (by omega)) (va_cwS 3 hts gX5_append_X5_in rfl rfl rfl (by decide +kernel) ⟨Nat.le_of_ble_eq_true rfl, Nat.le_of_ble_eq_true rfl⟩) hK hP hD hS hA [] (by decide) rfl rfl hl.1 rfl (Nat.le_of_ble_eq_true rfl) dX5_append_11 (Nat.zero_le _) (Nat.zero_le _) (fun r w1 H locs hQ hP hD hS => ?_)
  obtain ⟨rfl, rfl⟩ := hQ
  refine W.eq (g2 := F0 m 14 ls [.int (q_b (decide (33 ≤ x ∧ x ≤ 126)))]) rfl ?_
  refine lv_if_ne (tgt := 23) hx hb dX5_append_14 (by decide) (fun c14 => ?_) (fun c14 => ?_)
  · have c14 : decide (33 ≤ x ∧ x ≤ 126) = true := q_b1.mp c14
    refine lv_aload_n hx hb dX5_append_23 rfl (lv_at hl 0 rfl) ?_
    refine va_get (ci := 5) (v := .int (nI n)) (C := RX5) (T := TX5) (N := 13) hx hb hts hin5 hown hK.1 hP 0 rfl rfl 5 (by decide) hf150 (fun _ h9 => h9) rfl dX5_append_24 ?_
    refine lv_bipush (v := nI 60) hx hb dX5_append_27 (by decide) ?_
    refine lv_icmp_ne (tgt := 38) hx hb dX5_append_29 (by decide) (fun c29 => ?_) (fun c29 => ?_)
    · have c29 : n ≠ 60 := q_nne (by omega) (by omega) c29
      refine lv_aload_n hx hb dX5_append_38 rfl (lv_at hl 0 rfl) ?_
      refine va_get (ci := 5) (v := .ref (mo 4)) (C := RX5) (T := TX5) (N := 13) hx hb hts hin5 hown hK.1 hP 0 rfl rfl 4 (by decide) hf19 (fun _ h9 => h9) rfl dX5_append_39 ?_
      refine lv_aload_n hx hb dX5_append_42 rfl (lv_at hl 0 rfl) ?_
      refine va_get (ci := 5) (v := .int (nI n)) (C := RX5) (T := TX5) (N := 13) hx hb hts hin5 hown hK.1 hP 0 rfl rfl 5 (by decide) hf150 (fun _ h9 => h9) rfl dX5_append_43 ?_
      refine lv_iload_n hx hb dX5_append_46 rfl (lv_at hl 1 rfl) ?_
      refine q_iast (n := n) hx hb hK hP hD hS 3 rfl (by omega) (by decide) dX5_append_47 (fun H locs hP hD hS => ?_)
      rw [q_upd] at hP hD
      have hP : va_P C.1 vwCl (wO C mo (evm kp (nI n) (nI 0) pl fl tl) v o ++ ([(mo 4, .inl (C.2.1, 60, .inl (fun k => nI (upN cd n x k))))] : va_W)) H := hP
      have hD : va_D (q_A (wO C mo (evm kp (nI n) tw pl fl tl) v o ++ ([(mo 4, .inl (C.2.1, 60, .inl (fun k => nI (cd k))))] : va_W)) s) (wO C mo (evm kp (nI n) (nI 0) pl fl tl) v o ++ ([(mo 4, .inl (C.2.1, 60, .inl (fun k => nI (upN cd n x k))))] : va_W)) := hD
      refine lv_aload_n hx hb dX5_append_48 rfl (lv_at hl 0 rfl) ?_
      refine lv_dup hx hb dX5_append_49 rfl ?_
      refine va_get (ci := 5) (v := .int (nI n)) (C := RX5) (T := TX5) (N := 13) hx hb hts hin5 hown hK.1 hP 0 rfl rfl 5 (by decide) hf150 (fun _ h9 => h9) rfl dX5_append_50 ?_
      refine lv_iconst (v := nI 1) hx hb dX5_append_53 (by decide) ?_
      refine lv_iadd hx hb dX5_append_54 ?_
      refine q_ti (y := nI (n + 1)) (nI_add _ _) ?_
      refine va_put (ci := 5) (v := .int (nI (n + 1))) (ty := .int) (C := RX5) (T := TX5) (N := 13) hx hb hts hin5 tyX5 tyX5_ok nmX5 hown hK.1 hP hD hS 0 rfl rfl 5 (by decide) hf150 (fun _ h9 => h9) rfl (by decide +kernel) rfl rfl (Nat.le_of_ble_eq_true rfl) dX5_append_55 (fun H locs hP hD hS => ?_)
      have hP : va_P C.1 vwCl (wO C mo (evm kp (nI (n + 1)) (nI 0) pl fl tl) v o ++ ([(mo 4, .inl (C.2.1, 60, .inl (fun k => nI (upN cd n x k))))] : va_W)) H := hP
      have hD : va_D (q_A (wO C mo (evm kp (nI n) tw pl fl tl) v o ++ ([(mo 4, .inl (C.2.1, 60, .inl (fun k => nI (cd k))))] : va_W)) s) (wO C mo (evm kp (nI (n + 1)) (nI 0) pl fl tl) v o ++ ([(mo 4, .inl (C.2.1, 60, .inl (fun k => nI (upN cd n x k))))] : va_W)) := hD
      refine lv_aload_n hx hb dX5_append_58 rfl (lv_at hl 0 rfl) ?_
      refine va_get (ci := 5) (v := .int (nI (n + 1))) (C := RX5) (T := TX5) (N := 13) hx hb hts hin5 hown hK.1 hP 0 rfl rfl 5 (by decide) hf150 (fun _ h9 => h9) rfl dX5_append_59 ?_
      exact q_iret hx hb hr hlocks (w1 := wO C mo (evm kp (nI (n + 1)) (nI 0) pl fl tl) v o ++ ([(mo 4, .inl (C.2.1, 60, .inl (fun k => nI (upN cd n x k))))] : va_W)) hP hS rfl dX5_append_62 (⟨rfl, rfl⟩)
    · have c29 : n = 60 := q_nne' (by omega) (by omega) c29
      exact absurd hn (by omega)
  · have c14 : decide (33 ≤ x ∧ x ≤ 126) = false := q_b0.mp c14
    exact absurd (show _ ∧ _ from ⟨by omega, by omega⟩) (of_decide_eq_false c14)
set_option maxHeartbeats 4000000 in
set_option maxRecDepth 100000 in
theorem c_X5_clearBuffer (l : Launch) (C : q_C) (mo : Nat → Nat) (kp tw pl fl tl : Int32) (v o : Nat → Nat) (n : Nat) : q_M C l yX5_clearBuffer wsX5_clearBuffer 0 0 [.ref (mo 0)] (wO C mo (evm kp (nI n) tw pl fl tl) v o) (fun r w => r = some (.int (nI n)) ∧ w = wO C mo (evm kp (nI 0) (nI 0) pl fl tl) v o) := by
  refine q_head (cc := cX5_clearBuffer) (maxL := 2) (ret := (some .int)) (by decide +kernel) rfl (Nat.le_of_ble_eq_true rfl) ?_
  intro p e s m below meth c hx hb hr hlocks hml hown hts hK hP hD hS hA ls hl
  have hl : lv_has ls 2 [(0, .ref (mo 0))] := hl
  have hf150 := hts (.fieldLink RX5 150 "RestedArmsModel" "typed" "I") (by decide +kernel)
  have hf42 := hts (.fieldLink RX5 42 "RestedArmsModel" "thrown" "I") (by decide +kernel)
  have hin5 : ∀ w ∈ u_ws RX5 TX5 13, w ∈ wsX5_clearBuffer := by decide +kernel
  refine lv_aload_n hx hb dX5_clearBuffer_0 rfl (lv_at hl 0 rfl) ?_
  refine lv_iconst (v := nI 0) hx hb dX5_clearBuffer_1 (by decide) ?_
  refine va_put (ci := 5) (v := .int (nI 0)) (ty := .int) (C := RX5) (T := TX5) (N := 13) hx hb hts hin5 tyX5 tyX5_ok nmX5 hown hK.1 hP hD hS 0 rfl rfl 6 (by decide) hf42 (fun _ h9 => h9) rfl (by decide +kernel) rfl rfl (Nat.le_of_ble_eq_true rfl) dX5_clearBuffer_2 (fun H locs hP hD hS => ?_)
  have hP : va_P C.1 vwCl (wO C mo (evm kp (nI n) (nI 0) pl fl tl) v o) H := hP
  have hD : va_D (q_A (wO C mo (evm kp (nI n) tw pl fl tl) v o) s) (wO C mo (evm kp (nI n) (nI 0) pl fl tl) v o) := hD
  refine lv_aload_n hx hb dX5_clearBuffer_5 rfl (lv_at hl 0 rfl) ?_
  refine va_get (ci := 5) (v := .int (nI n)) (C := RX5) (T := TX5) (N := 13) hx hb hts hin5 hown hK.1 hP 0 rfl rfl 5 (by decide) hf150 (fun _ h9 => h9) rfl dX5_clearBuffer_6 ?_
  refine lv_istore_n (lv' := [(1, .int (nI n)), (0, .ref (mo 0))]) hx hb dX5_clearBuffer_9 rfl hl (by decide) rfl (fun ls hl => ?_)
  refine lv_aload_n hx hb dX5_clearBuffer_10 rfl (lv_at hl 1 rfl) ?_
  refine lv_iconst (v := nI 0) hx hb dX5_clearBuffer_11 (by decide) ?_
  refine va_put (ci := 5) (v := .int (nI 0)) (ty := .int) (C := RX5) (T := TX5) (N := 13) hx hb hts hin5 tyX5 tyX5_ok nmX5 hown hK.1 hP hD hS 0 rfl rfl 5 (by decide) hf150 (fun _ h9 => h9) rfl (by decide +kernel) rfl rfl (Nat.le_of_ble_eq_true rfl) dX5_clearBuffer_12 (fun H locs hP hD hS => ?_)
  have hP : va_P C.1 vwCl (wO C mo (evm kp (nI 0) (nI 0) pl fl tl) v o) H := hP
  have hD : va_D (q_A (wO C mo (evm kp (nI n) tw pl fl tl) v o) s) (wO C mo (evm kp (nI 0) (nI 0) pl fl tl) v o) := hD
  refine lv_iload_n hx hb dX5_clearBuffer_15 rfl (lv_at hl 0 rfl) ?_
  exact q_iret hx hb hr hlocks (w1 := wO C mo (evm kp (nI 0) (nI 0) pl fl tl) v o) hP hS rfl dX5_clearBuffer_16 (⟨rfl, rfl⟩)
set_option maxHeartbeats 4000000 in
set_option maxRecDepth 100000 in
theorem c1_X5_undo (l : Launch) (C : q_C) (mo : Nat → Nat) (ty tw pl fl tl : Int32) (v o : Nat → Nat) : q_M C l yX5_undo wsX5_undo 1 21 [.ref (mo 0)] (wO C mo (evm (nI 0) ty tw pl fl tl) v o) (fun r w => r = some (.int (nI 0)) ∧ w = wO C mo (evm (nI 0) ty (nI 1) pl fl tl) v o) := by
  refine q_head (cc := cX5_undo) (maxL := 2) (ret := (some .int)) (by decide +kernel) rfl (Nat.le_of_ble_eq_true rfl) ?_
  intro p e s m below meth c hx hb hr hlocks hml hown hts hK hP hD hS hA ls hl
  have hl : lv_has ls 2 [(0, .ref (mo 0))] := hl
  have hf42 := hts (.fieldLink RX5 42 "RestedArmsModel" "thrown" "I") (by decide +kernel)
  have hf50 := hts (.fieldLink RX5 50 "RestedArmsModel" "kept" "I") (by decide +kernel)
  have hin5 : ∀ w ∈ u_ws RX5 TX5 13, w ∈ wsX5_undo := by decide +kernel
  refine lv_aload_n hx hb dX5_undo_0 rfl (lv_at hl 0 rfl) ?_
  refine lv_iconst (v := nI 0) hx hb dX5_undo_1 (by decide) ?_
  refine va_put (ci := 5) (v := .int (nI 0)) (ty := .int) (C := RX5) (T := TX5) (N := 13) hx hb hts hin5 tyX5 tyX5_ok nmX5 hown hK.1 hP hD hS 0 rfl rfl 6 (by decide) hf42 (fun _ h9 => h9) rfl (by decide +kernel) rfl rfl (Nat.le_of_ble_eq_true rfl) dX5_undo_2 (fun H locs hP hD hS => ?_)
  have hP : va_P C.1 vwCl (wO C mo (evm (nI 0) ty (nI 0) pl fl tl) v o) H := hP
  have hD : va_D (q_A (wO C mo (evm (nI 0) ty tw pl fl tl) v o) s) (wO C mo (evm (nI 0) ty (nI 0) pl fl tl) v o) := hD
  refine lv_aload_n hx hb dX5_undo_5 rfl (lv_at hl 0 rfl) ?_
  refine va_get (ci := 5) (v := .int (nI 0)) (C := RX5) (T := TX5) (N := 13) hx hb hts hin5 hown hK.1 hP 0 rfl rfl 3 (by decide) hf50 (fun _ h9 => h9) rfl dX5_undo_6 ?_
  refine lv_if_ne (tgt := 18) hx hb dX5_undo_9 (by decide) (fun c => absurd c (by decide)) (fun _ => ?_)
  refine lv_aload_n hx hb dX5_undo_12 rfl (lv_at hl 0 rfl) ?_
  refine lv_iconst (v := nI 1) hx hb dX5_undo_13 (by decide) ?_
  refine q_V (As := [.int (nI 1)]) (rest := []) ⟨hx, hb, hml, hown, hts⟩ (c_X5_fails l C mo (nI 0) ty (nI 0) pl fl tl v o 1) (cwV 1 hts gX5_undo_X5_fails rfl rfl rfl (by decide +kernel) ⟨Nat.le_of_ble_eq_true rfl, Nat.le_of_ble_eq_true rfl⟩) hK hP hD hS hA [0, 1, 2] (by decide) rfl 0 rfl rfl rfl rfl hl.1 rfl (Nat.le_of_ble_eq_true rfl) dX5_undo_14 (Nat.zero_le _) (Nat.zero_le _) (fun r w1 H locs hQ hP hD hS => ?_)
  obtain ⟨rfl, rfl⟩ := hQ
  have hP : va_P C.1 vwCl (wO C mo (evm (nI 0) ty (nI 1) pl fl tl) v o) H := hP
  have hD : va_D (q_A (wO C mo (evm (nI 0) ty tw pl fl tl) v o) s) (wO C mo (evm (nI 0) ty (nI 1) pl fl tl) v o) := hD
  refine W.eq (g2 := F0 m 17 ls [.int (nI 0)]) rfl ?_
  exact q_iret hx hb hr hlocks (w1 := wO C mo (evm (nI 0) ty (nI 1) pl fl tl) v o) hP hS rfl dX5_undo_17 (⟨rfl, rfl⟩)
set_option maxHeartbeats 4000000 in
set_option maxRecDepth 100000 in
theorem c_X5_undo (l : Launch) (C : q_C) (mo : Nat → Nat) (ty tw pl fl tl : Int32) (v o : Nat → Nat) (ph : Nat → Bd) (r n : Nat) (pa : Nat → Int64) (b : Bd) (hr6 : r < 6) (hn6 : n ≤ 6) (hn0 : 0 < n) (hpa : mH ph r n pa) : q_M C l yX5_undo wsX5_undo 0 0 [.ref (mo 0)] (wO C mo (evm (nI n) ty tw pl fl tl) v o ++ ([(mo 1, .inl (C.2.2.1, 82, .inr (.inl (mB b)))), (mo 3, .inl (C.2.2.1, 492, .inr (.inl pa)))] : va_W)) (fun r2 w => r2 = some (.int (nI (n - 1))) ∧ w = wO C mo (evm (nI (n - 1)) ty (nI 0) pl fl tl) v o ++ ([(mo 1, .inl (C.2.2.1, 82, .inr (.inl (mB (ph ((n - 1 + r) % 6)))))), (mo 3, .inl (C.2.2.1, 492, .inr (.inl pa)))] : va_W)) := by
  refine q_head (cc := cX5_undo) (maxL := 2) (ret := (some .int)) (by decide +kernel) rfl (Nat.le_of_ble_eq_true rfl) ?_
  intro p e s m below meth c hx hb hr hlocks hml hown hts hK hP hD hS hA ls hl
  have hl : lv_has ls 2 [(0, .ref (mo 0))] := hl
  have hf16 := hts (.fieldLink RX5 16 "RestedArmsModel" "past" "[J") (by decide +kernel)
  have hf42 := hts (.fieldLink RX5 42 "RestedArmsModel" "thrown" "I") (by decide +kernel)
  have hf50 := hts (.fieldLink RX5 50 "RestedArmsModel" "kept" "I") (by decide +kernel)
  have hf7 := hts (.fieldLink RX5 7 "RestedArmsModel" "now" "[J") (by decide +kernel)
  have hin5 : ∀ w ∈ u_ws RX5 TX5 13, w ∈ wsX5_undo := by decide +kernel
  refine lv_aload_n hx hb dX5_undo_0 rfl (lv_at hl 0 rfl) ?_
  refine lv_iconst (v := nI 0) hx hb dX5_undo_1 (by decide) ?_
  refine va_put (ci := 5) (v := .int (nI 0)) (ty := .int) (C := RX5) (T := TX5) (N := 13) hx hb hts hin5 tyX5 tyX5_ok nmX5 hown hK.1 hP hD hS 0 rfl rfl 6 (by decide) hf42 (fun _ h9 => h9) rfl (by decide +kernel) rfl rfl (Nat.le_of_ble_eq_true rfl) dX5_undo_2 (fun H locs hP hD hS => ?_)
  have hP : va_P C.1 vwCl (wO C mo (evm (nI n) ty (nI 0) pl fl tl) v o ++ ([(mo 1, .inl (C.2.2.1, 82, .inr (.inl (mB b)))), (mo 3, .inl (C.2.2.1, 492, .inr (.inl pa)))] : va_W)) H := hP
  have hD : va_D (q_A (wO C mo (evm (nI n) ty tw pl fl tl) v o ++ ([(mo 1, .inl (C.2.2.1, 82, .inr (.inl (mB b)))), (mo 3, .inl (C.2.2.1, 492, .inr (.inl pa)))] : va_W)) s) (wO C mo (evm (nI n) ty (nI 0) pl fl tl) v o ++ ([(mo 1, .inl (C.2.2.1, 82, .inr (.inl (mB b)))), (mo 3, .inl (C.2.2.1, 492, .inr (.inl pa)))] : va_W)) := hD
  refine lv_aload_n hx hb dX5_undo_5 rfl (lv_at hl 0 rfl) ?_
  refine va_get (ci := 5) (v := .int (nI n)) (C := RX5) (T := TX5) (N := 13) hx hb hts hin5 hown hK.1 hP 0 rfl rfl 3 (by decide) hf50 (fun _ h9 => h9) rfl dX5_undo_6 ?_
  refine lv_if_ne (tgt := 18) hx hb dX5_undo_9 (by decide) (fun c9 => ?_) (fun c9 => ?_)
  · have c9 : n ≠ 0 := q_nne0 (by omega) (by omega) c9
    refine lv_aload_n hx hb dX5_undo_18 rfl (lv_at hl 0 rfl) ?_
    refine lv_dup hx hb dX5_undo_19 rfl ?_
    refine va_get (ci := 5) (v := .int (nI n)) (C := RX5) (T := TX5) (N := 13) hx hb hts hin5 hown hK.1 hP 0 rfl rfl 3 (by decide) hf50 (fun _ h9 => h9) rfl dX5_undo_20 ?_
    refine lv_iconst (v := nI 1) hx hb dX5_undo_23 (by decide) ?_
    refine lv_isub hx hb dX5_undo_24 ?_
    refine q_ti (y := nI (n - 1)) (pk_sub (by omega)) ?_
    refine va_put (ci := 5) (v := .int (nI (n - 1))) (ty := .int) (C := RX5) (T := TX5) (N := 13) hx hb hts hin5 tyX5 tyX5_ok nmX5 hown hK.1 hP hD hS 0 rfl rfl 3 (by decide) hf50 (fun _ h9 => h9) rfl (by decide +kernel) rfl rfl (Nat.le_of_ble_eq_true rfl) dX5_undo_25 (fun H locs hP hD hS => ?_)
    have hP : va_P C.1 vwCl (wO C mo (evm (nI (n - 1)) ty (nI 0) pl fl tl) v o ++ ([(mo 1, .inl (C.2.2.1, 82, .inr (.inl (mB b)))), (mo 3, .inl (C.2.2.1, 492, .inr (.inl pa)))] : va_W)) H := hP
    have hD : va_D (q_A (wO C mo (evm (nI n) ty tw pl fl tl) v o ++ ([(mo 1, .inl (C.2.2.1, 82, .inr (.inl (mB b)))), (mo 3, .inl (C.2.2.1, 492, .inr (.inl pa)))] : va_W)) s) (wO C mo (evm (nI (n - 1)) ty (nI 0) pl fl tl) v o ++ ([(mo 1, .inl (C.2.2.1, 82, .inr (.inl (mB b)))), (mo 3, .inl (C.2.2.1, 492, .inr (.inl pa)))] : va_W)) := hD
    refine lv_iconst (v := nI 0) hx hb dX5_undo_28 (by decide) ?_
    refine lv_istore_n (lv' := [(1, .int (nI 0)), (0, .ref (mo 0))]) hx hb dX5_undo_29 rfl hl (by decide) rfl (fun ls hl => ?_)
    have K30 : ∀ (n30 i30 : Nat), ∀ (x30 : Nat → Int64), i30 ≤ 82 → 82 + 1 ≤ i30 + n30 → (∀ j, j < i30 → x30 j = mB (ph ((n - 1 + r) % 6)) j) → ∀ (H : Heap) (locs : List Loc) (ls : Array Slot), va_P C.1 vwCl (wO C mo (evm (nI (n - 1)) ty (nI 0) pl fl tl) v o ++ ([(mo 1, .inl (C.2.2.1, 82, .inr (.inl x30))), (mo 3, .inl (C.2.2.1, 492, .inr (.inl pa)))] : va_W)) H → va_D (q_A (wO C mo (evm (nI n) ty tw pl fl tl) v o ++ ([(mo 1, .inl (C.2.2.1, 82, .inr (.inl (mB b)))), (mo 3, .inl (C.2.2.1, 492, .inr (.inl pa)))] : va_W)) s) (wO C mo (evm (nI (n - 1)) ty (nI 0) pl fl tl) v o ++ ([(mo 1, .inl (C.2.2.1, 82, .inr (.inl x30))), (mo 3, .inl (C.2.2.1, 492, .inr (.inl pa)))] : va_W)) → va_S (q_A (wO C mo (evm (nI n) ty tw pl fl tl) v o ++ ([(mo 1, .inl (C.2.2.1, 82, .inr (.inl (mB b)))), (mo 3, .inl (C.2.2.1, 492, .inr (.inl pa)))] : va_W)) s) s.heap H locs → lv_has ls 2 [(1, .int (nI i30)), (0, .ref (mo 0))] → W p l e (q_R 0 0) s m ([.ref (mo 0)] : List Value).toArray below meth c H locs 0 0 (q_G C below (wO C mo (evm (nI n) ty tw pl fl tl) v o ++ ([(mo 1, .inl (C.2.2.1, 82, .inr (.inl (mB b)))), (mo 3, .inl (C.2.2.1, 492, .inr (.inl pa)))] : va_W)) (fun r2 w => r2 = some (.int (nI (n - 1))) ∧ w = wO C mo (evm (nI (n - 1)) ty (nI 0) pl fl tl) v o ++ ([(mo 1, .inl (C.2.2.1, 82, .inr (.inl (mB (ph ((n - 1 + r) % 6)))))), (mo 3, .inl (C.2.2.1, 492, .inr (.inl pa)))] : va_W)) ([.ref (mo 0)] : List Value).toArray s) (F0 m 30 ls []) := by
      intro n30
      induction n30 with
      | zero => intro i30 x30 q1 q2; exact absurd q2 (by omega)
      | succ n30 ih30 =>
        intro i30 x30 hi30 hn30 hx30 H locs ls hP hD hS hl
        refine lv_iload_n hx hb dX5_undo_30 rfl (lv_at hl 0 rfl) ?_
        refine lv_bipush (v := nI 82) hx hb dX5_undo_31 (by decide) ?_
        refine lv_icmp_ge (tgt := 62) hx hb dX5_undo_33 (by decide) (fun c33 => ?_) (fun c33 => ?_)
        · have c33 : 82 ≤ i30 := q_nge (by omega) (by omega) c33
          have e9 : i30 = 82 := by omega
          subst e9
          have hP := q_swpL (g := mB (ph ((n - 1 + r) % 6))) hP 3 rfl (hx30)
          have hD := hD.set (p := 3) (a := mo 1) (e := .inl (C.2.2.1, 82, .inr (.inl (mB (ph ((n - 1 + r) % 6)))))) rfl
          have hP : va_P C.1 vwCl (wO C mo (evm (nI (n - 1)) ty (nI 0) pl fl tl) v o ++ ([(mo 1, .inl (C.2.2.1, 82, .inr (.inl (mB (ph ((n - 1 + r) % 6)))))), (mo 3, .inl (C.2.2.1, 492, .inr (.inl pa)))] : va_W)) H := hP
          have hD : va_D (q_A (wO C mo (evm (nI n) ty tw pl fl tl) v o ++ ([(mo 1, .inl (C.2.2.1, 82, .inr (.inl (mB b)))), (mo 3, .inl (C.2.2.1, 492, .inr (.inl pa)))] : va_W)) s) (wO C mo (evm (nI (n - 1)) ty (nI 0) pl fl tl) v o ++ ([(mo 1, .inl (C.2.2.1, 82, .inr (.inl (mB (ph ((n - 1 + r) % 6)))))), (mo 3, .inl (C.2.2.1, 492, .inr (.inl pa)))] : va_W)) := hD
          refine lv_aload_n hx hb dX5_undo_62 rfl (lv_at hl 1 rfl) ?_
          refine va_get (ci := 5) (v := .int (nI (n - 1))) (C := RX5) (T := TX5) (N := 13) hx hb hts hin5 hown hK.1 hP 0 rfl rfl 3 (by decide) hf50 (fun _ h9 => h9) rfl dX5_undo_63 ?_
          exact q_iret hx hb hr hlocks (w1 := wO C mo (evm (nI (n - 1)) ty (nI 0) pl fl tl) v o ++ ([(mo 1, .inl (C.2.2.1, 82, .inr (.inl (mB (ph ((n - 1 + r) % 6)))))), (mo 3, .inl (C.2.2.1, 492, .inr (.inl pa)))] : va_W)) hP hS rfl dX5_undo_66 (⟨rfl, rfl⟩)
        · have c33 : i30 < 82 := q_nge' (by omega) (by omega) c33
          refine lv_aload_n hx hb dX5_undo_36 rfl (lv_at hl 1 rfl) ?_
          refine va_get (ci := 5) (v := .ref (mo 1)) (C := RX5) (T := TX5) (N := 13) hx hb hts hin5 hown hK.1 hP 0 rfl rfl 0 (by decide) hf7 (fun _ h9 => h9) rfl dX5_undo_37 ?_
          refine lv_iload_n hx hb dX5_undo_40 rfl (lv_at hl 0 rfl) ?_
          refine lv_aload_n hx hb dX5_undo_41 rfl (lv_at hl 1 rfl) ?_
          refine va_get (ci := 5) (v := .ref (mo 3)) (C := RX5) (T := TX5) (N := 13) hx hb hts hin5 hown hK.1 hP 0 rfl rfl 2 (by decide) hf16 (fun _ h9 => h9) rfl dX5_undo_42 ?_
          refine lv_bipush (v := nI 82) hx hb dX5_undo_45 (by decide) ?_
          refine lv_aload_n hx hb dX5_undo_47 rfl (lv_at hl 1 rfl) ?_
          refine va_get (ci := 5) (v := .int (nI (n - 1))) (C := RX5) (T := TX5) (N := 13) hx hb hts hin5 hown hK.1 hP 0 rfl rfl 3 (by decide) hf50 (fun _ h9 => h9) rfl dX5_undo_48 ?_
          refine lv_imul hx hb dX5_undo_51 ?_
          refine q_ti (y := nI (82 * (n - 1))) (pk_mul _ _) ?_
          refine lv_iload_n hx hb dX5_undo_52 rfl (lv_at hl 0 rfl) ?_
          refine lv_iadd hx hb dX5_undo_53 ?_
          refine q_ti (y := nI ((82 * (n - 1)) + i30)) (nI_add _ _) ?_
          refine q_lald (n := ((82 * (n - 1)) + i30)) (v := pa ((82 * (n - 1)) + i30)) hx hb hK hP 4 rfl (by omega) (by decide) rfl dX5_undo_54 ?_
          refine q_last (n := i30) hx hb hK hP hD hS 3 rfl (by omega) (by decide) dX5_undo_55 (fun H locs hP hD hS => ?_)
          have hP : va_P C.1 vwCl (wO C mo (evm (nI (n - 1)) ty (nI 0) pl fl tl) v o ++ ([(mo 1, .inl (C.2.2.1, 82, .inr (.inl (vp_updL x30 i30 (pa ((82 * (n - 1)) + i30)))))), (mo 3, .inl (C.2.2.1, 492, .inr (.inl pa)))] : va_W)) H := hP
          have hD : va_D (q_A (wO C mo (evm (nI n) ty tw pl fl tl) v o ++ ([(mo 1, .inl (C.2.2.1, 82, .inr (.inl (mB b)))), (mo 3, .inl (C.2.2.1, 492, .inr (.inl pa)))] : va_W)) s) (wO C mo (evm (nI (n - 1)) ty (nI 0) pl fl tl) v o ++ ([(mo 1, .inl (C.2.2.1, 82, .inr (.inl (vp_updL x30 i30 (pa ((82 * (n - 1)) + i30)))))), (mo 3, .inl (C.2.2.1, 492, .inr (.inl pa)))] : va_W)) := hD
          refine lv_iinc (v := nI (i30 + 1)) (lv' := [(1, .int (nI (i30 + 1))), (0, .ref (mo 0))]) hx hb dX5_undo_56 hl (k := 0) rfl (nI_1 _) (by decide) rfl (fun ls hl => ?_)
          refine lv_goto (tgt := 30) hx hb dX5_undo_59 (by decide) ?_
          exact ih30 (i30 + 1) (vp_updL x30 i30 (pa (82 * (n - 1) + i30))) (by omega) (by omega) (fun j hj => by
                by_cases q : j = i30
                · subst q; rw [pk_uLs]; exact hpa _ _ (by omega) (by omega)
                · rw [pk_uLn q]; exact hx30 j (by omega)) _ _ ls hP hD hS (lv_sub hl [0, 1] rfl)
    exact K30 (82 + 1 - 0) 0 (mB b) (by omega) (by omega) (fun j hj => absurd hj (Nat.not_lt_zero _)) _ _ ls hP hD hS (lv_sub hl [0, 1] rfl)
  · have c9 : n = 0 := q_nne0' (by omega) (by omega) c9
    exact absurd hn0 (by omega)
