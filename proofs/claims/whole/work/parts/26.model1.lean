/-! the model: leaves -/
abbrev wO (C : q_C) (mo : Nat → Nat) (ev : Nat → Int32) (v o : Nat → Nat) : va_W := [(mo 0, .inr (5, [.ref (mo 1), .ref (mo 2), .ref (mo 3), .int (ev 0), .ref (mo 4), .int (ev 1), .int (ev 2), .int (ev 3), .int (ev 4), .ref (mo 5), .int (ev 5), .ref (mo 6), .ref (mo 7)])), (mo 6, .inl (C.2.2.1, 4, .inr (.inl (fun k => lN (v k))))), (mo 7, .inl (C.2.2.1, 4, .inr (.inl (fun k => lN (o k)))))]
theorem t64_le {x y : Int32} : x.toInt64 ≤ y.toInt64 ↔ x ≤ y := by rw [Int64.le_iff_toInt_le, Int32.le_iff_toInt_le, Int32.toInt_toInt64, Int32.toInt_toInt64]
set_option maxHeartbeats 4000000 in
set_option maxRecDepth 100000 in
theorem c_X5_in (l : Launch) (C : q_C) (x : Int64) (lo hi : Int32) : q_M C l yX5_in wsX5_in 0 0 [.long x, .int lo, .int hi] (([] : va_W)) (fun r w => r = some (.int (q_b (decide (lo.toInt64 ≤ x ∧ x ≤ hi.toInt64)))) ∧ w = []) := by
  refine q_head (cc := cX5_in) (maxL := 4) (ret := (some .boolean)) (by decide +kernel) rfl (Nat.le_of_ble_eq_true rfl) ?_
  intro p e s m below meth c hx hb hr hlocks hml hown hts hK hP hD hS hA ls hl
  have hl : lv_has ls 4 [(0, .long x), (2, .int lo), (3, .int hi)] := hl
  refine lv_lload_n hx hb dX5_in_0 rfl (lv_at hl 0 rfl) ?_
  refine lv_iload_n hx hb dX5_in_1 rfl (lv_at hl 1 rfl) ?_
  refine lv_i2l (v := lo.toInt64) hx hb dX5_in_2 rfl ?_
  refine W.lcmp hx hb dX5_in_3 ?_
  refine lv_if_lt (tgt := 18) hx hb dX5_in_4 (by decide) (fun c4 => ?_) (fun c4 => ?_)
  · have c4 : x < lo.toInt64 := q_llt c4
    refine lv_iconst (v := nI 0) hx hb dX5_in_18 (by decide) ?_
    exact q_zret hx hb hr hlocks rfl (w1 := ([] : va_W)) hP hS rfl dX5_in_19 (⟨congrArg (fun z => some (Value.int z)) (q_bf (decide_eq_false (fun q => Int64.not_lt.mpr q.1 c4))), rfl⟩)
  · have c4 : lo.toInt64 ≤ x := q_llt' c4
    refine lv_lload_n hx hb dX5_in_7 rfl (lv_at hl 0 rfl) ?_
    refine lv_iload_n hx hb dX5_in_8 rfl (lv_at hl 2 rfl) ?_
    refine lv_i2l (v := hi.toInt64) hx hb dX5_in_9 rfl ?_
    refine W.lcmp hx hb dX5_in_10 ?_
    refine lv_if_gt (tgt := 18) hx hb dX5_in_11 (by decide) (fun c11 => ?_) (fun c11 => ?_)
    · have c11 : hi.toInt64 < x := q_lgt c11
      refine lv_iconst (v := nI 0) hx hb dX5_in_18 (by decide) ?_
      exact q_zret hx hb hr hlocks rfl (w1 := ([] : va_W)) hP hS rfl dX5_in_19 (⟨congrArg (fun z => some (Value.int z)) (q_bf (decide_eq_false (fun q => Int64.not_lt.mpr q.2 c11))), rfl⟩)
    · have c11 : x ≤ hi.toInt64 := q_lgt' c11
      refine lv_iconst (v := nI 1) hx hb dX5_in_14 (by decide) ?_
      refine lv_goto (tgt := 19) hx hb dX5_in_15 (by decide) ?_
      exact q_zret hx hb hr hlocks rfl (w1 := ([] : va_W)) hP hS rfl dX5_in_19 (⟨congrArg (fun z => some (Value.int z)) (q_bt (decide_eq_true ⟨c4, c11⟩)), rfl⟩)
theorem c_in32 (l : Launch) (C : q_C) (x lo hi : Int32) : q_M C l yX5_in wsX5_in 0 0 [.long x.toInt64, .int lo, .int hi] ([] : va_W) (fun r w => r = some (.int (q_b (decide (lo ≤ x ∧ x ≤ hi)))) ∧ w = []) := by
  have h := c_X5_in l C x.toInt64 lo hi
  rw [decide_eq_decide.mpr (show (lo.toInt64 ≤ x.toInt64 ∧ x.toInt64 ≤ hi.toInt64) ↔ (lo ≤ x ∧ x ≤ hi) by rw [t64_le, t64_le])] at h
  exact h
theorem c_inN (l : Launch) (C : q_C) (x lo hi : Nat) (h1 : x < 2 ^ 31) (h2 : lo < 2 ^ 31) (h3 : hi < 2 ^ 31) : q_M C l yX5_in wsX5_in 0 0 [.long (lN x), .int (nI lo), .int (nI hi)] ([] : va_W) (fun r w => r = some (.int (q_b (decide (lo ≤ x ∧ x ≤ hi)))) ∧ w = []) := by
  have h := c_in32 l C (nI x) (nI lo) (nI hi)
  rw [withN h1 h2 h3, nI_l h1] at h
  exact h
set_option maxHeartbeats 4000000 in
set_option maxRecDepth 100000 in
theorem c_X5_isArm (l : Launch) (C : q_C) (x : Int32) : q_M C l yX5_isArm wsX5_isArm 1 23 [.int x] (([] : va_W)) (fun r w => r = some (.int (q_b (decide (nI 0 ≤ x ∧ x ≤ nI 3)))) ∧ w = []) := by
  refine q_head (cc := cX5_isArm) (maxL := 1) (ret := (some .boolean)) (by decide +kernel) rfl (Nat.le_of_ble_eq_true rfl) ?_
  intro p e s m below meth c hx hb hr hlocks hml hown hts hK hP hD hS hA ls hl
  have hl : lv_has ls 1 [(0, .int x)] := hl
  refine lv_iload_n hx hb dX5_isArm_0 rfl (lv_at hl 0 rfl) ?_
  refine lv_i2l (v := x.toInt64) hx hb dX5_isArm_1 rfl ?_
  refine lv_iconst (v := nI 0) hx hb dX5_isArm_2 (by decide) ?_
  refine lv_iconst (v := nI 3) hx hb dX5_isArm_3 (by decide) ?_
  refine q_S (As := [.long x.toInt64, .int (nI 0), .int (nI 3)]) (rest := []) ⟨hx, hb, hml, hown, hts⟩ (c_in32 l C x (nI 0) (nI 3)) (va_cwS 3 hts gX5_isArm_X5_in rfl rfl rfl (by decide +kernel) ⟨Nat.le_of_ble_eq_true rfl, Nat.le_of_ble_eq_true rfl⟩) hK hP hD hS hA [] (by decide) rfl rfl hl.1 rfl (Nat.le_of_ble_eq_true rfl) dX5_isArm_4 (Nat.zero_le _) (Nat.zero_le _) (fun r w1 H locs hQ hP hD hS => ?_)
  obtain ⟨rfl, rfl⟩ := hQ
  refine W.eq (g2 := F0 m 7 ls [.int (q_b (decide (nI 0 ≤ x ∧ x ≤ nI 3)))]) rfl ?_
  exact q_zret hx hb hr hlocks q_bn (w1 := ([] : va_W)) hP hS rfl dX5_isArm_7 (⟨rfl, rfl⟩)
set_option maxHeartbeats 4000000 in
set_option maxRecDepth 100000 in
theorem c_X5_isState (l : Launch) (C : q_C) (x : Int32) : q_M C l yX5_isState wsX5_isState 1 23 [.int x] (([] : va_W)) (fun r w => r = some (.int (q_b (decide (nI 0 ≤ x ∧ x ≤ nI 3)))) ∧ w = []) := by
  refine q_head (cc := cX5_isState) (maxL := 1) (ret := (some .boolean)) (by decide +kernel) rfl (Nat.le_of_ble_eq_true rfl) ?_
  intro p e s m below meth c hx hb hr hlocks hml hown hts hK hP hD hS hA ls hl
  have hl : lv_has ls 1 [(0, .int x)] := hl
  refine lv_iload_n hx hb dX5_isState_0 rfl (lv_at hl 0 rfl) ?_
  refine lv_i2l (v := x.toInt64) hx hb dX5_isState_1 rfl ?_
  refine lv_iconst (v := nI 0) hx hb dX5_isState_2 (by decide) ?_
  refine lv_iconst (v := nI 3) hx hb dX5_isState_3 (by decide) ?_
  refine q_S (As := [.long x.toInt64, .int (nI 0), .int (nI 3)]) (rest := []) ⟨hx, hb, hml, hown, hts⟩ (c_in32 l C x (nI 0) (nI 3)) (va_cwS 3 hts gX5_isState_X5_in rfl rfl rfl (by decide +kernel) ⟨Nat.le_of_ble_eq_true rfl, Nat.le_of_ble_eq_true rfl⟩) hK hP hD hS hA [] (by decide) rfl rfl hl.1 rfl (Nat.le_of_ble_eq_true rfl) dX5_isState_4 (Nat.zero_le _) (Nat.zero_le _) (fun r w1 H locs hQ hP hD hS => ?_)
  obtain ⟨rfl, rfl⟩ := hQ
  refine W.eq (g2 := F0 m 7 ls [.int (q_b (decide (nI 0 ≤ x ∧ x ≤ nI 3)))]) rfl ?_
  exact q_zret hx hb hr hlocks q_bn (w1 := ([] : va_W)) hP hS rfl dX5_isState_7 (⟨rfl, rfl⟩)
set_option maxHeartbeats 4000000 in
set_option maxRecDepth 100000 in
theorem c_X5_of (l : Launch) (C : q_C) (sa : Nat) (b : Bd) (a t w : Nat) (ha : a < 4) (ht : t < 4) (hw : w < 4) : q_M C l yX5_of wsX5_of 0 0 [.ref sa, .int (nI a), .int (nI t), .int (nI w)] ([(sa, .inl (C.2.2.1, 82, .inr (.inl (mB b))))]) (fun r w1 => r = some (.int (nI (ofN b (4 * a + t) w))) ∧ w1 = [(sa, .inl (C.2.2.1, 82, .inr (.inl (mB b))))]) := by
  refine q_head (cc := cX5_of) (maxL := 4) (ret := (some .int)) (by decide +kernel) rfl (Nat.le_of_ble_eq_true rfl) ?_
  intro p e s m below meth c hx hb hr hlocks hml hown hts hK hP hD hS hA ls hl
  have hl : lv_has ls 4 [(0, .ref sa), (1, .int (nI a)), (2, .int (nI t)), (3, .int (nI w))] := hl
  refine lv_aload_n hx hb dX5_of_0 rfl (lv_at hl 0 rfl) ?_
  refine lv_bipush (v := nI 18) hx hb dX5_of_1 (by decide) ?_
  refine lv_iconst (v := nI 4) hx hb dX5_of_3 (by decide) ?_
  refine lv_iconst (v := nI 4) hx hb dX5_of_4 (by decide) ?_
  refine lv_iload_n hx hb dX5_of_5 rfl (lv_at hl 1 rfl) ?_
  refine lv_imul hx hb dX5_of_6 ?_
  refine q_ti (y := nI (4 * a)) (pk_mul _ _) ?_
  refine lv_iload_n hx hb dX5_of_7 rfl (lv_at hl 2 rfl) ?_
  refine lv_iadd hx hb dX5_of_8 ?_
  refine q_ti (y := nI ((4 * a) + t)) (nI_add _ _) ?_
  refine lv_imul hx hb dX5_of_9 ?_
  refine q_ti (y := nI (4 * ((4 * a) + t))) (pk_mul _ _) ?_
  refine lv_iadd hx hb dX5_of_10 ?_
  refine q_ti (y := nI (18 + (4 * ((4 * a) + t)))) (nI_add _ _) ?_
  refine lv_iload_n hx hb dX5_of_11 rfl (lv_at hl 3 rfl) ?_
  refine lv_iadd hx hb dX5_of_12 ?_
  refine q_ti (y := nI ((18 + (4 * ((4 * a) + t))) + w)) (nI_add _ _) ?_
  refine q_lald (n := ((18 + (4 * ((4 * a) + t))) + w)) (v := mB b ((18 + (4 * ((4 * a) + t))) + w)) hx hb hK hP 0 rfl (by omega) (by decide) rfl dX5_of_13 ?_
  refine q_tl (y := lN (ofN b (4 * a + t) w)) (mB_of b hw) ?_
  refine lv_l2i (v := nI (ofN b (4 * a + t) w)) hx hb dX5_of_14 (lN_i _) ?_
  exact q_iret hx hb hr hlocks (w1 := [(sa, .inl (C.2.2.1, 82, .inr (.inl (mB b))))]) hP hS rfl dX5_of_15 (⟨rfl, rfl⟩)
set_option maxHeartbeats 4000000 in
set_option maxRecDepth 100000 in
theorem c_X5_stands (l : Launch) (C : q_C) (sa : Nat) (b : Bd) (a : Nat) (ha : a < 4) : q_M C l yX5_stands wsX5_stands 0 0 [.ref sa, .int (nI a)] ([(sa, .inl (C.2.2.1, 82, .inr (.inl (mB b))))]) (fun r w1 => r = some (.int (nI (bp b a))) ∧ w1 = [(sa, .inl (C.2.2.1, 82, .inr (.inl (mB b))))]) := by
  refine q_head (cc := cX5_stands) (maxL := 2) (ret := (some .int)) (by decide +kernel) rfl (Nat.le_of_ble_eq_true rfl) ?_
  intro p e s m below meth c hx hb hr hlocks hml hown hts hK hP hD hS hA ls hl
  have hl : lv_has ls 2 [(0, .ref sa), (1, .int (nI a))] := hl
  refine lv_aload_n hx hb dX5_stands_0 rfl (lv_at hl 0 rfl) ?_
  refine lv_bipush (v := nI 10) hx hb dX5_stands_1 (by decide) ?_
  refine lv_iconst (v := nI 2) hx hb dX5_stands_3 (by decide) ?_
  refine lv_iload_n hx hb dX5_stands_4 rfl (lv_at hl 1 rfl) ?_
  refine lv_imul hx hb dX5_stands_5 ?_
  refine q_ti (y := nI (2 * a)) (pk_mul _ _) ?_
  refine lv_iadd hx hb dX5_stands_6 ?_
  refine q_ti (y := nI (10 + (2 * a))) (nI_add _ _) ?_
  refine q_lald (n := (10 + (2 * a))) (v := mB b (10 + (2 * a))) hx hb hK hP 0 rfl (by omega) (by decide) rfl dX5_stands_7 ?_
  refine q_tl (y := lN (bp b a)) (mB_p b ha) ?_
  refine lv_l2i (v := nI (bp b a)) hx hb dX5_stands_8 (lN_i _) ?_
  exact q_iret hx hb hr hlocks (w1 := [(sa, .inl (C.2.2.1, 82, .inr (.inl (mB b))))]) hP hS rfl dX5_stands_9 (⟨rfl, rfl⟩)
set_option maxHeartbeats 4000000 in
set_option maxRecDepth 100000 in
theorem c_X5_begins (l : Launch) (C : q_C) (mo : Nat → Nat) (ev : Nat → Int32) (v o : Nat → Nat) : q_M C l yX5_begins wsX5_begins 0 0 [.ref (mo 0)] (wO C mo ev v o) (fun r w => r = none ∧ w = wO C mo ev (fun _ => 0) o) := by
  refine q_head (cc := cX5_begins) (maxL := 2) (ret := none) (by decide +kernel) rfl (Nat.le_of_ble_eq_true rfl) ?_
  intro p e s m below meth c hx hb hr hlocks hml hown hts hK hP hD hS hA ls hl
  have hl : lv_has ls 2 [(0, .ref (mo 0))] := hl
  have hf26 := hts (.fieldLink RX5 26 "RestedArmsModel" "values" "[J") (by decide +kernel)
  have hin5 : ∀ w ∈ u_ws RX5 TX5 13, w ∈ wsX5_begins := by decide +kernel
  refine lv_iconst (v := nI 0) hx hb dX5_begins_0 (by decide) ?_
  refine lv_istore_n (lv' := [(1, .int (nI 0)), (0, .ref (mo 0))]) hx hb dX5_begins_1 rfl hl (by decide) rfl (fun ls hl => ?_)
  refine lv_iload_n hx hb dX5_begins_2 rfl (lv_at hl 0 rfl) ?_
  refine lv_iconst (v := nI 4) hx hb dX5_begins_3 (by decide) ?_
  refine lv_icmp_ge (tgt := 20) hx hb dX5_begins_4 (by decide) (fun c => absurd c (by decide)) (fun _ => ?_)
  refine lv_aload_n hx hb dX5_begins_7 rfl (lv_at hl 1 rfl) ?_
  refine va_get (ci := 5) (v := .ref (mo 6)) (C := RX5) (T := TX5) (N := 13) hx hb hts hin5 hown hK.1 hP 0 rfl rfl 11 (by decide) hf26 (fun _ h9 => h9) rfl dX5_begins_8 ?_
  refine lv_iload_n hx hb dX5_begins_11 rfl (lv_at hl 0 rfl) ?_
  refine lv_lconst (v := lN 0) hx hb dX5_begins_12 (by decide) ?_
  refine q_last (n := 0) hx hb hK hP hD hS 1 rfl (by decide) (by decide) dX5_begins_13 (fun H locs hP hD hS => ?_)
  rw [q_updL] at hP hD
  have hP : va_P C.1 vwCl ([(mo 0, .inr (5, [.ref (mo 1), .ref (mo 2), .ref (mo 3), .int (ev 0), .ref (mo 4), .int (ev 1), .int (ev 2), .int (ev 3), .int (ev 4), .ref (mo 5), .int (ev 5), .ref (mo 6), .ref (mo 7)])), (mo 6, .inl (C.2.2.1, 4, .inr (.inl (fun k => lN (upN v 0 0 k))))), (mo 7, .inl (C.2.2.1, 4, .inr (.inl (fun k => lN (o k)))))]) H := hP
  have hD : va_D (q_A (wO C mo ev v o) s) ([(mo 0, .inr (5, [.ref (mo 1), .ref (mo 2), .ref (mo 3), .int (ev 0), .ref (mo 4), .int (ev 1), .int (ev 2), .int (ev 3), .int (ev 4), .ref (mo 5), .int (ev 5), .ref (mo 6), .ref (mo 7)])), (mo 6, .inl (C.2.2.1, 4, .inr (.inl (fun k => lN (upN v 0 0 k))))), (mo 7, .inl (C.2.2.1, 4, .inr (.inl (fun k => lN (o k)))))]) := hD
  refine lv_iinc (v := nI 1) (lv' := [(1, .int (nI 1)), (0, .ref (mo 0))]) hx hb dX5_begins_14 hl (k := 0) rfl (by decide) (by decide) rfl (fun ls hl => ?_)
  refine lv_goto (tgt := 2) hx hb dX5_begins_17 (by decide) ?_
  refine lv_iload_n hx hb dX5_begins_2 rfl (lv_at hl 0 rfl) ?_
  refine lv_iconst (v := nI 4) hx hb dX5_begins_3 (by decide) ?_
  refine lv_icmp_ge (tgt := 20) hx hb dX5_begins_4 (by decide) (fun c => absurd c (by decide)) (fun _ => ?_)
  refine lv_aload_n hx hb dX5_begins_7 rfl (lv_at hl 1 rfl) ?_
  refine va_get (ci := 5) (v := .ref (mo 6)) (C := RX5) (T := TX5) (N := 13) hx hb hts hin5 hown hK.1 hP 0 rfl rfl 11 (by decide) hf26 (fun _ h9 => h9) rfl dX5_begins_8 ?_
  refine lv_iload_n hx hb dX5_begins_11 rfl (lv_at hl 0 rfl) ?_
  refine lv_lconst (v := lN 0) hx hb dX5_begins_12 (by decide) ?_
  refine q_last (n := 1) hx hb hK hP hD hS 1 rfl (by decide) (by decide) dX5_begins_13 (fun H locs hP hD hS => ?_)
  rw [q_updL] at hP hD
  have hP : va_P C.1 vwCl ([(mo 0, .inr (5, [.ref (mo 1), .ref (mo 2), .ref (mo 3), .int (ev 0), .ref (mo 4), .int (ev 1), .int (ev 2), .int (ev 3), .int (ev 4), .ref (mo 5), .int (ev 5), .ref (mo 6), .ref (mo 7)])), (mo 6, .inl (C.2.2.1, 4, .inr (.inl (fun k => lN (upN (upN v 0 0) 1 0 k))))), (mo 7, .inl (C.2.2.1, 4, .inr (.inl (fun k => lN (o k)))))]) H := hP
  have hD : va_D (q_A (wO C mo ev v o) s) ([(mo 0, .inr (5, [.ref (mo 1), .ref (mo 2), .ref (mo 3), .int (ev 0), .ref (mo 4), .int (ev 1), .int (ev 2), .int (ev 3), .int (ev 4), .ref (mo 5), .int (ev 5), .ref (mo 6), .ref (mo 7)])), (mo 6, .inl (C.2.2.1, 4, .inr (.inl (fun k => lN (upN (upN v 0 0) 1 0 k))))), (mo 7, .inl (C.2.2.1, 4, .inr (.inl (fun k => lN (o k)))))]) := hD
  refine lv_iinc (v := nI 2) (lv' := [(1, .int (nI 2)), (0, .ref (mo 0))]) hx hb dX5_begins_14 hl (k := 0) rfl (by decide) (by decide) rfl (fun ls hl => ?_)
  refine lv_goto (tgt := 2) hx hb dX5_begins_17 (by decide) ?_
  refine lv_iload_n hx hb dX5_begins_2 rfl (lv_at hl 0 rfl) ?_
  refine lv_iconst (v := nI 4) hx hb dX5_begins_3 (by decide) ?_
  refine lv_icmp_ge (tgt := 20) hx hb dX5_begins_4 (by decide) (fun c => absurd c (by decide)) (fun _ => ?_)
  refine lv_aload_n hx hb dX5_begins_7 rfl (lv_at hl 1 rfl) ?_
  refine va_get (ci := 5) (v := .ref (mo 6)) (C := RX5) (T := TX5) (N := 13) hx hb hts hin5 hown hK.1 hP 0 rfl rfl 11 (by decide) hf26 (fun _ h9 => h9) rfl dX5_begins_8 ?_
  refine lv_iload_n hx hb dX5_begins_11 rfl (lv_at hl 0 rfl) ?_
  refine lv_lconst (v := lN 0) hx hb dX5_begins_12 (by decide) ?_
  refine q_last (n := 2) hx hb hK hP hD hS 1 rfl (by decide) (by decide) dX5_begins_13 (fun H locs hP hD hS => ?_)
  rw [q_updL] at hP hD
  have hP : va_P C.1 vwCl ([(mo 0, .inr (5, [.ref (mo 1), .ref (mo 2), .ref (mo 3), .int (ev 0), .ref (mo 4), .int (ev 1), .int (ev 2), .int (ev 3), .int (ev 4), .ref (mo 5), .int (ev 5), .ref (mo 6), .ref (mo 7)])), (mo 6, .inl (C.2.2.1, 4, .inr (.inl (fun k => lN (upN (upN (upN v 0 0) 1 0) 2 0 k))))), (mo 7, .inl (C.2.2.1, 4, .inr (.inl (fun k => lN (o k)))))]) H := hP
  have hD : va_D (q_A (wO C mo ev v o) s) ([(mo 0, .inr (5, [.ref (mo 1), .ref (mo 2), .ref (mo 3), .int (ev 0), .ref (mo 4), .int (ev 1), .int (ev 2), .int (ev 3), .int (ev 4), .ref (mo 5), .int (ev 5), .ref (mo 6), .ref (mo 7)])), (mo 6, .inl (C.2.2.1, 4, .inr (.inl (fun k => lN (upN (upN (upN v 0 0) 1 0) 2 0 k))))), (mo 7, .inl (C.2.2.1, 4, .inr (.inl (fun k => lN (o k)))))]) := hD
  refine lv_iinc (v := nI 3) (lv' := [(1, .int (nI 3)), (0, .ref (mo 0))]) hx hb dX5_begins_14 hl (k := 0) rfl (by decide) (by decide) rfl (fun ls hl => ?_)
  refine lv_goto (tgt := 2) hx hb dX5_begins_17 (by decide) ?_
  refine lv_iload_n hx hb dX5_begins_2 rfl (lv_at hl 0 rfl) ?_
  refine lv_iconst (v := nI 4) hx hb dX5_begins_3 (by decide) ?_
  refine lv_icmp_ge (tgt := 20) hx hb dX5_begins_4 (by decide) (fun c => absurd c (by decide)) (fun _ => ?_)
  refine lv_aload_n hx hb dX5_begins_7 rfl (lv_at hl 1 rfl) ?_
  refine va_get (ci := 5) (v := .ref (mo 6)) (C := RX5) (T := TX5) (N := 13) hx hb hts hin5 hown hK.1 hP 0 rfl rfl 11 (by decide) hf26 (fun _ h9 => h9) rfl dX5_begins_8 ?_
  refine lv_iload_n hx hb dX5_begins_11 rfl (lv_at hl 0 rfl) ?_
  refine lv_lconst (v := lN 0) hx hb dX5_begins_12 (by decide) ?_
  refine q_last (n := 3) hx hb hK hP hD hS 1 rfl (by decide) (by decide) dX5_begins_13 (fun H locs hP hD hS => ?_)
  rw [q_updL] at hP hD
  have hP : va_P C.1 vwCl ([(mo 0, .inr (5, [.ref (mo 1), .ref (mo 2), .ref (mo 3), .int (ev 0), .ref (mo 4), .int (ev 1), .int (ev 2), .int (ev 3), .int (ev 4), .ref (mo 5), .int (ev 5), .ref (mo 6), .ref (mo 7)])), (mo 6, .inl (C.2.2.1, 4, .inr (.inl (fun k => lN (upN (upN (upN (upN v 0 0) 1 0) 2 0) 3 0 k))))), (mo 7, .inl (C.2.2.1, 4, .inr (.inl (fun k => lN (o k)))))]) H := hP
  have hD : va_D (q_A (wO C mo ev v o) s) ([(mo 0, .inr (5, [.ref (mo 1), .ref (mo 2), .ref (mo 3), .int (ev 0), .ref (mo 4), .int (ev 1), .int (ev 2), .int (ev 3), .int (ev 4), .ref (mo 5), .int (ev 5), .ref (mo 6), .ref (mo 7)])), (mo 6, .inl (C.2.2.1, 4, .inr (.inl (fun k => lN (upN (upN (upN (upN v 0 0) 1 0) 2 0) 3 0 k))))), (mo 7, .inl (C.2.2.1, 4, .inr (.inl (fun k => lN (o k)))))]) := hD
  refine lv_iinc (v := nI 4) (lv' := [(1, .int (nI 4)), (0, .ref (mo 0))]) hx hb dX5_begins_14 hl (k := 0) rfl (by decide) (by decide) rfl (fun ls hl => ?_)
  refine lv_goto (tgt := 2) hx hb dX5_begins_17 (by decide) ?_
  refine lv_iload_n hx hb dX5_begins_2 rfl (lv_at hl 0 rfl) ?_
  refine lv_iconst (v := nI 4) hx hb dX5_begins_3 (by decide) ?_
  refine lv_icmp_ge (tgt := 20) hx hb dX5_begins_4 (by decide) (fun _ => ?_) (fun c => absurd (by decide) c)
  have hP := q_swpL (g := fun k => lN ((fun _ => 0) k)) hP 1 rfl (q_r4 rfl rfl rfl rfl)
  have hD := hD.set (p := 1) (a := mo 6) (e := .inl (C.2.2.1, 4, .inr (.inl (fun k => lN ((fun _ => 0) k))))) rfl
  have hP : va_P C.1 vwCl ([(mo 0, .inr (5, [.ref (mo 1), .ref (mo 2), .ref (mo 3), .int (ev 0), .ref (mo 4), .int (ev 1), .int (ev 2), .int (ev 3), .int (ev 4), .ref (mo 5), .int (ev 5), .ref (mo 6), .ref (mo 7)])), (mo 6, .inl (C.2.2.1, 4, .inr (.inl (fun k => lN ((fun _ => 0) k))))), (mo 7, .inl (C.2.2.1, 4, .inr (.inl (fun k => lN (o k)))))]) H := hP
  have hD : va_D (q_A (wO C mo ev v o) s) ([(mo 0, .inr (5, [.ref (mo 1), .ref (mo 2), .ref (mo 3), .int (ev 0), .ref (mo 4), .int (ev 1), .int (ev 2), .int (ev 3), .int (ev 4), .ref (mo 5), .int (ev 5), .ref (mo 6), .ref (mo 7)])), (mo 6, .inl (C.2.2.1, 4, .inr (.inl (fun k => lN ((fun _ => 0) k))))), (mo 7, .inl (C.2.2.1, 4, .inr (.inl (fun k => lN (o k)))))]) := hD
  have hP : va_P C.1 vwCl (wO C mo ev (fun _ => 0) o) H := hP
  have hD : va_D (q_A (wO C mo ev v o) s) (wO C mo ev (fun _ => 0) o) := hD
  exact q_vret hx hb hr hlocks (w1 := wO C mo ev (fun _ => 0) o) hP hS rfl dX5_begins_20 (⟨rfl, rfl⟩)
set_option maxHeartbeats 4000000 in
set_option maxRecDepth 100000 in
theorem c_X5_expected (l : Launch) (C : q_C) (mo : Nat → Nat) (ev : Nat → Int32) (v o : Nat → Nat) (sa : Nat) (b : Bd) (a t : Nat) (hB : OkB b) (ha : a < 4) (ht : t < 4) (hv : ∀ j, j < 4 → v j ≤ 6000000) : q_M C l yX5_expected wsX5_expected 1 23 [.ref (mo 0), .ref sa, .int (nI a), .int (nI t)] (wO C mo ev v o ++ ([(sa, .inl (C.2.2.1, 82, .inr (.inl (mB b))))] : va_W)) (fun r w => r = some (.long (lN (expN b v (4 * a + t)))) ∧ w = wO C mo ev v o ++ ([(sa, .inl (C.2.2.1, 82, .inr (.inl (mB b))))] : va_W)) := by
  obtain ⟨f1, f2, f3, f4⟩ := hB.1 (4 * a + t) (by omega)
  obtain ⟨e1, e2, e3, e4⟩ := expN_le hB (k := 4 * a + t) (by omega) hv
  refine q_head (cc := cX5_expected) (maxL := 5) (ret := (some .long)) (by decide +kernel) rfl (Nat.le_of_ble_eq_true rfl) ?_
  intro p e s m below meth c hx hb hr hlocks hml hown hts hK hP hD hS hA ls hl
  have hl : lv_has ls 5 [(0, .ref (mo 0)), (1, .ref sa), (2, .int (nI a)), (3, .int (nI t))] := hl
  have hf26 := hts (.fieldLink RX5 26 "RestedArmsModel" "values" "[J") (by decide +kernel)
  have hin5 : ∀ w ∈ u_ws RX5 TX5 13, w ∈ wsX5_expected := by decide +kernel
  have hk61 := hts (.constantLong RX5 61 (8)) (by decide +kernel)
  refine lv_aload_n hx hb dX5_expected_0 rfl (lv_at hl 1 rfl) ?_
  refine lv_iload_n hx hb dX5_expected_1 rfl (lv_at hl 2 rfl) ?_
  refine lv_iload_n hx hb dX5_expected_2 rfl (lv_at hl 3 rfl) ?_
  refine lv_iconst (v := nI 3) hx hb dX5_expected_3 (by decide) ?_
  refine q_S (As := [.ref sa, .int (nI a), .int (nI t), .int (nI 3)]) (rest := []) ⟨hx, hb, hml, hown, hts⟩ (c_X5_of l C sa b a t 3 (by omega) (by omega) (by omega)) (va_cwS 4 hts gX5_expected_X5_of rfl rfl rfl (by decide +kernel) ⟨Nat.le_of_ble_eq_true rfl, Nat.le_of_ble_eq_true rfl⟩) hK hP hD hS hA [3] (by decide) rfl rfl hl.1 rfl (Nat.le_of_ble_eq_true rfl) dX5_expected_4 (Nat.zero_le _) (Nat.zero_le _) (fun r w1 H locs hQ hP hD hS => ?_)
  obtain ⟨rfl, rfl⟩ := hQ
  have hP : va_P C.1 vwCl (wO C mo ev v o ++ ([(sa, .inl (C.2.2.1, 82, .inr (.inl (mB b))))] : va_W)) H := hP
  have hD : va_D (q_A (wO C mo ev v o ++ ([(sa, .inl (C.2.2.1, 82, .inr (.inl (mB b))))] : va_W)) s) (wO C mo ev v o ++ ([(sa, .inl (C.2.2.1, 82, .inr (.inl (mB b))))] : va_W)) := hD
  refine W.eq (g2 := F0 m 7 ls [.int (nI (bc b (4 * a + t)))]) rfl ?_
  refine lv_istore (lv' := [(4, .int (nI (bc b (4 * a + t)))), (0, .ref (mo 0)), (1, .ref sa), (2, .int (nI a)), (3, .int (nI t))]) hx hb dX5_expected_7 hl (by decide) rfl (fun ls hl => ?_)
  refine lv_iload hx hb dX5_expected_9 (lv_at hl 0 rfl) ?_
  refine lv_i2l (v := lN (bc b (4 * a + t))) hx hb dX5_expected_11 (nI_l (by omega)) ?_
  refine lv_aload_n hx hb dX5_expected_12 rfl (lv_at hl 1 rfl) ?_
  refine va_get (ci := 5) (v := .ref (mo 6)) (C := RX5) (T := TX5) (N := 13) hx hb hts hin5 hown hK.1 hP 0 rfl rfl 11 (by decide) hf26 (fun _ h9 => h9) rfl dX5_expected_13 ?_
  refine lv_aload_n hx hb dX5_expected_16 rfl (lv_at hl 2 rfl) ?_
  refine lv_iload_n hx hb dX5_expected_17 rfl (lv_at hl 3 rfl) ?_
  refine lv_iload_n hx hb dX5_expected_18 rfl (lv_at hl 4 rfl) ?_
  refine lv_iconst (v := nI 1) hx hb dX5_expected_19 (by decide) ?_
  refine q_S (As := [.ref sa, .int (nI a), .int (nI t), .int (nI 1)]) (rest := [.ref (mo 6), .long (lN (bc b (4 * a + t)))]) ⟨hx, hb, hml, hown, hts⟩ (c_X5_of l C sa b a t 1 (by omega) (by omega) (by omega)) (va_cwS 4 hts gX5_expected_X5_of rfl rfl rfl (by decide +kernel) ⟨Nat.le_of_ble_eq_true rfl, Nat.le_of_ble_eq_true rfl⟩) hK hP hD hS hA [3] (by decide) rfl rfl hl.1 rfl (Nat.le_of_ble_eq_true rfl) dX5_expected_20 (Nat.zero_le _) (Nat.zero_le _) (fun r w1 H locs hQ hP hD hS => ?_)
  obtain ⟨rfl, rfl⟩ := hQ
  have hP : va_P C.1 vwCl (wO C mo ev v o ++ ([(sa, .inl (C.2.2.1, 82, .inr (.inl (mB b))))] : va_W)) H := hP
  have hD : va_D (q_A (wO C mo ev v o ++ ([(sa, .inl (C.2.2.1, 82, .inr (.inl (mB b))))] : va_W)) s) (wO C mo ev v o ++ ([(sa, .inl (C.2.2.1, 82, .inr (.inl (mB b))))] : va_W)) := hD
  refine W.eq (g2 := F0 m 23 ls [.int (nI (bo b (4 * a + t))), .ref (mo 6), .long (lN (bc b (4 * a + t)))]) rfl ?_
  refine q_lald (n := (bo b (4 * a + t))) (v := lN (v (bo b (4 * a + t)))) hx hb hK hP 1 rfl (by omega) (by decide) rfl dX5_expected_23 ?_
  refine lv_lmul hx hb dX5_expected_24 ?_
  refine q_tl (y := lN ((bc b (4 * a + t)) * (v (bo b (4 * a + t))))) (lN_mul _ _) ?_
  refine lv_bipush (v := nI 8) hx hb dX5_expected_25 (by decide) ?_
  refine lv_iload hx hb dX5_expected_27 (lv_at hl 0 rfl) ?_
  refine lv_isub hx hb dX5_expected_29 ?_
  refine q_ti (y := nI (8 - (bc b (4 * a + t)))) (pk_sub (by omega)) ?_
  refine lv_i2l (v := lN (8 - (bc b (4 * a + t)))) hx hb dX5_expected_30 (nI_l (by omega)) ?_
  refine lv_aload_n hx hb dX5_expected_31 rfl (lv_at hl 1 rfl) ?_
  refine va_get (ci := 5) (v := .ref (mo 6)) (C := RX5) (T := TX5) (N := 13) hx hb hts hin5 hown hK.1 hP 0 rfl rfl 11 (by decide) hf26 (fun _ h9 => h9) rfl dX5_expected_32 ?_
  refine lv_aload_n hx hb dX5_expected_35 rfl (lv_at hl 2 rfl) ?_
  refine lv_iload_n hx hb dX5_expected_36 rfl (lv_at hl 3 rfl) ?_
  refine lv_iload_n hx hb dX5_expected_37 rfl (lv_at hl 4 rfl) ?_
  refine lv_iconst (v := nI 2) hx hb dX5_expected_38 (by decide) ?_
  refine q_S (As := [.ref sa, .int (nI a), .int (nI t), .int (nI 2)]) (rest := [.ref (mo 6), .long (lN (8 - (bc b (4 * a + t)))), .long (lN ((bc b (4 * a + t)) * (v (bo b (4 * a + t)))))]) ⟨hx, hb, hml, hown, hts⟩ (c_X5_of l C sa b a t 2 (by omega) (by omega) (by omega)) (va_cwS 4 hts gX5_expected_X5_of rfl rfl rfl (by decide +kernel) ⟨Nat.le_of_ble_eq_true rfl, Nat.le_of_ble_eq_true rfl⟩) hK hP hD hS hA [3] (by decide) rfl rfl hl.1 rfl (Nat.le_of_ble_eq_true rfl) dX5_expected_39 (Nat.zero_le _) (Nat.zero_le _) (fun r w1 H locs hQ hP hD hS => ?_)
  obtain ⟨rfl, rfl⟩ := hQ
  have hP : va_P C.1 vwCl (wO C mo ev v o ++ ([(sa, .inl (C.2.2.1, 82, .inr (.inl (mB b))))] : va_W)) H := hP
  have hD : va_D (q_A (wO C mo ev v o ++ ([(sa, .inl (C.2.2.1, 82, .inr (.inl (mB b))))] : va_W)) s) (wO C mo ev v o ++ ([(sa, .inl (C.2.2.1, 82, .inr (.inl (mB b))))] : va_W)) := hD
  refine W.eq (g2 := F0 m 42 ls [.int (nI (bb b (4 * a + t))), .ref (mo 6), .long (lN (8 - (bc b (4 * a + t)))), .long (lN ((bc b (4 * a + t)) * (v (bo b (4 * a + t)))))]) rfl ?_
  refine q_lald (n := (bb b (4 * a + t))) (v := lN (v (bb b (4 * a + t)))) hx hb hK hP 1 rfl (by omega) (by decide) rfl dX5_expected_42 ?_
  refine lv_lmul hx hb dX5_expected_43 ?_
  refine q_tl (y := lN ((8 - (bc b (4 * a + t))) * (v (bb b (4 * a + t))))) (lN_mul _ _) ?_
  refine lv_ladd hx hb dX5_expected_44 ?_
  refine q_tl (y := lN (((bc b (4 * a + t)) * (v (bo b (4 * a + t)))) + ((8 - (bc b (4 * a + t))) * (v (bb b (4 * a + t)))))) (lN_add _ _) ?_
  refine lv_ldc2 hx hb hown hk61 dX5_expected_45 ?_
  refine q_tl (y := lN 8) (by decide) ?_
  refine lv_ldiv hx hb dX5_expected_48 (by decide) ?_
  refine q_tl (y := lN (expN b v (4 * a + t))) (pk_lDiv (by omega) (by decide) (by decide)) ?_
  exact q_lret hx hb hr hlocks (w1 := wO C mo ev v o ++ ([(sa, .inl (C.2.2.1, 82, .inr (.inl (mB b))))] : va_W)) hP hS rfl dX5_expected_49 (⟨rfl, rfl⟩)
set_option maxHeartbeats 4000000 in
set_option maxRecDepth 100000 in
theorem c_X5_round (l : Launch) (C : q_C) (mo : Nat → Nat) (ev : Nat → Int32) (v o : Nat → Nat) (sa : Nat) (b : Bd) (a t : Nat) (hB : OkB b) (ha : a < 4) (ht : t < 4) (hv : ∀ j, j < 4 → v j ≤ 6000000) : q_M C l yX5_round wsX5_round 2 47 [.ref (mo 0), .ref sa, .int (nI a), .int (nI t)] (wO C mo ev v o ++ ([(sa, .inl (C.2.2.1, 82, .inr (.inl (mB b))))] : va_W)) (fun r w => r = none ∧ w = wO C mo ev (rndN b a t v) (ownN b a v) ++ ([(sa, .inl (C.2.2.1, 82, .inr (.inl (mB b))))] : va_W)) := by
  obtain ⟨ok1, ok2, ⟨ok3, ok4, ok5, ok6, ok7⟩, ok8, ok9⟩ := id hB
  refine q_head (cc := cX5_round) (maxL := 5) (ret := none) (by decide +kernel) rfl (Nat.le_of_ble_eq_true rfl) ?_
  intro p e s m below meth c hx hb hr hlocks hml hown hts hK hP hD hS hA ls hl
  have hl : lv_has ls 5 [(0, .ref (mo 0)), (1, .ref sa), (2, .int (nI a)), (3, .int (nI t))] := hl
  have hf26 := hts (.fieldLink RX5 26 "RestedArmsModel" "values" "[J") (by decide +kernel)
  have hf29 := hts (.fieldLink RX5 29 "RestedArmsModel" "owns" "[J") (by decide +kernel)
  have hin5 : ∀ w ∈ u_ws RX5 TX5 13, w ∈ wsX5_round := by decide +kernel
  have hk63 := hts (.constantLong RX5 63 (1000)) (by decide +kernel)
  have hk69 := hts (.constantLong RX5 69 (100)) (by decide +kernel)
  refine lv_iconst (v := nI 0) hx hb dX5_round_0 (by decide) ?_
  refine lv_istore (lv' := [(4, .int (nI 0)), (0, .ref (mo 0)), (1, .ref sa), (2, .int (nI a)), (3, .int (nI t))]) hx hb dX5_round_1 hl (by decide) rfl (fun ls hl => ?_)
  have K3 : ∀ (n3 i3 : Nat), i3 ≤ 4 → 4 + 1 ≤ i3 + n3 → ∀ (H : Heap) (locs : List Loc) (ls : Array Slot), va_P C.1 vwCl (wO C mo ev v (fillN (ownN b a v) o i3) ++ ([(sa, .inl (C.2.2.1, 82, .inr (.inl (mB b))))] : va_W)) H → va_D (q_A (wO C mo ev v o ++ ([(sa, .inl (C.2.2.1, 82, .inr (.inl (mB b))))] : va_W)) s) (wO C mo ev v (fillN (ownN b a v) o i3) ++ ([(sa, .inl (C.2.2.1, 82, .inr (.inl (mB b))))] : va_W)) → va_S (q_A (wO C mo ev v o ++ ([(sa, .inl (C.2.2.1, 82, .inr (.inl (mB b))))] : va_W)) s) s.heap H locs → lv_has ls 5 [(4, .int (nI i3)), (0, .ref (mo 0)), (1, .ref sa), (2, .int (nI a)), (3, .int (nI t))] → W p l e (q_R 2 47) s m ([.ref (mo 0), .ref sa, .int (nI a), .int (nI t)] : List Value).toArray below meth c H locs 0 0 (q_G C below (wO C mo ev v o ++ ([(sa, .inl (C.2.2.1, 82, .inr (.inl (mB b))))] : va_W)) (fun r w => r = none ∧ w = wO C mo ev (rndN b a t v) (ownN b a v) ++ ([(sa, .inl (C.2.2.1, 82, .inr (.inl (mB b))))] : va_W)) ([.ref (mo 0), .ref sa, .int (nI a), .int (nI t)] : List Value).toArray s) (F0 m 3 ls []) := by
    intro n3
    induction n3 with
    | zero => intro i3  q1 q2; exact absurd q2 (by omega)
    | succ n3 ih3 =>
      intro i3  hi3 hn3  H locs ls hP hD hS hl
      refine lv_iload hx hb dX5_round_3 (lv_at hl 0 rfl) ?_
      refine lv_iconst (v := nI 4) hx hb dX5_round_5 (by decide) ?_
      refine lv_icmp_ge (tgt := 52) hx hb dX5_round_6 (by decide) (fun c6 => ?_) (fun c6 => ?_)
      · have c6 : 4 ≤ i3 := q_nge (by omega) (by omega) c6
        have e9 : i3 = 4 := by omega
        subst e9
        have hP := q_swpL (g := fun k => lN ((ownN b a v) k)) hP 2 rfl (fun k hk => congrArg lN (fillN_in hk))
        have hD := hD.set (p := 2) (a := mo 7) (e := .inl (C.2.2.1, 4, .inr (.inl (fun k => lN ((ownN b a v) k))))) rfl
        have hP : va_P C.1 vwCl ([(mo 0, .inr (5, [.ref (mo 1), .ref (mo 2), .ref (mo 3), .int (ev 0), .ref (mo 4), .int (ev 1), .int (ev 2), .int (ev 3), .int (ev 4), .ref (mo 5), .int (ev 5), .ref (mo 6), .ref (mo 7)])), (mo 6, .inl (C.2.2.1, 4, .inr (.inl (fun k => lN (v k))))), (mo 7, .inl (C.2.2.1, 4, .inr (.inl (fun k => lN ((ownN b a v) k))))), (sa, .inl (C.2.2.1, 82, .inr (.inl (mB b))))]) H := hP
        have hD : va_D (q_A (wO C mo ev v o ++ ([(sa, .inl (C.2.2.1, 82, .inr (.inl (mB b))))] : va_W)) s) ([(mo 0, .inr (5, [.ref (mo 1), .ref (mo 2), .ref (mo 3), .int (ev 0), .ref (mo 4), .int (ev 1), .int (ev 2), .int (ev 3), .int (ev 4), .ref (mo 5), .int (ev 5), .ref (mo 6), .ref (mo 7)])), (mo 6, .inl (C.2.2.1, 4, .inr (.inl (fun k => lN (v k))))), (mo 7, .inl (C.2.2.1, 4, .inr (.inl (fun k => lN ((ownN b a v) k))))), (sa, .inl (C.2.2.1, 82, .inr (.inl (mB b))))]) := hD
        have hP : va_P C.1 vwCl (wO C mo ev v (ownN b a v) ++ ([(sa, .inl (C.2.2.1, 82, .inr (.inl (mB b))))] : va_W)) H := hP
        have hD : va_D (q_A (wO C mo ev v o ++ ([(sa, .inl (C.2.2.1, 82, .inr (.inl (mB b))))] : va_W)) s) (wO C mo ev v (ownN b a v) ++ ([(sa, .inl (C.2.2.1, 82, .inr (.inl (mB b))))] : va_W)) := hD
        have hoh := ownN_le hB ha ht hv
        refine lv_iconst (v := nI 0) hx hb dX5_round_52 (by decide) ?_
        refine lv_istore (lv' := [(4, .int (nI 0)), (0, .ref (mo 0)), (1, .ref sa), (2, .int (nI a)), (3, .int (nI t))]) hx hb dX5_round_53 hl (by decide) rfl (fun ls hl => ?_)
        have K55 : ∀ (n55 i55 : Nat), i55 ≤ 4 → 4 + 1 ≤ i55 + n55 → ∀ (H : Heap) (locs : List Loc) (ls : Array Slot), va_P C.1 vwCl (wO C mo ev (fillN (rndN b a t v) v i55) (ownN b a v) ++ ([(sa, .inl (C.2.2.1, 82, .inr (.inl (mB b))))] : va_W)) H → va_D (q_A (wO C mo ev v o ++ ([(sa, .inl (C.2.2.1, 82, .inr (.inl (mB b))))] : va_W)) s) (wO C mo ev (fillN (rndN b a t v) v i55) (ownN b a v) ++ ([(sa, .inl (C.2.2.1, 82, .inr (.inl (mB b))))] : va_W)) → va_S (q_A (wO C mo ev v o ++ ([(sa, .inl (C.2.2.1, 82, .inr (.inl (mB b))))] : va_W)) s) s.heap H locs → lv_has ls 5 [(4, .int (nI i55)), (0, .ref (mo 0)), (1, .ref sa), (2, .int (nI a)), (3, .int (nI t))] → W p l e (q_R 2 47) s m ([.ref (mo 0), .ref sa, .int (nI a), .int (nI t)] : List Value).toArray below meth c H locs 0 0 (q_G C below (wO C mo ev v o ++ ([(sa, .inl (C.2.2.1, 82, .inr (.inl (mB b))))] : va_W)) (fun r w => r = none ∧ w = wO C mo ev (rndN b a t v) (ownN b a v) ++ ([(sa, .inl (C.2.2.1, 82, .inr (.inl (mB b))))] : va_W)) ([.ref (mo 0), .ref sa, .int (nI a), .int (nI t)] : List Value).toArray s) (F0 m 55 ls []) := by
          intro n55
          induction n55 with
          | zero => intro i55  q1 q2; exact absurd q2 (by omega)
          | succ n55 ih55 =>
            intro i55  hi55 hn55  H locs ls hP hD hS hl
            refine lv_iload hx hb dX5_round_55 (lv_at hl 0 rfl) ?_
            refine lv_iconst (v := nI 4) hx hb dX5_round_57 (by decide) ?_
            refine lv_icmp_ge (tgt := 107) hx hb dX5_round_58 (by decide) (fun c58 => ?_) (fun c58 => ?_)
            · have c58 : 4 ≤ i55 := q_nge (by omega) (by omega) c58
              have e9 : i55 = 4 := by omega
              subst e9
              have hP := q_swpL (g := fun k => lN ((rndN b a t v) k)) hP 1 rfl (fun k hk => congrArg lN (fillN_in hk))
              have hD := hD.set (p := 1) (a := mo 6) (e := .inl (C.2.2.1, 4, .inr (.inl (fun k => lN ((rndN b a t v) k))))) rfl
              have hP : va_P C.1 vwCl ([(mo 0, .inr (5, [.ref (mo 1), .ref (mo 2), .ref (mo 3), .int (ev 0), .ref (mo 4), .int (ev 1), .int (ev 2), .int (ev 3), .int (ev 4), .ref (mo 5), .int (ev 5), .ref (mo 6), .ref (mo 7)])), (mo 6, .inl (C.2.2.1, 4, .inr (.inl (fun k => lN ((rndN b a t v) k))))), (mo 7, .inl (C.2.2.1, 4, .inr (.inl (fun k => lN ((ownN b a v) k))))), (sa, .inl (C.2.2.1, 82, .inr (.inl (mB b))))]) H := hP
              have hD : va_D (q_A (wO C mo ev v o ++ ([(sa, .inl (C.2.2.1, 82, .inr (.inl (mB b))))] : va_W)) s) ([(mo 0, .inr (5, [.ref (mo 1), .ref (mo 2), .ref (mo 3), .int (ev 0), .ref (mo 4), .int (ev 1), .int (ev 2), .int (ev 3), .int (ev 4), .ref (mo 5), .int (ev 5), .ref (mo 6), .ref (mo 7)])), (mo 6, .inl (C.2.2.1, 4, .inr (.inl (fun k => lN ((rndN b a t v) k))))), (mo 7, .inl (C.2.2.1, 4, .inr (.inl (fun k => lN ((ownN b a v) k))))), (sa, .inl (C.2.2.1, 82, .inr (.inl (mB b))))]) := hD
              have hP : va_P C.1 vwCl (wO C mo ev (rndN b a t v) (ownN b a v) ++ ([(sa, .inl (C.2.2.1, 82, .inr (.inl (mB b))))] : va_W)) H := hP
              have hD : va_D (q_A (wO C mo ev v o ++ ([(sa, .inl (C.2.2.1, 82, .inr (.inl (mB b))))] : va_W)) s) (wO C mo ev (rndN b a t v) (ownN b a v) ++ ([(sa, .inl (C.2.2.1, 82, .inr (.inl (mB b))))] : va_W)) := hD
              exact q_vret hx hb hr hlocks (w1 := wO C mo ev (rndN b a t v) (ownN b a v) ++ ([(sa, .inl (C.2.2.1, 82, .inr (.inl (mB b))))] : va_W)) hP hS rfl dX5_round_107 (⟨rfl, rfl⟩)
            · have c58 : i55 < 4 := q_nge' (by omega) (by omega) c58
              have hoi := ownN_le hB ha (t := i55) (by omega) hv
              refine lv_aload_n hx hb dX5_round_61 rfl (lv_at hl 1 rfl) ?_
              refine va_get (ci := 5) (v := .ref (mo 6)) (C := RX5) (T := TX5) (N := 13) hx hb hts hin5 hown hK.1 hP 0 rfl rfl 11 (by decide) hf26 (fun _ h9 => h9) rfl dX5_round_62 ?_
              refine lv_iload hx hb dX5_round_65 (lv_at hl 0 rfl) ?_
              refine lv_aload_n hx hb dX5_round_67 rfl (lv_at hl 1 rfl) ?_
              refine va_get (ci := 5) (v := .ref (mo 7)) (C := RX5) (T := TX5) (N := 13) hx hb hts hin5 hown hK.1 hP 0 rfl rfl 12 (by decide) hf29 (fun _ h9 => h9) rfl dX5_round_68 ?_
              refine lv_iload hx hb dX5_round_71 (lv_at hl 0 rfl) ?_
              refine q_lald (n := i55) (v := lN ((ownN b a v) i55)) hx hb hK hP 2 rfl (by omega) (by decide) rfl dX5_round_73 ?_
              refine lv_aload_n hx hb dX5_round_74 rfl (lv_at hl 1 rfl) ?_
              refine va_get (ci := 5) (v := .ref (mo 7)) (C := RX5) (T := TX5) (N := 13) hx hb hts hin5 hown hK.1 hP 0 rfl rfl 12 (by decide) hf29 (fun _ h9 => h9) rfl dX5_round_75 ?_
              refine lv_iload_n hx hb dX5_round_78 rfl (lv_at hl 4 rfl) ?_
              refine q_lald (n := t) (v := lN ((ownN b a v) t)) hx hb hK hP 2 rfl (by omega) (by decide) rfl dX5_round_79 ?_
              refine W.lcmp hx hb dX5_round_80 ?_
              refine lv_if_le (tgt := 94) hx hb dX5_round_81 (by decide) (fun c81 => ?_) (fun c81 => ?_)
              · have c81 : ((ownN b a v) i55) ≤ ((ownN b a v) t) := q_Lle (by omega) (by omega) c81
                refine lv_aload_n hx hb dX5_round_94 rfl (lv_at hl 1 rfl) ?_
                refine va_get (ci := 5) (v := .ref (mo 7)) (C := RX5) (T := TX5) (N := 13) hx hb hts hin5 hown hK.1 hP 0 rfl rfl 12 (by decide) hf29 (fun _ h9 => h9) rfl dX5_round_95 ?_
                refine lv_iload_n hx hb dX5_round_98 rfl (lv_at hl 4 rfl) ?_
                refine q_lald (n := t) (v := lN ((ownN b a v) t)) hx hb hK hP 2 rfl (by omega) (by decide) rfl dX5_round_99 ?_
                refine q_tl (y := lN (rndN b a t v i55)) (congrArg lN (show _ = max (ownN b a v i55) (ownN b a v t) from (Nat.max_eq_right (by omega)).symm)) ?_
                refine q_last (n := i55) hx hb hK hP hD hS 1 rfl (by omega) (by decide) dX5_round_100 (fun H locs hP hD hS => ?_)
                rw [q_updL] at hP hD
                have hP : va_P C.1 vwCl ([(mo 0, .inr (5, [.ref (mo 1), .ref (mo 2), .ref (mo 3), .int (ev 0), .ref (mo 4), .int (ev 1), .int (ev 2), .int (ev 3), .int (ev 4), .ref (mo 5), .int (ev 5), .ref (mo 6), .ref (mo 7)])), (mo 6, .inl (C.2.2.1, 4, .inr (.inl (fun k => lN (upN (fillN (rndN b a t v) v i55) i55 (rndN b a t v i55) k))))), (mo 7, .inl (C.2.2.1, 4, .inr (.inl (fun k => lN ((ownN b a v) k))))), (sa, .inl (C.2.2.1, 82, .inr (.inl (mB b))))]) H := hP
                have hD : va_D (q_A (wO C mo ev v o ++ ([(sa, .inl (C.2.2.1, 82, .inr (.inl (mB b))))] : va_W)) s) ([(mo 0, .inr (5, [.ref (mo 1), .ref (mo 2), .ref (mo 3), .int (ev 0), .ref (mo 4), .int (ev 1), .int (ev 2), .int (ev 3), .int (ev 4), .ref (mo 5), .int (ev 5), .ref (mo 6), .ref (mo 7)])), (mo 6, .inl (C.2.2.1, 4, .inr (.inl (fun k => lN (upN (fillN (rndN b a t v) v i55) i55 (rndN b a t v i55) k))))), (mo 7, .inl (C.2.2.1, 4, .inr (.inl (fun k => lN ((ownN b a v) k))))), (sa, .inl (C.2.2.1, 82, .inr (.inl (mB b))))]) := hD
                rw [show upN (fillN (rndN b a t v) v i55) i55 (rndN b a t v i55) = fillN (rndN b a t v) v (i55 + 1) from fillN_s _ _ _] at hP hD
                have hP : va_P C.1 vwCl (wO C mo ev (fillN (rndN b a t v) v (i55 + 1)) (ownN b a v) ++ ([(sa, .inl (C.2.2.1, 82, .inr (.inl (mB b))))] : va_W)) H := hP
                have hD : va_D (q_A (wO C mo ev v o ++ ([(sa, .inl (C.2.2.1, 82, .inr (.inl (mB b))))] : va_W)) s) (wO C mo ev (fillN (rndN b a t v) v (i55 + 1)) (ownN b a v) ++ ([(sa, .inl (C.2.2.1, 82, .inr (.inl (mB b))))] : va_W)) := hD
                refine lv_iinc (v := nI (i55 + 1)) (lv' := [(4, .int (nI (i55 + 1))), (0, .ref (mo 0)), (1, .ref sa), (2, .int (nI a)), (3, .int (nI t))]) hx hb dX5_round_101 hl (k := 0) rfl (nI_1 _) (by decide) rfl (fun ls hl => ?_)
                refine lv_goto (tgt := 55) hx hb dX5_round_104 (by decide) ?_
                exact ih55 (i55 + 1)  (by omega) (by omega)  _ _ ls hP hD hS (lv_sub hl [0, 1, 2, 3, 4] rfl)
              · have c81 : ((ownN b a v) t) < ((ownN b a v) i55) := q_Lle' (by omega) (by omega) c81
                refine lv_aload_n hx hb dX5_round_84 rfl (lv_at hl 1 rfl) ?_
                refine va_get (ci := 5) (v := .ref (mo 7)) (C := RX5) (T := TX5) (N := 13) hx hb hts hin5 hown hK.1 hP 0 rfl rfl 12 (by decide) hf29 (fun _ h9 => h9) rfl dX5_round_85 ?_
                refine lv_iload hx hb dX5_round_88 (lv_at hl 0 rfl) ?_
                refine q_lald (n := i55) (v := lN ((ownN b a v) i55)) hx hb hK hP 2 rfl (by omega) (by decide) rfl dX5_round_90 ?_
                refine lv_goto (tgt := 100) hx hb dX5_round_91 (by decide) ?_
                refine q_tl (y := lN (rndN b a t v i55)) (congrArg lN (show _ = max (ownN b a v i55) (ownN b a v t) from (Nat.max_eq_left (by omega)).symm)) ?_
                refine q_last (n := i55) hx hb hK hP hD hS 1 rfl (by omega) (by decide) dX5_round_100 (fun H locs hP hD hS => ?_)
                rw [q_updL] at hP hD
                have hP : va_P C.1 vwCl ([(mo 0, .inr (5, [.ref (mo 1), .ref (mo 2), .ref (mo 3), .int (ev 0), .ref (mo 4), .int (ev 1), .int (ev 2), .int (ev 3), .int (ev 4), .ref (mo 5), .int (ev 5), .ref (mo 6), .ref (mo 7)])), (mo 6, .inl (C.2.2.1, 4, .inr (.inl (fun k => lN (upN (fillN (rndN b a t v) v i55) i55 (rndN b a t v i55) k))))), (mo 7, .inl (C.2.2.1, 4, .inr (.inl (fun k => lN ((ownN b a v) k))))), (sa, .inl (C.2.2.1, 82, .inr (.inl (mB b))))]) H := hP
                have hD : va_D (q_A (wO C mo ev v o ++ ([(sa, .inl (C.2.2.1, 82, .inr (.inl (mB b))))] : va_W)) s) ([(mo 0, .inr (5, [.ref (mo 1), .ref (mo 2), .ref (mo 3), .int (ev 0), .ref (mo 4), .int (ev 1), .int (ev 2), .int (ev 3), .int (ev 4), .ref (mo 5), .int (ev 5), .ref (mo 6), .ref (mo 7)])), (mo 6, .inl (C.2.2.1, 4, .inr (.inl (fun k => lN (upN (fillN (rndN b a t v) v i55) i55 (rndN b a t v i55) k))))), (mo 7, .inl (C.2.2.1, 4, .inr (.inl (fun k => lN ((ownN b a v) k))))), (sa, .inl (C.2.2.1, 82, .inr (.inl (mB b))))]) := hD
                rw [show upN (fillN (rndN b a t v) v i55) i55 (rndN b a t v i55) = fillN (rndN b a t v) v (i55 + 1) from fillN_s _ _ _] at hP hD
                have hP : va_P C.1 vwCl (wO C mo ev (fillN (rndN b a t v) v (i55 + 1)) (ownN b a v) ++ ([(sa, .inl (C.2.2.1, 82, .inr (.inl (mB b))))] : va_W)) H := hP
                have hD : va_D (q_A (wO C mo ev v o ++ ([(sa, .inl (C.2.2.1, 82, .inr (.inl (mB b))))] : va_W)) s) (wO C mo ev (fillN (rndN b a t v) v (i55 + 1)) (ownN b a v) ++ ([(sa, .inl (C.2.2.1, 82, .inr (.inl (mB b))))] : va_W)) := hD
                refine lv_iinc (v := nI (i55 + 1)) (lv' := [(4, .int (nI (i55 + 1))), (0, .ref (mo 0)), (1, .ref sa), (2, .int (nI a)), (3, .int (nI t))]) hx hb dX5_round_101 hl (k := 0) rfl (nI_1 _) (by decide) rfl (fun ls hl => ?_)
                refine lv_goto (tgt := 55) hx hb dX5_round_104 (by decide) ?_
                exact ih55 (i55 + 1)  (by omega) (by omega)  _ _ ls hP hD hS (lv_sub hl [0, 1, 2, 3, 4] rfl)
        exact K55 (4 + 1 - 0) 0  (by omega) (by omega)  _ _ ls hP hD hS (lv_sub hl [0, 1, 2, 3, 4] rfl)
      · have c6 : i3 < 4 := q_nge' (by omega) (by omega) c6
        obtain ⟨e1, e2, e3, e4⟩ := expN_le hB (k := 4 * a + i3) (by omega) hv
        obtain ⟨f1, f2, f3, f4⟩ := ok1 (4 * a + i3) (by omega)
        have e5 : bs b 0 * expN b v (4 * a + i3) ≤ 99 * 6000000 := Nat.mul_le_mul ok3 e4
        refine lv_aload_n hx hb dX5_round_9 rfl (lv_at hl 1 rfl) ?_
        refine va_get (ci := 5) (v := .ref (mo 7)) (C := RX5) (T := TX5) (N := 13) hx hb hts hin5 hown hK.1 hP 0 rfl rfl 12 (by decide) hf29 (fun _ h9 => h9) rfl dX5_round_10 ?_
        refine lv_iload hx hb dX5_round_13 (lv_at hl 0 rfl) ?_
        refine lv_ldc2 hx hb hown hk63 dX5_round_15 ?_
        refine q_tl (y := lN 1000) (by decide) ?_
        refine lv_aload_n hx hb dX5_round_18 rfl (lv_at hl 2 rfl) ?_
        refine lv_iload_n hx hb dX5_round_19 rfl (lv_at hl 3 rfl) ?_
        refine lv_iload hx hb dX5_round_20 (lv_at hl 0 rfl) ?_
        refine lv_iconst (v := nI 0) hx hb dX5_round_22 (by decide) ?_
        refine q_S (As := [.ref sa, .int (nI a), .int (nI i3), .int (nI 0)]) (rest := [.long (lN 1000), .int (nI i3), .ref (mo 7)]) ⟨hx, hb, hml, hown, hts⟩ (c_X5_of l C sa b a i3 0 (by omega) (by omega) (by omega)) (va_cwS 4 hts gX5_round_X5_of rfl rfl rfl (by decide +kernel) ⟨Nat.le_of_ble_eq_true rfl, Nat.le_of_ble_eq_true rfl⟩) hK hP hD hS hA [3] (by decide) rfl rfl hl.1 rfl (Nat.le_of_ble_eq_true rfl) dX5_round_23 (Nat.zero_le _) (Nat.zero_le _) (fun r w1 H locs hQ hP hD hS => ?_)
        obtain ⟨rfl, rfl⟩ := hQ
        have hP : va_P C.1 vwCl (wO C mo ev v (fillN (ownN b a v) o i3) ++ ([(sa, .inl (C.2.2.1, 82, .inr (.inl (mB b))))] : va_W)) H := hP
        have hD : va_D (q_A (wO C mo ev v o ++ ([(sa, .inl (C.2.2.1, 82, .inr (.inl (mB b))))] : va_W)) s) (wO C mo ev v (fillN (ownN b a v) o i3) ++ ([(sa, .inl (C.2.2.1, 82, .inr (.inl (mB b))))] : va_W)) := hD
        refine W.eq (g2 := F0 m 26 ls [.int (nI (bg b (4 * a + i3))), .long (lN 1000), .int (nI i3), .ref (mo 7)]) rfl ?_
        refine lv_i2l (v := lN (bg b (4 * a + i3))) hx hb dX5_round_26 (nI_l (by omega)) ?_
        refine lv_lmul hx hb dX5_round_27 ?_
        refine q_tl (y := lN (1000 * (bg b (4 * a + i3)))) (lN_mul _ _) ?_
        refine lv_aload_n hx hb dX5_round_28 rfl (lv_at hl 2 rfl) ?_
        refine lv_iconst (v := nI 0) hx hb dX5_round_29 (by decide) ?_
        refine q_lald (n := 0) (v := mB b 0) hx hb hK hP 3 rfl (by decide) (by decide) rfl dX5_round_30 ?_
        refine q_tl (y := lN (bs b 0)) (mB_s b (by decide)) ?_
        refine lv_aload_n hx hb dX5_round_31 rfl (lv_at hl 1 rfl) ?_
        refine lv_aload_n hx hb dX5_round_32 rfl (lv_at hl 2 rfl) ?_
        refine lv_iload_n hx hb dX5_round_33 rfl (lv_at hl 3 rfl) ?_
        refine lv_iload hx hb dX5_round_34 (lv_at hl 0 rfl) ?_
        refine q_V (As := [.ref sa, .int (nI a), .int (nI i3)]) (rest := [.long (lN (bs b 0)), .long (lN (1000 * (bg b (4 * a + i3)))), .int (nI i3), .ref (mo 7)]) ⟨hx, hb, hml, hown, hts⟩ (c_X5_expected l C mo ev v (fillN (ownN b a v) o i3) sa b a i3 hB (by omega) (by omega) hv) (cwV 3 hts gX5_round_X5_expected rfl rfl rfl (by decide +kernel) ⟨Nat.le_of_ble_eq_true rfl, Nat.le_of_ble_eq_true rfl⟩) hK hP hD hS hA [0, 1, 2, 3] (by decide) rfl 0 rfl rfl rfl rfl hl.1 rfl (Nat.le_of_ble_eq_true rfl) dX5_round_36 (Nat.zero_le _) (Nat.zero_le _) (fun r w1 H locs hQ hP hD hS => ?_)
        obtain ⟨rfl, rfl⟩ := hQ
        have hP : va_P C.1 vwCl (wO C mo ev v (fillN (ownN b a v) o i3) ++ ([(sa, .inl (C.2.2.1, 82, .inr (.inl (mB b))))] : va_W)) H := hP
        have hD : va_D (q_A (wO C mo ev v o ++ ([(sa, .inl (C.2.2.1, 82, .inr (.inl (mB b))))] : va_W)) s) (wO C mo ev v (fillN (ownN b a v) o i3) ++ ([(sa, .inl (C.2.2.1, 82, .inr (.inl (mB b))))] : va_W)) := hD
        refine W.eq (g2 := F0 m 39 ls [.long (lN (expN b v (4 * a + i3))), .long (lN (bs b 0)), .long (lN (1000 * (bg b (4 * a + i3)))), .int (nI i3), .ref (mo 7)]) rfl ?_
        refine lv_lmul hx hb dX5_round_39 ?_
        refine q_tl (y := lN ((bs b 0) * (expN b v (4 * a + i3)))) (lN_mul _ _) ?_
        refine lv_ldc2 hx hb hown hk69 dX5_round_40 ?_
        refine q_tl (y := lN 100) (by decide) ?_
        refine lv_ldiv hx hb dX5_round_43 (by decide) ?_
        refine q_tl (y := lN (bs b 0 * expN b v (4 * a + i3) / 100)) (pk_lDiv (by omega) (by decide) (by decide)) ?_
        refine lv_ladd hx hb dX5_round_44 ?_
        refine q_tl (y := lN ((1000 * (bg b (4 * a + i3))) + (bs b 0 * expN b v (4 * a + i3) / 100))) (lN_add _ _) ?_
        refine q_last (n := i3) hx hb hK hP hD hS 2 rfl (by omega) (by decide) dX5_round_45 (fun H locs hP hD hS => ?_)
        rw [q_updL] at hP hD
        have hP : va_P C.1 vwCl ([(mo 0, .inr (5, [.ref (mo 1), .ref (mo 2), .ref (mo 3), .int (ev 0), .ref (mo 4), .int (ev 1), .int (ev 2), .int (ev 3), .int (ev 4), .ref (mo 5), .int (ev 5), .ref (mo 6), .ref (mo 7)])), (mo 6, .inl (C.2.2.1, 4, .inr (.inl (fun k => lN (v k))))), (mo 7, .inl (C.2.2.1, 4, .inr (.inl (fun k => lN (upN (fillN (ownN b a v) o i3) i3 ((1000 * (bg b (4 * a + i3))) + (bs b 0 * expN b v (4 * a + i3) / 100)) k))))), (sa, .inl (C.2.2.1, 82, .inr (.inl (mB b))))]) H := hP
        have hD : va_D (q_A (wO C mo ev v o ++ ([(sa, .inl (C.2.2.1, 82, .inr (.inl (mB b))))] : va_W)) s) ([(mo 0, .inr (5, [.ref (mo 1), .ref (mo 2), .ref (mo 3), .int (ev 0), .ref (mo 4), .int (ev 1), .int (ev 2), .int (ev 3), .int (ev 4), .ref (mo 5), .int (ev 5), .ref (mo 6), .ref (mo 7)])), (mo 6, .inl (C.2.2.1, 4, .inr (.inl (fun k => lN (v k))))), (mo 7, .inl (C.2.2.1, 4, .inr (.inl (fun k => lN (upN (fillN (ownN b a v) o i3) i3 ((1000 * (bg b (4 * a + i3))) + (bs b 0 * expN b v (4 * a + i3) / 100)) k))))), (sa, .inl (C.2.2.1, 82, .inr (.inl (mB b))))]) := hD
        rw [show upN (fillN (ownN b a v) o i3) i3 ((1000 * (bg b (4 * a + i3))) + (bs b 0 * expN b v (4 * a + i3) / 100)) = fillN (ownN b a v) o (i3 + 1) from fillN_s _ _ _] at hP hD
        have hP : va_P C.1 vwCl (wO C mo ev v (fillN (ownN b a v) o (i3 + 1)) ++ ([(sa, .inl (C.2.2.1, 82, .inr (.inl (mB b))))] : va_W)) H := hP
        have hD : va_D (q_A (wO C mo ev v o ++ ([(sa, .inl (C.2.2.1, 82, .inr (.inl (mB b))))] : va_W)) s) (wO C mo ev v (fillN (ownN b a v) o (i3 + 1)) ++ ([(sa, .inl (C.2.2.1, 82, .inr (.inl (mB b))))] : va_W)) := hD
        refine lv_iinc (v := nI (i3 + 1)) (lv' := [(4, .int (nI (i3 + 1))), (0, .ref (mo 0)), (1, .ref sa), (2, .int (nI a)), (3, .int (nI t))]) hx hb dX5_round_46 hl (k := 0) rfl (nI_1 _) (by decide) rfl (fun ls hl => ?_)
        refine lv_goto (tgt := 3) hx hb dX5_round_49 (by decide) ?_
        exact ih3 (i3 + 1)  (by omega) (by omega)  _ _ ls hP hD hS (lv_sub hl [0, 1, 2, 3, 4] rfl)
  rw [show o = fillN (ownN b a v) o 0 from (fillN_0 _ _).symm] at hP hD
  exact K3 (4 + 1 - 0) 0  (by omega) (by omega)  _ _ ls hP hD hS (lv_sub hl [0, 1, 2, 3, 4] rfl)
set_option maxHeartbeats 4000000 in
set_option maxRecDepth 100000 in
theorem c_X5_indexBy (l : Launch) (C : q_C) (mo : Nat → Nat) (ev : Nat → Int32) (v o : Nat → Nat) (sa : Nat) (b : Bd) (t : Nat) (hB : OkB b) (ht : t < 4) (hv : ∀ j, j < 4 → v j ≤ 6000000) : q_M C l yX5_indexBy wsX5_indexBy 0 0 [.ref (mo 0), .ref sa, .int (nI t)] (wO C mo ev v o ++ ([(sa, .inl (C.2.2.1, 82, .inr (.inl (mB b))))] : va_W)) (fun r w => r = some (.long (lN (ixN b t v))) ∧ w = wO C mo ev v o ++ ([(sa, .inl (C.2.2.1, 82, .inr (.inl (mB b))))] : va_W)) := by
  obtain ⟨ok1, ok2, ⟨ok3, ok4, ok5, ok6, ok7⟩, ok8, ok9⟩ := id hB
  have e5 := (ixN_le (b := b) (h := t) (hv t ht)).1
  refine q_head (cc := cX5_indexBy) (maxL := 3) (ret := (some .long)) (by decide +kernel) rfl (Nat.le_of_ble_eq_true rfl) ?_
  intro p e s m below meth c hx hb hr hlocks hml hown hts hK hP hD hS hA ls hl
  have hl : lv_has ls 3 [(0, .ref (mo 0)), (1, .ref sa), (2, .int (nI t))] := hl
  have hf26 := hts (.fieldLink RX5 26 "RestedArmsModel" "values" "[J") (by decide +kernel)
  have hin5 : ∀ w ∈ u_ws RX5 TX5 13, w ∈ wsX5_indexBy := by decide +kernel
  have hk69 := hts (.constantLong RX5 69 (100)) (by decide +kernel)
  refine lv_ldc2 hx hb hown hk69 dX5_indexBy_0 ?_
  refine q_tl (y := lN 100) (by decide) ?_
  refine lv_aload_n hx hb dX5_indexBy_3 rfl (lv_at hl 1 rfl) ?_
  refine lv_iconst (v := nI 0) hx hb dX5_indexBy_4 (by decide) ?_
  refine q_lald (n := 0) (v := mB b 0) hx hb hK hP 3 rfl (by decide) (by decide) rfl dX5_indexBy_5 ?_
  refine q_tl (y := lN (bs b 0)) (mB_s b (by decide)) ?_
  refine lv_lsub hx hb dX5_indexBy_6 ?_
  refine q_tl (y := lN (100 - (bs b 0))) (lN_sub (by omega)) ?_
  refine lv_aload_n hx hb dX5_indexBy_7 rfl (lv_at hl 0 rfl) ?_
  refine va_get (ci := 5) (v := .ref (mo 6)) (C := RX5) (T := TX5) (N := 13) hx hb hts hin5 hown hK.1 hP 0 rfl rfl 11 (by decide) hf26 (fun _ h9 => h9) rfl dX5_indexBy_8 ?_
  refine lv_iload_n hx hb dX5_indexBy_11 rfl (lv_at hl 2 rfl) ?_
  refine q_lald (n := t) (v := lN (v t)) hx hb hK hP 1 rfl (by omega) (by decide) rfl dX5_indexBy_12 ?_
  refine lv_lmul hx hb dX5_indexBy_13 ?_
  refine q_tl (y := lN ((100 - (bs b 0)) * (v t))) (lN_mul _ _) ?_
  refine lv_ldc2 hx hb hown hk69 dX5_indexBy_14 ?_
  refine q_tl (y := lN 100) (by decide) ?_
  refine lv_ldiv hx hb dX5_indexBy_17 (by decide) ?_
  refine q_tl (y := lN (ixN b t v)) (pk_lDiv (by omega) (by decide) (by decide)) ?_
  exact q_lret hx hb hr hlocks (w1 := wO C mo ev v o ++ ([(sa, .inl (C.2.2.1, 82, .inr (.inl (mB b))))] : va_W)) hP hS rfl dX5_indexBy_18 (⟨rfl, rfl⟩)
set_option maxHeartbeats 4000000 in
set_option maxRecDepth 100000 in
theorem c_X5_indexOf (l : Launch) (C : q_C) (mo : Nat → Nat) (ev : Nat → Int32) (v o : Nat → Nat) (sa : Nat) (b : Bd) (a t : Nat) (hB : OkB b) (ha : a < 4) (ht : t < 4) : q_M C l yX5_indexOf wsX5_indexOf 3 71 [.ref (mo 0), .ref sa, .int (nI a), .int (nI t)] (wO C mo ev v o ++ ([(sa, .inl (C.2.2.1, 82, .inr (.inl (mB b))))] : va_W)) (fun r w => r = some (.long (lN (idxN b a t))) ∧ w = wO C mo ev (valsN b a t (bs b 1)) (ownsN b a t o (bs b 1)) ++ ([(sa, .inl (C.2.2.1, 82, .inr (.inl (mB b))))] : va_W)) := by
  obtain ⟨ok1, ok2, ⟨ok3, ok4, ok5, ok6, ok7⟩, ok8, ok9⟩ := id hB
  refine q_head (cc := cX5_indexOf) (maxL := 5) (ret := (some .long)) (by decide +kernel) rfl (Nat.le_of_ble_eq_true rfl) ?_
  intro p e s m below meth c hx hb hr hlocks hml hown hts hK hP hD hS hA ls hl
  have hl : lv_has ls 5 [(0, .ref (mo 0)), (1, .ref sa), (2, .int (nI a)), (3, .int (nI t))] := hl
  refine lv_aload_n hx hb dX5_indexOf_0 rfl (lv_at hl 0 rfl) ?_
  refine q_V (As := []) (rest := []) ⟨hx, hb, hml, hown, hts⟩ (c_X5_begins l C mo ev v o ) (cwV 0 hts gX5_indexOf_X5_begins rfl rfl rfl (by decide +kernel) ⟨Nat.le_of_ble_eq_true rfl, Nat.le_of_ble_eq_true rfl⟩) hK hP hD hS hA [0, 1, 2] (by decide) rfl 0 rfl rfl rfl rfl hl.1 rfl (Nat.le_of_ble_eq_true rfl) dX5_indexOf_1 (Nat.zero_le _) (Nat.zero_le _) (fun r w1 H locs hQ hP hD hS => ?_)
  obtain ⟨rfl, rfl⟩ := hQ
  have hP : va_P C.1 vwCl (wO C mo ev (fun _ => 0) o ++ ([(sa, .inl (C.2.2.1, 82, .inr (.inl (mB b))))] : va_W)) H := hP
  have hD : va_D (q_A (wO C mo ev v o ++ ([(sa, .inl (C.2.2.1, 82, .inr (.inl (mB b))))] : va_W)) s) (wO C mo ev (fun _ => 0) o ++ ([(sa, .inl (C.2.2.1, 82, .inr (.inl (mB b))))] : va_W)) := hD
  refine W.eq (g2 := F0 m 4 ls []) rfl ?_
  refine lv_iconst (v := nI 0) hx hb dX5_indexOf_4 (by decide) ?_
  refine lv_istore (lv' := [(4, .int (nI 0)), (0, .ref (mo 0)), (1, .ref sa), (2, .int (nI a)), (3, .int (nI t))]) hx hb dX5_indexOf_5 hl (by decide) rfl (fun ls hl => ?_)
  have K7 : ∀ (n7 i7 : Nat), i7 ≤ bs b 1 → bs b 1 + 1 ≤ i7 + n7 → ∀ (H : Heap) (locs : List Loc) (ls : Array Slot), va_P C.1 vwCl (wO C mo ev (valsN b a t i7) (ownsN b a t o i7) ++ ([(sa, .inl (C.2.2.1, 82, .inr (.inl (mB b))))] : va_W)) H → va_D (q_A (wO C mo ev v o ++ ([(sa, .inl (C.2.2.1, 82, .inr (.inl (mB b))))] : va_W)) s) (wO C mo ev (valsN b a t i7) (ownsN b a t o i7) ++ ([(sa, .inl (C.2.2.1, 82, .inr (.inl (mB b))))] : va_W)) → va_S (q_A (wO C mo ev v o ++ ([(sa, .inl (C.2.2.1, 82, .inr (.inl (mB b))))] : va_W)) s) s.heap H locs → lv_has ls 5 [(4, .int (nI i7)), (0, .ref (mo 0)), (1, .ref sa), (2, .int (nI a)), (3, .int (nI t))] → W p l e (q_R 3 71) s m ([.ref (mo 0), .ref sa, .int (nI a), .int (nI t)] : List Value).toArray below meth c H locs 0 0 (q_G C below (wO C mo ev v o ++ ([(sa, .inl (C.2.2.1, 82, .inr (.inl (mB b))))] : va_W)) (fun r w => r = some (.long (lN (idxN b a t))) ∧ w = wO C mo ev (valsN b a t (bs b 1)) (ownsN b a t o (bs b 1)) ++ ([(sa, .inl (C.2.2.1, 82, .inr (.inl (mB b))))] : va_W)) ([.ref (mo 0), .ref sa, .int (nI a), .int (nI t)] : List Value).toArray s) (F0 m 7 ls []) := by
    intro n7
    induction n7 with
    | zero => intro i7  q1 q2; exact absurd q2 (by omega)
    | succ n7 ih7 =>
      intro i7  hi7 hn7  H locs ls hP hD hS hl
      refine lv_iload hx hb dX5_indexOf_7 (lv_at hl 0 rfl) ?_
      refine lv_i2l (v := lN i7) hx hb dX5_indexOf_9 (nI_l (by omega)) ?_
      refine lv_aload_n hx hb dX5_indexOf_10 rfl (lv_at hl 2 rfl) ?_
      refine lv_iconst (v := nI 1) hx hb dX5_indexOf_11 (by decide) ?_
      refine q_lald (n := 1) (v := mB b 1) hx hb hK hP 3 rfl (by decide) (by decide) rfl dX5_indexOf_12 ?_
      refine q_tl (y := lN (bs b 1)) (mB_s b (by decide)) ?_
      refine W.lcmp hx hb dX5_indexOf_13 ?_
      refine lv_if_ge (tgt := 30) hx hb dX5_indexOf_14 (by decide) (fun c14 => ?_) (fun c14 => ?_)
      · have c14 : (bs b 1) ≤ i7 := q_Lge (by omega) (by omega) c14
        have e9 : i7 = bs b 1 := by omega
        subst e9
        refine lv_aload_n hx hb dX5_indexOf_30 rfl (lv_at hl 1 rfl) ?_
        refine lv_aload_n hx hb dX5_indexOf_31 rfl (lv_at hl 2 rfl) ?_
        refine lv_iload_n hx hb dX5_indexOf_32 rfl (lv_at hl 4 rfl) ?_
        refine q_V (As := [.ref sa, .int (nI t)]) (rest := []) ⟨hx, hb, hml, hown, hts⟩ (c_X5_indexBy l C mo ev (valsN b a t (bs b 1)) (ownsN b a t o (bs b 1)) sa b t hB (by omega) (valsN_6M hB ha ht (by omega))) (cwV 2 hts gX5_indexOf_X5_indexBy rfl rfl rfl (by decide +kernel) ⟨Nat.le_of_ble_eq_true rfl, Nat.le_of_ble_eq_true rfl⟩) hK hP hD hS hA [0, 1, 2, 3] (by decide) rfl 0 rfl rfl rfl rfl hl.1 rfl (Nat.le_of_ble_eq_true rfl) dX5_indexOf_33 (Nat.zero_le _) (Nat.zero_le _) (fun r w1 H locs hQ hP hD hS => ?_)
        obtain ⟨rfl, rfl⟩ := hQ
        have hP : va_P C.1 vwCl (wO C mo ev (valsN b a t (bs b 1)) (ownsN b a t o (bs b 1)) ++ ([(sa, .inl (C.2.2.1, 82, .inr (.inl (mB b))))] : va_W)) H := hP
        have hD : va_D (q_A (wO C mo ev v o ++ ([(sa, .inl (C.2.2.1, 82, .inr (.inl (mB b))))] : va_W)) s) (wO C mo ev (valsN b a t (bs b 1)) (ownsN b a t o (bs b 1)) ++ ([(sa, .inl (C.2.2.1, 82, .inr (.inl (mB b))))] : va_W)) := hD
        refine W.eq (g2 := F0 m 36 ls [.long (lN (ixN b t (valsN b a t (bs b 1))))]) rfl ?_
        exact q_lret hx hb hr hlocks (w1 := wO C mo ev (valsN b a t (bs b 1)) (ownsN b a t o (bs b 1)) ++ ([(sa, .inl (C.2.2.1, 82, .inr (.inl (mB b))))] : va_W)) hP hS rfl dX5_indexOf_36 (⟨rfl, rfl⟩)
      · have c14 : i7 < (bs b 1) := q_Lge' (by omega) (by omega) c14
        refine lv_aload_n hx hb dX5_indexOf_17 rfl (lv_at hl 1 rfl) ?_
        refine lv_aload_n hx hb dX5_indexOf_18 rfl (lv_at hl 2 rfl) ?_
        refine lv_iload_n hx hb dX5_indexOf_19 rfl (lv_at hl 3 rfl) ?_
        refine lv_iload_n hx hb dX5_indexOf_20 rfl (lv_at hl 4 rfl) ?_
        refine q_V (As := [.ref sa, .int (nI a), .int (nI t)]) (rest := []) ⟨hx, hb, hml, hown, hts⟩ (c_X5_round l C mo ev (valsN b a t i7) (ownsN b a t o i7) sa b a t hB (by omega) (by omega) (valsN_6M hB ha ht (by omega))) (cwV 3 hts gX5_indexOf_X5_round rfl rfl rfl (by decide +kernel) ⟨Nat.le_of_ble_eq_true rfl, Nat.le_of_ble_eq_true rfl⟩) hK hP hD hS hA [0, 1, 2, 3] (by decide) rfl 0 rfl rfl rfl rfl hl.1 rfl (Nat.le_of_ble_eq_true rfl) dX5_indexOf_21 (Nat.zero_le _) (Nat.zero_le _) (fun r w1 H locs hQ hP hD hS => ?_)
        obtain ⟨rfl, rfl⟩ := hQ
        have hP : va_P C.1 vwCl (wO C mo ev (rndN b a t (valsN b a t i7)) (ownN b a (valsN b a t i7)) ++ ([(sa, .inl (C.2.2.1, 82, .inr (.inl (mB b))))] : va_W)) H := hP
        have hD : va_D (q_A (wO C mo ev v o ++ ([(sa, .inl (C.2.2.1, 82, .inr (.inl (mB b))))] : va_W)) s) (wO C mo ev (rndN b a t (valsN b a t i7)) (ownN b a (valsN b a t i7)) ++ ([(sa, .inl (C.2.2.1, 82, .inr (.inl (mB b))))] : va_W)) := hD
        refine W.eq (g2 := F0 m 24 ls []) rfl ?_
        have hP : va_P C.1 vwCl (wO C mo ev (valsN b a t (i7 + 1)) (ownsN b a t o (i7 + 1)) ++ ([(sa, .inl (C.2.2.1, 82, .inr (.inl (mB b))))] : va_W)) H := hP
        have hD : va_D (q_A (wO C mo ev v o ++ ([(sa, .inl (C.2.2.1, 82, .inr (.inl (mB b))))] : va_W)) s) (wO C mo ev (valsN b a t (i7 + 1)) (ownsN b a t o (i7 + 1)) ++ ([(sa, .inl (C.2.2.1, 82, .inr (.inl (mB b))))] : va_W)) := hD
        refine lv_iinc (v := nI (i7 + 1)) (lv' := [(4, .int (nI (i7 + 1))), (0, .ref (mo 0)), (1, .ref sa), (2, .int (nI a)), (3, .int (nI t))]) hx hb dX5_indexOf_24 hl (k := 0) rfl (nI_1 _) (by decide) rfl (fun ls hl => ?_)
        refine lv_goto (tgt := 7) hx hb dX5_indexOf_27 (by decide) ?_
        exact ih7 (i7 + 1)  (by omega) (by omega)  _ _ ls hP hD hS (lv_sub hl [0, 1, 2, 3, 4] rfl)
  exact K7 (bs b 1 + 1 - 0) 0  (by omega) (by omega)  _ _ ls hP hD hS (lv_sub hl [0, 1, 2, 3, 4] rfl)
