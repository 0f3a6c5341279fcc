/-! indices: found, the least rounds, all refreshed -/
set_option maxHeartbeats 4000000 in
set_option maxRecDepth 100000 in
theorem c_X2_indexNow (l : Launch) (C : q_C) (q : Nat → Nat) (t f v o : Nat → Nat) (a : Nat → Nat) (b : Bd) (h : Nat) (hB : OkB b) (hh : h < 4) (hv : ∀ j, j < 4 → v j ≤ 6000000) : q_M C l yX2_indexNow wsX2_indexNow 1 25 [.ref (q 0), .ref (a 0), .int (nI h)] (wX C q t f v o ++ wB C a b) (fun r w => r = some (.long (lN (ixN b h v))) ∧ w = wX C q t f v o ++ wB C a b) := by
  obtain ⟨ok1, ok2, ⟨ok3, ok4, ok5, ok6, ok7⟩, ok8, ok9⟩ := id hB
  have e5 := (ixN_le (b := b) (h := h) (hv h hh)).1
  refine q_head (cc := cX2_indexNow) (maxL := 3) (ret := (some .long)) (by decide +kernel) rfl (Nat.le_of_ble_eq_true rfl) ?_
  intro p e s m below meth c hx hb hr hlocks hml hown hts hK hP hD hS hA ls hl
  have hl : lv_has ls 3 [(0, .ref (q 0)), (1, .ref (a 0)), (2, .int (nI h))] := hl
  have hf19 := hts (.fieldLink RX2 19 "RestedArms$Indices" "values" "[J") (by decide +kernel)
  have hf37 := hts (.fieldLink RX2 37 "RestedArms$Board" "settings" "[I") (by decide +kernel)
  have hin0 : ∀ w ∈ u_ws RX0 TX0 12, w ∈ wsX2_indexNow := by decide +kernel
  have hin2 : ∀ w ∈ u_ws RX2 TX2 4, w ∈ wsX2_indexNow := by decide +kernel
  have hk78 := hts (.constantLong RX2 78 (100)) (by decide +kernel)
  refine lv_ldc2 hx hb hown hk78 dX2_indexNow_0 ?_
  refine q_tl (y := lN 100) (by decide) ?_
  refine lv_aload_n hx hb dX2_indexNow_3 rfl (lv_at hl 1 rfl) ?_
  refine va_get (ci := 0) (v := .ref (a 7)) (C := RX0) (T := TX0) (N := 12) hx hb hts hin0 hown hK.1 hP 5 rfl rfl 6 (by decide) hf37 (fun _ h9 => h9) rfl dX2_indexNow_4 ?_
  refine lv_iconst (v := nI 0) hx hb dX2_indexNow_7 (by decide) ?_
  refine q_N (As := [.ref (a 7), .int (nI 0)]) (rest := [.long (lN 100)]) ⟨hx, hb, hml, hown, hts⟩ (c_X4_at l C (a 7) 4 0 (fun k => nI (bs b k)) (by decide) (by decide)) ⟨va_cnB 2 hts gX2_indexNow_X4_at_n43 rfl rfl rfl (q_nw hK 5 rfl) (hts (.initialized RX4) (by decide +kernel)) (by decide +kernel) ⟨Nat.le_of_ble_eq_true rfl, Nat.le_of_ble_eq_true rfl⟩, hts (.static yX4_at) (by decide +kernel), trivial⟩ hK hP hD hS hA [12] (by decide) rfl rfl hl.1 rfl (Nat.le_of_ble_eq_true rfl) dX2_indexNow_8 (Nat.zero_le _) (Nat.zero_le _) (fun r w1 H locs hQ hP hD hS => ?_)
  obtain ⟨rfl, rfl⟩ := hQ
  have hP : va_P C.1 vwCl (wX C q t f v o ++ wB C a b) H := hP
  have hD : va_D (q_A (wX C q t f v o ++ wB C a b) s) (wX C q t f v o ++ wB C a b) := hD
  refine W.eq (g2 := F0 m 11 ls [.int (nI (bs b 0)), .long (lN 100)]) rfl ?_
  refine lv_i2l (v := lN (bs b 0)) hx hb dX2_indexNow_11 (nI_l (by omega)) ?_
  refine lv_lsub hx hb dX2_indexNow_12 ?_
  refine q_tl (y := lN (100 - (bs b 0))) (lN_sub (by omega)) ?_
  refine lv_aload_n hx hb dX2_indexNow_13 rfl (lv_at hl 0 rfl) ?_
  refine va_get (ci := 2) (v := .ref (q 3)) (C := RX2) (T := TX2) (N := 4) hx hb hts hin2 hown hK.1 hP 0 rfl rfl 2 (by decide) hf19 (fun _ h9 => h9) rfl dX2_indexNow_14 ?_
  refine lv_iload_n hx hb dX2_indexNow_17 rfl (lv_at hl 2 rfl) ?_
  refine q_N (As := [.ref (q 3), .int (nI h)]) (rest := [.long (lN (100 - (bs b 0)))]) ⟨hx, hb, hml, hown, hts⟩ (c_X4_at_ l C (q 3) 4 h (fun k => lN (v k)) (by omega) (by decide)) ⟨va_cnB 2 hts gX2_indexNow_X4_at__n64 rfl rfl rfl (q_nw hK 6 rfl) (hts (.initialized RX4) (by decide +kernel)) (by decide +kernel) ⟨Nat.le_of_ble_eq_true rfl, Nat.le_of_ble_eq_true rfl⟩, hts (.static yX4_at_) (by decide +kernel), trivial⟩ hK hP hD hS hA [3] (by decide) rfl rfl hl.1 rfl (Nat.le_of_ble_eq_true rfl) dX2_indexNow_18 (Nat.zero_le _) (Nat.zero_le _) (fun r w1 H locs hQ hP hD hS => ?_)
  obtain ⟨rfl, rfl⟩ := hQ
  have hP : va_P C.1 vwCl (wX C q t f v o ++ wB C a b) H := hP
  have hD : va_D (q_A (wX C q t f v o ++ wB C a b) s) (wX C q t f v o ++ wB C a b) := hD
  refine W.eq (g2 := F0 m 21 ls [.long (lN (v h)), .long (lN (100 - (bs b 0)))]) rfl ?_
  refine lv_lmul hx hb dX2_indexNow_21 ?_
  refine q_tl (y := lN ((100 - (bs b 0)) * (v h))) (lN_mul _ _) ?_
  refine lv_ldc2 hx hb hown hk78 dX2_indexNow_22 ?_
  refine q_tl (y := lN 100) (by decide) ?_
  refine q_S (As := [.long (lN ((100 - (bs b 0)) * (v h))), .long (lN 100)]) (rest := []) ⟨hx, hb, hml, hown, hts⟩ (c_J9_floorDiv_f86c9 l C (lN ((100 - (bs b 0)) * (v h))) (lN 100) (by decide)) (va_cwS 2 hts gX2_indexNow_J9_floorDiv_f86c9 rfl rfl rfl (by decide +kernel) ⟨Nat.le_of_ble_eq_true rfl, Nat.le_of_ble_eq_true rfl⟩) hK hP hD hS hA [] (by decide) rfl rfl hl.1 rfl (Nat.le_of_ble_eq_true rfl) dX2_indexNow_25 (Nat.zero_le _) (Nat.zero_le _) (fun r w1 H locs hQ hP hD hS => ?_)
  obtain ⟨rfl, rfl⟩ := hQ
  refine W.eq (g2 := F0 m 28 ls [.long (fdv (lN ((100 - (bs b 0)) * (v h))) (lN 100))]) rfl ?_
  refine q_tl (y := lN (((100 - (bs b 0)) * (v h)) / 100)) (fdv_N (by omega) (by decide) (by decide)) ?_
  exact q_lret hx hb hr hlocks (w1 := wX C q t f v o ++ wB C a b) hP hS rfl dX2_indexNow_28 (⟨rfl, rfl⟩)
set_option maxHeartbeats 4000000 in
set_option maxRecDepth 100000 in
theorem c_X2_find (l : Launch) (C : q_C) (q : Nat → Nat) (t f v o : Nat → Nat) (a : Nat → Nat) (b : Bd) (arm h : Nat) (hB : OkB b) (ha : arm < 4) (hh : h < 4) : q_M C l yX2_find wsX2_find 2 62 [.ref (q 0), .ref (a 0), .int (nI arm), .int (nI h)] (wX C q t f v o ++ wB C a b) (fun r w => r = some (.long (lN (idxN b arm h))) ∧ w = wX C q t f (valsN b arm h (bs b 1)) (ownsN b arm h o (bs b 1)) ++ wB C a b) := by
  obtain ⟨ok1, ok2, ⟨ok3, ok4, ok5, ok6, ok7⟩, ok8, ok9⟩ := id hB
  refine q_head (cc := cX2_find) (maxL := 6) (ret := (some .long)) (by decide +kernel) rfl (Nat.le_of_ble_eq_true rfl) ?_
  intro p e s m below meth c hx hb hr hlocks hml hown hts hK hP hD hS hA ls hl
  have hl : lv_has ls 6 [(0, .ref (q 0)), (1, .ref (a 0)), (2, .int (nI arm)), (3, .int (nI h))] := hl
  have hf37 := hts (.fieldLink RX2 37 "RestedArms$Board" "settings" "[I") (by decide +kernel)
  have hin0 : ∀ w ∈ u_ws RX0 TX0 12, w ∈ wsX2_find := by decide +kernel
  refine lv_aload_n hx hb dX2_find_0 rfl (lv_at hl 1 rfl) ?_
  refine va_get (ci := 0) (v := .ref (a 7)) (C := RX0) (T := TX0) (N := 12) hx hb hts hin0 hown hK.1 hP 5 rfl rfl 6 (by decide) hf37 (fun _ h9 => h9) rfl dX2_find_1 ?_
  refine lv_iconst (v := nI 1) hx hb dX2_find_4 (by decide) ?_
  refine q_N (As := [.ref (a 7), .int (nI 1)]) (rest := []) ⟨hx, hb, hml, hown, hts⟩ (c_X4_at l C (a 7) 4 1 (fun k => nI (bs b k)) (by decide) (by decide)) ⟨va_cnB 2 hts gX2_find_X4_at_n43 rfl rfl rfl (q_nw hK 5 rfl) (hts (.initialized RX4) (by decide +kernel)) (by decide +kernel) ⟨Nat.le_of_ble_eq_true rfl, Nat.le_of_ble_eq_true rfl⟩, hts (.static yX4_at) (by decide +kernel), trivial⟩ hK hP hD hS hA [12] (by decide) rfl rfl hl.1 rfl (Nat.le_of_ble_eq_true rfl) dX2_find_5 (Nat.zero_le _) (Nat.zero_le _) (fun r w1 H locs hQ hP hD hS => ?_)
  obtain ⟨rfl, rfl⟩ := hQ
  have hP : va_P C.1 vwCl (wX C q t f v o ++ wB C a b) H := hP
  have hD : va_D (q_A (wX C q t f v o ++ wB C a b) s) (wX C q t f v o ++ wB C a b) := hD
  refine W.eq (g2 := F0 m 8 ls [.int (nI (bs b 1))]) rfl ?_
  refine lv_istore (lv' := [(4, .int (nI (bs b 1))), (0, .ref (q 0)), (1, .ref (a 0)), (2, .int (nI arm)), (3, .int (nI h))]) hx hb dX2_find_8 hl (by decide) rfl (fun ls hl => ?_)
  refine lv_aload_n hx hb dX2_find_10 rfl (lv_at hl 1 rfl) ?_
  refine q_V (As := []) (rest := []) ⟨hx, hb, hml, hown, hts⟩ (c_X2_clearValues l C q t f v o ) (cwV 0 hts gX2_find_X2_clearValues rfl rfl rfl (by decide +kernel) ⟨Nat.le_of_ble_eq_true rfl, Nat.le_of_ble_eq_true rfl⟩) hK hP hD hS hA [0, 1, 2, 3, 4] (by decide) rfl 0 rfl rfl rfl rfl hl.1 rfl (Nat.le_of_ble_eq_true rfl) dX2_find_11 (Nat.zero_le _) (Nat.zero_le _) (fun r w1 H locs hQ hP hD hS => ?_)
  obtain ⟨rfl, rfl⟩ := hQ
  have hP : va_P C.1 vwCl (wX C q t f (fun _ => 0) o ++ wB C a b) H := hP
  have hD : va_D (q_A (wX C q t f v o ++ wB C a b) s) (wX C q t f (fun _ => 0) o ++ wB C a b) := hD
  refine W.eq (g2 := F0 m 14 ls []) rfl ?_
  refine lv_iconst (v := nI 0) hx hb dX2_find_14 (by decide) ?_
  refine lv_istore (lv' := [(5, .int (nI 0)), (4, .int (nI (bs b 1))), (0, .ref (q 0)), (1, .ref (a 0)), (2, .int (nI arm)), (3, .int (nI h))]) hx hb dX2_find_15 hl (by decide) rfl (fun ls hl => ?_)
  have K17 : ∀ (n17 i17 : Nat), i17 ≤ bs b 1 → bs b 1 + 1 ≤ i17 + n17 → ∀ (H : Heap) (locs : List Loc) (ls : Array Slot), va_P C.1 vwCl (wX C q t f (valsN b arm h i17) (ownsN b arm h o i17) ++ wB C a b) H → va_D (q_A (wX C q t f v o ++ wB C a b) s) (wX C q t f (valsN b arm h i17) (ownsN b arm h o i17) ++ wB C a b) → va_S (q_A (wX C q t f v o ++ wB C a b) s) s.heap H locs → lv_has ls 6 [(5, .int (nI i17)), (4, .int (nI (bs b 1))), (0, .ref (q 0)), (1, .ref (a 0)), (2, .int (nI arm)), (3, .int (nI h))] → W p l e (q_R 2 62) s m ([.ref (q 0), .ref (a 0), .int (nI arm), .int (nI h)] : List Value).toArray below meth c H locs 0 0 (q_G C below (wX C q t f v o ++ wB C a b) (fun r w => r = some (.long (lN (idxN b arm h))) ∧ w = wX C q t f (valsN b arm h (bs b 1)) (ownsN b arm h o (bs b 1)) ++ wB C a b) ([.ref (q 0), .ref (a 0), .int (nI arm), .int (nI h)] : List Value).toArray s) (F0 m 17 ls []) := by
    intro n17
    induction n17 with
    | zero => intro i17  q1 q2; exact absurd q2 (by omega)
    | succ n17 ih17 =>
      intro i17  hi17 hn17  H locs ls hP hD hS hl
      refine lv_iload hx hb dX2_find_17 (lv_at hl 0 rfl) ?_
      refine lv_iload hx hb dX2_find_19 (lv_at hl 1 rfl) ?_
      refine lv_icmp_ge (tgt := 37) hx hb dX2_find_21 (by decide) (fun c21 => ?_) (fun c21 => ?_)
      · have c21 : (bs b 1) ≤ i17 := q_nge (by omega) (by omega) c21
        have e9 : i17 = bs b 1 := by omega
        subst e9
        refine lv_aload_n hx hb dX2_find_37 rfl (lv_at hl 2 rfl) ?_
        refine lv_aload_n hx hb dX2_find_38 rfl (lv_at hl 3 rfl) ?_
        refine lv_iload_n hx hb dX2_find_39 rfl (lv_at hl 5 rfl) ?_
        refine q_V (As := [.ref (a 0), .int (nI h)]) (rest := []) ⟨hx, hb, hml, hown, hts⟩ (c_X2_indexNow l C q t f (valsN b arm h (bs b 1)) (ownsN b arm h o (bs b 1)) a b h hB (by omega) (valsN_6M hB ha hh (by omega))) (cwV 2 hts gX2_find_X2_indexNow rfl rfl rfl (by decide +kernel) ⟨Nat.le_of_ble_eq_true rfl, Nat.le_of_ble_eq_true rfl⟩) hK hP hD hS hA [0, 1, 2, 3, 4, 5, 6, 7, 8, 9, 10, 11, 12] (by decide) rfl 0 rfl rfl rfl rfl hl.1 rfl (Nat.le_of_ble_eq_true rfl) dX2_find_40 (Nat.zero_le _) (Nat.zero_le _) (fun r w1 H locs hQ hP hD hS => ?_)
        obtain ⟨rfl, rfl⟩ := hQ
        have hP : va_P C.1 vwCl (wX C q t f (valsN b arm h (bs b 1)) (ownsN b arm h o (bs b 1)) ++ wB C a b) H := hP
        have hD : va_D (q_A (wX C q t f v o ++ wB C a b) s) (wX C q t f (valsN b arm h (bs b 1)) (ownsN b arm h o (bs b 1)) ++ wB C a b) := hD
        refine W.eq (g2 := F0 m 43 ls [.long (lN (ixN b h (valsN b arm h (bs b 1))))]) rfl ?_
        exact q_lret hx hb hr hlocks (w1 := wX C q t f (valsN b arm h (bs b 1)) (ownsN b arm h o (bs b 1)) ++ wB C a b) hP hS rfl dX2_find_43 (⟨rfl, rfl⟩)
      · have c21 : i17 < (bs b 1) := q_nge' (by omega) (by omega) c21
        refine lv_aload_n hx hb dX2_find_24 rfl (lv_at hl 2 rfl) ?_
        refine lv_aload_n hx hb dX2_find_25 rfl (lv_at hl 3 rfl) ?_
        refine lv_iload_n hx hb dX2_find_26 rfl (lv_at hl 4 rfl) ?_
        refine lv_iload_n hx hb dX2_find_27 rfl (lv_at hl 5 rfl) ?_
        refine q_V (As := [.ref (a 0), .int (nI arm), .int (nI h)]) (rest := []) ⟨hx, hb, hml, hown, hts⟩ (c_X2_turn l C q t f (valsN b arm h i17) (ownsN b arm h o i17) a b arm h hB (by omega) (by omega) (valsN_6M hB ha hh (by omega))) (cwV 3 hts gX2_find_X2_turn rfl rfl rfl (by decide +kernel) ⟨Nat.le_of_ble_eq_true rfl, Nat.le_of_ble_eq_true rfl⟩) hK hP hD hS hA [0, 1, 2, 3, 4, 5, 6, 7, 8, 9, 10, 11, 12] (by decide) rfl 0 rfl rfl rfl rfl hl.1 rfl (Nat.le_of_ble_eq_true rfl) dX2_find_28 (Nat.zero_le _) (Nat.zero_le _) (fun r w1 H locs hQ hP hD hS => ?_)
        obtain ⟨rfl, rfl⟩ := hQ
        have hP : va_P C.1 vwCl (wX C q t f (rndN b arm h (valsN b arm h i17)) (ownN b arm (valsN b arm h i17)) ++ wB C a b) H := hP
        have hD : va_D (q_A (wX C q t f v o ++ wB C a b) s) (wX C q t f (rndN b arm h (valsN b arm h i17)) (ownN b arm (valsN b arm h i17)) ++ wB C a b) := hD
        refine W.eq (g2 := F0 m 31 ls []) rfl ?_
        have hP : va_P C.1 vwCl (wX C q t f (valsN b arm h (i17 + 1)) (ownsN b arm h o (i17 + 1)) ++ wB C a b) H := hP
        have hD : va_D (q_A (wX C q t f v o ++ wB C a b) s) (wX C q t f (valsN b arm h (i17 + 1)) (ownsN b arm h o (i17 + 1)) ++ wB C a b) := hD
        refine lv_iinc (v := nI (i17 + 1)) (lv' := [(5, .int (nI (i17 + 1))), (4, .int (nI (bs b 1))), (0, .ref (q 0)), (1, .ref (a 0)), (2, .int (nI arm)), (3, .int (nI h))]) hx hb dX2_find_31 hl (k := 0) rfl (nI_1 _) (by decide) rfl (fun ls hl => ?_)
        refine lv_goto (tgt := 17) hx hb dX2_find_34 (by decide) ?_
        exact ih17 (i17 + 1)  (by omega) (by omega)  _ _ ls hP hD hS (lv_sub hl [0, 1, 2, 3, 4, 5] rfl)
  exact K17 (bs b 1 + 1 - 0) 0  (by omega) (by omega)  _ _ ls hP hD hS (lv_sub hl [0, 1, 2, 3, 4, 5] rfl)
set_option maxHeartbeats 4000000 in
set_option maxRecDepth 100000 in
theorem c_X2_leastRounds (l : Launch) (C : q_C) (q : Nat → Nat) (t f v o : Nat → Nat) (a : Nat → Nat) (b : Bd) (arm h d : Nat) (hB : OkB b) (ha : arm < 4) (hh : h < 4) (hd : d ≤ 6000000) : q_M C l yX2_leastRounds wsX2_leastRounds 2 62 [.ref (q 0), .ref (a 0), .int (nI arm), .int (nI h), .long (lN d)] (wX C q t f v o ++ wB C a b) (fun r w => ∃ v1 o1, r = some (.int (nI (leastN b arm h d))) ∧ w = wX C q t f v1 o1 ++ wB C a b) := by
  obtain ⟨ok1, ok2, ⟨ok3, ok4, ok5, ok6, ok7⟩, ok8, ok9⟩ := id hB
  refine q_head (cc := cX2_leastRounds) (maxL := 8) (ret := (some .int)) (by decide +kernel) rfl (Nat.le_of_ble_eq_true rfl) ?_
  intro p e s m below meth c hx hb hr hlocks hml hown hts hK hP hD hS hA ls hl
  have hl : lv_has ls 8 [(0, .ref (q 0)), (1, .ref (a 0)), (2, .int (nI arm)), (3, .int (nI h)), (4, .long (lN d))] := hl
  have hf37 := hts (.fieldLink RX2 37 "RestedArms$Board" "settings" "[I") (by decide +kernel)
  have hin0 : ∀ w ∈ u_ws RX0 TX0 12, w ∈ wsX2_leastRounds := by decide +kernel
  refine lv_aload_n hx hb dX2_leastRounds_0 rfl (lv_at hl 1 rfl) ?_
  refine va_get (ci := 0) (v := .ref (a 7)) (C := RX0) (T := TX0) (N := 12) hx hb hts hin0 hown hK.1 hP 5 rfl rfl 6 (by decide) hf37 (fun _ h9 => h9) rfl dX2_leastRounds_1 ?_
  refine lv_iconst (v := nI 1) hx hb dX2_leastRounds_4 (by decide) ?_
  refine q_N (As := [.ref (a 7), .int (nI 1)]) (rest := []) ⟨hx, hb, hml, hown, hts⟩ (c_X4_at l C (a 7) 4 1 (fun k => nI (bs b k)) (by decide) (by decide)) ⟨va_cnB 2 hts gX2_leastRounds_X4_at_n43 rfl rfl rfl (q_nw hK 5 rfl) (hts (.initialized RX4) (by decide +kernel)) (by decide +kernel) ⟨Nat.le_of_ble_eq_true rfl, Nat.le_of_ble_eq_true rfl⟩, hts (.static yX4_at) (by decide +kernel), trivial⟩ hK hP hD hS hA [12] (by decide) rfl rfl hl.1 rfl (Nat.le_of_ble_eq_true rfl) dX2_leastRounds_5 (Nat.zero_le _) (Nat.zero_le _) (fun r w1 H locs hQ hP hD hS => ?_)
  obtain ⟨rfl, rfl⟩ := hQ
  have hP : va_P C.1 vwCl (wX C q t f v o ++ wB C a b) H := hP
  have hD : va_D (q_A (wX C q t f v o ++ wB C a b) s) (wX C q t f v o ++ wB C a b) := hD
  refine W.eq (g2 := F0 m 8 ls [.int (nI (bs b 1))]) rfl ?_
  refine lv_istore (lv' := [(6, .int (nI (bs b 1))), (0, .ref (q 0)), (1, .ref (a 0)), (2, .int (nI arm)), (3, .int (nI h)), (4, .long (lN d))]) hx hb dX2_leastRounds_8 hl (by decide) rfl (fun ls hl => ?_)
  refine lv_aload_n hx hb dX2_leastRounds_10 rfl (lv_at hl 1 rfl) ?_
  refine q_V (As := []) (rest := []) ⟨hx, hb, hml, hown, hts⟩ (c_X2_clearValues l C q t f v o ) (cwV 0 hts gX2_leastRounds_X2_clearValues rfl rfl rfl (by decide +kernel) ⟨Nat.le_of_ble_eq_true rfl, Nat.le_of_ble_eq_true rfl⟩) hK hP hD hS hA [0, 1, 2, 3, 4] (by decide) rfl 0 rfl rfl rfl rfl hl.1 rfl (Nat.le_of_ble_eq_true rfl) dX2_leastRounds_11 (Nat.zero_le _) (Nat.zero_le _) (fun r w1 H locs hQ hP hD hS => ?_)
  obtain ⟨rfl, rfl⟩ := hQ
  have hP : va_P C.1 vwCl (wX C q t f (fun _ => 0) o ++ wB C a b) H := hP
  have hD : va_D (q_A (wX C q t f v o ++ wB C a b) s) (wX C q t f (fun _ => 0) o ++ wB C a b) := hD
  refine W.eq (g2 := F0 m 14 ls []) rfl ?_
  refine lv_iconst (v := nI 1) hx hb dX2_leastRounds_14 (by decide) ?_
  refine lv_istore (lv' := [(7, .int (nI 1)), (6, .int (nI (bs b 1))), (0, .ref (q 0)), (1, .ref (a 0)), (2, .int (nI arm)), (3, .int (nI h)), (4, .long (lN d))]) hx hb dX2_leastRounds_15 hl (by decide) rfl (fun ls hl => ?_)
  have K17 : ∀ (n17 i17 : Nat), i17 ≤ (bs b 1 - 1) → (bs b 1 - 1) + 1 ≤ i17 + n17 → (lrN b arm h d (bs b 1 - 1 - i17) (i17 + 1) = leastN b arm h d) → ∀ (H : Heap) (locs : List Loc) (ls : Array Slot), va_P C.1 vwCl (wX C q t f (valsN b arm h i17) (ownsN b arm h o i17) ++ wB C a b) H → va_D (q_A (wX C q t f v o ++ wB C a b) s) (wX C q t f (valsN b arm h i17) (ownsN b arm h o i17) ++ wB C a b) → va_S (q_A (wX C q t f v o ++ wB C a b) s) s.heap H locs → lv_has ls 8 [(7, .int (nI (i17 + 1))), (6, .int (nI (bs b 1))), (0, .ref (q 0)), (1, .ref (a 0)), (2, .int (nI arm)), (3, .int (nI h)), (4, .long (lN d))] → W p l e (q_R 2 62) s m ([.ref (q 0), .ref (a 0), .int (nI arm), .int (nI h), .long (lN d)] : List Value).toArray below meth c H locs 0 0 (q_G C below (wX C q t f v o ++ wB C a b) (fun r w => ∃ v1 o1, r = some (.int (nI (leastN b arm h d))) ∧ w = wX C q t f v1 o1 ++ wB C a b) ([.ref (q 0), .ref (a 0), .int (nI arm), .int (nI h), .long (lN d)] : List Value).toArray s) (F0 m 17 ls []) := by
    intro n17
    induction n17 with
    | zero => intro i17  q1 q2; exact absurd q2 (by omega)
    | succ n17 ih17 =>
      intro i17  hi17 hn17 hL17 H locs ls hP hD hS hl
      refine lv_iload hx hb dX2_leastRounds_17 (lv_at hl 0 rfl) ?_
      refine lv_iload hx hb dX2_leastRounds_19 (lv_at hl 1 rfl) ?_
      refine lv_icmp_ge (tgt := 52) hx hb dX2_leastRounds_21 (by decide) (fun c21 => ?_) (fun c21 => ?_)
      · have c21 : (bs b 1) ≤ (i17 + 1) := q_nge (by omega) (by omega) c21
        refine lv_iload hx hb dX2_leastRounds_52 (lv_at hl 1 rfl) ?_
        exact q_iret hx hb hr hlocks (w1 := wX C q t f (valsN b arm h i17) (ownsN b arm h o i17) ++ wB C a b) hP hS rfl dX2_leastRounds_54 (⟨_, _, by rw [← lrN_end hL17 (by omega), show i17 + 1 = bs b 1 by omega], rfl⟩)
      · have c21 : (i17 + 1) < (bs b 1) := q_nge' (by omega) (by omega) c21
        refine lv_aload_n hx hb dX2_leastRounds_24 rfl (lv_at hl 2 rfl) ?_
        refine lv_aload_n hx hb dX2_leastRounds_25 rfl (lv_at hl 3 rfl) ?_
        refine lv_iload_n hx hb dX2_leastRounds_26 rfl (lv_at hl 4 rfl) ?_
        refine lv_iload_n hx hb dX2_leastRounds_27 rfl (lv_at hl 5 rfl) ?_
        refine q_V (As := [.ref (a 0), .int (nI arm), .int (nI h)]) (rest := []) ⟨hx, hb, hml, hown, hts⟩ (c_X2_turn l C q t f (valsN b arm h i17) (ownsN b arm h o i17) a b arm h hB (by omega) (by omega) (valsN_6M hB ha hh (by omega))) (cwV 3 hts gX2_leastRounds_X2_turn rfl rfl rfl (by decide +kernel) ⟨Nat.le_of_ble_eq_true rfl, Nat.le_of_ble_eq_true rfl⟩) hK hP hD hS hA [0, 1, 2, 3, 4, 5, 6, 7, 8, 9, 10, 11, 12] (by decide) rfl 0 rfl rfl rfl rfl hl.1 rfl (Nat.le_of_ble_eq_true rfl) dX2_leastRounds_28 (Nat.zero_le _) (Nat.zero_le _) (fun r w1 H locs hQ hP hD hS => ?_)
        obtain ⟨rfl, rfl⟩ := hQ
        have hP : va_P C.1 vwCl (wX C q t f (rndN b arm h (valsN b arm h i17)) (ownN b arm (valsN b arm h i17)) ++ wB C a b) H := hP
        have hD : va_D (q_A (wX C q t f v o ++ wB C a b) s) (wX C q t f (rndN b arm h (valsN b arm h i17)) (ownN b arm (valsN b arm h i17)) ++ wB C a b) := hD
        refine W.eq (g2 := F0 m 31 ls []) rfl ?_
        have hP : va_P C.1 vwCl (wX C q t f (valsN b arm h (i17 + 1)) (ownsN b arm h o (i17 + 1)) ++ wB C a b) H := hP
        have hD : va_D (q_A (wX C q t f v o ++ wB C a b) s) (wX C q t f (valsN b arm h (i17 + 1)) (ownsN b arm h o (i17 + 1)) ++ wB C a b) := hD
        refine lv_aload_n hx hb dX2_leastRounds_31 rfl (lv_at hl 2 rfl) ?_
        refine lv_aload_n hx hb dX2_leastRounds_32 rfl (lv_at hl 3 rfl) ?_
        refine lv_iload_n hx hb dX2_leastRounds_33 rfl (lv_at hl 5 rfl) ?_
        refine q_V (As := [.ref (a 0), .int (nI h)]) (rest := []) ⟨hx, hb, hml, hown, hts⟩ (c_X2_indexNow l C q t f (valsN b arm h (i17 + 1)) (ownsN b arm h o (i17 + 1)) a b h hB (by omega) (valsN_6M hB ha hh (by omega))) (cwV 2 hts gX2_leastRounds_X2_indexNow rfl rfl rfl (by decide +kernel) ⟨Nat.le_of_ble_eq_true rfl, Nat.le_of_ble_eq_true rfl⟩) hK hP hD hS hA [0, 1, 2, 3, 4, 5, 6, 7, 8, 9, 10, 11, 12] (by decide) rfl 0 rfl rfl rfl rfl hl.1 rfl (Nat.le_of_ble_eq_true rfl) dX2_leastRounds_34 (Nat.zero_le _) (Nat.zero_le _) (fun r w1 H locs hQ hP hD hS => ?_)
        obtain ⟨rfl, rfl⟩ := hQ
        have hP : va_P C.1 vwCl (wX C q t f (valsN b arm h (i17 + 1)) (ownsN b arm h o (i17 + 1)) ++ wB C a b) H := hP
        have hD : va_D (q_A (wX C q t f v o ++ wB C a b) s) (wX C q t f (valsN b arm h (i17 + 1)) (ownsN b arm h o (i17 + 1)) ++ wB C a b) := hD
        refine W.eq (g2 := F0 m 37 ls [.long (lN (ixN b h (valsN b arm h (i17 + 1))))]) rfl ?_
        refine lv_lload hx hb dX2_leastRounds_37 (lv_at hl 6 rfl) ?_
        refine W.lcmp hx hb dX2_leastRounds_39 ?_
        have e8 := (ixN_le (b := b) (h := h) (valsN_6M hB ha hh (i := i17 + 1) (by omega) h hh)).2
        refine lv_if_ne (tgt := 46) hx hb dX2_leastRounds_40 (by decide) (fun c40 => ?_) (fun c40 => ?_)
        · have c40 : (ixN b h (valsN b arm h (i17 + 1))) ≠ d := q_Lne (by omega) (by omega) c40
          refine lv_iinc (v := nI (i17 + 1 + 1)) (lv' := [(7, .int (nI (i17 + 1 + 1))), (6, .int (nI (bs b 1))), (0, .ref (q 0)), (1, .ref (a 0)), (2, .int (nI arm)), (3, .int (nI h)), (4, .long (lN d))]) hx hb dX2_leastRounds_46 hl (k := 0) rfl (nI_1 _) (by decide) rfl (fun ls hl => ?_)
          refine lv_goto (tgt := 17) hx hb dX2_leastRounds_49 (by decide) ?_
          exact ih17 (i17 + 1)  (by omega) (by omega) (by rw [show bs b 1 - 1 - (i17 + 1) = bs b 1 - 1 - i17 - 1 by omega]; exact lrN_s hL17 (by omega) c40) _ _ ls hP hD hS (lv_sub hl [0, 1, 2, 3, 4, 5, 6] rfl)
        · have c40 : (ixN b h (valsN b arm h (i17 + 1))) = d := q_Lne' (by omega) (by omega) c40
          refine lv_iload hx hb dX2_leastRounds_43 (lv_at hl 0 rfl) ?_
          exact q_iret hx hb hr hlocks (w1 := wX C q t f (valsN b arm h (i17 + 1)) (ownsN b arm h o (i17 + 1)) ++ wB C a b) hP hS rfl dX2_leastRounds_45 (⟨_, _, by rw [lrN_hit hL17 c40], rfl⟩)
  exact K17 ((bs b 1 - 1) + 1 - 0) 0  (by omega) (by omega) rfl _ _ ls hP hD hS (lv_sub hl [0, 1, 2, 3, 4, 5, 6] rfl)
set_option maxHeartbeats 4000000 in
set_option maxRecDepth 100000 in
theorem c_X2_refresh (l : Launch) (C : q_C) (q : Nat → Nat) (t f v o : Nat → Nat) (a : Nat → Nat) (b : Bd) (hB : OkB b) (hT : ∀ k, k < 4 → f k ≠ 0 → ∀ s, s < 4 → t (4 * k + s) = idxN b k s) (hf : ∀ k, k < 4 → f k ≤ 1) : q_M C l yX2_refresh wsX2_refresh 3 87 [.ref (q 0), .ref (a 0)] (wX C q t f v o ++ wB C a b) (fun r w => ∃ v1 o1, r = none ∧ w = wX C q (idxT b) (fun _ => 1) v1 o1 ++ wB C a b) := by
  obtain ⟨ok1, ok2, ⟨ok3, ok4, ok5, ok6, ok7⟩, ok8, ok9⟩ := id hB
  refine q_head (cc := cX2_refresh) (maxL := 4) (ret := none) (by decide +kernel) rfl (Nat.le_of_ble_eq_true rfl) ?_
  intro p e s m below meth c hx hb hr hlocks hml hown hts hK hP hD hS hA ls hl
  have hl : lv_has ls 4 [(0, .ref (q 0)), (1, .ref (a 0))] := hl
  have hf15 := hts (.fieldLink RX2 15 "RestedArms$Indices" "fresh" "[Z") (by decide +kernel)
  have hf9 := hts (.fieldLink RX2 9 "RestedArms$Indices" "table" "[J") (by decide +kernel)
  have hin2 : ∀ w ∈ u_ws RX2 TX2 4, w ∈ wsX2_refresh := by decide +kernel
  refine lv_iconst (v := nI 0) hx hb dX2_refresh_0 (by decide) ?_
  refine lv_istore_n (lv' := [(2, .int (nI 0)), (0, .ref (q 0)), (1, .ref (a 0))]) hx hb dX2_refresh_1 rfl hl (by decide) rfl (fun ls hl => ?_)
  have K2 : ∀ (n2 i2 : Nat), ∀ (t2 : Nat → Nat) (f2 : Nat → Nat) (v2 : Nat → Nat) (o2 : Nat → Nat), i2 ≤ 4 → 4 + 1 ≤ i2 + n2 → (∀ k, k < 4 → f2 k ≠ 0 → ∀ s', s' < 4 → t2 (4 * k + s') = idxN b k s') → (∀ k, k < 4 → f2 k ≤ 1) → (∀ k, k < i2 → f2 k ≠ 0) → ∀ (H : Heap) (locs : List Loc) (ls : Array Slot), va_P C.1 vwCl (wX C q t2 f2 v2 o2 ++ wB C a b) H → va_D (q_A (wX C q t f v o ++ wB C a b) s) (wX C q t2 f2 v2 o2 ++ wB C a b) → va_S (q_A (wX C q t f v o ++ wB C a b) s) s.heap H locs → lv_has ls 4 [(2, .int (nI i2)), (0, .ref (q 0)), (1, .ref (a 0))] → W p l e (q_R 3 87) s m ([.ref (q 0), .ref (a 0)] : List Value).toArray below meth c H locs 0 0 (q_G C below (wX C q t f v o ++ wB C a b) (fun r w => ∃ v1 o1, r = none ∧ w = wX C q (idxT b) (fun _ => 1) v1 o1 ++ wB C a b) ([.ref (q 0), .ref (a 0)] : List Value).toArray s) (F0 m 2 ls []) := by
    intro n2
    induction n2 with
    | zero => intro i2 t2 f2 v2 o2 q1 q2; exact absurd q2 (by omega)
    | succ n2 ih2 =>
      intro i2 t2 f2 v2 o2 hi2 hn2 hT2 hf2 hG2 H locs ls hP hD hS hl
      refine lv_iload_n hx hb dX2_refresh_2 rfl (lv_at hl 0 rfl) ?_
      refine lv_aload_n hx hb dX2_refresh_3 rfl (lv_at hl 1 rfl) ?_
      refine va_get (ci := 2) (v := .ref (q 2)) (C := RX2) (T := TX2) (N := 4) hx hb hts hin2 hown hK.1 hP 0 rfl rfl 1 (by decide) hf15 (fun _ h9 => h9) rfl dX2_refresh_4 ?_
      refine va_alen hx hb hK.1 hP 2 2 rfl rfl (v := nI 4) rfl dX2_refresh_7 ?_
      refine lv_icmp_ge (tgt := 65) hx hb dX2_refresh_8 (by decide) (fun c8 => ?_) (fun c8 => ?_)
      · have c8 : 4 ≤ i2 := q_nge (by omega) (by omega) c8
        have e9 : i2 = 4 := by omega
        subst e9
        have hP := q_swpL (g := fun k => lN ((idxT b) k)) hP 1 rfl (fun k hk => congrArg lN (by have e7 := hT2 (k / 4) (by omega) (hG2 (k / 4) (by omega)) (k % 4) (by omega); rw [idxT, ← e7]; congr 1; omega))
        have hD := hD.set (p := 1) (a := q 1) (e := .inl (C.2.2.1, 16, .inr (.inl (fun k => lN ((idxT b) k))))) rfl
        have hP : va_P C.1 vwCl (([(q 0, .inr (2, [.ref (q 1), .ref (q 2), .ref (q 3), .ref (q 4)])), (q 1, .inl (C.2.2.1, 16, .inr (.inl (fun k => lN ((idxT b) k))))), (q 2, .inl (C.2.2.2.1, 4, .inl (fun k => nI (f2 k)))), (q 3, .inl (C.2.2.1, 4, .inr (.inl (fun k => lN (v2 k))))), (q 4, .inl (C.2.2.1, 4, .inr (.inl (fun k => lN (o2 k)))))] : va_W) ++ wB C a b) H := hP
        have hD : va_D (q_A (wX C q t f v o ++ wB C a b) s) (([(q 0, .inr (2, [.ref (q 1), .ref (q 2), .ref (q 3), .ref (q 4)])), (q 1, .inl (C.2.2.1, 16, .inr (.inl (fun k => lN ((idxT b) k))))), (q 2, .inl (C.2.2.2.1, 4, .inl (fun k => nI (f2 k)))), (q 3, .inl (C.2.2.1, 4, .inr (.inl (fun k => lN (v2 k))))), (q 4, .inl (C.2.2.1, 4, .inr (.inl (fun k => lN (o2 k)))))] : va_W) ++ wB C a b) := hD
        have hP := q_swpI (g := fun k => nI ((fun _ => 1) k)) hP 2 rfl (fun k hk => congrArg nI (show f2 k = 1 by have e7 := hG2 k hk; have e8 := hf2 k hk; omega))
        have hD := hD.set (p := 2) (a := q 2) (e := .inl (C.2.2.2.1, 4, .inl (fun k => nI ((fun _ => 1) k)))) rfl
        have hP : va_P C.1 vwCl (([(q 0, .inr (2, [.ref (q 1), .ref (q 2), .ref (q 3), .ref (q 4)])), (q 1, .inl (C.2.2.1, 16, .inr (.inl (fun k => lN ((idxT b) k))))), (q 2, .inl (C.2.2.2.1, 4, .inl (fun k => nI ((fun _ => 1) k)))), (q 3, .inl (C.2.2.1, 4, .inr (.inl (fun k => lN (v2 k))))), (q 4, .inl (C.2.2.1, 4, .inr (.inl (fun k => lN (o2 k)))))] : va_W) ++ wB C a b) H := hP
        have hD : va_D (q_A (wX C q t f v o ++ wB C a b) s) (([(q 0, .inr (2, [.ref (q 1), .ref (q 2), .ref (q 3), .ref (q 4)])), (q 1, .inl (C.2.2.1, 16, .inr (.inl (fun k => lN ((idxT b) k))))), (q 2, .inl (C.2.2.2.1, 4, .inl (fun k => nI ((fun _ => 1) k)))), (q 3, .inl (C.2.2.1, 4, .inr (.inl (fun k => lN (v2 k))))), (q 4, .inl (C.2.2.1, 4, .inr (.inl (fun k => lN (o2 k)))))] : va_W) ++ wB C a b) := hD
        have hP : va_P C.1 vwCl (wX C q (idxT b) (fun _ => 1) v2 o2 ++ wB C a b) H := hP
        have hD : va_D (q_A (wX C q t f v o ++ wB C a b) s) (wX C q (idxT b) (fun _ => 1) v2 o2 ++ wB C a b) := hD
        exact q_vret hx hb hr hlocks (w1 := wX C q (idxT b) (fun _ => 1) v2 o2 ++ wB C a b) hP hS rfl dX2_refresh_65 (⟨_, _, rfl, rfl⟩)
      · have c8 : i2 < 4 := q_nge' (by omega) (by omega) c8
        refine lv_aload_n hx hb dX2_refresh_11 rfl (lv_at hl 1 rfl) ?_
        refine va_get (ci := 2) (v := .ref (q 2)) (C := RX2) (T := TX2) (N := 4) hx hb hts hin2 hown hK.1 hP 0 rfl rfl 1 (by decide) hf15 (fun _ h9 => h9) rfl dX2_refresh_12 ?_
        refine lv_iload_n hx hb dX2_refresh_15 rfl (lv_at hl 0 rfl) ?_
        have hfi := hf2 i2 (by omega)
        refine q_zald (n := i2) (v := nI (f2 i2)) hx hb hK hP 2 rfl (by omega) (by decide) rfl dX2_refresh_16 ?_
        refine lv_if_ne (tgt := 59) hx hb dX2_refresh_17 (by decide) (fun c17 => ?_) (fun c17 => ?_)
        · have c17 : (f2 i2) ≠ 0 := q_nne0 (by omega) (by omega) c17
          refine lv_iinc (v := nI (i2 + 1)) (lv' := [(2, .int (nI (i2 + 1))), (0, .ref (q 0)), (1, .ref (a 0))]) hx hb dX2_refresh_59 hl (k := 0) rfl (nI_1 _) (by decide) rfl (fun ls hl => ?_)
          refine lv_goto (tgt := 2) hx hb dX2_refresh_62 (by decide) ?_
          exact ih2 (i2 + 1) t2 f2 v2 o2 (by omega) (by omega) hT2 hf2 (fun k hk => by
                by_cases e : k = i2
                · subst e; exact c17
                · exact hG2 k (by omega)) _ _ ls hP hD hS (lv_sub hl [0, 1, 2] rfl)
        · have c17 : (f2 i2) = 0 := q_nne0' (by omega) (by omega) c17
          refine lv_iconst (v := nI 0) hx hb dX2_refresh_20 (by decide) ?_
          refine lv_istore_n (lv' := [(3, .int (nI 0)), (2, .int (nI i2)), (0, .ref (q 0)), (1, .ref (a 0))]) hx hb dX2_refresh_21 rfl hl (by decide) rfl (fun ls hl => ?_)
          have K22 : ∀ (n22 i22 : Nat), ∀ (t22 : Nat → Nat) (v22 : Nat → Nat) (o22 : Nat → Nat), i22 ≤ 4 → 4 + 1 ≤ i22 + n22 → (∀ s', s' < i22 → t22 (4 * i2 + s') = idxN b i2 s') → (∀ k, k < 4 * i2 ∨ 4 * i2 + 4 ≤ k → t22 k = t2 k) → ∀ (H : Heap) (locs : List Loc) (ls : Array Slot), va_P C.1 vwCl (wX C q t22 f2 v22 o22 ++ wB C a b) H → va_D (q_A (wX C q t f v o ++ wB C a b) s) (wX C q t22 f2 v22 o22 ++ wB C a b) → va_S (q_A (wX C q t f v o ++ wB C a b) s) s.heap H locs → lv_has ls 4 [(3, .int (nI i22)), (2, .int (nI i2)), (0, .ref (q 0)), (1, .ref (a 0))] → W p l e (q_R 3 87) s m ([.ref (q 0), .ref (a 0)] : List Value).toArray below meth c H locs 0 0 (q_G C below (wX C q t f v o ++ wB C a b) (fun r w => ∃ v1 o1, r = none ∧ w = wX C q (idxT b) (fun _ => 1) v1 o1 ++ wB C a b) ([.ref (q 0), .ref (a 0)] : List Value).toArray s) (F0 m 22 ls []) := by
            intro n22
            induction n22 with
            | zero => intro i22 t22 v22 o22 q1 q2; exact absurd q2 (by omega)
            | succ n22 ih22 =>
              intro i22 t22 v22 o22 hi22 hn22 hA22 hB22 H locs ls hP hD hS hl
              refine lv_iload_n hx hb dX2_refresh_22 rfl (lv_at hl 0 rfl) ?_
              refine lv_iconst (v := nI 4) hx hb dX2_refresh_23 (by decide) ?_
              refine lv_icmp_ge (tgt := 52) hx hb dX2_refresh_24 (by decide) (fun c24 => ?_) (fun c24 => ?_)
              · have c24 : 4 ≤ i22 := q_nge (by omega) (by omega) c24
                have e9 : i22 = 4 := by omega
                subst e9
                refine lv_aload_n hx hb dX2_refresh_52 rfl (lv_at hl 2 rfl) ?_
                refine va_get (ci := 2) (v := .ref (q 2)) (C := RX2) (T := TX2) (N := 4) hx hb hts hin2 hown hK.1 hP 0 rfl rfl 1 (by decide) hf15 (fun _ h9 => h9) rfl dX2_refresh_53 ?_
                refine lv_iload_n hx hb dX2_refresh_56 rfl (lv_at hl 1 rfl) ?_
                refine lv_iconst (v := nI 1) hx hb dX2_refresh_57 (by decide) ?_
                refine q_zast (n := i2) hx hb hK hP hD hS 2 rfl (by omega) (by decide) (by decide) dX2_refresh_58 (fun H locs hP hD hS => ?_)
                rw [q_upd] at hP hD
                have hP : va_P C.1 vwCl (([(q 0, .inr (2, [.ref (q 1), .ref (q 2), .ref (q 3), .ref (q 4)])), (q 1, .inl (C.2.2.1, 16, .inr (.inl (fun k => lN (t22 k))))), (q 2, .inl (C.2.2.2.1, 4, .inl (fun k => nI (upN f2 i2 1 k)))), (q 3, .inl (C.2.2.1, 4, .inr (.inl (fun k => lN (v22 k))))), (q 4, .inl (C.2.2.1, 4, .inr (.inl (fun k => lN (o22 k)))))] : va_W) ++ wB C a b) H := hP
                have hD : va_D (q_A (wX C q t f v o ++ wB C a b) s) (([(q 0, .inr (2, [.ref (q 1), .ref (q 2), .ref (q 3), .ref (q 4)])), (q 1, .inl (C.2.2.1, 16, .inr (.inl (fun k => lN (t22 k))))), (q 2, .inl (C.2.2.2.1, 4, .inl (fun k => nI (upN f2 i2 1 k)))), (q 3, .inl (C.2.2.1, 4, .inr (.inl (fun k => lN (v22 k))))), (q 4, .inl (C.2.2.1, 4, .inr (.inl (fun k => lN (o22 k)))))] : va_W) ++ wB C a b) := hD
                refine lv_iinc (v := nI (i2 + 1)) (lv' := [(2, .int (nI (i2 + 1))), (3, .int (nI 4)), (0, .ref (q 0)), (1, .ref (a 0))]) hx hb dX2_refresh_59 hl (k := 1) rfl (nI_1 _) (by decide) rfl (fun ls hl => ?_)
                refine lv_goto (tgt := 2) hx hb dX2_refresh_62 (by decide) ?_
                exact ih2 (i2 + 1) t22 (upN f2 i2 1) v22 o22 (by omega) (by omega) (fun k hk hn s' hs => by
                      by_cases e : k = i2
                      · subst e; exact hA22 s' (by omega)
                      · rw [hB22 _ (by omega)]; exact hT2 k hk (by rw [upN_n e] at hn; exact hn) s' hs) (fun k hk => by
                      by_cases e : k = i2
                      · subst e; rw [upN_s]; exact Nat.le_refl 1
                      · rw [upN_n e]; exact hf2 k hk) (fun k hk => by
                      by_cases e : k = i2
                      · subst e; rw [upN_s]; decide
                      · rw [upN_n e]; exact hG2 k (by omega)) _ _ ls hP hD hS (lv_sub hl [0, 2, 3] rfl)
              · have c24 : i22 < 4 := q_nge' (by omega) (by omega) c24
                refine lv_aload_n hx hb dX2_refresh_27 rfl (lv_at hl 2 rfl) ?_
                refine va_get (ci := 2) (v := .ref (q 1)) (C := RX2) (T := TX2) (N := 4) hx hb hts hin2 hown hK.1 hP 0 rfl rfl 0 (by decide) hf9 (fun _ h9 => h9) rfl dX2_refresh_28 ?_
                refine lv_iload_n hx hb dX2_refresh_31 rfl (lv_at hl 1 rfl) ?_
                refine lv_iload_n hx hb dX2_refresh_32 rfl (lv_at hl 0 rfl) ?_
                refine q_N (As := [.int (nI i2), .int (nI i22)]) (rest := [.ref (q 1)]) ⟨hx, hb, hml, hown, hts⟩ (c_X4_slotOf l C i2 i22) ⟨va_cnB 2 hts gX2_refresh_X4_slotOf_n25 rfl rfl rfl (q_nw hK 3 rfl) (hts (.initialized RX4) (by decide +kernel)) (by decide +kernel) ⟨Nat.le_of_ble_eq_true rfl, Nat.le_of_ble_eq_true rfl⟩, hts (.static yX4_slotOf) (by decide +kernel), trivial⟩ hK hP hD hS hA [] (by decide) rfl rfl hl.1 rfl (Nat.le_of_ble_eq_true rfl) dX2_refresh_33 (Nat.zero_le _) (Nat.zero_le _) (fun r w1 H locs hQ hP hD hS => ?_)
                obtain ⟨rfl, rfl⟩ := hQ
                refine W.eq (g2 := F0 m 36 ls [.int (nI (4 * i2 + i22)), .ref (q 1)]) rfl ?_
                refine lv_aload_n hx hb dX2_refresh_36 rfl (lv_at hl 2 rfl) ?_
                refine lv_aload_n hx hb dX2_refresh_37 rfl (lv_at hl 3 rfl) ?_
                refine lv_iload_n hx hb dX2_refresh_38 rfl (lv_at hl 1 rfl) ?_
                refine lv_iload_n hx hb dX2_refresh_39 rfl (lv_at hl 0 rfl) ?_
                refine q_V (As := [.ref (a 0), .int (nI i2), .int (nI i22)]) (rest := [.int (nI (4 * i2 + i22)), .ref (q 1)]) ⟨hx, hb, hml, hown, hts⟩ (c_X2_find l C q t22 f2 v22 o22 a b i2 i22 hB (by omega) (by omega)) (cwV 3 hts gX2_refresh_X2_find rfl rfl rfl (by decide +kernel) ⟨Nat.le_of_ble_eq_true rfl, Nat.le_of_ble_eq_true rfl⟩) hK hP hD hS hA [0, 1, 2, 3, 4, 5, 6, 7, 8, 9, 10, 11, 12] (by decide) rfl 0 rfl rfl rfl rfl hl.1 rfl (Nat.le_of_ble_eq_true rfl) dX2_refresh_40 (Nat.zero_le _) (Nat.zero_le _) (fun r w1 H locs hQ hP hD hS => ?_)
                obtain ⟨rfl, rfl⟩ := hQ
                have hP : va_P C.1 vwCl (wX C q t22 f2 (valsN b i2 i22 (bs b 1)) (ownsN b i2 i22 o22 (bs b 1)) ++ wB C a b) H := hP
                have hD : va_D (q_A (wX C q t f v o ++ wB C a b) s) (wX C q t22 f2 (valsN b i2 i22 (bs b 1)) (ownsN b i2 i22 o22 (bs b 1)) ++ wB C a b) := hD
                refine W.eq (g2 := F0 m 43 ls [.long (lN (idxN b i2 i22)), .int (nI (4 * i2 + i22)), .ref (q 1)]) rfl ?_
                refine q_N (As := [.ref (q 1), .int (nI (4 * i2 + i22)), .long (lN (idxN b i2 i22))]) (rest := []) ⟨hx, hb, hml, hown, hts⟩ (c_X4_store_ l C (q 1) 16 (4 * i2 + i22) (fun k => lN (t22 k)) (lN (idxN b i2 i22)) (by omega) (by decide)) ⟨va_cnB 3 hts gX2_refresh_X4_store__n33 rfl rfl rfl (q_nw hK 4 rfl) (hts (.initialized RX4) (by decide +kernel)) (by decide +kernel) ⟨Nat.le_of_ble_eq_true rfl, Nat.le_of_ble_eq_true rfl⟩, hts (.static yX4_store_) (by decide +kernel), trivial⟩ hK hP hD hS hA [1] (by decide) rfl rfl hl.1 rfl (Nat.le_of_ble_eq_true rfl) dX2_refresh_43 (Nat.zero_le _) (Nat.zero_le _) (fun r w1 H locs hQ hP hD hS => ?_)
                obtain ⟨rfl, rfl⟩ := hQ
                rw [q_updL] at hP hD
                have hP : va_P C.1 vwCl (([(q 0, .inr (2, [.ref (q 1), .ref (q 2), .ref (q 3), .ref (q 4)])), (q 1, .inl (C.2.2.1, 16, .inr (.inl (fun k => lN (upN t22 (4 * i2 + i22) (idxN b i2 i22) k))))), (q 2, .inl (C.2.2.2.1, 4, .inl (fun k => nI (f2 k)))), (q 3, .inl (C.2.2.1, 4, .inr (.inl (fun k => lN ((valsN b i2 i22 (bs b 1)) k))))), (q 4, .inl (C.2.2.1, 4, .inr (.inl (fun k => lN ((ownsN b i2 i22 o22 (bs b 1)) k)))))] : va_W) ++ wB C a b) H := hP
                have hD : va_D (q_A (wX C q t f v o ++ wB C a b) s) (([(q 0, .inr (2, [.ref (q 1), .ref (q 2), .ref (q 3), .ref (q 4)])), (q 1, .inl (C.2.2.1, 16, .inr (.inl (fun k => lN (upN t22 (4 * i2 + i22) (idxN b i2 i22) k))))), (q 2, .inl (C.2.2.2.1, 4, .inl (fun k => nI (f2 k)))), (q 3, .inl (C.2.2.1, 4, .inr (.inl (fun k => lN ((valsN b i2 i22 (bs b 1)) k))))), (q 4, .inl (C.2.2.1, 4, .inr (.inl (fun k => lN ((ownsN b i2 i22 o22 (bs b 1)) k)))))] : va_W) ++ wB C a b) := hD
                refine W.eq (g2 := F0 m 46 ls []) rfl ?_
                refine lv_iinc (v := nI (i22 + 1)) (lv' := [(3, .int (nI (i22 + 1))), (2, .int (nI i2)), (0, .ref (q 0)), (1, .ref (a 0))]) hx hb dX2_refresh_46 hl (k := 0) rfl (nI_1 _) (by decide) rfl (fun ls hl => ?_)
                refine lv_goto (tgt := 22) hx hb dX2_refresh_49 (by decide) ?_
                exact ih22 (i22 + 1) (upN t22 (4 * i2 + i22) (idxN b i2 i22)) (valsN b i2 i22 (bs b 1)) (ownsN b i2 i22 o22 (bs b 1)) (by omega) (by omega) (fun s' hs => by
                      by_cases e : s' = i22
                      · subst e; exact upN_s _ _ _
                      · rw [upN_n (by omega)]; exact hA22 s' (by omega)) (fun k hk => by rw [upN_n (by omega)]; exact hB22 k hk) _ _ ls hP hD hS (lv_sub hl [0, 1, 2, 3] rfl)
          exact K22 (4 + 1 - 0) 0 t2 v2 o2 (by omega) (by omega) (fun s' hs => absurd hs (Nat.not_lt_zero _)) (fun _ _ => rfl) _ _ ls hP hD hS (lv_sub hl [0, 1, 2, 3] rfl)
  exact K2 (4 + 1 - 0) 0 t f v o (by omega) (by omega) hT hf (fun k hk => absurd hk (Nat.not_lt_zero _)) _ _ ls hP hD hS (lv_sub hl [0, 1, 2] rfl)
