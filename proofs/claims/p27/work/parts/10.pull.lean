/-! a pull -/
theorem restN_1 {b : Bd} {arm o : Nat} (h : o ≠ arm) : restN b arm (o + 1) = goB (restN b arm o) o := by rw [restN, rest1, if_pos h]
theorem restN_0 {b : Bd} {arm o : Nat} (h : o = arm) : restN b arm (o + 1) = restN b arm o := by rw [restN, rest1, if_neg (fun q => q h)]
theorem q_milN : (1000000 : Int64) = lN 1000000 := by decide
set_option maxHeartbeats 4000000 in
set_option maxRecDepth 100000 in
theorem c_X0_pullOnce (l : Launch) (C : q_C) (a : Nat → Nat) (b : Bd) (arm : Nat) (hB : OkB b) (ha : arm < 4) : q_M C l yX0_pullOnce wsX0_pullOnce 2 45 [.ref (a 0), .int (nI arm)] (wB C a b) (fun r w => r = none ∧ w = wB C a (pulB b arm)) := by
  obtain ⟨ok1, ok2, ⟨ok3, ok4, ok5, ok6, ok7⟩, ok8, ok9⟩ := id hB
  have hp4 := ok2 arm ha
  have h16 := ok1 (4 * arm + bp b arm) (by omega)
  have hwd : bw b * bs b 0 ≤ 1000000 * 99 := Nat.mul_le_mul ok9 ok3
  have hB1 := okB_pul0 hB arm ha
  have hB2 := okB_goB hB1 arm ha
  have hs3 : bs (goB (pul0 b arm) arm) 3 ≤ 1 := ok7
  refine q_head (cc := cX0_pullOnce) (maxL := 5) (ret := none) (by decide +kernel) rfl (Nat.le_of_ble_eq_true rfl) ?_
  intro p e s m below meth c hx hb hr hlocks hml hown hts hK hP hD hS hA ls hl
  have hl : lv_has ls 5 [(0, .ref (a 0)), (1, .int (nI arm))] := hl
  have hf24 := hts (.fieldLink RX0 24 "RestedArms$Board" "places" "[I") (by decide +kernel)
  have hf27 := hts (.fieldLink RX0 27 "RestedArms$Board" "pulls" "[I") (by decide +kernel)
  have hf30 := hts (.fieldLink RX0 30 "RestedArms$Board" "settings" "[I") (by decide +kernel)
  have hf33 := hts (.fieldLink RX0 33 "RestedArms$Board" "last" "I") (by decide +kernel)
  have hf39 := hts (.fieldLink RX0 39 "RestedArms$Board" "weight" "J") (by decide +kernel)
  have hf52 := hts (.fieldLink RX0 52 "RestedArms$Board" "changes" "I") (by decide +kernel)
  have hf55 := hts (.fieldLink RX0 55 "RestedArms$Board" "brought" "J") (by decide +kernel)
  have hf9 := hts (.fieldLink RX0 9 "RestedArms$Board" "gifts" "[I") (by decide +kernel)
  have hin0 : ∀ w ∈ u_ws RX0 TX0 12, w ∈ wsX0_pullOnce := by decide +kernel
  have hk37 := hts (.constantLong RX0 37 (1000000)) (by decide +kernel)
  have hk72 := hts (.constantLong RX0 72 (1000)) (by decide +kernel)
  have hk84 := hts (.constantLong RX0 84 (100)) (by decide +kernel)
  refine lv_ldc2 hx hb hown hk72 dX0_pullOnce_0 ?_
  refine q_tl (y := lN 1000) (by decide) ?_
  refine lv_aload_n hx hb dX0_pullOnce_3 rfl (lv_at hl 0 rfl) ?_
  refine va_get (ci := 0) (v := .ref (a 1)) (C := RX0) (T := TX0) (N := 12) hx hb hts hin0 hown hK.1 hP 0 rfl rfl 0 (by decide) hf9 (fun _ h9 => h9) rfl dX0_pullOnce_4 ?_
  refine lv_iload_n hx hb dX0_pullOnce_7 rfl (lv_at hl 1 rfl) ?_
  refine lv_aload_n hx hb dX0_pullOnce_8 rfl (lv_at hl 0 rfl) ?_
  refine va_get (ci := 0) (v := .ref (a 5)) (C := RX0) (T := TX0) (N := 12) hx hb hts hin0 hown hK.1 hP 0 rfl rfl 4 (by decide) hf24 (fun _ h9 => h9) rfl dX0_pullOnce_9 ?_
  refine lv_iload_n hx hb dX0_pullOnce_12 rfl (lv_at hl 1 rfl) ?_
  refine q_N (As := [.ref (a 5), .int (nI arm)]) (rest := [.int (nI arm), .ref (a 1), .long (lN 1000)]) ⟨hx, hb, hml, hown, hts⟩ (c_X4_at l C (a 5) 4 arm (fun k => nI (bp b k)) (by omega) (by decide)) ⟨va_cnB 2 hts gX0_pullOnce_X4_at_n62 rfl rfl rfl (q_nw hK 1 rfl) (hts (.initialized RX4) (by decide +kernel)) (by decide +kernel) ⟨Nat.le_of_ble_eq_true rfl, Nat.le_of_ble_eq_true rfl⟩, hts (.static yX4_at) (by decide +kernel), trivial⟩ hK hP hD hS hA [5] (by decide) rfl rfl hl.1 rfl (Nat.le_of_ble_eq_true rfl) dX0_pullOnce_13 (Nat.zero_le _) (Nat.zero_le _) (fun r w1 H locs hQ hP hD hS => ?_)
  obtain ⟨rfl, rfl⟩ := hQ
  have hP : va_P C.1 vwCl (wB C a b) H := hP
  have hD : va_D (q_A (wB C a b) s) (wB C a b) := hD
  refine W.eq (g2 := F0 m 16 ls [.int (nI (bp b arm)), .int (nI arm), .ref (a 1), .long (lN 1000)]) rfl ?_
  refine q_N (As := [.int (nI arm), .int (nI (bp b arm))]) (rest := [.ref (a 1), .long (lN 1000)]) ⟨hx, hb, hml, hown, hts⟩ (c_X4_slotOf l C arm (bp b arm)) ⟨va_cnB 2 hts gX0_pullOnce_X4_slotOf_n74 rfl rfl rfl (q_nw hK 2 rfl) (hts (.initialized RX4) (by decide +kernel)) (by decide +kernel) ⟨Nat.le_of_ble_eq_true rfl, Nat.le_of_ble_eq_true rfl⟩, hts (.static yX4_slotOf) (by decide +kernel), trivial⟩ hK hP hD hS hA [] (by decide) rfl rfl hl.1 rfl (Nat.le_of_ble_eq_true rfl) dX0_pullOnce_16 (Nat.zero_le _) (Nat.zero_le _) (fun r w1 H locs hQ hP hD hS => ?_)
  obtain ⟨rfl, rfl⟩ := hQ
  refine W.eq (g2 := F0 m 19 ls [.int (nI (4 * arm + (bp b arm))), .ref (a 1), .long (lN 1000)]) rfl ?_
  refine q_N (As := [.ref (a 1), .int (nI (4 * arm + (bp b arm)))]) (rest := [.long (lN 1000)]) ⟨hx, hb, hml, hown, hts⟩ (c_X4_at l C (a 1) 16 (4 * arm + (bp b arm)) (fun k => nI (bg b k)) (by omega) (by decide)) ⟨va_cnB 2 hts gX0_pullOnce_X4_at_n62 rfl rfl rfl (q_nw hK 1 rfl) (hts (.initialized RX4) (by decide +kernel)) (by decide +kernel) ⟨Nat.le_of_ble_eq_true rfl, Nat.le_of_ble_eq_true rfl⟩, hts (.static yX4_at) (by decide +kernel), trivial⟩ hK hP hD hS hA [1] (by decide) rfl rfl hl.1 rfl (Nat.le_of_ble_eq_true rfl) dX0_pullOnce_19 (Nat.zero_le _) (Nat.zero_le _) (fun r w1 H locs hQ hP hD hS => ?_)
  obtain ⟨rfl, rfl⟩ := hQ
  have hP : va_P C.1 vwCl (wB C a b) H := hP
  have hD : va_D (q_A (wB C a b) s) (wB C a b) := hD
  refine W.eq (g2 := F0 m 22 ls [.int (nI (bg b (4 * arm + (bp b arm)))), .long (lN 1000)]) rfl ?_
  refine lv_i2l (v := lN (bg b (4 * arm + (bp b arm)))) hx hb dX0_pullOnce_22 (nI_l (by omega)) ?_
  refine lv_lmul hx hb dX0_pullOnce_23 ?_
  refine q_tl (y := lN (1000 * (bg b (4 * arm + (bp b arm))))) (lN_mul _ _) ?_
  refine lv_lstore_n (lv' := [(2, .long (lN (1000 * (bg b (4 * arm + (bp b arm)))))), (0, .ref (a 0)), (1, .int (nI arm))]) hx hb dX0_pullOnce_24 rfl hl (by decide) rfl (fun ls hl => ?_)
  refine lv_aload_n hx hb dX0_pullOnce_25 rfl (lv_at hl 1 rfl) ?_
  refine lv_iload_n hx hb dX0_pullOnce_26 rfl (lv_at hl 2 rfl) ?_
  refine q_V (As := [.int (nI arm)]) (rest := []) ⟨hx, hb, hml, hown, hts⟩ (c_X0_wouldChange l C a b arm hB (by omega)) (cwV 1 hts gX0_pullOnce_X0_wouldChange rfl rfl rfl (by decide +kernel) ⟨Nat.le_of_ble_eq_true rfl, Nat.le_of_ble_eq_true rfl⟩) hK hP hD hS hA [0, 1, 2, 3, 4, 5, 6, 7] (by decide) rfl 0 rfl rfl rfl rfl hl.1 rfl (Nat.le_of_ble_eq_true rfl) dX0_pullOnce_27 (Nat.zero_le _) (Nat.zero_le _) (fun r w1 H locs hQ hP hD hS => ?_)
  obtain ⟨rfl, rfl⟩ := hQ
  have hP : va_P C.1 vwCl (wB C a b) H := hP
  have hD : va_D (q_A (wB C a b) s) (wB C a b) := hD
  refine W.eq (g2 := F0 m 30 ls [.int (q_b (othB b arm))]) rfl ?_
  have J59 : ∀ (H : Heap) (locs : List Loc) (ls : Array Slot), va_P C.1 vwCl ([(a 0, .inr (0, [.ref (a 1), .ref (a 2), .ref (a 3), .ref (a 4), .ref (a 5), .ref (a 6), .ref (a 7), .int (nI (if othB b arm = true then bx b + 1 else bx b)), .int (nI (bl b) - 1), .long (br b), .long (lN (bw b)), .long (bz b)])), (a 1, .inl (C.2.1, 16, .inl (fun k => nI (bg b k)))), (a 2, .inl (C.2.1, 16, .inl (fun k => nI (bo b k)))), (a 3, .inl (C.2.1, 16, .inl (fun k => nI (bb b k)))), (a 4, .inl (C.2.1, 16, .inl (fun k => nI (bc b k)))), (a 5, .inl (C.2.1, 4, .inl (fun k => nI (bp b k)))), (a 6, .inl (C.2.1, 4, .inl (fun k => nI (bu b k)))), (a 7, .inl (C.2.1, 4, .inl (fun k => nI (bs b k))))]) H → va_D (q_A (wB C a b) s) ([(a 0, .inr (0, [.ref (a 1), .ref (a 2), .ref (a 3), .ref (a 4), .ref (a 5), .ref (a 6), .ref (a 7), .int (nI (if othB b arm = true then bx b + 1 else bx b)), .int (nI (bl b) - 1), .long (br b), .long (lN (bw b)), .long (bz b)])), (a 1, .inl (C.2.1, 16, .inl (fun k => nI (bg b k)))), (a 2, .inl (C.2.1, 16, .inl (fun k => nI (bo b k)))), (a 3, .inl (C.2.1, 16, .inl (fun k => nI (bb b k)))), (a 4, .inl (C.2.1, 16, .inl (fun k => nI (bc b k)))), (a 5, .inl (C.2.1, 4, .inl (fun k => nI (bp b k)))), (a 6, .inl (C.2.1, 4, .inl (fun k => nI (bu b k)))), (a 7, .inl (C.2.1, 4, .inl (fun k => nI (bs b k))))]) → va_S (q_A (wB C a b) s) s.heap H locs → lv_has ls 5 [(2, .long (if othB b arm = true then lN (1000 * bg b (4 * arm + bp b arm)) - lN (1000 * bs b 2) else lN (1000 * bg b (4 * arm + bp b arm)))), (0, .ref (a 0)), (1, .int (nI arm))] → W p l e (q_R 2 45) s m ([.ref (a 0), .int (nI arm)] : List Value).toArray below meth c H locs 0 0 (q_G C below (wB C a b) (fun r w => r = none ∧ w = wB C a (pulB b arm)) ([.ref (a 0), .int (nI arm)] : List Value).toArray s) (F0 m 59 ls []) := by
    intro H locs ls hP hD hS hl
    refine lv_aload_n hx hb dX0_pullOnce_59 rfl (lv_at hl 1 rfl) ?_
    refine lv_dup hx hb dX0_pullOnce_60 rfl ?_
    refine va_get (ci := 0) (v := .long (br b)) (C := RX0) (T := TX0) (N := 12) hx hb hts hin0 hown hK.1 hP 0 rfl rfl 9 (by decide) hf55 (fun _ h9 => h9) rfl dX0_pullOnce_61 ?_
    refine lv_lload_n hx hb dX0_pullOnce_64 rfl (lv_at hl 0 rfl) ?_
    refine lv_aload_n hx hb dX0_pullOnce_65 rfl (lv_at hl 1 rfl) ?_
    refine va_get (ci := 0) (v := .long (lN (bw b))) (C := RX0) (T := TX0) (N := 12) hx hb hts hin0 hown hK.1 hP 0 rfl rfl 10 (by decide) hf39 (fun _ h9 => h9) rfl dX0_pullOnce_66 ?_
    refine lv_lmul hx hb dX0_pullOnce_69 ?_
    refine lv_ldc2 hx hb hown hk37 dX0_pullOnce_70 ?_
    refine q_tl (y := lN 1000000) (by decide) ?_
    refine q_S (As := [.long ((if othB b arm = true then lN (1000 * bg b (4 * arm + bp b arm)) - lN (1000 * bs b 2) else lN (1000 * bg b (4 * arm + bp b arm))) * (lN (bw b))), .long (lN 1000000)]) (rest := [.long (br b), .ref (a 0)]) ⟨hx, hb, hml, hown, hts⟩ (c_J9_floorDiv_f86c9 l C ((if othB b arm = true then lN (1000 * bg b (4 * arm + bp b arm)) - lN (1000 * bs b 2) else lN (1000 * bg b (4 * arm + bp b arm))) * (lN (bw b))) (lN 1000000) (by decide)) (va_cwS 2 hts gX0_pullOnce_J9_floorDiv_f86c9 rfl rfl rfl (by decide +kernel) ⟨Nat.le_of_ble_eq_true rfl, Nat.le_of_ble_eq_true rfl⟩) hK hP hD hS hA [] (by decide) rfl rfl hl.1 rfl (Nat.le_of_ble_eq_true rfl) dX0_pullOnce_73 (Nat.zero_le _) (Nat.zero_le _) (fun r w1 H locs hQ hP hD hS => ?_)
    obtain ⟨rfl, rfl⟩ := hQ
    refine W.eq (g2 := F0 m 76 ls [.long (fdv ((if othB b arm = true then lN (1000 * bg b (4 * arm + bp b arm)) - lN (1000 * bs b 2) else lN (1000 * bg b (4 * arm + bp b arm))) * (lN (bw b))) (lN 1000000)), .long (br b), .ref (a 0)]) rfl ?_
    refine lv_ladd hx hb dX0_pullOnce_76 ?_
    refine va_put (ci := 0) (v := .long ((br b) + (fdv ((if othB b arm = true then lN (1000 * bg b (4 * arm + bp b arm)) - lN (1000 * bs b 2) else lN (1000 * bg b (4 * arm + bp b arm))) * (lN (bw b))) (lN 1000000)))) (ty := .long) (C := RX0) (T := TX0) (N := 12) hx hb hts hin0 tyX0 tyX0_ok nmX0 hown hK.1 hP hD hS 0 rfl rfl 9 (by decide) hf55 (fun _ h9 => h9) rfl (by decide +kernel) rfl rfl (Nat.le_of_ble_eq_true rfl) dX0_pullOnce_77 (fun H locs hP hD hS => ?_)
    have hP : va_P C.1 vwCl ([(a 0, .inr (0, [.ref (a 1), .ref (a 2), .ref (a 3), .ref (a 4), .ref (a 5), .ref (a 6), .ref (a 7), .int (nI (if othB b arm = true then bx b + 1 else bx b)), .int (nI (bl b) - 1), .long ((br b) + (fdv ((if othB b arm = true then lN (1000 * bg b (4 * arm + bp b arm)) - lN (1000 * bs b 2) else lN (1000 * bg b (4 * arm + bp b arm))) * (lN (bw b))) (lN 1000000))), .long (lN (bw b)), .long (bz b)])), (a 1, .inl (C.2.1, 16, .inl (fun k => nI (bg b k)))), (a 2, .inl (C.2.1, 16, .inl (fun k => nI (bo b k)))), (a 3, .inl (C.2.1, 16, .inl (fun k => nI (bb b k)))), (a 4, .inl (C.2.1, 16, .inl (fun k => nI (bc b k)))), (a 5, .inl (C.2.1, 4, .inl (fun k => nI (bp b k)))), (a 6, .inl (C.2.1, 4, .inl (fun k => nI (bu b k)))), (a 7, .inl (C.2.1, 4, .inl (fun k => nI (bs b k))))]) H := hP
    have hD : va_D (q_A (wB C a b) s) ([(a 0, .inr (0, [.ref (a 1), .ref (a 2), .ref (a 3), .ref (a 4), .ref (a 5), .ref (a 6), .ref (a 7), .int (nI (if othB b arm = true then bx b + 1 else bx b)), .int (nI (bl b) - 1), .long ((br b) + (fdv ((if othB b arm = true then lN (1000 * bg b (4 * arm + bp b arm)) - lN (1000 * bs b 2) else lN (1000 * bg b (4 * arm + bp b arm))) * (lN (bw b))) (lN 1000000))), .long (lN (bw b)), .long (bz b)])), (a 1, .inl (C.2.1, 16, .inl (fun k => nI (bg b k)))), (a 2, .inl (C.2.1, 16, .inl (fun k => nI (bo b k)))), (a 3, .inl (C.2.1, 16, .inl (fun k => nI (bb b k)))), (a 4, .inl (C.2.1, 16, .inl (fun k => nI (bc b k)))), (a 5, .inl (C.2.1, 4, .inl (fun k => nI (bp b k)))), (a 6, .inl (C.2.1, 4, .inl (fun k => nI (bu b k)))), (a 7, .inl (C.2.1, 4, .inl (fun k => nI (bs b k))))]) := hD
    refine lv_aload_n hx hb dX0_pullOnce_80 rfl (lv_at hl 1 rfl) ?_
    refine lv_aload_n hx hb dX0_pullOnce_81 rfl (lv_at hl 1 rfl) ?_
    refine va_get (ci := 0) (v := .long (lN (bw b))) (C := RX0) (T := TX0) (N := 12) hx hb hts hin0 hown hK.1 hP 0 rfl rfl 10 (by decide) hf39 (fun _ h9 => h9) rfl dX0_pullOnce_82 ?_
    refine lv_aload_n hx hb dX0_pullOnce_85 rfl (lv_at hl 1 rfl) ?_
    refine va_get (ci := 0) (v := .ref (a 7)) (C := RX0) (T := TX0) (N := 12) hx hb hts hin0 hown hK.1 hP 0 rfl rfl 6 (by decide) hf30 (fun _ h9 => h9) rfl dX0_pullOnce_86 ?_
    refine lv_iconst (v := nI 0) hx hb dX0_pullOnce_89 (by decide) ?_
    refine q_N (As := [.ref (a 7), .int (nI 0)]) (rest := [.long (lN (bw b)), .ref (a 0)]) ⟨hx, hb, hml, hown, hts⟩ (c_X4_at l C (a 7) 4 0 (fun k => nI (bs b k)) (by decide) (by decide)) ⟨va_cnB 2 hts gX0_pullOnce_X4_at_n62 rfl rfl rfl (q_nw hK 1 rfl) (hts (.initialized RX4) (by decide +kernel)) (by decide +kernel) ⟨Nat.le_of_ble_eq_true rfl, Nat.le_of_ble_eq_true rfl⟩, hts (.static yX4_at) (by decide +kernel), trivial⟩ hK hP hD hS hA [7] (by decide) rfl rfl hl.1 rfl (Nat.le_of_ble_eq_true rfl) dX0_pullOnce_90 (Nat.zero_le _) (Nat.zero_le _) (fun r w1 H locs hQ hP hD hS => ?_)
    obtain ⟨rfl, rfl⟩ := hQ
    have hP : va_P C.1 vwCl ([(a 0, .inr (0, [.ref (a 1), .ref (a 2), .ref (a 3), .ref (a 4), .ref (a 5), .ref (a 6), .ref (a 7), .int (nI (if othB b arm = true then bx b + 1 else bx b)), .int (nI (bl b) - 1), .long ((br b) + (fdv ((if othB b arm = true then lN (1000 * bg b (4 * arm + bp b arm)) - lN (1000 * bs b 2) else lN (1000 * bg b (4 * arm + bp b arm))) * (lN (bw b))) (lN 1000000))), .long (lN (bw b)), .long (bz b)])), (a 1, .inl (C.2.1, 16, .inl (fun k => nI (bg b k)))), (a 2, .inl (C.2.1, 16, .inl (fun k => nI (bo b k)))), (a 3, .inl (C.2.1, 16, .inl (fun k => nI (bb b k)))), (a 4, .inl (C.2.1, 16, .inl (fun k => nI (bc b k)))), (a 5, .inl (C.2.1, 4, .inl (fun k => nI (bp b k)))), (a 6, .inl (C.2.1, 4, .inl (fun k => nI (bu b k)))), (a 7, .inl (C.2.1, 4, .inl (fun k => nI (bs b k))))]) H := hP
    have hD : va_D (q_A (wB C a b) s) ([(a 0, .inr (0, [.ref (a 1), .ref (a 2), .ref (a 3), .ref (a 4), .ref (a 5), .ref (a 6), .ref (a 7), .int (nI (if othB b arm = true then bx b + 1 else bx b)), .int (nI (bl b) - 1), .long ((br b) + (fdv ((if othB b arm = true then lN (1000 * bg b (4 * arm + bp b arm)) - lN (1000 * bs b 2) else lN (1000 * bg b (4 * arm + bp b arm))) * (lN (bw b))) (lN 1000000))), .long (lN (bw b)), .long (bz b)])), (a 1, .inl (C.2.1, 16, .inl (fun k => nI (bg b k)))), (a 2, .inl (C.2.1, 16, .inl (fun k => nI (bo b k)))), (a 3, .inl (C.2.1, 16, .inl (fun k => nI (bb b k)))), (a 4, .inl (C.2.1, 16, .inl (fun k => nI (bc b k)))), (a 5, .inl (C.2.1, 4, .inl (fun k => nI (bp b k)))), (a 6, .inl (C.2.1, 4, .inl (fun k => nI (bu b k)))), (a 7, .inl (C.2.1, 4, .inl (fun k => nI (bs b k))))]) := hD
    refine W.eq (g2 := F0 m 93 ls [.int (nI (bs b 0)), .long (lN (bw b)), .ref (a 0)]) rfl ?_
    refine lv_i2l (v := lN (bs b 0)) hx hb dX0_pullOnce_93 (nI_l (by omega)) ?_
    refine lv_lmul hx hb dX0_pullOnce_94 ?_
    refine q_tl (y := lN ((bw b) * (bs b 0))) (lN_mul _ _) ?_
    refine lv_ldc2 hx hb hown hk84 dX0_pullOnce_95 ?_
    refine q_tl (y := lN 100) (by decide) ?_
    refine q_S (As := [.long (lN ((bw b) * (bs b 0))), .long (lN 100)]) (rest := [.ref (a 0)]) ⟨hx, hb, hml, hown, hts⟩ (c_J9_floorDiv_f86c9 l C (lN ((bw b) * (bs b 0))) (lN 100) (by decide)) (va_cwS 2 hts gX0_pullOnce_J9_floorDiv_f86c9 rfl rfl rfl (by decide +kernel) ⟨Nat.le_of_ble_eq_true rfl, Nat.le_of_ble_eq_true rfl⟩) hK hP hD hS hA [] (by decide) rfl rfl hl.1 rfl (Nat.le_of_ble_eq_true rfl) dX0_pullOnce_98 (Nat.zero_le _) (Nat.zero_le _) (fun r w1 H locs hQ hP hD hS => ?_)
    obtain ⟨rfl, rfl⟩ := hQ
    refine W.eq (g2 := F0 m 101 ls [.long (fdv (lN ((bw b) * (bs b 0))) (lN 100)), .ref (a 0)]) rfl ?_
    refine q_tl (y := lN (((bw b) * (bs b 0)) / 100)) (fdv_N (by omega) (by decide) (by decide)) ?_
    refine va_put (ci := 0) (v := .long (lN (((bw b) * (bs b 0)) / 100))) (ty := .long) (C := RX0) (T := TX0) (N := 12) hx hb hts hin0 tyX0 tyX0_ok nmX0 hown hK.1 hP hD hS 0 rfl rfl 10 (by decide) hf39 (fun _ h9 => h9) rfl (by decide +kernel) rfl rfl (Nat.le_of_ble_eq_true rfl) dX0_pullOnce_101 (fun H locs hP hD hS => ?_)
    have hP : va_P C.1 vwCl ([(a 0, .inr (0, [.ref (a 1), .ref (a 2), .ref (a 3), .ref (a 4), .ref (a 5), .ref (a 6), .ref (a 7), .int (nI (if othB b arm = true then bx b + 1 else bx b)), .int (nI (bl b) - 1), .long ((br b) + (fdv ((if othB b arm = true then lN (1000 * bg b (4 * arm + bp b arm)) - lN (1000 * bs b 2) else lN (1000 * bg b (4 * arm + bp b arm))) * (lN (bw b))) (lN 1000000))), .long (lN (((bw b) * (bs b 0)) / 100)), .long (bz b)])), (a 1, .inl (C.2.1, 16, .inl (fun k => nI (bg b k)))), (a 2, .inl (C.2.1, 16, .inl (fun k => nI (bo b k)))), (a 3, .inl (C.2.1, 16, .inl (fun k => nI (bb b k)))), (a 4, .inl (C.2.1, 16, .inl (fun k => nI (bc b k)))), (a 5, .inl (C.2.1, 4, .inl (fun k => nI (bp b k)))), (a 6, .inl (C.2.1, 4, .inl (fun k => nI (bu b k)))), (a 7, .inl (C.2.1, 4, .inl (fun k => nI (bs b k))))]) H := hP
    have hD : va_D (q_A (wB C a b) s) ([(a 0, .inr (0, [.ref (a 1), .ref (a 2), .ref (a 3), .ref (a 4), .ref (a 5), .ref (a 6), .ref (a 7), .int (nI (if othB b arm = true then bx b + 1 else bx b)), .int (nI (bl b) - 1), .long ((br b) + (fdv ((if othB b arm = true then lN (1000 * bg b (4 * arm + bp b arm)) - lN (1000 * bs b 2) else lN (1000 * bg b (4 * arm + bp b arm))) * (lN (bw b))) (lN 1000000))), .long (lN (((bw b) * (bs b 0)) / 100)), .long (bz b)])), (a 1, .inl (C.2.1, 16, .inl (fun k => nI (bg b k)))), (a 2, .inl (C.2.1, 16, .inl (fun k => nI (bo b k)))), (a 3, .inl (C.2.1, 16, .inl (fun k => nI (bb b k)))), (a 4, .inl (C.2.1, 16, .inl (fun k => nI (bc b k)))), (a 5, .inl (C.2.1, 4, .inl (fun k => nI (bp b k)))), (a 6, .inl (C.2.1, 4, .inl (fun k => nI (bu b k)))), (a 7, .inl (C.2.1, 4, .inl (fun k => nI (bs b k))))]) := hD
    refine lv_aload_n hx hb dX0_pullOnce_104 rfl (lv_at hl 1 rfl) ?_
    refine lv_iload_n hx hb dX0_pullOnce_105 rfl (lv_at hl 2 rfl) ?_
    refine va_put (ci := 0) (v := .int (nI arm)) (ty := .int) (C := RX0) (T := TX0) (N := 12) hx hb hts hin0 tyX0 tyX0_ok nmX0 hown hK.1 hP hD hS 0 rfl rfl 8 (by decide) hf33 (fun _ h9 => h9) rfl (by decide +kernel) rfl rfl (Nat.le_of_ble_eq_true rfl) dX0_pullOnce_106 (fun H locs hP hD hS => ?_)
    have hP : va_P C.1 vwCl ([(a 0, .inr (0, [.ref (a 1), .ref (a 2), .ref (a 3), .ref (a 4), .ref (a 5), .ref (a 6), .ref (a 7), .int (nI (if othB b arm = true then bx b + 1 else bx b)), .int (nI arm), .long ((br b) + (fdv ((if othB b arm = true then lN (1000 * bg b (4 * arm + bp b arm)) - lN (1000 * bs b 2) else lN (1000 * bg b (4 * arm + bp b arm))) * (lN (bw b))) (lN 1000000))), .long (lN (((bw b) * (bs b 0)) / 100)), .long (bz b)])), (a 1, .inl (C.2.1, 16, .inl (fun k => nI (bg b k)))), (a 2, .inl (C.2.1, 16, .inl (fun k => nI (bo b k)))), (a 3, .inl (C.2.1, 16, .inl (fun k => nI (bb b k)))), (a 4, .inl (C.2.1, 16, .inl (fun k => nI (bc b k)))), (a 5, .inl (C.2.1, 4, .inl (fun k => nI (bp b k)))), (a 6, .inl (C.2.1, 4, .inl (fun k => nI (bu b k)))), (a 7, .inl (C.2.1, 4, .inl (fun k => nI (bs b k))))]) H := hP
    have hD : va_D (q_A (wB C a b) s) ([(a 0, .inr (0, [.ref (a 1), .ref (a 2), .ref (a 3), .ref (a 4), .ref (a 5), .ref (a 6), .ref (a 7), .int (nI (if othB b arm = true then bx b + 1 else bx b)), .int (nI arm), .long ((br b) + (fdv ((if othB b arm = true then lN (1000 * bg b (4 * arm + bp b arm)) - lN (1000 * bs b 2) else lN (1000 * bg b (4 * arm + bp b arm))) * (lN (bw b))) (lN 1000000))), .long (lN (((bw b) * (bs b 0)) / 100)), .long (bz b)])), (a 1, .inl (C.2.1, 16, .inl (fun k => nI (bg b k)))), (a 2, .inl (C.2.1, 16, .inl (fun k => nI (bo b k)))), (a 3, .inl (C.2.1, 16, .inl (fun k => nI (bb b k)))), (a 4, .inl (C.2.1, 16, .inl (fun k => nI (bc b k)))), (a 5, .inl (C.2.1, 4, .inl (fun k => nI (bp b k)))), (a 6, .inl (C.2.1, 4, .inl (fun k => nI (bu b k)))), (a 7, .inl (C.2.1, 4, .inl (fun k => nI (bs b k))))]) := hD
    refine lv_aload_n hx hb dX0_pullOnce_109 rfl (lv_at hl 1 rfl) ?_
    refine va_get (ci := 0) (v := .ref (a 6)) (C := RX0) (T := TX0) (N := 12) hx hb hts hin0 hown hK.1 hP 0 rfl rfl 5 (by decide) hf27 (fun _ h9 => h9) rfl dX0_pullOnce_110 ?_
    refine lv_iload_n hx hb dX0_pullOnce_113 rfl (lv_at hl 2 rfl) ?_
    refine lv_aload_n hx hb dX0_pullOnce_114 rfl (lv_at hl 1 rfl) ?_
    refine va_get (ci := 0) (v := .ref (a 6)) (C := RX0) (T := TX0) (N := 12) hx hb hts hin0 hown hK.1 hP 0 rfl rfl 5 (by decide) hf27 (fun _ h9 => h9) rfl dX0_pullOnce_115 ?_
    refine lv_iload_n hx hb dX0_pullOnce_118 rfl (lv_at hl 2 rfl) ?_
    refine q_N (As := [.ref (a 6), .int (nI arm)]) (rest := [.int (nI arm), .ref (a 6)]) ⟨hx, hb, hml, hown, hts⟩ (c_X4_at l C (a 6) 4 arm (fun k => nI (bu b k)) (by omega) (by decide)) ⟨va_cnB 2 hts gX0_pullOnce_X4_at_n62 rfl rfl rfl (q_nw hK 1 rfl) (hts (.initialized RX4) (by decide +kernel)) (by decide +kernel) ⟨Nat.le_of_ble_eq_true rfl, Nat.le_of_ble_eq_true rfl⟩, hts (.static yX4_at) (by decide +kernel), trivial⟩ hK hP hD hS hA [6] (by decide) rfl rfl hl.1 rfl (Nat.le_of_ble_eq_true rfl) dX0_pullOnce_119 (Nat.zero_le _) (Nat.zero_le _) (fun r w1 H locs hQ hP hD hS => ?_)
    obtain ⟨rfl, rfl⟩ := hQ
    have hP : va_P C.1 vwCl ([(a 0, .inr (0, [.ref (a 1), .ref (a 2), .ref (a 3), .ref (a 4), .ref (a 5), .ref (a 6), .ref (a 7), .int (nI (if othB b arm = true then bx b + 1 else bx b)), .int (nI arm), .long ((br b) + (fdv ((if othB b arm = true then lN (1000 * bg b (4 * arm + bp b arm)) - lN (1000 * bs b 2) else lN (1000 * bg b (4 * arm + bp b arm))) * (lN (bw b))) (lN 1000000))), .long (lN (((bw b) * (bs b 0)) / 100)), .long (bz b)])), (a 1, .inl (C.2.1, 16, .inl (fun k => nI (bg b k)))), (a 2, .inl (C.2.1, 16, .inl (fun k => nI (bo b k)))), (a 3, .inl (C.2.1, 16, .inl (fun k => nI (bb b k)))), (a 4, .inl (C.2.1, 16, .inl (fun k => nI (bc b k)))), (a 5, .inl (C.2.1, 4, .inl (fun k => nI (bp b k)))), (a 6, .inl (C.2.1, 4, .inl (fun k => nI (bu b k)))), (a 7, .inl (C.2.1, 4, .inl (fun k => nI (bs b k))))]) H := hP
    have hD : va_D (q_A (wB C a b) s) ([(a 0, .inr (0, [.ref (a 1), .ref (a 2), .ref (a 3), .ref (a 4), .ref (a 5), .ref (a 6), .ref (a 7), .int (nI (if othB b arm = true then bx b + 1 else bx b)), .int (nI arm), .long ((br b) + (fdv ((if othB b arm = true then lN (1000 * bg b (4 * arm + bp b arm)) - lN (1000 * bs b 2) else lN (1000 * bg b (4 * arm + bp b arm))) * (lN (bw b))) (lN 1000000))), .long (lN (((bw b) * (bs b 0)) / 100)), .long (bz b)])), (a 1, .inl (C.2.1, 16, .inl (fun k => nI (bg b k)))), (a 2, .inl (C.2.1, 16, .inl (fun k => nI (bo b k)))), (a 3, .inl (C.2.1, 16, .inl (fun k => nI (bb b k)))), (a 4, .inl (C.2.1, 16, .inl (fun k => nI (bc b k)))), (a 5, .inl (C.2.1, 4, .inl (fun k => nI (bp b k)))), (a 6, .inl (C.2.1, 4, .inl (fun k => nI (bu b k)))), (a 7, .inl (C.2.1, 4, .inl (fun k => nI (bs b k))))]) := hD
    refine W.eq (g2 := F0 m 122 ls [.int (nI (bu b arm)), .int (nI arm), .ref (a 6)]) rfl ?_
    refine lv_iconst (v := nI 1) hx hb dX0_pullOnce_122 (by decide) ?_
    refine lv_iadd hx hb dX0_pullOnce_123 ?_
    refine q_ti (y := nI ((bu b arm) + 1)) (nI_add _ _) ?_
    refine q_N (As := [.ref (a 6), .int (nI arm), .int (nI ((bu b arm) + 1))]) (rest := []) ⟨hx, hb, hml, hown, hts⟩ (c_X4_store l C (a 6) 4 arm (fun k => nI (bu b k)) (nI ((bu b arm) + 1)) (by omega) (by decide)) ⟨va_cnB 3 hts gX0_pullOnce_X4_store_n58 rfl rfl rfl (q_nw hK 0 rfl) (hts (.initialized RX4) (by decide +kernel)) (by decide +kernel) ⟨Nat.le_of_ble_eq_true rfl, Nat.le_of_ble_eq_true rfl⟩, hts (.static yX4_store) (by decide +kernel), trivial⟩ hK hP hD hS hA [6] (by decide) rfl rfl hl.1 rfl (Nat.le_of_ble_eq_true rfl) dX0_pullOnce_124 (Nat.zero_le _) (Nat.zero_le _) (fun r w1 H locs hQ hP hD hS => ?_)
    obtain ⟨rfl, rfl⟩ := hQ
    rw [q_upd] at hP hD
    have hP : va_P C.1 vwCl ([(a 0, .inr (0, [.ref (a 1), .ref (a 2), .ref (a 3), .ref (a 4), .ref (a 5), .ref (a 6), .ref (a 7), .int (nI (if othB b arm = true then bx b + 1 else bx b)), .int (nI arm), .long ((br b) + (fdv ((if othB b arm = true then lN (1000 * bg b (4 * arm + bp b arm)) - lN (1000 * bs b 2) else lN (1000 * bg b (4 * arm + bp b arm))) * (lN (bw b))) (lN 1000000))), .long (lN (((bw b) * (bs b 0)) / 100)), .long (bz b)])), (a 1, .inl (C.2.1, 16, .inl (fun k => nI (bg b k)))), (a 2, .inl (C.2.1, 16, .inl (fun k => nI (bo b k)))), (a 3, .inl (C.2.1, 16, .inl (fun k => nI (bb b k)))), (a 4, .inl (C.2.1, 16, .inl (fun k => nI (bc b k)))), (a 5, .inl (C.2.1, 4, .inl (fun k => nI (bp b k)))), (a 6, .inl (C.2.1, 4, .inl (fun k => nI (upN (bu b) arm ((bu b arm) + 1) k)))), (a 7, .inl (C.2.1, 4, .inl (fun k => nI (bs b k))))]) H := hP
    have hD : va_D (q_A (wB C a b) s) ([(a 0, .inr (0, [.ref (a 1), .ref (a 2), .ref (a 3), .ref (a 4), .ref (a 5), .ref (a 6), .ref (a 7), .int (nI (if othB b arm = true then bx b + 1 else bx b)), .int (nI arm), .long ((br b) + (fdv ((if othB b arm = true then lN (1000 * bg b (4 * arm + bp b arm)) - lN (1000 * bs b 2) else lN (1000 * bg b (4 * arm + bp b arm))) * (lN (bw b))) (lN 1000000))), .long (lN (((bw b) * (bs b 0)) / 100)), .long (bz b)])), (a 1, .inl (C.2.1, 16, .inl (fun k => nI (bg b k)))), (a 2, .inl (C.2.1, 16, .inl (fun k => nI (bo b k)))), (a 3, .inl (C.2.1, 16, .inl (fun k => nI (bb b k)))), (a 4, .inl (C.2.1, 16, .inl (fun k => nI (bc b k)))), (a 5, .inl (C.2.1, 4, .inl (fun k => nI (bp b k)))), (a 6, .inl (C.2.1, 4, .inl (fun k => nI (upN (bu b) arm ((bu b arm) + 1) k)))), (a 7, .inl (C.2.1, 4, .inl (fun k => nI (bs b k))))]) := hD
    refine W.eq (g2 := F0 m 127 ls []) rfl ?_
    rw [← nI_pred arm] at hP hD
    have hP : va_P C.1 vwCl (wB C a (pul0 b arm)) H := hP
    have hD : va_D (q_A (wB C a b) s) (wB C a (pul0 b arm)) := hD
    refine lv_aload_n hx hb dX0_pullOnce_127 rfl (lv_at hl 1 rfl) ?_
    refine lv_iload_n hx hb dX0_pullOnce_128 rfl (lv_at hl 2 rfl) ?_
    refine q_V (As := [.int (nI arm)]) (rest := []) ⟨hx, hb, hml, hown, hts⟩ (c_X0_goOn l C a (pul0 b arm) arm hB1 (by omega)) (cwV 1 hts gX0_pullOnce_X0_goOn rfl rfl rfl (by decide +kernel) ⟨Nat.le_of_ble_eq_true rfl, Nat.le_of_ble_eq_true rfl⟩) hK hP hD hS hA [0, 1, 2, 3, 4, 5, 6, 7] (by decide) rfl 0 rfl rfl rfl rfl hl.1 rfl (Nat.le_of_ble_eq_true rfl) dX0_pullOnce_129 (Nat.zero_le _) (Nat.zero_le _) (fun r w1 H locs hQ hP hD hS => ?_)
    obtain ⟨rfl, rfl⟩ := hQ
    have hP : va_P C.1 vwCl (wB C a (goB (pul0 b arm) arm)) H := hP
    have hD : va_D (q_A (wB C a b) s) (wB C a (goB (pul0 b arm) arm)) := hD
    refine W.eq (g2 := F0 m 132 ls []) rfl ?_
    refine lv_aload_n hx hb dX0_pullOnce_132 rfl (lv_at hl 1 rfl) ?_
    refine va_get (ci := 0) (v := .ref (a 7)) (C := RX0) (T := TX0) (N := 12) hx hb hts hin0 hown hK.1 hP 0 rfl rfl 6 (by decide) hf30 (fun _ h9 => h9) rfl dX0_pullOnce_133 ?_
    refine lv_iconst (v := nI 3) hx hb dX0_pullOnce_136 (by decide) ?_
    refine q_N (As := [.ref (a 7), .int (nI 3)]) (rest := []) ⟨hx, hb, hml, hown, hts⟩ (c_X4_at l C (a 7) 4 3 (fun k => nI (bs (goB (pul0 b arm) arm) k)) (by decide) (by decide)) ⟨va_cnB 2 hts gX0_pullOnce_X4_at_n62 rfl rfl rfl (q_nw hK 1 rfl) (hts (.initialized RX4) (by decide +kernel)) (by decide +kernel) ⟨Nat.le_of_ble_eq_true rfl, Nat.le_of_ble_eq_true rfl⟩, hts (.static yX4_at) (by decide +kernel), trivial⟩ hK hP hD hS hA [7] (by decide) rfl rfl hl.1 rfl (Nat.le_of_ble_eq_true rfl) dX0_pullOnce_137 (Nat.zero_le _) (Nat.zero_le _) (fun r w1 H locs hQ hP hD hS => ?_)
    obtain ⟨rfl, rfl⟩ := hQ
    have hP : va_P C.1 vwCl (wB C a (goB (pul0 b arm) arm)) H := hP
    have hD : va_D (q_A (wB C a b) s) (wB C a (goB (pul0 b arm) arm)) := hD
    refine W.eq (g2 := F0 m 140 ls [.int (nI (bs (goB (pul0 b arm) arm) 3))]) rfl ?_
    refine lv_iconst (v := nI 1) hx hb dX0_pullOnce_140 (by decide) ?_
    refine lv_icmp_ne (tgt := 171) hx hb dX0_pullOnce_141 (by decide) (fun c141 => ?_) (fun c141 => ?_)
    · have c141 : (bs (goB (pul0 b arm) arm) 3) ≠ 1 := q_nne (by omega) (by omega) c141
      exact q_vret hx hb hr hlocks (w1 := wB C a (goB (pul0 b arm) arm)) hP hS rfl dX0_pullOnce_171 (⟨rfl, congrArg (wB C a) (by rw [pulB, if_neg (show ¬ bs b 3 = 1 from c141)])⟩)
    · have c141 : (bs (goB (pul0 b arm) arm) 3) = 1 := q_nne' (by omega) (by omega) c141
      refine lv_iconst (v := nI 0) hx hb dX0_pullOnce_144 (by decide) ?_
      refine lv_istore (lv' := [(4, .int (nI 0)), (2, .long (if othB b arm = true then lN (1000 * bg b (4 * arm + bp b arm)) - lN (1000 * bs b 2) else lN (1000 * bg b (4 * arm + bp b arm)))), (0, .ref (a 0)), (1, .int (nI arm))]) hx hb dX0_pullOnce_145 hl (by decide) rfl (fun ls hl => ?_)
      have K147 : ∀ (n147 i147 : Nat), i147 ≤ 4 → 4 + 1 ≤ i147 + n147 → ∀ (H : Heap) (locs : List Loc) (ls : Array Slot), va_P C.1 vwCl (wB C a (restN (goB (pul0 b arm) arm) arm i147)) H → va_D (q_A (wB C a b) s) (wB C a (restN (goB (pul0 b arm) arm) arm i147)) → va_S (q_A (wB C a b) s) s.heap H locs → lv_has ls 5 [(4, .int (nI i147)), (0, .ref (a 0)), (1, .int (nI arm))] → W p l e (q_R 2 45) s m ([.ref (a 0), .int (nI arm)] : List Value).toArray below meth c H locs 0 0 (q_G C below (wB C a b) (fun r w => r = none ∧ w = wB C a (pulB b arm)) ([.ref (a 0), .int (nI arm)] : List Value).toArray s) (F0 m 147 ls []) := by
        intro n147
        induction n147 with
        | zero => intro i147  q1 q2; exact absurd q2 (by omega)
        | succ n147 ih147 =>
          intro i147  hi147 hn147  H locs ls hP hD hS hl
          refine lv_iload hx hb dX0_pullOnce_147 (lv_at hl 0 rfl) ?_
          refine lv_iconst (v := nI 4) hx hb dX0_pullOnce_149 (by decide) ?_
          refine lv_icmp_ge (tgt := 171) hx hb dX0_pullOnce_150 (by decide) (fun c150 => ?_) (fun c150 => ?_)
          · have c150 : 4 ≤ i147 := q_nge (by omega) (by omega) c150
            exact q_vret hx hb hr hlocks (w1 := wB C a (restN (goB (pul0 b arm) arm) arm i147)) hP hS rfl dX0_pullOnce_171 (⟨rfl, congrArg (wB C a) (by rw [pulB, if_pos (show bs b 3 = 1 from c141), show i147 = 4 by omega])⟩)
          · have c150 : i147 < 4 := q_nge' (by omega) (by omega) c150
            refine lv_iload hx hb dX0_pullOnce_153 (lv_at hl 0 rfl) ?_
            refine lv_iload_n hx hb dX0_pullOnce_155 rfl (lv_at hl 2 rfl) ?_
            refine lv_icmp_eq (tgt := 165) hx hb dX0_pullOnce_156 (by decide) (fun c156 => ?_) (fun c156 => ?_)
            · have c156 : i147 = arm := q_neq (by omega) (by omega) c156
              rw [← restN_0 c156] at hP hD
              have hP : va_P C.1 vwCl (wB C a (restN (goB (pul0 b arm) arm) arm (i147 + 1))) H := hP
              have hD : va_D (q_A (wB C a b) s) (wB C a (restN (goB (pul0 b arm) arm) arm (i147 + 1))) := hD
              refine lv_iinc (v := nI (i147 + 1)) (lv' := [(4, .int (nI (i147 + 1))), (0, .ref (a 0)), (1, .int (nI arm))]) hx hb dX0_pullOnce_165 hl (k := 0) rfl (nI_1 _) (by decide) rfl (fun ls hl => ?_)
              refine lv_goto (tgt := 147) hx hb dX0_pullOnce_168 (by decide) ?_
              exact ih147 (i147 + 1)  (by omega) (by omega)  _ _ ls hP hD hS (lv_sub hl [0, 1, 2] rfl)
            · have c156 : i147 ≠ arm := q_neq' (by omega) (by omega) c156
              refine lv_aload_n hx hb dX0_pullOnce_159 rfl (lv_at hl 1 rfl) ?_
              refine lv_iload hx hb dX0_pullOnce_160 (lv_at hl 0 rfl) ?_
              refine q_V (As := [.int (nI i147)]) (rest := []) ⟨hx, hb, hml, hown, hts⟩ (c_X0_goOn l C a (restN (goB (pul0 b arm) arm) arm i147) i147 (okB_restN hB2 arm i147 (by omega)) (by omega)) (cwV 1 hts gX0_pullOnce_X0_goOn rfl rfl rfl (by decide +kernel) ⟨Nat.le_of_ble_eq_true rfl, Nat.le_of_ble_eq_true rfl⟩) hK hP hD hS hA [0, 1, 2, 3, 4, 5, 6, 7] (by decide) rfl 0 rfl rfl rfl rfl hl.1 rfl (Nat.le_of_ble_eq_true rfl) dX0_pullOnce_162 (Nat.zero_le _) (Nat.zero_le _) (fun r w1 H locs hQ hP hD hS => ?_)
              obtain ⟨rfl, rfl⟩ := hQ
              have hP : va_P C.1 vwCl (wB C a (goB (restN (goB (pul0 b arm) arm) arm i147) i147)) H := hP
              have hD : va_D (q_A (wB C a b) s) (wB C a (goB (restN (goB (pul0 b arm) arm) arm i147) i147)) := hD
              refine W.eq (g2 := F0 m 165 ls []) rfl ?_
              rw [← restN_1 c156] at hP hD
              have hP : va_P C.1 vwCl (wB C a (restN (goB (pul0 b arm) arm) arm (i147 + 1))) H := hP
              have hD : va_D (q_A (wB C a b) s) (wB C a (restN (goB (pul0 b arm) arm) arm (i147 + 1))) := hD
              refine lv_iinc (v := nI (i147 + 1)) (lv' := [(4, .int (nI (i147 + 1))), (0, .ref (a 0)), (1, .int (nI arm))]) hx hb dX0_pullOnce_165 hl (k := 0) rfl (nI_1 _) (by decide) rfl (fun ls hl => ?_)
              refine lv_goto (tgt := 147) hx hb dX0_pullOnce_168 (by decide) ?_
              exact ih147 (i147 + 1)  (by omega) (by omega)  _ _ ls hP hD hS (lv_sub hl [0, 1, 2] rfl)
      exact K147 (4 + 1 - 0) 0  (by omega) (by omega)  _ _ ls hP hD hS (lv_sub hl [0, 2, 3] rfl)
  refine lv_if_eq (tgt := 59) hx hb dX0_pullOnce_30 (by decide) (fun c30 => ?_) (fun c30 => ?_)
  · have c30 : othB b arm = false := q_b0.mp c30
    exact J59 _ _ ls (by rw [c30]; exact hP) (by rw [c30]; exact hD) hS (by rw [c30]; exact (lv_sub hl [0, 1, 2] rfl))
  · have c30 : othB b arm = true := q_b1.mp c30
    refine lv_lload_n hx hb dX0_pullOnce_33 rfl (lv_at hl 0 rfl) ?_
    refine lv_ldc2 hx hb hown hk72 dX0_pullOnce_34 ?_
    refine q_tl (y := lN 1000) (by decide) ?_
    refine lv_aload_n hx hb dX0_pullOnce_37 rfl (lv_at hl 1 rfl) ?_
    refine va_get (ci := 0) (v := .ref (a 7)) (C := RX0) (T := TX0) (N := 12) hx hb hts hin0 hown hK.1 hP 0 rfl rfl 6 (by decide) hf30 (fun _ h9 => h9) rfl dX0_pullOnce_38 ?_
    refine lv_iconst (v := nI 2) hx hb dX0_pullOnce_41 (by decide) ?_
    refine q_N (As := [.ref (a 7), .int (nI 2)]) (rest := [.long (lN 1000), .long (lN (1000 * (bg b (4 * arm + (bp b arm)))))]) ⟨hx, hb, hml, hown, hts⟩ (c_X4_at l C (a 7) 4 2 (fun k => nI (bs b k)) (by decide) (by decide)) ⟨va_cnB 2 hts gX0_pullOnce_X4_at_n62 rfl rfl rfl (q_nw hK 1 rfl) (hts (.initialized RX4) (by decide +kernel)) (by decide +kernel) ⟨Nat.le_of_ble_eq_true rfl, Nat.le_of_ble_eq_true rfl⟩, hts (.static yX4_at) (by decide +kernel), trivial⟩ hK hP hD hS hA [7] (by decide) rfl rfl hl.1 rfl (Nat.le_of_ble_eq_true rfl) dX0_pullOnce_42 (Nat.zero_le _) (Nat.zero_le _) (fun r w1 H locs hQ hP hD hS => ?_)
    obtain ⟨rfl, rfl⟩ := hQ
    have hP : va_P C.1 vwCl (wB C a b) H := hP
    have hD : va_D (q_A (wB C a b) s) (wB C a b) := hD
    refine W.eq (g2 := F0 m 45 ls [.int (nI (bs b 2)), .long (lN 1000), .long (lN (1000 * (bg b (4 * arm + (bp b arm)))))]) rfl ?_
    refine lv_i2l (v := lN (bs b 2)) hx hb dX0_pullOnce_45 (nI_l (by omega)) ?_
    refine lv_lmul hx hb dX0_pullOnce_46 ?_
    refine q_tl (y := lN (1000 * (bs b 2))) (lN_mul _ _) ?_
    refine lv_lsub hx hb dX0_pullOnce_47 ?_
    refine lv_lstore_n (lv' := [(2, .long ((lN (1000 * (bg b (4 * arm + (bp b arm))))) - (lN (1000 * (bs b 2))))), (0, .ref (a 0)), (1, .int (nI arm))]) hx hb dX0_pullOnce_48 rfl hl (by decide) rfl (fun ls hl => ?_)
    refine lv_aload_n hx hb dX0_pullOnce_49 rfl (lv_at hl 1 rfl) ?_
    refine lv_dup hx hb dX0_pullOnce_50 rfl ?_
    refine va_get (ci := 0) (v := .int (nI (bx b))) (C := RX0) (T := TX0) (N := 12) hx hb hts hin0 hown hK.1 hP 0 rfl rfl 7 (by decide) hf52 (fun _ h9 => h9) rfl dX0_pullOnce_51 ?_
    refine lv_iconst (v := nI 1) hx hb dX0_pullOnce_54 (by decide) ?_
    refine lv_iadd hx hb dX0_pullOnce_55 ?_
    refine q_ti (y := nI ((bx b) + 1)) (nI_add _ _) ?_
    refine va_put (ci := 0) (v := .int (nI ((bx b) + 1))) (ty := .int) (C := RX0) (T := TX0) (N := 12) hx hb hts hin0 tyX0 tyX0_ok nmX0 hown hK.1 hP hD hS 0 rfl rfl 7 (by decide) hf52 (fun _ h9 => h9) rfl (by decide +kernel) rfl rfl (Nat.le_of_ble_eq_true rfl) dX0_pullOnce_56 (fun H locs hP hD hS => ?_)
    have hP : va_P C.1 vwCl ([(a 0, .inr (0, [.ref (a 1), .ref (a 2), .ref (a 3), .ref (a 4), .ref (a 5), .ref (a 6), .ref (a 7), .int (nI ((bx b) + 1)), .int (nI (bl b) - 1), .long (br b), .long (lN (bw b)), .long (bz b)])), (a 1, .inl (C.2.1, 16, .inl (fun k => nI (bg b k)))), (a 2, .inl (C.2.1, 16, .inl (fun k => nI (bo b k)))), (a 3, .inl (C.2.1, 16, .inl (fun k => nI (bb b k)))), (a 4, .inl (C.2.1, 16, .inl (fun k => nI (bc b k)))), (a 5, .inl (C.2.1, 4, .inl (fun k => nI (bp b k)))), (a 6, .inl (C.2.1, 4, .inl (fun k => nI (bu b k)))), (a 7, .inl (C.2.1, 4, .inl (fun k => nI (bs b k))))]) H := hP
    have hD : va_D (q_A (wB C a b) s) ([(a 0, .inr (0, [.ref (a 1), .ref (a 2), .ref (a 3), .ref (a 4), .ref (a 5), .ref (a 6), .ref (a 7), .int (nI ((bx b) + 1)), .int (nI (bl b) - 1), .long (br b), .long (lN (bw b)), .long (bz b)])), (a 1, .inl (C.2.1, 16, .inl (fun k => nI (bg b k)))), (a 2, .inl (C.2.1, 16, .inl (fun k => nI (bo b k)))), (a 3, .inl (C.2.1, 16, .inl (fun k => nI (bb b k)))), (a 4, .inl (C.2.1, 16, .inl (fun k => nI (bc b k)))), (a 5, .inl (C.2.1, 4, .inl (fun k => nI (bp b k)))), (a 6, .inl (C.2.1, 4, .inl (fun k => nI (bu b k)))), (a 7, .inl (C.2.1, 4, .inl (fun k => nI (bs b k))))]) := hD
    exact J59 _ _ ls (by rw [c30]; exact hP) (by rw [c30]; exact hD) hS (by rw [c30]; exact (lv_sub hl [0, 1, 2] rfl))
