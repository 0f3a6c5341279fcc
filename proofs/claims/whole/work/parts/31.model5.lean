/-! the model: a pull, worths, choices, plays -/
set_option maxHeartbeats 4000000 in
set_option maxRecDepth 100000 in
theorem c_X5_pulls (l : Launch) (C : q_C) (sa : Nat) (b : Bd) (arm : Nat) (hB : OkB b) (ha : arm < 4) : q_M C l yX5_pulls wsX5_pulls 2 46 [.ref sa, .int (nI arm)] ([(sa, .inl (C.2.2.1, 82, .inr (.inl (mB b))))]) (fun r w1 => r = none ∧ w1 = [(sa, .inl (C.2.2.1, 82, .inr (.inl (mB (pulB b arm)))))]) := by
  obtain ⟨ok1, ok2, ⟨ok3, ok4, ok5, ok6, ok7⟩, ok8, ok9⟩ := id hB
  have hp4 := ok2 arm ha
  have h16 := ok1 (4 * arm + bp b arm) (by omega)
  have hwd : bw b * bs b 0 ≤ 1000000 * 99 := Nat.mul_le_mul ok9 ok3
  have hB1 := okB_erl hB arm
  have hB2 := okB_goB hB1 arm ha
  have hbs3 : ∀ k, bs (restN (goB (erl b arm) arm) arm k) 3 = bs b 3 := fun k => congrFun (bs_restN (goB (erl b arm) arm) arm k) 3
  refine q_head (cc := cX5_pulls) (maxL := 6) (ret := none) (by decide +kernel) rfl (Nat.le_of_ble_eq_true rfl) ?_
  intro p e s m below meth c hx hb hr hlocks hml hown hts hK hP hD hS hA ls hl
  have hl : lv_has ls 6 [(0, .ref sa), (1, .int (nI arm))] := hl
  have hk38 := hts (.constantLong RX5 38 (1000000)) (by decide +kernel)
  have hk63 := hts (.constantLong RX5 63 (1000)) (by decide +kernel)
  have hk69 := hts (.constantLong RX5 69 (100)) (by decide +kernel)
  refine lv_aload_n hx hb dX5_pulls_0 rfl (lv_at hl 0 rfl) ?_
  refine lv_iload_n hx hb dX5_pulls_1 rfl (lv_at hl 1 rfl) ?_
  refine q_S (As := [.ref sa, .int (nI arm)]) (rest := []) ⟨hx, hb, hml, hown, hts⟩ (c_X5_isOther l C sa b arm hB (by omega)) (va_cwS 2 hts gX5_pulls_X5_isOther rfl rfl rfl (by decide +kernel) ⟨Nat.le_of_ble_eq_true rfl, Nat.le_of_ble_eq_true rfl⟩) hK hP hD hS hA [0] (by decide) rfl rfl hl.1 rfl (Nat.le_of_ble_eq_true rfl) dX5_pulls_2 (Nat.zero_le _) (Nat.zero_le _) (fun r w1 H locs hQ hP hD hS => ?_)
  obtain ⟨rfl, rfl⟩ := hQ
  have hP : va_P C.1 vwCl ([(sa, .inl (C.2.2.1, 82, .inr (.inl (mB b))))]) H := hP
  have hD : va_D (q_A ([(sa, .inl (C.2.2.1, 82, .inr (.inl (mB b))))]) s) ([(sa, .inl (C.2.2.1, 82, .inr (.inl (mB b))))]) := hD
  refine W.eq (g2 := F0 m 5 ls [.int (q_b (othB b arm))]) rfl ?_
  refine lv_istore_n (lv' := [(2, .int (q_b (othB b arm))), (0, .ref sa), (1, .int (nI arm))]) hx hb dX5_pulls_5 rfl hl (by decide) rfl (fun ls hl => ?_)
  refine lv_ldc2 hx hb hown hk63 dX5_pulls_6 ?_
  refine q_tl (y := lN 1000) (by decide) ?_
  refine lv_aload_n hx hb dX5_pulls_9 rfl (lv_at hl 1 rfl) ?_
  refine lv_iload_n hx hb dX5_pulls_10 rfl (lv_at hl 2 rfl) ?_
  refine lv_aload_n hx hb dX5_pulls_11 rfl (lv_at hl 1 rfl) ?_
  refine lv_iload_n hx hb dX5_pulls_12 rfl (lv_at hl 2 rfl) ?_
  refine q_S (As := [.ref sa, .int (nI arm)]) (rest := [.int (nI arm), .ref sa, .long (lN 1000)]) ⟨hx, hb, hml, hown, hts⟩ (c_X5_stands l C sa b arm (by omega)) (va_cwS 2 hts gX5_pulls_X5_stands rfl rfl rfl (by decide +kernel) ⟨Nat.le_of_ble_eq_true rfl, Nat.le_of_ble_eq_true rfl⟩) hK hP hD hS hA [0] (by decide) rfl rfl hl.1 rfl (Nat.le_of_ble_eq_true rfl) dX5_pulls_13 (Nat.zero_le _) (Nat.zero_le _) (fun r w1 H locs hQ hP hD hS => ?_)
  obtain ⟨rfl, rfl⟩ := hQ
  have hP : va_P C.1 vwCl ([(sa, .inl (C.2.2.1, 82, .inr (.inl (mB b))))]) H := hP
  have hD : va_D (q_A ([(sa, .inl (C.2.2.1, 82, .inr (.inl (mB b))))]) s) ([(sa, .inl (C.2.2.1, 82, .inr (.inl (mB b))))]) := hD
  refine W.eq (g2 := F0 m 16 ls [.int (nI (bp b arm)), .int (nI arm), .ref sa, .long (lN 1000)]) rfl ?_
  refine lv_iconst (v := nI 0) hx hb dX5_pulls_16 (by decide) ?_
  refine q_S (As := [.ref sa, .int (nI arm), .int (nI (bp b arm)), .int (nI 0)]) (rest := [.long (lN 1000)]) ⟨hx, hb, hml, hown, hts⟩ (c_X5_of l C sa b arm (bp b arm) 0 (by omega) (by omega) (by omega)) (va_cwS 4 hts gX5_pulls_X5_of rfl rfl rfl (by decide +kernel) ⟨Nat.le_of_ble_eq_true rfl, Nat.le_of_ble_eq_true rfl⟩) hK hP hD hS hA [0] (by decide) rfl rfl hl.1 rfl (Nat.le_of_ble_eq_true rfl) dX5_pulls_17 (Nat.zero_le _) (Nat.zero_le _) (fun r w1 H locs hQ hP hD hS => ?_)
  obtain ⟨rfl, rfl⟩ := hQ
  have hP : va_P C.1 vwCl ([(sa, .inl (C.2.2.1, 82, .inr (.inl (mB b))))]) H := hP
  have hD : va_D (q_A ([(sa, .inl (C.2.2.1, 82, .inr (.inl (mB b))))]) s) ([(sa, .inl (C.2.2.1, 82, .inr (.inl (mB b))))]) := hD
  refine W.eq (g2 := F0 m 20 ls [.int (nI (bg b (4 * arm + (bp b arm)))), .long (lN 1000)]) rfl ?_
  refine lv_i2l (v := lN (bg b (4 * arm + (bp b arm)))) hx hb dX5_pulls_20 (nI_l (by omega)) ?_
  refine lv_lmul hx hb dX5_pulls_21 ?_
  refine q_tl (y := lN (1000 * (bg b (4 * arm + (bp b arm))))) (lN_mul _ _) ?_
  refine lv_iload_n hx hb dX5_pulls_22 rfl (lv_at hl 0 rfl) ?_
  have J38 : ∀ (H : Heap) (locs : List Loc) (ls : Array Slot), va_P C.1 vwCl ([(sa, .inl (C.2.2.1, 82, .inr (.inl (mB b))))]) H → va_D (q_A ([(sa, .inl (C.2.2.1, 82, .inr (.inl (mB b))))]) s) ([(sa, .inl (C.2.2.1, 82, .inr (.inl (mB b))))]) → va_S (q_A ([(sa, .inl (C.2.2.1, 82, .inr (.inl (mB b))))]) s) s.heap H locs → lv_has ls 6 [(2, .int (q_b (othB b arm))), (0, .ref sa), (1, .int (nI arm))] → W p l e (q_R 2 46) s m ([.ref sa, .int (nI arm)] : List Value).toArray below meth c H locs 0 0 (q_G C below ([(sa, .inl (C.2.2.1, 82, .inr (.inl (mB b))))]) (fun r w1 => r = none ∧ w1 = [(sa, .inl (C.2.2.1, 82, .inr (.inl (mB (pulB b arm)))))]) ([.ref sa, .int (nI arm)] : List Value).toArray s) (F0 m 38 ls [.long (if othB b arm = true then lN (1000 * bg b (4 * arm + bp b arm)) - lN (1000 * bs b 2) else lN (1000 * bg b (4 * arm + bp b arm)))]) := by
    intro H locs ls hP hD hS hl
    refine lv_lstore_n (lv' := [(3, .long (if othB b arm = true then lN (1000 * bg b (4 * arm + bp b arm)) - lN (1000 * bs b 2) else lN (1000 * bg b (4 * arm + bp b arm)))), (2, .int (q_b (othB b arm))), (0, .ref sa), (1, .int (nI arm))]) hx hb dX5_pulls_38 rfl hl (by decide) rfl (fun ls hl => ?_)
    refine lv_aload_n hx hb dX5_pulls_39 rfl (lv_at hl 2 rfl) ?_
    refine lv_bipush (v := nI 7) hx hb dX5_pulls_40 (by decide) ?_
    refine lv_dup2_11 hx hb dX5_pulls_42 rfl rfl ?_
    refine q_lald (n := 7) (v := mB b 7) hx hb hK hP 0 rfl (by decide) (by decide) rfl dX5_pulls_43 ?_
    refine q_tl (y := br b) (mB_7 b) ?_
    refine lv_lload_n hx hb dX5_pulls_44 rfl (lv_at hl 0 rfl) ?_
    refine lv_aload_n hx hb dX5_pulls_45 rfl (lv_at hl 2 rfl) ?_
    refine lv_bipush (v := nI 8) hx hb dX5_pulls_46 (by decide) ?_
    refine q_lald (n := 8) (v := mB b 8) hx hb hK hP 0 rfl (by decide) (by decide) rfl dX5_pulls_48 ?_
    refine q_tl (y := lN (bw b)) (mB_8 b) ?_
    refine lv_lmul hx hb dX5_pulls_49 ?_
    refine lv_ldc2 hx hb hown hk38 dX5_pulls_50 ?_
    refine q_tl (y := lN 1000000) (by decide) ?_
    refine q_S (As := [.long ((if othB b arm = true then lN (1000 * bg b (4 * arm + bp b arm)) - lN (1000 * bs b 2) else lN (1000 * bg b (4 * arm + bp b arm))) * (lN (bw b))), .long (lN 1000000)]) (rest := [.long (br b), .int (nI 7), .ref sa]) ⟨hx, hb, hml, hown, hts⟩ (c_X5_down l C ((if othB b arm = true then lN (1000 * bg b (4 * arm + bp b arm)) - lN (1000 * bs b 2) else lN (1000 * bg b (4 * arm + bp b arm))) * (lN (bw b))) (lN 1000000) (by decide)) (va_cwS 2 hts gX5_pulls_X5_down rfl rfl rfl (by decide +kernel) ⟨Nat.le_of_ble_eq_true rfl, Nat.le_of_ble_eq_true rfl⟩) hK hP hD hS hA [] (by decide) rfl rfl hl.1 rfl (Nat.le_of_ble_eq_true rfl) dX5_pulls_53 (Nat.zero_le _) (Nat.zero_le _) (fun r w1 H locs hQ hP hD hS => ?_)
    obtain ⟨rfl, rfl⟩ := hQ
    refine W.eq (g2 := F0 m 56 ls [.long (dwn ((if othB b arm = true then lN (1000 * bg b (4 * arm + bp b arm)) - lN (1000 * bs b 2) else lN (1000 * bg b (4 * arm + bp b arm))) * (lN (bw b))) (lN 1000000)), .long (br b), .int (nI 7), .ref sa]) rfl ?_
    refine q_tl (y := fdv ((if othB b arm = true then lN (1000 * bg b (4 * arm + bp b arm)) - lN (1000 * bs b 2) else lN (1000 * bg b (4 * arm + bp b arm))) * lN (bw b)) (lN 1000000)) (dwn_fdv _) ?_
    refine lv_ladd hx hb dX5_pulls_56 ?_
    refine q_last (n := 7) hx hb hK hP hD hS 0 rfl (by decide) (by decide) dX5_pulls_57 (fun H locs hP hD hS => ?_)
    have hP : va_P C.1 vwCl ([(sa, .inl (C.2.2.1, 82, .inr (.inl (vp_updL (mB b) 7 ((br b) + (fdv ((if othB b arm = true then lN (1000 * bg b (4 * arm + bp b arm)) - lN (1000 * bs b 2) else lN (1000 * bg b (4 * arm + bp b arm))) * lN (bw b)) (lN 1000000)))))))]) H := hP
    have hD : va_D (q_A ([(sa, .inl (C.2.2.1, 82, .inr (.inl (mB b))))]) s) ([(sa, .inl (C.2.2.1, 82, .inr (.inl (vp_updL (mB b) 7 ((br b) + (fdv ((if othB b arm = true then lN (1000 * bg b (4 * arm + bp b arm)) - lN (1000 * bs b 2) else lN (1000 * bg b (4 * arm + bp b arm))) * lN (bw b)) (lN 1000000)))))))]) := hD
    rw [mB_w7] at hP hD
    have hP : va_P C.1 vwCl ([(sa, .inl (C.2.2.1, 82, .inr (.inl (mB (sr b (br b + fdv ((if othB b arm = true then lN (1000 * bg b (4 * arm + bp b arm)) - lN (1000 * bs b 2) else lN (1000 * bg b (4 * arm + bp b arm))) * lN (bw b)) (lN 1000000)))))))]) H := hP
    have hD : va_D (q_A ([(sa, .inl (C.2.2.1, 82, .inr (.inl (mB b))))]) s) ([(sa, .inl (C.2.2.1, 82, .inr (.inl (mB (sr b (br b + fdv ((if othB b arm = true then lN (1000 * bg b (4 * arm + bp b arm)) - lN (1000 * bs b 2) else lN (1000 * bg b (4 * arm + bp b arm))) * lN (bw b)) (lN 1000000)))))))]) := hD
    refine lv_aload_n hx hb dX5_pulls_58 rfl (lv_at hl 2 rfl) ?_
    refine lv_bipush (v := nI 8) hx hb dX5_pulls_59 (by decide) ?_
    refine lv_aload_n hx hb dX5_pulls_61 rfl (lv_at hl 2 rfl) ?_
    refine lv_bipush (v := nI 8) hx hb dX5_pulls_62 (by decide) ?_
    refine q_lald (n := 8) (v := mB (sr b (br b + fdv ((if othB b arm = true then lN (1000 * bg b (4 * arm + bp b arm)) - lN (1000 * bs b 2) else lN (1000 * bg b (4 * arm + bp b arm))) * lN (bw b)) (lN 1000000))) 8) hx hb hK hP 0 rfl (by decide) (by decide) rfl dX5_pulls_64 ?_
    refine q_tl (y := lN (bw b)) (mB_8 _) ?_
    refine lv_aload_n hx hb dX5_pulls_65 rfl (lv_at hl 2 rfl) ?_
    refine lv_iconst (v := nI 0) hx hb dX5_pulls_66 (by decide) ?_
    refine q_lald (n := 0) (v := mB (sr b (br b + fdv ((if othB b arm = true then lN (1000 * bg b (4 * arm + bp b arm)) - lN (1000 * bs b 2) else lN (1000 * bg b (4 * arm + bp b arm))) * lN (bw b)) (lN 1000000))) 0) hx hb hK hP 0 rfl (by decide) (by decide) rfl dX5_pulls_67 ?_
    refine q_tl (y := lN (bs b 0)) (mB_s _ (by decide)) ?_
    refine lv_lmul hx hb dX5_pulls_68 ?_
    refine q_tl (y := lN ((bw b) * (bs b 0))) (lN_mul _ _) ?_
    refine lv_ldc2 hx hb hown hk69 dX5_pulls_69 ?_
    refine q_tl (y := lN 100) (by decide) ?_
    refine lv_ldiv hx hb dX5_pulls_72 (by decide) ?_
    refine q_tl (y := lN (bw b * bs b 0 / 100)) (pk_lDiv (by omega) (by decide) (by decide)) ?_
    refine q_last (n := 8) hx hb hK hP hD hS 0 rfl (by decide) (by decide) dX5_pulls_73 (fun H locs hP hD hS => ?_)
    have hP : va_P C.1 vwCl ([(sa, .inl (C.2.2.1, 82, .inr (.inl (vp_updL (mB (sr b (br b + fdv ((if othB b arm = true then lN (1000 * bg b (4 * arm + bp b arm)) - lN (1000 * bs b 2) else lN (1000 * bg b (4 * arm + bp b arm))) * lN (bw b)) (lN 1000000)))) 8 (lN (bw b * bs b 0 / 100))))))]) H := hP
    have hD : va_D (q_A ([(sa, .inl (C.2.2.1, 82, .inr (.inl (mB b))))]) s) ([(sa, .inl (C.2.2.1, 82, .inr (.inl (vp_updL (mB (sr b (br b + fdv ((if othB b arm = true then lN (1000 * bg b (4 * arm + bp b arm)) - lN (1000 * bs b 2) else lN (1000 * bg b (4 * arm + bp b arm))) * lN (bw b)) (lN 1000000)))) 8 (lN (bw b * bs b 0 / 100))))))]) := hD
    rw [mB_w8] at hP hD
    have hP : va_P C.1 vwCl ([(sa, .inl (C.2.2.1, 82, .inr (.inl (mB (erl b arm)))))]) H := hP
    have hD : va_D (q_A ([(sa, .inl (C.2.2.1, 82, .inr (.inl (mB b))))]) s) ([(sa, .inl (C.2.2.1, 82, .inr (.inl (mB (erl b arm)))))]) := hD
    refine lv_aload_n hx hb dX5_pulls_74 rfl (lv_at hl 2 rfl) ?_
    refine lv_iload_n hx hb dX5_pulls_75 rfl (lv_at hl 3 rfl) ?_
    refine q_S (As := [.ref sa, .int (nI arm)]) (rest := []) ⟨hx, hb, hml, hown, hts⟩ (c_X5_goesOn l C sa (erl b arm) arm hB1 (by omega)) (va_cwS 2 hts gX5_pulls_X5_goesOn rfl rfl rfl (by decide +kernel) ⟨Nat.le_of_ble_eq_true rfl, Nat.le_of_ble_eq_true rfl⟩) hK hP hD hS hA [0] (by decide) rfl rfl hl.1 rfl (Nat.le_of_ble_eq_true rfl) dX5_pulls_76 (Nat.zero_le _) (Nat.zero_le _) (fun r w1 H locs hQ hP hD hS => ?_)
    obtain ⟨rfl, rfl⟩ := hQ
    have hP : va_P C.1 vwCl ([(sa, .inl (C.2.2.1, 82, .inr (.inl (mB (goB (erl b arm) arm)))))]) H := hP
    have hD : va_D (q_A ([(sa, .inl (C.2.2.1, 82, .inr (.inl (mB b))))]) s) ([(sa, .inl (C.2.2.1, 82, .inr (.inl (mB (goB (erl b arm) arm)))))]) := hD
    refine W.eq (g2 := F0 m 79 ls []) rfl ?_
    refine lv_iconst (v := nI 0) hx hb dX5_pulls_79 (by decide) ?_
    refine lv_istore (lv' := [(5, .int (nI 0)), (3, .long (if othB b arm = true then lN (1000 * bg b (4 * arm + bp b arm)) - lN (1000 * bs b 2) else lN (1000 * bg b (4 * arm + bp b arm)))), (2, .int (q_b (othB b arm))), (0, .ref sa), (1, .int (nI arm))]) hx hb dX5_pulls_80 hl (by decide) rfl (fun ls hl => ?_)
    have K82 : ∀ (n82 i82 : Nat), i82 ≤ 4 → 4 + 1 ≤ i82 + n82 → (0 < i82 → bs b 3 = 1) → ∀ (H : Heap) (locs : List Loc) (ls : Array Slot), va_P C.1 vwCl ([(sa, .inl (C.2.2.1, 82, .inr (.inl (mB (restN (goB (erl b arm) arm) arm i82)))))]) H → va_D (q_A ([(sa, .inl (C.2.2.1, 82, .inr (.inl (mB b))))]) s) ([(sa, .inl (C.2.2.1, 82, .inr (.inl (mB (restN (goB (erl b arm) arm) arm i82)))))]) → va_S (q_A ([(sa, .inl (C.2.2.1, 82, .inr (.inl (mB b))))]) s) s.heap H locs → lv_has ls 6 [(5, .int (nI i82)), (2, .int (q_b (othB b arm))), (0, .ref sa), (1, .int (nI arm))] → W p l e (q_R 2 46) s m ([.ref sa, .int (nI arm)] : List Value).toArray below meth c H locs 0 0 (q_G C below ([(sa, .inl (C.2.2.1, 82, .inr (.inl (mB b))))]) (fun r w1 => r = none ∧ w1 = [(sa, .inl (C.2.2.1, 82, .inr (.inl (mB (pulB b arm)))))]) ([.ref sa, .int (nI arm)] : List Value).toArray s) (F0 m 82 ls []) := by
      intro n82
      induction n82 with
      | zero => intro i82  q1 q2; exact absurd q2 (by omega)
      | succ n82 ih82 =>
        intro i82  hi82 hn82 hG82 H locs ls hP hD hS hl
        refine lv_iload hx hb dX5_pulls_82 (lv_at hl 0 rfl) ?_
        refine lv_iconst (v := nI 4) hx hb dX5_pulls_84 (by decide) ?_
        refine lv_icmp_ge (tgt := 114) hx hb dX5_pulls_85 (by decide) (fun c85 => ?_) (fun c85 => ?_)
        · have c85 : 4 ≤ i82 := q_nge (by omega) (by omega) c85
          have e9 : i82 = 4 := by omega
          subst e9
          have hb3 : bs b 3 = 1 := hG82 (by decide)
          have hP : va_P C.1 vwCl ([(sa, .inl (C.2.2.1, 82, .inr (.inl (mB (restN (goB (erl b arm) arm) arm 4)))))]) H := hP
          have hD : va_D (q_A ([(sa, .inl (C.2.2.1, 82, .inr (.inl (mB b))))]) s) ([(sa, .inl (C.2.2.1, 82, .inr (.inl (mB (restN (goB (erl b arm) arm) arm 4)))))]) := hD
          have hbx : bx (restN (goB (erl b arm) arm) arm 4) = bx b := (bx_restN _ _ _).trans rfl
          refine lv_aload_n hx hb dX5_pulls_114 rfl (lv_at hl 2 rfl) ?_
          refine lv_iconst (v := nI 4) hx hb dX5_pulls_115 (by decide) ?_
          refine lv_dup2_11 hx hb dX5_pulls_116 rfl rfl ?_
          refine q_lald (n := 4) (v := mB (restN (goB (erl b arm) arm) arm 4) 4) hx hb hK hP 0 rfl (by decide) (by decide) rfl dX5_pulls_117 ?_
          refine q_tl (y := lN (sumU (restN (goB (erl b arm) arm) arm 4))) (mB_4 _) ?_
          refine lv_lconst (v := lN 1) hx hb dX5_pulls_118 (by decide) ?_
          refine lv_ladd hx hb dX5_pulls_119 ?_
          refine q_tl (y := lN ((sumU (restN (goB (erl b arm) arm) arm 4)) + 1)) (lN_add _ _) ?_
          refine q_last (n := 4) hx hb hK hP hD hS 0 rfl (by decide) (by decide) dX5_pulls_120 (fun H locs hP hD hS => ?_)
          have hP : va_P C.1 vwCl ([(sa, .inl (C.2.2.1, 82, .inr (.inl (vp_updL (mB (restN (goB (erl b arm) arm) arm 4)) 4 (lN ((sumU (restN (goB (erl b arm) arm) arm 4)) + 1))))))]) H := hP
          have hD : va_D (q_A ([(sa, .inl (C.2.2.1, 82, .inr (.inl (mB b))))]) s) ([(sa, .inl (C.2.2.1, 82, .inr (.inl (vp_updL (mB (restN (goB (erl b arm) arm) arm 4)) 4 (lN ((sumU (restN (goB (erl b arm) arm) arm 4)) + 1))))))]) := hD
          refine lv_aload_n hx hb dX5_pulls_121 rfl (lv_at hl 2 rfl) ?_
          refine lv_iconst (v := nI 5) hx hb dX5_pulls_122 (by decide) ?_
          refine lv_dup2_11 hx hb dX5_pulls_123 rfl rfl ?_
          refine q_lald (n := 5) (v := (vp_updL (mB (restN (goB (erl b arm) arm) arm 4)) 4 (lN ((sumU (restN (goB (erl b arm) arm) arm 4)) + 1))) 5) hx hb hK hP 0 rfl (by decide) (by decide) rfl dX5_pulls_124 ?_
          refine q_tl (y := lN (bx b)) (by rw [pk_uLn (by decide), mB_5, hbx]) ?_
          refine lv_iload_n hx hb dX5_pulls_125 rfl (lv_at hl 1 rfl) ?_
          refine lv_if_eq (tgt := 133) hx hb dX5_pulls_126 (by decide) (fun c126 => ?_) (fun c126 => ?_)
          · have c126 : othB b arm = false := q_b0.mp c126
            refine lv_lconst (v := lN 0) hx hb dX5_pulls_133 (by decide) ?_
            refine lv_ladd hx hb dX5_pulls_134 ?_
            refine q_tl (y := lN ((bx b) + 0)) (lN_add _ _) ?_
            refine q_last (n := 5) hx hb hK hP hD hS 0 rfl (by decide) (by decide) dX5_pulls_135 (fun H locs hP hD hS => ?_)
            have hP : va_P C.1 vwCl ([(sa, .inl (C.2.2.1, 82, .inr (.inl (vp_updL (vp_updL (mB (restN (goB (erl b arm) arm) arm 4)) 4 (lN ((sumU (restN (goB (erl b arm) arm) arm 4)) + 1))) 5 (lN ((bx b) + 0))))))]) H := hP
            have hD : va_D (q_A ([(sa, .inl (C.2.2.1, 82, .inr (.inl (mB b))))]) s) ([(sa, .inl (C.2.2.1, 82, .inr (.inl (vp_updL (vp_updL (mB (restN (goB (erl b arm) arm) arm 4)) 4 (lN ((sumU (restN (goB (erl b arm) arm) arm 4)) + 1))) 5 (lN ((bx b) + 0))))))]) := hD
            refine lv_aload_n hx hb dX5_pulls_136 rfl (lv_at hl 2 rfl) ?_
            refine lv_bipush (v := nI 6) hx hb dX5_pulls_137 (by decide) ?_
            refine lv_iload_n hx hb dX5_pulls_139 rfl (lv_at hl 3 rfl) ?_
            refine lv_i2l (v := lN arm) hx hb dX5_pulls_140 (nI_l (by omega)) ?_
            refine q_last (n := 6) hx hb hK hP hD hS 0 rfl (by decide) (by decide) dX5_pulls_141 (fun H locs hP hD hS => ?_)
            have hP : va_P C.1 vwCl ([(sa, .inl (C.2.2.1, 82, .inr (.inl (vp_updL (vp_updL (vp_updL (mB (restN (goB (erl b arm) arm) arm 4)) 4 (lN ((sumU (restN (goB (erl b arm) arm) arm 4)) + 1))) 5 (lN ((bx b) + 0))) 6 (lN arm)))))]) H := hP
            have hD : va_D (q_A ([(sa, .inl (C.2.2.1, 82, .inr (.inl (mB b))))]) s) ([(sa, .inl (C.2.2.1, 82, .inr (.inl (vp_updL (vp_updL (vp_updL (mB (restN (goB (erl b arm) arm) arm 4)) 4 (lN ((sumU (restN (goB (erl b arm) arm) arm 4)) + 1))) 5 (lN ((bx b) + 0))) 6 (lN arm)))))]) := hD
            refine lv_aload_n hx hb dX5_pulls_142 rfl (lv_at hl 2 rfl) ?_
            refine lv_bipush (v := nI 10) hx hb dX5_pulls_143 (by decide) ?_
            refine lv_iconst (v := nI 2) hx hb dX5_pulls_145 (by decide) ?_
            refine lv_iload_n hx hb dX5_pulls_146 rfl (lv_at hl 3 rfl) ?_
            refine lv_imul hx hb dX5_pulls_147 ?_
            refine q_ti (y := nI (2 * arm)) (pk_mul _ _) ?_
            refine lv_iadd hx hb dX5_pulls_148 ?_
            refine q_ti (y := nI (10 + (2 * arm))) (nI_add _ _) ?_
            refine lv_iconst (v := nI 1) hx hb dX5_pulls_149 (by decide) ?_
            refine lv_iadd hx hb dX5_pulls_150 ?_
            refine q_ti (y := nI ((10 + (2 * arm)) + 1)) (nI_add _ _) ?_
            refine lv_dup2_11 hx hb dX5_pulls_151 rfl rfl ?_
            refine q_lald (n := ((10 + (2 * arm)) + 1)) (v := (vp_updL (vp_updL (vp_updL (mB (restN (goB (erl b arm) arm) arm 4)) 4 (lN ((sumU (restN (goB (erl b arm) arm) arm 4)) + 1))) 5 (lN ((bx b) + 0))) 6 (lN arm)) ((10 + (2 * arm)) + 1)) hx hb hK hP 0 rfl (by omega) (by decide) rfl dX5_pulls_152 ?_
            refine q_tl (y := lN (bu (restN (goB (erl b arm) arm) arm 4) arm)) (by rw [pk_uLn (by omega), pk_uLn (by omega), pk_uLn (by omega), mB_u _ ha]) ?_
            refine lv_lconst (v := lN 1) hx hb dX5_pulls_153 (by decide) ?_
            refine lv_ladd hx hb dX5_pulls_154 ?_
            refine q_tl (y := lN ((bu (restN (goB (erl b arm) arm) arm 4) arm) + 1)) (lN_add _ _) ?_
            refine q_last (n := ((10 + (2 * arm)) + 1)) hx hb hK hP hD hS 0 rfl (by omega) (by decide) dX5_pulls_155 (fun H locs hP hD hS => ?_)
            have hP : va_P C.1 vwCl ([(sa, .inl (C.2.2.1, 82, .inr (.inl (vp_updL (vp_updL (vp_updL (vp_updL (mB (restN (goB (erl b arm) arm) arm 4)) 4 (lN ((sumU (restN (goB (erl b arm) arm) arm 4)) + 1))) 5 (lN ((bx b) + 0))) 6 (lN arm)) ((10 + (2 * arm)) + 1) (lN ((bu (restN (goB (erl b arm) arm) arm 4) arm) + 1))))))]) H := hP
            have hD : va_D (q_A ([(sa, .inl (C.2.2.1, 82, .inr (.inl (mB b))))]) s) ([(sa, .inl (C.2.2.1, 82, .inr (.inl (vp_updL (vp_updL (vp_updL (vp_updL (mB (restN (goB (erl b arm) arm) arm 4)) 4 (lN ((sumU (restN (goB (erl b arm) arm) arm 4)) + 1))) 5 (lN ((bx b) + 0))) 6 (lN arm)) ((10 + (2 * arm)) + 1) (lN ((bu (restN (goB (erl b arm) arm) arm 4) arm) + 1))))))]) := hD
            rw [mB_late _ ha] at hP hD
            have hP : va_P C.1 vwCl ([(sa, .inl (C.2.2.1, 82, .inr (.inl (mB (late (restN (goB (erl b arm) arm) arm 4) arm (bx b + 0))))))]) H := hP
            have hD : va_D (q_A ([(sa, .inl (C.2.2.1, 82, .inr (.inl (mB b))))]) s) ([(sa, .inl (C.2.2.1, 82, .inr (.inl (mB (late (restN (goB (erl b arm) arm) arm 4) arm (bx b + 0))))))]) := hD
            exact q_vret hx hb hr hlocks (w1 := [(sa, .inl (C.2.2.1, 82, .inr (.inl (mB (late (restN (goB (erl b arm) arm) arm 4) arm (bx b + 0))))))]) hP hS rfl dX5_pulls_156 (⟨rfl, congrArg (fun z => [(sa, (Sum.inl (C.2.2.1, 82, .inr (.inl (mB z))) : va_E))]) (by rw [pulB_late, if_pos hb3, if_neg (by rw [c126]; decide)]; rfl)⟩)
          · have c126 : othB b arm = true := q_b1.mp c126
            refine lv_lconst (v := lN 1) hx hb dX5_pulls_129 (by decide) ?_
            refine lv_goto (tgt := 134) hx hb dX5_pulls_130 (by decide) ?_
            refine lv_ladd hx hb dX5_pulls_134 ?_
            refine q_tl (y := lN ((bx b) + 1)) (lN_add _ _) ?_
            refine q_last (n := 5) hx hb hK hP hD hS 0 rfl (by decide) (by decide) dX5_pulls_135 (fun H locs hP hD hS => ?_)
            have hP : va_P C.1 vwCl ([(sa, .inl (C.2.2.1, 82, .inr (.inl (vp_updL (vp_updL (mB (restN (goB (erl b arm) arm) arm 4)) 4 (lN ((sumU (restN (goB (erl b arm) arm) arm 4)) + 1))) 5 (lN ((bx b) + 1))))))]) H := hP
            have hD : va_D (q_A ([(sa, .inl (C.2.2.1, 82, .inr (.inl (mB b))))]) s) ([(sa, .inl (C.2.2.1, 82, .inr (.inl (vp_updL (vp_updL (mB (restN (goB (erl b arm) arm) arm 4)) 4 (lN ((sumU (restN (goB (erl b arm) arm) arm 4)) + 1))) 5 (lN ((bx b) + 1))))))]) := hD
            refine lv_aload_n hx hb dX5_pulls_136 rfl (lv_at hl 2 rfl) ?_
            refine lv_bipush (v := nI 6) hx hb dX5_pulls_137 (by decide) ?_
            refine lv_iload_n hx hb dX5_pulls_139 rfl (lv_at hl 3 rfl) ?_
            refine lv_i2l (v := lN arm) hx hb dX5_pulls_140 (nI_l (by omega)) ?_
            refine q_last (n := 6) hx hb hK hP hD hS 0 rfl (by decide) (by decide) dX5_pulls_141 (fun H locs hP hD hS => ?_)
            have hP : va_P C.1 vwCl ([(sa, .inl (C.2.2.1, 82, .inr (.inl (vp_updL (vp_updL (vp_updL (mB (restN (goB (erl b arm) arm) arm 4)) 4 (lN ((sumU (restN (goB (erl b arm) arm) arm 4)) + 1))) 5 (lN ((bx b) + 1))) 6 (lN arm)))))]) H := hP
            have hD : va_D (q_A ([(sa, .inl (C.2.2.1, 82, .inr (.inl (mB b))))]) s) ([(sa, .inl (C.2.2.1, 82, .inr (.inl (vp_updL (vp_updL (vp_updL (mB (restN (goB (erl b arm) arm) arm 4)) 4 (lN ((sumU (restN (goB (erl b arm) arm) arm 4)) + 1))) 5 (lN ((bx b) + 1))) 6 (lN arm)))))]) := hD
            refine lv_aload_n hx hb dX5_pulls_142 rfl (lv_at hl 2 rfl) ?_
            refine lv_bipush (v := nI 10) hx hb dX5_pulls_143 (by decide) ?_
            refine lv_iconst (v := nI 2) hx hb dX5_pulls_145 (by decide) ?_
            refine lv_iload_n hx hb dX5_pulls_146 rfl (lv_at hl 3 rfl) ?_
            refine lv_imul hx hb dX5_pulls_147 ?_
            refine q_ti (y := nI (2 * arm)) (pk_mul _ _) ?_
            refine lv_iadd hx hb dX5_pulls_148 ?_
            refine q_ti (y := nI (10 + (2 * arm))) (nI_add _ _) ?_
            refine lv_iconst (v := nI 1) hx hb dX5_pulls_149 (by decide) ?_
            refine lv_iadd hx hb dX5_pulls_150 ?_
            refine q_ti (y := nI ((10 + (2 * arm)) + 1)) (nI_add _ _) ?_
            refine lv_dup2_11 hx hb dX5_pulls_151 rfl rfl ?_
            refine q_lald (n := ((10 + (2 * arm)) + 1)) (v := (vp_updL (vp_updL (vp_updL (mB (restN (goB (erl b arm) arm) arm 4)) 4 (lN ((sumU (restN (goB (erl b arm) arm) arm 4)) + 1))) 5 (lN ((bx b) + 1))) 6 (lN arm)) ((10 + (2 * arm)) + 1)) hx hb hK hP 0 rfl (by omega) (by decide) rfl dX5_pulls_152 ?_
            refine q_tl (y := lN (bu (restN (goB (erl b arm) arm) arm 4) arm)) (by rw [pk_uLn (by omega), pk_uLn (by omega), pk_uLn (by omega), mB_u _ ha]) ?_
            refine lv_lconst (v := lN 1) hx hb dX5_pulls_153 (by decide) ?_
            refine lv_ladd hx hb dX5_pulls_154 ?_
            refine q_tl (y := lN ((bu (restN (goB (erl b arm) arm) arm 4) arm) + 1)) (lN_add _ _) ?_
            refine q_last (n := ((10 + (2 * arm)) + 1)) hx hb hK hP hD hS 0 rfl (by omega) (by decide) dX5_pulls_155 (fun H locs hP hD hS => ?_)
            have hP : va_P C.1 vwCl ([(sa, .inl (C.2.2.1, 82, .inr (.inl (vp_updL (vp_updL (vp_updL (vp_updL (mB (restN (goB (erl b arm) arm) arm 4)) 4 (lN ((sumU (restN (goB (erl b arm) arm) arm 4)) + 1))) 5 (lN ((bx b) + 1))) 6 (lN arm)) ((10 + (2 * arm)) + 1) (lN ((bu (restN (goB (erl b arm) arm) arm 4) arm) + 1))))))]) H := hP
            have hD : va_D (q_A ([(sa, .inl (C.2.2.1, 82, .inr (.inl (mB b))))]) s) ([(sa, .inl (C.2.2.1, 82, .inr (.inl (vp_updL (vp_updL (vp_updL (vp_updL (mB (restN (goB (erl b arm) arm) arm 4)) 4 (lN ((sumU (restN (goB (erl b arm) arm) arm 4)) + 1))) 5 (lN ((bx b) + 1))) 6 (lN arm)) ((10 + (2 * arm)) + 1) (lN ((bu (restN (goB (erl b arm) arm) arm 4) arm) + 1))))))]) := hD
            rw [mB_late _ ha] at hP hD
            have hP : va_P C.1 vwCl ([(sa, .inl (C.2.2.1, 82, .inr (.inl (mB (late (restN (goB (erl b arm) arm) arm 4) arm (bx b + 1))))))]) H := hP
            have hD : va_D (q_A ([(sa, .inl (C.2.2.1, 82, .inr (.inl (mB b))))]) s) ([(sa, .inl (C.2.2.1, 82, .inr (.inl (mB (late (restN (goB (erl b arm) arm) arm 4) arm (bx b + 1))))))]) := hD
            exact q_vret hx hb hr hlocks (w1 := [(sa, .inl (C.2.2.1, 82, .inr (.inl (mB (late (restN (goB (erl b arm) arm) arm 4) arm (bx b + 1))))))]) hP hS rfl dX5_pulls_156 (⟨rfl, congrArg (fun z => [(sa, (Sum.inl (C.2.2.1, 82, .inr (.inl (mB z))) : va_E))]) (by rw [pulB_late, if_pos hb3, if_pos c126])⟩)
        · have c85 : i82 < 4 := q_nge' (by omega) (by omega) c85
          refine lv_aload_n hx hb dX5_pulls_88 rfl (lv_at hl 2 rfl) ?_
          refine lv_iconst (v := nI 3) hx hb dX5_pulls_89 (by decide) ?_
          refine q_lald (n := 3) (v := mB (restN (goB (erl b arm) arm) arm i82) 3) hx hb hK hP 0 rfl (by decide) (by decide) rfl dX5_pulls_90 ?_
          refine q_tl (y := lN (bs b 3)) ((mB_s _ (by decide)).trans (congrArg lN (hbs3 i82))) ?_
          refine lv_lconst (v := lN 1) hx hb dX5_pulls_91 (by decide) ?_
          refine W.lcmp hx hb dX5_pulls_92 ?_
          refine lv_if_ne (tgt := 114) hx hb dX5_pulls_93 (by decide) (fun c93 => ?_) (fun c93 => ?_)
          · have c93 : (bs b 3) ≠ 1 := q_Lne (by omega) (by omega) c93
            have e9 : i82 = 0 := by
              rcases Nat.eq_zero_or_pos i82 with e | e
              · exact e
              · exact absurd (hG82 e) c93
            subst e9
            have hP : va_P C.1 vwCl ([(sa, .inl (C.2.2.1, 82, .inr (.inl (mB (goB (erl b arm) arm)))))]) H := hP
            have hD : va_D (q_A ([(sa, .inl (C.2.2.1, 82, .inr (.inl (mB b))))]) s) ([(sa, .inl (C.2.2.1, 82, .inr (.inl (mB (goB (erl b arm) arm)))))]) := hD
            have hbx : bx (goB (erl b arm) arm) = bx b := rfl
            refine lv_aload_n hx hb dX5_pulls_114 rfl (lv_at hl 2 rfl) ?_
            refine lv_iconst (v := nI 4) hx hb dX5_pulls_115 (by decide) ?_
            refine lv_dup2_11 hx hb dX5_pulls_116 rfl rfl ?_
            refine q_lald (n := 4) (v := mB (goB (erl b arm) arm) 4) hx hb hK hP 0 rfl (by decide) (by decide) rfl dX5_pulls_117 ?_
            refine q_tl (y := lN (sumU (goB (erl b arm) arm))) (mB_4 _) ?_
            refine lv_lconst (v := lN 1) hx hb dX5_pulls_118 (by decide) ?_
            refine lv_ladd hx hb dX5_pulls_119 ?_
            refine q_tl (y := lN ((sumU (goB (erl b arm) arm)) + 1)) (lN_add _ _) ?_
            refine q_last (n := 4) hx hb hK hP hD hS 0 rfl (by decide) (by decide) dX5_pulls_120 (fun H locs hP hD hS => ?_)
            have hP : va_P C.1 vwCl ([(sa, .inl (C.2.2.1, 82, .inr (.inl (vp_updL (mB (goB (erl b arm) arm)) 4 (lN ((sumU (goB (erl b arm) arm)) + 1))))))]) H := hP
            have hD : va_D (q_A ([(sa, .inl (C.2.2.1, 82, .inr (.inl (mB b))))]) s) ([(sa, .inl (C.2.2.1, 82, .inr (.inl (vp_updL (mB (goB (erl b arm) arm)) 4 (lN ((sumU (goB (erl b arm) arm)) + 1))))))]) := hD
            refine lv_aload_n hx hb dX5_pulls_121 rfl (lv_at hl 2 rfl) ?_
            refine lv_iconst (v := nI 5) hx hb dX5_pulls_122 (by decide) ?_
            refine lv_dup2_11 hx hb dX5_pulls_123 rfl rfl ?_
            refine q_lald (n := 5) (v := (vp_updL (mB (goB (erl b arm) arm)) 4 (lN ((sumU (goB (erl b arm) arm)) + 1))) 5) hx hb hK hP 0 rfl (by decide) (by decide) rfl dX5_pulls_124 ?_
            refine q_tl (y := lN (bx b)) (by rw [pk_uLn (by decide), mB_5, hbx]) ?_
            refine lv_iload_n hx hb dX5_pulls_125 rfl (lv_at hl 1 rfl) ?_
            refine lv_if_eq (tgt := 133) hx hb dX5_pulls_126 (by decide) (fun c126 => ?_) (fun c126 => ?_)
            · have c126 : othB b arm = false := q_b0.mp c126
              refine lv_lconst (v := lN 0) hx hb dX5_pulls_133 (by decide) ?_
              refine lv_ladd hx hb dX5_pulls_134 ?_
              refine q_tl (y := lN ((bx b) + 0)) (lN_add _ _) ?_
              refine q_last (n := 5) hx hb hK hP hD hS 0 rfl (by decide) (by decide) dX5_pulls_135 (fun H locs hP hD hS => ?_)
              have hP : va_P C.1 vwCl ([(sa, .inl (C.2.2.1, 82, .inr (.inl (vp_updL (vp_updL (mB (goB (erl b arm) arm)) 4 (lN ((sumU (goB (erl b arm) arm)) + 1))) 5 (lN ((bx b) + 0))))))]) H := hP
              have hD : va_D (q_A ([(sa, .inl (C.2.2.1, 82, .inr (.inl (mB b))))]) s) ([(sa, .inl (C.2.2.1, 82, .inr (.inl (vp_updL (vp_updL (mB (goB (erl b arm) arm)) 4 (lN ((sumU (goB (erl b arm) arm)) + 1))) 5 (lN ((bx b) + 0))))))]) := hD
              refine lv_aload_n hx hb dX5_pulls_136 rfl (lv_at hl 2 rfl) ?_
              refine lv_bipush (v := nI 6) hx hb dX5_pulls_137 (by decide) ?_
              refine lv_iload_n hx hb dX5_pulls_139 rfl (lv_at hl 3 rfl) ?_
              refine lv_i2l (v := lN arm) hx hb dX5_pulls_140 (nI_l (by omega)) ?_
              refine q_last (n := 6) hx hb hK hP hD hS 0 rfl (by decide) (by decide) dX5_pulls_141 (fun H locs hP hD hS => ?_)
              have hP : va_P C.1 vwCl ([(sa, .inl (C.2.2.1, 82, .inr (.inl (vp_updL (vp_updL (vp_updL (mB (goB (erl b arm) arm)) 4 (lN ((sumU (goB (erl b arm) arm)) + 1))) 5 (lN ((bx b) + 0))) 6 (lN arm)))))]) H := hP
              have hD : va_D (q_A ([(sa, .inl (C.2.2.1, 82, .inr (.inl (mB b))))]) s) ([(sa, .inl (C.2.2.1, 82, .inr (.inl (vp_updL (vp_updL (vp_updL (mB (goB (erl b arm) arm)) 4 (lN ((sumU (goB (erl b arm) arm)) + 1))) 5 (lN ((bx b) + 0))) 6 (lN arm)))))]) := hD
              refine lv_aload_n hx hb dX5_pulls_142 rfl (lv_at hl 2 rfl) ?_
              refine lv_bipush (v := nI 10) hx hb dX5_pulls_143 (by decide) ?_
              refine lv_iconst (v := nI 2) hx hb dX5_pulls_145 (by decide) ?_
              refine lv_iload_n hx hb dX5_pulls_146 rfl (lv_at hl 3 rfl) ?_
              refine lv_imul hx hb dX5_pulls_147 ?_
              refine q_ti (y := nI (2 * arm)) (pk_mul _ _) ?_
              refine lv_iadd hx hb dX5_pulls_148 ?_
              refine q_ti (y := nI (10 + (2 * arm))) (nI_add _ _) ?_
              refine lv_iconst (v := nI 1) hx hb dX5_pulls_149 (by decide) ?_
              refine lv_iadd hx hb dX5_pulls_150 ?_
              refine q_ti (y := nI ((10 + (2 * arm)) + 1)) (nI_add _ _) ?_
              refine lv_dup2_11 hx hb dX5_pulls_151 rfl rfl ?_
              refine q_lald (n := ((10 + (2 * arm)) + 1)) (v := (vp_updL (vp_updL (vp_updL (mB (goB (erl b arm) arm)) 4 (lN ((sumU (goB (erl b arm) arm)) + 1))) 5 (lN ((bx b) + 0))) 6 (lN arm)) ((10 + (2 * arm)) + 1)) hx hb hK hP 0 rfl (by omega) (by decide) rfl dX5_pulls_152 ?_
              refine q_tl (y := lN (bu (goB (erl b arm) arm) arm)) (by rw [pk_uLn (by omega), pk_uLn (by omega), pk_uLn (by omega), mB_u _ ha]) ?_
              refine lv_lconst (v := lN 1) hx hb dX5_pulls_153 (by decide) ?_
              refine lv_ladd hx hb dX5_pulls_154 ?_
              refine q_tl (y := lN ((bu (goB (erl b arm) arm) arm) + 1)) (lN_add _ _) ?_
              refine q_last (n := ((10 + (2 * arm)) + 1)) hx hb hK hP hD hS 0 rfl (by omega) (by decide) dX5_pulls_155 (fun H locs hP hD hS => ?_)
              have hP : va_P C.1 vwCl ([(sa, .inl (C.2.2.1, 82, .inr (.inl (vp_updL (vp_updL (vp_updL (vp_updL (mB (goB (erl b arm) arm)) 4 (lN ((sumU (goB (erl b arm) arm)) + 1))) 5 (lN ((bx b) + 0))) 6 (lN arm)) ((10 + (2 * arm)) + 1) (lN ((bu (goB (erl b arm) arm) arm) + 1))))))]) H := hP
              have hD : va_D (q_A ([(sa, .inl (C.2.2.1, 82, .inr (.inl (mB b))))]) s) ([(sa, .inl (C.2.2.1, 82, .inr (.inl (vp_updL (vp_updL (vp_updL (vp_updL (mB (goB (erl b arm) arm)) 4 (lN ((sumU (goB (erl b arm) arm)) + 1))) 5 (lN ((bx b) + 0))) 6 (lN arm)) ((10 + (2 * arm)) + 1) (lN ((bu (goB (erl b arm) arm) arm) + 1))))))]) := hD
              rw [mB_late _ ha] at hP hD
              have hP : va_P C.1 vwCl ([(sa, .inl (C.2.2.1, 82, .inr (.inl (mB (late (goB (erl b arm) arm) arm (bx b + 0))))))]) H := hP
              have hD : va_D (q_A ([(sa, .inl (C.2.2.1, 82, .inr (.inl (mB b))))]) s) ([(sa, .inl (C.2.2.1, 82, .inr (.inl (mB (late (goB (erl b arm) arm) arm (bx b + 0))))))]) := hD
              exact q_vret hx hb hr hlocks (w1 := [(sa, .inl (C.2.2.1, 82, .inr (.inl (mB (late (goB (erl b arm) arm) arm (bx b + 0))))))]) hP hS rfl dX5_pulls_156 (⟨rfl, congrArg (fun z => [(sa, (Sum.inl (C.2.2.1, 82, .inr (.inl (mB z))) : va_E))]) (by rw [pulB_late, if_neg c93, if_neg (by rw [c126]; decide)]; rfl)⟩)
            · have c126 : othB b arm = true := q_b1.mp c126
              refine lv_lconst (v := lN 1) hx hb dX5_pulls_129 (by decide) ?_
              refine lv_goto (tgt := 134) hx hb dX5_pulls_130 (by decide) ?_
              refine lv_ladd hx hb dX5_pulls_134 ?_
              refine q_tl (y := lN ((bx b) + 1)) (lN_add _ _) ?_
              refine q_last (n := 5) hx hb hK hP hD hS 0 rfl (by decide) (by decide) dX5_pulls_135 (fun H locs hP hD hS => ?_)
              have hP : va_P C.1 vwCl ([(sa, .inl (C.2.2.1, 82, .inr (.inl (vp_updL (vp_updL (mB (goB (erl b arm) arm)) 4 (lN ((sumU (goB (erl b arm) arm)) + 1))) 5 (lN ((bx b) + 1))))))]) H := hP
              have hD : va_D (q_A ([(sa, .inl (C.2.2.1, 82, .inr (.inl (mB b))))]) s) ([(sa, .inl (C.2.2.1, 82, .inr (.inl (vp_updL (vp_updL (mB (goB (erl b arm) arm)) 4 (lN ((sumU (goB (erl b arm) arm)) + 1))) 5 (lN ((bx b) + 1))))))]) := hD
              refine lv_aload_n hx hb dX5_pulls_136 rfl (lv_at hl 2 rfl) ?_
              refine lv_bipush (v := nI 6) hx hb dX5_pulls_137 (by decide) ?_
              refine lv_iload_n hx hb dX5_pulls_139 rfl (lv_at hl 3 rfl) ?_
              refine lv_i2l (v := lN arm) hx hb dX5_pulls_140 (nI_l (by omega)) ?_
              refine q_last (n := 6) hx hb hK hP hD hS 0 rfl (by decide) (by decide) dX5_pulls_141 (fun H locs hP hD hS => ?_)
              have hP : va_P C.1 vwCl ([(sa, .inl (C.2.2.1, 82, .inr (.inl (vp_updL (vp_updL (vp_updL (mB (goB (erl b arm) arm)) 4 (lN ((sumU (goB (erl b arm) arm)) + 1))) 5 (lN ((bx b) + 1))) 6 (lN arm)))))]) H := hP
              have hD : va_D (q_A ([(sa, .inl (C.2.2.1, 82, .inr (.inl (mB b))))]) s) ([(sa, .inl (C.2.2.1, 82, .inr (.inl (vp_updL (vp_updL (vp_updL (mB (goB (erl b arm) arm)) 4 (lN ((sumU (goB (erl b arm) arm)) + 1))) 5 (lN ((bx b) + 1))) 6 (lN arm)))))]) := hD
              refine lv_aload_n hx hb dX5_pulls_142 rfl (lv_at hl 2 rfl) ?_
              refine lv_bipush (v := nI 10) hx hb dX5_pulls_143 (by decide) ?_
              refine lv_iconst (v := nI 2) hx hb dX5_pulls_145 (by decide) ?_
              refine lv_iload_n hx hb dX5_pulls_146 rfl (lv_at hl 3 rfl) ?_
              refine lv_imul hx hb dX5_pulls_147 ?_
              refine q_ti (y := nI (2 * arm)) (pk_mul _ _) ?_
              refine lv_iadd hx hb dX5_pulls_148 ?_
              refine q_ti (y := nI (10 + (2 * arm))) (nI_add _ _) ?_
              refine lv_iconst (v := nI 1) hx hb dX5_pulls_149 (by decide) ?_
              refine lv_iadd hx hb dX5_pulls_150 ?_
              refine q_ti (y := nI ((10 + (2 * arm)) + 1)) (nI_add _ _) ?_
              refine lv_dup2_11 hx hb dX5_pulls_151 rfl rfl ?_
              refine q_lald (n := ((10 + (2 * arm)) + 1)) (v := (vp_updL (vp_updL (vp_updL (mB (goB (erl b arm) arm)) 4 (lN ((sumU (goB (erl b arm) arm)) + 1))) 5 (lN ((bx b) + 1))) 6 (lN arm)) ((10 + (2 * arm)) + 1)) hx hb hK hP 0 rfl (by omega) (by decide) rfl dX5_pulls_152 ?_
              refine q_tl (y := lN (bu (goB (erl b arm) arm) arm)) (by rw [pk_uLn (by omega), pk_uLn (by omega), pk_uLn (by omega), mB_u _ ha]) ?_
              refine lv_lconst (v := lN 1) hx hb dX5_pulls_153 (by decide) ?_
              refine lv_ladd hx hb dX5_pulls_154 ?_
              refine q_tl (y := lN ((bu (goB (erl b arm) arm) arm) + 1)) (lN_add _ _) ?_
              refine q_last (n := ((10 + (2 * arm)) + 1)) hx hb hK hP hD hS 0 rfl (by omega) (by decide) dX5_pulls_155 (fun H locs hP hD hS => ?_)
              have hP : va_P C.1 vwCl ([(sa, .inl (C.2.2.1, 82, .inr (.inl (vp_updL (vp_updL (vp_updL (vp_updL (mB (goB (erl b arm) arm)) 4 (lN ((sumU (goB (erl b arm) arm)) + 1))) 5 (lN ((bx b) + 1))) 6 (lN arm)) ((10 + (2 * arm)) + 1) (lN ((bu (goB (erl b arm) arm) arm) + 1))))))]) H := hP
              have hD : va_D (q_A ([(sa, .inl (C.2.2.1, 82, .inr (.inl (mB b))))]) s) ([(sa, .inl (C.2.2.1, 82, .inr (.inl (vp_updL (vp_updL (vp_updL (vp_updL (mB (goB (erl b arm) arm)) 4 (lN ((sumU (goB (erl b arm) arm)) + 1))) 5 (lN ((bx b) + 1))) 6 (lN arm)) ((10 + (2 * arm)) + 1) (lN ((bu (goB (erl b arm) arm) arm) + 1))))))]) := hD
              rw [mB_late _ ha] at hP hD
              have hP : va_P C.1 vwCl ([(sa, .inl (C.2.2.1, 82, .inr (.inl (mB (late (goB (erl b arm) arm) arm (bx b + 1))))))]) H := hP
              have hD : va_D (q_A ([(sa, .inl (C.2.2.1, 82, .inr (.inl (mB b))))]) s) ([(sa, .inl (C.2.2.1, 82, .inr (.inl (mB (late (goB (erl b arm) arm) arm (bx b + 1))))))]) := hD
              exact q_vret hx hb hr hlocks (w1 := [(sa, .inl (C.2.2.1, 82, .inr (.inl (mB (late (goB (erl b arm) arm) arm (bx b + 1))))))]) hP hS rfl dX5_pulls_156 (⟨rfl, congrArg (fun z => [(sa, (Sum.inl (C.2.2.1, 82, .inr (.inl (mB z))) : va_E))]) (by rw [pulB_late, if_neg c93, if_pos c126])⟩)
          · have c93 : (bs b 3) = 1 := q_Lne' (by omega) (by omega) c93
            refine lv_iload hx hb dX5_pulls_96 (lv_at hl 0 rfl) ?_
            refine lv_iload_n hx hb dX5_pulls_98 rfl (lv_at hl 3 rfl) ?_
            refine lv_icmp_eq (tgt := 108) hx hb dX5_pulls_99 (by decide) (fun c99 => ?_) (fun c99 => ?_)
            · have c99 : i82 = arm := q_neq (by omega) (by omega) c99
              rw [← restN_0 c99] at hP hD
              have hP : va_P C.1 vwCl ([(sa, .inl (C.2.2.1, 82, .inr (.inl (mB (restN (goB (erl b arm) arm) arm (i82 + 1))))))]) H := hP
              have hD : va_D (q_A ([(sa, .inl (C.2.2.1, 82, .inr (.inl (mB b))))]) s) ([(sa, .inl (C.2.2.1, 82, .inr (.inl (mB (restN (goB (erl b arm) arm) arm (i82 + 1))))))]) := hD
              refine lv_iinc (v := nI (i82 + 1)) (lv' := [(5, .int (nI (i82 + 1))), (2, .int (q_b (othB b arm))), (0, .ref sa), (1, .int (nI arm))]) hx hb dX5_pulls_108 hl (k := 0) rfl (nI_1 _) (by decide) rfl (fun ls hl => ?_)
              refine lv_goto (tgt := 82) hx hb dX5_pulls_111 (by decide) ?_
              exact ih82 (i82 + 1)  (by omega) (by omega) (fun _ => c93) _ _ ls hP hD hS (lv_sub hl [0, 1, 2, 3] rfl)
            · have c99 : i82 ≠ arm := q_neq' (by omega) (by omega) c99
              refine lv_aload_n hx hb dX5_pulls_102 rfl (lv_at hl 2 rfl) ?_
              refine lv_iload hx hb dX5_pulls_103 (lv_at hl 0 rfl) ?_
              refine q_S (As := [.ref sa, .int (nI i82)]) (rest := []) ⟨hx, hb, hml, hown, hts⟩ (c_X5_goesOn l C sa (restN (goB (erl b arm) arm) arm i82) i82 (okB_restN hB2 arm i82 (by omega)) (by omega)) (va_cwS 2 hts gX5_pulls_X5_goesOn rfl rfl rfl (by decide +kernel) ⟨Nat.le_of_ble_eq_true rfl, Nat.le_of_ble_eq_true rfl⟩) hK hP hD hS hA [0] (by decide) rfl rfl hl.1 rfl (Nat.le_of_ble_eq_true rfl) dX5_pulls_105 (Nat.zero_le _) (Nat.zero_le _) (fun r w1 H locs hQ hP hD hS => ?_)
              obtain ⟨rfl, rfl⟩ := hQ
              have hP : va_P C.1 vwCl ([(sa, .inl (C.2.2.1, 82, .inr (.inl (mB (goB (restN (goB (erl b arm) arm) arm i82) i82)))))]) H := hP
              have hD : va_D (q_A ([(sa, .inl (C.2.2.1, 82, .inr (.inl (mB b))))]) s) ([(sa, .inl (C.2.2.1, 82, .inr (.inl (mB (goB (restN (goB (erl b arm) arm) arm i82) i82)))))]) := hD
              refine W.eq (g2 := F0 m 108 ls []) rfl ?_
              rw [← restN_1 c99] at hP hD
              have hP : va_P C.1 vwCl ([(sa, .inl (C.2.2.1, 82, .inr (.inl (mB (restN (goB (erl b arm) arm) arm (i82 + 1))))))]) H := hP
              have hD : va_D (q_A ([(sa, .inl (C.2.2.1, 82, .inr (.inl (mB b))))]) s) ([(sa, .inl (C.2.2.1, 82, .inr (.inl (mB (restN (goB (erl b arm) arm) arm (i82 + 1))))))]) := hD
              refine lv_iinc (v := nI (i82 + 1)) (lv' := [(5, .int (nI (i82 + 1))), (2, .int (q_b (othB b arm))), (0, .ref sa), (1, .int (nI arm))]) hx hb dX5_pulls_108 hl (k := 0) rfl (nI_1 _) (by decide) rfl (fun ls hl => ?_)
              refine lv_goto (tgt := 82) hx hb dX5_pulls_111 (by decide) ?_
              exact ih82 (i82 + 1)  (by omega) (by omega) (fun _ => c93) _ _ ls hP hD hS (lv_sub hl [0, 1, 2, 3] rfl)
    exact K82 (4 + 1 - 0) 0  (by omega) (by omega) (fun h => absurd h (Nat.lt_irrefl 0)) _ _ ls hP hD hS (lv_sub hl [0, 2, 3, 4] rfl)
  refine lv_if_eq (tgt := 36) hx hb dX5_pulls_23 (by decide) (fun c23 => ?_) (fun c23 => ?_)
  · have c23 : othB b arm = false := q_b0.mp c23
    refine lv_lconst (v := lN 0) hx hb dX5_pulls_36 (by decide) ?_
    refine lv_lsub hx hb dX5_pulls_37 ?_
    refine q_tl (y := if othB b arm = true then lN (1000 * bg b (4 * arm + bp b arm)) - lN (1000 * bs b 2) else lN (1000 * bg b (4 * arm + bp b arm))) (by rw [if_neg (by rw [c23]; decide), lN_sub (Nat.zero_le _), Nat.sub_zero]) ?_
    exact J38 _ _ ls (hP) (hD) hS ((lv_sub hl [0, 1, 2] rfl))
  · have c23 : othB b arm = true := q_b1.mp c23
    refine lv_ldc2 hx hb hown hk63 dX5_pulls_26 ?_
    refine q_tl (y := lN 1000) (by decide) ?_
    refine lv_aload_n hx hb dX5_pulls_29 rfl (lv_at hl 1 rfl) ?_
    refine lv_iconst (v := nI 2) hx hb dX5_pulls_30 (by decide) ?_
    refine q_lald (n := 2) (v := mB b 2) hx hb hK hP 0 rfl (by decide) (by decide) rfl dX5_pulls_31 ?_
    refine q_tl (y := lN (bs b 2)) (mB_s b (by decide)) ?_
    refine lv_lmul hx hb dX5_pulls_32 ?_
    refine q_tl (y := lN (1000 * (bs b 2))) (lN_mul _ _) ?_
    refine lv_goto (tgt := 37) hx hb dX5_pulls_33 (by decide) ?_
    refine lv_lsub hx hb dX5_pulls_37 ?_
    refine q_tl (y := if othB b arm = true then lN (1000 * bg b (4 * arm + bp b arm)) - lN (1000 * bs b 2) else lN (1000 * bg b (4 * arm + bp b arm))) (by rw [if_pos c23]) ?_
    exact J38 _ _ ls (hP) (hD) hS ((lv_sub hl [0, 1, 2] rfl))
set_option maxHeartbeats 4000000 in
set_option maxRecDepth 100000 in
theorem c_X5_worth (l : Launch) (C : q_C) (mo : Nat → Nat) (ev : Nat → Int32) (v o : Nat → Nat) (sa : Nat) (b : Bd) (arm rule : Nat) (hB : OkB b) (ha : arm < 4) (hr3 : rule < 3) : q_M C l yX5_worth wsX5_worth 4 95 [.ref (mo 0), .ref sa, .int (nI arm), .int (nI rule)] (wO C mo ev v o ++ ([(sa, .inl (C.2.2.1, 82, .inr (.inl (mB b))))] : va_W)) (fun r w => ∃ v1 o1, r = some (.long (zL (scN b (idxT b) rule arm))) ∧ w = wO C mo ev v1 o1 ++ ([(sa, .inl (C.2.2.1, 82, .inr (.inl (mB b))))] : va_W)) := by
  obtain ⟨ok1, ok2, ⟨ok3, ok4, ok5, ok6, ok7⟩, ok8, ok9⟩ := id hB
  have hp4 := ok2 arm ha
  have h16 := ok1 (4 * arm + bp b arm) (by omega)
  refine q_head (cc := cX5_worth) (maxL := 6) (ret := (some .long)) (by decide +kernel) rfl (Nat.le_of_ble_eq_true rfl) ?_
  intro p e s m below meth c hx hb hr hlocks hml hown hts hK hP hD hS hA ls hl
  have hl : lv_has ls 6 [(0, .ref (mo 0)), (1, .ref sa), (2, .int (nI arm)), (3, .int (nI rule))] := hl
  have hk109 := hts (.constantLong RX5 109 (10)) (by decide +kernel)
  have hk69 := hts (.constantLong RX5 69 (100)) (by decide +kernel)
  refine lv_aload_n hx hb dX5_worth_0 rfl (lv_at hl 1 rfl) ?_
  refine lv_iload_n hx hb dX5_worth_1 rfl (lv_at hl 2 rfl) ?_
  refine q_S (As := [.ref sa, .int (nI arm)]) (rest := []) ⟨hx, hb, hml, hown, hts⟩ (c_X5_isOther l C sa b arm hB (by omega)) (va_cwS 2 hts gX5_worth_X5_isOther rfl rfl rfl (by decide +kernel) ⟨Nat.le_of_ble_eq_true rfl, Nat.le_of_ble_eq_true rfl⟩) hK hP hD hS hA [3] (by decide) rfl rfl hl.1 rfl (Nat.le_of_ble_eq_true rfl) dX5_worth_2 (Nat.zero_le _) (Nat.zero_le _) (fun r w1 H locs hQ hP hD hS => ?_)
  obtain ⟨rfl, rfl⟩ := hQ
  have hP : va_P C.1 vwCl (wO C mo ev v o ++ ([(sa, .inl (C.2.2.1, 82, .inr (.inl (mB b))))] : va_W)) H := hP
  have hD : va_D (q_A (wO C mo ev v o ++ ([(sa, .inl (C.2.2.1, 82, .inr (.inl (mB b))))] : va_W)) s) (wO C mo ev v o ++ ([(sa, .inl (C.2.2.1, 82, .inr (.inl (mB b))))] : va_W)) := hD
  refine W.eq (g2 := F0 m 5 ls [.int (q_b (othB b arm))]) rfl ?_
  refine lv_if_eq (tgt := 14) hx hb dX5_worth_5 (by decide) (fun c5 => ?_) (fun c5 => ?_)
  · have c5 : othB b arm = false := q_b0.mp c5
    refine lv_lconst (v := lN 0) hx hb dX5_worth_14 (by decide) ?_
    refine lv_lstore (lv' := [(4, .long (lN 0)), (0, .ref (mo 0)), (1, .ref sa), (2, .int (nI arm)), (3, .int (nI rule))]) hx hb dX5_worth_15 hl (by decide) rfl (fun ls hl => ?_)
    refine lv_iload_n hx hb dX5_worth_17 rfl (lv_at hl 4 rfl) ?_
    refine lv_if_ne (tgt := 50) hx hb dX5_worth_18 (by decide) (fun c18 => ?_) (fun c18 => ?_)
    · have c18 : rule ≠ 0 := q_nne0 (by omega) (by omega) c18
      refine lv_aload_n hx hb dX5_worth_50 rfl (lv_at hl 2 rfl) ?_
      refine lv_iload_n hx hb dX5_worth_51 rfl (lv_at hl 3 rfl) ?_
      refine lv_aload_n hx hb dX5_worth_52 rfl (lv_at hl 2 rfl) ?_
      refine lv_iload_n hx hb dX5_worth_53 rfl (lv_at hl 3 rfl) ?_
      refine q_S (As := [.ref sa, .int (nI arm)]) (rest := [.int (nI arm), .ref sa]) ⟨hx, hb, hml, hown, hts⟩ (c_X5_stands l C sa b arm (by omega)) (va_cwS 2 hts gX5_worth_X5_stands rfl rfl rfl (by decide +kernel) ⟨Nat.le_of_ble_eq_true rfl, Nat.le_of_ble_eq_true rfl⟩) hK hP hD hS hA [3] (by decide) rfl rfl hl.1 rfl (Nat.le_of_ble_eq_true rfl) dX5_worth_54 (Nat.zero_le _) (Nat.zero_le _) (fun r w1 H locs hQ hP hD hS => ?_)
      obtain ⟨rfl, rfl⟩ := hQ
      have hP : va_P C.1 vwCl (wO C mo ev v o ++ ([(sa, .inl (C.2.2.1, 82, .inr (.inl (mB b))))] : va_W)) H := hP
      have hD : va_D (q_A (wO C mo ev v o ++ ([(sa, .inl (C.2.2.1, 82, .inr (.inl (mB b))))] : va_W)) s) (wO C mo ev v o ++ ([(sa, .inl (C.2.2.1, 82, .inr (.inl (mB b))))] : va_W)) := hD
      refine W.eq (g2 := F0 m 57 ls [.int (nI (bp b arm)), .int (nI arm), .ref sa]) rfl ?_
      refine lv_iconst (v := nI 0) hx hb dX5_worth_57 (by decide) ?_
      refine q_S (As := [.ref sa, .int (nI arm), .int (nI (bp b arm)), .int (nI 0)]) (rest := []) ⟨hx, hb, hml, hown, hts⟩ (c_X5_of l C sa b arm (bp b arm) 0 (by omega) (by omega) (by omega)) (va_cwS 4 hts gX5_worth_X5_of rfl rfl rfl (by decide +kernel) ⟨Nat.le_of_ble_eq_true rfl, Nat.le_of_ble_eq_true rfl⟩) hK hP hD hS hA [3] (by decide) rfl rfl hl.1 rfl (Nat.le_of_ble_eq_true rfl) dX5_worth_58 (Nat.zero_le _) (Nat.zero_le _) (fun r w1 H locs hQ hP hD hS => ?_)
      obtain ⟨rfl, rfl⟩ := hQ
      have hP : va_P C.1 vwCl (wO C mo ev v o ++ ([(sa, .inl (C.2.2.1, 82, .inr (.inl (mB b))))] : va_W)) H := hP
      have hD : va_D (q_A (wO C mo ev v o ++ ([(sa, .inl (C.2.2.1, 82, .inr (.inl (mB b))))] : va_W)) s) (wO C mo ev v o ++ ([(sa, .inl (C.2.2.1, 82, .inr (.inl (mB b))))] : va_W)) := hD
      refine W.eq (g2 := F0 m 61 ls [.int (nI (bg b (4 * arm + (bp b arm))))]) rfl ?_
      refine lv_i2l (v := lN (bg b (4 * arm + (bp b arm)))) hx hb dX5_worth_61 (nI_l (by omega)) ?_
      refine lv_lload hx hb dX5_worth_62 (lv_at hl 0 rfl) ?_
      refine lv_lsub hx hb dX5_worth_64 ?_
      refine q_tl (y := zL (scN b (idxT b) rule arm)) (zL_w4 c5 c18) ?_
      exact q_lret hx hb hr hlocks (w1 := wO C mo ev v o ++ ([(sa, .inl (C.2.2.1, 82, .inr (.inl (mB b))))] : va_W)) hP hS rfl dX5_worth_65 (⟨_, _, rfl, rfl⟩)
    · have c18 : rule = 0 := q_nne0' (by omega) (by omega) c18
      refine lv_aload_n hx hb dX5_worth_21 rfl (lv_at hl 1 rfl) ?_
      refine lv_aload_n hx hb dX5_worth_22 rfl (lv_at hl 2 rfl) ?_
      refine lv_iload_n hx hb dX5_worth_23 rfl (lv_at hl 3 rfl) ?_
      refine lv_aload_n hx hb dX5_worth_24 rfl (lv_at hl 2 rfl) ?_
      refine lv_iload_n hx hb dX5_worth_25 rfl (lv_at hl 3 rfl) ?_
      refine q_S (As := [.ref sa, .int (nI arm)]) (rest := [.int (nI arm), .ref sa, .ref (mo 0)]) ⟨hx, hb, hml, hown, hts⟩ (c_X5_stands l C sa b arm (by omega)) (va_cwS 2 hts gX5_worth_X5_stands rfl rfl rfl (by decide +kernel) ⟨Nat.le_of_ble_eq_true rfl, Nat.le_of_ble_eq_true rfl⟩) hK hP hD hS hA [3] (by decide) rfl rfl hl.1 rfl (Nat.le_of_ble_eq_true rfl) dX5_worth_26 (Nat.zero_le _) (Nat.zero_le _) (fun r w1 H locs hQ hP hD hS => ?_)
      obtain ⟨rfl, rfl⟩ := hQ
      have hP : va_P C.1 vwCl (wO C mo ev v o ++ ([(sa, .inl (C.2.2.1, 82, .inr (.inl (mB b))))] : va_W)) H := hP
      have hD : va_D (q_A (wO C mo ev v o ++ ([(sa, .inl (C.2.2.1, 82, .inr (.inl (mB b))))] : va_W)) s) (wO C mo ev v o ++ ([(sa, .inl (C.2.2.1, 82, .inr (.inl (mB b))))] : va_W)) := hD
      refine W.eq (g2 := F0 m 29 ls [.int (nI (bp b arm)), .int (nI arm), .ref sa, .ref (mo 0)]) rfl ?_
      refine q_V (As := [.ref sa, .int (nI arm), .int (nI (bp b arm))]) (rest := []) ⟨hx, hb, hml, hown, hts⟩ (c_X5_indexOf l C mo ev v o sa b arm (bp b arm) hB (by omega) (by omega)) (cwV 3 hts gX5_worth_X5_indexOf rfl rfl rfl (by decide +kernel) ⟨Nat.le_of_ble_eq_true rfl, Nat.le_of_ble_eq_true rfl⟩) hK hP hD hS hA [0, 1, 2, 3] (by decide) rfl 0 rfl rfl rfl rfl hl.1 rfl (Nat.le_of_ble_eq_true rfl) dX5_worth_29 (Nat.zero_le _) (Nat.zero_le _) (fun r w1 H locs hQ hP hD hS => ?_)
      obtain ⟨rfl, rfl⟩ := hQ
      have hP : va_P C.1 vwCl (wO C mo ev (valsN b arm (bp b arm) (bs b 1)) (ownsN b arm (bp b arm) o (bs b 1)) ++ ([(sa, .inl (C.2.2.1, 82, .inr (.inl (mB b))))] : va_W)) H := hP
      have hD : va_D (q_A (wO C mo ev v o ++ ([(sa, .inl (C.2.2.1, 82, .inr (.inl (mB b))))] : va_W)) s) (wO C mo ev (valsN b arm (bp b arm) (bs b 1)) (ownsN b arm (bp b arm) o (bs b 1)) ++ ([(sa, .inl (C.2.2.1, 82, .inr (.inl (mB b))))] : va_W)) := hD
      refine W.eq (g2 := F0 m 32 ls [.long (lN (idxN b arm (bp b arm)))]) rfl ?_
      refine lv_ldc2 hx hb hown hk109 dX5_worth_32 ?_
      refine q_tl (y := lN 10) (by decide) ?_
      refine lv_lload hx hb dX5_worth_35 (lv_at hl 0 rfl) ?_
      refine lv_lmul hx hb dX5_worth_37 ?_
      refine q_tl (y := lN 0) (by decide) ?_
      refine lv_ldc2 hx hb hown hk69 dX5_worth_38 ?_
      refine q_tl (y := lN 100) (by decide) ?_
      refine lv_aload_n hx hb dX5_worth_41 rfl (lv_at hl 2 rfl) ?_
      refine lv_iconst (v := nI 0) hx hb dX5_worth_42 (by decide) ?_
      refine q_lald (n := 0) (v := mB b 0) hx hb hK hP 3 rfl (by decide) (by decide) rfl dX5_worth_43 ?_
      refine q_tl (y := lN (bs b 0)) (mB_s b (by decide)) ?_
      refine lv_lsub hx hb dX5_worth_44 ?_
      refine q_tl (y := lN (100 - (bs b 0))) (lN_sub (by omega)) ?_
      refine lv_lmul hx hb dX5_worth_45 ?_
      refine q_tl (y := lN (0 * (100 - (bs b 0)))) (lN_mul _ _) ?_
      refine lv_lsub hx hb dX5_worth_46 ?_
      refine q_tl (y := zL (scN b (idxT b) rule arm)) (zL_w2 hp4 c5 c18) ?_
      refine lv_goto (tgt := 65) hx hb dX5_worth_47 (by decide) ?_
      exact q_lret hx hb hr hlocks (w1 := wO C mo ev (valsN b arm (bp b arm) (bs b 1)) (ownsN b arm (bp b arm) o (bs b 1)) ++ ([(sa, .inl (C.2.2.1, 82, .inr (.inl (mB b))))] : va_W)) hP hS rfl dX5_worth_65 (⟨_, _, rfl, rfl⟩)
  · have c5 : othB b arm = true := q_b1.mp c5
    refine lv_aload_n hx hb dX5_worth_8 rfl (lv_at hl 1 rfl) ?_
    refine lv_iconst (v := nI 2) hx hb dX5_worth_9 (by decide) ?_
    refine q_lald (n := 2) (v := mB b 2) hx hb hK hP 3 rfl (by decide) (by decide) rfl dX5_worth_10 ?_
    refine q_tl (y := lN (bs b 2)) (mB_s b (by decide)) ?_
    refine lv_goto (tgt := 15) hx hb dX5_worth_11 (by decide) ?_
    refine lv_lstore (lv' := [(4, .long (lN (bs b 2))), (0, .ref (mo 0)), (1, .ref sa), (2, .int (nI arm)), (3, .int (nI rule))]) hx hb dX5_worth_15 hl (by decide) rfl (fun ls hl => ?_)
    refine lv_iload_n hx hb dX5_worth_17 rfl (lv_at hl 4 rfl) ?_
    refine lv_if_ne (tgt := 50) hx hb dX5_worth_18 (by decide) (fun c18 => ?_) (fun c18 => ?_)
    · have c18 : rule ≠ 0 := q_nne0 (by omega) (by omega) c18
      refine lv_aload_n hx hb dX5_worth_50 rfl (lv_at hl 2 rfl) ?_
      refine lv_iload_n hx hb dX5_worth_51 rfl (lv_at hl 3 rfl) ?_
      refine lv_aload_n hx hb dX5_worth_52 rfl (lv_at hl 2 rfl) ?_
      refine lv_iload_n hx hb dX5_worth_53 rfl (lv_at hl 3 rfl) ?_
      refine q_S (As := [.ref sa, .int (nI arm)]) (rest := [.int (nI arm), .ref sa]) ⟨hx, hb, hml, hown, hts⟩ (c_X5_stands l C sa b arm (by omega)) (va_cwS 2 hts gX5_worth_X5_stands rfl rfl rfl (by decide +kernel) ⟨Nat.le_of_ble_eq_true rfl, Nat.le_of_ble_eq_true rfl⟩) hK hP hD hS hA [3] (by decide) rfl rfl hl.1 rfl (Nat.le_of_ble_eq_true rfl) dX5_worth_54 (Nat.zero_le _) (Nat.zero_le _) (fun r w1 H locs hQ hP hD hS => ?_)
      obtain ⟨rfl, rfl⟩ := hQ
      have hP : va_P C.1 vwCl (wO C mo ev v o ++ ([(sa, .inl (C.2.2.1, 82, .inr (.inl (mB b))))] : va_W)) H := hP
      have hD : va_D (q_A (wO C mo ev v o ++ ([(sa, .inl (C.2.2.1, 82, .inr (.inl (mB b))))] : va_W)) s) (wO C mo ev v o ++ ([(sa, .inl (C.2.2.1, 82, .inr (.inl (mB b))))] : va_W)) := hD
      refine W.eq (g2 := F0 m 57 ls [.int (nI (bp b arm)), .int (nI arm), .ref sa]) rfl ?_
      refine lv_iconst (v := nI 0) hx hb dX5_worth_57 (by decide) ?_
      refine q_S (As := [.ref sa, .int (nI arm), .int (nI (bp b arm)), .int (nI 0)]) (rest := []) ⟨hx, hb, hml, hown, hts⟩ (c_X5_of l C sa b arm (bp b arm) 0 (by omega) (by omega) (by omega)) (va_cwS 4 hts gX5_worth_X5_of rfl rfl rfl (by decide +kernel) ⟨Nat.le_of_ble_eq_true rfl, Nat.le_of_ble_eq_true rfl⟩) hK hP hD hS hA [3] (by decide) rfl rfl hl.1 rfl (Nat.le_of_ble_eq_true rfl) dX5_worth_58 (Nat.zero_le _) (Nat.zero_le _) (fun r w1 H locs hQ hP hD hS => ?_)
      obtain ⟨rfl, rfl⟩ := hQ
      have hP : va_P C.1 vwCl (wO C mo ev v o ++ ([(sa, .inl (C.2.2.1, 82, .inr (.inl (mB b))))] : va_W)) H := hP
      have hD : va_D (q_A (wO C mo ev v o ++ ([(sa, .inl (C.2.2.1, 82, .inr (.inl (mB b))))] : va_W)) s) (wO C mo ev v o ++ ([(sa, .inl (C.2.2.1, 82, .inr (.inl (mB b))))] : va_W)) := hD
      refine W.eq (g2 := F0 m 61 ls [.int (nI (bg b (4 * arm + (bp b arm))))]) rfl ?_
      refine lv_i2l (v := lN (bg b (4 * arm + (bp b arm)))) hx hb dX5_worth_61 (nI_l (by omega)) ?_
      refine lv_lload hx hb dX5_worth_62 (lv_at hl 0 rfl) ?_
      refine lv_lsub hx hb dX5_worth_64 ?_
      refine q_tl (y := zL (scN b (idxT b) rule arm)) (zL_w3 c5 c18) ?_
      exact q_lret hx hb hr hlocks (w1 := wO C mo ev v o ++ ([(sa, .inl (C.2.2.1, 82, .inr (.inl (mB b))))] : va_W)) hP hS rfl dX5_worth_65 (⟨_, _, rfl, rfl⟩)
    · have c18 : rule = 0 := q_nne0' (by omega) (by omega) c18
      refine lv_aload_n hx hb dX5_worth_21 rfl (lv_at hl 1 rfl) ?_
      refine lv_aload_n hx hb dX5_worth_22 rfl (lv_at hl 2 rfl) ?_
      refine lv_iload_n hx hb dX5_worth_23 rfl (lv_at hl 3 rfl) ?_
      refine lv_aload_n hx hb dX5_worth_24 rfl (lv_at hl 2 rfl) ?_
      refine lv_iload_n hx hb dX5_worth_25 rfl (lv_at hl 3 rfl) ?_
      refine q_S (As := [.ref sa, .int (nI arm)]) (rest := [.int (nI arm), .ref sa, .ref (mo 0)]) ⟨hx, hb, hml, hown, hts⟩ (c_X5_stands l C sa b arm (by omega)) (va_cwS 2 hts gX5_worth_X5_stands rfl rfl rfl (by decide +kernel) ⟨Nat.le_of_ble_eq_true rfl, Nat.le_of_ble_eq_true rfl⟩) hK hP hD hS hA [3] (by decide) rfl rfl hl.1 rfl (Nat.le_of_ble_eq_true rfl) dX5_worth_26 (Nat.zero_le _) (Nat.zero_le _) (fun r w1 H locs hQ hP hD hS => ?_)
      obtain ⟨rfl, rfl⟩ := hQ
      have hP : va_P C.1 vwCl (wO C mo ev v o ++ ([(sa, .inl (C.2.2.1, 82, .inr (.inl (mB b))))] : va_W)) H := hP
      have hD : va_D (q_A (wO C mo ev v o ++ ([(sa, .inl (C.2.2.1, 82, .inr (.inl (mB b))))] : va_W)) s) (wO C mo ev v o ++ ([(sa, .inl (C.2.2.1, 82, .inr (.inl (mB b))))] : va_W)) := hD
      refine W.eq (g2 := F0 m 29 ls [.int (nI (bp b arm)), .int (nI arm), .ref sa, .ref (mo 0)]) rfl ?_
      refine q_V (As := [.ref sa, .int (nI arm), .int (nI (bp b arm))]) (rest := []) ⟨hx, hb, hml, hown, hts⟩ (c_X5_indexOf l C mo ev v o sa b arm (bp b arm) hB (by omega) (by omega)) (cwV 3 hts gX5_worth_X5_indexOf rfl rfl rfl (by decide +kernel) ⟨Nat.le_of_ble_eq_true rfl, Nat.le_of_ble_eq_true rfl⟩) hK hP hD hS hA [0, 1, 2, 3] (by decide) rfl 0 rfl rfl rfl rfl hl.1 rfl (Nat.le_of_ble_eq_true rfl) dX5_worth_29 (Nat.zero_le _) (Nat.zero_le _) (fun r w1 H locs hQ hP hD hS => ?_)
      obtain ⟨rfl, rfl⟩ := hQ
      have hP : va_P C.1 vwCl (wO C mo ev (valsN b arm (bp b arm) (bs b 1)) (ownsN b arm (bp b arm) o (bs b 1)) ++ ([(sa, .inl (C.2.2.1, 82, .inr (.inl (mB b))))] : va_W)) H := hP
      have hD : va_D (q_A (wO C mo ev v o ++ ([(sa, .inl (C.2.2.1, 82, .inr (.inl (mB b))))] : va_W)) s) (wO C mo ev (valsN b arm (bp b arm) (bs b 1)) (ownsN b arm (bp b arm) o (bs b 1)) ++ ([(sa, .inl (C.2.2.1, 82, .inr (.inl (mB b))))] : va_W)) := hD
      refine W.eq (g2 := F0 m 32 ls [.long (lN (idxN b arm (bp b arm)))]) rfl ?_
      refine lv_ldc2 hx hb hown hk109 dX5_worth_32 ?_
      refine q_tl (y := lN 10) (by decide) ?_
      refine lv_lload hx hb dX5_worth_35 (lv_at hl 0 rfl) ?_
      refine lv_lmul hx hb dX5_worth_37 ?_
      refine q_tl (y := lN (10 * (bs b 2))) (lN_mul _ _) ?_
      refine lv_ldc2 hx hb hown hk69 dX5_worth_38 ?_
      refine q_tl (y := lN 100) (by decide) ?_
      refine lv_aload_n hx hb dX5_worth_41 rfl (lv_at hl 2 rfl) ?_
      refine lv_iconst (v := nI 0) hx hb dX5_worth_42 (by decide) ?_
      refine q_lald (n := 0) (v := mB b 0) hx hb hK hP 3 rfl (by decide) (by decide) rfl dX5_worth_43 ?_
      refine q_tl (y := lN (bs b 0)) (mB_s b (by decide)) ?_
      refine lv_lsub hx hb dX5_worth_44 ?_
      refine q_tl (y := lN (100 - (bs b 0))) (lN_sub (by omega)) ?_
      refine lv_lmul hx hb dX5_worth_45 ?_
      refine q_tl (y := lN ((10 * (bs b 2)) * (100 - (bs b 0)))) (lN_mul _ _) ?_
      refine lv_lsub hx hb dX5_worth_46 ?_
      refine q_tl (y := zL (scN b (idxT b) rule arm)) (zL_w1 hp4 c5 c18) ?_
      refine lv_goto (tgt := 65) hx hb dX5_worth_47 (by decide) ?_
      exact q_lret hx hb hr hlocks (w1 := wO C mo ev (valsN b arm (bp b arm) (bs b 1)) (ownsN b arm (bp b arm) o (bs b 1)) ++ ([(sa, .inl (C.2.2.1, 82, .inr (.inl (mB b))))] : va_W)) hP hS rfl dX5_worth_65 (⟨_, _, rfl, rfl⟩)
set_option maxHeartbeats 4000000 in
set_option maxRecDepth 100000 in
theorem c_X5_chosen (l : Launch) (C : q_C) (mo : Nat → Nat) (ev : Nat → Int32) (v o : Nat → Nat) (sa : Nat) (b : Bd) (rule : Nat) (hB : OkB b) (hr3 : rule < 3) : q_M C l yX5_chosen wsX5_chosen 5 120 [.ref (mo 0), .ref sa, .int (nI rule)] (wO C mo ev v o ++ ([(sa, .inl (C.2.2.1, 82, .inr (.inl (mB b))))] : va_W)) (fun r w => ∃ v1 o1, r = some (.int (nI (choN b (idxT b) rule))) ∧ w = wO C mo ev v1 o1 ++ ([(sa, .inl (C.2.2.1, 82, .inr (.inl (mB b))))] : va_W)) := by
  obtain ⟨ok1, ok2, ⟨ok3, ok4, ok5, ok6, ok7⟩, ok8, ok9⟩ := id hB
  refine q_head (cc := cX5_chosen) (maxL := 9) (ret := (some .int)) (by decide +kernel) rfl (Nat.le_of_ble_eq_true rfl) ?_
  intro p e s m below meth c hx hb hr hlocks hml hown hts hK hP hD hS hA ls hl
  have hl : lv_has ls 9 [(0, .ref (mo 0)), (1, .ref sa), (2, .int (nI rule))] := hl
  have hk36 := hts (.constantLong RX5 36 (-1)) (by decide +kernel)
  refine lv_iload_n hx hb dX5_chosen_0 rfl (lv_at hl 2 rfl) ?_
  refine lv_iconst (v := nI 2) hx hb dX5_chosen_1 (by decide) ?_
  refine lv_icmp_ne (tgt := 15) hx hb dX5_chosen_2 (by decide) (fun c2 => ?_) (fun c2 => ?_)
  · have c2 : rule ≠ 2 := q_nne (by omega) (by omega) c2
    refine lv_aload_n hx hb dX5_chosen_15 rfl (lv_at hl 1 rfl) ?_
    refine lv_bipush (v := nI 6) hx hb dX5_chosen_16 (by decide) ?_
    refine q_lald (n := 6) (v := mB b 6) hx hb hK hP 3 rfl (by decide) (by decide) rfl dX5_chosen_18 ?_
    refine q_tl (y := lN (bl b) - 1) (mB_6 b) ?_
    refine lv_ldc2 hx hb hown hk36 dX5_chosen_19 ?_
    refine W.lcmp hx hb dX5_chosen_22 ?_
    refine lv_if_ne (tgt := 30) hx hb dX5_chosen_23 (by decide) (fun c23 => ?_) (fun c23 => ?_)
    · have c23 : (lN (bl b) - 1) ≠ (-1) := q_lne c23
      refine lv_aload_n hx hb dX5_chosen_30 rfl (lv_at hl 1 rfl) ?_
      refine lv_bipush (v := nI 6) hx hb dX5_chosen_31 (by decide) ?_
      refine q_lald (n := 6) (v := mB b 6) hx hb hK hP 3 rfl (by decide) (by decide) rfl dX5_chosen_33 ?_
      have hb0 : ¬ bl b = 0 := fun q => c23 ((lN_las (by omega)).mpr q)
      refine q_tl (y := lN (bl b - 1)) (by rw [mB_6]; exact lN_lsp (Nat.pos_of_ne_zero hb0)) ?_
      refine lv_l2i (v := nI (bl b - 1)) hx hb dX5_chosen_34 (lN_i _) ?_
      refine lv_istore_n (lv' := [(3, .int (nI (bl b - 1))), (0, .ref (mo 0)), (1, .ref sa), (2, .int (nI rule))]) hx hb dX5_chosen_35 rfl hl (by decide) rfl (fun ls hl => ?_)
      refine lv_aload_n hx hb dX5_chosen_36 rfl (lv_at hl 1 rfl) ?_
      refine lv_aload_n hx hb dX5_chosen_37 rfl (lv_at hl 2 rfl) ?_
      refine lv_iload_n hx hb dX5_chosen_38 rfl (lv_at hl 0 rfl) ?_
      refine lv_iload_n hx hb dX5_chosen_39 rfl (lv_at hl 3 rfl) ?_
      refine q_V (As := [.ref sa, .int (nI (bl b - 1)), .int (nI rule)]) (rest := []) ⟨hx, hb, hml, hown, hts⟩ (c_X5_worth l C mo ev v o sa b (bl b - 1) rule hB (by omega) (by omega)) (cwV 3 hts gX5_chosen_X5_worth rfl rfl rfl (by decide +kernel) ⟨Nat.le_of_ble_eq_true rfl, Nat.le_of_ble_eq_true rfl⟩) hK hP hD hS hA [0, 1, 2, 3] (by decide) rfl 0 rfl rfl rfl rfl hl.1 rfl (Nat.le_of_ble_eq_true rfl) dX5_chosen_40 (Nat.zero_le _) (Nat.zero_le _) (fun r w1 H locs hQ hP hD hS => ?_)
      obtain ⟨vx1, ox1, rfl, rfl⟩ := hQ
      have hP : va_P C.1 vwCl (wO C mo ev vx1 ox1 ++ ([(sa, .inl (C.2.2.1, 82, .inr (.inl (mB b))))] : va_W)) H := hP
      have hD : va_D (q_A (wO C mo ev v o ++ ([(sa, .inl (C.2.2.1, 82, .inr (.inl (mB b))))] : va_W)) s) (wO C mo ev vx1 ox1 ++ ([(sa, .inl (C.2.2.1, 82, .inr (.inl (mB b))))] : va_W)) := hD
      refine W.eq (g2 := F0 m 43 ls [.long (zL (scN b (idxT b) rule (bl b - 1)))]) rfl ?_
      refine lv_lstore (lv' := [(4, .long (zL (scN b (idxT b) rule (bl b - 1)))), (3, .int (nI (bl b - 1))), (0, .ref (mo 0)), (1, .ref sa), (2, .int (nI rule))]) hx hb dX5_chosen_43 hl (by decide) rfl (fun ls hl => ?_)
      refine lv_iconst (v := nI 0) hx hb dX5_chosen_45 (by decide) ?_
      refine lv_istore (lv' := [(6, .int (nI 0)), (4, .long (zL (scN b (idxT b) rule (bl b - 1)))), (3, .int (nI (bl b - 1))), (0, .ref (mo 0)), (1, .ref sa), (2, .int (nI rule))]) hx hb dX5_chosen_46 hl (by decide) rfl (fun ls hl => ?_)
      have K48 : ∀ (n48 i48 : Nat), ∀ (g48 : Nat) (v48 : Nat → Nat) (o48 : Nat → Nat), i48 ≤ 4 → 4 + 1 ≤ i48 + n48 → (gsN (scN b (idxT b) rule) (bl b - 1) i48 = g48) → (g48 < 4) → ∀ (H : Heap) (locs : List Loc) (ls : Array Slot), va_P C.1 vwCl (wO C mo ev v48 o48 ++ ([(sa, .inl (C.2.2.1, 82, .inr (.inl (mB b))))] : va_W)) H → va_D (q_A (wO C mo ev v o ++ ([(sa, .inl (C.2.2.1, 82, .inr (.inl (mB b))))] : va_W)) s) (wO C mo ev v48 o48 ++ ([(sa, .inl (C.2.2.1, 82, .inr (.inl (mB b))))] : va_W)) → va_S (q_A (wO C mo ev v o ++ ([(sa, .inl (C.2.2.1, 82, .inr (.inl (mB b))))] : va_W)) s) s.heap H locs → lv_has ls 9 [(6, .int (nI i48)), (4, .long (zL (scN b (idxT b) rule g48))), (3, .int (nI g48)), (0, .ref (mo 0)), (1, .ref sa), (2, .int (nI rule))] → W p l e (q_R 5 120) s m ([.ref (mo 0), .ref sa, .int (nI rule)] : List Value).toArray below meth c H locs 0 0 (q_G C below (wO C mo ev v o ++ ([(sa, .inl (C.2.2.1, 82, .inr (.inl (mB b))))] : va_W)) (fun r w => ∃ v1 o1, r = some (.int (nI (choN b (idxT b) rule))) ∧ w = wO C mo ev v1 o1 ++ ([(sa, .inl (C.2.2.1, 82, .inr (.inl (mB b))))] : va_W)) ([.ref (mo 0), .ref sa, .int (nI rule)] : List Value).toArray s) (F0 m 48 ls []) := by
        intro n48
        induction n48 with
        | zero => intro i48 g48 v48 o48 q1 q2; exact absurd q2 (by omega)
        | succ n48 ih48 =>
          intro i48 g48 v48 o48 hi48 hn48 hG48 hg48 H locs ls hP hD hS hl
          refine lv_iload hx hb dX5_chosen_48 (lv_at hl 0 rfl) ?_
          refine lv_iconst (v := nI 4) hx hb dX5_chosen_50 (by decide) ?_
          refine lv_icmp_ge (tgt := 102) hx hb dX5_chosen_51 (by decide) (fun c51 => ?_) (fun c51 => ?_)
          · have c51 : 4 ≤ i48 := q_nge (by omega) (by omega) c51
            refine lv_iload_n hx hb dX5_chosen_102 rfl (lv_at hl 2 rfl) ?_
            exact q_iret hx hb hr hlocks (w1 := wO C mo ev v48 o48 ++ ([(sa, .inl (C.2.2.1, 82, .inr (.inl (mB b))))] : va_W)) hP hS rfl dX5_chosen_103 (⟨_, _, by rw [choN, if_neg (show ¬ rule = 2 by omega), show (4 : Nat) = i48 by omega, hG48], rfl⟩)
          · have c51 : i48 < 4 := q_nge' (by omega) (by omega) c51
            refine lv_aload_n hx hb dX5_chosen_54 rfl (lv_at hl 3 rfl) ?_
            refine lv_aload_n hx hb dX5_chosen_55 rfl (lv_at hl 4 rfl) ?_
            refine lv_iload hx hb dX5_chosen_56 (lv_at hl 0 rfl) ?_
            refine lv_iload_n hx hb dX5_chosen_58 rfl (lv_at hl 5 rfl) ?_
            refine q_V (As := [.ref sa, .int (nI i48), .int (nI rule)]) (rest := []) ⟨hx, hb, hml, hown, hts⟩ (c_X5_worth l C mo ev v48 o48 sa b i48 rule hB (by omega) (by omega)) (cwV 3 hts gX5_chosen_X5_worth rfl rfl rfl (by decide +kernel) ⟨Nat.le_of_ble_eq_true rfl, Nat.le_of_ble_eq_true rfl⟩) hK hP hD hS hA [0, 1, 2, 3] (by decide) rfl 0 rfl rfl rfl rfl hl.1 rfl (Nat.le_of_ble_eq_true rfl) dX5_chosen_59 (Nat.zero_le _) (Nat.zero_le _) (fun r w1 H locs hQ hP hD hS => ?_)
            obtain ⟨vx2, ox2, rfl, rfl⟩ := hQ
            have hP : va_P C.1 vwCl (wO C mo ev vx2 ox2 ++ ([(sa, .inl (C.2.2.1, 82, .inr (.inl (mB b))))] : va_W)) H := hP
            have hD : va_D (q_A (wO C mo ev v o ++ ([(sa, .inl (C.2.2.1, 82, .inr (.inl (mB b))))] : va_W)) s) (wO C mo ev vx2 ox2 ++ ([(sa, .inl (C.2.2.1, 82, .inr (.inl (mB b))))] : va_W)) := hD
            refine W.eq (g2 := F0 m 62 ls [.long (zL (scN b (idxT b) rule i48))]) rfl ?_
            refine lv_lstore (lv' := [(7, .long (zL (scN b (idxT b) rule i48))), (6, .int (nI i48)), (4, .long (zL (scN b (idxT b) rule g48))), (3, .int (nI g48)), (0, .ref (mo 0)), (1, .ref sa), (2, .int (nI rule))]) hx hb dX5_chosen_62 hl (by decide) rfl (fun ls hl => ?_)
            refine lv_lload hx hb dX5_chosen_64 (lv_at hl 0 rfl) ?_
            refine lv_lload hx hb dX5_chosen_66 (lv_at hl 2 rfl) ?_
            refine W.lcmp hx hb dX5_chosen_68 ?_
            refine lv_if_le (tgt := 77) hx hb dX5_chosen_69 (by decide) (fun c69 => ?_) (fun c69 => ?_)
            · have c69 : (zL (scN b (idxT b) rule i48)) ≤ (zL (scN b (idxT b) rule g48)) := q_lle c69
              refine lv_iload_n hx hb dX5_chosen_77 rfl (lv_at hl 3 rfl) ?_
              refine lv_istore_n (lv' := [(3, .int (nI g48)), (7, .long (zL (scN b (idxT b) rule i48))), (6, .int (nI i48)), (4, .long (zL (scN b (idxT b) rule g48))), (0, .ref (mo 0)), (1, .ref sa), (2, .int (nI rule))]) hx hb dX5_chosen_78 rfl hl (by decide) rfl (fun ls hl => ?_)
              refine lv_lload hx hb dX5_chosen_79 (lv_at hl 1 rfl) ?_
              refine lv_lload hx hb dX5_chosen_81 (lv_at hl 3 rfl) ?_
              refine W.lcmp hx hb dX5_chosen_83 ?_
              refine lv_if_le (tgt := 92) hx hb dX5_chosen_84 (by decide) (fun c84 => ?_) (fun c84 => ?_)
              · have c84 : (zL (scN b (idxT b) rule i48)) ≤ (zL (scN b (idxT b) rule g48)) := q_lle c84
                refine lv_lload hx hb dX5_chosen_92 (lv_at hl 3 rfl) ?_
                refine lv_lstore (lv' := [(4, .long (zL (scN b (idxT b) rule g48))), (3, .int (nI g48)), (7, .long (zL (scN b (idxT b) rule i48))), (6, .int (nI i48)), (0, .ref (mo 0)), (1, .ref sa), (2, .int (nI rule))]) hx hb dX5_chosen_94 hl (by decide) rfl (fun ls hl => ?_)
                refine lv_iinc (v := nI (i48 + 1)) (lv' := [(6, .int (nI (i48 + 1))), (4, .long (zL (scN b (idxT b) rule g48))), (3, .int (nI g48)), (7, .long (zL (scN b (idxT b) rule i48))), (0, .ref (mo 0)), (1, .ref sa), (2, .int (nI rule))]) hx hb dX5_chosen_96 hl (k := 3) rfl (nI_1 _) (by decide) rfl (fun ls hl => ?_)
                refine lv_goto (tgt := 48) hx hb dX5_chosen_99 (by decide) ?_
                exact ih48 (i48 + 1) g48 vx2 ox2 (by omega) (by omega) (by show (if scN b (idxT b) rule (gsN (scN b (idxT b) rule) (bl b - 1) i48) < scN b (idxT b) rule i48 then _ else _) = _; rw [hG48, if_neg (Int.not_lt.mpr ((zL_le (scN_in hB (idxT_le hB) (show i48 < 4 by omega)).1 (scN_in hB (idxT_le hB) (show i48 < 4 by omega)).2 (scN_in hB (idxT_le hB) hg48).1 (scN_in hB (idxT_le hB) hg48).2).mp c69))]) hg48 _ _ ls hP hD hS (lv_sub hl [0, 1, 2, 4, 5, 6] rfl)
              · have c84 : (zL (scN b (idxT b) rule g48)) < (zL (scN b (idxT b) rule i48)) := q_lle' c84
                exact absurd c69 (Int64.not_le.mpr c84)
            · have c69 : (zL (scN b (idxT b) rule g48)) < (zL (scN b (idxT b) rule i48)) := q_lle' c69
              refine lv_iload hx hb dX5_chosen_72 (lv_at hl 1 rfl) ?_
              refine lv_goto (tgt := 78) hx hb dX5_chosen_74 (by decide) ?_
              refine lv_istore_n (lv' := [(3, .int (nI i48)), (7, .long (zL (scN b (idxT b) rule i48))), (6, .int (nI i48)), (4, .long (zL (scN b (idxT b) rule g48))), (0, .ref (mo 0)), (1, .ref sa), (2, .int (nI rule))]) hx hb dX5_chosen_78 rfl hl (by decide) rfl (fun ls hl => ?_)
              refine lv_lload hx hb dX5_chosen_79 (lv_at hl 1 rfl) ?_
              refine lv_lload hx hb dX5_chosen_81 (lv_at hl 3 rfl) ?_
              refine W.lcmp hx hb dX5_chosen_83 ?_
              refine lv_if_le (tgt := 92) hx hb dX5_chosen_84 (by decide) (fun c84 => ?_) (fun c84 => ?_)
              · have c84 : (zL (scN b (idxT b) rule i48)) ≤ (zL (scN b (idxT b) rule g48)) := q_lle c84
                exact absurd c84 (Int64.not_le.mpr c69)
              have c84 : (zL (scN b (idxT b) rule g48)) < (zL (scN b (idxT b) rule i48)) := q_lle' c84
              refine lv_lload hx hb dX5_chosen_87 (lv_at hl 1 rfl) ?_
              refine lv_goto (tgt := 94) hx hb dX5_chosen_89 (by decide) ?_
              refine lv_lstore (lv' := [(4, .long (zL (scN b (idxT b) rule i48))), (3, .int (nI i48)), (7, .long (zL (scN b (idxT b) rule i48))), (6, .int (nI i48)), (0, .ref (mo 0)), (1, .ref sa), (2, .int (nI rule))]) hx hb dX5_chosen_94 hl (by decide) rfl (fun ls hl => ?_)
              refine lv_iinc (v := nI (i48 + 1)) (lv' := [(6, .int (nI (i48 + 1))), (4, .long (zL (scN b (idxT b) rule i48))), (3, .int (nI i48)), (7, .long (zL (scN b (idxT b) rule i48))), (0, .ref (mo 0)), (1, .ref sa), (2, .int (nI rule))]) hx hb dX5_chosen_96 hl (k := 3) rfl (nI_1 _) (by decide) rfl (fun ls hl => ?_)
              refine lv_goto (tgt := 48) hx hb dX5_chosen_99 (by decide) ?_
              exact ih48 (i48 + 1) i48 vx2 ox2 (by omega) (by omega) (by show (if scN b (idxT b) rule (gsN (scN b (idxT b) rule) (bl b - 1) i48) < scN b (idxT b) rule i48 then _ else _) = _; rw [hG48, if_pos ((zL_lt (scN_in hB (idxT_le hB) hg48).1 (scN_in hB (idxT_le hB) hg48).2 (scN_in hB (idxT_le hB) (show i48 < 4 by omega)).1 (scN_in hB (idxT_le hB) (show i48 < 4 by omega)).2).mp c69)]) (by omega) _ _ ls hP hD hS (lv_sub hl [0, 1, 2, 4, 5, 6] rfl)
      exact K48 (4 + 1 - 0) 0 (bl b - 1) vx1 ox1 (by omega) (by omega) rfl (by omega) _ _ ls hP hD hS (lv_sub hl [0, 1, 2, 3, 4, 5] rfl)
    · have c23 : (lN (bl b) - 1) = (-1) := q_lne' c23
      refine lv_iconst (v := nI 0) hx hb dX5_chosen_26 (by decide) ?_
      refine lv_goto (tgt := 35) hx hb dX5_chosen_27 (by decide) ?_
      have hb0 : bl b = 0 := (lN_las (by omega)).mp c23
      refine q_ti (y := nI (bl b - 1)) (congrArg nI (by omega)) ?_
      refine lv_istore_n (lv' := [(3, .int (nI (bl b - 1))), (0, .ref (mo 0)), (1, .ref sa), (2, .int (nI rule))]) hx hb dX5_chosen_35 rfl hl (by decide) rfl (fun ls hl => ?_)
      refine lv_aload_n hx hb dX5_chosen_36 rfl (lv_at hl 1 rfl) ?_
      refine lv_aload_n hx hb dX5_chosen_37 rfl (lv_at hl 2 rfl) ?_
      refine lv_iload_n hx hb dX5_chosen_38 rfl (lv_at hl 0 rfl) ?_
      refine lv_iload_n hx hb dX5_chosen_39 rfl (lv_at hl 3 rfl) ?_
      refine q_V (As := [.ref sa, .int (nI (bl b - 1)), .int (nI rule)]) (rest := []) ⟨hx, hb, hml, hown, hts⟩ (c_X5_worth l C mo ev v o sa b (bl b - 1) rule hB (by omega) (by omega)) (cwV 3 hts gX5_chosen_X5_worth rfl rfl rfl (by decide +kernel) ⟨Nat.le_of_ble_eq_true rfl, Nat.le_of_ble_eq_true rfl⟩) hK hP hD hS hA [0, 1, 2, 3] (by decide) rfl 0 rfl rfl rfl rfl hl.1 rfl (Nat.le_of_ble_eq_true rfl) dX5_chosen_40 (Nat.zero_le _) (Nat.zero_le _) (fun r w1 H locs hQ hP hD hS => ?_)
      obtain ⟨vx3, ox3, rfl, rfl⟩ := hQ
      have hP : va_P C.1 vwCl (wO C mo ev vx3 ox3 ++ ([(sa, .inl (C.2.2.1, 82, .inr (.inl (mB b))))] : va_W)) H := hP
      have hD : va_D (q_A (wO C mo ev v o ++ ([(sa, .inl (C.2.2.1, 82, .inr (.inl (mB b))))] : va_W)) s) (wO C mo ev vx3 ox3 ++ ([(sa, .inl (C.2.2.1, 82, .inr (.inl (mB b))))] : va_W)) := hD
      refine W.eq (g2 := F0 m 43 ls [.long (zL (scN b (idxT b) rule (bl b - 1)))]) rfl ?_
      refine lv_lstore (lv' := [(4, .long (zL (scN b (idxT b) rule (bl b - 1)))), (3, .int (nI (bl b - 1))), (0, .ref (mo 0)), (1, .ref sa), (2, .int (nI rule))]) hx hb dX5_chosen_43 hl (by decide) rfl (fun ls hl => ?_)
      refine lv_iconst (v := nI 0) hx hb dX5_chosen_45 (by decide) ?_
      refine lv_istore (lv' := [(6, .int (nI 0)), (4, .long (zL (scN b (idxT b) rule (bl b - 1)))), (3, .int (nI (bl b - 1))), (0, .ref (mo 0)), (1, .ref sa), (2, .int (nI rule))]) hx hb dX5_chosen_46 hl (by decide) rfl (fun ls hl => ?_)
      have K48 : ∀ (n48 i48 : Nat), ∀ (g48 : Nat) (v48 : Nat → Nat) (o48 : Nat → Nat), i48 ≤ 4 → 4 + 1 ≤ i48 + n48 → (gsN (scN b (idxT b) rule) (bl b - 1) i48 = g48) → (g48 < 4) → ∀ (H : Heap) (locs : List Loc) (ls : Array Slot), va_P C.1 vwCl (wO C mo ev v48 o48 ++ ([(sa, .inl (C.2.2.1, 82, .inr (.inl (mB b))))] : va_W)) H → va_D (q_A (wO C mo ev v o ++ ([(sa, .inl (C.2.2.1, 82, .inr (.inl (mB b))))] : va_W)) s) (wO C mo ev v48 o48 ++ ([(sa, .inl (C.2.2.1, 82, .inr (.inl (mB b))))] : va_W)) → va_S (q_A (wO C mo ev v o ++ ([(sa, .inl (C.2.2.1, 82, .inr (.inl (mB b))))] : va_W)) s) s.heap H locs → lv_has ls 9 [(6, .int (nI i48)), (4, .long (zL (scN b (idxT b) rule g48))), (3, .int (nI g48)), (0, .ref (mo 0)), (1, .ref sa), (2, .int (nI rule))] → W p l e (q_R 5 120) s m ([.ref (mo 0), .ref sa, .int (nI rule)] : List Value).toArray below meth c H locs 0 0 (q_G C below (wO C mo ev v o ++ ([(sa, .inl (C.2.2.1, 82, .inr (.inl (mB b))))] : va_W)) (fun r w => ∃ v1 o1, r = some (.int (nI (choN b (idxT b) rule))) ∧ w = wO C mo ev v1 o1 ++ ([(sa, .inl (C.2.2.1, 82, .inr (.inl (mB b))))] : va_W)) ([.ref (mo 0), .ref sa, .int (nI rule)] : List Value).toArray s) (F0 m 48 ls []) := by
        intro n48
        induction n48 with
        | zero => intro i48 g48 v48 o48 q1 q2; exact absurd q2 (by omega)
        | succ n48 ih48 =>
          intro i48 g48 v48 o48 hi48 hn48 hG48 hg48 H locs ls hP hD hS hl
          refine lv_iload hx hb dX5_chosen_48 (lv_at hl 0 rfl) ?_
          refine lv_iconst (v := nI 4) hx hb dX5_chosen_50 (by decide) ?_
          refine lv_icmp_ge (tgt := 102) hx hb dX5_chosen_51 (by decide) (fun c51 => ?_) (fun c51 => ?_)
          · have c51 : 4 ≤ i48 := q_nge (by omega) (by omega) c51
            refine lv_iload_n hx hb dX5_chosen_102 rfl (lv_at hl 2 rfl) ?_
            exact q_iret hx hb hr hlocks (w1 := wO C mo ev v48 o48 ++ ([(sa, .inl (C.2.2.1, 82, .inr (.inl (mB b))))] : va_W)) hP hS rfl dX5_chosen_103 (⟨_, _, by rw [choN, if_neg (show ¬ rule = 2 by omega), show (4 : Nat) = i48 by omega, hG48], rfl⟩)
          · have c51 : i48 < 4 := q_nge' (by omega) (by omega) c51
            refine lv_aload_n hx hb dX5_chosen_54 rfl (lv_at hl 3 rfl) ?_
            refine lv_aload_n hx hb dX5_chosen_55 rfl (lv_at hl 4 rfl) ?_
            refine lv_iload hx hb dX5_chosen_56 (lv_at hl 0 rfl) ?_
            refine lv_iload_n hx hb dX5_chosen_58 rfl (lv_at hl 5 rfl) ?_
            refine q_V (As := [.ref sa, .int (nI i48), .int (nI rule)]) (rest := []) ⟨hx, hb, hml, hown, hts⟩ (c_X5_worth l C mo ev v48 o48 sa b i48 rule hB (by omega) (by omega)) (cwV 3 hts gX5_chosen_X5_worth rfl rfl rfl (by decide +kernel) ⟨Nat.le_of_ble_eq_true rfl, Nat.le_of_ble_eq_true rfl⟩) hK hP hD hS hA [0, 1, 2, 3] (by decide) rfl 0 rfl rfl rfl rfl hl.1 rfl (Nat.le_of_ble_eq_true rfl) dX5_chosen_59 (Nat.zero_le _) (Nat.zero_le _) (fun r w1 H locs hQ hP hD hS => ?_)
            obtain ⟨vx4, ox4, rfl, rfl⟩ := hQ
            have hP : va_P C.1 vwCl (wO C mo ev vx4 ox4 ++ ([(sa, .inl (C.2.2.1, 82, .inr (.inl (mB b))))] : va_W)) H := hP
            have hD : va_D (q_A (wO C mo ev v o ++ ([(sa, .inl (C.2.2.1, 82, .inr (.inl (mB b))))] : va_W)) s) (wO C mo ev vx4 ox4 ++ ([(sa, .inl (C.2.2.1, 82, .inr (.inl (mB b))))] : va_W)) := hD
            refine W.eq (g2 := F0 m 62 ls [.long (zL (scN b (idxT b) rule i48))]) rfl ?_
            refine lv_lstore (lv' := [(7, .long (zL (scN b (idxT b) rule i48))), (6, .int (nI i48)), (4, .long (zL (scN b (idxT b) rule g48))), (3, .int (nI g48)), (0, .ref (mo 0)), (1, .ref sa), (2, .int (nI rule))]) hx hb dX5_chosen_62 hl (by decide) rfl (fun ls hl => ?_)
            refine lv_lload hx hb dX5_chosen_64 (lv_at hl 0 rfl) ?_
            refine lv_lload hx hb dX5_chosen_66 (lv_at hl 2 rfl) ?_
            refine W.lcmp hx hb dX5_chosen_68 ?_
            refine lv_if_le (tgt := 77) hx hb dX5_chosen_69 (by decide) (fun c69 => ?_) (fun c69 => ?_)
            · have c69 : (zL (scN b (idxT b) rule i48)) ≤ (zL (scN b (idxT b) rule g48)) := q_lle c69
              refine lv_iload_n hx hb dX5_chosen_77 rfl (lv_at hl 3 rfl) ?_
              refine lv_istore_n (lv' := [(3, .int (nI g48)), (7, .long (zL (scN b (idxT b) rule i48))), (6, .int (nI i48)), (4, .long (zL (scN b (idxT b) rule g48))), (0, .ref (mo 0)), (1, .ref sa), (2, .int (nI rule))]) hx hb dX5_chosen_78 rfl hl (by decide) rfl (fun ls hl => ?_)
              refine lv_lload hx hb dX5_chosen_79 (lv_at hl 1 rfl) ?_
              refine lv_lload hx hb dX5_chosen_81 (lv_at hl 3 rfl) ?_
              refine W.lcmp hx hb dX5_chosen_83 ?_
              refine lv_if_le (tgt := 92) hx hb dX5_chosen_84 (by decide) (fun c84 => ?_) (fun c84 => ?_)
              · have c84 : (zL (scN b (idxT b) rule i48)) ≤ (zL (scN b (idxT b) rule g48)) := q_lle c84
                refine lv_lload hx hb dX5_chosen_92 (lv_at hl 3 rfl) ?_
                refine lv_lstore (lv' := [(4, .long (zL (scN b (idxT b) rule g48))), (3, .int (nI g48)), (7, .long (zL (scN b (idxT b) rule i48))), (6, .int (nI i48)), (0, .ref (mo 0)), (1, .ref sa), (2, .int (nI rule))]) hx hb dX5_chosen_94 hl (by decide) rfl (fun ls hl => ?_)
                refine lv_iinc (v := nI (i48 + 1)) (lv' := [(6, .int (nI (i48 + 1))), (4, .long (zL (scN b (idxT b) rule g48))), (3, .int (nI g48)), (7, .long (zL (scN b (idxT b) rule i48))), (0, .ref (mo 0)), (1, .ref sa), (2, .int (nI rule))]) hx hb dX5_chosen_96 hl (k := 3) rfl (nI_1 _) (by decide) rfl (fun ls hl => ?_)
                refine lv_goto (tgt := 48) hx hb dX5_chosen_99 (by decide) ?_
                exact ih48 (i48 + 1) g48 vx4 ox4 (by omega) (by omega) (by show (if scN b (idxT b) rule (gsN (scN b (idxT b) rule) (bl b - 1) i48) < scN b (idxT b) rule i48 then _ else _) = _; rw [hG48, if_neg (Int.not_lt.mpr ((zL_le (scN_in hB (idxT_le hB) (show i48 < 4 by omega)).1 (scN_in hB (idxT_le hB) (show i48 < 4 by omega)).2 (scN_in hB (idxT_le hB) hg48).1 (scN_in hB (idxT_le hB) hg48).2).mp c69))]) hg48 _ _ ls hP hD hS (lv_sub hl [0, 1, 2, 4, 5, 6] rfl)
              · have c84 : (zL (scN b (idxT b) rule g48)) < (zL (scN b (idxT b) rule i48)) := q_lle' c84
                exact absurd c69 (Int64.not_le.mpr c84)
            · have c69 : (zL (scN b (idxT b) rule g48)) < (zL (scN b (idxT b) rule i48)) := q_lle' c69
              refine lv_iload hx hb dX5_chosen_72 (lv_at hl 1 rfl) ?_
              refine lv_goto (tgt := 78) hx hb dX5_chosen_74 (by decide) ?_
              refine lv_istore_n (lv' := [(3, .int (nI i48)), (7, .long (zL (scN b (idxT b) rule i48))), (6, .int (nI i48)), (4, .long (zL (scN b (idxT b) rule g48))), (0, .ref (mo 0)), (1, .ref sa), (2, .int (nI rule))]) hx hb dX5_chosen_78 rfl hl (by decide) rfl (fun ls hl => ?_)
              refine lv_lload hx hb dX5_chosen_79 (lv_at hl 1 rfl) ?_
              refine lv_lload hx hb dX5_chosen_81 (lv_at hl 3 rfl) ?_
              refine W.lcmp hx hb dX5_chosen_83 ?_
              refine lv_if_le (tgt := 92) hx hb dX5_chosen_84 (by decide) (fun c84 => ?_) (fun c84 => ?_)
              · have c84 : (zL (scN b (idxT b) rule i48)) ≤ (zL (scN b (idxT b) rule g48)) := q_lle c84
                exact absurd c84 (Int64.not_le.mpr c69)
              have c84 : (zL (scN b (idxT b) rule g48)) < (zL (scN b (idxT b) rule i48)) := q_lle' c84
              refine lv_lload hx hb dX5_chosen_87 (lv_at hl 1 rfl) ?_
              refine lv_goto (tgt := 94) hx hb dX5_chosen_89 (by decide) ?_
              refine lv_lstore (lv' := [(4, .long (zL (scN b (idxT b) rule i48))), (3, .int (nI i48)), (7, .long (zL (scN b (idxT b) rule i48))), (6, .int (nI i48)), (0, .ref (mo 0)), (1, .ref sa), (2, .int (nI rule))]) hx hb dX5_chosen_94 hl (by decide) rfl (fun ls hl => ?_)
              refine lv_iinc (v := nI (i48 + 1)) (lv' := [(6, .int (nI (i48 + 1))), (4, .long (zL (scN b (idxT b) rule i48))), (3, .int (nI i48)), (7, .long (zL (scN b (idxT b) rule i48))), (0, .ref (mo 0)), (1, .ref sa), (2, .int (nI rule))]) hx hb dX5_chosen_96 hl (k := 3) rfl (nI_1 _) (by decide) rfl (fun ls hl => ?_)
              refine lv_goto (tgt := 48) hx hb dX5_chosen_99 (by decide) ?_
              exact ih48 (i48 + 1) i48 vx4 ox4 (by omega) (by omega) (by show (if scN b (idxT b) rule (gsN (scN b (idxT b) rule) (bl b - 1) i48) < scN b (idxT b) rule i48 then _ else _) = _; rw [hG48, if_pos ((zL_lt (scN_in hB (idxT_le hB) hg48).1 (scN_in hB (idxT_le hB) hg48).2 (scN_in hB (idxT_le hB) (show i48 < 4 by omega)).1 (scN_in hB (idxT_le hB) (show i48 < 4 by omega)).2).mp c69)]) (by omega) _ _ ls hP hD hS (lv_sub hl [0, 1, 2, 4, 5, 6] rfl)
      exact K48 (4 + 1 - 0) 0 (bl b - 1) vx3 ox3 (by omega) (by omega) rfl (by omega) _ _ ls hP hD hS (lv_sub hl [0, 1, 2, 3, 4, 5] rfl)
  · have c2 : rule = 2 := q_nne' (by omega) (by omega) c2
    refine lv_aload_n hx hb dX5_chosen_5 rfl (lv_at hl 1 rfl) ?_
    refine lv_bipush (v := nI 6) hx hb dX5_chosen_6 (by decide) ?_
    refine q_lald (n := 6) (v := mB b 6) hx hb hK hP 3 rfl (by decide) (by decide) rfl dX5_chosen_8 ?_
    refine q_tl (y := lN (bl b) - 1) (mB_6 b) ?_
    refine lv_lconst (v := lN 1) hx hb dX5_chosen_9 (by decide) ?_
    refine lv_ladd hx hb dX5_chosen_10 ?_
    refine q_tl (y := lN (bl b)) (lN_sp _) ?_
    refine lv_l2i (v := nI (bl b)) hx hb dX5_chosen_11 (lN_i _) ?_
    refine lv_iconst (v := nI 4) hx hb dX5_chosen_12 (by decide) ?_
    refine lv_irem hx hb dX5_chosen_13 (by decide) ?_
    refine q_ti (y := nI (bl b % 4)) (pk_rem (by omega) (by decide) (by decide)) ?_
    exact q_iret hx hb hr hlocks (w1 := wO C mo ev v o ++ ([(sa, .inl (C.2.2.1, 82, .inr (.inl (mB b))))] : va_W)) hP hS rfl dX5_chosen_14 (⟨v, o, by rw [choN, if_pos (show rule = 2 by omega)], rfl⟩)
set_option maxHeartbeats 4000000 in
set_option maxRecDepth 100000 in
theorem c_X5_plays (l : Launch) (C : q_C) (mo : Nat → Nat) (ev : Nat → Int32) (v o : Nat → Nat) (sa : Nat) (b : Bd) (rule n : Nat) (hB : OkB b) (hr3 : rule < 3) (hn : n ≤ 99) : q_M C l yX5_plays wsX5_plays 6 148 [.ref (mo 0), .ref sa, .int (nI rule), .int (nI n)] (wO C mo ev v o ++ ([(sa, .inl (C.2.2.1, 82, .inr (.inl (mB b))))] : va_W)) (fun r w => ∃ v1 o1, r = none ∧ w = wO C mo ev v1 o1 ++ ([(sa, .inl (C.2.2.1, 82, .inr (.inl (mB (plN b (idxT b) rule n)))))] : va_W)) := by
  obtain ⟨ok1, ok2, ⟨ok3, ok4, ok5, ok6, ok7⟩, ok8, ok9⟩ := id hB
  refine q_head (cc := cX5_plays) (maxL := 5) (ret := none) (by decide +kernel) rfl (Nat.le_of_ble_eq_true rfl) ?_
  intro p e s m below meth c hx hb hr hlocks hml hown hts hK hP hD hS hA ls hl
  have hl : lv_has ls 5 [(0, .ref (mo 0)), (1, .ref sa), (2, .int (nI rule)), (3, .int (nI n))] := hl
  refine lv_iconst (v := nI 0) hx hb dX5_plays_0 (by decide) ?_
  refine lv_istore (lv' := [(4, .int (nI 0)), (0, .ref (mo 0)), (1, .ref sa), (2, .int (nI rule)), (3, .int (nI n))]) hx hb dX5_plays_1 hl (by decide) rfl (fun ls hl => ?_)
  have K3 : ∀ (n3 i3 : Nat), ∀ (v3 : Nat → Nat) (o3 : Nat → Nat), i3 ≤ n → n + 1 ≤ i3 + n3 → ∀ (H : Heap) (locs : List Loc) (ls : Array Slot), va_P C.1 vwCl (wO C mo ev v3 o3 ++ ([(sa, .inl (C.2.2.1, 82, .inr (.inl (mB (plN b (idxT b) rule i3)))))] : va_W)) H → va_D (q_A (wO C mo ev v o ++ ([(sa, .inl (C.2.2.1, 82, .inr (.inl (mB b))))] : va_W)) s) (wO C mo ev v3 o3 ++ ([(sa, .inl (C.2.2.1, 82, .inr (.inl (mB (plN b (idxT b) rule i3)))))] : va_W)) → va_S (q_A (wO C mo ev v o ++ ([(sa, .inl (C.2.2.1, 82, .inr (.inl (mB b))))] : va_W)) s) s.heap H locs → lv_has ls 5 [(4, .int (nI i3)), (0, .ref (mo 0)), (1, .ref sa), (2, .int (nI rule)), (3, .int (nI n))] → W p l e (q_R 6 148) s m ([.ref (mo 0), .ref sa, .int (nI rule), .int (nI n)] : List Value).toArray below meth c H locs 0 0 (q_G C below (wO C mo ev v o ++ ([(sa, .inl (C.2.2.1, 82, .inr (.inl (mB b))))] : va_W)) (fun r w => ∃ v1 o1, r = none ∧ w = wO C mo ev v1 o1 ++ ([(sa, .inl (C.2.2.1, 82, .inr (.inl (mB (plN b (idxT b) rule n)))))] : va_W)) ([.ref (mo 0), .ref sa, .int (nI rule), .int (nI n)] : List Value).toArray s) (F0 m 3 ls []) := by
    intro n3
    induction n3 with
    | zero => intro i3 v3 o3 q1 q2; exact absurd q2 (by omega)
    | succ n3 ih3 =>
      intro i3 v3 o3 hi3 hn3  H locs ls hP hD hS hl
      refine lv_iload hx hb dX5_plays_3 (lv_at hl 0 rfl) ?_
      refine lv_iload_n hx hb dX5_plays_5 rfl (lv_at hl 4 rfl) ?_
      refine lv_icmp_ge (tgt := 25) hx hb dX5_plays_6 (by decide) (fun c6 => ?_) (fun c6 => ?_)
      · have c6 : n ≤ i3 := q_nge (by omega) (by omega) c6
        have e9 : i3 = n := by omega
        subst e9
        exact q_vret hx hb hr hlocks (w1 := wO C mo ev v3 o3 ++ ([(sa, .inl (C.2.2.1, 82, .inr (.inl (mB (plN b (idxT b) rule i3)))))] : va_W)) hP hS rfl dX5_plays_25 (⟨_, _, rfl, rfl⟩)
      · have c6 : i3 < n := q_nge' (by omega) (by omega) c6
        refine lv_aload_n hx hb dX5_plays_9 rfl (lv_at hl 2 rfl) ?_
        refine lv_aload_n hx hb dX5_plays_10 rfl (lv_at hl 1 rfl) ?_
        refine lv_aload_n hx hb dX5_plays_11 rfl (lv_at hl 2 rfl) ?_
        refine lv_iload_n hx hb dX5_plays_12 rfl (lv_at hl 3 rfl) ?_
        refine q_V (As := [.ref sa, .int (nI rule)]) (rest := [.ref sa]) ⟨hx, hb, hml, hown, hts⟩ (c_X5_chosen l C mo ev v3 o3 sa (plN b (idxT b) rule i3) rule (okB_plN hB (idxT b) rule i3) (by omega)) (cwV 2 hts gX5_plays_X5_chosen rfl rfl rfl (by decide +kernel) ⟨Nat.le_of_ble_eq_true rfl, Nat.le_of_ble_eq_true rfl⟩) hK hP hD hS hA [0, 1, 2, 3] (by decide) rfl 0 rfl rfl rfl rfl hl.1 rfl (Nat.le_of_ble_eq_true rfl) dX5_plays_13 (Nat.zero_le _) (Nat.zero_le _) (fun r w1 H locs hQ hP hD hS => ?_)
        obtain ⟨vx1, ox1, rfl, rfl⟩ := hQ
        have hP : va_P C.1 vwCl (wO C mo ev vx1 ox1 ++ ([(sa, .inl (C.2.2.1, 82, .inr (.inl (mB (plN b (idxT b) rule i3)))))] : va_W)) H := hP
        have hD : va_D (q_A (wO C mo ev v o ++ ([(sa, .inl (C.2.2.1, 82, .inr (.inl (mB b))))] : va_W)) s) (wO C mo ev vx1 ox1 ++ ([(sa, .inl (C.2.2.1, 82, .inr (.inl (mB (plN b (idxT b) rule i3)))))] : va_W)) := hD
        refine W.eq (g2 := F0 m 16 ls [.int (nI (choN (plN b (idxT b) rule i3) (idxT (plN b (idxT b) rule i3)) rule)), .ref sa]) rfl ?_
        have hit := idxT_of (ixOf_plN b (idxT b) rule i3)
        have hcl := choN_lt (okB_plN hB (idxT b) rule i3) (idxT b) rule
        rw [hit]
        refine q_S (As := [.ref sa, .int (nI (choN (plN b (idxT b) rule i3) (idxT b) rule))]) (rest := []) ⟨hx, hb, hml, hown, hts⟩ (c_X5_pulls l C sa (plN b (idxT b) rule i3) (choN (plN b (idxT b) rule i3) (idxT b) rule) (okB_plN hB (idxT b) rule i3) (by omega)) (va_cwS 2 hts gX5_plays_X5_pulls rfl rfl rfl (by decide +kernel) ⟨Nat.le_of_ble_eq_true rfl, Nat.le_of_ble_eq_true rfl⟩) hK hP hD hS hA [3] (by decide) rfl rfl hl.1 rfl (Nat.le_of_ble_eq_true rfl) dX5_plays_16 (Nat.zero_le _) (Nat.zero_le _) (fun r w1 H locs hQ hP hD hS => ?_)
        obtain ⟨rfl, rfl⟩ := hQ
        have hP : va_P C.1 vwCl (wO C mo ev vx1 ox1 ++ ([(sa, .inl (C.2.2.1, 82, .inr (.inl (mB (pulB (plN b (idxT b) rule i3) (choN (plN b (idxT b) rule i3) (idxT b) rule))))))] : va_W)) H := hP
        have hD : va_D (q_A (wO C mo ev v o ++ ([(sa, .inl (C.2.2.1, 82, .inr (.inl (mB b))))] : va_W)) s) (wO C mo ev vx1 ox1 ++ ([(sa, .inl (C.2.2.1, 82, .inr (.inl (mB (pulB (plN b (idxT b) rule i3) (choN (plN b (idxT b) rule i3) (idxT b) rule))))))] : va_W)) := hD
        refine W.eq (g2 := F0 m 19 ls []) rfl ?_
        have hP : va_P C.1 vwCl (wO C mo ev vx1 ox1 ++ ([(sa, .inl (C.2.2.1, 82, .inr (.inl (mB (plN b (idxT b) rule (i3 + 1))))))] : va_W)) H := hP
        have hD : va_D (q_A (wO C mo ev v o ++ ([(sa, .inl (C.2.2.1, 82, .inr (.inl (mB b))))] : va_W)) s) (wO C mo ev vx1 ox1 ++ ([(sa, .inl (C.2.2.1, 82, .inr (.inl (mB (plN b (idxT b) rule (i3 + 1))))))] : va_W)) := hD
        refine lv_iinc (v := nI (i3 + 1)) (lv' := [(4, .int (nI (i3 + 1))), (0, .ref (mo 0)), (1, .ref sa), (2, .int (nI rule)), (3, .int (nI n))]) hx hb dX5_plays_19 hl (k := 0) rfl (nI_1 _) (by decide) rfl (fun ls hl => ?_)
        refine lv_goto (tgt := 3) hx hb dX5_plays_22 (by decide) ?_
        exact ih3 (i3 + 1) vx1 ox1 (by omega) (by omega)  _ _ ls hP hD hS (lv_sub hl [0, 1, 2, 3, 4] rfl)
  exact K3 (n + 1 - 0) 0 v o (by omega) (by omega)  _ _ ls hP hD hS (lv_sub hl [0, 1, 2, 3, 4] rfl)
