/-! the class's evenness, bits, the least gift -/
theorem q_imin {a b : Nat} (ha : a < 2 ^ 31) (hb : b < 2 ^ 31) : (if nI b < nI a then nI b else nI a) = nI (min a b) := by
  by_cases h : b < a
  · rw [if_pos ((nI_ltI hb ha).mpr h), Nat.min_eq_right (Nat.le_of_lt h)]
  · rw [if_neg (fun q => h ((nI_ltI hb ha).mp q)), Nat.min_eq_left (Nat.not_lt.mp h)]
theorem q_imax {a b : Nat} (ha : a < 2 ^ 31) (hb : b < 2 ^ 31) : (if nI a < nI b then nI b else nI a) = nI (max a b) := by
  by_cases h : a < b
  · rw [if_pos ((nI_ltI ha hb).mpr h), Nat.max_eq_right (Nat.le_of_lt h)]
  · rw [if_neg (fun q => h ((nI_ltI ha hb).mp q)), Nat.max_eq_left (Nat.not_lt.mp h)]
def hvW (i : Nat) : Nat := 2 ^ (7 - i)
theorem hvW_s {i : Nat} (h : i < 7) : hvW i = 2 * hvW (i + 1) := hv_pow h
theorem hvW_0 : hvW 0 = 128 := rfl
theorem hvW_7 : hvW 7 = 1 := rfl
set_option maxHeartbeats 4000000 in
set_option maxRecDepth 100000 in
theorem c_X4_evenness (l : Launch) (C : q_C) (x : Nat) (nw tr hq iq tt : Nat → Nat) (sc : Nat) (z : Nat → Int) (b : Bd) (hU : sumU b ≤ 9999) : q_M C l yX4_evenness wsX4_evenness 1 21 [.ref x] (wA C x nw tr hq iq tt sc z ++ wB C nw b) (fun r2 w => r2 = some (.double (evD b)) ∧ w = wA C x nw tr hq iq tt sc z ++ wB C nw b) := by
  have hb0 := bu_le hU 0 (by decide)
  refine q_head (cc := cX4_evenness) (maxL := 4) (ret := (some .double)) (by decide +kernel) rfl (Nat.le_of_ble_eq_true rfl) ?_
  intro p e s m below meth c hx hb hr hlocks hml hown hts hK hP hD hS hA ls hl
  have hl : lv_has ls 4 [(0, .ref x)] := hl
  have hf10 := hts (.fieldLink RX4 10 "RestedArms" "now" "LRestedArms$Board;") (by decide +kernel)
  have hf194 := hts (.fieldLink RX4 194 "RestedArms$Board" "pulls" "[I") (by decide +kernel)
  have hin0 : ∀ w ∈ u_ws RX0 TX0 12, w ∈ wsX4_evenness := by decide +kernel
  have hin4 : ∀ w ∈ u_ws RX4 TX4 6, w ∈ wsX4_evenness := by decide +kernel
  have hm1_241 := hts (.methodLink RX4 241 Lib.Math.min.name) (by decide +kernel)
  have hm1_246 := hts (.methodLink RX4 246 Lib.Math.max.name) (by decide +kernel)
  have hm2_241 := hts (.static Lib.Math.min.name) (by decide +kernel)
  have hm2_246 := hts (.static Lib.Math.max.name) (by decide +kernel)
  have hm3_241 := hts (.initialized "java/lang/Math") (by decide +kernel)
  have hm3_246 := hts (.initialized "java/lang/Math") (by decide +kernel)
  have hm4_241 := hts (.code Lib.Math.min.name Lib.Math.min.code 2 (some .int)) (by decide +kernel)
  have hm4_246 := hts (.code Lib.Math.max.name Lib.Math.max.code 2 (some .int)) (by decide +kernel)
  refine lv_aload_n hx hb dX4_evenness_0 rfl (lv_at hl 0 rfl) ?_
  refine va_get (ci := 4) (v := .ref (nw 0)) (C := RX4) (T := TX4) (N := 6) hx hb hts hin4 hown hK.1 hP 0 rfl rfl 0 (by decide) hf10 (fun _ h9 => h9) rfl dX4_evenness_1 ?_
  refine va_get (ci := 0) (v := .ref (nw 6)) (C := RX0) (T := TX0) (N := 12) hx hb hts hin0 hown hK.1 hP 2 rfl rfl 5 (by decide) hf194 (fun _ h9 => h9) rfl dX4_evenness_4 ?_
  refine lv_iconst (v := nI 0) hx hb dX4_evenness_7 (by decide) ?_
  refine q_S (As := [.ref (nw 6), .int (nI 0)]) (rest := []) ⟨hx, hb, hml, hown, hts⟩ (c_X4_at l C (nw 6) 4 0 (fun k => nI (bu b k)) (by decide) (by decide)) (va_cwS 2 hts gX4_evenness_X4_at rfl rfl rfl (by decide +kernel) ⟨Nat.le_of_ble_eq_true rfl, Nat.le_of_ble_eq_true rfl⟩) hK hP hD hS hA [8] (by decide) rfl rfl hl.1 rfl (Nat.le_of_ble_eq_true rfl) dX4_evenness_8 (Nat.zero_le _) (Nat.zero_le _) (fun r w1 H locs hQ hP hD hS => ?_)
  obtain ⟨rfl, rfl⟩ := hQ
  have hP : va_P C.1 vwCl (wA C x nw tr hq iq tt sc z ++ wB C nw b) H := hP
  have hD : va_D (q_A (wA C x nw tr hq iq tt sc z ++ wB C nw b) s) (wA C x nw tr hq iq tt sc z ++ wB C nw b) := hD
  refine W.eq (g2 := F0 m 11 ls [.int (nI (bu b 0))]) rfl ?_
  refine lv_istore_n (lv' := [(1, .int (nI (bu b 0))), (0, .ref x)]) hx hb dX4_evenness_11 rfl hl (by decide) rfl (fun ls hl => ?_)
  refine lv_iload_n hx hb dX4_evenness_12 rfl (lv_at hl 0 rfl) ?_
  refine lv_istore_n (lv' := [(2, .int (nI (bu b 0))), (1, .int (nI (bu b 0))), (0, .ref x)]) hx hb dX4_evenness_13 rfl hl (by decide) rfl (fun ls hl => ?_)
  refine lv_iconst (v := nI 1) hx hb dX4_evenness_14 (by decide) ?_
  refine lv_istore_n (lv' := [(3, .int (nI 1)), (2, .int (nI (bu b 0))), (1, .int (nI (bu b 0))), (0, .ref x)]) hx hb dX4_evenness_15 rfl hl (by decide) rfl (fun ls hl => ?_)
  have K16 : ∀ (n16 i16 : Nat), ∀ (g16 : Nat) (k16 : Nat), i16 ≤ 3 → 3 + 1 ≤ i16 + n16 → (mnF (bu b) i16 = g16) → (mxF (bu b) i16 = k16) → (g16 ≤ 9999) → (k16 ≤ 9999) → ∀ (H : Heap) (locs : List Loc) (ls : Array Slot), va_P C.1 vwCl (wA C x nw tr hq iq tt sc z ++ wB C nw b) H → va_D (q_A (wA C x nw tr hq iq tt sc z ++ wB C nw b) s) (wA C x nw tr hq iq tt sc z ++ wB C nw b) → va_S (q_A (wA C x nw tr hq iq tt sc z ++ wB C nw b) s) s.heap H locs → lv_has ls 4 [(3, .int (nI (i16 + 1))), (2, .int (nI k16)), (1, .int (nI g16)), (0, .ref x)] → W p l e (q_R 1 21) s m ([.ref x] : List Value).toArray below meth c H locs 0 0 (q_G C below (wA C x nw tr hq iq tt sc z ++ wB C nw b) (fun r2 w => r2 = some (.double (evD b)) ∧ w = wA C x nw tr hq iq tt sc z ++ wB C nw b) ([.ref x] : List Value).toArray s) (F0 m 16 ls []) := by
    intro n16
    induction n16 with
    | zero => intro i16 g16 k16 q1 q2; exact absurd q2 (by omega)
    | succ n16 ih16 =>
      intro i16 g16 k16 hi16 hn16 hG16 hK16 hg16 hk16 H locs ls hP hD hS hl
      refine lv_iload_n hx hb dX4_evenness_16 rfl (lv_at hl 0 rfl) ?_
      refine lv_iconst (v := nI 4) hx hb dX4_evenness_17 (by decide) ?_
      refine lv_icmp_ge (tgt := 59) hx hb dX4_evenness_18 (by decide) (fun c18 => ?_) (fun c18 => ?_)
      · have c18 : 4 ≤ (i16 + 1) := q_nge (by omega) (by omega) c18
        have e9 : i16 = 3 := by omega
        subst e9
        refine lv_iload_n hx hb dX4_evenness_59 rfl (lv_at hl 1 rfl) ?_
        refine lv_if_ne (tgt := 67) hx hb dX4_evenness_60 (by decide) (fun c60 => ?_) (fun c60 => ?_)
        · have c60 : k16 ≠ 0 := q_nne0 (by omega) (by omega) c60
          refine lv_iload_n hx hb dX4_evenness_67 rfl (lv_at hl 2 rfl) ?_
          refine lv_i2d hx hb dX4_evenness_68 ?_
          refine q_td (y := FP.l2d (lN g16)) (fp_i2d (by omega)) ?_
          refine lv_iload_n hx hb dX4_evenness_69 rfl (lv_at hl 1 rfl) ?_
          refine lv_i2d hx hb dX4_evenness_70 ?_
          refine q_td (y := FP.l2d (lN k16)) (fp_i2d (by omega)) ?_
          refine lv_ddiv hx hb dX4_evenness_71 (by rw [← hG16, ← hK16]; exact evD_n hU (by rw [hK16]; exact c60)) ?_
          exact q_dret hx hb hr hlocks (w1 := wA C x nw tr hq iq tt sc z ++ wB C nw b) hP hS rfl dX4_evenness_72 (⟨by rw [evD, if_neg (by rw [hK16]; exact c60), hG16, hK16], rfl⟩)
        · have c60 : k16 = 0 := q_nne0' (by omega) (by omega) c60
          refine lv_dconst1 hx hb dX4_evenness_63 ?_
          refine lv_goto (tgt := 72) hx hb dX4_evenness_64 (by decide) ?_
          exact q_dret hx hb hr hlocks (w1 := wA C x nw tr hq iq tt sc z ++ wB C nw b) hP hS rfl dX4_evenness_72 (⟨by rw [evD, if_pos (by rw [hK16]; exact c60)], rfl⟩)
      · have c18 : (i16 + 1) < 4 := q_nge' (by omega) (by omega) c18
        refine lv_iload_n hx hb dX4_evenness_21 rfl (lv_at hl 2 rfl) ?_
        refine lv_aload_n hx hb dX4_evenness_22 rfl (lv_at hl 3 rfl) ?_
        refine va_get (ci := 4) (v := .ref (nw 0)) (C := RX4) (T := TX4) (N := 6) hx hb hts hin4 hown hK.1 hP 0 rfl rfl 0 (by decide) hf10 (fun _ h9 => h9) rfl dX4_evenness_23 ?_
        refine va_get (ci := 0) (v := .ref (nw 6)) (C := RX0) (T := TX0) (N := 12) hx hb hts hin0 hown hK.1 hP 2 rfl rfl 5 (by decide) hf194 (fun _ h9 => h9) rfl dX4_evenness_26 ?_
        refine lv_iload_n hx hb dX4_evenness_29 rfl (lv_at hl 0 rfl) ?_
        refine q_S (As := [.ref (nw 6), .int (nI (i16 + 1))]) (rest := [.int (nI g16)]) ⟨hx, hb, hml, hown, hts⟩ (c_X4_at l C (nw 6) 4 (i16 + 1) (fun k => nI (bu b k)) (by omega) (by decide)) (va_cwS 2 hts gX4_evenness_X4_at rfl rfl rfl (by decide +kernel) ⟨Nat.le_of_ble_eq_true rfl, Nat.le_of_ble_eq_true rfl⟩) hK hP hD hS hA [8] (by decide) rfl rfl hl.1 rfl (Nat.le_of_ble_eq_true rfl) dX4_evenness_30 (Nat.zero_le _) (Nat.zero_le _) (fun r w1 H locs hQ hP hD hS => ?_)
        obtain ⟨rfl, rfl⟩ := hQ
        have hP : va_P C.1 vwCl (wA C x nw tr hq iq tt sc z ++ wB C nw b) H := hP
        have hD : va_D (q_A (wA C x nw tr hq iq tt sc z ++ wB C nw b) s) (wA C x nw tr hq iq tt sc z ++ wB C nw b) := hD
        refine W.eq (g2 := F0 m 33 ls [.int (nI (bu b (i16 + 1))), .int (nI g16)]) rfl ?_
        have hbi := bu_le hU (i16 + 1) (by omega)
        refine va_mmin hx hb (hml.trans hl.1.symm) hown hm1_241 hm2_241 hm3_241 hm4_241 (Nat.le_of_ble_eq_true rfl) (Nat.le_of_ble_eq_true rfl) (Nat.zero_le _) (Nat.zero_le _) dX4_evenness_33 ?_
        refine q_ti (y := nI (min g16 (bu b (i16 + 1)))) (q_imin (by omega) (by omega)) ?_
        refine lv_istore_n (lv' := [(1, .int (nI (min g16 (bu b (i16 + 1))))), (3, .int (nI (i16 + 1))), (2, .int (nI k16)), (0, .ref x)]) hx hb dX4_evenness_36 rfl hl (by decide) rfl (fun ls hl => ?_)
        refine lv_iload_n hx hb dX4_evenness_37 rfl (lv_at hl 2 rfl) ?_
        refine lv_aload_n hx hb dX4_evenness_38 rfl (lv_at hl 3 rfl) ?_
        refine va_get (ci := 4) (v := .ref (nw 0)) (C := RX4) (T := TX4) (N := 6) hx hb hts hin4 hown hK.1 hP 0 rfl rfl 0 (by decide) hf10 (fun _ h9 => h9) rfl dX4_evenness_39 ?_
        refine va_get (ci := 0) (v := .ref (nw 6)) (C := RX0) (T := TX0) (N := 12) hx hb hts hin0 hown hK.1 hP 2 rfl rfl 5 (by decide) hf194 (fun _ h9 => h9) rfl dX4_evenness_42 ?_
        refine lv_iload_n hx hb dX4_evenness_45 rfl (lv_at hl 1 rfl) ?_
        refine q_S (As := [.ref (nw 6), .int (nI (i16 + 1))]) (rest := [.int (nI k16)]) ⟨hx, hb, hml, hown, hts⟩ (c_X4_at l C (nw 6) 4 (i16 + 1) (fun k => nI (bu b k)) (by omega) (by decide)) (va_cwS 2 hts gX4_evenness_X4_at rfl rfl rfl (by decide +kernel) ⟨Nat.le_of_ble_eq_true rfl, Nat.le_of_ble_eq_true rfl⟩) hK hP hD hS hA [8] (by decide) rfl rfl hl.1 rfl (Nat.le_of_ble_eq_true rfl) dX4_evenness_46 (Nat.zero_le _) (Nat.zero_le _) (fun r w1 H locs hQ hP hD hS => ?_)
        obtain ⟨rfl, rfl⟩ := hQ
        have hP : va_P C.1 vwCl (wA C x nw tr hq iq tt sc z ++ wB C nw b) H := hP
        have hD : va_D (q_A (wA C x nw tr hq iq tt sc z ++ wB C nw b) s) (wA C x nw tr hq iq tt sc z ++ wB C nw b) := hD
        refine W.eq (g2 := F0 m 49 ls [.int (nI (bu b (i16 + 1))), .int (nI k16)]) rfl ?_
        refine va_mmax hx hb (hml.trans hl.1.symm) hown hm1_246 hm2_246 hm3_246 hm4_246 (Nat.le_of_ble_eq_true rfl) (Nat.le_of_ble_eq_true rfl) (Nat.zero_le _) (Nat.zero_le _) dX4_evenness_49 ?_
        refine q_ti (y := nI (max k16 (bu b (i16 + 1)))) (q_imax (by omega) (by omega)) ?_
        refine lv_istore_n (lv' := [(2, .int (nI (max k16 (bu b (i16 + 1))))), (1, .int (nI (min g16 (bu b (i16 + 1))))), (3, .int (nI (i16 + 1))), (0, .ref x)]) hx hb dX4_evenness_52 rfl hl (by decide) rfl (fun ls hl => ?_)
        refine lv_iinc (v := nI (i16 + 1 + 1)) (lv' := [(3, .int (nI (i16 + 1 + 1))), (2, .int (nI (max k16 (bu b (i16 + 1))))), (1, .int (nI (min g16 (bu b (i16 + 1))))), (0, .ref x)]) hx hb dX4_evenness_53 hl (k := 2) rfl (nI_1 _) (by decide) rfl (fun ls hl => ?_)
        refine lv_goto (tgt := 16) hx hb dX4_evenness_56 (by decide) ?_
        exact ih16 (i16 + 1) (min g16 (bu b (i16 + 1))) (max k16 (bu b (i16 + 1))) (by omega) (by omega) (by show min (mnF (bu b) i16) (bu b (i16 + 1)) = _; rw [hG16]) (by show max (mxF (bu b) i16) (bu b (i16 + 1)) = _; rw [hK16]) (by omega) (by omega) _ _ ls hP hD hS (lv_sub hl [0, 1, 2, 3] rfl)
  exact K16 (3 + 1 - 0) 0 (bu b 0) (bu b 0) (by omega) (by omega) rfl rfl hb0 hb0 _ _ ls hP hD hS (lv_sub hl [0, 1, 2, 3] rfl)
set_option maxHeartbeats 4000000 in
set_option maxRecDepth 100000 in
theorem c_X4_giftFor (l : Launch) (C : q_C) (x : Nat) (nw tr hq iq tt : Nat → Nat) (sc : Nat) (z : Nat → Int) (b b2 : Bd) (t f v o : Nat → Nat) (a t0 : Nat) (hB : OkB b) (ha : a < 4) (ht : t0 < 4) (hfr : frB b t f) : q_M C l yX4_giftFor wsX4_giftFor 4 112 [.ref x, .int (nI a), .int (nI t0)] (List.flatten [wA C x nw tr hq iq tt sc z, wB C nw b, wB C tr b2, wX C iq t f v o]) (fun r2 w => ∃ z1 b3 v1 o1, r2 = some (.int (lgI (lgN b a t0))) ∧ w = List.flatten [wA C x nw tr hq iq tt sc z1, wB C nw b, wB C tr b3, wX C iq (idxT b) (fun _ => 1) v1 o1]) := by
  refine q_head (cc := cX4_giftFor) (maxL := 7) (ret := (some .int)) (by decide +kernel) rfl (Nat.le_of_ble_eq_true rfl) ?_
  intro p e s m below meth c hx hb hr hlocks hml hown hts hK hP hD hS hA ls hl
  have hl : lv_has ls 7 [(0, .ref x), (1, .int (nI a)), (2, .int (nI t0))] := hl
  have hf10 := hts (.fieldLink RX4 10 "RestedArms" "now" "LRestedArms$Board;") (by decide +kernel)
  have hf16 := hts (.fieldLink RX4 16 "RestedArms" "trial" "LRestedArms$Board;") (by decide +kernel)
  have hf29 := hts (.fieldLink RX4 29 "RestedArms" "indices" "LRestedArms$Indices;") (by decide +kernel)
  have hin4 : ∀ w ∈ u_ws RX4 TX4 6, w ∈ wsX4_giftFor := by decide +kernel
  refine lv_iload_n hx hb dX4_giftFor_0 rfl (lv_at hl 1 rfl) ?_
  refine lv_iload_n hx hb dX4_giftFor_1 rfl (lv_at hl 2 rfl) ?_
  refine q_S0 (As := [.int (nI a), .int (nI t0)]) (rest := []) ⟨hx, hb, hml, hown, hts⟩ (c_X4_needState l C a t0 (by omega) (by omega)) (va_cwS 2 hts gX4_giftFor_X4_needState rfl rfl rfl (by decide +kernel) ⟨Nat.le_of_ble_eq_true rfl, Nat.le_of_ble_eq_true rfl⟩) hK hP hD hS hA [] (by decide) rfl rfl hl.1 rfl (Nat.le_of_ble_eq_true rfl) dX4_giftFor_2 (Nat.zero_le _) (Nat.zero_le _) (fun H locs hP hS => ?_)
  refine W.eq (g2 := F0 m 5 ls []) rfl ?_
  refine lv_aload_n hx hb dX4_giftFor_5 rfl (lv_at hl 0 rfl) ?_
  refine va_get (ci := 4) (v := .ref (iq 0)) (C := RX4) (T := TX4) (N := 6) hx hb hts hin4 hown hK.1 hP 0 rfl rfl 3 (by decide) hf29 (fun _ h9 => h9) rfl dX4_giftFor_6 ?_
  refine lv_aload_n hx hb dX4_giftFor_9 rfl (lv_at hl 0 rfl) ?_
  refine va_get (ci := 4) (v := .ref (nw 0)) (C := RX4) (T := TX4) (N := 6) hx hb hts hin4 hown hK.1 hP 0 rfl rfl 0 (by decide) hf10 (fun _ h9 => h9) rfl dX4_giftFor_10 ?_
  refine q_VB (cs := [wX C iq t f v o, wB C nw b]) (As := [.ref (nw 0)]) (rest := []) ⟨hx, hb, hml, hown, hts⟩ (c_X2_refresh l C iq t f v o nw b hB hfr.1 hfr.2) (cwV 1 hts gX4_giftFor_X2_refresh rfl rfl rfl (by decide +kernel) ⟨Nat.le_of_ble_eq_true rfl, Nat.le_of_ble_eq_true rfl⟩) hK hP hD hS hA [3, 1] (by decide) rfl 18 rfl rfl rfl rfl hl.1 rfl (Nat.le_of_ble_eq_true rfl) dX4_giftFor_13 (Nat.zero_le _) (Nat.zero_le _) (fun r w1 H locs hQ hF hS => ?_)
  obtain ⟨vx1, ox1, rfl, rfl⟩ := hQ
  obtain ⟨hP, hD⟩ := hF [wX C iq (idxT b) (fun _ => 1) vx1 ox1, wB C nw b] rfl rfl
  have hP : va_P C.1 vwCl (List.flatten [wA C x nw tr hq iq tt sc z, wB C nw b, wB C tr b2, wX C iq (idxT b) (fun _ => 1) vx1 ox1]) H := hP
  have hD : va_D (q_A (List.flatten [wA C x nw tr hq iq tt sc z, wB C nw b, wB C tr b2, wX C iq t f v o]) s) (List.flatten [wA C x nw tr hq iq tt sc z, wB C nw b, wB C tr b2, wX C iq (idxT b) (fun _ => 1) vx1 ox1]) := hD
  refine W.eq (g2 := F0 m 16 ls []) rfl ?_
  refine lv_aload_n hx hb dX4_giftFor_16 rfl (lv_at hl 0 rfl) ?_
  refine va_get (ci := 4) (v := .ref (tr 0)) (C := RX4) (T := TX4) (N := 6) hx hb hts hin4 hown hK.1 hP 0 rfl rfl 1 (by decide) hf16 (fun _ h9 => h9) rfl dX4_giftFor_17 ?_
  refine lv_aload_n hx hb dX4_giftFor_20 rfl (lv_at hl 0 rfl) ?_
  refine va_get (ci := 4) (v := .ref (nw 0)) (C := RX4) (T := TX4) (N := 6) hx hb hts hin4 hown hK.1 hP 0 rfl rfl 0 (by decide) hf10 (fun _ h9 => h9) rfl dX4_giftFor_21 ?_
  refine q_VB (cs := [wB C tr b2, wB C nw b]) (As := [.ref (nw 0)]) (rest := []) ⟨hx, hb, hml, hown, hts⟩ (c_X0_copy l C tr nw b2 b) (cwV 1 hts gX4_giftFor_X0_copy rfl rfl rfl (by decide +kernel) ⟨Nat.le_of_ble_eq_true rfl, Nat.le_of_ble_eq_true rfl⟩) hK hP hD hS hA [2, 1] (by decide) rfl 10 rfl rfl rfl rfl hl.1 rfl (Nat.le_of_ble_eq_true rfl) dX4_giftFor_24 (Nat.zero_le _) (Nat.zero_le _) (fun r w1 H locs hQ hF hS => ?_)
  obtain ⟨rfl, rfl⟩ := hQ
  obtain ⟨hP, hD⟩ := hF [wB C tr b, wB C nw b] rfl rfl
  have hP : va_P C.1 vwCl (List.flatten [wA C x nw tr hq iq tt sc z, wB C nw b, wB C tr b, wX C iq (idxT b) (fun _ => 1) vx1 ox1]) H := hP
  have hD : va_D (q_A (List.flatten [wA C x nw tr hq iq tt sc z, wB C nw b, wB C tr b2, wX C iq t f v o]) s) (List.flatten [wA C x nw tr hq iq tt sc z, wB C nw b, wB C tr b, wX C iq (idxT b) (fun _ => 1) vx1 ox1]) := hD
  refine W.eq (g2 := F0 m 27 ls []) rfl ?_
  refine lv_aload_n hx hb dX4_giftFor_27 rfl (lv_at hl 0 rfl) ?_
  refine lv_aload_n hx hb dX4_giftFor_28 rfl (lv_at hl 0 rfl) ?_
  refine va_get (ci := 4) (v := .ref (tr 0)) (C := RX4) (T := TX4) (N := 6) hx hb hts hin4 hown hK.1 hP 0 rfl rfl 1 (by decide) hf16 (fun _ h9 => h9) rfl dX4_giftFor_29 ?_
  refine lv_iconst (v := nI 0) hx hb dX4_giftFor_32 (by decide) ?_
  refine q_VB (cs := [wA C x nw tr hq iq tt sc z, wB C tr b, wX C iq (idxT b) (fun _ => 1) vx1 ox1]) (As := [.ref (tr 0), .int (nI 0)]) (rest := []) ⟨hx, hb, hml, hown, hts⟩ (c_X4_scoreAll l C x nw tr hq iq tt sc z tr b (idxT b) (fun _ => 1) vx1 ox1 0 hB (by omega)) (cwV 2 hts gX4_giftFor_X4_scoreAll rfl rfl rfl (by decide +kernel) ⟨Nat.le_of_ble_eq_true rfl, Nat.le_of_ble_eq_true rfl⟩) hK hP hD hS hA [0, 2, 3] (by decide) rfl 0 rfl rfl rfl rfl hl.1 rfl (Nat.le_of_ble_eq_true rfl) dX4_giftFor_33 (Nat.zero_le _) (Nat.zero_le _) (fun r w1 H locs hQ hF hS => ?_)
  obtain ⟨rfl, rfl⟩ := hQ
  obtain ⟨hP, hD⟩ := hF [wA C x nw tr hq iq tt sc (scN b (idxT b) 0), wB C tr b, wX C iq (idxT b) (fun _ => 1) vx1 ox1] rfl rfl
  have hP : va_P C.1 vwCl (List.flatten [wA C x nw tr hq iq tt sc (scN b (idxT b) 0), wB C nw b, wB C tr b, wX C iq (idxT b) (fun _ => 1) vx1 ox1]) H := hP
  have hD : va_D (q_A (List.flatten [wA C x nw tr hq iq tt sc z, wB C nw b, wB C tr b2, wX C iq t f v o]) s) (List.flatten [wA C x nw tr hq iq tt sc (scN b (idxT b) 0), wB C nw b, wB C tr b, wX C iq (idxT b) (fun _ => 1) vx1 ox1]) := hD
  refine W.eq (g2 := F0 m 36 ls []) rfl ?_
  refine lv_iconst (v := nI 0) hx hb dX4_giftFor_36 (by decide) ?_
  refine lv_istore_n (lv' := [(3, .int (nI 0)), (0, .ref x), (1, .int (nI a)), (2, .int (nI t0))]) hx hb dX4_giftFor_37 rfl hl (by decide) rfl (fun ls hl => ?_)
  refine lv_bipush (v := nI 100) hx hb dX4_giftFor_38 (by decide) ?_
  refine lv_istore (lv' := [(4, .int (nI 100)), (3, .int (nI 0)), (0, .ref x), (1, .int (nI a)), (2, .int (nI t0))]) hx hb dX4_giftFor_40 hl (by decide) rfl (fun ls hl => ?_)
  refine lv_iconst (v := nI 0) hx hb dX4_giftFor_42 (by decide) ?_
  refine lv_istore (lv' := [(5, .int (nI 0)), (4, .int (nI 100)), (3, .int (nI 0)), (0, .ref x), (1, .int (nI a)), (2, .int (nI t0))]) hx hb dX4_giftFor_43 hl (by decide) rfl (fun ls hl => ?_)
  have K45 : ∀ (n45 i45 : Nat), ∀ (lb45 : Nat) (ub45 : Nat) (G45 : Nat → Nat) (z45 : Nat → Int) (v45 : Nat → Nat) (o45 : Nat → Nat), i45 ≤ 7 → 7 + 1 ≤ i45 + n45 → (lb45 ≤ lgN b a t0) → (lgN b a t0 ≤ ub45) → (ub45 ≤ 100) → (ub45 < lb45 + hvW i45) → (∀ g, upN G45 (4 * a + t0) g = upN (bg b) (4 * a + t0) g) → (OkB (sg b G45)) → (∀ k, k < 4 → k ≠ a → z45 k = scN b (idxT b) 0 k) → (∀ k, k < 4 → -(2 ^ 40) ≤ z45 k ∧ z45 k ≤ 2 ^ 40) → ∀ (H : Heap) (locs : List Loc) (ls : Array Slot), va_P C.1 vwCl (List.flatten [wA C x nw tr hq iq tt sc z45, wB C nw b, wB C tr (sg b G45), wX C iq (idxT b) (fun _ => 1) v45 o45]) H → va_D (q_A (List.flatten [wA C x nw tr hq iq tt sc z, wB C nw b, wB C tr b2, wX C iq t f v o]) s) (List.flatten [wA C x nw tr hq iq tt sc z45, wB C nw b, wB C tr (sg b G45), wX C iq (idxT b) (fun _ => 1) v45 o45]) → va_S (q_A (List.flatten [wA C x nw tr hq iq tt sc z, wB C nw b, wB C tr b2, wX C iq t f v o]) s) s.heap H locs → lv_has ls 7 [(5, .int (nI i45)), (4, .int (nI ub45)), (3, .int (nI lb45)), (0, .ref x), (1, .int (nI a)), (2, .int (nI t0))] → W p l e (q_R 4 112) s m ([.ref x, .int (nI a), .int (nI t0)] : List Value).toArray below meth c H locs 0 0 (q_G C below (List.flatten [wA C x nw tr hq iq tt sc z, wB C nw b, wB C tr b2, wX C iq t f v o]) (fun r2 w => ∃ z1 b3 v1 o1, r2 = some (.int (lgI (lgN b a t0))) ∧ w = List.flatten [wA C x nw tr hq iq tt sc z1, wB C nw b, wB C tr b3, wX C iq (idxT b) (fun _ => 1) v1 o1]) ([.ref x, .int (nI a), .int (nI t0)] : List Value).toArray s) (F0 m 45 ls []) := by
    intro n45
    induction n45 with
    | zero => intro i45 lb45 ub45 G45 z45 v45 o45 q1 q2; exact absurd q2 (by omega)
    | succ n45 ih45 =>
      intro i45 lb45 ub45 G45 z45 v45 o45 hi45 hn45 hlo45 hhi45 hh45 hd45 hG45 hBG45 hz45 hzb45 H locs ls hP hD hS hl
      refine lv_iload hx hb dX4_giftFor_45 (lv_at hl 0 rfl) ?_
      refine lv_bipush (v := nI 7) hx hb dX4_giftFor_47 (by decide) ?_
      refine lv_icmp_ge (tgt := 95) hx hb dX4_giftFor_49 (by decide) (fun c49 => ?_) (fun c49 => ?_)
      · have c49 : 7 ≤ i45 := q_nge (by omega) (by omega) c49
        have hfin : ub45 = lgN b a t0 := by
          have e9 : i45 = 7 := by omega
          rw [e9, hvW_7] at hd45
          omega
        refine lv_iload hx hb dX4_giftFor_95 (lv_at hl 1 rfl) ?_
        refine lv_bipush (v := nI 99) hx hb dX4_giftFor_97 (by decide) ?_
        refine lv_icmp_le (tgt := 106) hx hb dX4_giftFor_99 (by decide) (fun c99 => ?_) (fun c99 => ?_)
        · have c99 : ub45 ≤ 99 := q_nle (by omega) (by omega) c99
          refine lv_iload hx hb dX4_giftFor_106 (lv_at hl 1 rfl) ?_
          exact q_iret hx hb hr hlocks (w1 := List.flatten [wA C x nw tr hq iq tt sc z45, wB C nw b, wB C tr (sg b G45), wX C iq (idxT b) (fun _ => 1) v45 o45]) hP hS rfl dX4_giftFor_108 (⟨_, _, _, _, by rw [← hfin, lgI, if_pos (by omega)], rfl⟩)
        · have c99 : 99 < ub45 := q_nle' (by omega) (by omega) c99
          refine lv_iconst (v := (-1)) hx hb dX4_giftFor_102 (by decide) ?_
          refine lv_goto (tgt := 108) hx hb dX4_giftFor_103 (by decide) ?_
          exact q_iret hx hb hr hlocks (w1 := List.flatten [wA C x nw tr hq iq tt sc z45, wB C nw b, wB C tr (sg b G45), wX C iq (idxT b) (fun _ => 1) v45 o45]) hP hS rfl dX4_giftFor_108 (⟨_, _, _, _, by rw [← hfin, lgI, if_neg (by omega)], rfl⟩)
      · have c49 : i45 < 7 := q_nge' (by omega) (by omega) c49
        refine lv_iload_n hx hb dX4_giftFor_52 rfl (lv_at hl 2 rfl) ?_
        refine lv_iload hx hb dX4_giftFor_53 (lv_at hl 1 rfl) ?_
        refine lv_icmp_ge (tgt := 95) hx hb dX4_giftFor_55 (by decide) (fun c55 => ?_) (fun c55 => ?_)
        · have c55 : ub45 ≤ lb45 := q_nge (by omega) (by omega) c55
          have hfin : ub45 = lgN b a t0 := by omega
          refine lv_iload hx hb dX4_giftFor_95 (lv_at hl 1 rfl) ?_
          refine lv_bipush (v := nI 99) hx hb dX4_giftFor_97 (by decide) ?_
          refine lv_icmp_le (tgt := 106) hx hb dX4_giftFor_99 (by decide) (fun c99 => ?_) (fun c99 => ?_)
          · have c99 : ub45 ≤ 99 := q_nle (by omega) (by omega) c99
            refine lv_iload hx hb dX4_giftFor_106 (lv_at hl 1 rfl) ?_
            exact q_iret hx hb hr hlocks (w1 := List.flatten [wA C x nw tr hq iq tt sc z45, wB C nw b, wB C tr (sg b G45), wX C iq (idxT b) (fun _ => 1) v45 o45]) hP hS rfl dX4_giftFor_108 (⟨_, _, _, _, by rw [← hfin, lgI, if_pos (by omega)], rfl⟩)
          · have c99 : 99 < ub45 := q_nle' (by omega) (by omega) c99
            refine lv_iconst (v := (-1)) hx hb dX4_giftFor_102 (by decide) ?_
            refine lv_goto (tgt := 108) hx hb dX4_giftFor_103 (by decide) ?_
            exact q_iret hx hb hr hlocks (w1 := List.flatten [wA C x nw tr hq iq tt sc z45, wB C nw b, wB C tr (sg b G45), wX C iq (idxT b) (fun _ => 1) v45 o45]) hP hS rfl dX4_giftFor_108 (⟨_, _, _, _, by rw [← hfin, lgI, if_neg (by omega)], rfl⟩)
        · have c55 : lb45 < ub45 := q_nge' (by omega) (by omega) c55
          refine lv_iload_n hx hb dX4_giftFor_58 rfl (lv_at hl 2 rfl) ?_
          refine lv_iload hx hb dX4_giftFor_59 (lv_at hl 1 rfl) ?_
          refine lv_iadd hx hb dX4_giftFor_61 ?_
          refine q_ti (y := nI (lb45 + ub45)) (nI_add _ _) ?_
          refine lv_iconst (v := nI 2) hx hb dX4_giftFor_62 (by decide) ?_
          refine lv_idiv hx hb dX4_giftFor_63 (by decide) ?_
          refine q_ti (y := nI ((lb45 + ub45) / 2)) (pk_div (by omega) (by decide) (by decide)) ?_
          refine lv_istore (lv' := [(6, .int (nI ((lb45 + ub45) / 2))), (5, .int (nI i45)), (4, .int (nI ub45)), (3, .int (nI lb45)), (0, .ref x), (1, .int (nI a)), (2, .int (nI t0))]) hx hb dX4_giftFor_64 hl (by decide) rfl (fun ls hl => ?_)
          refine lv_aload_n hx hb dX4_giftFor_66 rfl (lv_at hl 4 rfl) ?_
          refine lv_iload_n hx hb dX4_giftFor_67 rfl (lv_at hl 5 rfl) ?_
          refine lv_iload_n hx hb dX4_giftFor_68 rfl (lv_at hl 6 rfl) ?_
          refine lv_iload hx hb dX4_giftFor_69 (lv_at hl 0 rfl) ?_
          have hm99 : (lb45 + ub45) / 2 ≤ 99 := by omega
          refine q_VB (cs := [wA C x nw tr hq iq tt sc z45, wB C tr (sg b G45), wX C iq (idxT b) (fun _ => 1) v45 o45]) (As := [.int (nI a), .int (nI t0), .int (nI ((lb45 + ub45) / 2))]) (rest := []) ⟨hx, hb, hml, hown, hts⟩ (c_X4_wouldChoose l C x nw tr hq iq tt sc z45 (sg b G45) (idxT b) (fun _ => 1) v45 o45 a t0 ((lb45 + ub45) / 2) hBG45 (by omega) (by omega) (by omega) hzb45) (cwV 3 hts gX4_giftFor_X4_wouldChoose rfl rfl rfl (by decide +kernel) ⟨Nat.le_of_ble_eq_true rfl, Nat.le_of_ble_eq_true rfl⟩) hK hP hD hS hA [0, 2, 3] (by decide) rfl 0 rfl rfl rfl rfl hl.1 rfl (Nat.le_of_ble_eq_true rfl) dX4_giftFor_71 (Nat.zero_le _) (Nat.zero_le _) (fun r w1 H locs hQ hF hS => ?_)
          obtain ⟨vx2, ox2, rfl, rfl⟩ := hQ
          obtain ⟨hP, hD⟩ := hF [wA C x nw tr hq iq tt sc (upZ z45 a (((idxN (sg (sg b G45) (upN (bg (sg b G45)) (4 * a + t0) ((lb45 + ub45) / 2))) a t0 : Nat) : Int) - (costB (sg (sg b G45) (upN (bg (sg b G45)) (4 * a + t0) ((lb45 + ub45) / 2))) a 0 : Nat))), wB C tr (sg (sg b G45) (upN (bg (sg b G45)) (4 * a + t0) ((lb45 + ub45) / 2))), wX C iq (idxT b) (fun _ => 1) vx2 ox2] rfl rfl
          have hP : va_P C.1 vwCl (List.flatten [wA C x nw tr hq iq tt sc (upZ z45 a (((idxN (sg (sg b G45) (upN (bg (sg b G45)) (4 * a + t0) ((lb45 + ub45) / 2))) a t0 : Nat) : Int) - (costB (sg (sg b G45) (upN (bg (sg b G45)) (4 * a + t0) ((lb45 + ub45) / 2))) a 0 : Nat))), wB C nw b, wB C tr (sg (sg b G45) (upN (bg (sg b G45)) (4 * a + t0) ((lb45 + ub45) / 2))), wX C iq (idxT b) (fun _ => 1) vx2 ox2]) H := hP
          have hD : va_D (q_A (List.flatten [wA C x nw tr hq iq tt sc z, wB C nw b, wB C tr b2, wX C iq t f v o]) s) (List.flatten [wA C x nw tr hq iq tt sc (upZ z45 a (((idxN (sg (sg b G45) (upN (bg (sg b G45)) (4 * a + t0) ((lb45 + ub45) / 2))) a t0 : Nat) : Int) - (costB (sg (sg b G45) (upN (bg (sg b G45)) (4 * a + t0) ((lb45 + ub45) / 2))) a 0 : Nat))), wB C nw b, wB C tr (sg (sg b G45) (upN (bg (sg b G45)) (4 * a + t0) ((lb45 + ub45) / 2))), wX C iq (idxT b) (fun _ => 1) vx2 ox2]) := hD
          refine W.eq (g2 := F0 m 74 ls [.int (q_b (decide (gsN (upZ z45 a (((idxN (sg (sg b G45) (upN (bg (sg b G45)) (4 * a + t0) ((lb45 + ub45) / 2))) a t0 : Nat) : Int) - (costB (sg (sg b G45) (upN (bg (sg b G45)) (4 * a + t0) ((lb45 + ub45) / 2))) a 0 : Nat))) (bl (sg b G45) - 1) 4 = a)))]) rfl ?_
          refine lv_if_eq (tgt := 84) hx hb dX4_giftFor_74 (by decide) (fun c74 => ?_) (fun c74 => ?_)
          · have c74 : decide (gsN (upZ z45 a (((idxN (sg (sg b G45) (upN (bg (sg b G45)) (4 * a + t0) ((lb45 + ub45) / 2))) a t0 : Nat) : Int) - (costB (sg (sg b G45) (upN (bg (sg b G45)) (4 * a + t0) ((lb45 + ub45) / 2))) a 0 : Nat))) (bl (sg b G45) - 1) 4 = a) = false := q_b0.mp c74
            have hq := of_decide_eq_false c74
            rw [show sg (sg b G45) (upN (bg (sg b G45)) (4 * a + t0) ((lb45 + ub45) / 2)) = sg b (upN (bg b) (4 * a + t0) ((lb45 + ub45) / 2)) from congrArg (sg b) (hG45 _)] at hq
            have hwc := wc_same hB ha ht (g := (lb45 + ub45) / 2) hz45
            have hL := lg_no hB ha ht hm99 (fun q => hq (hwc.trans q))
            have hV := hvW_s (show i45 < 7 by omega)
            have hBG2 : OkB (sg (sg b G45) (upN (bg (sg b G45)) (4 * a + t0) ((lb45 + ub45) / 2))) := okB_sg hBG45 hm99
            have hi6 := idxN_le hBG2 ha ht
            have hc6 := costB_le hBG2 a 0
            refine lv_iload hx hb dX4_giftFor_84 (lv_at hl 0 rfl) ?_
            refine lv_iconst (v := nI 1) hx hb dX4_giftFor_86 (by decide) ?_
            refine lv_iadd hx hb dX4_giftFor_87 ?_
            refine q_ti (y := nI (((lb45 + ub45) / 2) + 1)) (nI_add _ _) ?_
            refine lv_istore_n (lv' := [(3, .int (nI (((lb45 + ub45) / 2) + 1))), (6, .int (nI ((lb45 + ub45) / 2))), (5, .int (nI i45)), (4, .int (nI ub45)), (0, .ref x), (1, .int (nI a)), (2, .int (nI t0))]) hx hb dX4_giftFor_88 rfl hl (by decide) rfl (fun ls hl => ?_)
            refine lv_iinc (v := nI (i45 + 1)) (lv' := [(5, .int (nI (i45 + 1))), (3, .int (nI (((lb45 + ub45) / 2) + 1))), (6, .int (nI ((lb45 + ub45) / 2))), (4, .int (nI ub45)), (0, .ref x), (1, .int (nI a)), (2, .int (nI t0))]) hx hb dX4_giftFor_89 hl (k := 2) rfl (nI_1 _) (by decide) rfl (fun ls hl => ?_)
            refine lv_goto (tgt := 45) hx hb dX4_giftFor_92 (by decide) ?_
            exact ih45 (i45 + 1) (((lb45 + ub45) / 2) + 1) ub45 (upN G45 (4 * a + t0) ((lb45 + ub45) / 2)) (upZ z45 a (((idxN (sg (sg b G45) (upN (bg (sg b G45)) (4 * a + t0) ((lb45 + ub45) / 2))) a t0 : Nat) : Int) - (costB (sg (sg b G45) (upN (bg (sg b G45)) (4 * a + t0) ((lb45 + ub45) / 2))) a 0 : Nat))) vx2 ox2 (by omega) (by omega) (by omega) (by omega) (by omega) (by omega) (fun g => by rw [upN_up]; exact hG45 g) hBG2 (fun k hk hka => (upZ_n hka).trans (hz45 k hk hka)) (fun k hk => by
                  by_cases e : k = a
                  · subst e; show _ ≤ upZ _ k _ k ∧ upZ _ k _ k ≤ _; rw [upZ_s]; exact ⟨by omega, by omega⟩
                  · show _ ≤ upZ _ a _ k ∧ upZ _ a _ k ≤ _; rw [upZ_n e]; exact hzb45 k hk) _ _ ls hP hD hS (lv_sub hl [0, 3, 1, 4, 5, 6] rfl)
          · have c74 : decide (gsN (upZ z45 a (((idxN (sg (sg b G45) (upN (bg (sg b G45)) (4 * a + t0) ((lb45 + ub45) / 2))) a t0 : Nat) : Int) - (costB (sg (sg b G45) (upN (bg (sg b G45)) (4 * a + t0) ((lb45 + ub45) / 2))) a 0 : Nat))) (bl (sg b G45) - 1) 4 = a) = true := q_b1.mp c74
            have hq := of_decide_eq_true c74
            rw [show sg (sg b G45) (upN (bg (sg b G45)) (4 * a + t0) ((lb45 + ub45) / 2)) = sg b (upN (bg b) (4 * a + t0) ((lb45 + ub45) / 2)) from congrArg (sg b) (hG45 _)] at hq
            have hwc := wc_same hB ha ht (g := (lb45 + ub45) / 2) hz45
            have hL := lg_yes (hwc.symm.trans hq)
            have hV := hvW_s (show i45 < 7 by omega)
            have hBG2 : OkB (sg (sg b G45) (upN (bg (sg b G45)) (4 * a + t0) ((lb45 + ub45) / 2))) := okB_sg hBG45 hm99
            have hi6 := idxN_le hBG2 ha ht
            have hc6 := costB_le hBG2 a 0
            refine lv_iload hx hb dX4_giftFor_77 (lv_at hl 0 rfl) ?_
            refine lv_istore (lv' := [(4, .int (nI ((lb45 + ub45) / 2))), (6, .int (nI ((lb45 + ub45) / 2))), (5, .int (nI i45)), (3, .int (nI lb45)), (0, .ref x), (1, .int (nI a)), (2, .int (nI t0))]) hx hb dX4_giftFor_79 hl (by decide) rfl (fun ls hl => ?_)
            refine lv_goto (tgt := 89) hx hb dX4_giftFor_81 (by decide) ?_
            refine lv_iinc (v := nI (i45 + 1)) (lv' := [(5, .int (nI (i45 + 1))), (4, .int (nI ((lb45 + ub45) / 2))), (6, .int (nI ((lb45 + ub45) / 2))), (3, .int (nI lb45)), (0, .ref x), (1, .int (nI a)), (2, .int (nI t0))]) hx hb dX4_giftFor_89 hl (k := 2) rfl (nI_1 _) (by decide) rfl (fun ls hl => ?_)
            refine lv_goto (tgt := 45) hx hb dX4_giftFor_92 (by decide) ?_
            exact ih45 (i45 + 1) lb45 ((lb45 + ub45) / 2) (upN G45 (4 * a + t0) ((lb45 + ub45) / 2)) (upZ z45 a (((idxN (sg (sg b G45) (upN (bg (sg b G45)) (4 * a + t0) ((lb45 + ub45) / 2))) a t0 : Nat) : Int) - (costB (sg (sg b G45) (upN (bg (sg b G45)) (4 * a + t0) ((lb45 + ub45) / 2))) a 0 : Nat))) vx2 ox2 (by omega) (by omega) (by omega) (by omega) (by omega) (by omega) (fun g => by rw [upN_up]; exact hG45 g) hBG2 (fun k hk hka => (upZ_n hka).trans (hz45 k hk hka)) (fun k hk => by
                  by_cases e : k = a
                  · subst e; show _ ≤ upZ _ k _ k ∧ upZ _ k _ k ≤ _; rw [upZ_s]; exact ⟨by omega, by omega⟩
                  · show _ ≤ upZ _ a _ k ∧ upZ _ a _ k ≤ _; rw [upZ_n e]; exact hzb45 k hk) _ _ ls hP hD hS (lv_sub hl [0, 1, 3, 4, 5, 6] rfl)
  exact K45 (7 + 1 - 0) 0 0 100 (bg b) (scN b (idxT b) 0) vx1 ox1 (by omega) (by omega) (Nat.zero_le _) (lg_le b a t0) (by omega) (by rw [hvW_0]; omega) (fun _ => rfl) hB (fun _ _ _ => rfl) (fun k hk => scN_in hB (idxT_le hB) hk) _ _ ls hP hD hS (lv_sub hl [0, 1, 2, 3, 4, 5] rfl)
