/-! the class's face: its looks -/
theorem k5 {k : Nat} (h : k < 5) : k = 0 ∨ k = 1 ∨ k = 2 ∨ k = 3 ∨ k = 4 := by omega
theorem k4 {k : Nat} (h : k < 4) : k = 0 ∨ k = 1 ∨ k = 2 ∨ k = 3 := by omega
theorem k3 {k : Nat} (h : k < 3) : k = 0 ∨ k = 1 ∨ k = 2 := by omega
set_option maxHeartbeats 4000000 in
set_option maxRecDepth 100000 in
theorem c_X4_stateOf (l : Launch) (C : q_C) (x : Nat) (nw tr hq iq tt : Nat → Nat) (sc : Nat) (z : Nat → Int) (b : Bd) (a t0 kx : Nat) (hB : OkB b) (ha : a < 4) (ht : t0 < 4) (hk : kx < 5) : q_M C l yX4_stateOf wsX4_stateOf 3 70 [.ref x, .int (nI a), .int (nI t0), .int (nI kx)] (wA C x nw tr hq iq tt sc z ++ wB C nw b) (fun r2 w => r2 = some (.int (nI (osN b a t0 kx))) ∧ w = wA C x nw tr hq iq tt sc z ++ wB C nw b) := by
  refine q_head (cc := cX4_stateOf) (maxL := 5) (ret := (some .int)) (by decide +kernel) rfl (Nat.le_of_ble_eq_true rfl) ?_
  intro p e s m below meth c hx hb hr hlocks hml hown hts hK hP hD hS hA ls hl
  have hl : lv_has ls 5 [(0, .ref x), (1, .int (nI a)), (2, .int (nI t0)), (3, .int (nI kx))] := hl
  have hf10 := hts (.fieldLink RX4 10 "RestedArms" "now" "LRestedArms$Board;") (by decide +kernel)
  have hf67 := hts (.fieldLink RX4 67 "RestedArms$Board" "gifts" "[I") (by decide +kernel)
  have hf85 := hts (.fieldLink RX4 85 "RestedArms$Board" "goods" "[I") (by decide +kernel)
  have hf88 := hts (.fieldLink RX4 88 "RestedArms$Board" "bads" "[I") (by decide +kernel)
  have hf91 := hts (.fieldLink RX4 91 "RestedArms$Board" "chances" "[I") (by decide +kernel)
  have hin0 : ∀ w ∈ u_ws RX0 TX0 12, w ∈ wsX4_stateOf := by decide +kernel
  have hin4 : ∀ w ∈ u_ws RX4 TX4 6, w ∈ wsX4_stateOf := by decide +kernel
  refine lv_iload_n hx hb dX4_stateOf_0 rfl (lv_at hl 1 rfl) ?_
  refine lv_iload_n hx hb dX4_stateOf_1 rfl (lv_at hl 2 rfl) ?_
  refine q_S (As := [.int (nI a), .int (nI t0)]) (rest := []) ⟨hx, hb, hml, hown, hts⟩ (c_X4_needState l C a t0 (by omega) (by omega)) (va_cwS 2 hts gX4_stateOf_X4_needState rfl rfl rfl (by decide +kernel) ⟨Nat.le_of_ble_eq_true rfl, Nat.le_of_ble_eq_true rfl⟩) hK hP hD hS hA [] (by decide) rfl rfl hl.1 rfl (Nat.le_of_ble_eq_true rfl) dX4_stateOf_2 (Nat.zero_le _) (Nat.zero_le _) (fun r w1 H locs hQ hP hD hS => ?_)
  obtain ⟨rfl, rfl⟩ := hQ
  refine W.eq (g2 := F0 m 5 ls []) rfl ?_
  refine lv_iload_n hx hb dX4_stateOf_5 rfl (lv_at hl 1 rfl) ?_
  refine lv_iload_n hx hb dX4_stateOf_6 rfl (lv_at hl 2 rfl) ?_
  refine q_S (As := [.int (nI a), .int (nI t0)]) (rest := []) ⟨hx, hb, hml, hown, hts⟩ (c_X4_slotOf l C a t0) (va_cwS 2 hts gX4_stateOf_X4_slotOf rfl rfl rfl (by decide +kernel) ⟨Nat.le_of_ble_eq_true rfl, Nat.le_of_ble_eq_true rfl⟩) hK hP hD hS hA [] (by decide) rfl rfl hl.1 rfl (Nat.le_of_ble_eq_true rfl) dX4_stateOf_7 (Nat.zero_le _) (Nat.zero_le _) (fun r w1 H locs hQ hP hD hS => ?_)
  obtain ⟨rfl, rfl⟩ := hQ
  refine W.eq (g2 := F0 m 10 ls [.int (nI (4 * a + t0))]) rfl ?_
  refine lv_istore (lv' := [(4, .int (nI (4 * a + t0))), (0, .ref x), (1, .int (nI a)), (2, .int (nI t0)), (3, .int (nI kx))]) hx hb dX4_stateOf_10 hl (by decide) rfl (fun ls hl => ?_)
  refine lv_iload_n hx hb dX4_stateOf_12 rfl (lv_at hl 4 rfl) ?_
  rcases k5 hk with rfl | rfl | rfl | rfl | rfl
  · skip
    refine lv_tableIn (off := (35)) (tgt := 48) hx hb dX4_stateOf_13 (by decide) (by decide) (by decide) (by decide) ?_
    refine lv_aload_n hx hb dX4_stateOf_48 rfl (lv_at hl 1 rfl) ?_
    refine va_get (ci := 4) (v := .ref (nw 0)) (C := RX4) (T := TX4) (N := 6) hx hb hts hin4 hown hK.1 hP 0 rfl rfl 0 (by decide) hf10 (fun _ h9 => h9) rfl dX4_stateOf_49 ?_
    refine va_get (ci := 0) (v := .ref (nw 1)) (C := RX0) (T := TX0) (N := 12) hx hb hts hin0 hown hK.1 hP 2 rfl rfl 0 (by decide) hf67 (fun _ h9 => h9) rfl dX4_stateOf_52 ?_
    refine lv_iload hx hb dX4_stateOf_55 (lv_at hl 0 rfl) ?_
    refine q_S (As := [.ref (nw 1), .int (nI (4 * a + t0))]) (rest := []) ⟨hx, hb, hml, hown, hts⟩ (c_X4_at l C (nw 1) 16 (4 * a + t0) (fun k => nI (bg b k)) (by omega) (by decide)) (va_cwS 2 hts gX4_stateOf_X4_at rfl rfl rfl (by decide +kernel) ⟨Nat.le_of_ble_eq_true rfl, Nat.le_of_ble_eq_true rfl⟩) hK hP hD hS hA [3] (by decide) rfl rfl hl.1 rfl (Nat.le_of_ble_eq_true rfl) dX4_stateOf_57 (Nat.zero_le _) (Nat.zero_le _) (fun r w1 H locs hQ hP hD hS => ?_)
    obtain ⟨rfl, rfl⟩ := hQ
    have hP : va_P C.1 vwCl (wA C x nw tr hq iq tt sc z ++ wB C nw b) H := hP
    have hD : va_D (q_A (wA C x nw tr hq iq tt sc z ++ wB C nw b) s) (wA C x nw tr hq iq tt sc z ++ wB C nw b) := hD
    refine W.eq (g2 := F0 m 60 ls [.int (nI (bg b (4 * a + t0)))]) rfl ?_
    exact q_iret hx hb hr hlocks (w1 := wA C x nw tr hq iq tt sc z ++ wB C nw b) hP hS rfl dX4_stateOf_60 (⟨rfl, rfl⟩)
  · skip
    refine lv_tableIn (off := (48)) (tgt := 61) hx hb dX4_stateOf_13 (by decide) (by decide) (by decide) (by decide) ?_
    refine lv_aload_n hx hb dX4_stateOf_61 rfl (lv_at hl 1 rfl) ?_
    refine va_get (ci := 4) (v := .ref (nw 0)) (C := RX4) (T := TX4) (N := 6) hx hb hts hin4 hown hK.1 hP 0 rfl rfl 0 (by decide) hf10 (fun _ h9 => h9) rfl dX4_stateOf_62 ?_
    refine va_get (ci := 0) (v := .ref (nw 2)) (C := RX0) (T := TX0) (N := 12) hx hb hts hin0 hown hK.1 hP 2 rfl rfl 1 (by decide) hf85 (fun _ h9 => h9) rfl dX4_stateOf_65 ?_
    refine lv_iload hx hb dX4_stateOf_68 (lv_at hl 0 rfl) ?_
    refine q_S (As := [.ref (nw 2), .int (nI (4 * a + t0))]) (rest := []) ⟨hx, hb, hml, hown, hts⟩ (c_X4_at l C (nw 2) 16 (4 * a + t0) (fun k => nI (bo b k)) (by omega) (by decide)) (va_cwS 2 hts gX4_stateOf_X4_at rfl rfl rfl (by decide +kernel) ⟨Nat.le_of_ble_eq_true rfl, Nat.le_of_ble_eq_true rfl⟩) hK hP hD hS hA [4] (by decide) rfl rfl hl.1 rfl (Nat.le_of_ble_eq_true rfl) dX4_stateOf_70 (Nat.zero_le _) (Nat.zero_le _) (fun r w1 H locs hQ hP hD hS => ?_)
    obtain ⟨rfl, rfl⟩ := hQ
    have hP : va_P C.1 vwCl (wA C x nw tr hq iq tt sc z ++ wB C nw b) H := hP
    have hD : va_D (q_A (wA C x nw tr hq iq tt sc z ++ wB C nw b) s) (wA C x nw tr hq iq tt sc z ++ wB C nw b) := hD
    refine W.eq (g2 := F0 m 73 ls [.int (nI (bo b (4 * a + t0)))]) rfl ?_
    exact q_iret hx hb hr hlocks (w1 := wA C x nw tr hq iq tt sc z ++ wB C nw b) hP hS rfl dX4_stateOf_73 (⟨rfl, rfl⟩)
  · skip
    refine lv_tableIn (off := (61)) (tgt := 74) hx hb dX4_stateOf_13 (by decide) (by decide) (by decide) (by decide) ?_
    refine lv_aload_n hx hb dX4_stateOf_74 rfl (lv_at hl 1 rfl) ?_
    refine va_get (ci := 4) (v := .ref (nw 0)) (C := RX4) (T := TX4) (N := 6) hx hb hts hin4 hown hK.1 hP 0 rfl rfl 0 (by decide) hf10 (fun _ h9 => h9) rfl dX4_stateOf_75 ?_
    refine va_get (ci := 0) (v := .ref (nw 3)) (C := RX0) (T := TX0) (N := 12) hx hb hts hin0 hown hK.1 hP 2 rfl rfl 2 (by decide) hf88 (fun _ h9 => h9) rfl dX4_stateOf_78 ?_
    refine lv_iload hx hb dX4_stateOf_81 (lv_at hl 0 rfl) ?_
    refine q_S (As := [.ref (nw 3), .int (nI (4 * a + t0))]) (rest := []) ⟨hx, hb, hml, hown, hts⟩ (c_X4_at l C (nw 3) 16 (4 * a + t0) (fun k => nI (bb b k)) (by omega) (by decide)) (va_cwS 2 hts gX4_stateOf_X4_at rfl rfl rfl (by decide +kernel) ⟨Nat.le_of_ble_eq_true rfl, Nat.le_of_ble_eq_true rfl⟩) hK hP hD hS hA [5] (by decide) rfl rfl hl.1 rfl (Nat.le_of_ble_eq_true rfl) dX4_stateOf_83 (Nat.zero_le _) (Nat.zero_le _) (fun r w1 H locs hQ hP hD hS => ?_)
    obtain ⟨rfl, rfl⟩ := hQ
    have hP : va_P C.1 vwCl (wA C x nw tr hq iq tt sc z ++ wB C nw b) H := hP
    have hD : va_D (q_A (wA C x nw tr hq iq tt sc z ++ wB C nw b) s) (wA C x nw tr hq iq tt sc z ++ wB C nw b) := hD
    refine W.eq (g2 := F0 m 86 ls [.int (nI (bb b (4 * a + t0)))]) rfl ?_
    exact q_iret hx hb hr hlocks (w1 := wA C x nw tr hq iq tt sc z ++ wB C nw b) hP hS rfl dX4_stateOf_86 (⟨rfl, rfl⟩)
  · skip
    refine lv_tableIn (off := (74)) (tgt := 87) hx hb dX4_stateOf_13 (by decide) (by decide) (by decide) (by decide) ?_
    refine lv_aload_n hx hb dX4_stateOf_87 rfl (lv_at hl 1 rfl) ?_
    refine va_get (ci := 4) (v := .ref (nw 0)) (C := RX4) (T := TX4) (N := 6) hx hb hts hin4 hown hK.1 hP 0 rfl rfl 0 (by decide) hf10 (fun _ h9 => h9) rfl dX4_stateOf_88 ?_
    refine va_get (ci := 0) (v := .ref (nw 4)) (C := RX0) (T := TX0) (N := 12) hx hb hts hin0 hown hK.1 hP 2 rfl rfl 3 (by decide) hf91 (fun _ h9 => h9) rfl dX4_stateOf_91 ?_
    refine lv_iload hx hb dX4_stateOf_94 (lv_at hl 0 rfl) ?_
    refine q_S (As := [.ref (nw 4), .int (nI (4 * a + t0))]) (rest := []) ⟨hx, hb, hml, hown, hts⟩ (c_X4_at l C (nw 4) 16 (4 * a + t0) (fun k => nI (bc b k)) (by omega) (by decide)) (va_cwS 2 hts gX4_stateOf_X4_at rfl rfl rfl (by decide +kernel) ⟨Nat.le_of_ble_eq_true rfl, Nat.le_of_ble_eq_true rfl⟩) hK hP hD hS hA [6] (by decide) rfl rfl hl.1 rfl (Nat.le_of_ble_eq_true rfl) dX4_stateOf_96 (Nat.zero_le _) (Nat.zero_le _) (fun r w1 H locs hQ hP hD hS => ?_)
    obtain ⟨rfl, rfl⟩ := hQ
    have hP : va_P C.1 vwCl (wA C x nw tr hq iq tt sc z ++ wB C nw b) H := hP
    have hD : va_D (q_A (wA C x nw tr hq iq tt sc z ++ wB C nw b) s) (wA C x nw tr hq iq tt sc z ++ wB C nw b) := hD
    refine W.eq (g2 := F0 m 99 ls [.int (nI (bc b (4 * a + t0)))]) rfl ?_
    exact q_iret hx hb hr hlocks (w1 := wA C x nw tr hq iq tt sc z ++ wB C nw b) hP hS rfl dX4_stateOf_99 (⟨rfl, rfl⟩)
  · skip
    refine lv_tableIn (off := (87)) (tgt := 100) hx hb dX4_stateOf_13 (by decide) (by decide) (by decide) (by decide) ?_
    refine lv_aload_n hx hb dX4_stateOf_100 rfl (lv_at hl 1 rfl) ?_
    refine lv_iload_n hx hb dX4_stateOf_101 rfl (lv_at hl 2 rfl) ?_
    refine lv_iload_n hx hb dX4_stateOf_102 rfl (lv_at hl 3 rfl) ?_
    refine q_V (As := [.int (nI a), .int (nI t0)]) (rest := []) ⟨hx, hb, hml, hown, hts⟩ (c_X4_reachedFrom l C x nw tr hq iq tt sc z b a t0 hB (by omega) (by omega)) (cwV 2 hts gX4_stateOf_X4_reachedFrom rfl rfl rfl (by decide +kernel) ⟨Nat.le_of_ble_eq_true rfl, Nat.le_of_ble_eq_true rfl⟩) hK hP hD hS hA [0, 1, 2, 3, 4, 5, 6, 7, 8, 9] (by decide) rfl 0 rfl rfl rfl rfl hl.1 rfl (Nat.le_of_ble_eq_true rfl) dX4_stateOf_103 (Nat.zero_le _) (Nat.zero_le _) (fun r w1 H locs hQ hP hD hS => ?_)
    obtain ⟨rfl, rfl⟩ := hQ
    have hP : va_P C.1 vwCl (wA C x nw tr hq iq tt sc z ++ wB C nw b) H := hP
    have hD : va_D (q_A (wA C x nw tr hq iq tt sc z ++ wB C nw b) s) (wA C x nw tr hq iq tt sc z ++ wB C nw b) := hD
    refine W.eq (g2 := F0 m 106 ls [.int (nI (rcN b a t0 3))]) rfl ?_
    exact q_iret hx hb hr hlocks (w1 := wA C x nw tr hq iq tt sc z ++ wB C nw b) hP hS rfl dX4_stateOf_106 (⟨rfl, rfl⟩)
set_option maxHeartbeats 4000000 in
set_option maxRecDepth 100000 in
theorem c_X4_index (l : Launch) (C : q_C) (x : Nat) (nw tr hq iq tt : Nat → Nat) (sc : Nat) (z : Nat → Int) (b : Bd) (t f v o : Nat → Nat) (a t0 : Nat) (hB : OkB b) (ha : a < 4) (ht : t0 < 4) (hfr : frB b t f) : q_M C l yX4_index wsX4_index 4 110 [.ref x, .int (nI a), .int (nI t0)] (wA C x nw tr hq iq tt sc z ++ wB C nw b ++ wX C iq t f v o) (fun r2 w => ∃ v1 o1, r2 = some (.long (lN (idxN b a t0))) ∧ w = wA C x nw tr hq iq tt sc z ++ wB C nw b ++ wX C iq (idxT b) (fun _ => 1) v1 o1) := by
  refine q_head (cc := cX4_index) (maxL := 3) (ret := (some .long)) (by decide +kernel) rfl (Nat.le_of_ble_eq_true rfl) ?_
  intro p e s m below meth c hx hb hr hlocks hml hown hts hK hP hD hS hA ls hl
  have hl : lv_has ls 3 [(0, .ref x), (1, .int (nI a)), (2, .int (nI t0))] := hl
  have hf10 := hts (.fieldLink RX4 10 "RestedArms" "now" "LRestedArms$Board;") (by decide +kernel)
  have hf188 := hts (.fieldLink RX4 188 "RestedArms$Indices" "table" "[J") (by decide +kernel)
  have hf29 := hts (.fieldLink RX4 29 "RestedArms" "indices" "LRestedArms$Indices;") (by decide +kernel)
  have hin2 : ∀ w ∈ u_ws RX2 TX2 4, w ∈ wsX4_index := by decide +kernel
  have hin4 : ∀ w ∈ u_ws RX4 TX4 6, w ∈ wsX4_index := by decide +kernel
  refine lv_iload_n hx hb dX4_index_0 rfl (lv_at hl 1 rfl) ?_
  refine lv_iload_n hx hb dX4_index_1 rfl (lv_at hl 2 rfl) ?_
  refine q_S (As := [.int (nI a), .int (nI t0)]) (rest := []) ⟨hx, hb, hml, hown, hts⟩ (c_X4_needState l C a t0 (by omega) (by omega)) (va_cwS 2 hts gX4_index_X4_needState rfl rfl rfl (by decide +kernel) ⟨Nat.le_of_ble_eq_true rfl, Nat.le_of_ble_eq_true rfl⟩) hK hP hD hS hA [] (by decide) rfl rfl hl.1 rfl (Nat.le_of_ble_eq_true rfl) dX4_index_2 (Nat.zero_le _) (Nat.zero_le _) (fun r w1 H locs hQ hP hD hS => ?_)
  obtain ⟨rfl, rfl⟩ := hQ
  refine W.eq (g2 := F0 m 5 ls []) rfl ?_
  refine lv_aload_n hx hb dX4_index_5 rfl (lv_at hl 0 rfl) ?_
  refine va_get (ci := 4) (v := .ref (iq 0)) (C := RX4) (T := TX4) (N := 6) hx hb hts hin4 hown hK.1 hP 0 rfl rfl 3 (by decide) hf29 (fun _ h9 => h9) rfl dX4_index_6 ?_
  refine lv_aload_n hx hb dX4_index_9 rfl (lv_at hl 0 rfl) ?_
  refine va_get (ci := 4) (v := .ref (nw 0)) (C := RX4) (T := TX4) (N := 6) hx hb hts hin4 hown hK.1 hP 0 rfl rfl 0 (by decide) hf10 (fun _ h9 => h9) rfl dX4_index_10 ?_
  refine q_V (As := [.ref (nw 0)]) (rest := []) ⟨hx, hb, hml, hown, hts⟩ (c_X2_refresh l C iq t f v o nw b hB hfr.1 hfr.2) (cwV 1 hts gX4_index_X2_refresh rfl rfl rfl (by decide +kernel) ⟨Nat.le_of_ble_eq_true rfl, Nat.le_of_ble_eq_true rfl⟩) hK hP hD hS hA [10, 11, 12, 13, 14, 2, 3, 4, 5, 6, 7, 8, 9] (by decide) rfl 10 rfl rfl rfl rfl hl.1 rfl (Nat.le_of_ble_eq_true rfl) dX4_index_13 (Nat.zero_le _) (Nat.zero_le _) (fun r w1 H locs hQ hP hD hS => ?_)
  obtain ⟨vx1, ox1, rfl, rfl⟩ := hQ
  have hP : va_P C.1 vwCl (wA C x nw tr hq iq tt sc z ++ wB C nw b ++ wX C iq (idxT b) (fun _ => 1) vx1 ox1) H := hP
  have hD : va_D (q_A (wA C x nw tr hq iq tt sc z ++ wB C nw b ++ wX C iq t f v o) s) (wA C x nw tr hq iq tt sc z ++ wB C nw b ++ wX C iq (idxT b) (fun _ => 1) vx1 ox1) := hD
  refine W.eq (g2 := F0 m 16 ls []) rfl ?_
  refine lv_aload_n hx hb dX4_index_16 rfl (lv_at hl 0 rfl) ?_
  refine va_get (ci := 4) (v := .ref (iq 0)) (C := RX4) (T := TX4) (N := 6) hx hb hts hin4 hown hK.1 hP 0 rfl rfl 3 (by decide) hf29 (fun _ h9 => h9) rfl dX4_index_17 ?_
  refine va_get (ci := 2) (v := .ref (iq 1)) (C := RX2) (T := TX2) (N := 4) hx hb hts hin2 hown hK.1 hP 10 rfl rfl 0 (by decide) hf188 (fun _ h9 => h9) rfl dX4_index_20 ?_
  refine lv_iload_n hx hb dX4_index_23 rfl (lv_at hl 1 rfl) ?_
  refine lv_iload_n hx hb dX4_index_24 rfl (lv_at hl 2 rfl) ?_
  refine q_S (As := [.int (nI a), .int (nI t0)]) (rest := [.ref (iq 1)]) ⟨hx, hb, hml, hown, hts⟩ (c_X4_slotOf l C a t0) (va_cwS 2 hts gX4_index_X4_slotOf rfl rfl rfl (by decide +kernel) ⟨Nat.le_of_ble_eq_true rfl, Nat.le_of_ble_eq_true rfl⟩) hK hP hD hS hA [] (by decide) rfl rfl hl.1 rfl (Nat.le_of_ble_eq_true rfl) dX4_index_25 (Nat.zero_le _) (Nat.zero_le _) (fun r w1 H locs hQ hP hD hS => ?_)
  obtain ⟨rfl, rfl⟩ := hQ
  refine W.eq (g2 := F0 m 28 ls [.int (nI (4 * a + t0)), .ref (iq 1)]) rfl ?_
  refine q_S (As := [.ref (iq 1), .int (nI (4 * a + t0))]) (rest := []) ⟨hx, hb, hml, hown, hts⟩ (c_X4_at_ l C (iq 1) 16 (4 * a + t0) (fun k => lN ((idxT b) k)) (by omega) (by decide)) (va_cwS 2 hts gX4_index_X4_at_ rfl rfl rfl (by decide +kernel) ⟨Nat.le_of_ble_eq_true rfl, Nat.le_of_ble_eq_true rfl⟩) hK hP hD hS hA [11] (by decide) rfl rfl hl.1 rfl (Nat.le_of_ble_eq_true rfl) dX4_index_28 (Nat.zero_le _) (Nat.zero_le _) (fun r w1 H locs hQ hP hD hS => ?_)
  obtain ⟨rfl, rfl⟩ := hQ
  have hP : va_P C.1 vwCl (wA C x nw tr hq iq tt sc z ++ wB C nw b ++ wX C iq (idxT b) (fun _ => 1) vx1 ox1) H := hP
  have hD : va_D (q_A (wA C x nw tr hq iq tt sc z ++ wB C nw b ++ wX C iq t f v o) s) (wA C x nw tr hq iq tt sc z ++ wB C nw b ++ wX C iq (idxT b) (fun _ => 1) vx1 ox1) := hD
  refine W.eq (g2 := F0 m 31 ls [.long (lN ((idxT b) (4 * a + t0)))]) rfl ?_
  refine q_tl (y := lN (idxN b a t0)) (congrArg lN (idxT_at b a ht)) ?_
  exact q_lret hx hb hr hlocks (w1 := wA C x nw tr hq iq tt sc z ++ wB C nw b ++ wX C iq (idxT b) (fun _ => 1) vx1 ox1) hP hS rfl dX4_index_31 (⟨_, _, rfl, rfl⟩)
set_option maxHeartbeats 4000000 in
set_option maxRecDepth 100000 in
theorem c_X4_arm (l : Launch) (C : q_C) (x : Nat) (nw tr hq iq tt : Nat → Nat) (sc : Nat) (z : Nat → Int) (b : Bd) (t f v o : Nat → Nat) (a kx : Nat) (hB : OkB b) (ha : a < 4) (hk : kx < 4) (hfr : frB b t f) : q_M C l yX4_arm wsX4_arm 4 111 [.ref x, .int (nI a), .int (nI kx)] (wA C x nw tr hq iq tt sc z ++ wB C nw b ++ wX C iq t f v o) (fun r2 w => ∃ t1 f1 v1 o1, r2 = some (.int (nI (oaN b a kx))) ∧ w = wA C x nw tr hq iq tt sc z ++ wB C nw b ++ wX C iq t1 f1 v1 o1 ∧ frB b t1 f1) := by
  have hp4 := hB.2.1 a ha
  refine q_head (cc := cX4_arm) (maxL := 3) (ret := (some .int)) (by decide +kernel) rfl (Nat.le_of_ble_eq_true rfl) ?_
  intro p e s m below meth c hx hb hr hlocks hml hown hts hK hP hD hS hA ls hl
  have hl : lv_has ls 3 [(0, .ref x), (1, .int (nI a)), (2, .int (nI kx))] := hl
  have hf10 := hts (.fieldLink RX4 10 "RestedArms" "now" "LRestedArms$Board;") (by decide +kernel)
  have hf194 := hts (.fieldLink RX4 194 "RestedArms$Board" "pulls" "[I") (by decide +kernel)
  have hf29 := hts (.fieldLink RX4 29 "RestedArms" "indices" "LRestedArms$Indices;") (by decide +kernel)
  have hf94 := hts (.fieldLink RX4 94 "RestedArms$Board" "places" "[I") (by decide +kernel)
  have hin0 : ∀ w ∈ u_ws RX0 TX0 12, w ∈ wsX4_arm := by decide +kernel
  have hin4 : ∀ w ∈ u_ws RX4 TX4 6, w ∈ wsX4_arm := by decide +kernel
  refine lv_iload_n hx hb dX4_arm_0 rfl (lv_at hl 1 rfl) ?_
  refine q_S (As := [.int (nI a)]) (rest := []) ⟨hx, hb, hml, hown, hts⟩ (c_X4_needArm l C a (by omega)) (va_cwS 1 hts gX4_arm_X4_needArm rfl rfl rfl (by decide +kernel) ⟨Nat.le_of_ble_eq_true rfl, Nat.le_of_ble_eq_true rfl⟩) hK hP hD hS hA [] (by decide) rfl rfl hl.1 rfl (Nat.le_of_ble_eq_true rfl) dX4_arm_1 (Nat.zero_le _) (Nat.zero_le _) (fun r w1 H locs hQ hP hD hS => ?_)
  obtain ⟨rfl, rfl⟩ := hQ
  refine W.eq (g2 := F0 m 4 ls []) rfl ?_
  refine lv_iload_n hx hb dX4_arm_4 rfl (lv_at hl 2 rfl) ?_
  rcases k4 hk with rfl | rfl | rfl | rfl
  · skip
    refine lv_tableIn (off := (31)) (tgt := 36) hx hb dX4_arm_5 (by decide) (by decide) (by decide) (by decide) ?_
    refine lv_aload_n hx hb dX4_arm_36 rfl (lv_at hl 0 rfl) ?_
    refine va_get (ci := 4) (v := .ref (nw 0)) (C := RX4) (T := TX4) (N := 6) hx hb hts hin4 hown hK.1 hP 0 rfl rfl 0 (by decide) hf10 (fun _ h9 => h9) rfl dX4_arm_37 ?_
    refine va_get (ci := 0) (v := .ref (nw 5)) (C := RX0) (T := TX0) (N := 12) hx hb hts hin0 hown hK.1 hP 2 rfl rfl 4 (by decide) hf94 (fun _ h9 => h9) rfl dX4_arm_40 ?_
    refine lv_iload_n hx hb dX4_arm_43 rfl (lv_at hl 1 rfl) ?_
    refine q_S (As := [.ref (nw 5), .int (nI a)]) (rest := []) ⟨hx, hb, hml, hown, hts⟩ (c_X4_at l C (nw 5) 4 a (fun k => nI (bp b k)) (by omega) (by decide)) (va_cwS 2 hts gX4_arm_X4_at rfl rfl rfl (by decide +kernel) ⟨Nat.le_of_ble_eq_true rfl, Nat.le_of_ble_eq_true rfl⟩) hK hP hD hS hA [7] (by decide) rfl rfl hl.1 rfl (Nat.le_of_ble_eq_true rfl) dX4_arm_44 (Nat.zero_le _) (Nat.zero_le _) (fun r w1 H locs hQ hP hD hS => ?_)
    obtain ⟨rfl, rfl⟩ := hQ
    have hP : va_P C.1 vwCl (wA C x nw tr hq iq tt sc z ++ wB C nw b ++ wX C iq t f v o) H := hP
    have hD : va_D (q_A (wA C x nw tr hq iq tt sc z ++ wB C nw b ++ wX C iq t f v o) s) (wA C x nw tr hq iq tt sc z ++ wB C nw b ++ wX C iq t f v o) := hD
    refine W.eq (g2 := F0 m 47 ls [.int (nI (bp b a))]) rfl ?_
    exact q_iret hx hb hr hlocks (w1 := wA C x nw tr hq iq tt sc z ++ wB C nw b ++ wX C iq t f v o) hP hS rfl dX4_arm_47 (⟨_, _, _, _, rfl, rfl, hfr⟩)
  · skip
    refine lv_tableIn (off := (43)) (tgt := 48) hx hb dX4_arm_5 (by decide) (by decide) (by decide) (by decide) ?_
    refine lv_aload_n hx hb dX4_arm_48 rfl (lv_at hl 0 rfl) ?_
    refine va_get (ci := 4) (v := .ref (nw 0)) (C := RX4) (T := TX4) (N := 6) hx hb hts hin4 hown hK.1 hP 0 rfl rfl 0 (by decide) hf10 (fun _ h9 => h9) rfl dX4_arm_49 ?_
    refine va_get (ci := 0) (v := .ref (nw 6)) (C := RX0) (T := TX0) (N := 12) hx hb hts hin0 hown hK.1 hP 2 rfl rfl 5 (by decide) hf194 (fun _ h9 => h9) rfl dX4_arm_52 ?_
    refine lv_iload_n hx hb dX4_arm_55 rfl (lv_at hl 1 rfl) ?_
    refine q_S (As := [.ref (nw 6), .int (nI a)]) (rest := []) ⟨hx, hb, hml, hown, hts⟩ (c_X4_at l C (nw 6) 4 a (fun k => nI (bu b k)) (by omega) (by decide)) (va_cwS 2 hts gX4_arm_X4_at rfl rfl rfl (by decide +kernel) ⟨Nat.le_of_ble_eq_true rfl, Nat.le_of_ble_eq_true rfl⟩) hK hP hD hS hA [8] (by decide) rfl rfl hl.1 rfl (Nat.le_of_ble_eq_true rfl) dX4_arm_56 (Nat.zero_le _) (Nat.zero_le _) (fun r w1 H locs hQ hP hD hS => ?_)
    obtain ⟨rfl, rfl⟩ := hQ
    have hP : va_P C.1 vwCl (wA C x nw tr hq iq tt sc z ++ wB C nw b ++ wX C iq t f v o) H := hP
    have hD : va_D (q_A (wA C x nw tr hq iq tt sc z ++ wB C nw b ++ wX C iq t f v o) s) (wA C x nw tr hq iq tt sc z ++ wB C nw b ++ wX C iq t f v o) := hD
    refine W.eq (g2 := F0 m 59 ls [.int (nI (bu b a))]) rfl ?_
    exact q_iret hx hb hr hlocks (w1 := wA C x nw tr hq iq tt sc z ++ wB C nw b ++ wX C iq t f v o) hP hS rfl dX4_arm_59 (⟨_, _, _, _, rfl, rfl, hfr⟩)
  · skip
    refine lv_tableIn (off := (55)) (tgt := 60) hx hb dX4_arm_5 (by decide) (by decide) (by decide) (by decide) ?_
    refine lv_aload_n hx hb dX4_arm_60 rfl (lv_at hl 0 rfl) ?_
    refine va_get (ci := 4) (v := .ref (iq 0)) (C := RX4) (T := TX4) (N := 6) hx hb hts hin4 hown hK.1 hP 0 rfl rfl 3 (by decide) hf29 (fun _ h9 => h9) rfl dX4_arm_61 ?_
    refine lv_aload_n hx hb dX4_arm_64 rfl (lv_at hl 0 rfl) ?_
    refine va_get (ci := 4) (v := .ref (nw 0)) (C := RX4) (T := TX4) (N := 6) hx hb hts hin4 hown hK.1 hP 0 rfl rfl 0 (by decide) hf10 (fun _ h9 => h9) rfl dX4_arm_65 ?_
    refine q_V (As := [.ref (nw 0)]) (rest := []) ⟨hx, hb, hml, hown, hts⟩ (c_X2_refresh l C iq t f v o nw b hB hfr.1 hfr.2) (cwV 1 hts gX4_arm_X2_refresh rfl rfl rfl (by decide +kernel) ⟨Nat.le_of_ble_eq_true rfl, Nat.le_of_ble_eq_true rfl⟩) hK hP hD hS hA [10, 11, 12, 13, 14, 2, 3, 4, 5, 6, 7, 8, 9] (by decide) rfl 10 rfl rfl rfl rfl hl.1 rfl (Nat.le_of_ble_eq_true rfl) dX4_arm_68 (Nat.zero_le _) (Nat.zero_le _) (fun r w1 H locs hQ hP hD hS => ?_)
    obtain ⟨vx1, ox1, rfl, rfl⟩ := hQ
    have hP : va_P C.1 vwCl (wA C x nw tr hq iq tt sc z ++ wB C nw b ++ wX C iq (idxT b) (fun _ => 1) vx1 ox1) H := hP
    have hD : va_D (q_A (wA C x nw tr hq iq tt sc z ++ wB C nw b ++ wX C iq t f v o) s) (wA C x nw tr hq iq tt sc z ++ wB C nw b ++ wX C iq (idxT b) (fun _ => 1) vx1 ox1) := hD
    refine W.eq (g2 := F0 m 71 ls []) rfl ?_
    refine lv_iload_n hx hb dX4_arm_71 rfl (lv_at hl 2 rfl) ?_
    refine lv_iconst (v := nI 2) hx hb dX4_arm_72 (by decide) ?_
    refine lv_icmp_ne (tgt := 84) hx hb dX4_arm_73 (by decide) (fun c => absurd c (by decide)) (fun _ => ?_)
    refine lv_aload_n hx hb dX4_arm_76 rfl (lv_at hl 0 rfl) ?_
    refine lv_iload_n hx hb dX4_arm_77 rfl (lv_at hl 1 rfl) ?_
    refine q_V (As := [.int (nI a)]) (rest := []) ⟨hx, hb, hml, hown, hts⟩ (c_X4_bestState l C x nw tr hq iq tt sc z (idxT b) (fun _ => 1) vx1 ox1 a (by omega) (idxT_le hB)) (cwV 1 hts gX4_arm_X4_bestState rfl rfl rfl (by decide +kernel) ⟨Nat.le_of_ble_eq_true rfl, Nat.le_of_ble_eq_true rfl⟩) hK hP hD hS hA [0, 1, 10, 11, 12, 13, 14] (by decide) rfl 0 rfl rfl rfl rfl hl.1 rfl (Nat.le_of_ble_eq_true rfl) dX4_arm_78 (Nat.zero_le _) (Nat.zero_le _) (fun r w1 H locs hQ hP hD hS => ?_)
    obtain ⟨rfl, rfl⟩ := hQ
    have hP : va_P C.1 vwCl (wA C x nw tr hq iq tt sc z ++ wB C nw b ++ wX C iq (idxT b) (fun _ => 1) vx1 ox1) H := hP
    have hD : va_D (q_A (wA C x nw tr hq iq tt sc z ++ wB C nw b ++ wX C iq t f v o) s) (wA C x nw tr hq iq tt sc z ++ wB C nw b ++ wX C iq (idxT b) (fun _ => 1) vx1 ox1) := hD
    refine W.eq (g2 := F0 m 81 ls [.int (nI (bstN (idxT b) a 3))]) rfl ?_
    refine lv_goto (tgt := 89) hx hb dX4_arm_81 (by decide) ?_
    exact q_iret hx hb hr hlocks (w1 := wA C x nw tr hq iq tt sc z ++ wB C nw b ++ wX C iq (idxT b) (fun _ => 1) vx1 ox1) hP hS rfl dX4_arm_89 (⟨_, _, _, _, rfl, rfl, frB_1 b⟩)
  · skip
    refine lv_tableIn (off := (55)) (tgt := 60) hx hb dX4_arm_5 (by decide) (by decide) (by decide) (by decide) ?_
    refine lv_aload_n hx hb dX4_arm_60 rfl (lv_at hl 0 rfl) ?_
    refine va_get (ci := 4) (v := .ref (iq 0)) (C := RX4) (T := TX4) (N := 6) hx hb hts hin4 hown hK.1 hP 0 rfl rfl 3 (by decide) hf29 (fun _ h9 => h9) rfl dX4_arm_61 ?_
    refine lv_aload_n hx hb dX4_arm_64 rfl (lv_at hl 0 rfl) ?_
    refine va_get (ci := 4) (v := .ref (nw 0)) (C := RX4) (T := TX4) (N := 6) hx hb hts hin4 hown hK.1 hP 0 rfl rfl 0 (by decide) hf10 (fun _ h9 => h9) rfl dX4_arm_65 ?_
    refine q_V (As := [.ref (nw 0)]) (rest := []) ⟨hx, hb, hml, hown, hts⟩ (c_X2_refresh l C iq t f v o nw b hB hfr.1 hfr.2) (cwV 1 hts gX4_arm_X2_refresh rfl rfl rfl (by decide +kernel) ⟨Nat.le_of_ble_eq_true rfl, Nat.le_of_ble_eq_true rfl⟩) hK hP hD hS hA [10, 11, 12, 13, 14, 2, 3, 4, 5, 6, 7, 8, 9] (by decide) rfl 10 rfl rfl rfl rfl hl.1 rfl (Nat.le_of_ble_eq_true rfl) dX4_arm_68 (Nat.zero_le _) (Nat.zero_le _) (fun r w1 H locs hQ hP hD hS => ?_)
    obtain ⟨vx2, ox2, rfl, rfl⟩ := hQ
    have hP : va_P C.1 vwCl (wA C x nw tr hq iq tt sc z ++ wB C nw b ++ wX C iq (idxT b) (fun _ => 1) vx2 ox2) H := hP
    have hD : va_D (q_A (wA C x nw tr hq iq tt sc z ++ wB C nw b ++ wX C iq t f v o) s) (wA C x nw tr hq iq tt sc z ++ wB C nw b ++ wX C iq (idxT b) (fun _ => 1) vx2 ox2) := hD
    refine W.eq (g2 := F0 m 71 ls []) rfl ?_
    refine lv_iload_n hx hb dX4_arm_71 rfl (lv_at hl 2 rfl) ?_
    refine lv_iconst (v := nI 2) hx hb dX4_arm_72 (by decide) ?_
    refine lv_icmp_ne (tgt := 84) hx hb dX4_arm_73 (by decide) (fun _ => ?_) (fun c => absurd c (by decide))
    refine lv_aload_n hx hb dX4_arm_84 rfl (lv_at hl 0 rfl) ?_
    refine lv_iload_n hx hb dX4_arm_85 rfl (lv_at hl 1 rfl) ?_
    refine q_V (As := [.int (nI a)]) (rest := []) ⟨hx, hb, hml, hown, hts⟩ (c_X4_roundsNeeded l C x nw tr hq iq tt sc z b (idxT b) (fun _ => 1) vx2 ox2 a hB (by omega) (idxT_le hB)) (cwV 1 hts gX4_arm_X4_roundsNeeded rfl rfl rfl (by decide +kernel) ⟨Nat.le_of_ble_eq_true rfl, Nat.le_of_ble_eq_true rfl⟩) hK hP hD hS hA [0, 1, 2, 3, 4, 5, 6, 7, 8, 9, 10, 11, 12, 13, 14] (by decide) rfl 0 rfl rfl rfl rfl hl.1 rfl (Nat.le_of_ble_eq_true rfl) dX4_arm_86 (Nat.zero_le _) (Nat.zero_le _) (fun r w1 H locs hQ hP hD hS => ?_)
    obtain ⟨vx3, ox3, rfl, rfl⟩ := hQ
    have hP : va_P C.1 vwCl (wA C x nw tr hq iq tt sc z ++ wB C nw b ++ wX C iq (idxT b) (fun _ => 1) vx3 ox3) H := hP
    have hD : va_D (q_A (wA C x nw tr hq iq tt sc z ++ wB C nw b ++ wX C iq t f v o) s) (wA C x nw tr hq iq tt sc z ++ wB C nw b ++ wX C iq (idxT b) (fun _ => 1) vx3 ox3) := hD
    refine W.eq (g2 := F0 m 89 ls [.int (nI (leastN b a (bp b a) ((idxT b) (4 * a + bp b a))))]) rfl ?_
    exact q_iret hx hb hr hlocks (w1 := wA C x nw tr hq iq tt sc z ++ wB C nw b ++ wX C iq (idxT b) (fun _ => 1) vx3 ox3) hP hS rfl dX4_arm_89 (⟨_, _, _, _, by rw [idxT_at b a hp4]; rfl, rfl, frB_1 b⟩)
set_option maxHeartbeats 4000000 in
set_option maxRecDepth 100000 in
theorem c_X4_count (l : Launch) (C : q_C) (x : Nat) (nw tr hq iq tt : Nat → Nat) (sc : Nat) (z : Nat → Int) (b : Bd) (ba : Nat → Nat → Nat) (r n kx : Nat) (hk : kx < 4) : q_M C l yX4_count wsX4_count 2 43 [.ref x, .int (nI kx)] (wA C x nw tr hq iq tt sc z ++ wB C nw b ++ wHa C hq ba r n) (fun r2 w => r2 = some (.int (cnI b n kx)) ∧ w = wA C x nw tr hq iq tt sc z ++ wB C nw b ++ wHa C hq ba r n) := by
  refine q_head (cc := cX4_count) (maxL := 2) (ret := (some .int)) (by decide +kernel) rfl (Nat.le_of_ble_eq_true rfl) ?_
  intro p e s m below meth c hx hb hr hlocks hml hown hts hK hP hD hS hA ls hl
  have hl : lv_has ls 2 [(0, .ref x), (1, .int (nI kx))] := hl
  have hf10 := hts (.fieldLink RX4 10 "RestedArms" "now" "LRestedArms$Board;") (by decide +kernel)
  have hf140 := hts (.fieldLink RX4 140 "RestedArms$Board" "changes" "I") (by decide +kernel)
  have hf175 := hts (.fieldLink RX4 175 "RestedArms$History" "count" "I") (by decide +kernel)
  have hf206 := hts (.fieldLink RX4 206 "RestedArms$Board" "last" "I") (by decide +kernel)
  have hf22 := hts (.fieldLink RX4 22 "RestedArms" "history" "LRestedArms$History;") (by decide +kernel)
  have hin0 : ∀ w ∈ u_ws RX0 TX0 12, w ∈ wsX4_count := by decide +kernel
  have hin1 : ∀ w ∈ u_ws RX1 TX1 2, w ∈ wsX4_count := by decide +kernel
  have hin4 : ∀ w ∈ u_ws RX4 TX4 6, w ∈ wsX4_count := by decide +kernel
  refine lv_iload_n hx hb dX4_count_0 rfl (lv_at hl 1 rfl) ?_
  rcases k4 hk with rfl | rfl | rfl | rfl
  · skip
    refine lv_tableIn (off := (31)) (tgt := 32) hx hb dX4_count_1 (by decide) (by decide) (by decide) (by decide) ?_
    refine lv_aload_n hx hb dX4_count_32 rfl (lv_at hl 0 rfl) ?_
    refine va_get (ci := 4) (v := .ref (nw 0)) (C := RX4) (T := TX4) (N := 6) hx hb hts hin4 hown hK.1 hP 0 rfl rfl 0 (by decide) hf10 (fun _ h9 => h9) rfl dX4_count_33 ?_
    refine q_V (As := []) (rest := []) ⟨hx, hb, hml, hown, hts⟩ (c_X0_allPulls l C nw b ) (cwV 0 hts gX4_count_X0_allPulls rfl rfl rfl (by decide +kernel) ⟨Nat.le_of_ble_eq_true rfl, Nat.le_of_ble_eq_true rfl⟩) hK hP hD hS hA [2, 3, 4, 5, 6, 7, 8, 9] (by decide) rfl 2 rfl rfl rfl rfl hl.1 rfl (Nat.le_of_ble_eq_true rfl) dX4_count_36 (Nat.zero_le _) (Nat.zero_le _) (fun r w1 H locs hQ hP hD hS => ?_)
    obtain ⟨rfl, rfl⟩ := hQ
    have hP : va_P C.1 vwCl (wA C x nw tr hq iq tt sc z ++ wB C nw b ++ wHa C hq ba r n) H := hP
    have hD : va_D (q_A (wA C x nw tr hq iq tt sc z ++ wB C nw b ++ wHa C hq ba r n) s) (wA C x nw tr hq iq tt sc z ++ wB C nw b ++ wHa C hq ba r n) := hD
    refine W.eq (g2 := F0 m 39 ls [.int (nI (sumU b))]) rfl ?_
    exact q_iret hx hb hr hlocks (w1 := wA C x nw tr hq iq tt sc z ++ wB C nw b ++ wHa C hq ba r n) hP hS rfl dX4_count_39 (⟨rfl, rfl⟩)
  · skip
    refine lv_tableIn (off := (39)) (tgt := 40) hx hb dX4_count_1 (by decide) (by decide) (by decide) (by decide) ?_
    refine lv_aload_n hx hb dX4_count_40 rfl (lv_at hl 0 rfl) ?_
    refine va_get (ci := 4) (v := .ref (nw 0)) (C := RX4) (T := TX4) (N := 6) hx hb hts hin4 hown hK.1 hP 0 rfl rfl 0 (by decide) hf10 (fun _ h9 => h9) rfl dX4_count_41 ?_
    refine va_get (ci := 0) (v := .int (nI (bx b))) (C := RX0) (T := TX0) (N := 12) hx hb hts hin0 hown hK.1 hP 2 rfl rfl 7 (by decide) hf140 (fun _ h9 => h9) rfl dX4_count_44 ?_
    exact q_iret hx hb hr hlocks (w1 := wA C x nw tr hq iq tt sc z ++ wB C nw b ++ wHa C hq ba r n) hP hS rfl dX4_count_47 (⟨rfl, rfl⟩)
  · skip
    refine lv_tableIn (off := (47)) (tgt := 48) hx hb dX4_count_1 (by decide) (by decide) (by decide) (by decide) ?_
    refine lv_aload_n hx hb dX4_count_48 rfl (lv_at hl 0 rfl) ?_
    refine va_get (ci := 4) (v := .ref (nw 0)) (C := RX4) (T := TX4) (N := 6) hx hb hts hin4 hown hK.1 hP 0 rfl rfl 0 (by decide) hf10 (fun _ h9 => h9) rfl dX4_count_49 ?_
    refine va_get (ci := 0) (v := .int (nI (bl b) - 1)) (C := RX0) (T := TX0) (N := 12) hx hb hts hin0 hown hK.1 hP 2 rfl rfl 8 (by decide) hf206 (fun _ h9 => h9) rfl dX4_count_52 ?_
    exact q_iret hx hb hr hlocks (w1 := wA C x nw tr hq iq tt sc z ++ wB C nw b ++ wHa C hq ba r n) hP hS rfl dX4_count_55 (⟨rfl, rfl⟩)
  · skip
    refine lv_tableIn (off := (55)) (tgt := 56) hx hb dX4_count_1 (by decide) (by decide) (by decide) (by decide) ?_
    refine lv_aload_n hx hb dX4_count_56 rfl (lv_at hl 0 rfl) ?_
    refine va_get (ci := 4) (v := .ref (hq 0)) (C := RX4) (T := TX4) (N := 6) hx hb hts hin4 hown hK.1 hP 0 rfl rfl 2 (by decide) hf22 (fun _ h9 => h9) rfl dX4_count_57 ?_
    refine va_get (ci := 1) (v := .int (nI n)) (C := RX1) (T := TX1) (N := 2) hx hb hts hin1 hown hK.1 hP 10 rfl rfl 1 (by decide) hf175 (fun _ h9 => h9) rfl dX4_count_60 ?_
    exact q_iret hx hb hr hlocks (w1 := wA C x nw tr hq iq tt sc z ++ wB C nw b ++ wHa C hq ba r n) hP hS rfl dX4_count_63 (⟨rfl, rfl⟩)
set_option maxHeartbeats 4000000 in
set_option maxRecDepth 100000 in
theorem c_X4_sum (l : Launch) (C : q_C) (x : Nat) (nw tr hq iq tt : Nat → Nat) (sc : Nat) (z : Nat → Int) (b : Bd) (kx : Nat) (hk : kx < 3) : q_M C l yX4_sum wsX4_sum 0 0 [.ref x, .int (nI kx)] (wA C x nw tr hq iq tt sc z ++ wB C nw b) (fun r2 w => r2 = some (.long (suL b kx)) ∧ w = wA C x nw tr hq iq tt sc z ++ wB C nw b) := by
  refine q_head (cc := cX4_sum) (maxL := 2) (ret := (some .long)) (by decide +kernel) rfl (Nat.le_of_ble_eq_true rfl) ?_
  intro p e s m below meth c hx hb hr hlocks hml hown hts hK hP hD hS hA ls hl
  have hl : lv_has ls 2 [(0, .ref x), (1, .int (nI kx))] := hl
  have hf10 := hts (.fieldLink RX4 10 "RestedArms" "now" "LRestedArms$Board;") (by decide +kernel)
  have hf211 := hts (.fieldLink RX4 211 "RestedArms$Board" "brought" "J") (by decide +kernel)
  have hf215 := hts (.fieldLink RX4 215 "RestedArms$Board" "weight" "J") (by decide +kernel)
  have hf218 := hts (.fieldLink RX4 218 "RestedArms$Board" "row" "J") (by decide +kernel)
  have hin0 : ∀ w ∈ u_ws RX0 TX0 12, w ∈ wsX4_sum := by decide +kernel
  have hin4 : ∀ w ∈ u_ws RX4 TX4 6, w ∈ wsX4_sum := by decide +kernel
  refine lv_iload_n hx hb dX4_sum_0 rfl (lv_at hl 1 rfl) ?_
  rcases k3 hk with rfl | rfl | rfl
  · skip
    refine lv_tableIn (off := (27)) (tgt := 28) hx hb dX4_sum_1 (by decide) (by decide) (by decide) (by decide) ?_
    refine lv_aload_n hx hb dX4_sum_28 rfl (lv_at hl 0 rfl) ?_
    refine va_get (ci := 4) (v := .ref (nw 0)) (C := RX4) (T := TX4) (N := 6) hx hb hts hin4 hown hK.1 hP 0 rfl rfl 0 (by decide) hf10 (fun _ h9 => h9) rfl dX4_sum_29 ?_
    refine va_get (ci := 0) (v := .long (br b)) (C := RX0) (T := TX0) (N := 12) hx hb hts hin0 hown hK.1 hP 2 rfl rfl 9 (by decide) hf211 (fun _ h9 => h9) rfl dX4_sum_32 ?_
    exact q_lret hx hb hr hlocks (w1 := wA C x nw tr hq iq tt sc z ++ wB C nw b) hP hS rfl dX4_sum_35 (⟨rfl, rfl⟩)
  · skip
    refine lv_tableIn (off := (35)) (tgt := 36) hx hb dX4_sum_1 (by decide) (by decide) (by decide) (by decide) ?_
    refine lv_aload_n hx hb dX4_sum_36 rfl (lv_at hl 0 rfl) ?_
    refine va_get (ci := 4) (v := .ref (nw 0)) (C := RX4) (T := TX4) (N := 6) hx hb hts hin4 hown hK.1 hP 0 rfl rfl 0 (by decide) hf10 (fun _ h9 => h9) rfl dX4_sum_37 ?_
    refine va_get (ci := 0) (v := .long (lN (bw b))) (C := RX0) (T := TX0) (N := 12) hx hb hts hin0 hown hK.1 hP 2 rfl rfl 10 (by decide) hf215 (fun _ h9 => h9) rfl dX4_sum_40 ?_
    exact q_lret hx hb hr hlocks (w1 := wA C x nw tr hq iq tt sc z ++ wB C nw b) hP hS rfl dX4_sum_43 (⟨rfl, rfl⟩)
  · skip
    refine lv_tableIn (off := (43)) (tgt := 44) hx hb dX4_sum_1 (by decide) (by decide) (by decide) (by decide) ?_
    refine lv_aload_n hx hb dX4_sum_44 rfl (lv_at hl 0 rfl) ?_
    refine va_get (ci := 4) (v := .ref (nw 0)) (C := RX4) (T := TX4) (N := 6) hx hb hts hin4 hown hK.1 hP 0 rfl rfl 0 (by decide) hf10 (fun _ h9 => h9) rfl dX4_sum_45 ?_
    refine va_get (ci := 0) (v := .long (bz b)) (C := RX0) (T := TX0) (N := 12) hx hb hts hin0 hown hK.1 hP 2 rfl rfl 11 (by decide) hf218 (fun _ h9 => h9) rfl dX4_sum_48 ?_
    exact q_lret hx hb hr hlocks (w1 := wA C x nw tr hq iq tt sc z ++ wB C nw b) hP hS rfl dX4_sum_51 (⟨rfl, rfl⟩)
set_option maxHeartbeats 4000000 in
set_option maxRecDepth 100000 in
theorem c_X4_setting (l : Launch) (C : q_C) (x : Nat) (nw tr hq iq tt : Nat → Nat) (sc : Nat) (z : Nat → Int) (b : Bd) (kx : Nat) (hk : kx < 4) : q_M C l yX4_setting wsX4_setting 2 42 [.ref x, .int (nI kx)] (wA C x nw tr hq iq tt sc z ++ wB C nw b) (fun r2 w => r2 = some (.int (nI (bs b kx))) ∧ w = wA C x nw tr hq iq tt sc z ++ wB C nw b) := by
  refine q_head (cc := cX4_setting) (maxL := 2) (ret := (some .int)) (by decide +kernel) rfl (Nat.le_of_ble_eq_true rfl) ?_
  intro p e s m below meth c hx hb hr hlocks hml hown hts hK hP hD hS hA ls hl
  have hl : lv_has ls 2 [(0, .ref x), (1, .int (nI kx))] := hl
  have hf10 := hts (.fieldLink RX4 10 "RestedArms" "now" "LRestedArms$Board;") (by decide +kernel)
  have hf108 := hts (.fieldLink RX4 108 "RestedArms$Board" "settings" "[I") (by decide +kernel)
  have hin0 : ∀ w ∈ u_ws RX0 TX0 12, w ∈ wsX4_setting := by decide +kernel
  have hin4 : ∀ w ∈ u_ws RX4 TX4 6, w ∈ wsX4_setting := by decide +kernel
  refine lv_iload_n hx hb dX4_setting_0 rfl (lv_at hl 1 rfl) ?_
  refine q_S (As := [.int (nI kx)]) (rest := []) ⟨hx, hb, hml, hown, hts⟩ (c_X4_needSetting l C kx (by omega)) (va_cwS 1 hts gX4_setting_X4_needSetting rfl rfl rfl (by decide +kernel) ⟨Nat.le_of_ble_eq_true rfl, Nat.le_of_ble_eq_true rfl⟩) hK hP hD hS hA [] (by decide) rfl rfl hl.1 rfl (Nat.le_of_ble_eq_true rfl) dX4_setting_1 (Nat.zero_le _) (Nat.zero_le _) (fun r w1 H locs hQ hP hD hS => ?_)
  obtain ⟨rfl, rfl⟩ := hQ
  refine W.eq (g2 := F0 m 4 ls []) rfl ?_
  refine lv_aload_n hx hb dX4_setting_4 rfl (lv_at hl 0 rfl) ?_
  refine va_get (ci := 4) (v := .ref (nw 0)) (C := RX4) (T := TX4) (N := 6) hx hb hts hin4 hown hK.1 hP 0 rfl rfl 0 (by decide) hf10 (fun _ h9 => h9) rfl dX4_setting_5 ?_
  refine va_get (ci := 0) (v := .ref (nw 7)) (C := RX0) (T := TX0) (N := 12) hx hb hts hin0 hown hK.1 hP 2 rfl rfl 6 (by decide) hf108 (fun _ h9 => h9) rfl dX4_setting_8 ?_
  refine lv_iload_n hx hb dX4_setting_11 rfl (lv_at hl 1 rfl) ?_
  refine q_S (As := [.ref (nw 7), .int (nI kx)]) (rest := []) ⟨hx, hb, hml, hown, hts⟩ (c_X4_at l C (nw 7) 4 kx (fun k => nI (bs b k)) (by omega) (by decide)) (va_cwS 2 hts gX4_setting_X4_at rfl rfl rfl (by decide +kernel) ⟨Nat.le_of_ble_eq_true rfl, Nat.le_of_ble_eq_true rfl⟩) hK hP hD hS hA [9] (by decide) rfl rfl hl.1 rfl (Nat.le_of_ble_eq_true rfl) dX4_setting_12 (Nat.zero_le _) (Nat.zero_le _) (fun r w1 H locs hQ hP hD hS => ?_)
  obtain ⟨rfl, rfl⟩ := hQ
  have hP : va_P C.1 vwCl (wA C x nw tr hq iq tt sc z ++ wB C nw b) H := hP
  have hD : va_D (q_A (wA C x nw tr hq iq tt sc z ++ wB C nw b) s) (wA C x nw tr hq iq tt sc z ++ wB C nw b) := hD
  refine W.eq (g2 := F0 m 15 ls [.int (nI (bs b kx))]) rfl ?_
  exact q_iret hx hb hr hlocks (w1 := wA C x nw tr hq iq tt sc z ++ wB C nw b) hP hS rfl dX4_setting_15 (⟨rfl, rfl⟩)
set_option maxHeartbeats 4000000 in
set_option maxRecDepth 100000 in
theorem c_X4_choice (l : Launch) (C : q_C) (x : Nat) (nw tr hq iq tt : Nat → Nat) (sc : Nat) (z : Nat → Int) (b : Bd) (t f v o : Nat → Nat) (rule : Nat) (hB : OkB b) (hr3 : rule < 3) (hfr : frB b t f) : q_M C l yX4_choice wsX4_choice 4 110 [.ref x, .int (nI rule)] (wA C x nw tr hq iq tt sc z ++ wB C nw b ++ wX C iq t f v o) (fun r2 w => ∃ z1 v1 o1, r2 = some (.int (nI (choN b (idxT b) rule))) ∧ w = wA C x nw tr hq iq tt sc z1 ++ wB C nw b ++ wX C iq (idxT b) (fun _ => 1) v1 o1) := by
  refine q_head (cc := cX4_choice) (maxL := 2) (ret := (some .int)) (by decide +kernel) rfl (Nat.le_of_ble_eq_true rfl) ?_
  intro p e s m below meth c hx hb hr hlocks hml hown hts hK hP hD hS hA ls hl
  have hl : lv_has ls 2 [(0, .ref x), (1, .int (nI rule))] := hl
  have hf10 := hts (.fieldLink RX4 10 "RestedArms" "now" "LRestedArms$Board;") (by decide +kernel)
  have hf29 := hts (.fieldLink RX4 29 "RestedArms" "indices" "LRestedArms$Indices;") (by decide +kernel)
  have hin4 : ∀ w ∈ u_ws RX4 TX4 6, w ∈ wsX4_choice := by decide +kernel
  refine lv_iload_n hx hb dX4_choice_0 rfl (lv_at hl 1 rfl) ?_
  refine q_S (As := [.int (nI rule)]) (rest := []) ⟨hx, hb, hml, hown, hts⟩ (c_X4_needRule l C rule (by omega)) (va_cwS 1 hts gX4_choice_X4_needRule rfl rfl rfl (by decide +kernel) ⟨Nat.le_of_ble_eq_true rfl, Nat.le_of_ble_eq_true rfl⟩) hK hP hD hS hA [] (by decide) rfl rfl hl.1 rfl (Nat.le_of_ble_eq_true rfl) dX4_choice_1 (Nat.zero_le _) (Nat.zero_le _) (fun r w1 H locs hQ hP hD hS => ?_)
  obtain ⟨rfl, rfl⟩ := hQ
  refine W.eq (g2 := F0 m 4 ls []) rfl ?_
  refine lv_aload_n hx hb dX4_choice_4 rfl (lv_at hl 0 rfl) ?_
  refine va_get (ci := 4) (v := .ref (iq 0)) (C := RX4) (T := TX4) (N := 6) hx hb hts hin4 hown hK.1 hP 0 rfl rfl 3 (by decide) hf29 (fun _ h9 => h9) rfl dX4_choice_5 ?_
  refine lv_aload_n hx hb dX4_choice_8 rfl (lv_at hl 0 rfl) ?_
  refine va_get (ci := 4) (v := .ref (nw 0)) (C := RX4) (T := TX4) (N := 6) hx hb hts hin4 hown hK.1 hP 0 rfl rfl 0 (by decide) hf10 (fun _ h9 => h9) rfl dX4_choice_9 ?_
  refine q_V (As := [.ref (nw 0)]) (rest := []) ⟨hx, hb, hml, hown, hts⟩ (c_X2_refresh l C iq t f v o nw b hB hfr.1 hfr.2) (cwV 1 hts gX4_choice_X2_refresh rfl rfl rfl (by decide +kernel) ⟨Nat.le_of_ble_eq_true rfl, Nat.le_of_ble_eq_true rfl⟩) hK hP hD hS hA [10, 11, 12, 13, 14, 2, 3, 4, 5, 6, 7, 8, 9] (by decide) rfl 10 rfl rfl rfl rfl hl.1 rfl (Nat.le_of_ble_eq_true rfl) dX4_choice_12 (Nat.zero_le _) (Nat.zero_le _) (fun r w1 H locs hQ hP hD hS => ?_)
  obtain ⟨vx1, ox1, rfl, rfl⟩ := hQ
  have hP : va_P C.1 vwCl (wA C x nw tr hq iq tt sc z ++ wB C nw b ++ wX C iq (idxT b) (fun _ => 1) vx1 ox1) H := hP
  have hD : va_D (q_A (wA C x nw tr hq iq tt sc z ++ wB C nw b ++ wX C iq t f v o) s) (wA C x nw tr hq iq tt sc z ++ wB C nw b ++ wX C iq (idxT b) (fun _ => 1) vx1 ox1) := hD
  refine W.eq (g2 := F0 m 15 ls []) rfl ?_
  refine lv_aload_n hx hb dX4_choice_15 rfl (lv_at hl 0 rfl) ?_
  refine lv_aload_n hx hb dX4_choice_16 rfl (lv_at hl 0 rfl) ?_
  refine va_get (ci := 4) (v := .ref (nw 0)) (C := RX4) (T := TX4) (N := 6) hx hb hts hin4 hown hK.1 hP 0 rfl rfl 0 (by decide) hf10 (fun _ h9 => h9) rfl dX4_choice_17 ?_
  refine lv_iload_n hx hb dX4_choice_20 rfl (lv_at hl 1 rfl) ?_
  refine q_V (As := [.ref (nw 0), .int (nI rule)]) (rest := []) ⟨hx, hb, hml, hown, hts⟩ (c_X4_chosenBy l C x nw tr hq iq tt sc z nw b (idxT b) (fun _ => 1) vx1 ox1 rule hB (by omega) (idxT_le hB)) (cwV 2 hts gX4_choice_X4_chosenBy rfl rfl rfl (by decide +kernel) ⟨Nat.le_of_ble_eq_true rfl, Nat.le_of_ble_eq_true rfl⟩) hK hP hD hS hA [0, 1, 2, 3, 4, 5, 6, 7, 8, 9, 10, 11, 12, 13, 14] (by decide) rfl 0 rfl rfl rfl rfl hl.1 rfl (Nat.le_of_ble_eq_true rfl) dX4_choice_21 (Nat.zero_le _) (Nat.zero_le _) (fun r w1 H locs hQ hP hD hS => ?_)
  obtain ⟨zx2, rfl, rfl⟩ := hQ
  have hP : va_P C.1 vwCl (wA C x nw tr hq iq tt sc zx2 ++ wB C nw b ++ wX C iq (idxT b) (fun _ => 1) vx1 ox1) H := hP
  have hD : va_D (q_A (wA C x nw tr hq iq tt sc z ++ wB C nw b ++ wX C iq t f v o) s) (wA C x nw tr hq iq tt sc zx2 ++ wB C nw b ++ wX C iq (idxT b) (fun _ => 1) vx1 ox1) := hD
  refine W.eq (g2 := F0 m 24 ls [.int (nI (choN b (idxT b) rule))]) rfl ?_
  exact q_iret hx hb hr hlocks (w1 := wA C x nw tr hq iq tt sc zx2 ++ wB C nw b ++ wX C iq (idxT b) (fun _ => 1) vx1 ox1) hP hS rfl dX4_choice_24 (⟨_, _, _, rfl, rfl⟩)
set_option maxHeartbeats 4000000 in
set_option maxRecDepth 100000 in
theorem c_X4_ifPlayed (l : Launch) (C : q_C) (x : Nat) (nw tr hq iq tt : Nat → Nat) (sc : Nat) (z : Nat → Int) (b b2 : Bd) (t f v o : Nat → Nat) (rule k : Nat) (hB : OkB b) (hr3 : rule < 3) (h1 : 1 ≤ k) (h2 : k ≤ 99) (hfr : frB b t f) : q_M C l yX4_ifPlayed wsX4_ifPlayed 6 139 [.ref x, .int (nI rule), .int (nI k)] (List.flatten [wA C x nw tr hq iq tt sc z, wB C nw b, wB C tr b2, wX C iq t f v o]) (fun r2 w => ∃ z1 b3 v1 o1, r2 = some (.long (gnN b rule k)) ∧ w = List.flatten [wA C x nw tr hq iq tt sc z1, wB C nw b, wB C tr b3, wX C iq (idxT b) (fun _ => 1) v1 o1]) := by
  refine q_head (cc := cX4_ifPlayed) (maxL := 3) (ret := (some .long)) (by decide +kernel) rfl (Nat.le_of_ble_eq_true rfl) ?_
  intro p e s m below meth c hx hb hr hlocks hml hown hts hK hP hD hS hA ls hl
  have hl : lv_has ls 3 [(0, .ref x), (1, .int (nI rule)), (2, .int (nI k))] := hl
  refine lv_iload_n hx hb dX4_ifPlayed_0 rfl (lv_at hl 1 rfl) ?_
  refine q_S0 (As := [.int (nI rule)]) (rest := []) ⟨hx, hb, hml, hown, hts⟩ (c_X4_needRule l C rule (by omega)) (va_cwS 1 hts gX4_ifPlayed_X4_needRule rfl rfl rfl (by decide +kernel) ⟨Nat.le_of_ble_eq_true rfl, Nat.le_of_ble_eq_true rfl⟩) hK hP hD hS hA [] (by decide) rfl rfl hl.1 rfl (Nat.le_of_ble_eq_true rfl) dX4_ifPlayed_1 (Nat.zero_le _) (Nat.zero_le _) (fun H locs hP hS => ?_)
  refine W.eq (g2 := F0 m 4 ls []) rfl ?_
  refine lv_iload_n hx hb dX4_ifPlayed_4 rfl (lv_at hl 2 rfl) ?_
  refine q_S0 (As := [.int (nI k)]) (rest := []) ⟨hx, hb, hml, hown, hts⟩ (c_X4_needPulls l C k (by omega) (by omega)) (va_cwS 1 hts gX4_ifPlayed_X4_needPulls rfl rfl rfl (by decide +kernel) ⟨Nat.le_of_ble_eq_true rfl, Nat.le_of_ble_eq_true rfl⟩) hK hP hD hS hA [] (by decide) rfl rfl hl.1 rfl (Nat.le_of_ble_eq_true rfl) dX4_ifPlayed_5 (Nat.zero_le _) (Nat.zero_le _) (fun H locs hP hS => ?_)
  refine W.eq (g2 := F0 m 8 ls []) rfl ?_
  refine lv_aload_n hx hb dX4_ifPlayed_8 rfl (lv_at hl 0 rfl) ?_
  refine lv_iload_n hx hb dX4_ifPlayed_9 rfl (lv_at hl 1 rfl) ?_
  refine lv_iload_n hx hb dX4_ifPlayed_10 rfl (lv_at hl 2 rfl) ?_
  refine q_VB (cs := [wA C x nw tr hq iq tt sc z, wB C nw b, wB C tr b2, wX C iq t f v o]) (As := [.int (nI rule), .int (nI k)]) (rest := []) ⟨hx, hb, hml, hown, hts⟩ (c_X4_gain l C x nw tr hq iq tt sc z b b2 t f v o rule k hB (by omega) (by omega) hfr.1 hfr.2) (cwV 2 hts gX4_ifPlayed_X4_gain rfl rfl rfl (by decide +kernel) ⟨Nat.le_of_ble_eq_true rfl, Nat.le_of_ble_eq_true rfl⟩) hK hP hD hS hA [0, 1, 2, 3] (by decide) rfl 0 rfl rfl rfl rfl hl.1 rfl (Nat.le_of_ble_eq_true rfl) dX4_ifPlayed_11 (Nat.zero_le _) (Nat.zero_le _) (fun r w1 H locs hQ hF hS => ?_)
  obtain ⟨zx1, vx1, ox1, rfl, rfl⟩ := hQ
  obtain ⟨hP, hD⟩ := hF [wA C x nw tr hq iq tt sc zx1, wB C nw b, wB C tr (plN b (idxT b) rule k), wX C iq (idxT b) (fun _ => 1) vx1 ox1] rfl rfl
  have hP : va_P C.1 vwCl (List.flatten [wA C x nw tr hq iq tt sc zx1, wB C nw b, wB C tr (plN b (idxT b) rule k), wX C iq (idxT b) (fun _ => 1) vx1 ox1]) H := hP
  have hD : va_D (q_A (List.flatten [wA C x nw tr hq iq tt sc z, wB C nw b, wB C tr b2, wX C iq t f v o]) s) (List.flatten [wA C x nw tr hq iq tt sc zx1, wB C nw b, wB C tr (plN b (idxT b) rule k), wX C iq (idxT b) (fun _ => 1) vx1 ox1]) := hD
  refine W.eq (g2 := F0 m 14 ls [.long (br (plN b (idxT b) rule k) - br b)]) rfl ?_
  exact q_lret hx hb hr hlocks (w1 := List.flatten [wA C x nw tr hq iq tt sc zx1, wB C nw b, wB C tr (plN b (idxT b) rule k), wX C iq (idxT b) (fun _ => 1) vx1 ox1]) hP hS rfl dX4_ifPlayed_14 (⟨_, _, _, _, rfl, rfl⟩)
