/-! plays, gains, trial gifts, best states, masks: methods -/
set_option maxHeartbeats 4000000 in
set_option maxRecDepth 100000 in
theorem c_X4_playOn (l : Launch) (C : q_C) (x : Nat) (nw tr hq iq tt : Nat → Nat) (sc : Nat) (z : Nat → Int) (a : Nat → Nat) (b : Bd) (t f v o : Nat → Nat) (rule n : Nat) (hB : OkB b) (hr3 : rule < 3) (hn : n ≤ 99) (hT : ∀ k, k < 16 → t k ≤ 6000000) : q_M C l yX4_playOn wsX4_playOn 4 93 [.ref x, .ref (a 0), .int (nI rule), .int (nI n)] (wA C x nw tr hq iq tt sc z ++ wB C a b ++ wX C iq t f v o) (fun r w => ∃ z1, r = none ∧ w = wA C x nw tr hq iq tt sc z1 ++ wB C a (plN b t rule n) ++ wX C iq t f v o) := by
  obtain ⟨ok1, ok2, ⟨ok3, ok4, ok5, ok6, ok7⟩, ok8, ok9⟩ := id hB
  refine q_head (cc := cX4_playOn) (maxL := 5) (ret := none) (by decide +kernel) rfl (Nat.le_of_ble_eq_true rfl) ?_
  intro p e s m below meth c hx hb hr hlocks hml hown hts hK hP hD hS hA ls hl
  have hl : lv_has ls 5 [(0, .ref x), (1, .ref (a 0)), (2, .int (nI rule)), (3, .int (nI n))] := hl
  refine lv_iconst (v := nI 0) hx hb dX4_playOn_0 (by decide) ?_
  refine lv_istore (lv' := [(4, .int (nI 0)), (0, .ref x), (1, .ref (a 0)), (2, .int (nI rule)), (3, .int (nI n))]) hx hb dX4_playOn_1 hl (by decide) rfl (fun ls hl => ?_)
  have K3 : ∀ (n3 i3 : Nat), ∀ (z3 : Nat → Int), i3 ≤ n → n + 1 ≤ i3 + n3 → ∀ (H : Heap) (locs : List Loc) (ls : Array Slot), va_P C.1 vwCl (wA C x nw tr hq iq tt sc z3 ++ wB C a (plN b t rule i3) ++ wX C iq t f v o) H → va_D (q_A (wA C x nw tr hq iq tt sc z ++ wB C a b ++ wX C iq t f v o) s) (wA C x nw tr hq iq tt sc z3 ++ wB C a (plN b t rule i3) ++ wX C iq t f v o) → va_S (q_A (wA C x nw tr hq iq tt sc z ++ wB C a b ++ wX C iq t f v o) s) s.heap H locs → lv_has ls 5 [(4, .int (nI i3)), (0, .ref x), (1, .ref (a 0)), (2, .int (nI rule)), (3, .int (nI n))] → W p l e (q_R 4 93) s m ([.ref x, .ref (a 0), .int (nI rule), .int (nI n)] : List Value).toArray below meth c H locs 0 0 (q_G C below (wA C x nw tr hq iq tt sc z ++ wB C a b ++ wX C iq t f v o) (fun r w => ∃ z1, r = none ∧ w = wA C x nw tr hq iq tt sc z1 ++ wB C a (plN b t rule n) ++ wX C iq t f v o) ([.ref x, .ref (a 0), .int (nI rule), .int (nI n)] : List Value).toArray s) (F0 m 3 ls []) := by
    intro n3
    induction n3 with
    | zero => intro i3 z3 q1 q2; exact absurd q2 (by omega)
    | succ n3 ih3 =>
      intro i3 z3 hi3 hn3  H locs ls hP hD hS hl
      refine lv_iload hx hb dX4_playOn_3 (lv_at hl 0 rfl) ?_
      refine lv_iload_n hx hb dX4_playOn_5 rfl (lv_at hl 4 rfl) ?_
      refine lv_icmp_ge (tgt := 25) hx hb dX4_playOn_6 (by decide) (fun c6 => ?_) (fun c6 => ?_)
      · have c6 : n ≤ i3 := q_nge (by omega) (by omega) c6
        have e9 : i3 = n := by omega
        subst e9
        exact q_vret hx hb hr hlocks (w1 := wA C x nw tr hq iq tt sc z3 ++ wB C a (plN b t rule i3) ++ wX C iq t f v o) hP hS rfl dX4_playOn_25 (⟨_, rfl, rfl⟩)
      · have c6 : i3 < n := q_nge' (by omega) (by omega) c6
        refine lv_aload_n hx hb dX4_playOn_9 rfl (lv_at hl 2 rfl) ?_
        refine lv_aload_n hx hb dX4_playOn_10 rfl (lv_at hl 1 rfl) ?_
        refine lv_aload_n hx hb dX4_playOn_11 rfl (lv_at hl 2 rfl) ?_
        refine lv_iload_n hx hb dX4_playOn_12 rfl (lv_at hl 3 rfl) ?_
        refine q_V (As := [.ref (a 0), .int (nI rule)]) (rest := [.ref (a 0)]) ⟨hx, hb, hml, hown, hts⟩ (c_X4_chosenBy l C x nw tr hq iq tt sc z3 a (plN b t rule i3) t f v o rule (okB_plN hB t rule i3) (by omega) hT) (cwV 2 hts gX4_playOn_X4_chosenBy rfl rfl rfl (by decide +kernel) ⟨Nat.le_of_ble_eq_true rfl, Nat.le_of_ble_eq_true rfl⟩) hK hP hD hS hA [0, 1, 2, 3, 4, 5, 6, 7, 8, 9, 10, 11, 12, 13, 14] (by decide) rfl 0 rfl rfl rfl rfl hl.1 rfl (Nat.le_of_ble_eq_true rfl) dX4_playOn_13 (Nat.zero_le _) (Nat.zero_le _) (fun r w1 H locs hQ hP hD hS => ?_)
        obtain ⟨zx1, rfl, rfl⟩ := hQ
        have hP : va_P C.1 vwCl (wA C x nw tr hq iq tt sc zx1 ++ wB C a (plN b t rule i3) ++ wX C iq t f v o) H := hP
        have hD : va_D (q_A (wA C x nw tr hq iq tt sc z ++ wB C a b ++ wX C iq t f v o) s) (wA C x nw tr hq iq tt sc zx1 ++ wB C a (plN b t rule i3) ++ wX C iq t f v o) := hD
        refine W.eq (g2 := F0 m 16 ls [.int (nI (choN (plN b t rule i3) t rule)), .ref (a 0)]) rfl ?_
        have hcl := choN_lt (okB_plN hB t rule i3) t rule
        refine q_V (As := [.int (nI (choN (plN b t rule i3) t rule))]) (rest := []) ⟨hx, hb, hml, hown, hts⟩ (c_X0_pullOnce l C a (plN b t rule i3) (choN (plN b t rule i3) t rule) (okB_plN hB t rule i3) (by omega)) (cwV 1 hts gX4_playOn_X0_pullOnce rfl rfl rfl (by decide +kernel) ⟨Nat.le_of_ble_eq_true rfl, Nat.le_of_ble_eq_true rfl⟩) hK hP hD hS hA [2, 3, 4, 5, 6, 7, 8, 9] (by decide) rfl 2 rfl rfl rfl rfl hl.1 rfl (Nat.le_of_ble_eq_true rfl) dX4_playOn_16 (Nat.zero_le _) (Nat.zero_le _) (fun r w1 H locs hQ hP hD hS => ?_)
        obtain ⟨rfl, rfl⟩ := hQ
        have hP : va_P C.1 vwCl (wA C x nw tr hq iq tt sc zx1 ++ wB C a (pulB (plN b t rule i3) (choN (plN b t rule i3) t rule)) ++ wX C iq t f v o) H := hP
        have hD : va_D (q_A (wA C x nw tr hq iq tt sc z ++ wB C a b ++ wX C iq t f v o) s) (wA C x nw tr hq iq tt sc zx1 ++ wB C a (pulB (plN b t rule i3) (choN (plN b t rule i3) t rule)) ++ wX C iq t f v o) := hD
        refine W.eq (g2 := F0 m 19 ls []) rfl ?_
        have hP : va_P C.1 vwCl (wA C x nw tr hq iq tt sc zx1 ++ wB C a (plN b t rule (i3 + 1)) ++ wX C iq t f v o) H := hP
        have hD : va_D (q_A (wA C x nw tr hq iq tt sc z ++ wB C a b ++ wX C iq t f v o) s) (wA C x nw tr hq iq tt sc zx1 ++ wB C a (plN b t rule (i3 + 1)) ++ wX C iq t f v o) := hD
        refine lv_iinc (v := nI (i3 + 1)) (lv' := [(4, .int (nI (i3 + 1))), (0, .ref x), (1, .ref (a 0)), (2, .int (nI rule)), (3, .int (nI n))]) hx hb dX4_playOn_19 hl (k := 0) rfl (nI_1 _) (by decide) rfl (fun ls hl => ?_)
        refine lv_goto (tgt := 3) hx hb dX4_playOn_22 (by decide) ?_
        exact ih3 (i3 + 1) zx1 (by omega) (by omega)  _ _ ls hP hD hS (lv_sub hl [0, 1, 2, 3, 4] rfl)
  exact K3 (n + 1 - 0) 0 z (by omega) (by omega)  _ _ ls hP hD hS (lv_sub hl [0, 1, 2, 3, 4] rfl)
set_option maxHeartbeats 4000000 in
set_option maxRecDepth 100000 in
theorem c_X4_gain (l : Launch) (C : q_C) (x : Nat) (nw tr hq iq tt : Nat → Nat) (sc : Nat) (z : Nat → Int) (b b2 : Bd) (t f v o : Nat → Nat) (rule n : Nat) (hB : OkB b) (hr3 : rule < 3) (hn : n ≤ 99) (hT : ∀ k, k < 4 → f k ≠ 0 → ∀ s, s < 4 → t (4 * k + s) = idxN b k s) (hf : ∀ k, k < 4 → f k ≤ 1) : q_M C l yX4_gain wsX4_gain 5 117 [.ref x, .int (nI rule), .int (nI n)] (List.flatten [wA C x nw tr hq iq tt sc z, wB C nw b, wB C tr b2, wX C iq t f v o]) (fun r w => ∃ z1 v1 o1, r = some (.long (br (plN b (idxT b) rule n) - br b)) ∧ w = List.flatten [wA C x nw tr hq iq tt sc z1, wB C nw b, wB C tr (plN b (idxT b) rule n), wX C iq (idxT b) (fun _ => 1) v1 o1]) := by
  refine q_head (cc := cX4_gain) (maxL := 3) (ret := (some .long)) (by decide +kernel) rfl (Nat.le_of_ble_eq_true rfl) ?_
  intro p e s m below meth c hx hb hr hlocks hml hown hts hK hP hD hS hA ls hl
  have hl : lv_has ls 3 [(0, .ref x), (1, .int (nI rule)), (2, .int (nI n))] := hl
  have hf10 := hts (.fieldLink RX4 10 "RestedArms" "now" "LRestedArms$Board;") (by decide +kernel)
  have hf16 := hts (.fieldLink RX4 16 "RestedArms" "trial" "LRestedArms$Board;") (by decide +kernel)
  have hf211 := hts (.fieldLink RX4 211 "RestedArms$Board" "brought" "J") (by decide +kernel)
  have hf29 := hts (.fieldLink RX4 29 "RestedArms" "indices" "LRestedArms$Indices;") (by decide +kernel)
  have hin0 : ∀ w ∈ u_ws RX0 TX0 12, w ∈ wsX4_gain := by decide +kernel
  have hin4 : ∀ w ∈ u_ws RX4 TX4 6, w ∈ wsX4_gain := by decide +kernel
  refine lv_aload_n hx hb dX4_gain_0 rfl (lv_at hl 0 rfl) ?_
  refine va_get (ci := 4) (v := .ref (iq 0)) (C := RX4) (T := TX4) (N := 6) hx hb hts hin4 hown hK.1 hP 0 rfl rfl 3 (by decide) hf29 (fun _ h9 => h9) rfl dX4_gain_1 ?_
  refine lv_aload_n hx hb dX4_gain_4 rfl (lv_at hl 0 rfl) ?_
  refine va_get (ci := 4) (v := .ref (nw 0)) (C := RX4) (T := TX4) (N := 6) hx hb hts hin4 hown hK.1 hP 0 rfl rfl 0 (by decide) hf10 (fun _ h9 => h9) rfl dX4_gain_5 ?_
  refine q_VB (cs := [wX C iq t f v o, wB C nw b]) (As := [.ref (nw 0)]) (rest := []) ⟨hx, hb, hml, hown, hts⟩ (c_X2_refresh l C iq t f v o nw b hB hT hf) (cwV 1 hts gX4_gain_X2_refresh rfl rfl rfl (by decide +kernel) ⟨Nat.le_of_ble_eq_true rfl, Nat.le_of_ble_eq_true rfl⟩) hK hP hD hS hA [3, 1] (by decide) rfl 18 rfl rfl rfl rfl hl.1 rfl (Nat.le_of_ble_eq_true rfl) dX4_gain_8 (Nat.zero_le _) (Nat.zero_le _) (fun r w1 H locs hQ hF hS => ?_)
  obtain ⟨vx1, ox1, rfl, rfl⟩ := hQ
  obtain ⟨hP, hD⟩ := hF [wX C iq (idxT b) (fun _ => 1) vx1 ox1, wB C nw b] rfl rfl
  have hP : va_P C.1 vwCl (List.flatten [wA C x nw tr hq iq tt sc z, wB C nw b, wB C tr b2, wX C iq (idxT b) (fun _ => 1) vx1 ox1]) H := hP
  have hD : va_D (q_A (List.flatten [wA C x nw tr hq iq tt sc z, wB C nw b, wB C tr b2, wX C iq t f v o]) s) (List.flatten [wA C x nw tr hq iq tt sc z, wB C nw b, wB C tr b2, wX C iq (idxT b) (fun _ => 1) vx1 ox1]) := hD
  refine W.eq (g2 := F0 m 11 ls []) rfl ?_
  refine lv_aload_n hx hb dX4_gain_11 rfl (lv_at hl 0 rfl) ?_
  refine va_get (ci := 4) (v := .ref (tr 0)) (C := RX4) (T := TX4) (N := 6) hx hb hts hin4 hown hK.1 hP 0 rfl rfl 1 (by decide) hf16 (fun _ h9 => h9) rfl dX4_gain_12 ?_
  refine lv_aload_n hx hb dX4_gain_15 rfl (lv_at hl 0 rfl) ?_
  refine va_get (ci := 4) (v := .ref (nw 0)) (C := RX4) (T := TX4) (N := 6) hx hb hts hin4 hown hK.1 hP 0 rfl rfl 0 (by decide) hf10 (fun _ h9 => h9) rfl dX4_gain_16 ?_
  refine q_VB (cs := [wB C tr b2, wB C nw b]) (As := [.ref (nw 0)]) (rest := []) ⟨hx, hb, hml, hown, hts⟩ (c_X0_copy l C tr nw b2 b) (cwV 1 hts gX4_gain_X0_copy rfl rfl rfl (by decide +kernel) ⟨Nat.le_of_ble_eq_true rfl, Nat.le_of_ble_eq_true rfl⟩) hK hP hD hS hA [2, 1] (by decide) rfl 10 rfl rfl rfl rfl hl.1 rfl (Nat.le_of_ble_eq_true rfl) dX4_gain_19 (Nat.zero_le _) (Nat.zero_le _) (fun r w1 H locs hQ hF hS => ?_)
  obtain ⟨rfl, rfl⟩ := hQ
  obtain ⟨hP, hD⟩ := hF [wB C tr b, wB C nw b] rfl rfl
  have hP : va_P C.1 vwCl (List.flatten [wA C x nw tr hq iq tt sc z, wB C nw b, wB C tr b, wX C iq (idxT b) (fun _ => 1) vx1 ox1]) H := hP
  have hD : va_D (q_A (List.flatten [wA C x nw tr hq iq tt sc z, wB C nw b, wB C tr b2, wX C iq t f v o]) s) (List.flatten [wA C x nw tr hq iq tt sc z, wB C nw b, wB C tr b, wX C iq (idxT b) (fun _ => 1) vx1 ox1]) := hD
  refine W.eq (g2 := F0 m 22 ls []) rfl ?_
  refine lv_aload_n hx hb dX4_gain_22 rfl (lv_at hl 0 rfl) ?_
  refine lv_aload_n hx hb dX4_gain_23 rfl (lv_at hl 0 rfl) ?_
  refine va_get (ci := 4) (v := .ref (tr 0)) (C := RX4) (T := TX4) (N := 6) hx hb hts hin4 hown hK.1 hP 0 rfl rfl 1 (by decide) hf16 (fun _ h9 => h9) rfl dX4_gain_24 ?_
  refine lv_iload_n hx hb dX4_gain_27 rfl (lv_at hl 1 rfl) ?_
  refine lv_iload_n hx hb dX4_gain_28 rfl (lv_at hl 2 rfl) ?_
  refine q_VB (cs := [wA C x nw tr hq iq tt sc z, wB C tr b, wX C iq (idxT b) (fun _ => 1) vx1 ox1]) (As := [.ref (tr 0), .int (nI rule), .int (nI n)]) (rest := []) ⟨hx, hb, hml, hown, hts⟩ (c_X4_playOn l C x nw tr hq iq tt sc z tr b (idxT b) (fun _ => 1) vx1 ox1 rule n hB (by omega) (by omega) (idxT_le hB)) (cwV 3 hts gX4_gain_X4_playOn rfl rfl rfl (by decide +kernel) ⟨Nat.le_of_ble_eq_true rfl, Nat.le_of_ble_eq_true rfl⟩) hK hP hD hS hA [0, 2, 3] (by decide) rfl 0 rfl rfl rfl rfl hl.1 rfl (Nat.le_of_ble_eq_true rfl) dX4_gain_29 (Nat.zero_le _) (Nat.zero_le _) (fun r w1 H locs hQ hF hS => ?_)
  obtain ⟨zx2, rfl, rfl⟩ := hQ
  obtain ⟨hP, hD⟩ := hF [wA C x nw tr hq iq tt sc zx2, wB C tr (plN b (idxT b) rule n), wX C iq (idxT b) (fun _ => 1) vx1 ox1] rfl rfl
  have hP : va_P C.1 vwCl (List.flatten [wA C x nw tr hq iq tt sc zx2, wB C nw b, wB C tr (plN b (idxT b) rule n), wX C iq (idxT b) (fun _ => 1) vx1 ox1]) H := hP
  have hD : va_D (q_A (List.flatten [wA C x nw tr hq iq tt sc z, wB C nw b, wB C tr b2, wX C iq t f v o]) s) (List.flatten [wA C x nw tr hq iq tt sc zx2, wB C nw b, wB C tr (plN b (idxT b) rule n), wX C iq (idxT b) (fun _ => 1) vx1 ox1]) := hD
  refine W.eq (g2 := F0 m 32 ls []) rfl ?_
  refine lv_aload_n hx hb dX4_gain_32 rfl (lv_at hl 0 rfl) ?_
  refine va_get (ci := 4) (v := .ref (tr 0)) (C := RX4) (T := TX4) (N := 6) hx hb hts hin4 hown hK.1 hP 0 rfl rfl 1 (by decide) hf16 (fun _ h9 => h9) rfl dX4_gain_33 ?_
  refine va_get (ci := 0) (v := .long (br (plN b (idxT b) rule n))) (C := RX0) (T := TX0) (N := 12) hx hb hts hin0 hown hK.1 hP 10 rfl rfl 9 (by decide) hf211 (fun _ h9 => h9) rfl dX4_gain_36 ?_
  refine lv_aload_n hx hb dX4_gain_39 rfl (lv_at hl 0 rfl) ?_
  refine va_get (ci := 4) (v := .ref (nw 0)) (C := RX4) (T := TX4) (N := 6) hx hb hts hin4 hown hK.1 hP 0 rfl rfl 0 (by decide) hf10 (fun _ h9 => h9) rfl dX4_gain_40 ?_
  refine va_get (ci := 0) (v := .long (br b)) (C := RX0) (T := TX0) (N := 12) hx hb hts hin0 hown hK.1 hP 2 rfl rfl 9 (by decide) hf211 (fun _ h9 => h9) rfl dX4_gain_43 ?_
  refine lv_lsub hx hb dX4_gain_46 ?_
  exact q_lret hx hb hr hlocks (w1 := List.flatten [wA C x nw tr hq iq tt sc zx2, wB C nw b, wB C tr (plN b (idxT b) rule n), wX C iq (idxT b) (fun _ => 1) vx1 ox1]) hP hS rfl dX4_gain_47 (⟨_, _, _, rfl, rfl⟩)
set_option maxHeartbeats 4000000 in
set_option maxRecDepth 100000 in
theorem c_X4_wouldChoose (l : Launch) (C : q_C) (x : Nat) (nw tr hq iq tt : Nat → Nat) (sc : Nat) (z : Nat → Int) (b : Bd) (t f v o : Nat → Nat) (arm h g : Nat) (hB : OkB b) (ha : arm < 4) (hh : h < 4) (hg : g ≤ 99) (hz : ∀ k, k < 4 → -(2 ^ 40) ≤ z k ∧ z k ≤ 2 ^ 40) : q_M C l yX4_wouldChoose wsX4_wouldChoose 3 87 [.ref x, .int (nI arm), .int (nI h), .int (nI g)] (wA C x nw tr hq iq tt sc z ++ wB C tr b ++ wX C iq t f v o) (fun r w => ∃ v1 o1, r = some (.int (q_b (decide (gsN (upZ z arm (((idxN (sg b (upN (bg b) (4 * arm + h) g)) arm h : Nat) : Int) - (costB (sg b (upN (bg b) (4 * arm + h) g)) arm 0 : Nat))) (bl b - 1) 4 = arm)))) ∧ w = wA C x nw tr hq iq tt sc (upZ z arm (((idxN (sg b (upN (bg b) (4 * arm + h) g)) arm h : Nat) : Int) - (costB (sg b (upN (bg b) (4 * arm + h) g)) arm 0 : Nat))) ++ wB C tr (sg b (upN (bg b) (4 * arm + h) g)) ++ wX C iq t f v1 o1) := by
  obtain ⟨ok1, ok2, ⟨ok3, ok4, ok5, ok6, ok7⟩, ok8, ok9⟩ := id hB
  refine q_head (cc := cX4_wouldChoose) (maxL := 6) (ret := (some .boolean)) (by decide +kernel) rfl (Nat.le_of_ble_eq_true rfl) ?_
  intro p e s m below meth c hx hb hr hlocks hml hown hts hK hP hD hS hA ls hl
  have hl : lv_has ls 6 [(0, .ref x), (1, .int (nI arm)), (2, .int (nI h)), (3, .int (nI g))] := hl
  have hf16 := hts (.fieldLink RX4 16 "RestedArms" "trial" "LRestedArms$Board;") (by decide +kernel)
  have hf206 := hts (.fieldLink RX4 206 "RestedArms$Board" "last" "I") (by decide +kernel)
  have hf29 := hts (.fieldLink RX4 29 "RestedArms" "indices" "LRestedArms$Indices;") (by decide +kernel)
  have hf40 := hts (.fieldLink RX4 40 "RestedArms" "scores" "[J") (by decide +kernel)
  have hf67 := hts (.fieldLink RX4 67 "RestedArms$Board" "gifts" "[I") (by decide +kernel)
  have hin0 : ∀ w ∈ u_ws RX0 TX0 12, w ∈ wsX4_wouldChoose := by decide +kernel
  have hin4 : ∀ w ∈ u_ws RX4 TX4 6, w ∈ wsX4_wouldChoose := by decide +kernel
  refine lv_aload_n hx hb dX4_wouldChoose_0 rfl (lv_at hl 0 rfl) ?_
  refine va_get (ci := 4) (v := .ref (tr 0)) (C := RX4) (T := TX4) (N := 6) hx hb hts hin4 hown hK.1 hP 0 rfl rfl 1 (by decide) hf16 (fun _ h9 => h9) rfl dX4_wouldChoose_1 ?_
  refine va_get (ci := 0) (v := .ref (tr 1)) (C := RX0) (T := TX0) (N := 12) hx hb hts hin0 hown hK.1 hP 2 rfl rfl 0 (by decide) hf67 (fun _ h9 => h9) rfl dX4_wouldChoose_4 ?_
  refine lv_iload_n hx hb dX4_wouldChoose_7 rfl (lv_at hl 1 rfl) ?_
  refine lv_iload_n hx hb dX4_wouldChoose_8 rfl (lv_at hl 2 rfl) ?_
  refine q_S (As := [.int (nI arm), .int (nI h)]) (rest := [.ref (tr 1)]) ⟨hx, hb, hml, hown, hts⟩ (c_X4_slotOf l C arm h) (va_cwS 2 hts gX4_wouldChoose_X4_slotOf rfl rfl rfl (by decide +kernel) ⟨Nat.le_of_ble_eq_true rfl, Nat.le_of_ble_eq_true rfl⟩) hK hP hD hS hA [] (by decide) rfl rfl hl.1 rfl (Nat.le_of_ble_eq_true rfl) dX4_wouldChoose_9 (Nat.zero_le _) (Nat.zero_le _) (fun r w1 H locs hQ hP hD hS => ?_)
  obtain ⟨rfl, rfl⟩ := hQ
  refine W.eq (g2 := F0 m 12 ls [.int (nI (4 * arm + h)), .ref (tr 1)]) rfl ?_
  refine lv_iload_n hx hb dX4_wouldChoose_12 rfl (lv_at hl 3 rfl) ?_
  refine q_S (As := [.ref (tr 1), .int (nI (4 * arm + h)), .int (nI g)]) (rest := []) ⟨hx, hb, hml, hown, hts⟩ (c_X4_store l C (tr 1) 16 (4 * arm + h) (fun k => nI (bg b k)) (nI g) (by omega) (by decide)) (va_cwS 3 hts gX4_wouldChoose_X4_store rfl rfl rfl (by decide +kernel) ⟨Nat.le_of_ble_eq_true rfl, Nat.le_of_ble_eq_true rfl⟩) hK hP hD hS hA [3] (by decide) rfl rfl hl.1 rfl (Nat.le_of_ble_eq_true rfl) dX4_wouldChoose_13 (Nat.zero_le _) (Nat.zero_le _) (fun r w1 H locs hQ hP hD hS => ?_)
  obtain ⟨rfl, rfl⟩ := hQ
  rw [q_upd] at hP hD
  have hP : va_P C.1 vwCl (wA C x nw tr hq iq tt sc z ++ ([(tr 0, .inr (0, [.ref (tr 1), .ref (tr 2), .ref (tr 3), .ref (tr 4), .ref (tr 5), .ref (tr 6), .ref (tr 7), .int (nI (bx b)), .int (nI (bl b) - 1), .long (br b), .long (lN (bw b)), .long (bz b)])), (tr 1, .inl (C.2.1, 16, .inl (fun k => nI (upN (bg b) (4 * arm + h) g k)))), (tr 2, .inl (C.2.1, 16, .inl (fun k => nI (bo b k)))), (tr 3, .inl (C.2.1, 16, .inl (fun k => nI (bb b k)))), (tr 4, .inl (C.2.1, 16, .inl (fun k => nI (bc b k)))), (tr 5, .inl (C.2.1, 4, .inl (fun k => nI (bp b k)))), (tr 6, .inl (C.2.1, 4, .inl (fun k => nI (bu b k)))), (tr 7, .inl (C.2.1, 4, .inl (fun k => nI (bs b k))))] : va_W) ++ wX C iq t f v o) H := hP
  have hD : va_D (q_A (wA C x nw tr hq iq tt sc z ++ wB C tr b ++ wX C iq t f v o) s) (wA C x nw tr hq iq tt sc z ++ ([(tr 0, .inr (0, [.ref (tr 1), .ref (tr 2), .ref (tr 3), .ref (tr 4), .ref (tr 5), .ref (tr 6), .ref (tr 7), .int (nI (bx b)), .int (nI (bl b) - 1), .long (br b), .long (lN (bw b)), .long (bz b)])), (tr 1, .inl (C.2.1, 16, .inl (fun k => nI (upN (bg b) (4 * arm + h) g k)))), (tr 2, .inl (C.2.1, 16, .inl (fun k => nI (bo b k)))), (tr 3, .inl (C.2.1, 16, .inl (fun k => nI (bb b k)))), (tr 4, .inl (C.2.1, 16, .inl (fun k => nI (bc b k)))), (tr 5, .inl (C.2.1, 4, .inl (fun k => nI (bp b k)))), (tr 6, .inl (C.2.1, 4, .inl (fun k => nI (bu b k)))), (tr 7, .inl (C.2.1, 4, .inl (fun k => nI (bs b k))))] : va_W) ++ wX C iq t f v o) := hD
  refine W.eq (g2 := F0 m 16 ls []) rfl ?_
  have hP : va_P C.1 vwCl (wA C x nw tr hq iq tt sc z ++ wB C tr (sg b (upN (bg b) (4 * arm + h) g)) ++ wX C iq t f v o) H := hP
  have hD : va_D (q_A (wA C x nw tr hq iq tt sc z ++ wB C tr b ++ wX C iq t f v o) s) (wA C x nw tr hq iq tt sc z ++ wB C tr (sg b (upN (bg b) (4 * arm + h) g)) ++ wX C iq t f v o) := hD
  have hB2 : OkB (sg b (upN (bg b) (4 * arm + h) g)) := okB_sg hB hg
  refine lv_aload_n hx hb dX4_wouldChoose_16 rfl (lv_at hl 0 rfl) ?_
  refine va_get (ci := 4) (v := .ref (iq 0)) (C := RX4) (T := TX4) (N := 6) hx hb hts hin4 hown hK.1 hP 0 rfl rfl 3 (by decide) hf29 (fun _ h9 => h9) rfl dX4_wouldChoose_17 ?_
  refine lv_aload_n hx hb dX4_wouldChoose_20 rfl (lv_at hl 0 rfl) ?_
  refine va_get (ci := 4) (v := .ref (tr 0)) (C := RX4) (T := TX4) (N := 6) hx hb hts hin4 hown hK.1 hP 0 rfl rfl 1 (by decide) hf16 (fun _ h9 => h9) rfl dX4_wouldChoose_21 ?_
  refine lv_iload_n hx hb dX4_wouldChoose_24 rfl (lv_at hl 1 rfl) ?_
  refine lv_iload_n hx hb dX4_wouldChoose_25 rfl (lv_at hl 2 rfl) ?_
  refine q_V (As := [.ref (tr 0), .int (nI arm), .int (nI h)]) (rest := []) ⟨hx, hb, hml, hown, hts⟩ (c_X2_find l C iq t f v o tr (sg b (upN (bg b) (4 * arm + h) g)) arm h hB2 (by omega) (by omega)) (cwV 3 hts gX4_wouldChoose_X2_find rfl rfl rfl (by decide +kernel) ⟨Nat.le_of_ble_eq_true rfl, Nat.le_of_ble_eq_true rfl⟩) hK hP hD hS hA [10, 11, 12, 13, 14, 2, 3, 4, 5, 6, 7, 8, 9] (by decide) rfl 10 rfl rfl rfl rfl hl.1 rfl (Nat.le_of_ble_eq_true rfl) dX4_wouldChoose_26 (Nat.zero_le _) (Nat.zero_le _) (fun r w1 H locs hQ hP hD hS => ?_)
  obtain ⟨rfl, rfl⟩ := hQ
  have hP : va_P C.1 vwCl (wA C x nw tr hq iq tt sc z ++ wB C tr (sg b (upN (bg b) (4 * arm + h) g)) ++ wX C iq t f (valsN (sg b (upN (bg b) (4 * arm + h) g)) arm h (bs (sg b (upN (bg b) (4 * arm + h) g)) 1)) (ownsN (sg b (upN (bg b) (4 * arm + h) g)) arm h o (bs (sg b (upN (bg b) (4 * arm + h) g)) 1))) H := hP
  have hD : va_D (q_A (wA C x nw tr hq iq tt sc z ++ wB C tr b ++ wX C iq t f v o) s) (wA C x nw tr hq iq tt sc z ++ wB C tr (sg b (upN (bg b) (4 * arm + h) g)) ++ wX C iq t f (valsN (sg b (upN (bg b) (4 * arm + h) g)) arm h (bs (sg b (upN (bg b) (4 * arm + h) g)) 1)) (ownsN (sg b (upN (bg b) (4 * arm + h) g)) arm h o (bs (sg b (upN (bg b) (4 * arm + h) g)) 1))) := hD
  refine W.eq (g2 := F0 m 29 ls [.long (lN (idxN (sg b (upN (bg b) (4 * arm + h) g)) arm h))]) rfl ?_
  refine lv_aload_n hx hb dX4_wouldChoose_29 rfl (lv_at hl 0 rfl) ?_
  refine va_get (ci := 4) (v := .ref (tr 0)) (C := RX4) (T := TX4) (N := 6) hx hb hts hin4 hown hK.1 hP 0 rfl rfl 1 (by decide) hf16 (fun _ h9 => h9) rfl dX4_wouldChoose_30 ?_
  refine lv_iload_n hx hb dX4_wouldChoose_33 rfl (lv_at hl 1 rfl) ?_
  refine lv_iconst (v := nI 0) hx hb dX4_wouldChoose_34 (by decide) ?_
  refine q_V (As := [.int (nI arm), .int (nI 0)]) (rest := [.long (lN (idxN (sg b (upN (bg b) (4 * arm + h) g)) arm h))]) ⟨hx, hb, hml, hown, hts⟩ (c_X0_costOf l C tr (sg b (upN (bg b) (4 * arm + h) g)) arm 0 hB2 (by omega) (by omega)) (cwV 2 hts gX4_wouldChoose_X0_costOf rfl rfl rfl (by decide +kernel) ⟨Nat.le_of_ble_eq_true rfl, Nat.le_of_ble_eq_true rfl⟩) hK hP hD hS hA [2, 3, 4, 5, 6, 7, 8, 9] (by decide) rfl 2 rfl rfl rfl rfl hl.1 rfl (Nat.le_of_ble_eq_true rfl) dX4_wouldChoose_35 (Nat.zero_le _) (Nat.zero_le _) (fun r w1 H locs hQ hP hD hS => ?_)
  obtain ⟨rfl, rfl⟩ := hQ
  have hP : va_P C.1 vwCl (wA C x nw tr hq iq tt sc z ++ wB C tr (sg b (upN (bg b) (4 * arm + h) g)) ++ wX C iq t f (valsN (sg b (upN (bg b) (4 * arm + h) g)) arm h (bs (sg b (upN (bg b) (4 * arm + h) g)) 1)) (ownsN (sg b (upN (bg b) (4 * arm + h) g)) arm h o (bs (sg b (upN (bg b) (4 * arm + h) g)) 1))) H := hP
  have hD : va_D (q_A (wA C x nw tr hq iq tt sc z ++ wB C tr b ++ wX C iq t f v o) s) (wA C x nw tr hq iq tt sc z ++ wB C tr (sg b (upN (bg b) (4 * arm + h) g)) ++ wX C iq t f (valsN (sg b (upN (bg b) (4 * arm + h) g)) arm h (bs (sg b (upN (bg b) (4 * arm + h) g)) 1)) (ownsN (sg b (upN (bg b) (4 * arm + h) g)) arm h o (bs (sg b (upN (bg b) (4 * arm + h) g)) 1))) := hD
  refine W.eq (g2 := F0 m 38 ls [.long (lN (costB (sg b (upN (bg b) (4 * arm + h) g)) arm 0)), .long (lN (idxN (sg b (upN (bg b) (4 * arm + h) g)) arm h))]) rfl ?_
  refine lv_lsub hx hb dX4_wouldChoose_38 ?_
  refine q_tl (y := zL (((idxN (sg b (upN (bg b) (4 * arm + h) g)) arm h : Nat) : Int) - (costB (sg b (upN (bg b) (4 * arm + h) g)) arm 0 : Nat))) (zL_sub _ _) ?_
  refine lv_lstore (lv' := [(4, .long (zL (((idxN (sg b (upN (bg b) (4 * arm + h) g)) arm h : Nat) : Int) - (costB (sg b (upN (bg b) (4 * arm + h) g)) arm 0 : Nat)))), (0, .ref x), (1, .int (nI arm)), (2, .int (nI h)), (3, .int (nI g))]) hx hb dX4_wouldChoose_39 hl (by decide) rfl (fun ls hl => ?_)
  refine lv_aload_n hx hb dX4_wouldChoose_41 rfl (lv_at hl 1 rfl) ?_
  refine va_get (ci := 4) (v := .ref sc) (C := RX4) (T := TX4) (N := 6) hx hb hts hin4 hown hK.1 hP 0 rfl rfl 5 (by decide) hf40 (fun _ h9 => h9) rfl dX4_wouldChoose_42 ?_
  refine lv_iload_n hx hb dX4_wouldChoose_45 rfl (lv_at hl 2 rfl) ?_
  refine lv_lload hx hb dX4_wouldChoose_46 (lv_at hl 0 rfl) ?_
  refine q_S (As := [.ref sc, .int (nI arm), .long (zL (((idxN (sg b (upN (bg b) (4 * arm + h) g)) arm h : Nat) : Int) - (costB (sg b (upN (bg b) (4 * arm + h) g)) arm 0 : Nat)))]) (rest := []) ⟨hx, hb, hml, hown, hts⟩ (c_X4_store_ l C sc 4 arm (fun k => zL (z k)) (zL (((idxN (sg b (upN (bg b) (4 * arm + h) g)) arm h : Nat) : Int) - (costB (sg b (upN (bg b) (4 * arm + h) g)) arm 0 : Nat))) (by omega) (by decide)) (va_cwS 3 hts gX4_wouldChoose_X4_store_ rfl rfl rfl (by decide +kernel) ⟨Nat.le_of_ble_eq_true rfl, Nat.le_of_ble_eq_true rfl⟩) hK hP hD hS hA [1] (by decide) rfl rfl hl.1 rfl (Nat.le_of_ble_eq_true rfl) dX4_wouldChoose_48 (Nat.zero_le _) (Nat.zero_le _) (fun r w1 H locs hQ hP hD hS => ?_)
  obtain ⟨rfl, rfl⟩ := hQ
  rw [q_updZ] at hP hD
  have hP : va_P C.1 vwCl (([(x, .inr (4, [.ref (nw 0), .ref (tr 0), .ref (hq 0), .ref (iq 0), .ref (tt 0), .ref sc])), (sc, .inl (C.2.2.1, 4, .inr (.inl (fun k => zL (upZ z arm (((idxN (sg b (upN (bg b) (4 * arm + h) g)) arm h : Nat) : Int) - (costB (sg b (upN (bg b) (4 * arm + h) g)) arm 0 : Nat)) k)))))] : va_W) ++ wB C tr (sg b (upN (bg b) (4 * arm + h) g)) ++ wX C iq t f (valsN (sg b (upN (bg b) (4 * arm + h) g)) arm h (bs (sg b (upN (bg b) (4 * arm + h) g)) 1)) (ownsN (sg b (upN (bg b) (4 * arm + h) g)) arm h o (bs (sg b (upN (bg b) (4 * arm + h) g)) 1))) H := hP
  have hD : va_D (q_A (wA C x nw tr hq iq tt sc z ++ wB C tr b ++ wX C iq t f v o) s) (([(x, .inr (4, [.ref (nw 0), .ref (tr 0), .ref (hq 0), .ref (iq 0), .ref (tt 0), .ref sc])), (sc, .inl (C.2.2.1, 4, .inr (.inl (fun k => zL (upZ z arm (((idxN (sg b (upN (bg b) (4 * arm + h) g)) arm h : Nat) : Int) - (costB (sg b (upN (bg b) (4 * arm + h) g)) arm 0 : Nat)) k)))))] : va_W) ++ wB C tr (sg b (upN (bg b) (4 * arm + h) g)) ++ wX C iq t f (valsN (sg b (upN (bg b) (4 * arm + h) g)) arm h (bs (sg b (upN (bg b) (4 * arm + h) g)) 1)) (ownsN (sg b (upN (bg b) (4 * arm + h) g)) arm h o (bs (sg b (upN (bg b) (4 * arm + h) g)) 1))) := hD
  refine W.eq (g2 := F0 m 51 ls []) rfl ?_
  have e1 := idxN_le hB2 ha hh
  have e2 := costB_le hB2 arm 0
  have hP : va_P C.1 vwCl (wA C x nw tr hq iq tt sc (upZ z arm (((idxN (sg b (upN (bg b) (4 * arm + h) g)) arm h : Nat) : Int) - (costB (sg b (upN (bg b) (4 * arm + h) g)) arm 0 : Nat))) ++ wB C tr (sg b (upN (bg b) (4 * arm + h) g)) ++ wX C iq t f (valsN (sg b (upN (bg b) (4 * arm + h) g)) arm h (bs (sg b (upN (bg b) (4 * arm + h) g)) 1)) (ownsN (sg b (upN (bg b) (4 * arm + h) g)) arm h o (bs (sg b (upN (bg b) (4 * arm + h) g)) 1))) H := hP
  have hD : va_D (q_A (wA C x nw tr hq iq tt sc z ++ wB C tr b ++ wX C iq t f v o) s) (wA C x nw tr hq iq tt sc (upZ z arm (((idxN (sg b (upN (bg b) (4 * arm + h) g)) arm h : Nat) : Int) - (costB (sg b (upN (bg b) (4 * arm + h) g)) arm 0 : Nat))) ++ wB C tr (sg b (upN (bg b) (4 * arm + h) g)) ++ wX C iq t f (valsN (sg b (upN (bg b) (4 * arm + h) g)) arm h (bs (sg b (upN (bg b) (4 * arm + h) g)) 1)) (ownsN (sg b (upN (bg b) (4 * arm + h) g)) arm h o (bs (sg b (upN (bg b) (4 * arm + h) g)) 1))) := hD
  have hz2 : ∀ k, k < 4 → -(2 ^ 40) ≤ (upZ z arm (((idxN (sg b (upN (bg b) (4 * arm + h) g)) arm h : Nat) : Int) - (costB (sg b (upN (bg b) (4 * arm + h) g)) arm 0 : Nat))) k ∧ (upZ z arm (((idxN (sg b (upN (bg b) (4 * arm + h) g)) arm h : Nat) : Int) - (costB (sg b (upN (bg b) (4 * arm + h) g)) arm 0 : Nat))) k ≤ 2 ^ 40 := fun k hk => by
    by_cases e : k = arm
    · rw [e, upZ_s]; omega
    · rw [upZ_n e]; exact hz k hk
  refine lv_aload_n hx hb dX4_wouldChoose_51 rfl (lv_at hl 1 rfl) ?_
  refine lv_aload_n hx hb dX4_wouldChoose_52 rfl (lv_at hl 1 rfl) ?_
  refine va_get (ci := 4) (v := .ref (tr 0)) (C := RX4) (T := TX4) (N := 6) hx hb hts hin4 hown hK.1 hP 0 rfl rfl 1 (by decide) hf16 (fun _ h9 => h9) rfl dX4_wouldChoose_53 ?_
  refine va_get (ci := 0) (v := .int (nI (bl (sg b (upN (bg b) (4 * arm + h) g))) - 1)) (C := RX0) (T := TX0) (N := 12) hx hb hts hin0 hown hK.1 hP 2 rfl rfl 8 (by decide) hf206 (fun _ h9 => h9) rfl dX4_wouldChoose_56 ?_
  refine q_V (As := [.int (nI (bl (sg b (upN (bg b) (4 * arm + h) g))) - 1)]) (rest := []) ⟨hx, hb, hml, hown, hts⟩ (c_X4_greatestScore l C x nw tr hq iq tt sc (upZ z arm (((idxN (sg b (upN (bg b) (4 * arm + h) g)) arm h : Nat) : Int) - (costB (sg b (upN (bg b) (4 * arm + h) g)) arm 0 : Nat))) (bl (sg b (upN (bg b) (4 * arm + h) g))) (ok8) (hz2)) (cwV 1 hts gX4_wouldChoose_X4_greatestScore rfl rfl rfl (by decide +kernel) ⟨Nat.le_of_ble_eq_true rfl, Nat.le_of_ble_eq_true rfl⟩) hK hP hD hS hA [0, 1] (by decide) rfl 0 rfl rfl rfl rfl hl.1 rfl (Nat.le_of_ble_eq_true rfl) dX4_wouldChoose_59 (Nat.zero_le _) (Nat.zero_le _) (fun r w1 H locs hQ hP hD hS => ?_)
  obtain ⟨rfl, rfl⟩ := hQ
  have hP : va_P C.1 vwCl (wA C x nw tr hq iq tt sc (upZ z arm (((idxN (sg b (upN (bg b) (4 * arm + h) g)) arm h : Nat) : Int) - (costB (sg b (upN (bg b) (4 * arm + h) g)) arm 0 : Nat))) ++ wB C tr (sg b (upN (bg b) (4 * arm + h) g)) ++ wX C iq t f (valsN (sg b (upN (bg b) (4 * arm + h) g)) arm h (bs (sg b (upN (bg b) (4 * arm + h) g)) 1)) (ownsN (sg b (upN (bg b) (4 * arm + h) g)) arm h o (bs (sg b (upN (bg b) (4 * arm + h) g)) 1))) H := hP
  have hD : va_D (q_A (wA C x nw tr hq iq tt sc z ++ wB C tr b ++ wX C iq t f v o) s) (wA C x nw tr hq iq tt sc (upZ z arm (((idxN (sg b (upN (bg b) (4 * arm + h) g)) arm h : Nat) : Int) - (costB (sg b (upN (bg b) (4 * arm + h) g)) arm 0 : Nat))) ++ wB C tr (sg b (upN (bg b) (4 * arm + h) g)) ++ wX C iq t f (valsN (sg b (upN (bg b) (4 * arm + h) g)) arm h (bs (sg b (upN (bg b) (4 * arm + h) g)) 1)) (ownsN (sg b (upN (bg b) (4 * arm + h) g)) arm h o (bs (sg b (upN (bg b) (4 * arm + h) g)) 1))) := hD
  refine W.eq (g2 := F0 m 62 ls [.int (nI (gsN (upZ z arm (((idxN (sg b (upN (bg b) (4 * arm + h) g)) arm h : Nat) : Int) - (costB (sg b (upN (bg b) (4 * arm + h) g)) arm 0 : Nat))) ((bl (sg b (upN (bg b) (4 * arm + h) g))) - 1) 4))]) rfl ?_
  have hgl := gsN_lt (z := upZ z arm (((idxN (sg b (upN (bg b) (4 * arm + h) g)) arm h : Nat) : Int) - (costB (sg b (upN (bg b) (4 * arm + h) g)) arm 0 : Nat))) (s := bl (sg b (upN (bg b) (4 * arm + h) g)) - 1) (show bl b - 1 < 4 by omega) 4 (by omega)
  refine lv_iload_n hx hb dX4_wouldChoose_62 rfl (lv_at hl 2 rfl) ?_
  refine lv_icmp_ne (tgt := 70) hx hb dX4_wouldChoose_63 (by decide) (fun c63 => ?_) (fun c63 => ?_)
  · have c63 : (gsN (upZ z arm (((idxN (sg b (upN (bg b) (4 * arm + h) g)) arm h : Nat) : Int) - (costB (sg b (upN (bg b) (4 * arm + h) g)) arm 0 : Nat))) ((bl (sg b (upN (bg b) (4 * arm + h) g))) - 1) 4) ≠ arm := q_nne (by omega) (by omega) c63
    refine lv_iconst (v := nI 0) hx hb dX4_wouldChoose_70 (by decide) ?_
    exact q_zret hx hb hr hlocks rfl (w1 := wA C x nw tr hq iq tt sc (upZ z arm (((idxN (sg b (upN (bg b) (4 * arm + h) g)) arm h : Nat) : Int) - (costB (sg b (upN (bg b) (4 * arm + h) g)) arm 0 : Nat))) ++ wB C tr (sg b (upN (bg b) (4 * arm + h) g)) ++ wX C iq t f (valsN (sg b (upN (bg b) (4 * arm + h) g)) arm h (bs (sg b (upN (bg b) (4 * arm + h) g)) 1)) (ownsN (sg b (upN (bg b) (4 * arm + h) g)) arm h o (bs (sg b (upN (bg b) (4 * arm + h) g)) 1))) hP hS rfl dX4_wouldChoose_71 (⟨_, _, congrArg (fun z => some (Value.int z)) (q_bf (decide_eq_false c63)), rfl⟩)
  · have c63 : (gsN (upZ z arm (((idxN (sg b (upN (bg b) (4 * arm + h) g)) arm h : Nat) : Int) - (costB (sg b (upN (bg b) (4 * arm + h) g)) arm 0 : Nat))) ((bl (sg b (upN (bg b) (4 * arm + h) g))) - 1) 4) = arm := q_nne' (by omega) (by omega) c63
    refine lv_iconst (v := nI 1) hx hb dX4_wouldChoose_66 (by decide) ?_
    refine lv_goto (tgt := 71) hx hb dX4_wouldChoose_67 (by decide) ?_
    exact q_zret hx hb hr hlocks rfl (w1 := wA C x nw tr hq iq tt sc (upZ z arm (((idxN (sg b (upN (bg b) (4 * arm + h) g)) arm h : Nat) : Int) - (costB (sg b (upN (bg b) (4 * arm + h) g)) arm 0 : Nat))) ++ wB C tr (sg b (upN (bg b) (4 * arm + h) g)) ++ wX C iq t f (valsN (sg b (upN (bg b) (4 * arm + h) g)) arm h (bs (sg b (upN (bg b) (4 * arm + h) g)) 1)) (ownsN (sg b (upN (bg b) (4 * arm + h) g)) arm h o (bs (sg b (upN (bg b) (4 * arm + h) g)) 1))) hP hS rfl dX4_wouldChoose_71 (⟨_, _, congrArg (fun z => some (Value.int z)) (q_bt (decide_eq_true c63)), rfl⟩)
set_option maxHeartbeats 4000000 in
set_option maxRecDepth 100000 in
theorem c_X4_bestState (l : Launch) (C : q_C) (x : Nat) (nw tr hq iq tt : Nat → Nat) (sc : Nat) (z : Nat → Int) (t f v o : Nat → Nat) (arm : Nat) (ha : arm < 4) (hT : ∀ k, k < 16 → t k ≤ 6000000) : q_M C l yX4_bestState wsX4_bestState 1 21 [.ref x, .int (nI arm)] (wA C x nw tr hq iq tt sc z ++ wX C iq t f v o) (fun r w => r = some (.int (nI (bstN t arm 3))) ∧ w = wA C x nw tr hq iq tt sc z ++ wX C iq t f v o) := by
  refine q_head (cc := cX4_bestState) (maxL := 4) (ret := (some .int)) (by decide +kernel) rfl (Nat.le_of_ble_eq_true rfl) ?_
  intro p e s m below meth c hx hb hr hlocks hml hown hts hK hP hD hS hA ls hl
  have hl : lv_has ls 4 [(0, .ref x), (1, .int (nI arm))] := hl
  have hf188 := hts (.fieldLink RX4 188 "RestedArms$Indices" "table" "[J") (by decide +kernel)
  have hf29 := hts (.fieldLink RX4 29 "RestedArms" "indices" "LRestedArms$Indices;") (by decide +kernel)
  have hin2 : ∀ w ∈ u_ws RX2 TX2 4, w ∈ wsX4_bestState := by decide +kernel
  have hin4 : ∀ w ∈ u_ws RX4 TX4 6, w ∈ wsX4_bestState := by decide +kernel
  refine lv_iconst (v := nI 0) hx hb dX4_bestState_0 (by decide) ?_
  refine lv_istore_n (lv' := [(2, .int (nI 0)), (0, .ref x), (1, .int (nI arm))]) hx hb dX4_bestState_1 rfl hl (by decide) rfl (fun ls hl => ?_)
  refine lv_iconst (v := nI 1) hx hb dX4_bestState_2 (by decide) ?_
  refine lv_istore_n (lv' := [(3, .int (nI 1)), (2, .int (nI 0)), (0, .ref x), (1, .int (nI arm))]) hx hb dX4_bestState_3 rfl hl (by decide) rfl (fun ls hl => ?_)
  have K4 : ∀ (n4 i4 : Nat), ∀ (g4 : Nat), i4 ≤ 3 → 3 + 1 ≤ i4 + n4 → (bstN t arm i4 = g4) → (g4 ≤ i4) → ∀ (H : Heap) (locs : List Loc) (ls : Array Slot), va_P C.1 vwCl (wA C x nw tr hq iq tt sc z ++ wX C iq t f v o) H → va_D (q_A (wA C x nw tr hq iq tt sc z ++ wX C iq t f v o) s) (wA C x nw tr hq iq tt sc z ++ wX C iq t f v o) → va_S (q_A (wA C x nw tr hq iq tt sc z ++ wX C iq t f v o) s) s.heap H locs → lv_has ls 4 [(3, .int (nI (i4 + 1))), (2, .int (nI g4)), (0, .ref x), (1, .int (nI arm))] → W p l e (q_R 1 21) s m ([.ref x, .int (nI arm)] : List Value).toArray below meth c H locs 0 0 (q_G C below (wA C x nw tr hq iq tt sc z ++ wX C iq t f v o) (fun r w => r = some (.int (nI (bstN t arm 3))) ∧ w = wA C x nw tr hq iq tt sc z ++ wX C iq t f v o) ([.ref x, .int (nI arm)] : List Value).toArray s) (F0 m 4 ls []) := by
    intro n4
    induction n4 with
    | zero => intro i4 g4 q1 q2; exact absurd q2 (by omega)
    | succ n4 ih4 =>
      intro i4 g4 hi4 hn4 hG4 hg4 H locs ls hP hD hS hl
      refine lv_iload_n hx hb dX4_bestState_4 rfl (lv_at hl 0 rfl) ?_
      refine lv_iconst (v := nI 4) hx hb dX4_bestState_5 (by decide) ?_
      refine lv_icmp_ge (tgt := 51) hx hb dX4_bestState_6 (by decide) (fun c6 => ?_) (fun c6 => ?_)
      · have c6 : 4 ≤ (i4 + 1) := q_nge (by omega) (by omega) c6
        refine lv_iload_n hx hb dX4_bestState_51 rfl (lv_at hl 1 rfl) ?_
        exact q_iret hx hb hr hlocks (w1 := wA C x nw tr hq iq tt sc z ++ wX C iq t f v o) hP hS rfl dX4_bestState_52 (⟨by rw [show (3 : Nat) = i4 by omega, hG4], rfl⟩)
      · have c6 : (i4 + 1) < 4 := q_nge' (by omega) (by omega) c6
        refine lv_aload_n hx hb dX4_bestState_9 rfl (lv_at hl 2 rfl) ?_
        refine va_get (ci := 4) (v := .ref (iq 0)) (C := RX4) (T := TX4) (N := 6) hx hb hts hin4 hown hK.1 hP 0 rfl rfl 3 (by decide) hf29 (fun _ h9 => h9) rfl dX4_bestState_10 ?_
        refine va_get (ci := 2) (v := .ref (iq 1)) (C := RX2) (T := TX2) (N := 4) hx hb hts hin2 hown hK.1 hP 2 rfl rfl 0 (by decide) hf188 (fun _ h9 => h9) rfl dX4_bestState_13 ?_
        refine lv_iload_n hx hb dX4_bestState_16 rfl (lv_at hl 3 rfl) ?_
        refine lv_iload_n hx hb dX4_bestState_17 rfl (lv_at hl 0 rfl) ?_
        refine q_S (As := [.int (nI arm), .int (nI (i4 + 1))]) (rest := [.ref (iq 1)]) ⟨hx, hb, hml, hown, hts⟩ (c_X4_slotOf l C arm (i4 + 1)) (va_cwS 2 hts gX4_bestState_X4_slotOf rfl rfl rfl (by decide +kernel) ⟨Nat.le_of_ble_eq_true rfl, Nat.le_of_ble_eq_true rfl⟩) hK hP hD hS hA [] (by decide) rfl rfl hl.1 rfl (Nat.le_of_ble_eq_true rfl) dX4_bestState_18 (Nat.zero_le _) (Nat.zero_le _) (fun r w1 H locs hQ hP hD hS => ?_)
        obtain ⟨rfl, rfl⟩ := hQ
        refine W.eq (g2 := F0 m 21 ls [.int (nI (4 * arm + (i4 + 1))), .ref (iq 1)]) rfl ?_
        refine q_S (As := [.ref (iq 1), .int (nI (4 * arm + (i4 + 1)))]) (rest := []) ⟨hx, hb, hml, hown, hts⟩ (c_X4_at_ l C (iq 1) 16 (4 * arm + (i4 + 1)) (fun k => lN (t k)) (by omega) (by decide)) (va_cwS 2 hts gX4_bestState_X4_at_ rfl rfl rfl (by decide +kernel) ⟨Nat.le_of_ble_eq_true rfl, Nat.le_of_ble_eq_true rfl⟩) hK hP hD hS hA [3] (by decide) rfl rfl hl.1 rfl (Nat.le_of_ble_eq_true rfl) dX4_bestState_21 (Nat.zero_le _) (Nat.zero_le _) (fun r w1 H locs hQ hP hD hS => ?_)
        obtain ⟨rfl, rfl⟩ := hQ
        have hP : va_P C.1 vwCl (wA C x nw tr hq iq tt sc z ++ wX C iq t f v o) H := hP
        have hD : va_D (q_A (wA C x nw tr hq iq tt sc z ++ wX C iq t f v o) s) (wA C x nw tr hq iq tt sc z ++ wX C iq t f v o) := hD
        refine W.eq (g2 := F0 m 24 ls [.long (lN (t (4 * arm + (i4 + 1))))]) rfl ?_
        refine lv_aload_n hx hb dX4_bestState_24 rfl (lv_at hl 2 rfl) ?_
        refine va_get (ci := 4) (v := .ref (iq 0)) (C := RX4) (T := TX4) (N := 6) hx hb hts hin4 hown hK.1 hP 0 rfl rfl 3 (by decide) hf29 (fun _ h9 => h9) rfl dX4_bestState_25 ?_
        refine va_get (ci := 2) (v := .ref (iq 1)) (C := RX2) (T := TX2) (N := 4) hx hb hts hin2 hown hK.1 hP 2 rfl rfl 0 (by decide) hf188 (fun _ h9 => h9) rfl dX4_bestState_28 ?_
        refine lv_iload_n hx hb dX4_bestState_31 rfl (lv_at hl 3 rfl) ?_
        refine lv_iload_n hx hb dX4_bestState_32 rfl (lv_at hl 1 rfl) ?_
        refine q_S (As := [.int (nI arm), .int (nI g4)]) (rest := [.ref (iq 1), .long (lN (t (4 * arm + (i4 + 1))))]) ⟨hx, hb, hml, hown, hts⟩ (c_X4_slotOf l C arm g4) (va_cwS 2 hts gX4_bestState_X4_slotOf rfl rfl rfl (by decide +kernel) ⟨Nat.le_of_ble_eq_true rfl, Nat.le_of_ble_eq_true rfl⟩) hK hP hD hS hA [] (by decide) rfl rfl hl.1 rfl (Nat.le_of_ble_eq_true rfl) dX4_bestState_33 (Nat.zero_le _) (Nat.zero_le _) (fun r w1 H locs hQ hP hD hS => ?_)
        obtain ⟨rfl, rfl⟩ := hQ
        refine W.eq (g2 := F0 m 36 ls [.int (nI (4 * arm + g4)), .ref (iq 1), .long (lN (t (4 * arm + (i4 + 1))))]) rfl ?_
        refine q_S (As := [.ref (iq 1), .int (nI (4 * arm + g4))]) (rest := [.long (lN (t (4 * arm + (i4 + 1))))]) ⟨hx, hb, hml, hown, hts⟩ (c_X4_at_ l C (iq 1) 16 (4 * arm + g4) (fun k => lN (t k)) (by omega) (by decide)) (va_cwS 2 hts gX4_bestState_X4_at_ rfl rfl rfl (by decide +kernel) ⟨Nat.le_of_ble_eq_true rfl, Nat.le_of_ble_eq_true rfl⟩) hK hP hD hS hA [3] (by decide) rfl rfl hl.1 rfl (Nat.le_of_ble_eq_true rfl) dX4_bestState_36 (Nat.zero_le _) (Nat.zero_le _) (fun r w1 H locs hQ hP hD hS => ?_)
        obtain ⟨rfl, rfl⟩ := hQ
        have hP : va_P C.1 vwCl (wA C x nw tr hq iq tt sc z ++ wX C iq t f v o) H := hP
        have hD : va_D (q_A (wA C x nw tr hq iq tt sc z ++ wX C iq t f v o) s) (wA C x nw tr hq iq tt sc z ++ wX C iq t f v o) := hD
        refine W.eq (g2 := F0 m 39 ls [.long (lN (t (4 * arm + g4))), .long (lN (t (4 * arm + (i4 + 1))))]) rfl ?_
        have e1 := hT (4 * arm + (i4 + 1)) (by omega)
        have e2 := hT (4 * arm + g4) (by omega)
        refine W.lcmp hx hb dX4_bestState_39 ?_
        refine lv_if_le (tgt := 45) hx hb dX4_bestState_40 (by decide) (fun c40 => ?_) (fun c40 => ?_)
        · have c40 : (t (4 * arm + (i4 + 1))) ≤ (t (4 * arm + g4)) := q_Lle (by omega) (by omega) c40
          refine lv_iinc (v := nI (i4 + 1 + 1)) (lv' := [(3, .int (nI (i4 + 1 + 1))), (2, .int (nI g4)), (0, .ref x), (1, .int (nI arm))]) hx hb dX4_bestState_45 hl (k := 0) rfl (nI_1 _) (by decide) rfl (fun ls hl => ?_)
          refine lv_goto (tgt := 4) hx hb dX4_bestState_48 (by decide) ?_
          exact ih4 (i4 + 1) g4 (by omega) (by omega) (by show (if t (4 * arm + bstN t arm i4) < t (4 * arm + (i4 + 1)) then _ else _) = _; rw [hG4, if_neg (by omega)]) (by omega) _ _ ls hP hD hS (lv_sub hl [0, 1, 2, 3] rfl)
        · have c40 : (t (4 * arm + g4)) < (t (4 * arm + (i4 + 1))) := q_Lle' (by omega) (by omega) c40
          refine lv_iload_n hx hb dX4_bestState_43 rfl (lv_at hl 0 rfl) ?_
          refine lv_istore_n (lv' := [(2, .int (nI (i4 + 1))), (3, .int (nI (i4 + 1))), (0, .ref x), (1, .int (nI arm))]) hx hb dX4_bestState_44 rfl hl (by decide) rfl (fun ls hl => ?_)
          refine lv_iinc (v := nI (i4 + 1 + 1)) (lv' := [(3, .int (nI (i4 + 1 + 1))), (2, .int (nI (i4 + 1))), (0, .ref x), (1, .int (nI arm))]) hx hb dX4_bestState_45 hl (k := 1) rfl (nI_1 _) (by decide) rfl (fun ls hl => ?_)
          refine lv_goto (tgt := 4) hx hb dX4_bestState_48 (by decide) ?_
          exact ih4 (i4 + 1) (i4 + 1) (by omega) (by omega) (by show (if t (4 * arm + bstN t arm i4) < t (4 * arm + (i4 + 1)) then _ else _) = _; rw [hG4, if_pos (by omega)]) (by omega) _ _ ls hP hD hS (lv_sub hl [0, 1, 2, 3] rfl)
  exact K4 (3 + 1 - 0) 0 0 (by omega) (by omega) rfl (by omega) _ _ ls hP hD hS (lv_sub hl [0, 1, 2, 3] rfl)
set_option maxHeartbeats 4000000 in
set_option maxRecDepth 100000 in
theorem c_X4_roundsNeeded (l : Launch) (C : q_C) (x : Nat) (nw tr hq iq tt : Nat → Nat) (sc : Nat) (z : Nat → Int) (b : Bd) (t f v o : Nat → Nat) (arm : Nat) (hB : OkB b) (ha : arm < 4) (hT : ∀ k, k < 16 → t k ≤ 6000000) : q_M C l yX4_roundsNeeded wsX4_roundsNeeded 3 89 [.ref x, .int (nI arm)] (wA C x nw tr hq iq tt sc z ++ wB C nw b ++ wX C iq t f v o) (fun r w => ∃ v1 o1, r = some (.int (nI (leastN b arm (bp b arm) (t (4 * arm + bp b arm))))) ∧ w = wA C x nw tr hq iq tt sc z ++ wB C nw b ++ wX C iq t f v1 o1) := by
  obtain ⟨ok1, ok2, ⟨ok3, ok4, ok5, ok6, ok7⟩, ok8, ok9⟩ := id hB
  have hp4 := ok2 arm ha
  have e1 := hT (4 * arm + bp b arm) (by omega)
  refine q_head (cc := cX4_roundsNeeded) (maxL := 3) (ret := (some .int)) (by decide +kernel) rfl (Nat.le_of_ble_eq_true rfl) ?_
  intro p e s m below meth c hx hb hr hlocks hml hown hts hK hP hD hS hA ls hl
  have hl : lv_has ls 3 [(0, .ref x), (1, .int (nI arm))] := hl
  have hf10 := hts (.fieldLink RX4 10 "RestedArms" "now" "LRestedArms$Board;") (by decide +kernel)
  have hf188 := hts (.fieldLink RX4 188 "RestedArms$Indices" "table" "[J") (by decide +kernel)
  have hf29 := hts (.fieldLink RX4 29 "RestedArms" "indices" "LRestedArms$Indices;") (by decide +kernel)
  have hf94 := hts (.fieldLink RX4 94 "RestedArms$Board" "places" "[I") (by decide +kernel)
  have hin0 : ∀ w ∈ u_ws RX0 TX0 12, w ∈ wsX4_roundsNeeded := by decide +kernel
  have hin2 : ∀ w ∈ u_ws RX2 TX2 4, w ∈ wsX4_roundsNeeded := by decide +kernel
  have hin4 : ∀ w ∈ u_ws RX4 TX4 6, w ∈ wsX4_roundsNeeded := by decide +kernel
  refine lv_aload_n hx hb dX4_roundsNeeded_0 rfl (lv_at hl 0 rfl) ?_
  refine va_get (ci := 4) (v := .ref (nw 0)) (C := RX4) (T := TX4) (N := 6) hx hb hts hin4 hown hK.1 hP 0 rfl rfl 0 (by decide) hf10 (fun _ h9 => h9) rfl dX4_roundsNeeded_1 ?_
  refine va_get (ci := 0) (v := .ref (nw 5)) (C := RX0) (T := TX0) (N := 12) hx hb hts hin0 hown hK.1 hP 2 rfl rfl 4 (by decide) hf94 (fun _ h9 => h9) rfl dX4_roundsNeeded_4 ?_
  refine lv_iload_n hx hb dX4_roundsNeeded_7 rfl (lv_at hl 1 rfl) ?_
  refine q_S (As := [.ref (nw 5), .int (nI arm)]) (rest := []) ⟨hx, hb, hml, hown, hts⟩ (c_X4_at l C (nw 5) 4 arm (fun k => nI (bp b k)) (by omega) (by decide)) (va_cwS 2 hts gX4_roundsNeeded_X4_at rfl rfl rfl (by decide +kernel) ⟨Nat.le_of_ble_eq_true rfl, Nat.le_of_ble_eq_true rfl⟩) hK hP hD hS hA [7] (by decide) rfl rfl hl.1 rfl (Nat.le_of_ble_eq_true rfl) dX4_roundsNeeded_8 (Nat.zero_le _) (Nat.zero_le _) (fun r w1 H locs hQ hP hD hS => ?_)
  obtain ⟨rfl, rfl⟩ := hQ
  have hP : va_P C.1 vwCl (wA C x nw tr hq iq tt sc z ++ wB C nw b ++ wX C iq t f v o) H := hP
  have hD : va_D (q_A (wA C x nw tr hq iq tt sc z ++ wB C nw b ++ wX C iq t f v o) s) (wA C x nw tr hq iq tt sc z ++ wB C nw b ++ wX C iq t f v o) := hD
  refine W.eq (g2 := F0 m 11 ls [.int (nI (bp b arm))]) rfl ?_
  refine lv_istore_n (lv' := [(2, .int (nI (bp b arm))), (0, .ref x), (1, .int (nI arm))]) hx hb dX4_roundsNeeded_11 rfl hl (by decide) rfl (fun ls hl => ?_)
  refine lv_aload_n hx hb dX4_roundsNeeded_12 rfl (lv_at hl 1 rfl) ?_
  refine va_get (ci := 4) (v := .ref (iq 0)) (C := RX4) (T := TX4) (N := 6) hx hb hts hin4 hown hK.1 hP 0 rfl rfl 3 (by decide) hf29 (fun _ h9 => h9) rfl dX4_roundsNeeded_13 ?_
  refine lv_aload_n hx hb dX4_roundsNeeded_16 rfl (lv_at hl 1 rfl) ?_
  refine va_get (ci := 4) (v := .ref (nw 0)) (C := RX4) (T := TX4) (N := 6) hx hb hts hin4 hown hK.1 hP 0 rfl rfl 0 (by decide) hf10 (fun _ h9 => h9) rfl dX4_roundsNeeded_17 ?_
  refine lv_iload_n hx hb dX4_roundsNeeded_20 rfl (lv_at hl 2 rfl) ?_
  refine lv_iload_n hx hb dX4_roundsNeeded_21 rfl (lv_at hl 0 rfl) ?_
  refine lv_aload_n hx hb dX4_roundsNeeded_22 rfl (lv_at hl 1 rfl) ?_
  refine va_get (ci := 4) (v := .ref (iq 0)) (C := RX4) (T := TX4) (N := 6) hx hb hts hin4 hown hK.1 hP 0 rfl rfl 3 (by decide) hf29 (fun _ h9 => h9) rfl dX4_roundsNeeded_23 ?_
  refine va_get (ci := 2) (v := .ref (iq 1)) (C := RX2) (T := TX2) (N := 4) hx hb hts hin2 hown hK.1 hP 10 rfl rfl 0 (by decide) hf188 (fun _ h9 => h9) rfl dX4_roundsNeeded_26 ?_
  refine lv_iload_n hx hb dX4_roundsNeeded_29 rfl (lv_at hl 2 rfl) ?_
  refine lv_iload_n hx hb dX4_roundsNeeded_30 rfl (lv_at hl 0 rfl) ?_
  refine q_S (As := [.int (nI arm), .int (nI (bp b arm))]) (rest := [.ref (iq 1), .int (nI (bp b arm)), .int (nI arm), .ref (nw 0), .ref (iq 0)]) ⟨hx, hb, hml, hown, hts⟩ (c_X4_slotOf l C arm (bp b arm)) (va_cwS 2 hts gX4_roundsNeeded_X4_slotOf rfl rfl rfl (by decide +kernel) ⟨Nat.le_of_ble_eq_true rfl, Nat.le_of_ble_eq_true rfl⟩) hK hP hD hS hA [] (by decide) rfl rfl hl.1 rfl (Nat.le_of_ble_eq_true rfl) dX4_roundsNeeded_31 (Nat.zero_le _) (Nat.zero_le _) (fun r w1 H locs hQ hP hD hS => ?_)
  obtain ⟨rfl, rfl⟩ := hQ
  refine W.eq (g2 := F0 m 34 ls [.int (nI (4 * arm + (bp b arm))), .ref (iq 1), .int (nI (bp b arm)), .int (nI arm), .ref (nw 0), .ref (iq 0)]) rfl ?_
  refine q_S (As := [.ref (iq 1), .int (nI (4 * arm + (bp b arm)))]) (rest := [.int (nI (bp b arm)), .int (nI arm), .ref (nw 0), .ref (iq 0)]) ⟨hx, hb, hml, hown, hts⟩ (c_X4_at_ l C (iq 1) 16 (4 * arm + (bp b arm)) (fun k => lN (t k)) (by omega) (by decide)) (va_cwS 2 hts gX4_roundsNeeded_X4_at_ rfl rfl rfl (by decide +kernel) ⟨Nat.le_of_ble_eq_true rfl, Nat.le_of_ble_eq_true rfl⟩) hK hP hD hS hA [11] (by decide) rfl rfl hl.1 rfl (Nat.le_of_ble_eq_true rfl) dX4_roundsNeeded_34 (Nat.zero_le _) (Nat.zero_le _) (fun r w1 H locs hQ hP hD hS => ?_)
  obtain ⟨rfl, rfl⟩ := hQ
  have hP : va_P C.1 vwCl (wA C x nw tr hq iq tt sc z ++ wB C nw b ++ wX C iq t f v o) H := hP
  have hD : va_D (q_A (wA C x nw tr hq iq tt sc z ++ wB C nw b ++ wX C iq t f v o) s) (wA C x nw tr hq iq tt sc z ++ wB C nw b ++ wX C iq t f v o) := hD
  refine W.eq (g2 := F0 m 37 ls [.long (lN (t (4 * arm + (bp b arm)))), .int (nI (bp b arm)), .int (nI arm), .ref (nw 0), .ref (iq 0)]) rfl ?_
  refine q_V (As := [.ref (nw 0), .int (nI arm), .int (nI (bp b arm)), .long (lN (t (4 * arm + (bp b arm))))]) (rest := []) ⟨hx, hb, hml, hown, hts⟩ (c_X2_leastRounds l C iq t f v o nw b arm (bp b arm) (t (4 * arm + (bp b arm))) hB (by omega) (by omega) (by omega)) (cwV 4 hts gX4_roundsNeeded_X2_leastRounds rfl rfl rfl (by decide +kernel) ⟨Nat.le_of_ble_eq_true rfl, Nat.le_of_ble_eq_true rfl⟩) hK hP hD hS hA [10, 11, 12, 13, 14, 2, 3, 4, 5, 6, 7, 8, 9] (by decide) rfl 10 rfl rfl rfl rfl hl.1 rfl (Nat.le_of_ble_eq_true rfl) dX4_roundsNeeded_37 (Nat.zero_le _) (Nat.zero_le _) (fun r w1 H locs hQ hP hD hS => ?_)
  obtain ⟨vx1, ox1, rfl, rfl⟩ := hQ
  have hP : va_P C.1 vwCl (wA C x nw tr hq iq tt sc z ++ wB C nw b ++ wX C iq t f vx1 ox1) H := hP
  have hD : va_D (q_A (wA C x nw tr hq iq tt sc z ++ wB C nw b ++ wX C iq t f v o) s) (wA C x nw tr hq iq tt sc z ++ wB C nw b ++ wX C iq t f vx1 ox1) := hD
  refine W.eq (g2 := F0 m 40 ls [.int (nI (leastN b arm (bp b arm) (t (4 * arm + (bp b arm)))))]) rfl ?_
  exact q_iret hx hb hr hlocks (w1 := wA C x nw tr hq iq tt sc z ++ wB C nw b ++ wX C iq t f vx1 ox1) hP hS rfl dX4_roundsNeeded_40 (⟨_, _, rfl, rfl⟩)
set_option maxHeartbeats 4000000 in
set_option maxRecDepth 100000 in
theorem c_X4_nextOf (l : Launch) (C : q_C) (x : Nat) (nw tr hq iq tt : Nat → Nat) (sc : Nat) (z : Nat → Int) (b : Bd) (k : Nat) (hB : OkB b) (hk : k < 16) : q_M C l yX4_nextOf wsX4_nextOf 1 21 [.ref x, .int (nI k)] (wA C x nw tr hq iq tt sc z ++ wB C nw b) (fun r w => r = some (.int (nI (nxN b k))) ∧ w = wA C x nw tr hq iq tt sc z ++ wB C nw b) := by
  obtain ⟨f1, f2, f3, f4⟩ := hB.1 k hk
  refine q_head (cc := cX4_nextOf) (maxL := 5) (ret := (some .int)) (by decide +kernel) rfl (Nat.le_of_ble_eq_true rfl) ?_
  intro p e s m below meth c hx hb hr hlocks hml hown hts hK hP hD hS hA ls hl
  have hl : lv_has ls 5 [(0, .ref x), (1, .int (nI k))] := hl
  have hf10 := hts (.fieldLink RX4 10 "RestedArms" "now" "LRestedArms$Board;") (by decide +kernel)
  have hf85 := hts (.fieldLink RX4 85 "RestedArms$Board" "goods" "[I") (by decide +kernel)
  have hf88 := hts (.fieldLink RX4 88 "RestedArms$Board" "bads" "[I") (by decide +kernel)
  have hf91 := hts (.fieldLink RX4 91 "RestedArms$Board" "chances" "[I") (by decide +kernel)
  have hin0 : ∀ w ∈ u_ws RX0 TX0 12, w ∈ wsX4_nextOf := by decide +kernel
  have hin4 : ∀ w ∈ u_ws RX4 TX4 6, w ∈ wsX4_nextOf := by decide +kernel
  refine lv_aload_n hx hb dX4_nextOf_0 rfl (lv_at hl 0 rfl) ?_
  refine va_get (ci := 4) (v := .ref (nw 0)) (C := RX4) (T := TX4) (N := 6) hx hb hts hin4 hown hK.1 hP 0 rfl rfl 0 (by decide) hf10 (fun _ h9 => h9) rfl dX4_nextOf_1 ?_
  refine va_get (ci := 0) (v := .ref (nw 4)) (C := RX0) (T := TX0) (N := 12) hx hb hts hin0 hown hK.1 hP 2 rfl rfl 3 (by decide) hf91 (fun _ h9 => h9) rfl dX4_nextOf_4 ?_
  refine lv_iload_n hx hb dX4_nextOf_7 rfl (lv_at hl 1 rfl) ?_
  refine q_S (As := [.ref (nw 4), .int (nI k)]) (rest := []) ⟨hx, hb, hml, hown, hts⟩ (c_X4_at l C (nw 4) 16 k (fun k => nI (bc b k)) (by omega) (by decide)) (va_cwS 2 hts gX4_nextOf_X4_at rfl rfl rfl (by decide +kernel) ⟨Nat.le_of_ble_eq_true rfl, Nat.le_of_ble_eq_true rfl⟩) hK hP hD hS hA [6] (by decide) rfl rfl hl.1 rfl (Nat.le_of_ble_eq_true rfl) dX4_nextOf_8 (Nat.zero_le _) (Nat.zero_le _) (fun r w1 H locs hQ hP hD hS => ?_)
  obtain ⟨rfl, rfl⟩ := hQ
  have hP : va_P C.1 vwCl (wA C x nw tr hq iq tt sc z ++ wB C nw b) H := hP
  have hD : va_D (q_A (wA C x nw tr hq iq tt sc z ++ wB C nw b) s) (wA C x nw tr hq iq tt sc z ++ wB C nw b) := hD
  refine W.eq (g2 := F0 m 11 ls [.int (nI (bc b k))]) rfl ?_
  refine lv_istore_n (lv' := [(2, .int (nI (bc b k))), (0, .ref x), (1, .int (nI k))]) hx hb dX4_nextOf_11 rfl hl (by decide) rfl (fun ls hl => ?_)
  refine lv_iload_n hx hb dX4_nextOf_12 rfl (lv_at hl 0 rfl) ?_
  refine lv_if_le (tgt := 32) hx hb dX4_nextOf_13 (by decide) (fun c13 => ?_) (fun c13 => ?_)
  · have c13 : (bc b k) ≤ 0 := q_nle0 (by omega) (by omega) c13
    refine lv_iconst (v := nI 0) hx hb dX4_nextOf_32 (by decide) ?_
    refine lv_istore_n (lv' := [(3, .int (nI 0)), (2, .int (nI (bc b k))), (0, .ref x), (1, .int (nI k))]) hx hb dX4_nextOf_33 rfl hl (by decide) rfl (fun ls hl => ?_)
    refine lv_iload_n hx hb dX4_nextOf_34 rfl (lv_at hl 1 rfl) ?_
    refine lv_bipush (v := nI 8) hx hb dX4_nextOf_35 (by decide) ?_
    refine lv_icmp_ge (tgt := 56) hx hb dX4_nextOf_37 (by decide) (fun c37 => ?_) (fun c37 => ?_)
    · have c37 : 8 ≤ (bc b k) := q_nge (by omega) (by omega) c37
      refine lv_iconst (v := nI 0) hx hb dX4_nextOf_56 (by decide) ?_
      refine lv_istore (lv' := [(4, .int (nI 0)), (3, .int (nI 0)), (2, .int (nI (bc b k))), (0, .ref x), (1, .int (nI k))]) hx hb dX4_nextOf_57 hl (by decide) rfl (fun ls hl => ?_)
      refine lv_iload_n hx hb dX4_nextOf_59 rfl (lv_at hl 1 rfl) ?_
      refine lv_iload hx hb dX4_nextOf_60 (lv_at hl 0 rfl) ?_
      refine lv_ior hx hb dX4_nextOf_62 ?_
      refine q_ti (y := nI (0 ||| 0)) (nI_or16 _ (by decide) _ (by decide)) ?_
      exact q_iret hx hb hr hlocks (w1 := wA C x nw tr hq iq tt sc z ++ wB C nw b) hP hS rfl dX4_nextOf_63 (⟨by rw [nxN, if_neg (show ¬ bc b k > 0 by omega), if_neg (show ¬ bc b k < 8 by omega)], rfl⟩)
    · have c37 : (bc b k) < 8 := q_nge' (by omega) (by omega) c37
      refine lv_iconst (v := nI 1) hx hb dX4_nextOf_40 (by decide) ?_
      refine lv_aload_n hx hb dX4_nextOf_41 rfl (lv_at hl 2 rfl) ?_
      refine va_get (ci := 4) (v := .ref (nw 0)) (C := RX4) (T := TX4) (N := 6) hx hb hts hin4 hown hK.1 hP 0 rfl rfl 0 (by decide) hf10 (fun _ h9 => h9) rfl dX4_nextOf_42 ?_
      refine va_get (ci := 0) (v := .ref (nw 3)) (C := RX0) (T := TX0) (N := 12) hx hb hts hin0 hown hK.1 hP 2 rfl rfl 2 (by decide) hf88 (fun _ h9 => h9) rfl dX4_nextOf_45 ?_
      refine lv_iload_n hx hb dX4_nextOf_48 rfl (lv_at hl 3 rfl) ?_
      refine q_S (As := [.ref (nw 3), .int (nI k)]) (rest := [.int (nI 1)]) ⟨hx, hb, hml, hown, hts⟩ (c_X4_at l C (nw 3) 16 k (fun k => nI (bb b k)) (by omega) (by decide)) (va_cwS 2 hts gX4_nextOf_X4_at rfl rfl rfl (by decide +kernel) ⟨Nat.le_of_ble_eq_true rfl, Nat.le_of_ble_eq_true rfl⟩) hK hP hD hS hA [5] (by decide) rfl rfl hl.1 rfl (Nat.le_of_ble_eq_true rfl) dX4_nextOf_49 (Nat.zero_le _) (Nat.zero_le _) (fun r w1 H locs hQ hP hD hS => ?_)
      obtain ⟨rfl, rfl⟩ := hQ
      have hP : va_P C.1 vwCl (wA C x nw tr hq iq tt sc z ++ wB C nw b) H := hP
      have hD : va_D (q_A (wA C x nw tr hq iq tt sc z ++ wB C nw b) s) (wA C x nw tr hq iq tt sc z ++ wB C nw b) := hD
      refine W.eq (g2 := F0 m 52 ls [.int (nI (bb b k)), .int (nI 1)]) rfl ?_
      refine lv_ishl hx hb dX4_nextOf_52 ?_
      refine q_ti (y := nI (2 ^ bb b k)) (shl1 _ f3) ?_
      refine lv_goto (tgt := 57) hx hb dX4_nextOf_53 (by decide) ?_
      refine lv_istore (lv' := [(4, .int (nI (2 ^ bb b k))), (3, .int (nI 0)), (2, .int (nI (bc b k))), (0, .ref x), (1, .int (nI k))]) hx hb dX4_nextOf_57 hl (by decide) rfl (fun ls hl => ?_)
      refine lv_iload_n hx hb dX4_nextOf_59 rfl (lv_at hl 1 rfl) ?_
      refine lv_iload hx hb dX4_nextOf_60 (lv_at hl 0 rfl) ?_
      refine lv_ior hx hb dX4_nextOf_62 ?_
      refine q_ti (y := nI (0 ||| (2 ^ bb b k))) (nI_or16 _ (by decide) _ (pow4 _ f3)) ?_
      exact q_iret hx hb hr hlocks (w1 := wA C x nw tr hq iq tt sc z ++ wB C nw b) hP hS rfl dX4_nextOf_63 (⟨by rw [nxN, if_neg (show ¬ bc b k > 0 by omega), if_pos (show bc b k < 8 by omega)], rfl⟩)
  · have c13 : 0 < (bc b k) := q_nle0' (by omega) (by omega) c13
    refine lv_iconst (v := nI 1) hx hb dX4_nextOf_16 (by decide) ?_
    refine lv_aload_n hx hb dX4_nextOf_17 rfl (lv_at hl 1 rfl) ?_
    refine va_get (ci := 4) (v := .ref (nw 0)) (C := RX4) (T := TX4) (N := 6) hx hb hts hin4 hown hK.1 hP 0 rfl rfl 0 (by decide) hf10 (fun _ h9 => h9) rfl dX4_nextOf_18 ?_
    refine va_get (ci := 0) (v := .ref (nw 2)) (C := RX0) (T := TX0) (N := 12) hx hb hts hin0 hown hK.1 hP 2 rfl rfl 1 (by decide) hf85 (fun _ h9 => h9) rfl dX4_nextOf_21 ?_
    refine lv_iload_n hx hb dX4_nextOf_24 rfl (lv_at hl 2 rfl) ?_
    refine q_S (As := [.ref (nw 2), .int (nI k)]) (rest := [.int (nI 1)]) ⟨hx, hb, hml, hown, hts⟩ (c_X4_at l C (nw 2) 16 k (fun k => nI (bo b k)) (by omega) (by decide)) (va_cwS 2 hts gX4_nextOf_X4_at rfl rfl rfl (by decide +kernel) ⟨Nat.le_of_ble_eq_true rfl, Nat.le_of_ble_eq_true rfl⟩) hK hP hD hS hA [4] (by decide) rfl rfl hl.1 rfl (Nat.le_of_ble_eq_true rfl) dX4_nextOf_25 (Nat.zero_le _) (Nat.zero_le _) (fun r w1 H locs hQ hP hD hS => ?_)
    obtain ⟨rfl, rfl⟩ := hQ
    have hP : va_P C.1 vwCl (wA C x nw tr hq iq tt sc z ++ wB C nw b) H := hP
    have hD : va_D (q_A (wA C x nw tr hq iq tt sc z ++ wB C nw b) s) (wA C x nw tr hq iq tt sc z ++ wB C nw b) := hD
    refine W.eq (g2 := F0 m 28 ls [.int (nI (bo b k)), .int (nI 1)]) rfl ?_
    refine lv_ishl hx hb dX4_nextOf_28 ?_
    refine q_ti (y := nI (2 ^ bo b k)) (shl1 _ f2) ?_
    refine lv_goto (tgt := 33) hx hb dX4_nextOf_29 (by decide) ?_
    refine lv_istore_n (lv' := [(3, .int (nI (2 ^ bo b k))), (2, .int (nI (bc b k))), (0, .ref x), (1, .int (nI k))]) hx hb dX4_nextOf_33 rfl hl (by decide) rfl (fun ls hl => ?_)
    refine lv_iload_n hx hb dX4_nextOf_34 rfl (lv_at hl 1 rfl) ?_
    refine lv_bipush (v := nI 8) hx hb dX4_nextOf_35 (by decide) ?_
    refine lv_icmp_ge (tgt := 56) hx hb dX4_nextOf_37 (by decide) (fun c37 => ?_) (fun c37 => ?_)
    · have c37 : 8 ≤ (bc b k) := q_nge (by omega) (by omega) c37
      refine lv_iconst (v := nI 0) hx hb dX4_nextOf_56 (by decide) ?_
      refine lv_istore (lv' := [(4, .int (nI 0)), (3, .int (nI (2 ^ bo b k))), (2, .int (nI (bc b k))), (0, .ref x), (1, .int (nI k))]) hx hb dX4_nextOf_57 hl (by decide) rfl (fun ls hl => ?_)
      refine lv_iload_n hx hb dX4_nextOf_59 rfl (lv_at hl 1 rfl) ?_
      refine lv_iload hx hb dX4_nextOf_60 (lv_at hl 0 rfl) ?_
      refine lv_ior hx hb dX4_nextOf_62 ?_
      refine q_ti (y := nI ((2 ^ bo b k) ||| 0)) (nI_or16 _ (pow4 _ f2) _ (by decide)) ?_
      exact q_iret hx hb hr hlocks (w1 := wA C x nw tr hq iq tt sc z ++ wB C nw b) hP hS rfl dX4_nextOf_63 (⟨by rw [nxN, if_pos (show bc b k > 0 by omega), if_neg (show ¬ bc b k < 8 by omega)], rfl⟩)
    · have c37 : (bc b k) < 8 := q_nge' (by omega) (by omega) c37
      refine lv_iconst (v := nI 1) hx hb dX4_nextOf_40 (by decide) ?_
      refine lv_aload_n hx hb dX4_nextOf_41 rfl (lv_at hl 2 rfl) ?_
      refine va_get (ci := 4) (v := .ref (nw 0)) (C := RX4) (T := TX4) (N := 6) hx hb hts hin4 hown hK.1 hP 0 rfl rfl 0 (by decide) hf10 (fun _ h9 => h9) rfl dX4_nextOf_42 ?_
      refine va_get (ci := 0) (v := .ref (nw 3)) (C := RX0) (T := TX0) (N := 12) hx hb hts hin0 hown hK.1 hP 2 rfl rfl 2 (by decide) hf88 (fun _ h9 => h9) rfl dX4_nextOf_45 ?_
      refine lv_iload_n hx hb dX4_nextOf_48 rfl (lv_at hl 3 rfl) ?_
      refine q_S (As := [.ref (nw 3), .int (nI k)]) (rest := [.int (nI 1)]) ⟨hx, hb, hml, hown, hts⟩ (c_X4_at l C (nw 3) 16 k (fun k => nI (bb b k)) (by omega) (by decide)) (va_cwS 2 hts gX4_nextOf_X4_at rfl rfl rfl (by decide +kernel) ⟨Nat.le_of_ble_eq_true rfl, Nat.le_of_ble_eq_true rfl⟩) hK hP hD hS hA [5] (by decide) rfl rfl hl.1 rfl (Nat.le_of_ble_eq_true rfl) dX4_nextOf_49 (Nat.zero_le _) (Nat.zero_le _) (fun r w1 H locs hQ hP hD hS => ?_)
      obtain ⟨rfl, rfl⟩ := hQ
      have hP : va_P C.1 vwCl (wA C x nw tr hq iq tt sc z ++ wB C nw b) H := hP
      have hD : va_D (q_A (wA C x nw tr hq iq tt sc z ++ wB C nw b) s) (wA C x nw tr hq iq tt sc z ++ wB C nw b) := hD
      refine W.eq (g2 := F0 m 52 ls [.int (nI (bb b k)), .int (nI 1)]) rfl ?_
      refine lv_ishl hx hb dX4_nextOf_52 ?_
      refine q_ti (y := nI (2 ^ bb b k)) (shl1 _ f3) ?_
      refine lv_goto (tgt := 57) hx hb dX4_nextOf_53 (by decide) ?_
      refine lv_istore (lv' := [(4, .int (nI (2 ^ bb b k))), (3, .int (nI (2 ^ bo b k))), (2, .int (nI (bc b k))), (0, .ref x), (1, .int (nI k))]) hx hb dX4_nextOf_57 hl (by decide) rfl (fun ls hl => ?_)
      refine lv_iload_n hx hb dX4_nextOf_59 rfl (lv_at hl 1 rfl) ?_
      refine lv_iload hx hb dX4_nextOf_60 (lv_at hl 0 rfl) ?_
      refine lv_ior hx hb dX4_nextOf_62 ?_
      refine q_ti (y := nI ((2 ^ bo b k) ||| (2 ^ bb b k))) (nI_or16 _ (pow4 _ f2) _ (pow4 _ f3)) ?_
      exact q_iret hx hb hr hlocks (w1 := wA C x nw tr hq iq tt sc z ++ wB C nw b) hP hS rfl dX4_nextOf_63 (⟨by rw [nxN, if_pos (show bc b k > 0 by omega), if_pos (show bc b k < 8 by omega)], rfl⟩)
set_option maxHeartbeats 4000000 in
set_option maxRecDepth 100000 in
theorem c_X4_reachedFrom (l : Launch) (C : q_C) (x : Nat) (nw tr hq iq tt : Nat → Nat) (sc : Nat) (z : Nat → Int) (b : Bd) (arm h : Nat) (hB : OkB b) (ha : arm < 4) (hh : h < 4) : q_M C l yX4_reachedFrom wsX4_reachedFrom 2 45 [.ref x, .int (nI arm), .int (nI h)] (wA C x nw tr hq iq tt sc z ++ wB C nw b) (fun r w => r = some (.int (nI (rcN b arm h 3))) ∧ w = wA C x nw tr hq iq tt sc z ++ wB C nw b) := by
  refine q_head (cc := cX4_reachedFrom) (maxL := 6) (ret := (some .int)) (by decide +kernel) rfl (Nat.le_of_ble_eq_true rfl) ?_
  intro p e s m below meth c hx hb hr hlocks hml hown hts hK hP hD hS hA ls hl
  have hl : lv_has ls 6 [(0, .ref x), (1, .int (nI arm)), (2, .int (nI h))] := hl
  refine lv_iconst (v := nI 1) hx hb dX4_reachedFrom_0 (by decide) ?_
  refine lv_iload_n hx hb dX4_reachedFrom_1 rfl (lv_at hl 2 rfl) ?_
  refine lv_ishl hx hb dX4_reachedFrom_2 ?_
  refine q_ti (y := nI (2 ^ h)) (shl1 _ hh) ?_
  refine lv_istore_n (lv' := [(3, .int (nI (2 ^ h))), (0, .ref x), (1, .int (nI arm)), (2, .int (nI h))]) hx hb dX4_reachedFrom_3 rfl hl (by decide) rfl (fun ls hl => ?_)
  refine lv_iconst (v := nI 1) hx hb dX4_reachedFrom_4 (by decide) ?_
  refine lv_istore (lv' := [(4, .int (nI 1)), (3, .int (nI (2 ^ h))), (0, .ref x), (1, .int (nI arm)), (2, .int (nI h))]) hx hb dX4_reachedFrom_5 hl (by decide) rfl (fun ls hl => ?_)
  have K7 : ∀ (n7 i7 : Nat), ∀ (m7 : Nat), i7 ≤ 3 → 3 + 1 ≤ i7 + n7 → (rcN b arm h i7 = m7) → (m7 < 16) → ∀ (H : Heap) (locs : List Loc) (ls : Array Slot), va_P C.1 vwCl (wA C x nw tr hq iq tt sc z ++ wB C nw b) H → va_D (q_A (wA C x nw tr hq iq tt sc z ++ wB C nw b) s) (wA C x nw tr hq iq tt sc z ++ wB C nw b) → va_S (q_A (wA C x nw tr hq iq tt sc z ++ wB C nw b) s) s.heap H locs → lv_has ls 6 [(4, .int (nI (i7 + 1))), (3, .int (nI m7)), (0, .ref x), (1, .int (nI arm)), (2, .int (nI h))] → W p l e (q_R 2 45) s m ([.ref x, .int (nI arm), .int (nI h)] : List Value).toArray below meth c H locs 0 0 (q_G C below (wA C x nw tr hq iq tt sc z ++ wB C nw b) (fun r w => r = some (.int (nI (rcN b arm h 3))) ∧ w = wA C x nw tr hq iq tt sc z ++ wB C nw b) ([.ref x, .int (nI arm), .int (nI h)] : List Value).toArray s) (F0 m 7 ls []) := by
    intro n7
    induction n7 with
    | zero => intro i7 m7 q1 q2; exact absurd q2 (by omega)
    | succ n7 ih7 =>
      intro i7 m7 hi7 hn7 hM7 hm7 H locs ls hP hD hS hl
      refine lv_iload hx hb dX4_reachedFrom_7 (lv_at hl 0 rfl) ?_
      refine lv_iconst (v := nI 4) hx hb dX4_reachedFrom_9 (by decide) ?_
      refine lv_icmp_ge (tgt := 56) hx hb dX4_reachedFrom_10 (by decide) (fun c10 => ?_) (fun c10 => ?_)
      · have c10 : 4 ≤ (i7 + 1) := q_nge (by omega) (by omega) c10
        refine lv_iload_n hx hb dX4_reachedFrom_56 rfl (lv_at hl 1 rfl) ?_
        exact q_iret hx hb hr hlocks (w1 := wA C x nw tr hq iq tt sc z ++ wB C nw b) hP hS rfl dX4_reachedFrom_57 (⟨by rw [show (3 : Nat) = i7 by omega, hM7], rfl⟩)
      · have c10 : (i7 + 1) < 4 := q_nge' (by omega) (by omega) c10
        refine lv_iconst (v := nI 0) hx hb dX4_reachedFrom_13 (by decide) ?_
        refine lv_istore (lv' := [(5, .int (nI 0)), (4, .int (nI (i7 + 1))), (3, .int (nI m7)), (0, .ref x), (1, .int (nI arm)), (2, .int (nI h))]) hx hb dX4_reachedFrom_14 hl (by decide) rfl (fun ls hl => ?_)
        have K16 : ∀ (n16 i16 : Nat), ∀ (m16 : Nat), i16 ≤ 4 → 4 + 1 ≤ i16 + n16 → (rcIn b arm m7 i16 = m16) → (m16 < 16) → ∀ (H : Heap) (locs : List Loc) (ls : Array Slot), va_P C.1 vwCl (wA C x nw tr hq iq tt sc z ++ wB C nw b) H → va_D (q_A (wA C x nw tr hq iq tt sc z ++ wB C nw b) s) (wA C x nw tr hq iq tt sc z ++ wB C nw b) → va_S (q_A (wA C x nw tr hq iq tt sc z ++ wB C nw b) s) s.heap H locs → lv_has ls 6 [(5, .int (nI i16)), (4, .int (nI (i7 + 1))), (3, .int (nI m16)), (0, .ref x), (1, .int (nI arm)), (2, .int (nI h))] → W p l e (q_R 2 45) s m ([.ref x, .int (nI arm), .int (nI h)] : List Value).toArray below meth c H locs 0 0 (q_G C below (wA C x nw tr hq iq tt sc z ++ wB C nw b) (fun r w => r = some (.int (nI (rcN b arm h 3))) ∧ w = wA C x nw tr hq iq tt sc z ++ wB C nw b) ([.ref x, .int (nI arm), .int (nI h)] : List Value).toArray s) (F0 m 16 ls []) := by
          intro n16
          induction n16 with
          | zero => intro i16 m16 q1 q2; exact absurd q2 (by omega)
          | succ n16 ih16 =>
            intro i16 m16 hi16 hn16 hM16 hm16 H locs ls hP hD hS hl
            refine lv_iload hx hb dX4_reachedFrom_16 (lv_at hl 0 rfl) ?_
            refine lv_iconst (v := nI 4) hx hb dX4_reachedFrom_18 (by decide) ?_
            refine lv_icmp_ge (tgt := 50) hx hb dX4_reachedFrom_19 (by decide) (fun c19 => ?_) (fun c19 => ?_)
            · have c19 : 4 ≤ i16 := q_nge (by omega) (by omega) c19
              refine lv_iinc (v := nI (i7 + 1 + 1)) (lv' := [(4, .int (nI (i7 + 1 + 1))), (5, .int (nI i16)), (3, .int (nI m16)), (0, .ref x), (1, .int (nI arm)), (2, .int (nI h))]) hx hb dX4_reachedFrom_50 hl (k := 1) rfl (nI_1 _) (by decide) rfl (fun ls hl => ?_)
              refine lv_goto (tgt := 7) hx hb dX4_reachedFrom_53 (by decide) ?_
              exact ih7 (i7 + 1) m16 (by omega) (by omega) (by show rcIn b arm (rcN b arm h i7) 4 = m16; rw [hM7, show (4 : Nat) = i16 by omega, hM16]) hm16 _ _ ls hP hD hS (lv_sub hl [0, 2, 3, 4, 5] rfl)
            · have c19 : i16 < 4 := q_nge' (by omega) (by omega) c19
              refine lv_iload_n hx hb dX4_reachedFrom_22 rfl (lv_at hl 2 rfl) ?_
              refine lv_iconst (v := nI 1) hx hb dX4_reachedFrom_23 (by decide) ?_
              refine lv_iload hx hb dX4_reachedFrom_24 (lv_at hl 0 rfl) ?_
              refine lv_ishl hx hb dX4_reachedFrom_26 ?_
              refine q_ti (y := nI (2 ^ i16)) (shl1 _ (by omega)) ?_
              refine lv_iand hx hb dX4_reachedFrom_27 ?_
              refine lv_if_eq (tgt := 44) hx hb dX4_reachedFrom_28 (by decide) (fun c28 => ?_) (fun c28 => ?_)
              · skip
                refine lv_iinc (v := nI (i16 + 1)) (lv' := [(5, .int (nI (i16 + 1))), (4, .int (nI (i7 + 1))), (3, .int (nI m16)), (0, .ref x), (1, .int (nI arm)), (2, .int (nI h))]) hx hb dX4_reachedFrom_44 hl (k := 0) rfl (nI_1 _) (by decide) rfl (fun ls hl => ?_)
                refine lv_goto (tgt := 16) hx hb dX4_reachedFrom_47 (by decide) ?_
                exact ih16 (i16 + 1) m16 (by omega) (by omega) (rcIn_f hM16 ((bit16 _ hm16 _ (by omega)).mp c28)) hm16 _ _ ls hP hD hS (lv_sub hl [0, 1, 2, 3, 4, 5] rfl)
              · skip
                refine lv_iload_n hx hb dX4_reachedFrom_31 rfl (lv_at hl 2 rfl) ?_
                refine lv_aload_n hx hb dX4_reachedFrom_32 rfl (lv_at hl 3 rfl) ?_
                refine lv_iload_n hx hb dX4_reachedFrom_33 rfl (lv_at hl 4 rfl) ?_
                refine lv_iload hx hb dX4_reachedFrom_34 (lv_at hl 0 rfl) ?_
                refine q_S (As := [.int (nI arm), .int (nI i16)]) (rest := [.ref x, .int (nI m16)]) ⟨hx, hb, hml, hown, hts⟩ (c_X4_slotOf l C arm i16) (va_cwS 2 hts gX4_reachedFrom_X4_slotOf rfl rfl rfl (by decide +kernel) ⟨Nat.le_of_ble_eq_true rfl, Nat.le_of_ble_eq_true rfl⟩) hK hP hD hS hA [] (by decide) rfl rfl hl.1 rfl (Nat.le_of_ble_eq_true rfl) dX4_reachedFrom_36 (Nat.zero_le _) (Nat.zero_le _) (fun r w1 H locs hQ hP hD hS => ?_)
                obtain ⟨rfl, rfl⟩ := hQ
                refine W.eq (g2 := F0 m 39 ls [.int (nI (4 * arm + i16)), .ref x, .int (nI m16)]) rfl ?_
                refine q_V (As := [.int (nI (4 * arm + i16))]) (rest := [.int (nI m16)]) ⟨hx, hb, hml, hown, hts⟩ (c_X4_nextOf l C x nw tr hq iq tt sc z b (4 * arm + i16) hB (by omega)) (cwV 1 hts gX4_reachedFrom_X4_nextOf rfl rfl rfl (by decide +kernel) ⟨Nat.le_of_ble_eq_true rfl, Nat.le_of_ble_eq_true rfl⟩) hK hP hD hS hA [0, 1, 2, 3, 4, 5, 6, 7, 8, 9] (by decide) rfl 0 rfl rfl rfl rfl hl.1 rfl (Nat.le_of_ble_eq_true rfl) dX4_reachedFrom_39 (Nat.zero_le _) (Nat.zero_le _) (fun r w1 H locs hQ hP hD hS => ?_)
                obtain ⟨rfl, rfl⟩ := hQ
                have hP : va_P C.1 vwCl (wA C x nw tr hq iq tt sc z ++ wB C nw b) H := hP
                have hD : va_D (q_A (wA C x nw tr hq iq tt sc z ++ wB C nw b) s) (wA C x nw tr hq iq tt sc z ++ wB C nw b) := hD
                refine W.eq (g2 := F0 m 42 ls [.int (nI (nxN b (4 * arm + i16))), .int (nI m16)]) rfl ?_
                refine lv_ior hx hb dX4_reachedFrom_42 ?_
                refine q_ti (y := nI (m16 ||| nxN b (4 * arm + i16))) (nI_or16 _ hm16 _ (nxN_lt hB (by omega))) ?_
                refine lv_istore_n (lv' := [(3, .int (nI (m16 ||| nxN b (4 * arm + i16)))), (5, .int (nI i16)), (4, .int (nI (i7 + 1))), (0, .ref x), (1, .int (nI arm)), (2, .int (nI h))]) hx hb dX4_reachedFrom_43 rfl hl (by decide) rfl (fun ls hl => ?_)
                refine lv_iinc (v := nI (i16 + 1)) (lv' := [(5, .int (nI (i16 + 1))), (3, .int (nI (m16 ||| nxN b (4 * arm + i16)))), (4, .int (nI (i7 + 1))), (0, .ref x), (1, .int (nI arm)), (2, .int (nI h))]) hx hb dX4_reachedFrom_44 hl (k := 1) rfl (nI_1 _) (by decide) rfl (fun ls hl => ?_)
                refine lv_goto (tgt := 16) hx hb dX4_reachedFrom_47 (by decide) ?_
                exact ih16 (i16 + 1) (m16 ||| nxN b (4 * arm + i16)) (by omega) (by omega) (rcIn_t hM16 (fun q => c28 ((bit16 _ hm16 _ (by omega)).mpr q))) (or16 _ hm16 _ (nxN_lt hB (by omega))) _ _ ls hP hD hS (lv_sub hl [0, 2, 1, 3, 4, 5] rfl)
        exact K16 (4 + 1 - 0) 0 m7 (by omega) (by omega) rfl hm7 _ _ ls hP hD hS (lv_sub hl [0, 1, 2, 3, 4, 5] rfl)
  exact K7 (3 + 1 - 0) 0 (2 ^ h) (by omega) (by omega) rfl (pow4 _ hh) _ _ ls hP hD hS (lv_sub hl [0, 1, 2, 3, 4] rfl)
