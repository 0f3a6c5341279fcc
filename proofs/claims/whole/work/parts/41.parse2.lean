/-! the model's parser: its methods -/
theorem fd10 {c : Nat} (h : ¬ (48 ≤ c ∧ c ≤ 57)) : fdN c = 10 := by
  unfold fdN
  rw [if_neg (by omega), if_neg (by omega)]
theorem pa_semi {cd : Nat → Nat} {n i j i1 : Nat} {td td1 : Nat → Int32} (h : paOk cd n i j td td1 i1) (hc : cd i1 = 59) : stg cd (i1 + 1) = 0 := by
  rcases h.2.2.2.1 with q | q | q <;> rw [stg_s, q, hc] <;> rfl
theorem pa_all {cd : Nat → Nat} {n i j i1 : Nat} {td td1 : Nat → Int32} (h : paOk cd n i j td td1 i1) (q : ∀ b, tdR td j b (mvN cd b i).2.2.2 ∧ (mvN cd b i).1 = j + 1) (b : Bd) : tdR td1 (j + 1) b (mvN cd b i1).2.2.2 ∧ (mvN cd b i1).1 = j + 1 :=
  ⟨tdR_s h.2.2.1 (q b).1 (h.2.2.2.2.2 b).1, (h.2.2.2.2.2 b).2.trans (q b).2⟩
theorem pa_next {cd : Nat → Nat} {n i j i1 : Nat} {td td1 : Nat → Int32} (h : paOk cd n i j td td1 i1) (hc : cd i1 = 59) (q : ∀ b, tdR td j b (mvN cd b i).2.2.2 ∧ (mvN cd b i).1 = j + 1) (b : Bd) : tdR td1 (j + 1) b (mvN cd b (i1 + 1)).2.2.2 ∧ (mvN cd b (i1 + 1)).1 = j + 1 + 1 := by
  obtain ⟨h1, h2⟩ := pa_all h q b
  rw [mvN_s, pa_semi h hc]
  exact ⟨h1, congrArg (· + 1) h2⟩
theorem tx_ok {cd : Nat → Nat} {n i j i1 : Nat} {td td1 : Nat → Int32} (h : paOk cd n i j td td1 i1) (e : i1 = n) (q : ∀ b, tdR td j b (mvN cd b i).2.2.2 ∧ (mvN cd b i).1 = j + 1) (hj : j ≤ 12) : txOk cd n (j + 1) td1 := by
  subst e
  refine ⟨decide_eq_true ?_, by omega, fun b => pa_all h q b⟩
  exact h.2.2.2.1
theorem tx_bad {cd : Nat → Nat} {n i j i1 : Nat} {td td1 : Nat → Int32} (h : paOk cd n i j td td1 i1) (hn : i1 < n) (hc : ¬ (i1 < n ∧ 59 ≤ cd i1 ∧ cd i1 ≤ 59)) : txBad cd n i1 1 := by
  refine txBad_of ⟨by omega, ?_, Or.inr ⟨hn, rfl, h.2.2.2.2.1 hn (by omega)⟩⟩
  have := h.2.2.2.1
  omega
theorem tx_f {cd : Nat → Nat} {n p f : Nat} (h : txBad cd n p f) : f ≤ 1 := by
  rcases h.2.2 with ⟨q, -⟩ | ⟨q, -⟩ <;> omega
theorem tx_e0 {cd : Nat → Nat} {n p f : Nat} (h : txBad cd n p f) (q : f = 0) : errN cd n = n := by
  rcases h.2.2 with ⟨q1, q2⟩ | ⟨q1, q2⟩
  · exact q2
  · omega
theorem tx_e1 {cd : Nat → Nat} {n p f : Nat} (h : txBad cd n p f) (q : f ≠ 0) : errN cd n = p := by
  rcases h.2.2 with ⟨q1, q2⟩ | ⟨q1, q2⟩
  · omega
  · exact q2
theorem nI_m1 {k : Nat} (h : k < 2 ^ 31) : ¬ nI k = -1 := fun q => by
  have h1 := nI_pos' h
  rw [q] at h1
  exact absurd h1 (by decide)
set_option maxHeartbeats 4000000 in
set_option maxRecDepth 100000 in
theorem c_X5_isAt (l : Launch) (C : q_C) (mo : Nat → Nat) (kp tw fl tl : Int32) (v o : Nat → Nat) (n i : Nat) (cd : Nat → Nat) (lo hi : Nat) (hn : n ≤ 60) (hcd : ∀ k, k < n → cd k < 2 ^ 31) (h1 : lo < 2 ^ 31) (h2 : hi < 2 ^ 31) (hi9 : i ≤ 60) : q_M C l yX5_isAt wsX5_isAt 1 23 [.ref (mo 0), .int (nI lo), .int (nI hi)] (wO C mo (evm kp (nI n) tw (nI i) fl tl) v o ++ ([(mo 4, .inl (C.2.1, 60, .inl (fun k => nI (cd k))))] : va_W)) (fun r w => r = some (.int (q_b (decide (i < n ∧ lo ≤ cd i ∧ cd i ≤ hi)))) ∧ w = wO C mo (evm kp (nI n) tw (nI i) fl tl) v o ++ ([(mo 4, .inl (C.2.1, 60, .inl (fun k => nI (cd k))))] : va_W)) := by
  refine q_head (cc := cX5_isAt) (maxL := 3) (ret := (some .boolean)) (by decide +kernel) rfl (Nat.le_of_ble_eq_true rfl) ?_
  intro p e s m below meth c hx hb hr hlocks hml hown hts hK hP hD hS hA ls hl
  have hl : lv_has ls 3 [(0, .ref (mo 0)), (1, .int (nI lo)), (2, .int (nI hi))] := hl
  have hf150 := hts (.fieldLink RX5 150 "RestedArmsModel" "typed" "I") (by decide +kernel)
  have hf153 := hts (.fieldLink RX5 153 "RestedArmsModel" "at" "I") (by decide +kernel)
  have hf19 := hts (.fieldLink RX5 19 "RestedArmsModel" "text" "[I") (by decide +kernel)
  have hin5 : ∀ w ∈ u_ws RX5 TX5 13, w ∈ wsX5_isAt := by decide +kernel
  refine lv_aload_n hx hb dX5_isAt_0 rfl (lv_at hl 0 rfl) ?_
  refine va_get (ci := 5) (v := .int (nI i)) (C := RX5) (T := TX5) (N := 13) hx hb hts hin5 hown hK.1 hP 0 rfl rfl 7 (by decide) hf153 (fun _ h9 => h9) rfl dX5_isAt_1 ?_
  refine lv_aload_n hx hb dX5_isAt_4 rfl (lv_at hl 0 rfl) ?_
  refine va_get (ci := 5) (v := .int (nI n)) (C := RX5) (T := TX5) (N := 13) hx hb hts hin5 hown hK.1 hP 0 rfl rfl 5 (by decide) hf150 (fun _ h9 => h9) rfl dX5_isAt_5 ?_
  refine lv_icmp_ge (tgt := 33) hx hb dX5_isAt_8 (by decide) (fun c8 => ?_) (fun c8 => ?_)
  · have c8 : n ≤ i := q_nge (by omega) (by omega) c8
    refine lv_iconst (v := nI 0) hx hb dX5_isAt_33 (by decide) ?_
    exact q_zret hx hb hr hlocks rfl (w1 := wO C mo (evm kp (nI n) tw (nI i) fl tl) v o ++ ([(mo 4, .inl (C.2.1, 60, .inl (fun k => nI (cd k))))] : va_W)) hP hS rfl dX5_isAt_34 (⟨congrArg (fun z => some (Value.int z)) (q_bf (decide_eq_false (fun q => absurd q.1 (by omega)))), rfl⟩)
  · have c8 : i < n := q_nge' (by omega) (by omega) c8
    refine lv_aload_n hx hb dX5_isAt_11 rfl (lv_at hl 0 rfl) ?_
    refine va_get (ci := 5) (v := .ref (mo 4)) (C := RX5) (T := TX5) (N := 13) hx hb hts hin5 hown hK.1 hP 0 rfl rfl 4 (by decide) hf19 (fun _ h9 => h9) rfl dX5_isAt_12 ?_
    refine lv_aload_n hx hb dX5_isAt_15 rfl (lv_at hl 0 rfl) ?_
    refine va_get (ci := 5) (v := .int (nI i)) (C := RX5) (T := TX5) (N := 13) hx hb hts hin5 hown hK.1 hP 0 rfl rfl 7 (by decide) hf153 (fun _ h9 => h9) rfl dX5_isAt_16 ?_
    refine q_iald (n := i) (v := nI (cd i)) hx hb hK hP 3 rfl (by omega) (by decide) rfl dX5_isAt_19 ?_
    have hci := hcd i c8
    refine lv_i2l (v := lN (cd i)) hx hb dX5_isAt_20 (nI_l (by omega)) ?_
    refine lv_iload_n hx hb dX5_isAt_21 rfl (lv_at hl 1 rfl) ?_
    refine lv_iload_n hx hb dX5_isAt_22 rfl (lv_at hl 2 rfl) ?_
    refine q_S (As := [.long (lN (cd i)), .int (nI lo), .int (nI hi)]) (rest := []) ⟨hx, hb, hml, hown, hts⟩ (c_inN l C (cd i) lo hi (by omega) (by omega) (by omega)) (va_cwS 3 hts gX5_isAt_X5_in rfl rfl rfl (by decide +kernel) ⟨Nat.le_of_ble_eq_true rfl, Nat.le_of_ble_eq_true rfl⟩) hK hP hD hS hA [] (by decide) rfl rfl hl.1 rfl (Nat.le_of_ble_eq_true rfl) dX5_isAt_23 (Nat.zero_le _) (Nat.zero_le _) (fun r w1 H locs hQ hP hD hS => ?_)
    obtain ⟨rfl, rfl⟩ := hQ
    refine W.eq (g2 := F0 m 26 ls [.int (q_b (decide (lo ≤ (cd i) ∧ (cd i) ≤ hi)))]) rfl ?_
    refine lv_if_eq (tgt := 33) hx hb dX5_isAt_26 (by decide) (fun c26 => ?_) (fun c26 => ?_)
    · have c26 : decide (lo ≤ (cd i) ∧ (cd i) ≤ hi) = false := q_b0.mp c26
      refine lv_iconst (v := nI 0) hx hb dX5_isAt_33 (by decide) ?_
      exact q_zret hx hb hr hlocks rfl (w1 := wO C mo (evm kp (nI n) tw (nI i) fl tl) v o ++ ([(mo 4, .inl (C.2.1, 60, .inl (fun k => nI (cd k))))] : va_W)) hP hS rfl dX5_isAt_34 (⟨congrArg (fun z => some (Value.int z)) (q_bf (decide_eq_false (fun q => of_decide_eq_false c26 q.2))), rfl⟩)
    · have c26 : decide (lo ≤ (cd i) ∧ (cd i) ≤ hi) = true := q_b1.mp c26
      refine lv_iconst (v := nI 1) hx hb dX5_isAt_29 (by decide) ?_
      refine lv_goto (tgt := 34) hx hb dX5_isAt_30 (by decide) ?_
      exact q_zret hx hb hr hlocks rfl (w1 := wO C mo (evm kp (nI n) tw (nI i) fl tl) v o ++ ([(mo 4, .inl (C.2.1, 60, .inl (fun k => nI (cd k))))] : va_W)) hP hS rfl dX5_isAt_34 (⟨congrArg (fun z => some (Value.int z)) (q_bt (decide_eq_true ⟨c8, of_decide_eq_true c26⟩)), rfl⟩)
theorem c1_X5_isAt (l : Launch) (C : q_C) (mo : Nat → Nat) (kp tw fl tl : Int32) (v o : Nat → Nat) (n i : Nat) (cd : Nat → Nat) (lo hi : Nat) (hn : n ≤ 60) (hcd : ∀ k, k < n → cd k < 2 ^ 31) (h1 : lo < 2 ^ 31) (h2 : hi < 2 ^ 31) (hi9 : i ≤ 60) (h : i < n ∧ lo ≤ cd i ∧ cd i ≤ hi) : q_M C l yX5_isAt wsX5_isAt 1 23 [.ref (mo 0), .int (nI lo), .int (nI hi)] (wO C mo (evm kp (nI n) tw (nI i) fl tl) v o ++ ([(mo 4, .inl (C.2.1, 60, .inl (fun k => nI (cd k))))] : va_W)) (fun r w => r = some (.int (nI 1)) ∧ w = wO C mo (evm kp (nI n) tw (nI i) fl tl) v o ++ ([(mo 4, .inl (C.2.1, 60, .inl (fun k => nI (cd k))))] : va_W)) :=
  (c_X5_isAt l C mo kp tw fl tl v o n i cd lo hi hn hcd h1 h2 hi9).mono (fun r w q => ⟨q.1.trans (congrArg (fun z => some (Value.int z)) (q_bt (decide_eq_true h)).symm), q.2⟩)
theorem c0_X5_isAt (l : Launch) (C : q_C) (mo : Nat → Nat) (kp tw fl tl : Int32) (v o : Nat → Nat) (n i : Nat) (cd : Nat → Nat) (lo hi : Nat) (hn : n ≤ 60) (hcd : ∀ k, k < n → cd k < 2 ^ 31) (h1 : lo < 2 ^ 31) (h2 : hi < 2 ^ 31) (hi9 : i ≤ 60) (h : ¬ (i < n ∧ lo ≤ cd i ∧ cd i ≤ hi)) : q_M C l yX5_isAt wsX5_isAt 1 23 [.ref (mo 0), .int (nI lo), .int (nI hi)] (wO C mo (evm kp (nI n) tw (nI i) fl tl) v o ++ ([(mo 4, .inl (C.2.1, 60, .inl (fun k => nI (cd k))))] : va_W)) (fun r w => r = some (.int (nI 0)) ∧ w = wO C mo (evm kp (nI n) tw (nI i) fl tl) v o ++ ([(mo 4, .inl (C.2.1, 60, .inl (fun k => nI (cd k))))] : va_W)) :=
  (c_X5_isAt l C mo kp tw fl tl v o n i cd lo hi hn hcd h1 h2 hi9).mono (fun r w q => ⟨q.1.trans (congrArg (fun z => some (Value.int z)) (q_bf (decide_eq_false h)).symm), q.2⟩)
set_option maxHeartbeats 4000000 in
set_option maxRecDepth 100000 in
theorem c_X5_stops (l : Launch) (C : q_C) (mo : Nat → Nat) (kp tw fl tl : Int32) (v o : Nat → Nat) (n i : Nat) (hn : n ≤ 60) (hi9 : i ≤ 60) : q_M C l yX5_stops wsX5_stops 0 0 [.ref (mo 0)] (wO C mo (evm kp (nI n) tw (nI i) fl tl) v o) (fun r w => r = some (.int (nI 0)) ∧ w = wO C mo (evm kp (nI n) tw (nI i) (nI (flN i n)) tl) v o) := by
  refine q_head (cc := cX5_stops) (maxL := 1) (ret := (some .boolean)) (by decide +kernel) rfl (Nat.le_of_ble_eq_true rfl) ?_
  intro p e s m below meth c hx hb hr hlocks hml hown hts hK hP hD hS hA ls hl
  have hl : lv_has ls 1 [(0, .ref (mo 0))] := hl
  have hf150 := hts (.fieldLink RX5 150 "RestedArmsModel" "typed" "I") (by decide +kernel)
  have hf153 := hts (.fieldLink RX5 153 "RestedArmsModel" "at" "I") (by decide +kernel)
  have hf156 := hts (.fieldLink RX5 156 "RestedArmsModel" "isFault" "Z") (by decide +kernel)
  have hin5 : ∀ w ∈ u_ws RX5 TX5 13, w ∈ wsX5_stops := by decide +kernel
  refine lv_aload_n hx hb dX5_stops_0 rfl (lv_at hl 0 rfl) ?_
  refine lv_aload_n hx hb dX5_stops_1 rfl (lv_at hl 0 rfl) ?_
  refine va_get (ci := 5) (v := .int (nI i)) (C := RX5) (T := TX5) (N := 13) hx hb hts hin5 hown hK.1 hP 0 rfl rfl 7 (by decide) hf153 (fun _ h9 => h9) rfl dX5_stops_2 ?_
  refine lv_aload_n hx hb dX5_stops_5 rfl (lv_at hl 0 rfl) ?_
  refine va_get (ci := 5) (v := .int (nI n)) (C := RX5) (T := TX5) (N := 13) hx hb hts hin5 hown hK.1 hP 0 rfl rfl 5 (by decide) hf150 (fun _ h9 => h9) rfl dX5_stops_6 ?_
  refine lv_icmp_ge (tgt := 16) hx hb dX5_stops_9 (by decide) (fun c9 => ?_) (fun c9 => ?_)
  · have c9 : n ≤ i := q_nge (by omega) (by omega) c9
    refine lv_iconst (v := nI 0) hx hb dX5_stops_16 (by decide) ?_
    refine va_put (ci := 5) (v := .int (nI 0)) (ty := .boolean) (C := RX5) (T := TX5) (N := 13) hx hb hts hin5 tyX5 tyX5_ok nmX5 hown hK.1 hP hD hS 0 rfl rfl 8 (by decide) hf156 (fun _ h9 => h9) rfl (by decide +kernel) rfl rfl (Nat.le_of_ble_eq_true rfl) dX5_stops_17 (fun H locs hP hD hS => ?_)
    have hP : va_P C.1 vwCl (wO C mo (evm kp (nI n) tw (nI i) (nI 0) tl) v o) H := hP
    have hD : va_D (q_A (wO C mo (evm kp (nI n) tw (nI i) fl tl) v o) s) (wO C mo (evm kp (nI n) tw (nI i) (nI 0) tl) v o) := hD
    refine lv_iconst (v := nI 0) hx hb dX5_stops_20 (by decide) ?_
    exact q_zret hx hb hr hlocks rfl (w1 := wO C mo (evm kp (nI n) tw (nI i) (nI 0) tl) v o) hP hS rfl dX5_stops_21 (⟨rfl, congrArg (fun z => wO C mo (evm kp (nI n) tw (nI i) (nI z) tl) v o) (show 0 = flN i n from (if_neg (by omega)).symm)⟩)
  · have c9 : i < n := q_nge' (by omega) (by omega) c9
    refine lv_iconst (v := nI 1) hx hb dX5_stops_12 (by decide) ?_
    refine lv_goto (tgt := 17) hx hb dX5_stops_13 (by decide) ?_
    refine va_put (ci := 5) (v := .int (nI 1)) (ty := .boolean) (C := RX5) (T := TX5) (N := 13) hx hb hts hin5 tyX5 tyX5_ok nmX5 hown hK.1 hP hD hS 0 rfl rfl 8 (by decide) hf156 (fun _ h9 => h9) rfl (by decide +kernel) rfl rfl (Nat.le_of_ble_eq_true rfl) dX5_stops_17 (fun H locs hP hD hS => ?_)
    have hP : va_P C.1 vwCl (wO C mo (evm kp (nI n) tw (nI i) (nI 1) tl) v o) H := hP
    have hD : va_D (q_A (wO C mo (evm kp (nI n) tw (nI i) fl tl) v o) s) (wO C mo (evm kp (nI n) tw (nI i) (nI 1) tl) v o) := hD
    refine lv_iconst (v := nI 0) hx hb dX5_stops_20 (by decide) ?_
    exact q_zret hx hb hr hlocks rfl (w1 := wO C mo (evm kp (nI n) tw (nI i) (nI 1) tl) v o) hP hS rfl dX5_stops_21 (⟨rfl, congrArg (fun z => wO C mo (evm kp (nI n) tw (nI i) (nI z) tl) v o) (show 1 = flN i n from (if_pos c9).symm)⟩)
set_option maxHeartbeats 4000000 in
set_option maxRecDepth 100000 in
theorem c_X5_isSign (l : Launch) (C : q_C) (mo : Nat → Nat) (kp tw fl : Int32) (v o : Nat → Nat) (n i j : Nat) (cd : Nat → Nat) (td : Nat → Int32) (k lo hi : Nat) (hn : n ≤ 60) (hcd : ∀ k, k < n → cd k < 2 ^ 31) (hj : 6 * j + k < 84) (hhi : hi < 2 ^ 31) (hlo : lo ≤ hi) (h1 : i < n) (h2 : lo ≤ cd i) (h3 : cd i ≤ hi) : q_M C l yX5_isSign wsX5_isSign 2 45 [.ref (mo 0), .int (nI k), .int (nI lo), .int (nI hi)] (wO C mo (evm kp (nI n) tw (nI i) fl (nI j)) v o ++ ([(mo 4, .inl (C.2.1, 60, .inl (fun k => nI (cd k)))), (mo 5, .inl (C.2.1, 84, .inl td))] : va_W)) (fun r w => r = some (.int (nI 1)) ∧ w = wO C mo (evm kp (nI n) tw (nI (i + 1)) fl (nI j)) v o ++ ([(mo 4, .inl (C.2.1, 60, .inl (fun k => nI (cd k)))), (mo 5, .inl (C.2.1, 84, .inl (upd td (6 * j + k) (nI (cd i - lo)))))] : va_W)) := by
  refine q_head (cc := cX5_isSign) (maxL := 4) (ret := (some .boolean)) (by decide +kernel) rfl (Nat.le_of_ble_eq_true rfl) ?_
  intro p e s m below meth c hx hb hr hlocks hml hown hts hK hP hD hS hA ls hl
  have hl : lv_has ls 4 [(0, .ref (mo 0)), (1, .int (nI k)), (2, .int (nI lo)), (3, .int (nI hi))] := hl
  have hf153 := hts (.fieldLink RX5 153 "RestedArmsModel" "at" "I") (by decide +kernel)
  have hf167 := hts (.fieldLink RX5 167 "RestedArmsModel" "tolds" "I") (by decide +kernel)
  have hf19 := hts (.fieldLink RX5 19 "RestedArmsModel" "text" "[I") (by decide +kernel)
  have hf23 := hts (.fieldLink RX5 23 "RestedArmsModel" "told" "[I") (by decide +kernel)
  have hin5 : ∀ w ∈ u_ws RX5 TX5 13, w ∈ wsX5_isSign := by decide +kernel
  refine lv_aload_n hx hb dX5_isSign_0 rfl (lv_at hl 0 rfl) ?_
  refine lv_iload_n hx hb dX5_isSign_1 rfl (lv_at hl 2 rfl) ?_
  refine lv_iload_n hx hb dX5_isSign_2 rfl (lv_at hl 3 rfl) ?_
  refine q_V (As := [.int (nI lo), .int (nI hi)]) (rest := []) ⟨hx, hb, hml, hown, hts⟩ (c1_X5_isAt l C mo kp tw fl (nI j) v o n i cd lo hi (by omega) hcd (by omega) (by omega) (by omega) ⟨by omega, by omega, by omega⟩) (cwV 2 hts gX5_isSign_X5_isAt rfl rfl rfl (by decide +kernel) ⟨Nat.le_of_ble_eq_true rfl, Nat.le_of_ble_eq_true rfl⟩) hK hP hD hS hA [0, 1, 2, 3] (by decide) rfl 0 rfl rfl rfl rfl hl.1 rfl (Nat.le_of_ble_eq_true rfl) dX5_isSign_3 (Nat.zero_le _) (Nat.zero_le _) (fun r w1 H locs hQ hP hD hS => ?_)
  obtain ⟨rfl, rfl⟩ := hQ
  have hP : va_P C.1 vwCl (wO C mo (evm kp (nI n) tw (nI i) fl (nI j)) v o ++ ([(mo 4, .inl (C.2.1, 60, .inl (fun k => nI (cd k)))), (mo 5, .inl (C.2.1, 84, .inl td))] : va_W)) H := hP
  have hD : va_D (q_A (wO C mo (evm kp (nI n) tw (nI i) fl (nI j)) v o ++ ([(mo 4, .inl (C.2.1, 60, .inl (fun k => nI (cd k)))), (mo 5, .inl (C.2.1, 84, .inl td))] : va_W)) s) (wO C mo (evm kp (nI n) tw (nI i) fl (nI j)) v o ++ ([(mo 4, .inl (C.2.1, 60, .inl (fun k => nI (cd k)))), (mo 5, .inl (C.2.1, 84, .inl td))] : va_W)) := hD
  refine W.eq (g2 := F0 m 6 ls [.int (nI 1)]) rfl ?_
  refine lv_if_ne (tgt := 14) hx hb dX5_isSign_6 (by decide) (fun _ => ?_) (fun c => absurd c (by decide))
  refine lv_aload_n hx hb dX5_isSign_14 rfl (lv_at hl 0 rfl) ?_
  refine va_get (ci := 5) (v := .ref (mo 5)) (C := RX5) (T := TX5) (N := 13) hx hb hts hin5 hown hK.1 hP 0 rfl rfl 9 (by decide) hf23 (fun _ h9 => h9) rfl dX5_isSign_15 ?_
  refine lv_bipush (v := nI 6) hx hb dX5_isSign_18 (by decide) ?_
  refine lv_aload_n hx hb dX5_isSign_20 rfl (lv_at hl 0 rfl) ?_
  refine va_get (ci := 5) (v := .int (nI j)) (C := RX5) (T := TX5) (N := 13) hx hb hts hin5 hown hK.1 hP 0 rfl rfl 10 (by decide) hf167 (fun _ h9 => h9) rfl dX5_isSign_21 ?_
  refine lv_imul hx hb dX5_isSign_24 ?_
  refine q_ti (y := nI (6 * j)) (pk_mul _ _) ?_
  refine lv_iload_n hx hb dX5_isSign_25 rfl (lv_at hl 1 rfl) ?_
  refine lv_iadd hx hb dX5_isSign_26 ?_
  refine q_ti (y := nI ((6 * j) + k)) (nI_add _ _) ?_
  refine lv_aload_n hx hb dX5_isSign_27 rfl (lv_at hl 0 rfl) ?_
  refine va_get (ci := 5) (v := .ref (mo 4)) (C := RX5) (T := TX5) (N := 13) hx hb hts hin5 hown hK.1 hP 0 rfl rfl 4 (by decide) hf19 (fun _ h9 => h9) rfl dX5_isSign_28 ?_
  refine lv_aload_n hx hb dX5_isSign_31 rfl (lv_at hl 0 rfl) ?_
  refine va_get (ci := 5) (v := .int (nI i)) (C := RX5) (T := TX5) (N := 13) hx hb hts hin5 hown hK.1 hP 0 rfl rfl 7 (by decide) hf153 (fun _ h9 => h9) rfl dX5_isSign_32 ?_
  refine q_iald (n := i) (v := nI (cd i)) hx hb hK hP 3 rfl (by omega) (by decide) rfl dX5_isSign_35 ?_
  refine lv_iload_n hx hb dX5_isSign_36 rfl (lv_at hl 2 rfl) ?_
  refine lv_isub hx hb dX5_isSign_37 ?_
  refine q_ti (y := nI ((cd i) - lo)) (pk_sub (by omega)) ?_
  refine q_iast (n := ((6 * j) + k)) hx hb hK hP hD hS 4 rfl (by omega) (by decide) dX5_isSign_38 (fun H locs hP hD hS => ?_)
  have hP : va_P C.1 vwCl (wO C mo (evm kp (nI n) tw (nI i) fl (nI j)) v o ++ ([(mo 4, .inl (C.2.1, 60, .inl (fun k => nI (cd k)))), (mo 5, .inl (C.2.1, 84, .inl (upd td ((6 * j) + k) (nI ((cd i) - lo)))))] : va_W)) H := hP
  have hD : va_D (q_A (wO C mo (evm kp (nI n) tw (nI i) fl (nI j)) v o ++ ([(mo 4, .inl (C.2.1, 60, .inl (fun k => nI (cd k)))), (mo 5, .inl (C.2.1, 84, .inl td))] : va_W)) s) (wO C mo (evm kp (nI n) tw (nI i) fl (nI j)) v o ++ ([(mo 4, .inl (C.2.1, 60, .inl (fun k => nI (cd k)))), (mo 5, .inl (C.2.1, 84, .inl (upd td ((6 * j) + k) (nI ((cd i) - lo)))))] : va_W)) := hD
  refine lv_aload_n hx hb dX5_isSign_39 rfl (lv_at hl 0 rfl) ?_
  refine lv_dup hx hb dX5_isSign_40 rfl ?_
  refine va_get (ci := 5) (v := .int (nI i)) (C := RX5) (T := TX5) (N := 13) hx hb hts hin5 hown hK.1 hP 0 rfl rfl 7 (by decide) hf153 (fun _ h9 => h9) rfl dX5_isSign_41 ?_
  refine lv_iconst (v := nI 1) hx hb dX5_isSign_44 (by decide) ?_
  refine lv_iadd hx hb dX5_isSign_45 ?_
  refine q_ti (y := nI (i + 1)) (nI_add _ _) ?_
  refine va_put (ci := 5) (v := .int (nI (i + 1))) (ty := .int) (C := RX5) (T := TX5) (N := 13) hx hb hts hin5 tyX5 tyX5_ok nmX5 hown hK.1 hP hD hS 0 rfl rfl 7 (by decide) hf153 (fun _ h9 => h9) rfl (by decide +kernel) rfl rfl (Nat.le_of_ble_eq_true rfl) dX5_isSign_46 (fun H locs hP hD hS => ?_)
  have hP : va_P C.1 vwCl (wO C mo (evm kp (nI n) tw (nI (i + 1)) fl (nI j)) v o ++ ([(mo 4, .inl (C.2.1, 60, .inl (fun k => nI (cd k)))), (mo 5, .inl (C.2.1, 84, .inl (upd td ((6 * j) + k) (nI ((cd i) - lo)))))] : va_W)) H := hP
  have hD : va_D (q_A (wO C mo (evm kp (nI n) tw (nI i) fl (nI j)) v o ++ ([(mo 4, .inl (C.2.1, 60, .inl (fun k => nI (cd k)))), (mo 5, .inl (C.2.1, 84, .inl td))] : va_W)) s) (wO C mo (evm kp (nI n) tw (nI (i + 1)) fl (nI j)) v o ++ ([(mo 4, .inl (C.2.1, 60, .inl (fun k => nI (cd k)))), (mo 5, .inl (C.2.1, 84, .inl (upd td ((6 * j) + k) (nI ((cd i) - lo)))))] : va_W)) := hD
  refine lv_iconst (v := nI 1) hx hb dX5_isSign_49 (by decide) ?_
  exact q_zret hx hb hr hlocks rfl (w1 := wO C mo (evm kp (nI n) tw (nI (i + 1)) fl (nI j)) v o ++ ([(mo 4, .inl (C.2.1, 60, .inl (fun k => nI (cd k)))), (mo 5, .inl (C.2.1, 84, .inl (upd td ((6 * j) + k) (nI ((cd i) - lo)))))] : va_W)) hP hS rfl dX5_isSign_50 (⟨rfl, rfl⟩)
set_option maxHeartbeats 4000000 in
set_option maxRecDepth 100000 in
theorem c0_X5_isSign (l : Launch) (C : q_C) (mo : Nat → Nat) (kp tw fl : Int32) (v o : Nat → Nat) (n i j : Nat) (cd : Nat → Nat) (td : Nat → Int32) (k lo hi : Nat) (hn : n ≤ 60) (hcd : ∀ k, k < n → cd k < 2 ^ 31) (hlo : lo ≤ hi) (hhi : hi < 2 ^ 31) (hi9 : i ≤ 60) (hnb : ¬ (i < n ∧ lo ≤ cd i ∧ cd i ≤ hi)) : q_M C l yX5_isSign wsX5_isSign 2 45 [.ref (mo 0), .int (nI k), .int (nI lo), .int (nI hi)] (wO C mo (evm kp (nI n) tw (nI i) fl (nI j)) v o ++ ([(mo 4, .inl (C.2.1, 60, .inl (fun k => nI (cd k)))), (mo 5, .inl (C.2.1, 84, .inl td))] : va_W)) (fun r w => r = some (.int (nI 0)) ∧ w = wO C mo (evm kp (nI n) tw (nI i) (nI (flN i n)) (nI j)) v o ++ ([(mo 4, .inl (C.2.1, 60, .inl (fun k => nI (cd k)))), (mo 5, .inl (C.2.1, 84, .inl td))] : va_W)) := by
  refine q_head (cc := cX5_isSign) (maxL := 4) (ret := (some .boolean)) (by decide +kernel) rfl (Nat.le_of_ble_eq_true rfl) ?_
  intro p e s m below meth c hx hb hr hlocks hml hown hts hK hP hD hS hA ls hl
  have hl : lv_has ls 4 [(0, .ref (mo 0)), (1, .int (nI k)), (2, .int (nI lo)), (3, .int (nI hi))] := hl
  refine lv_aload_n hx hb dX5_isSign_0 rfl (lv_at hl 0 rfl) ?_
  refine lv_iload_n hx hb dX5_isSign_1 rfl (lv_at hl 2 rfl) ?_
  refine lv_iload_n hx hb dX5_isSign_2 rfl (lv_at hl 3 rfl) ?_
  refine q_V (As := [.int (nI lo), .int (nI hi)]) (rest := []) ⟨hx, hb, hml, hown, hts⟩ (c0_X5_isAt l C mo kp tw fl (nI j) v o n i cd lo hi (by omega) hcd (by omega) (by omega) (by omega) hnb) (cwV 2 hts gX5_isSign_X5_isAt rfl rfl rfl (by decide +kernel) ⟨Nat.le_of_ble_eq_true rfl, Nat.le_of_ble_eq_true rfl⟩) hK hP hD hS hA [0, 1, 2, 3] (by decide) rfl 0 rfl rfl rfl rfl hl.1 rfl (Nat.le_of_ble_eq_true rfl) dX5_isSign_3 (Nat.zero_le _) (Nat.zero_le _) (fun r w1 H locs hQ hP hD hS => ?_)
  obtain ⟨rfl, rfl⟩ := hQ
  have hP : va_P C.1 vwCl (wO C mo (evm kp (nI n) tw (nI i) fl (nI j)) v o ++ ([(mo 4, .inl (C.2.1, 60, .inl (fun k => nI (cd k)))), (mo 5, .inl (C.2.1, 84, .inl td))] : va_W)) H := hP
  have hD : va_D (q_A (wO C mo (evm kp (nI n) tw (nI i) fl (nI j)) v o ++ ([(mo 4, .inl (C.2.1, 60, .inl (fun k => nI (cd k)))), (mo 5, .inl (C.2.1, 84, .inl td))] : va_W)) s) (wO C mo (evm kp (nI n) tw (nI i) fl (nI j)) v o ++ ([(mo 4, .inl (C.2.1, 60, .inl (fun k => nI (cd k)))), (mo 5, .inl (C.2.1, 84, .inl td))] : va_W)) := hD
  refine W.eq (g2 := F0 m 6 ls [.int (nI 0)]) rfl ?_
  refine lv_if_ne (tgt := 14) hx hb dX5_isSign_6 (by decide) (fun c => absurd c (by decide)) (fun _ => ?_)
  refine lv_aload_n hx hb dX5_isSign_9 rfl (lv_at hl 0 rfl) ?_
  refine q_V (As := []) (rest := []) ⟨hx, hb, hml, hown, hts⟩ (c_X5_stops l C mo kp tw fl (nI j) v o n i (by omega) (by omega)) (cwV 0 hts gX5_isSign_X5_stops rfl rfl rfl (by decide +kernel) ⟨Nat.le_of_ble_eq_true rfl, Nat.le_of_ble_eq_true rfl⟩) hK hP hD hS hA [0, 1, 2] (by decide) rfl 0 rfl rfl rfl rfl hl.1 rfl (Nat.le_of_ble_eq_true rfl) dX5_isSign_10 (Nat.zero_le _) (Nat.zero_le _) (fun r w1 H locs hQ hP hD hS => ?_)
  obtain ⟨rfl, rfl⟩ := hQ
  have hP : va_P C.1 vwCl (wO C mo (evm kp (nI n) tw (nI i) (nI (flN i n)) (nI j)) v o ++ ([(mo 4, .inl (C.2.1, 60, .inl (fun k => nI (cd k)))), (mo 5, .inl (C.2.1, 84, .inl td))] : va_W)) H := hP
  have hD : va_D (q_A (wO C mo (evm kp (nI n) tw (nI i) fl (nI j)) v o ++ ([(mo 4, .inl (C.2.1, 60, .inl (fun k => nI (cd k)))), (mo 5, .inl (C.2.1, 84, .inl td))] : va_W)) s) (wO C mo (evm kp (nI n) tw (nI i) (nI (flN i n)) (nI j)) v o ++ ([(mo 4, .inl (C.2.1, 60, .inl (fun k => nI (cd k)))), (mo 5, .inl (C.2.1, 84, .inl td))] : va_W)) := hD
  refine W.eq (g2 := F0 m 13 ls [.int (nI 0)]) rfl ?_
  exact q_zret hx hb hr hlocks rfl (w1 := wO C mo (evm kp (nI n) tw (nI i) (nI (flN i n)) (nI j)) v o ++ ([(mo 4, .inl (C.2.1, 60, .inl (fun k => nI (cd k)))), (mo 5, .inl (C.2.1, 84, .inl td))] : va_W)) hP hS rfl dX5_isSign_13 (⟨rfl, rfl⟩)
set_option maxHeartbeats 4000000 in
set_option maxRecDepth 100000 in
theorem c_X5_isGift (l : Launch) (C : q_C) (mo : Nat → Nat) (kp tw fl : Int32) (v o : Nat → Nat) (n i j : Nat) (cd : Nat → Nat) (td : Nat → Int32) (hn : n ≤ 60) (hcd : ∀ k, k < n → cd k < 2 ^ 31) (hj : 6 * j + 2 < 84) (h1 : i < n) (h2 : 48 ≤ cd i) (h3 : cd i ≤ 57) (hs3 : stg cd i = 3) : q_M C l yX5_isGift wsX5_isGift 3 68 [.ref (mo 0)] (wO C mo (evm kp (nI n) tw (nI i) fl (nI j)) v o ++ ([(mo 4, .inl (C.2.1, 60, .inl (fun k => nI (cd k)))), (mo 5, .inl (C.2.1, 84, .inl td))] : va_W)) (fun r w => ∃ i1 g td1, r = some (.int (nI 1)) ∧ w = wO C mo (evm kp (nI n) tw (nI i1) fl (nI j)) v o ++ ([(mo 4, .inl (C.2.1, 60, .inl (fun k => nI (cd k)))), (mo 5, .inl (C.2.1, 84, .inl td1))] : va_W) ∧ giOk cd n i i1 g ∧ td1 (6 * j + 2) = nI g ∧ ∀ k, k ≠ 6 * j + 2 → td1 k = td k) := by
  refine q_head (cc := cX5_isGift) (maxL := 2) (ret := (some .boolean)) (by decide +kernel) rfl (Nat.le_of_ble_eq_true rfl) ?_
  intro p e s m below meth c hx hb hr hlocks hml hown hts hK hP hD hS hA ls hl
  have hl : lv_has ls 2 [(0, .ref (mo 0))] := hl
  have hf153 := hts (.fieldLink RX5 153 "RestedArmsModel" "at" "I") (by decide +kernel)
  have hf167 := hts (.fieldLink RX5 167 "RestedArmsModel" "tolds" "I") (by decide +kernel)
  have hf19 := hts (.fieldLink RX5 19 "RestedArmsModel" "text" "[I") (by decide +kernel)
  have hf23 := hts (.fieldLink RX5 23 "RestedArmsModel" "told" "[I") (by decide +kernel)
  have hin5 : ∀ w ∈ u_ws RX5 TX5 13, w ∈ wsX5_isGift := by decide +kernel
  refine lv_aload_n hx hb dX5_isGift_0 rfl (lv_at hl 0 rfl) ?_
  refine lv_iconst (v := nI 2) hx hb dX5_isGift_1 (by decide) ?_
  refine lv_bipush (v := nI 48) hx hb dX5_isGift_2 (by decide) ?_
  refine lv_bipush (v := nI 57) hx hb dX5_isGift_4 (by decide) ?_
  refine q_V (As := [.int (nI 2), .int (nI 48), .int (nI 57)]) (rest := []) ⟨hx, hb, hml, hown, hts⟩ (c_X5_isSign l C mo kp tw fl v o n i j cd td 2 48 57 (by omega) hcd (by omega) (by omega) (by omega) (by omega) (by omega) (by omega)) (cwV 3 hts gX5_isGift_X5_isSign rfl rfl rfl (by decide +kernel) ⟨Nat.le_of_ble_eq_true rfl, Nat.le_of_ble_eq_true rfl⟩) hK hP hD hS hA [0, 1, 2, 3, 4] (by decide) rfl 0 rfl rfl rfl rfl hl.1 rfl (Nat.le_of_ble_eq_true rfl) dX5_isGift_6 (Nat.zero_le _) (Nat.zero_le _) (fun r w1 H locs hQ hP hD hS => ?_)
  obtain ⟨rfl, rfl⟩ := hQ
  have hP : va_P C.1 vwCl (wO C mo (evm kp (nI n) tw (nI (i + 1)) fl (nI j)) v o ++ ([(mo 4, .inl (C.2.1, 60, .inl (fun k => nI (cd k)))), (mo 5, .inl (C.2.1, 84, .inl (upd td (6 * j + 2) (nI (cd i - 48)))))] : va_W)) H := hP
  have hD : va_D (q_A (wO C mo (evm kp (nI n) tw (nI i) fl (nI j)) v o ++ ([(mo 4, .inl (C.2.1, 60, .inl (fun k => nI (cd k)))), (mo 5, .inl (C.2.1, 84, .inl td))] : va_W)) s) (wO C mo (evm kp (nI n) tw (nI (i + 1)) fl (nI j)) v o ++ ([(mo 4, .inl (C.2.1, 60, .inl (fun k => nI (cd k)))), (mo 5, .inl (C.2.1, 84, .inl (upd td (6 * j + 2) (nI (cd i - 48)))))] : va_W)) := hD
  refine W.eq (g2 := F0 m 9 ls [.int (nI 1)]) rfl ?_
  refine lv_if_ne (tgt := 14) hx hb dX5_isGift_9 (by decide) (fun _ => ?_) (fun c => absurd c (by decide))
  refine lv_aload_n hx hb dX5_isGift_14 rfl (lv_at hl 0 rfl) ?_
  refine va_get (ci := 5) (v := .ref (mo 5)) (C := RX5) (T := TX5) (N := 13) hx hb hts hin5 hown hK.1 hP 0 rfl rfl 9 (by decide) hf23 (fun _ h9 => h9) rfl dX5_isGift_15 ?_
  refine lv_bipush (v := nI 6) hx hb dX5_isGift_18 (by decide) ?_
  refine lv_aload_n hx hb dX5_isGift_20 rfl (lv_at hl 0 rfl) ?_
  refine va_get (ci := 5) (v := .int (nI j)) (C := RX5) (T := TX5) (N := 13) hx hb hts hin5 hown hK.1 hP 0 rfl rfl 10 (by decide) hf167 (fun _ h9 => h9) rfl dX5_isGift_21 ?_
  refine lv_imul hx hb dX5_isGift_24 ?_
  refine q_ti (y := nI (6 * j)) (pk_mul _ _) ?_
  refine lv_iconst (v := nI 2) hx hb dX5_isGift_25 (by decide) ?_
  refine lv_iadd hx hb dX5_isGift_26 ?_
  refine q_ti (y := nI ((6 * j) + 2)) (nI_add _ _) ?_
  refine q_iald (n := ((6 * j) + 2)) (v := (upd td (6 * j + 2) (nI (cd i - 48))) ((6 * j) + 2)) hx hb hK hP 4 rfl (by omega) (by decide) rfl dX5_isGift_27 ?_
  refine q_ti (y := nI (cd i - 48)) pk_us ?_
  refine lv_istore_n (lv' := [(1, .int (nI (cd i - 48))), (0, .ref (mo 0))]) hx hb dX5_isGift_28 rfl hl (by decide) rfl (fun ls hl => ?_)
  refine lv_iload_n hx hb dX5_isGift_29 rfl (lv_at hl 0 rfl) ?_
  refine lv_if_le (tgt := 85) hx hb dX5_isGift_30 (by decide) (fun c30 => ?_) (fun c30 => ?_)
  · have c30 : (cd i - 48) ≤ 0 := q_nle0 (by omega) (by omega) c30
    refine lv_iconst (v := nI 1) hx hb dX5_isGift_85 (by decide) ?_
    exact q_zret hx hb hr hlocks rfl (w1 := wO C mo (evm kp (nI n) tw (nI (i + 1)) fl (nI j)) v o ++ ([(mo 4, .inl (C.2.1, 60, .inl (fun k => nI (cd k)))), (mo 5, .inl (C.2.1, 84, .inl (upd td (6 * j + 2) (nI (cd i - 48)))))] : va_W)) hP hS rfl dX5_isGift_86 (⟨_, _, _, rfl, rfl, giOk_1 hs3 h1 h2 h3 (Or.inl (by omega)), pk_us, fun k hk => pk_un hk⟩)
  · have c30 : 0 < (cd i - 48) := q_nle0' (by omega) (by omega) c30
    refine lv_aload_n hx hb dX5_isGift_33 rfl (lv_at hl 1 rfl) ?_
    refine lv_bipush (v := nI 48) hx hb dX5_isGift_34 (by decide) ?_
    refine lv_bipush (v := nI 57) hx hb dX5_isGift_36 (by decide) ?_
    by_cases hs38 : i + 1 < n ∧ 48 ≤ cd (i + 1) ∧ cd (i + 1) ≤ 57
    · skip
      obtain ⟨hs38a, hs38b, hs38c⟩ := hs38
      refine q_V (As := [.int (nI 48), .int (nI 57)]) (rest := []) ⟨hx, hb, hml, hown, hts⟩ (c1_X5_isAt l C mo kp tw fl (nI j) v o n (i + 1) cd 48 57 (by omega) hcd (by omega) (by omega) (by omega) ⟨by omega, by omega, by omega⟩) (cwV 2 hts gX5_isGift_X5_isAt rfl rfl rfl (by decide +kernel) ⟨Nat.le_of_ble_eq_true rfl, Nat.le_of_ble_eq_true rfl⟩) hK hP hD hS hA [0, 1, 2, 3] (by decide) rfl 0 rfl rfl rfl rfl hl.1 rfl (Nat.le_of_ble_eq_true rfl) dX5_isGift_38 (Nat.zero_le _) (Nat.zero_le _) (fun r w1 H locs hQ hP hD hS => ?_)
      obtain ⟨rfl, rfl⟩ := hQ
      have hP : va_P C.1 vwCl (wO C mo (evm kp (nI n) tw (nI (i + 1)) fl (nI j)) v o ++ ([(mo 4, .inl (C.2.1, 60, .inl (fun k => nI (cd k)))), (mo 5, .inl (C.2.1, 84, .inl (upd td (6 * j + 2) (nI (cd i - 48)))))] : va_W)) H := hP
      have hD : va_D (q_A (wO C mo (evm kp (nI n) tw (nI i) fl (nI j)) v o ++ ([(mo 4, .inl (C.2.1, 60, .inl (fun k => nI (cd k)))), (mo 5, .inl (C.2.1, 84, .inl td))] : va_W)) s) (wO C mo (evm kp (nI n) tw (nI (i + 1)) fl (nI j)) v o ++ ([(mo 4, .inl (C.2.1, 60, .inl (fun k => nI (cd k)))), (mo 5, .inl (C.2.1, 84, .inl (upd td (6 * j + 2) (nI (cd i - 48)))))] : va_W)) := hD
      refine W.eq (g2 := F0 m 41 ls [.int (nI 1)]) rfl ?_
      refine lv_if_eq (tgt := 85) hx hb dX5_isGift_41 (by decide) (fun c => absurd c (by decide)) (fun _ => ?_)
      refine lv_aload_n hx hb dX5_isGift_44 rfl (lv_at hl 1 rfl) ?_
      refine va_get (ci := 5) (v := .ref (mo 5)) (C := RX5) (T := TX5) (N := 13) hx hb hts hin5 hown hK.1 hP 0 rfl rfl 9 (by decide) hf23 (fun _ h9 => h9) rfl dX5_isGift_45 ?_
      refine lv_bipush (v := nI 6) hx hb dX5_isGift_48 (by decide) ?_
      refine lv_aload_n hx hb dX5_isGift_50 rfl (lv_at hl 1 rfl) ?_
      refine va_get (ci := 5) (v := .int (nI j)) (C := RX5) (T := TX5) (N := 13) hx hb hts hin5 hown hK.1 hP 0 rfl rfl 10 (by decide) hf167 (fun _ h9 => h9) rfl dX5_isGift_51 ?_
      refine lv_imul hx hb dX5_isGift_54 ?_
      refine q_ti (y := nI (6 * j)) (pk_mul _ _) ?_
      refine lv_iconst (v := nI 2) hx hb dX5_isGift_55 (by decide) ?_
      refine lv_iadd hx hb dX5_isGift_56 ?_
      refine q_ti (y := nI ((6 * j) + 2)) (nI_add _ _) ?_
      refine lv_bipush (v := nI 10) hx hb dX5_isGift_57 (by decide) ?_
      refine lv_iload_n hx hb dX5_isGift_59 rfl (lv_at hl 0 rfl) ?_
      refine lv_imul hx hb dX5_isGift_60 ?_
      refine q_ti (y := nI (10 * (cd i - 48))) (pk_mul _ _) ?_
      refine lv_aload_n hx hb dX5_isGift_61 rfl (lv_at hl 1 rfl) ?_
      refine va_get (ci := 5) (v := .ref (mo 4)) (C := RX5) (T := TX5) (N := 13) hx hb hts hin5 hown hK.1 hP 0 rfl rfl 4 (by decide) hf19 (fun _ h9 => h9) rfl dX5_isGift_62 ?_
      refine lv_aload_n hx hb dX5_isGift_65 rfl (lv_at hl 1 rfl) ?_
      refine va_get (ci := 5) (v := .int (nI (i + 1))) (C := RX5) (T := TX5) (N := 13) hx hb hts hin5 hown hK.1 hP 0 rfl rfl 7 (by decide) hf153 (fun _ h9 => h9) rfl dX5_isGift_66 ?_
      refine q_iald (n := (i + 1)) (v := nI (cd (i + 1))) hx hb hK hP 3 rfl (by omega) (by decide) rfl dX5_isGift_69 ?_
      refine lv_iadd hx hb dX5_isGift_70 ?_
      refine q_ti (y := nI ((10 * (cd i - 48)) + (cd (i + 1)))) (nI_add _ _) ?_
      refine lv_bipush (v := nI 48) hx hb dX5_isGift_71 (by decide) ?_
      refine lv_isub hx hb dX5_isGift_73 ?_
      refine q_ti (y := nI (((10 * (cd i - 48)) + (cd (i + 1))) - 48)) (pk_sub (by omega)) ?_
      refine q_iast (n := ((6 * j) + 2)) hx hb hK hP hD hS 4 rfl (by omega) (by decide) dX5_isGift_74 (fun H locs hP hD hS => ?_)
      have hP : va_P C.1 vwCl (wO C mo (evm kp (nI n) tw (nI (i + 1)) fl (nI j)) v o ++ ([(mo 4, .inl (C.2.1, 60, .inl (fun k => nI (cd k)))), (mo 5, .inl (C.2.1, 84, .inl (upd (upd td (6 * j + 2) (nI (cd i - 48))) ((6 * j) + 2) (nI (((10 * (cd i - 48)) + (cd (i + 1))) - 48)))))] : va_W)) H := hP
      have hD : va_D (q_A (wO C mo (evm kp (nI n) tw (nI i) fl (nI j)) v o ++ ([(mo 4, .inl (C.2.1, 60, .inl (fun k => nI (cd k)))), (mo 5, .inl (C.2.1, 84, .inl td))] : va_W)) s) (wO C mo (evm kp (nI n) tw (nI (i + 1)) fl (nI j)) v o ++ ([(mo 4, .inl (C.2.1, 60, .inl (fun k => nI (cd k)))), (mo 5, .inl (C.2.1, 84, .inl (upd (upd td (6 * j + 2) (nI (cd i - 48))) ((6 * j) + 2) (nI (((10 * (cd i - 48)) + (cd (i + 1))) - 48)))))] : va_W)) := hD
      refine lv_aload_n hx hb dX5_isGift_75 rfl (lv_at hl 1 rfl) ?_
      refine lv_dup hx hb dX5_isGift_76 rfl ?_
      refine va_get (ci := 5) (v := .int (nI (i + 1))) (C := RX5) (T := TX5) (N := 13) hx hb hts hin5 hown hK.1 hP 0 rfl rfl 7 (by decide) hf153 (fun _ h9 => h9) rfl dX5_isGift_77 ?_
      refine lv_iconst (v := nI 1) hx hb dX5_isGift_80 (by decide) ?_
      refine lv_iadd hx hb dX5_isGift_81 ?_
      refine q_ti (y := nI ((i + 1) + 1)) (nI_add _ _) ?_
      refine va_put (ci := 5) (v := .int (nI ((i + 1) + 1))) (ty := .int) (C := RX5) (T := TX5) (N := 13) hx hb hts hin5 tyX5 tyX5_ok nmX5 hown hK.1 hP hD hS 0 rfl rfl 7 (by decide) hf153 (fun _ h9 => h9) rfl (by decide +kernel) rfl rfl (Nat.le_of_ble_eq_true rfl) dX5_isGift_82 (fun H locs hP hD hS => ?_)
      have hP : va_P C.1 vwCl (wO C mo (evm kp (nI n) tw (nI ((i + 1) + 1)) fl (nI j)) v o ++ ([(mo 4, .inl (C.2.1, 60, .inl (fun k => nI (cd k)))), (mo 5, .inl (C.2.1, 84, .inl (upd (upd td (6 * j + 2) (nI (cd i - 48))) ((6 * j) + 2) (nI (((10 * (cd i - 48)) + (cd (i + 1))) - 48)))))] : va_W)) H := hP
      have hD : va_D (q_A (wO C mo (evm kp (nI n) tw (nI i) fl (nI j)) v o ++ ([(mo 4, .inl (C.2.1, 60, .inl (fun k => nI (cd k)))), (mo 5, .inl (C.2.1, 84, .inl td))] : va_W)) s) (wO C mo (evm kp (nI n) tw (nI ((i + 1) + 1)) fl (nI j)) v o ++ ([(mo 4, .inl (C.2.1, 60, .inl (fun k => nI (cd k)))), (mo 5, .inl (C.2.1, 84, .inl (upd (upd td (6 * j + 2) (nI (cd i - 48))) ((6 * j) + 2) (nI (((10 * (cd i - 48)) + (cd (i + 1))) - 48)))))] : va_W)) := hD
      refine lv_iconst (v := nI 1) hx hb dX5_isGift_85 (by decide) ?_
      exact q_zret hx hb hr hlocks rfl (w1 := wO C mo (evm kp (nI n) tw (nI ((i + 1) + 1)) fl (nI j)) v o ++ ([(mo 4, .inl (C.2.1, 60, .inl (fun k => nI (cd k)))), (mo 5, .inl (C.2.1, 84, .inl (upd (upd td (6 * j + 2) (nI (cd i - 48))) ((6 * j) + 2) (nI (((10 * (cd i - 48)) + (cd (i + 1))) - 48)))))] : va_W)) hP hS rfl dX5_isGift_86 (⟨_, _, _, rfl, rfl, giOk_2 hs3 (by omega) h3 hs38a hs38b hs38c, pk_us, fun k hk => (pk_un hk).trans (pk_un hk)⟩)
    · skip
      refine q_V (As := [.int (nI 48), .int (nI 57)]) (rest := []) ⟨hx, hb, hml, hown, hts⟩ (c0_X5_isAt l C mo kp tw fl (nI j) v o n (i + 1) cd 48 57 (by omega) hcd (by omega) (by omega) (by omega) hs38) (cwV 2 hts gX5_isGift_X5_isAt rfl rfl rfl (by decide +kernel) ⟨Nat.le_of_ble_eq_true rfl, Nat.le_of_ble_eq_true rfl⟩) hK hP hD hS hA [0, 1, 2, 3] (by decide) rfl 0 rfl rfl rfl rfl hl.1 rfl (Nat.le_of_ble_eq_true rfl) dX5_isGift_38 (Nat.zero_le _) (Nat.zero_le _) (fun r w1 H locs hQ hP hD hS => ?_)
      obtain ⟨rfl, rfl⟩ := hQ
      have hP : va_P C.1 vwCl (wO C mo (evm kp (nI n) tw (nI (i + 1)) fl (nI j)) v o ++ ([(mo 4, .inl (C.2.1, 60, .inl (fun k => nI (cd k)))), (mo 5, .inl (C.2.1, 84, .inl (upd td (6 * j + 2) (nI (cd i - 48)))))] : va_W)) H := hP
      have hD : va_D (q_A (wO C mo (evm kp (nI n) tw (nI i) fl (nI j)) v o ++ ([(mo 4, .inl (C.2.1, 60, .inl (fun k => nI (cd k)))), (mo 5, .inl (C.2.1, 84, .inl td))] : va_W)) s) (wO C mo (evm kp (nI n) tw (nI (i + 1)) fl (nI j)) v o ++ ([(mo 4, .inl (C.2.1, 60, .inl (fun k => nI (cd k)))), (mo 5, .inl (C.2.1, 84, .inl (upd td (6 * j + 2) (nI (cd i - 48)))))] : va_W)) := hD
      refine W.eq (g2 := F0 m 41 ls [.int (nI 0)]) rfl ?_
      refine lv_if_eq (tgt := 85) hx hb dX5_isGift_41 (by decide) (fun _ => ?_) (fun c => absurd (by decide) c)
      refine lv_iconst (v := nI 1) hx hb dX5_isGift_85 (by decide) ?_
      exact q_zret hx hb hr hlocks rfl (w1 := wO C mo (evm kp (nI n) tw (nI (i + 1)) fl (nI j)) v o ++ ([(mo 4, .inl (C.2.1, 60, .inl (fun k => nI (cd k)))), (mo 5, .inl (C.2.1, 84, .inl (upd td (6 * j + 2) (nI (cd i - 48)))))] : va_W)) hP hS rfl dX5_isGift_86 (⟨_, _, _, rfl, rfl, giOk_1 hs3 h1 h2 h3 (Or.inr hs38), pk_us, fun k hk => pk_un hk⟩)
set_option maxHeartbeats 4000000 in
set_option maxRecDepth 100000 in
theorem c0_X5_isGift (l : Launch) (C : q_C) (mo : Nat → Nat) (kp tw fl : Int32) (v o : Nat → Nat) (n i j : Nat) (cd : Nat → Nat) (td : Nat → Int32) (hn : n ≤ 60) (hcd : ∀ k, k < n → cd k < 2 ^ 31) (hi9 : i ≤ 60) (hnb : ¬ (i < n ∧ 48 ≤ cd i ∧ cd i ≤ 57)) : q_M C l yX5_isGift wsX5_isGift 3 68 [.ref (mo 0)] (wO C mo (evm kp (nI n) tw (nI i) fl (nI j)) v o ++ ([(mo 4, .inl (C.2.1, 60, .inl (fun k => nI (cd k)))), (mo 5, .inl (C.2.1, 84, .inl td))] : va_W)) (fun r w => r = some (.int (nI 0)) ∧ w = wO C mo (evm kp (nI n) tw (nI i) (nI (flN i n)) (nI j)) v o ++ ([(mo 4, .inl (C.2.1, 60, .inl (fun k => nI (cd k)))), (mo 5, .inl (C.2.1, 84, .inl td))] : va_W)) := by
  refine q_head (cc := cX5_isGift) (maxL := 2) (ret := (some .boolean)) (by decide +kernel) rfl (Nat.le_of_ble_eq_true rfl) ?_
  intro p e s m below meth c hx hb hr hlocks hml hown hts hK hP hD hS hA ls hl
  have hl : lv_has ls 2 [(0, .ref (mo 0))] := hl
  refine lv_aload_n hx hb dX5_isGift_0 rfl (lv_at hl 0 rfl) ?_
  refine lv_iconst (v := nI 2) hx hb dX5_isGift_1 (by decide) ?_
  refine lv_bipush (v := nI 48) hx hb dX5_isGift_2 (by decide) ?_
  refine lv_bipush (v := nI 57) hx hb dX5_isGift_4 (by decide) ?_
  refine q_V (As := [.int (nI 2), .int (nI 48), .int (nI 57)]) (rest := []) ⟨hx, hb, hml, hown, hts⟩ (c0_X5_isSign l C mo kp tw fl v o n i j cd td 2 48 57 (by omega) hcd (by omega) (by omega) (by omega) hnb) (cwV 3 hts gX5_isGift_X5_isSign rfl rfl rfl (by decide +kernel) ⟨Nat.le_of_ble_eq_true rfl, Nat.le_of_ble_eq_true rfl⟩) hK hP hD hS hA [0, 1, 2, 3, 4] (by decide) rfl 0 rfl rfl rfl rfl hl.1 rfl (Nat.le_of_ble_eq_true rfl) dX5_isGift_6 (Nat.zero_le _) (Nat.zero_le _) (fun r w1 H locs hQ hP hD hS => ?_)
  obtain ⟨rfl, rfl⟩ := hQ
  have hP : va_P C.1 vwCl (wO C mo (evm kp (nI n) tw (nI i) (nI (flN i n)) (nI j)) v o ++ ([(mo 4, .inl (C.2.1, 60, .inl (fun k => nI (cd k)))), (mo 5, .inl (C.2.1, 84, .inl td))] : va_W)) H := hP
  have hD : va_D (q_A (wO C mo (evm kp (nI n) tw (nI i) fl (nI j)) v o ++ ([(mo 4, .inl (C.2.1, 60, .inl (fun k => nI (cd k)))), (mo 5, .inl (C.2.1, 84, .inl td))] : va_W)) s) (wO C mo (evm kp (nI n) tw (nI i) (nI (flN i n)) (nI j)) v o ++ ([(mo 4, .inl (C.2.1, 60, .inl (fun k => nI (cd k)))), (mo 5, .inl (C.2.1, 84, .inl td))] : va_W)) := hD
  refine W.eq (g2 := F0 m 9 ls [.int (nI 0)]) rfl ?_
  refine lv_if_ne (tgt := 14) hx hb dX5_isGift_9 (by decide) (fun c => absurd c (by decide)) (fun _ => ?_)
  refine lv_iconst (v := nI 0) hx hb dX5_isGift_12 (by decide) ?_
  exact q_zret hx hb hr hlocks rfl (w1 := wO C mo (evm kp (nI n) tw (nI i) (nI (flN i n)) (nI j)) v o ++ ([(mo 4, .inl (C.2.1, 60, .inl (fun k => nI (cd k)))), (mo 5, .inl (C.2.1, 84, .inl td))] : va_W)) hP hS rfl dX5_isGift_13 (⟨rfl, rfl⟩)
