/-! the law's wrappers, more of them -/
set_option maxHeartbeats 4000000 in
set_option maxRecDepth 100000 in
theorem W_count (l : Launch) (C : q_C) (x : Nat) (nw tr hq iq tt : Nat → Nat) (sc : Nat) (z : Nat → Int) (b : Bd) (ba : Nat → Nat → Nat) (r n kx : Nat) (b2 : Bd) (ph : Nat → Bd) (t : Nat → Nat) (f : Nat → Nat) (v : Nat → Nat) (o : Nat → Nat) (y : Nat) (cd : Nat → Nat) (ou : Nat) (x0 : Int64) (hk : kx < 4) : q_ME C l yL_count wsL_count 3 64 [.ref x, .int (nI kx), .ref ou] (List.flatten [wU C ou x0, wF C x nw tr hq iq tt sc ba z b b2 ph r n t f v o y cd]) (fun r2 w => r2 = some (.int (nI 0)) ∧ w = List.flatten [wU C ou ((cnI b n kx).toInt64), wF C x nw tr hq iq tt sc ba z b b2 ph r n t f v o y cd]) := by
  refine q_headW (cc := cL_count) (maxL := 4) (ret := (some .int)) (by decide +kernel) rfl (Nat.le_of_ble_eq_true rfl) ?_
  intro p e s m below meth c hx hb hr hlocks hml hown hts hK hV hE hP hD hS hA htab ls hl
  have hl : lv_has ls 4 [(0, .ref x), (1, .int (nI kx)), (2, .ref ou)] := hl
  refine lv_aload_n hx hb dL_count_0 rfl (lv_at hl 2 rfl) ?_
  refine lv_iconst (v := nI 0) hx hb dL_count_1 (by decide) ?_
  refine lv_aload_n hx hb dL_count_2 rfl (lv_at hl 0 rfl) ?_
  refine lv_iload_n hx hb dL_count_3 rfl (lv_at hl 1 rfl) ?_
  refine q_VBE (Bs := [wU C ou x0, wF C x nw tr hq iq tt sc ba z b b2 ph r n t f v o y cd]) (cs := [wF C x nw tr hq iq tt sc ba z b b2 ph r n t f v o y cd]) (As := [.int (nI kx)]) (rest := [.int (nI 0), .ref ou]) ⟨hx, hb, hml, hown, hts⟩ (F_count l C x nw tr hq iq tt sc z b ba r n kx b2 ph t f v o y cd hk).one (cwV 1 hts gL_count_X4_count rfl rfl rfl (by decide +kernel) ⟨Nat.le_of_ble_eq_true rfl, Nat.le_of_ble_eq_true rfl⟩) hK hV hE hP hD hS hA [1] (by decide) rfl 1 rfl rfl rfl rfl hl.1 rfl (Nat.le_of_ble_eq_true rfl) dL_count_4 (Nat.zero_le _) (Nat.zero_le _) (fun r w1 H locs hQ hF hS => ?_)
  obtain ⟨rfl, rfl⟩ := hQ
  obtain ⟨hP, hD⟩ := hF [wF C x nw tr hq iq tt sc ba z b b2 ph r n t f v o y cd] (flat_one _).symm rfl
  have hP : va_P C.1 vwCl (List.flatten [wU C ou x0, wF C x nw tr hq iq tt sc ba z b b2 ph r n t f v o y cd]) H := hP
  have hD : va_D (q_A (List.flatten [wU C ou x0, wF C x nw tr hq iq tt sc ba z b b2 ph r n t f v o y cd]) s) (List.flatten [wU C ou x0, wF C x nw tr hq iq tt sc ba z b b2 ph r n t f v o y cd]) := hD
  refine W.eq (g2 := F0 m 7 ls [.int (cnI b n kx), .int (nI 0), .ref ou]) rfl ?_
  refine lv_i2l (v := (cnI b n kx).toInt64) hx hb dL_count_7 rfl ?_
  refine q_last (n := 0) hx hb hK hP hD hS 0 rfl (by decide) (by decide) dL_count_8 (fun H locs hP hD hS => ?_)
  have hP := q_swpL (g := fun _ => (cnI b n kx).toInt64) hP 0 rfl (fun k hk => by rw [show k = 0 by omega]; exact pk_uLs)
  have hD := hD.set (p := 0) (a := ou) (e := .inl (C.2.2.1, 1, .inr (.inl (fun _ => (cnI b n kx).toInt64)))) rfl
  have hP : va_P C.1 vwCl (List.flatten [wU C ou ((cnI b n kx).toInt64), wF C x nw tr hq iq tt sc ba z b b2 ph r n t f v o y cd]) H := hP
  have hD : va_D (q_A (List.flatten [wU C ou x0, wF C x nw tr hq iq tt sc ba z b b2 ph r n t f v o y cd]) s) (List.flatten [wU C ou ((cnI b n kx).toInt64), wF C x nw tr hq iq tt sc ba z b b2 ph r n t f v o y cd]) := hD
  refine lv_goto (tgt := 15) hx hb dL_count_9 (by decide) ?_
  refine lv_iconst (v := nI 0) hx hb dL_count_15 (by decide) ?_
  exact q_iret hx hb hr hlocks (w1 := List.flatten [wU C ou ((cnI b n kx).toInt64), wF C x nw tr hq iq tt sc ba z b b2 ph r n t f v o y cd]) hP hS rfl dL_count_16 (⟨rfl, rfl⟩)
set_option maxHeartbeats 4000000 in
set_option maxRecDepth 100000 in
theorem W_sum (l : Launch) (C : q_C) (x : Nat) (nw tr hq iq tt : Nat → Nat) (sc : Nat) (z : Nat → Int) (b : Bd) (kx : Nat) (ba : Nat → Nat → Nat) (b2 : Bd) (r : Nat) (n : Nat) (ph : Nat → Bd) (t : Nat → Nat) (f : Nat → Nat) (v : Nat → Nat) (o : Nat → Nat) (y : Nat) (cd : Nat → Nat) (ou : Nat) (x0 : Int64) (hk : kx < 3) : q_ME C l yL_sum wsL_sum 1 21 [.ref x, .int (nI kx), .ref ou] (List.flatten [wU C ou x0, wF C x nw tr hq iq tt sc ba z b b2 ph r n t f v o y cd]) (fun r2 w => r2 = some (.int (nI 0)) ∧ w = List.flatten [wU C ou (suL b kx), wF C x nw tr hq iq tt sc ba z b b2 ph r n t f v o y cd]) := by
  refine q_headW (cc := cL_sum) (maxL := 4) (ret := (some .int)) (by decide +kernel) rfl (Nat.le_of_ble_eq_true rfl) ?_
  intro p e s m below meth c hx hb hr hlocks hml hown hts hK hV hE hP hD hS hA htab ls hl
  have hl : lv_has ls 4 [(0, .ref x), (1, .int (nI kx)), (2, .ref ou)] := hl
  refine lv_aload_n hx hb dL_sum_0 rfl (lv_at hl 2 rfl) ?_
  refine lv_iconst (v := nI 0) hx hb dL_sum_1 (by decide) ?_
  refine lv_aload_n hx hb dL_sum_2 rfl (lv_at hl 0 rfl) ?_
  refine lv_iload_n hx hb dL_sum_3 rfl (lv_at hl 1 rfl) ?_
  refine q_VBE (Bs := [wU C ou x0, wF C x nw tr hq iq tt sc ba z b b2 ph r n t f v o y cd]) (cs := [wF C x nw tr hq iq tt sc ba z b b2 ph r n t f v o y cd]) (As := [.int (nI kx)]) (rest := [.int (nI 0), .ref ou]) ⟨hx, hb, hml, hown, hts⟩ (F_sum l C x nw tr hq iq tt sc z b kx ba b2 r n ph t f v o y cd hk).one (cwV 1 hts gL_sum_X4_sum rfl rfl rfl (by decide +kernel) ⟨Nat.le_of_ble_eq_true rfl, Nat.le_of_ble_eq_true rfl⟩) hK hV hE hP hD hS hA [1] (by decide) rfl 1 rfl rfl rfl rfl hl.1 rfl (Nat.le_of_ble_eq_true rfl) dL_sum_4 (Nat.zero_le _) (Nat.zero_le _) (fun r w1 H locs hQ hF hS => ?_)
  obtain ⟨rfl, rfl⟩ := hQ
  obtain ⟨hP, hD⟩ := hF [wF C x nw tr hq iq tt sc ba z b b2 ph r n t f v o y cd] (flat_one _).symm rfl
  have hP : va_P C.1 vwCl (List.flatten [wU C ou x0, wF C x nw tr hq iq tt sc ba z b b2 ph r n t f v o y cd]) H := hP
  have hD : va_D (q_A (List.flatten [wU C ou x0, wF C x nw tr hq iq tt sc ba z b b2 ph r n t f v o y cd]) s) (List.flatten [wU C ou x0, wF C x nw tr hq iq tt sc ba z b b2 ph r n t f v o y cd]) := hD
  refine W.eq (g2 := F0 m 7 ls [.long (suL b kx), .int (nI 0), .ref ou]) rfl ?_
  refine q_last (n := 0) hx hb hK hP hD hS 0 rfl (by decide) (by decide) dL_sum_7 (fun H locs hP hD hS => ?_)
  have hP := q_swpL (g := fun _ => suL b kx) hP 0 rfl (fun k hk => by rw [show k = 0 by omega]; exact pk_uLs)
  have hD := hD.set (p := 0) (a := ou) (e := .inl (C.2.2.1, 1, .inr (.inl (fun _ => suL b kx)))) rfl
  have hP : va_P C.1 vwCl (List.flatten [wU C ou (suL b kx), wF C x nw tr hq iq tt sc ba z b b2 ph r n t f v o y cd]) H := hP
  have hD : va_D (q_A (List.flatten [wU C ou x0, wF C x nw tr hq iq tt sc ba z b b2 ph r n t f v o y cd]) s) (List.flatten [wU C ou (suL b kx), wF C x nw tr hq iq tt sc ba z b b2 ph r n t f v o y cd]) := hD
  refine lv_goto (tgt := 14) hx hb dL_sum_8 (by decide) ?_
  refine lv_iconst (v := nI 0) hx hb dL_sum_14 (by decide) ?_
  exact q_iret hx hb hr hlocks (w1 := List.flatten [wU C ou (suL b kx), wF C x nw tr hq iq tt sc ba z b b2 ph r n t f v o y cd]) hP hS rfl dL_sum_15 (⟨rfl, rfl⟩)
set_option maxHeartbeats 4000000 in
set_option maxRecDepth 100000 in
theorem W_setting (l : Launch) (C : q_C) (x : Nat) (nw tr hq iq tt : Nat → Nat) (sc : Nat) (z : Nat → Int) (b : Bd) (kx : Nat) (ba : Nat → Nat → Nat) (b2 : Bd) (r : Nat) (n : Nat) (ph : Nat → Bd) (t : Nat → Nat) (f : Nat → Nat) (v : Nat → Nat) (o : Nat → Nat) (y : Nat) (cd : Nat → Nat) (ou : Nat) (x0 : Int64) (hk : kx < 4) : q_ME C l yL_setting wsL_setting 3 63 [.ref x, .int (nI kx), .ref ou] (List.flatten [wU C ou x0, wF C x nw tr hq iq tt sc ba z b b2 ph r n t f v o y cd]) (fun r2 w => r2 = some (.int (nI 0)) ∧ w = List.flatten [wU C ou ((nI (bs b kx)).toInt64), wF C x nw tr hq iq tt sc ba z b b2 ph r n t f v o y cd]) := by
  refine q_headW (cc := cL_setting) (maxL := 4) (ret := (some .int)) (by decide +kernel) rfl (Nat.le_of_ble_eq_true rfl) ?_
  intro p e s m below meth c hx hb hr hlocks hml hown hts hK hV hE hP hD hS hA htab ls hl
  have hl : lv_has ls 4 [(0, .ref x), (1, .int (nI kx)), (2, .ref ou)] := hl
  refine lv_aload_n hx hb dL_setting_0 rfl (lv_at hl 2 rfl) ?_
  refine lv_iconst (v := nI 0) hx hb dL_setting_1 (by decide) ?_
  refine lv_aload_n hx hb dL_setting_2 rfl (lv_at hl 0 rfl) ?_
  refine lv_iload_n hx hb dL_setting_3 rfl (lv_at hl 1 rfl) ?_
  refine q_VBE (Bs := [wU C ou x0, wF C x nw tr hq iq tt sc ba z b b2 ph r n t f v o y cd]) (cs := [wF C x nw tr hq iq tt sc ba z b b2 ph r n t f v o y cd]) (As := [.int (nI kx)]) (rest := [.int (nI 0), .ref ou]) ⟨hx, hb, hml, hown, hts⟩ (F_setting l C x nw tr hq iq tt sc z b kx ba b2 r n ph t f v o y cd hk).one (cwV 1 hts gL_setting_X4_setting rfl rfl rfl (by decide +kernel) ⟨Nat.le_of_ble_eq_true rfl, Nat.le_of_ble_eq_true rfl⟩) hK hV hE hP hD hS hA [1] (by decide) rfl 1 rfl rfl rfl rfl hl.1 rfl (Nat.le_of_ble_eq_true rfl) dL_setting_4 (Nat.zero_le _) (Nat.zero_le _) (fun r w1 H locs hQ hF hS => ?_)
  obtain ⟨rfl, rfl⟩ := hQ
  obtain ⟨hP, hD⟩ := hF [wF C x nw tr hq iq tt sc ba z b b2 ph r n t f v o y cd] (flat_one _).symm rfl
  have hP : va_P C.1 vwCl (List.flatten [wU C ou x0, wF C x nw tr hq iq tt sc ba z b b2 ph r n t f v o y cd]) H := hP
  have hD : va_D (q_A (List.flatten [wU C ou x0, wF C x nw tr hq iq tt sc ba z b b2 ph r n t f v o y cd]) s) (List.flatten [wU C ou x0, wF C x nw tr hq iq tt sc ba z b b2 ph r n t f v o y cd]) := hD
  refine W.eq (g2 := F0 m 7 ls [.int (nI (bs b kx)), .int (nI 0), .ref ou]) rfl ?_
  refine lv_i2l (v := (nI (bs b kx)).toInt64) hx hb dL_setting_7 rfl ?_
  refine q_last (n := 0) hx hb hK hP hD hS 0 rfl (by decide) (by decide) dL_setting_8 (fun H locs hP hD hS => ?_)
  have hP := q_swpL (g := fun _ => (nI (bs b kx)).toInt64) hP 0 rfl (fun k hk => by rw [show k = 0 by omega]; exact pk_uLs)
  have hD := hD.set (p := 0) (a := ou) (e := .inl (C.2.2.1, 1, .inr (.inl (fun _ => (nI (bs b kx)).toInt64)))) rfl
  have hP : va_P C.1 vwCl (List.flatten [wU C ou ((nI (bs b kx)).toInt64), wF C x nw tr hq iq tt sc ba z b b2 ph r n t f v o y cd]) H := hP
  have hD : va_D (q_A (List.flatten [wU C ou x0, wF C x nw tr hq iq tt sc ba z b b2 ph r n t f v o y cd]) s) (List.flatten [wU C ou ((nI (bs b kx)).toInt64), wF C x nw tr hq iq tt sc ba z b b2 ph r n t f v o y cd]) := hD
  refine lv_goto (tgt := 15) hx hb dL_setting_9 (by decide) ?_
  refine lv_iconst (v := nI 0) hx hb dL_setting_15 (by decide) ?_
  exact q_iret hx hb hr hlocks (w1 := List.flatten [wU C ou ((nI (bs b kx)).toInt64), wF C x nw tr hq iq tt sc ba z b b2 ph r n t f v o y cd]) hP hS rfl dL_setting_16 (⟨rfl, rfl⟩)
set_option maxHeartbeats 4000000 in
set_option maxRecDepth 100000 in
theorem W_choice (l : Launch) (C : q_C) (x : Nat) (nw tr hq iq tt : Nat → Nat) (sc : Nat) (z : Nat → Int) (b : Bd) (t f v o : Nat → Nat) (rule : Nat) (ba : Nat → Nat → Nat) (b2 : Bd) (r : Nat) (n : Nat) (ph : Nat → Bd) (y : Nat) (cd : Nat → Nat) (ou : Nat) (x0 : Int64) (hB : OkB b) (hr3 : rule < 3) (hfr : frB b t f) : q_ME C l yL_choice wsL_choice 5 131 [.ref x, .int (nI rule), .ref ou] (List.flatten [wU C ou x0, wF C x nw tr hq iq tt sc ba z b b2 ph r n t f v o y cd]) (fun r2 w => ∃ z1 v1 o1, r2 = some (.int (nI 0)) ∧ w = List.flatten [wU C ou ((nI (choN b (idxT b) rule)).toInt64), wF C x nw tr hq iq tt sc ba z1 b b2 ph r n (idxT b) (fun _ => 1) v1 o1 y cd]) := by
  refine q_headW (cc := cL_choice) (maxL := 4) (ret := (some .int)) (by decide +kernel) rfl (Nat.le_of_ble_eq_true rfl) ?_
  intro p e s m below meth c hx hb hr hlocks hml hown hts hK hV hE hP hD hS hA htab ls hl
  have hl : lv_has ls 4 [(0, .ref x), (1, .int (nI rule)), (2, .ref ou)] := hl
  refine lv_aload_n hx hb dL_choice_0 rfl (lv_at hl 2 rfl) ?_
  refine lv_iconst (v := nI 0) hx hb dL_choice_1 (by decide) ?_
  refine lv_aload_n hx hb dL_choice_2 rfl (lv_at hl 0 rfl) ?_
  refine lv_iload_n hx hb dL_choice_3 rfl (lv_at hl 1 rfl) ?_
  refine q_VBE (Bs := [wU C ou x0, wF C x nw tr hq iq tt sc ba z b b2 ph r n t f v o y cd]) (cs := [wF C x nw tr hq iq tt sc ba z b b2 ph r n t f v o y cd]) (As := [.int (nI rule)]) (rest := [.int (nI 0), .ref ou]) ⟨hx, hb, hml, hown, hts⟩ (F_choice l C x nw tr hq iq tt sc z b t f v o rule ba b2 r n ph y cd hB hr3 hfr).one (cwV 1 hts gL_choice_X4_choice rfl rfl rfl (by decide +kernel) ⟨Nat.le_of_ble_eq_true rfl, Nat.le_of_ble_eq_true rfl⟩) hK hV hE hP hD hS hA [1] (by decide) rfl 1 rfl rfl rfl rfl hl.1 rfl (Nat.le_of_ble_eq_true rfl) dL_choice_4 (Nat.zero_le _) (Nat.zero_le _) (fun r w1 H locs hQ hF hS => ?_)
  obtain ⟨z1, v1, o1, rfl, rfl⟩ := hQ
  obtain ⟨hP, hD⟩ := hF [wF C x nw tr hq iq tt sc ba z1 b b2 ph r n (idxT b) (fun _ => 1) v1 o1 y cd] (flat_one _).symm rfl
  have hP : va_P C.1 vwCl (List.flatten [wU C ou x0, wF C x nw tr hq iq tt sc ba z1 b b2 ph r n (idxT b) (fun _ => 1) v1 o1 y cd]) H := hP
  have hD : va_D (q_A (List.flatten [wU C ou x0, wF C x nw tr hq iq tt sc ba z b b2 ph r n t f v o y cd]) s) (List.flatten [wU C ou x0, wF C x nw tr hq iq tt sc ba z1 b b2 ph r n (idxT b) (fun _ => 1) v1 o1 y cd]) := hD
  refine W.eq (g2 := F0 m 7 ls [.int (nI (choN b (idxT b) rule)), .int (nI 0), .ref ou]) rfl ?_
  refine lv_i2l (v := (nI (choN b (idxT b) rule)).toInt64) hx hb dL_choice_7 rfl ?_
  refine q_last (n := 0) hx hb hK hP hD hS 0 rfl (by decide) (by decide) dL_choice_8 (fun H locs hP hD hS => ?_)
  have hP := q_swpL (g := fun _ => (nI (choN b (idxT b) rule)).toInt64) hP 0 rfl (fun k hk => by rw [show k = 0 by omega]; exact pk_uLs)
  have hD := hD.set (p := 0) (a := ou) (e := .inl (C.2.2.1, 1, .inr (.inl (fun _ => (nI (choN b (idxT b) rule)).toInt64)))) rfl
  have hP : va_P C.1 vwCl (List.flatten [wU C ou ((nI (choN b (idxT b) rule)).toInt64), wF C x nw tr hq iq tt sc ba z1 b b2 ph r n (idxT b) (fun _ => 1) v1 o1 y cd]) H := hP
  have hD : va_D (q_A (List.flatten [wU C ou x0, wF C x nw tr hq iq tt sc ba z b b2 ph r n t f v o y cd]) s) (List.flatten [wU C ou ((nI (choN b (idxT b) rule)).toInt64), wF C x nw tr hq iq tt sc ba z1 b b2 ph r n (idxT b) (fun _ => 1) v1 o1 y cd]) := hD
  refine lv_goto (tgt := 15) hx hb dL_choice_9 (by decide) ?_
  refine lv_iconst (v := nI 0) hx hb dL_choice_15 (by decide) ?_
  exact q_iret hx hb hr hlocks (w1 := List.flatten [wU C ou ((nI (choN b (idxT b) rule)).toInt64), wF C x nw tr hq iq tt sc ba z1 b b2 ph r n (idxT b) (fun _ => 1) v1 o1 y cd]) hP hS rfl dL_choice_16 (⟨_, _, _, rfl, rfl⟩)
set_option maxHeartbeats 4000000 in
set_option maxRecDepth 100000 in
theorem W_ifPlayed (l : Launch) (C : q_C) (x : Nat) (nw tr hq iq tt : Nat → Nat) (sc : Nat) (z : Nat → Int) (b b2 : Bd) (t f v o : Nat → Nat) (rule k : Nat) (ba : Nat → Nat → Nat) (r : Nat) (n : Nat) (ph : Nat → Bd) (y : Nat) (cd : Nat → Nat) (ou : Nat) (x0 : Int64) (hB : OkB b) (hr3 : rule < 3) (h1 : 1 ≤ k) (h2 : k ≤ 99) (hfr : frB b t f) : q_ME C l yL_ifPlayed wsL_ifPlayed 7 161 [.ref x, .int (nI rule), .int (nI k), .ref ou] (List.flatten [wU C ou x0, wF C x nw tr hq iq tt sc ba z b b2 ph r n t f v o y cd]) (fun r2 w => ∃ z1 b3 v1 o1, r2 = some (.int (nI 0)) ∧ w = List.flatten [wU C ou (gnN b rule k), wF C x nw tr hq iq tt sc ba z1 b b3 ph r n (idxT b) (fun _ => 1) v1 o1 y cd]) := by
  refine q_headW (cc := cL_ifPlayed) (maxL := 5) (ret := (some .int)) (by decide +kernel) rfl (Nat.le_of_ble_eq_true rfl) ?_
  intro p e s m below meth c hx hb hr hlocks hml hown hts hK hV hE hP hD hS hA htab ls hl
  have hl : lv_has ls 5 [(0, .ref x), (1, .int (nI rule)), (2, .int (nI k)), (3, .ref ou)] := hl
  refine lv_aload_n hx hb dL_ifPlayed_0 rfl (lv_at hl 3 rfl) ?_
  refine lv_iconst (v := nI 0) hx hb dL_ifPlayed_1 (by decide) ?_
  refine lv_aload_n hx hb dL_ifPlayed_2 rfl (lv_at hl 0 rfl) ?_
  refine lv_iload_n hx hb dL_ifPlayed_3 rfl (lv_at hl 1 rfl) ?_
  refine lv_iload_n hx hb dL_ifPlayed_4 rfl (lv_at hl 2 rfl) ?_
  refine q_VBE (Bs := [wU C ou x0, wF C x nw tr hq iq tt sc ba z b b2 ph r n t f v o y cd]) (cs := [wF C x nw tr hq iq tt sc ba z b b2 ph r n t f v o y cd]) (As := [.int (nI rule), .int (nI k)]) (rest := [.int (nI 0), .ref ou]) ⟨hx, hb, hml, hown, hts⟩ (F_ifPlayed l C x nw tr hq iq tt sc z b b2 t f v o rule k ba r n ph y cd hB hr3 h1 h2 hfr).one (cwV 2 hts gL_ifPlayed_X4_ifPlayed rfl rfl rfl (by decide +kernel) ⟨Nat.le_of_ble_eq_true rfl, Nat.le_of_ble_eq_true rfl⟩) hK hV hE hP hD hS hA [1] (by decide) rfl 1 rfl rfl rfl rfl hl.1 rfl (Nat.le_of_ble_eq_true rfl) dL_ifPlayed_5 (Nat.zero_le _) (Nat.zero_le _) (fun r w1 H locs hQ hF hS => ?_)
  obtain ⟨z1, b3, v1, o1, rfl, rfl⟩ := hQ
  obtain ⟨hP, hD⟩ := hF [wF C x nw tr hq iq tt sc ba z1 b b3 ph r n (idxT b) (fun _ => 1) v1 o1 y cd] (flat_one _).symm rfl
  have hP : va_P C.1 vwCl (List.flatten [wU C ou x0, wF C x nw tr hq iq tt sc ba z1 b b3 ph r n (idxT b) (fun _ => 1) v1 o1 y cd]) H := hP
  have hD : va_D (q_A (List.flatten [wU C ou x0, wF C x nw tr hq iq tt sc ba z b b2 ph r n t f v o y cd]) s) (List.flatten [wU C ou x0, wF C x nw tr hq iq tt sc ba z1 b b3 ph r n (idxT b) (fun _ => 1) v1 o1 y cd]) := hD
  refine W.eq (g2 := F0 m 8 ls [.long (gnN b rule k), .int (nI 0), .ref ou]) rfl ?_
  refine q_last (n := 0) hx hb hK hP hD hS 0 rfl (by decide) (by decide) dL_ifPlayed_8 (fun H locs hP hD hS => ?_)
  have hP := q_swpL (g := fun _ => gnN b rule k) hP 0 rfl (fun k hk => by rw [show k = 0 by omega]; exact pk_uLs)
  have hD := hD.set (p := 0) (a := ou) (e := .inl (C.2.2.1, 1, .inr (.inl (fun _ => gnN b rule k)))) rfl
  have hP : va_P C.1 vwCl (List.flatten [wU C ou (gnN b rule k), wF C x nw tr hq iq tt sc ba z1 b b3 ph r n (idxT b) (fun _ => 1) v1 o1 y cd]) H := hP
  have hD : va_D (q_A (List.flatten [wU C ou x0, wF C x nw tr hq iq tt sc ba z b b2 ph r n t f v o y cd]) s) (List.flatten [wU C ou (gnN b rule k), wF C x nw tr hq iq tt sc ba z1 b b3 ph r n (idxT b) (fun _ => 1) v1 o1 y cd]) := hD
  refine lv_goto (tgt := 16) hx hb dL_ifPlayed_9 (by decide) ?_
  refine lv_iconst (v := nI 0) hx hb dL_ifPlayed_16 (by decide) ?_
  exact q_iret hx hb hr hlocks (w1 := List.flatten [wU C ou (gnN b rule k), wF C x nw tr hq iq tt sc ba z1 b b3 ph r n (idxT b) (fun _ => 1) v1 o1 y cd]) hP hS rfl dL_ifPlayed_17 (⟨_, _, _, _, rfl, rfl⟩)
set_option maxHeartbeats 4000000 in
set_option maxRecDepth 100000 in
theorem W_bestRule (l : Launch) (C : q_C) (x : Nat) (nw tr hq iq tt : Nat → Nat) (sc : Nat) (z : Nat → Int) (b b2 : Bd) (t f v o : Nat → Nat) (k : Nat) (ba : Nat → Nat → Nat) (r : Nat) (n : Nat) (ph : Nat → Bd) (y : Nat) (cd : Nat → Nat) (ou : Nat) (x0 : Int64) (hB : OkB b) (h1 : 1 ≤ k) (h2 : k ≤ 99) (hfr : frB b t f) : q_ME C l yL_bestRule wsL_bestRule 7 166 [.ref x, .int (nI k), .ref ou] (List.flatten [wU C ou x0, wF C x nw tr hq iq tt sc ba z b b2 ph r n t f v o y cd]) (fun r2 w => ∃ z1 b3 v1 o1, r2 = some (.int (nI 0)) ∧ w = List.flatten [wU C ou ((nI (bsrN b k 2)).toInt64), wF C x nw tr hq iq tt sc ba z1 b b3 ph r n (idxT b) (fun _ => 1) v1 o1 y cd]) := by
  refine q_headW (cc := cL_bestRule) (maxL := 4) (ret := (some .int)) (by decide +kernel) rfl (Nat.le_of_ble_eq_true rfl) ?_
  intro p e s m below meth c hx hb hr hlocks hml hown hts hK hV hE hP hD hS hA htab ls hl
  have hl : lv_has ls 4 [(0, .ref x), (1, .int (nI k)), (2, .ref ou)] := hl
  refine lv_aload_n hx hb dL_bestRule_0 rfl (lv_at hl 2 rfl) ?_
  refine lv_iconst (v := nI 0) hx hb dL_bestRule_1 (by decide) ?_
  refine lv_aload_n hx hb dL_bestRule_2 rfl (lv_at hl 0 rfl) ?_
  refine lv_iload_n hx hb dL_bestRule_3 rfl (lv_at hl 1 rfl) ?_
  refine q_VBE (Bs := [wU C ou x0, wF C x nw tr hq iq tt sc ba z b b2 ph r n t f v o y cd]) (cs := [wF C x nw tr hq iq tt sc ba z b b2 ph r n t f v o y cd]) (As := [.int (nI k)]) (rest := [.int (nI 0), .ref ou]) ⟨hx, hb, hml, hown, hts⟩ (F_bestRule l C x nw tr hq iq tt sc z b b2 t f v o k ba r n ph y cd hB h1 h2 hfr).one (cwV 1 hts gL_bestRule_X4_bestRule rfl rfl rfl (by decide +kernel) ⟨Nat.le_of_ble_eq_true rfl, Nat.le_of_ble_eq_true rfl⟩) hK hV hE hP hD hS hA [1] (by decide) rfl 1 rfl rfl rfl rfl hl.1 rfl (Nat.le_of_ble_eq_true rfl) dL_bestRule_4 (Nat.zero_le _) (Nat.zero_le _) (fun r w1 H locs hQ hF hS => ?_)
  obtain ⟨z1, b3, v1, o1, rfl, rfl⟩ := hQ
  obtain ⟨hP, hD⟩ := hF [wF C x nw tr hq iq tt sc ba z1 b b3 ph r n (idxT b) (fun _ => 1) v1 o1 y cd] (flat_one _).symm rfl
  have hP : va_P C.1 vwCl (List.flatten [wU C ou x0, wF C x nw tr hq iq tt sc ba z1 b b3 ph r n (idxT b) (fun _ => 1) v1 o1 y cd]) H := hP
  have hD : va_D (q_A (List.flatten [wU C ou x0, wF C x nw tr hq iq tt sc ba z b b2 ph r n t f v o y cd]) s) (List.flatten [wU C ou x0, wF C x nw tr hq iq tt sc ba z1 b b3 ph r n (idxT b) (fun _ => 1) v1 o1 y cd]) := hD
  refine W.eq (g2 := F0 m 7 ls [.int (nI (bsrN b k 2)), .int (nI 0), .ref ou]) rfl ?_
  refine lv_i2l (v := (nI (bsrN b k 2)).toInt64) hx hb dL_bestRule_7 rfl ?_
  refine q_last (n := 0) hx hb hK hP hD hS 0 rfl (by decide) (by decide) dL_bestRule_8 (fun H locs hP hD hS => ?_)
  have hP := q_swpL (g := fun _ => (nI (bsrN b k 2)).toInt64) hP 0 rfl (fun k hk => by rw [show k = 0 by omega]; exact pk_uLs)
  have hD := hD.set (p := 0) (a := ou) (e := .inl (C.2.2.1, 1, .inr (.inl (fun _ => (nI (bsrN b k 2)).toInt64)))) rfl
  have hP : va_P C.1 vwCl (List.flatten [wU C ou ((nI (bsrN b k 2)).toInt64), wF C x nw tr hq iq tt sc ba z1 b b3 ph r n (idxT b) (fun _ => 1) v1 o1 y cd]) H := hP
  have hD : va_D (q_A (List.flatten [wU C ou x0, wF C x nw tr hq iq tt sc ba z b b2 ph r n t f v o y cd]) s) (List.flatten [wU C ou ((nI (bsrN b k 2)).toInt64), wF C x nw tr hq iq tt sc ba z1 b b3 ph r n (idxT b) (fun _ => 1) v1 o1 y cd]) := hD
  refine lv_goto (tgt := 15) hx hb dL_bestRule_9 (by decide) ?_
  refine lv_iconst (v := nI 0) hx hb dL_bestRule_15 (by decide) ?_
  exact q_iret hx hb hr hlocks (w1 := List.flatten [wU C ou ((nI (bsrN b k 2)).toInt64), wF C x nw tr hq iq tt sc ba z1 b b3 ph r n (idxT b) (fun _ => 1) v1 o1 y cd]) hP hS rfl dL_bestRule_16 (⟨_, _, _, _, rfl, rfl⟩)
set_option maxHeartbeats 4000000 in
set_option maxRecDepth 100000 in
theorem W_giftFor (l : Launch) (C : q_C) (x : Nat) (nw tr hq iq tt : Nat → Nat) (sc : Nat) (z : Nat → Int) (b b2 : Bd) (t f v o : Nat → Nat) (a t0 : Nat) (ba : Nat → Nat → Nat) (r : Nat) (n : Nat) (ph : Nat → Bd) (y : Nat) (cd : Nat → Nat) (ou : Nat) (x0 : Int64) (hB : OkB b) (ha : a < 4) (ht : t0 < 4) (hfr : frB b t f) : q_ME C l yL_giftFor wsL_giftFor 5 138 [.ref x, .int (nI a), .int (nI t0), .ref ou] (List.flatten [wU C ou x0, wF C x nw tr hq iq tt sc ba z b b2 ph r n t f v o y cd]) (fun r2 w => ∃ z1 b3 v1 o1, r2 = some (.int (nI 0)) ∧ w = List.flatten [wU C ou ((lgI (lgN b a t0)).toInt64), wF C x nw tr hq iq tt sc ba z1 b b3 ph r n (idxT b) (fun _ => 1) v1 o1 y cd]) := by
  refine q_headW (cc := cL_giftFor) (maxL := 5) (ret := (some .int)) (by decide +kernel) rfl (Nat.le_of_ble_eq_true rfl) ?_
  intro p e s m below meth c hx hb hr hlocks hml hown hts hK hV hE hP hD hS hA htab ls hl
  have hl : lv_has ls 5 [(0, .ref x), (1, .int (nI a)), (2, .int (nI t0)), (3, .ref ou)] := hl
  refine lv_aload_n hx hb dL_giftFor_0 rfl (lv_at hl 3 rfl) ?_
  refine lv_iconst (v := nI 0) hx hb dL_giftFor_1 (by decide) ?_
  refine lv_aload_n hx hb dL_giftFor_2 rfl (lv_at hl 0 rfl) ?_
  refine lv_iload_n hx hb dL_giftFor_3 rfl (lv_at hl 1 rfl) ?_
  refine lv_iload_n hx hb dL_giftFor_4 rfl (lv_at hl 2 rfl) ?_
  refine q_VBE (Bs := [wU C ou x0, wF C x nw tr hq iq tt sc ba z b b2 ph r n t f v o y cd]) (cs := [wF C x nw tr hq iq tt sc ba z b b2 ph r n t f v o y cd]) (As := [.int (nI a), .int (nI t0)]) (rest := [.int (nI 0), .ref ou]) ⟨hx, hb, hml, hown, hts⟩ (F_giftFor l C x nw tr hq iq tt sc z b b2 t f v o a t0 ba r n ph y cd hB ha ht hfr).one (cwV 2 hts gL_giftFor_X4_giftFor rfl rfl rfl (by decide +kernel) ⟨Nat.le_of_ble_eq_true rfl, Nat.le_of_ble_eq_true rfl⟩) hK hV hE hP hD hS hA [1] (by decide) rfl 1 rfl rfl rfl rfl hl.1 rfl (Nat.le_of_ble_eq_true rfl) dL_giftFor_5 (Nat.zero_le _) (Nat.zero_le _) (fun r w1 H locs hQ hF hS => ?_)
  obtain ⟨z1, b3, v1, o1, rfl, rfl⟩ := hQ
  obtain ⟨hP, hD⟩ := hF [wF C x nw tr hq iq tt sc ba z1 b b3 ph r n (idxT b) (fun _ => 1) v1 o1 y cd] (flat_one _).symm rfl
  have hP : va_P C.1 vwCl (List.flatten [wU C ou x0, wF C x nw tr hq iq tt sc ba z1 b b3 ph r n (idxT b) (fun _ => 1) v1 o1 y cd]) H := hP
  have hD : va_D (q_A (List.flatten [wU C ou x0, wF C x nw tr hq iq tt sc ba z b b2 ph r n t f v o y cd]) s) (List.flatten [wU C ou x0, wF C x nw tr hq iq tt sc ba z1 b b3 ph r n (idxT b) (fun _ => 1) v1 o1 y cd]) := hD
  refine W.eq (g2 := F0 m 8 ls [.int (lgI (lgN b a t0)), .int (nI 0), .ref ou]) rfl ?_
  refine lv_i2l (v := (lgI (lgN b a t0)).toInt64) hx hb dL_giftFor_8 rfl ?_
  refine q_last (n := 0) hx hb hK hP hD hS 0 rfl (by decide) (by decide) dL_giftFor_9 (fun H locs hP hD hS => ?_)
  have hP := q_swpL (g := fun _ => (lgI (lgN b a t0)).toInt64) hP 0 rfl (fun k hk => by rw [show k = 0 by omega]; exact pk_uLs)
  have hD := hD.set (p := 0) (a := ou) (e := .inl (C.2.2.1, 1, .inr (.inl (fun _ => (lgI (lgN b a t0)).toInt64)))) rfl
  have hP : va_P C.1 vwCl (List.flatten [wU C ou ((lgI (lgN b a t0)).toInt64), wF C x nw tr hq iq tt sc ba z1 b b3 ph r n (idxT b) (fun _ => 1) v1 o1 y cd]) H := hP
  have hD : va_D (q_A (List.flatten [wU C ou x0, wF C x nw tr hq iq tt sc ba z b b2 ph r n t f v o y cd]) s) (List.flatten [wU C ou ((lgI (lgN b a t0)).toInt64), wF C x nw tr hq iq tt sc ba z1 b b3 ph r n (idxT b) (fun _ => 1) v1 o1 y cd]) := hD
  refine lv_goto (tgt := 17) hx hb dL_giftFor_10 (by decide) ?_
  refine lv_iconst (v := nI 0) hx hb dL_giftFor_17 (by decide) ?_
  exact q_iret hx hb hr hlocks (w1 := List.flatten [wU C ou ((lgI (lgN b a t0)).toInt64), wF C x nw tr hq iq tt sc ba z1 b b3 ph r n (idxT b) (fun _ => 1) v1 o1 y cd]) hP hS rfl dL_giftFor_18 (⟨_, _, _, _, rfl, rfl⟩)
set_option maxHeartbeats 4000000 in
set_option maxRecDepth 100000 in
theorem W1_gift (l : Launch) (hl0 : l.stackTraces = false) (C : q_C) (x : Nat) (y z g : Int32) (nw : Nat → Nat) (tr : Nat → Nat) (hq : Nat → Nat) (iq : Nat → Nat) (tt : Nat → Nat) (sc : Nat) (ba : Nat → Nat → Nat) (z9 : Nat → Int) (b : Bd) (b2 : Bd) (r : Nat) (n : Nat) (ph : Nat → Bd) (t : Nat → Nat) (f : Nat → Nat) (v : Nat → Nat) (o : Nat → Nat) (y9 : Nat) (cd : Nat → Nat) (ou : Nat) (x0 : Int64) (hxx : (decide (nI 0 ≤ y ∧ y ≤ nI 3) && decide (nI 0 ≤ z ∧ z ≤ nI 3)) = false) : q_M1 C l yL_gift wsL_gift 8 128 [.ref x, .int y, .int z, .int g, .ref ou] (List.flatten [wU C ou x0, wF C x nw tr hq iq tt sc ba z9 b b2 ph r n t f v o y9 cd]) (fun r2 w => r2 = some (.int (nI 1)) ∧ w = List.flatten [wU C ou x0, wF C x nw tr hq iq tt sc ba z9 b b2 ph r n t f v o y9 cd]) := by
  refine q_headW1 (cc := cL_gift) (maxL := 6) (ret := (some .int)) (by decide +kernel) rfl (Nat.le_of_ble_eq_true rfl) ?_
  intro p e s m below meth c hx hb hr hlocks hml hown hts hK hV hE hP hD hS hA htab ls hl
  have hl : lv_has ls 6 [(0, .ref x), (1, .int y), (2, .int z), (3, .int g), (4, .ref ou)] := hl
  refine lv_aload hx hb dL_gift_0 (lv_at hl 4 rfl) ?_
  refine lv_iconst (v := nI 0) hx hb dL_gift_2 (by decide) ?_
  refine lv_aload_n hx hb dL_gift_3 rfl (lv_at hl 0 rfl) ?_
  refine lv_iload_n hx hb dL_gift_4 rfl (lv_at hl 1 rfl) ?_
  refine lv_iload_n hx hb dL_gift_5 rfl (lv_at hl 2 rfl) ?_
  refine lv_iload_n hx hb dL_gift_6 rfl (lv_at hl 3 rfl) ?_
  refine q_TV (X := List.flatten [wU C ou x0, wF C x nw tr hq iq tt sc ba z9 b b2 ph r n t f v o y9 cd]) (As := [.int y, .int z, .int g]) (rest := [.int (nI 0), .ref ou]) ⟨hx, hb, hml, hown, hts⟩ (t1_X4_gift l hl0 C x y z g hxx) (cwV 3 hts gL_gift_X4_gift rfl rfl rfl (by decide +kernel) ⟨Nat.le_of_ble_eq_true rfl, Nat.le_of_ble_eq_true rfl⟩) hK hV hE hP hD hS hA [] (by decide) rfl 1 rfl rfl rfl rfl hl.1 rfl (Nat.le_of_ble_eq_true rfl) dL_gift_7 (Nat.le_of_ble_eq_true rfl) (Nat.le_of_ble_eq_true rfl) (fun ce q9 H locs hP hS hce hcv hcl => ?_)
  refine vx_catch (name := "java/lang/IndexOutOfBoundsException") hown [] (⟨0, 12, 15, 13⟩ : ExceptionTableEntry) [(⟨0, 12, 19, 15⟩ : ExceptionTableEntry)] (htab.trans rfl) (fun z hz => nomatch hz) (by decide) (by decide) (hts (.classLink RL 13 "java/lang/IndexOutOfBoundsException") (by decide +kernel)) (q_xw_b hV _ (List.mem_of_getElem? (i := 2) rfl)) hce hcv hcl ?_
  refine lv_astore (lv' := [(5, .ref q9), (0, .ref x), (1, .int y), (2, .int z), (3, .int g), (4, .ref ou)]) hx hb dL_gift_15 hl (by decide) rfl (fun ls hl => ?_)
  refine lv_iconst (v := nI 1) hx hb dL_gift_17 (by decide) ?_
  exact q_iret1 hx hb hr hlocks (w1 := List.flatten [wU C ou x0, wF C x nw tr hq iq tt sc ba z9 b b2 ph r n t f v o y9 cd]) hP hS rfl dL_gift_18 ⟨rfl, rfl⟩
set_option maxHeartbeats 4000000 in
set_option maxRecDepth 100000 in
theorem W2_gift (l : Launch) (hl0 : l.stackTraces = false) (C : q_C) (x : Nat) (a t0 : Nat) (g : Int32) (nw : Nat → Nat) (tr : Nat → Nat) (hq : Nat → Nat) (iq : Nat → Nat) (tt : Nat → Nat) (sc : Nat) (ba : Nat → Nat → Nat) (z : Nat → Int) (b : Bd) (b2 : Bd) (r : Nat) (n : Nat) (ph : Nat → Bd) (t : Nat → Nat) (f : Nat → Nat) (v : Nat → Nat) (o : Nat → Nat) (y : Nat) (cd : Nat → Nat) (ou : Nat) (x0 : Int64) (ha : a < 4) (ht : t0 < 4) (hxx : decide (nI 0 ≤ g ∧ g ≤ nI 99) = false) : q_M1 C l yL_gift wsL_gift 7 107 [.ref x, .int (nI a), .int (nI t0), .int g, .ref ou] (List.flatten [wU C ou x0, wF C x nw tr hq iq tt sc ba z b b2 ph r n t f v o y cd]) (fun r2 w => r2 = some (.int (nI 2)) ∧ w = List.flatten [wU C ou x0, wF C x nw tr hq iq tt sc ba z b b2 ph r n t f v o y cd]) := by
  refine q_headW1 (cc := cL_gift) (maxL := 6) (ret := (some .int)) (by decide +kernel) rfl (Nat.le_of_ble_eq_true rfl) ?_
  intro p e s m below meth c hx hb hr hlocks hml hown hts hK hV hE hP hD hS hA htab ls hl
  have hl : lv_has ls 6 [(0, .ref x), (1, .int (nI a)), (2, .int (nI t0)), (3, .int g), (4, .ref ou)] := hl
  refine lv_aload hx hb dL_gift_0 (lv_at hl 4 rfl) ?_
  refine lv_iconst (v := nI 0) hx hb dL_gift_2 (by decide) ?_
  refine lv_aload_n hx hb dL_gift_3 rfl (lv_at hl 0 rfl) ?_
  refine lv_iload_n hx hb dL_gift_4 rfl (lv_at hl 1 rfl) ?_
  refine lv_iload_n hx hb dL_gift_5 rfl (lv_at hl 2 rfl) ?_
  refine lv_iload_n hx hb dL_gift_6 rfl (lv_at hl 3 rfl) ?_
  refine q_TV (X := List.flatten [wU C ou x0, wF C x nw tr hq iq tt sc ba z b b2 ph r n t f v o y cd]) (As := [.int (nI a), .int (nI t0), .int g]) (rest := [.int (nI 0), .ref ou]) ⟨hx, hb, hml, hown, hts⟩ (t2_X4_gift l hl0 C x a t0 g ha ht hxx) (cwV 3 hts gL_gift_X4_gift rfl rfl rfl (by decide +kernel) ⟨Nat.le_of_ble_eq_true rfl, Nat.le_of_ble_eq_true rfl⟩) hK hV hE hP hD hS hA [] (by decide) rfl 1 rfl rfl rfl rfl hl.1 rfl (Nat.le_of_ble_eq_true rfl) dL_gift_7 (Nat.le_of_ble_eq_true rfl) (Nat.le_of_ble_eq_true rfl) (fun ce q9 H locs hP hS hce hcv hcl => ?_)
  refine vx_catch (name := "java/lang/IllegalArgumentException") hown [(⟨0, 12, 15, 13⟩ : ExceptionTableEntry)] (⟨0, 12, 19, 15⟩ : ExceptionTableEntry) [] (htab.trans rfl) (fun z hz => by rw [List.mem_singleton] at hz; subst hz; exact Or.inr ⟨by decide, "java/lang/IndexOutOfBoundsException", hts (.classLink RL 13 "java/lang/IndexOutOfBoundsException") (by decide +kernel), hV.2.2 ("java/lang/IllegalArgumentException", "java/lang/IndexOutOfBoundsException") (by decide)⟩) (by decide) (by decide) (hts (.classLink RL 15 "java/lang/IllegalArgumentException") (by decide +kernel)) (q_xw_b hV _ (List.mem_of_getElem? (i := 0) rfl)) hce hcv hcl ?_
  refine lv_astore (lv' := [(5, .ref q9), (0, .ref x), (1, .int (nI a)), (2, .int (nI t0)), (3, .int g), (4, .ref ou)]) hx hb dL_gift_19 hl (by decide) rfl (fun ls hl => ?_)
  refine lv_iconst (v := nI 2) hx hb dL_gift_21 (by decide) ?_
  exact q_iret1 hx hb hr hlocks (w1 := List.flatten [wU C ou x0, wF C x nw tr hq iq tt sc ba z b b2 ph r n t f v o y cd]) hP hS rfl dL_gift_22 ⟨rfl, rfl⟩
set_option maxHeartbeats 4000000 in
set_option maxRecDepth 100000 in
theorem W1a_way (l : Launch) (hl0 : l.stackTraces = false) (C : q_C) (x : Nat) (y z g1 g2 g3 : Int32) (nw : Nat → Nat) (tr : Nat → Nat) (hq : Nat → Nat) (iq : Nat → Nat) (tt : Nat → Nat) (sc : Nat) (ba : Nat → Nat → Nat) (z9 : Nat → Int) (b : Bd) (b2 : Bd) (r : Nat) (n : Nat) (ph : Nat → Bd) (t : Nat → Nat) (f : Nat → Nat) (v : Nat → Nat) (o : Nat → Nat) (y9 : Nat) (cd : Nat → Nat) (ou : Nat) (x0 : Int64) (hxx : (decide (nI 0 ≤ y ∧ y ≤ nI 3) && decide (nI 0 ≤ z ∧ z ≤ nI 3)) = false) : q_M1 C l yL_way wsL_way 8 130 [.ref x, .int y, .int z, .int g1, .int g2, .int g3, .ref ou] (List.flatten [wU C ou x0, wF C x nw tr hq iq tt sc ba z9 b b2 ph r n t f v o y9 cd]) (fun r2 w => r2 = some (.int (nI 1)) ∧ w = List.flatten [wU C ou x0, wF C x nw tr hq iq tt sc ba z9 b b2 ph r n t f v o y9 cd]) := by
  refine q_headW1 (cc := cL_way) (maxL := 8) (ret := (some .int)) (by decide +kernel) rfl (Nat.le_of_ble_eq_true rfl) ?_
  intro p e s m below meth c hx hb hr hlocks hml hown hts hK hV hE hP hD hS hA htab ls hl
  have hl : lv_has ls 8 [(0, .ref x), (1, .int y), (2, .int z), (3, .int g1), (4, .int g2), (5, .int g3), (6, .ref ou)] := hl
  refine lv_aload hx hb dL_way_0 (lv_at hl 6 rfl) ?_
  refine lv_iconst (v := nI 0) hx hb dL_way_2 (by decide) ?_
  refine lv_aload_n hx hb dL_way_3 rfl (lv_at hl 0 rfl) ?_
  refine lv_iload_n hx hb dL_way_4 rfl (lv_at hl 1 rfl) ?_
  refine lv_iload_n hx hb dL_way_5 rfl (lv_at hl 2 rfl) ?_
  refine lv_iload_n hx hb dL_way_6 rfl (lv_at hl 3 rfl) ?_
  refine lv_iload hx hb dL_way_7 (lv_at hl 4 rfl) ?_
  refine lv_iload hx hb dL_way_9 (lv_at hl 5 rfl) ?_
  refine q_TV (X := List.flatten [wU C ou x0, wF C x nw tr hq iq tt sc ba z9 b b2 ph r n t f v o y9 cd]) (As := [.int y, .int z, .int g1, .int g2, .int g3]) (rest := [.int (nI 0), .ref ou]) ⟨hx, hb, hml, hown, hts⟩ (t1a_X4_way l hl0 C x y z g1 g2 g3 hxx) (cwV 5 hts gL_way_X4_way rfl rfl rfl (by decide +kernel) ⟨Nat.le_of_ble_eq_true rfl, Nat.le_of_ble_eq_true rfl⟩) hK hV hE hP hD hS hA [] (by decide) rfl 1 rfl rfl rfl rfl hl.1 rfl (Nat.le_of_ble_eq_true rfl) dL_way_11 (Nat.le_of_ble_eq_true rfl) (Nat.le_of_ble_eq_true rfl) (fun ce q9 H locs hP hS hce hcv hcl => ?_)
  refine vx_catch (name := "java/lang/IndexOutOfBoundsException") hown [] (⟨0, 16, 19, 13⟩ : ExceptionTableEntry) [(⟨0, 16, 23, 15⟩ : ExceptionTableEntry)] (htab.trans rfl) (fun z hz => nomatch hz) (by decide) (by decide) (hts (.classLink RL 13 "java/lang/IndexOutOfBoundsException") (by decide +kernel)) (q_xw_b hV _ (List.mem_of_getElem? (i := 2) rfl)) hce hcv hcl ?_
  refine lv_astore (lv' := [(7, .ref q9), (0, .ref x), (1, .int y), (2, .int z), (3, .int g1), (4, .int g2), (5, .int g3), (6, .ref ou)]) hx hb dL_way_19 hl (by decide) rfl (fun ls hl => ?_)
  refine lv_iconst (v := nI 1) hx hb dL_way_21 (by decide) ?_
  exact q_iret1 hx hb hr hlocks (w1 := List.flatten [wU C ou x0, wF C x nw tr hq iq tt sc ba z9 b b2 ph r n t f v o y9 cd]) hP hS rfl dL_way_22 ⟨rfl, rfl⟩
set_option maxHeartbeats 4000000 in
set_option maxRecDepth 100000 in
theorem W1b_way (l : Launch) (hl0 : l.stackTraces = false) (C : q_C) (x : Nat) (a t0 : Nat) (g1 g2 g3 : Int32) (nw : Nat → Nat) (tr : Nat → Nat) (hq : Nat → Nat) (iq : Nat → Nat) (tt : Nat → Nat) (sc : Nat) (ba : Nat → Nat → Nat) (z : Nat → Int) (b : Bd) (b2 : Bd) (r : Nat) (n : Nat) (ph : Nat → Bd) (t : Nat → Nat) (f : Nat → Nat) (v : Nat → Nat) (o : Nat → Nat) (y : Nat) (cd : Nat → Nat) (ou : Nat) (x0 : Int64) (ha : a < 4) (ht : t0 < 4) (hxx : (decide (nI 0 ≤ nI a ∧ nI a ≤ nI 3) && decide (nI 0 ≤ g1 ∧ g1 ≤ nI 3)) = false) : q_M1 C l yL_way wsL_way 8 130 [.ref x, .int (nI a), .int (nI t0), .int g1, .int g2, .int g3, .ref ou] (List.flatten [wU C ou x0, wF C x nw tr hq iq tt sc ba z b b2 ph r n t f v o y cd]) (fun r2 w => r2 = some (.int (nI 1)) ∧ w = List.flatten [wU C ou x0, wF C x nw tr hq iq tt sc ba z b b2 ph r n t f v o y cd]) := by
  refine q_headW1 (cc := cL_way) (maxL := 8) (ret := (some .int)) (by decide +kernel) rfl (Nat.le_of_ble_eq_true rfl) ?_
  intro p e s m below meth c hx hb hr hlocks hml hown hts hK hV hE hP hD hS hA htab ls hl
  have hl : lv_has ls 8 [(0, .ref x), (1, .int (nI a)), (2, .int (nI t0)), (3, .int g1), (4, .int g2), (5, .int g3), (6, .ref ou)] := hl
  refine lv_aload hx hb dL_way_0 (lv_at hl 6 rfl) ?_
  refine lv_iconst (v := nI 0) hx hb dL_way_2 (by decide) ?_
  refine lv_aload_n hx hb dL_way_3 rfl (lv_at hl 0 rfl) ?_
  refine lv_iload_n hx hb dL_way_4 rfl (lv_at hl 1 rfl) ?_
  refine lv_iload_n hx hb dL_way_5 rfl (lv_at hl 2 rfl) ?_
  refine lv_iload_n hx hb dL_way_6 rfl (lv_at hl 3 rfl) ?_
  refine lv_iload hx hb dL_way_7 (lv_at hl 4 rfl) ?_
  refine lv_iload hx hb dL_way_9 (lv_at hl 5 rfl) ?_
  refine q_TV (X := List.flatten [wU C ou x0, wF C x nw tr hq iq tt sc ba z b b2 ph r n t f v o y cd]) (As := [.int (nI a), .int (nI t0), .int g1, .int g2, .int g3]) (rest := [.int (nI 0), .ref ou]) ⟨hx, hb, hml, hown, hts⟩ (t1b_X4_way l hl0 C x a t0 g1 g2 g3 ha ht hxx) (cwV 5 hts gL_way_X4_way rfl rfl rfl (by decide +kernel) ⟨Nat.le_of_ble_eq_true rfl, Nat.le_of_ble_eq_true rfl⟩) hK hV hE hP hD hS hA [] (by decide) rfl 1 rfl rfl rfl rfl hl.1 rfl (Nat.le_of_ble_eq_true rfl) dL_way_11 (Nat.le_of_ble_eq_true rfl) (Nat.le_of_ble_eq_true rfl) (fun ce q9 H locs hP hS hce hcv hcl => ?_)
  refine vx_catch (name := "java/lang/IndexOutOfBoundsException") hown [] (⟨0, 16, 19, 13⟩ : ExceptionTableEntry) [(⟨0, 16, 23, 15⟩ : ExceptionTableEntry)] (htab.trans rfl) (fun z hz => nomatch hz) (by decide) (by decide) (hts (.classLink RL 13 "java/lang/IndexOutOfBoundsException") (by decide +kernel)) (q_xw_b hV _ (List.mem_of_getElem? (i := 2) rfl)) hce hcv hcl ?_
  refine lv_astore (lv' := [(7, .ref q9), (0, .ref x), (1, .int (nI a)), (2, .int (nI t0)), (3, .int g1), (4, .int g2), (5, .int g3), (6, .ref ou)]) hx hb dL_way_19 hl (by decide) rfl (fun ls hl => ?_)
  refine lv_iconst (v := nI 1) hx hb dL_way_21 (by decide) ?_
  exact q_iret1 hx hb hr hlocks (w1 := List.flatten [wU C ou x0, wF C x nw tr hq iq tt sc ba z b b2 ph r n t f v o y cd]) hP hS rfl dL_way_22 ⟨rfl, rfl⟩
set_option maxHeartbeats 4000000 in
set_option maxRecDepth 100000 in
theorem W1c_way (l : Launch) (hl0 : l.stackTraces = false) (C : q_C) (x : Nat) (a t0 x1 : Nat) (g2 g3 : Int32) (nw : Nat → Nat) (tr : Nat → Nat) (hq : Nat → Nat) (iq : Nat → Nat) (tt : Nat → Nat) (sc : Nat) (ba : Nat → Nat → Nat) (z : Nat → Int) (b : Bd) (b2 : Bd) (r : Nat) (n : Nat) (ph : Nat → Bd) (t : Nat → Nat) (f : Nat → Nat) (v : Nat → Nat) (o : Nat → Nat) (y : Nat) (cd : Nat → Nat) (ou : Nat) (x0 : Int64) (ha : a < 4) (ht : t0 < 4) (h1 : x1 < 4) (hxx : (decide (nI 0 ≤ nI a ∧ nI a ≤ nI 3) && decide (nI 0 ≤ g2 ∧ g2 ≤ nI 3)) = false) : q_M1 C l yL_way wsL_way 8 130 [.ref x, .int (nI a), .int (nI t0), .int (nI x1), .int g2, .int g3, .ref ou] (List.flatten [wU C ou x0, wF C x nw tr hq iq tt sc ba z b b2 ph r n t f v o y cd]) (fun r2 w => r2 = some (.int (nI 1)) ∧ w = List.flatten [wU C ou x0, wF C x nw tr hq iq tt sc ba z b b2 ph r n t f v o y cd]) := by
  refine q_headW1 (cc := cL_way) (maxL := 8) (ret := (some .int)) (by decide +kernel) rfl (Nat.le_of_ble_eq_true rfl) ?_
  intro p e s m below meth c hx hb hr hlocks hml hown hts hK hV hE hP hD hS hA htab ls hl
  have hl : lv_has ls 8 [(0, .ref x), (1, .int (nI a)), (2, .int (nI t0)), (3, .int (nI x1)), (4, .int g2), (5, .int g3), (6, .ref ou)] := hl
  refine lv_aload hx hb dL_way_0 (lv_at hl 6 rfl) ?_
  refine lv_iconst (v := nI 0) hx hb dL_way_2 (by decide) ?_
  refine lv_aload_n hx hb dL_way_3 rfl (lv_at hl 0 rfl) ?_
  refine lv_iload_n hx hb dL_way_4 rfl (lv_at hl 1 rfl) ?_
  refine lv_iload_n hx hb dL_way_5 rfl (lv_at hl 2 rfl) ?_
  refine lv_iload_n hx hb dL_way_6 rfl (lv_at hl 3 rfl) ?_
  refine lv_iload hx hb dL_way_7 (lv_at hl 4 rfl) ?_
  refine lv_iload hx hb dL_way_9 (lv_at hl 5 rfl) ?_
  refine q_TV (X := List.flatten [wU C ou x0, wF C x nw tr hq iq tt sc ba z b b2 ph r n t f v o y cd]) (As := [.int (nI a), .int (nI t0), .int (nI x1), .int g2, .int g3]) (rest := [.int (nI 0), .ref ou]) ⟨hx, hb, hml, hown, hts⟩ (t1c_X4_way l hl0 C x a t0 x1 g2 g3 ha ht h1 hxx) (cwV 5 hts gL_way_X4_way rfl rfl rfl (by decide +kernel) ⟨Nat.le_of_ble_eq_true rfl, Nat.le_of_ble_eq_true rfl⟩) hK hV hE hP hD hS hA [] (by decide) rfl 1 rfl rfl rfl rfl hl.1 rfl (Nat.le_of_ble_eq_true rfl) dL_way_11 (Nat.le_of_ble_eq_true rfl) (Nat.le_of_ble_eq_true rfl) (fun ce q9 H locs hP hS hce hcv hcl => ?_)
  refine vx_catch (name := "java/lang/IndexOutOfBoundsException") hown [] (⟨0, 16, 19, 13⟩ : ExceptionTableEntry) [(⟨0, 16, 23, 15⟩ : ExceptionTableEntry)] (htab.trans rfl) (fun z hz => nomatch hz) (by decide) (by decide) (hts (.classLink RL 13 "java/lang/IndexOutOfBoundsException") (by decide +kernel)) (q_xw_b hV _ (List.mem_of_getElem? (i := 2) rfl)) hce hcv hcl ?_
  refine lv_astore (lv' := [(7, .ref q9), (0, .ref x), (1, .int (nI a)), (2, .int (nI t0)), (3, .int (nI x1)), (4, .int g2), (5, .int g3), (6, .ref ou)]) hx hb dL_way_19 hl (by decide) rfl (fun ls hl => ?_)
  refine lv_iconst (v := nI 1) hx hb dL_way_21 (by decide) ?_
  exact q_iret1 hx hb hr hlocks (w1 := List.flatten [wU C ou x0, wF C x nw tr hq iq tt sc ba z b b2 ph r n t f v o y cd]) hP hS rfl dL_way_22 ⟨rfl, rfl⟩
