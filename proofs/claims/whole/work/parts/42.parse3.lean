/-! the model's parser: parts, the text, firstError -/
set_option maxHeartbeats 4000000 in
set_option maxRecDepth 100000 in
theorem c_X5_isPart (l : Launch) (C : q_C) (mo : Nat → Nat) (kp tw fl : Int32) (v o : Nat → Nat) (n i j : Nat) (cd : Nat → Nat) (td : Nat → Int32) (hn : n ≤ 60) (hcd : ∀ k, k < n → cd k < 2 ^ 31) (h0 : stg cd i = 0) (hi : i ≤ n) (hj : j ≤ 12) : q_M C l yX5_isPart wsX5_isPart 4 89 [.ref (mo 0)] (wO C mo (evm kp (nI n) tw (nI i) fl (nI j)) v o ++ ([(mo 4, .inl (C.2.1, 60, .inl (fun k => nI (cd k)))), (mo 5, .inl (C.2.1, 84, .inl td))] : va_W)) (fun r w => (∃ i1 td1, r = some (.int (nI 1)) ∧ w = wO C mo (evm kp (nI n) tw (nI i1) fl (nI j)) v o ++ ([(mo 4, .inl (C.2.1, 60, .inl (fun k => nI (cd k)))), (mo 5, .inl (C.2.1, 84, .inl td1))] : va_W) ∧ paOk cd n i j td td1 i1) ∨ (∃ i1 f td1, r = some (.int (nI 0)) ∧ w = wO C mo (evm kp (nI n) tw (nI i1) (nI f) (nI j)) v o ++ ([(mo 4, .inl (C.2.1, 60, .inl (fun k => nI (cd k)))), (mo 5, .inl (C.2.1, 84, .inl td1))] : va_W) ∧ paBad cd n i1 f)) := by
  refine q_head (cc := cX5_isPart) (maxL := 1) (ret := (some .boolean)) (by decide +kernel) rfl (Nat.le_of_ble_eq_true rfl) ?_
  intro p e s m below meth c hx hb hr hlocks hml hown hts hK hP hD hS hA ls hl
  have hl : lv_has ls 1 [(0, .ref (mo 0))] := hl
  have hf153 := hts (.fieldLink RX5 153 "RestedArmsModel" "at" "I") (by decide +kernel)
  have hf167 := hts (.fieldLink RX5 167 "RestedArmsModel" "tolds" "I") (by decide +kernel)
  have hf23 := hts (.fieldLink RX5 23 "RestedArmsModel" "told" "[I") (by decide +kernel)
  have hin5 : ∀ w ∈ u_ws RX5 TX5 13, w ∈ wsX5_isPart := by decide +kernel
  refine lv_aload_n hx hb dX5_isPart_0 rfl (lv_at hl 0 rfl) ?_
  refine va_get (ci := 5) (v := .ref (mo 5)) (C := RX5) (T := TX5) (N := 13) hx hb hts hin5 hown hK.1 hP 0 rfl rfl 9 (by decide) hf23 (fun _ h9 => h9) rfl dX5_isPart_1 ?_
  refine lv_bipush (v := nI 6) hx hb dX5_isPart_4 (by decide) ?_
  refine lv_aload_n hx hb dX5_isPart_6 rfl (lv_at hl 0 rfl) ?_
  refine va_get (ci := 5) (v := .int (nI j)) (C := RX5) (T := TX5) (N := 13) hx hb hts hin5 hown hK.1 hP 0 rfl rfl 10 (by decide) hf167 (fun _ h9 => h9) rfl dX5_isPart_7 ?_
  refine lv_imul hx hb dX5_isPart_10 ?_
  refine q_ti (y := nI (6 * j)) (pk_mul _ _) ?_
  refine lv_iconst (v := nI 5) hx hb dX5_isPart_11 (by decide) ?_
  refine lv_iadd hx hb dX5_isPart_12 ?_
  refine q_ti (y := nI ((6 * j) + 5)) (nI_add _ _) ?_
  refine lv_iconst (v := (-1)) hx hb dX5_isPart_13 (by decide) ?_
  refine q_iast (n := ((6 * j) + 5)) hx hb hK hP hD hS 4 rfl (by omega) (by decide) dX5_isPart_14 (fun H locs hP hD hS => ?_)
  have hP : va_P C.1 vwCl (wO C mo (evm kp (nI n) tw (nI i) fl (nI j)) v o ++ ([(mo 4, .inl (C.2.1, 60, .inl (fun k => nI (cd k)))), (mo 5, .inl (C.2.1, 84, .inl (upd td ((6 * j) + 5) (-1))))] : va_W)) H := hP
  have hD : va_D (q_A (wO C mo (evm kp (nI n) tw (nI i) fl (nI j)) v o ++ ([(mo 4, .inl (C.2.1, 60, .inl (fun k => nI (cd k)))), (mo 5, .inl (C.2.1, 84, .inl td))] : va_W)) s) (wO C mo (evm kp (nI n) tw (nI i) fl (nI j)) v o ++ ([(mo 4, .inl (C.2.1, 60, .inl (fun k => nI (cd k)))), (mo 5, .inl (C.2.1, 84, .inl (upd td ((6 * j) + 5) (-1))))] : va_W)) := hD
  refine lv_aload_n hx hb dX5_isPart_15 rfl (lv_at hl 0 rfl) ?_
  refine lv_iconst (v := nI 0) hx hb dX5_isPart_16 (by decide) ?_
  refine lv_bipush (v := nI 48) hx hb dX5_isPart_17 (by decide) ?_
  refine lv_bipush (v := nI 51) hx hb dX5_isPart_19 (by decide) ?_
  by_cases hs21 : i < n ∧ 48 ≤ cd i ∧ cd i ≤ 51
  · skip
    obtain ⟨hs21a, hs21b, hs21c⟩ := hs21
    refine q_V (As := [.int (nI 0), .int (nI 48), .int (nI 51)]) (rest := []) ⟨hx, hb, hml, hown, hts⟩ (c_X5_isSign l C mo kp tw fl v o n i j cd (upd td ((6 * j) + 5) (-1)) 0 48 51 (by omega) hcd (by omega) (by omega) (by omega) (by omega) (by omega) (by omega)) (cwV 3 hts gX5_isPart_X5_isSign rfl rfl rfl (by decide +kernel) ⟨Nat.le_of_ble_eq_true rfl, Nat.le_of_ble_eq_true rfl⟩) hK hP hD hS hA [0, 1, 2, 3, 4] (by decide) rfl 0 rfl rfl rfl rfl hl.1 rfl (Nat.le_of_ble_eq_true rfl) dX5_isPart_21 (Nat.zero_le _) (Nat.zero_le _) (fun r w1 H locs hQ hP hD hS => ?_)
    obtain ⟨rfl, rfl⟩ := hQ
    have hP : va_P C.1 vwCl (wO C mo (evm kp (nI n) tw (nI (i + 1)) fl (nI j)) v o ++ ([(mo 4, .inl (C.2.1, 60, .inl (fun k => nI (cd k)))), (mo 5, .inl (C.2.1, 84, .inl (upd (upd td ((6 * j) + 5) (-1)) (6 * j + 0) (nI (cd i - 48)))))] : va_W)) H := hP
    have hD : va_D (q_A (wO C mo (evm kp (nI n) tw (nI i) fl (nI j)) v o ++ ([(mo 4, .inl (C.2.1, 60, .inl (fun k => nI (cd k)))), (mo 5, .inl (C.2.1, 84, .inl td))] : va_W)) s) (wO C mo (evm kp (nI n) tw (nI (i + 1)) fl (nI j)) v o ++ ([(mo 4, .inl (C.2.1, 60, .inl (fun k => nI (cd k)))), (mo 5, .inl (C.2.1, 84, .inl (upd (upd td ((6 * j) + 5) (-1)) (6 * j + 0) (nI (cd i - 48)))))] : va_W)) := hD
    refine W.eq (g2 := F0 m 24 ls [.int (nI 1)]) rfl ?_
    refine lv_if_eq (tgt := 58) hx hb dX5_isPart_24 (by decide) (fun c => absurd c (by decide)) (fun _ => ?_)
    refine lv_aload_n hx hb dX5_isPart_27 rfl (lv_at hl 0 rfl) ?_
    refine lv_iconst (v := nI 1) hx hb dX5_isPart_28 (by decide) ?_
    refine lv_bipush (v := nI 97) hx hb dX5_isPart_29 (by decide) ?_
    refine lv_bipush (v := nI 100) hx hb dX5_isPart_31 (by decide) ?_
    have e1 : stg cd (i + 1) = 1 := by rw [stg_s, h0]; exact if_pos ⟨hs21b, hs21c⟩
    by_cases hs33 : i + 1 < n ∧ 97 ≤ cd (i + 1) ∧ cd (i + 1) ≤ 100
    · skip
      obtain ⟨hs33a, hs33b, hs33c⟩ := hs33
      refine q_V (As := [.int (nI 1), .int (nI 97), .int (nI 100)]) (rest := []) ⟨hx, hb, hml, hown, hts⟩ (c_X5_isSign l C mo kp tw fl v o n (i + 1) j cd (upd (upd td ((6 * j) + 5) (-1)) (6 * j + 0) (nI (cd i - 48))) 1 97 100 (by omega) hcd (by omega) (by omega) (by omega) (by omega) (by omega) (by omega)) (cwV 3 hts gX5_isPart_X5_isSign rfl rfl rfl (by decide +kernel) ⟨Nat.le_of_ble_eq_true rfl, Nat.le_of_ble_eq_true rfl⟩) hK hP hD hS hA [0, 1, 2, 3, 4] (by decide) rfl 0 rfl rfl rfl rfl hl.1 rfl (Nat.le_of_ble_eq_true rfl) dX5_isPart_33 (Nat.zero_le _) (Nat.zero_le _) (fun r w1 H locs hQ hP hD hS => ?_)
      obtain ⟨rfl, rfl⟩ := hQ
      have hP : va_P C.1 vwCl (wO C mo (evm kp (nI n) tw (nI (i + 2)) fl (nI j)) v o ++ ([(mo 4, .inl (C.2.1, 60, .inl (fun k => nI (cd k)))), (mo 5, .inl (C.2.1, 84, .inl (upd (upd (upd td ((6 * j) + 5) (-1)) (6 * j + 0) (nI (cd i - 48))) (6 * j + 1) (nI (cd (i + 1) - 97)))))] : va_W)) H := hP
      have hD : va_D (q_A (wO C mo (evm kp (nI n) tw (nI i) fl (nI j)) v o ++ ([(mo 4, .inl (C.2.1, 60, .inl (fun k => nI (cd k)))), (mo 5, .inl (C.2.1, 84, .inl td))] : va_W)) s) (wO C mo (evm kp (nI n) tw (nI (i + 2)) fl (nI j)) v o ++ ([(mo 4, .inl (C.2.1, 60, .inl (fun k => nI (cd k)))), (mo 5, .inl (C.2.1, 84, .inl (upd (upd (upd td ((6 * j) + 5) (-1)) (6 * j + 0) (nI (cd i - 48))) (6 * j + 1) (nI (cd (i + 1) - 97)))))] : va_W)) := hD
      refine W.eq (g2 := F0 m 36 ls [.int (nI 1)]) rfl ?_
      refine lv_if_eq (tgt := 58) hx hb dX5_isPart_36 (by decide) (fun c => absurd c (by decide)) (fun _ => ?_)
      refine lv_aload_n hx hb dX5_isPart_39 rfl (lv_at hl 0 rfl) ?_
      refine lv_iconst (v := nI 2) hx hb dX5_isPart_40 (by decide) ?_
      refine lv_bipush (v := nI 61) hx hb dX5_isPart_41 (by decide) ?_
      refine lv_bipush (v := nI 61) hx hb dX5_isPart_43 (by decide) ?_
      have e2 : stg cd (i + 2) = 2 := by rw [stg_s, e1]; exact if_pos ⟨hs33b, hs33c⟩
      by_cases hs45 : i + 2 < n ∧ 61 ≤ cd (i + 2) ∧ cd (i + 2) ≤ 61
      · skip
        obtain ⟨hs45a, hs45b, hs45c⟩ := hs45
        refine q_V (As := [.int (nI 2), .int (nI 61), .int (nI 61)]) (rest := []) ⟨hx, hb, hml, hown, hts⟩ (c_X5_isSign l C mo kp tw fl v o n (i + 2) j cd (upd (upd (upd td ((6 * j) + 5) (-1)) (6 * j + 0) (nI (cd i - 48))) (6 * j + 1) (nI (cd (i + 1) - 97))) 2 61 61 (by omega) hcd (by omega) (by omega) (by omega) (by omega) (by omega) (by omega)) (cwV 3 hts gX5_isPart_X5_isSign rfl rfl rfl (by decide +kernel) ⟨Nat.le_of_ble_eq_true rfl, Nat.le_of_ble_eq_true rfl⟩) hK hP hD hS hA [0, 1, 2, 3, 4] (by decide) rfl 0 rfl rfl rfl rfl hl.1 rfl (Nat.le_of_ble_eq_true rfl) dX5_isPart_45 (Nat.zero_le _) (Nat.zero_le _) (fun r w1 H locs hQ hP hD hS => ?_)
        obtain ⟨rfl, rfl⟩ := hQ
        have hP : va_P C.1 vwCl (wO C mo (evm kp (nI n) tw (nI (i + 3)) fl (nI j)) v o ++ ([(mo 4, .inl (C.2.1, 60, .inl (fun k => nI (cd k)))), (mo 5, .inl (C.2.1, 84, .inl (upd (upd (upd (upd td ((6 * j) + 5) (-1)) (6 * j + 0) (nI (cd i - 48))) (6 * j + 1) (nI (cd (i + 1) - 97))) (6 * j + 2) (nI (cd (i + 2) - 61)))))] : va_W)) H := hP
        have hD : va_D (q_A (wO C mo (evm kp (nI n) tw (nI i) fl (nI j)) v o ++ ([(mo 4, .inl (C.2.1, 60, .inl (fun k => nI (cd k)))), (mo 5, .inl (C.2.1, 84, .inl td))] : va_W)) s) (wO C mo (evm kp (nI n) tw (nI (i + 3)) fl (nI j)) v o ++ ([(mo 4, .inl (C.2.1, 60, .inl (fun k => nI (cd k)))), (mo 5, .inl (C.2.1, 84, .inl (upd (upd (upd (upd td ((6 * j) + 5) (-1)) (6 * j + 0) (nI (cd i - 48))) (6 * j + 1) (nI (cd (i + 1) - 97))) (6 * j + 2) (nI (cd (i + 2) - 61)))))] : va_W)) := hD
        refine W.eq (g2 := F0 m 48 ls [.int (nI 1)]) rfl ?_
        refine lv_if_eq (tgt := 58) hx hb dX5_isPart_48 (by decide) (fun c => absurd c (by decide)) (fun _ => ?_)
        refine lv_aload_n hx hb dX5_isPart_51 rfl (lv_at hl 0 rfl) ?_
        have e3 : stg cd (i + 3) = 3 := by rw [stg_s, e2]; exact if_pos (by omega)
        by_cases hs52 : i + 3 < n ∧ 48 ≤ cd (i + 3) ∧ cd (i + 3) ≤ 57
        · skip
          obtain ⟨hs52a, hs52b, hs52c⟩ := hs52
          refine q_V (As := []) (rest := []) ⟨hx, hb, hml, hown, hts⟩ (c_X5_isGift l C mo kp tw fl v o n (i + 3) j cd (upd (upd (upd (upd td ((6 * j) + 5) (-1)) (6 * j + 0) (nI (cd i - 48))) (6 * j + 1) (nI (cd (i + 1) - 97))) (6 * j + 2) (nI (cd (i + 2) - 61))) (by omega) hcd (by omega) (by omega) (by omega) (by omega) e3) (cwV 0 hts gX5_isPart_X5_isGift rfl rfl rfl (by decide +kernel) ⟨Nat.le_of_ble_eq_true rfl, Nat.le_of_ble_eq_true rfl⟩) hK hP hD hS hA [0, 1, 2, 3, 4] (by decide) rfl 0 rfl rfl rfl rfl hl.1 rfl (Nat.le_of_ble_eq_true rfl) dX5_isPart_52 (Nat.zero_le _) (Nat.zero_le _) (fun r w1 H locs hQ hP hD hS => ?_)
          obtain ⟨k1, g1, td1, rfl, rfl, hgi, ht2, htk⟩ := hQ
          have hP : va_P C.1 vwCl (wO C mo (evm kp (nI n) tw (nI k1) fl (nI j)) v o ++ ([(mo 4, .inl (C.2.1, 60, .inl (fun k => nI (cd k)))), (mo 5, .inl (C.2.1, 84, .inl td1))] : va_W)) H := hP
          have hD : va_D (q_A (wO C mo (evm kp (nI n) tw (nI i) fl (nI j)) v o ++ ([(mo 4, .inl (C.2.1, 60, .inl (fun k => nI (cd k)))), (mo 5, .inl (C.2.1, 84, .inl td))] : va_W)) s) (wO C mo (evm kp (nI n) tw (nI k1) fl (nI j)) v o ++ ([(mo 4, .inl (C.2.1, 60, .inl (fun k => nI (cd k)))), (mo 5, .inl (C.2.1, 84, .inl td1))] : va_W)) := hD
          refine W.eq (g2 := F0 m 55 ls [.int (nI 1)]) rfl ?_
          refine lv_if_ne (tgt := 60) hx hb dX5_isPart_55 (by decide) (fun _ => ?_) (fun c => absurd c (by decide))
          refine lv_aload_n hx hb dX5_isPart_60 rfl (lv_at hl 0 rfl) ?_
          refine lv_bipush (v := nI 62) hx hb dX5_isPart_61 (by decide) ?_
          refine lv_bipush (v := nI 62) hx hb dX5_isPart_63 (by decide) ?_
          have hgn := hgi.2.1
          by_cases hs65 : k1 < n ∧ 62 ≤ cd k1 ∧ cd k1 ≤ 62
          · skip
            obtain ⟨hs65a, hs65b, hs65c⟩ := hs65
            refine q_V (As := [.int (nI 62), .int (nI 62)]) (rest := []) ⟨hx, hb, hml, hown, hts⟩ (c1_X5_isAt l C mo kp tw fl (nI j) v o n k1 cd 62 62 (by omega) hcd (by omega) (by omega) (by omega) ⟨by omega, by omega, by omega⟩) (cwV 2 hts gX5_isPart_X5_isAt rfl rfl rfl (by decide +kernel) ⟨Nat.le_of_ble_eq_true rfl, Nat.le_of_ble_eq_true rfl⟩) hK hP hD hS hA [0, 1, 2, 3] (by decide) rfl 0 rfl rfl rfl rfl hl.1 rfl (Nat.le_of_ble_eq_true rfl) dX5_isPart_65 (Nat.zero_le _) (Nat.zero_le _) (fun r w1 H locs hQ hP hD hS => ?_)
            obtain ⟨rfl, rfl⟩ := hQ
            have hP : va_P C.1 vwCl (wO C mo (evm kp (nI n) tw (nI k1) fl (nI j)) v o ++ ([(mo 4, .inl (C.2.1, 60, .inl (fun k => nI (cd k)))), (mo 5, .inl (C.2.1, 84, .inl td1))] : va_W)) H := hP
            have hD : va_D (q_A (wO C mo (evm kp (nI n) tw (nI i) fl (nI j)) v o ++ ([(mo 4, .inl (C.2.1, 60, .inl (fun k => nI (cd k)))), (mo 5, .inl (C.2.1, 84, .inl td))] : va_W)) s) (wO C mo (evm kp (nI n) tw (nI k1) fl (nI j)) v o ++ ([(mo 4, .inl (C.2.1, 60, .inl (fun k => nI (cd k)))), (mo 5, .inl (C.2.1, 84, .inl td1))] : va_W)) := hD
            refine W.eq (g2 := F0 m 68 ls [.int (nI 1)]) rfl ?_
            refine lv_if_ne (tgt := 73) hx hb dX5_isPart_68 (by decide) (fun _ => ?_) (fun c => absurd c (by decide))
            refine lv_aload_n hx hb dX5_isPart_73 rfl (lv_at hl 0 rfl) ?_
            refine lv_dup hx hb dX5_isPart_74 rfl ?_
            refine va_get (ci := 5) (v := .int (nI k1)) (C := RX5) (T := TX5) (N := 13) hx hb hts hin5 hown hK.1 hP 0 rfl rfl 7 (by decide) hf153 (fun _ h9 => h9) rfl dX5_isPart_75 ?_
            refine lv_iconst (v := nI 1) hx hb dX5_isPart_78 (by decide) ?_
            refine lv_iadd hx hb dX5_isPart_79 ?_
            refine q_ti (y := nI (k1 + 1)) (nI_add _ _) ?_
            refine va_put (ci := 5) (v := .int (nI (k1 + 1))) (ty := .int) (C := RX5) (T := TX5) (N := 13) hx hb hts hin5 tyX5 tyX5_ok nmX5 hown hK.1 hP hD hS 0 rfl rfl 7 (by decide) hf153 (fun _ h9 => h9) rfl (by decide +kernel) rfl rfl (Nat.le_of_ble_eq_true rfl) dX5_isPart_80 (fun H locs hP hD hS => ?_)
            have hP : va_P C.1 vwCl (wO C mo (evm kp (nI n) tw (nI (k1 + 1)) fl (nI j)) v o ++ ([(mo 4, .inl (C.2.1, 60, .inl (fun k => nI (cd k)))), (mo 5, .inl (C.2.1, 84, .inl td1))] : va_W)) H := hP
            have hD : va_D (q_A (wO C mo (evm kp (nI n) tw (nI i) fl (nI j)) v o ++ ([(mo 4, .inl (C.2.1, 60, .inl (fun k => nI (cd k)))), (mo 5, .inl (C.2.1, 84, .inl td))] : va_W)) s) (wO C mo (evm kp (nI n) tw (nI (k1 + 1)) fl (nI j)) v o ++ ([(mo 4, .inl (C.2.1, 60, .inl (fun k => nI (cd k)))), (mo 5, .inl (C.2.1, 84, .inl td1))] : va_W)) := hD
            refine lv_aload_n hx hb dX5_isPart_83 rfl (lv_at hl 0 rfl) ?_
            refine lv_iconst (v := nI 3) hx hb dX5_isPart_84 (by decide) ?_
            refine lv_bipush (v := nI 97) hx hb dX5_isPart_85 (by decide) ?_
            refine lv_bipush (v := nI 100) hx hb dX5_isPart_87 (by decide) ?_
            have hc62 : cd k1 = 62 := by omega
            have e6 := mvArrow hgi hc62
            by_cases hs89 : k1 + 1 < n ∧ 97 ≤ cd (k1 + 1) ∧ cd (k1 + 1) ≤ 100
            · skip
              obtain ⟨hs89a, hs89b, hs89c⟩ := hs89
              refine q_V (As := [.int (nI 3), .int (nI 97), .int (nI 100)]) (rest := []) ⟨hx, hb, hml, hown, hts⟩ (c_X5_isSign l C mo kp tw fl v o n (k1 + 1) j cd td1 3 97 100 (by omega) hcd (by omega) (by omega) (by omega) (by omega) (by omega) (by omega)) (cwV 3 hts gX5_isPart_X5_isSign rfl rfl rfl (by decide +kernel) ⟨Nat.le_of_ble_eq_true rfl, Nat.le_of_ble_eq_true rfl⟩) hK hP hD hS hA [0, 1, 2, 3, 4] (by decide) rfl 0 rfl rfl rfl rfl hl.1 rfl (Nat.le_of_ble_eq_true rfl) dX5_isPart_89 (Nat.zero_le _) (Nat.zero_le _) (fun r w1 H locs hQ hP hD hS => ?_)
              obtain ⟨rfl, rfl⟩ := hQ
              have hP : va_P C.1 vwCl (wO C mo (evm kp (nI n) tw (nI (k1 + 2)) fl (nI j)) v o ++ ([(mo 4, .inl (C.2.1, 60, .inl (fun k => nI (cd k)))), (mo 5, .inl (C.2.1, 84, .inl (upd td1 (6 * j + 3) (nI (cd (k1 + 1) - 97)))))] : va_W)) H := hP
              have hD : va_D (q_A (wO C mo (evm kp (nI n) tw (nI i) fl (nI j)) v o ++ ([(mo 4, .inl (C.2.1, 60, .inl (fun k => nI (cd k)))), (mo 5, .inl (C.2.1, 84, .inl td))] : va_W)) s) (wO C mo (evm kp (nI n) tw (nI (k1 + 2)) fl (nI j)) v o ++ ([(mo 4, .inl (C.2.1, 60, .inl (fun k => nI (cd k)))), (mo 5, .inl (C.2.1, 84, .inl (upd td1 (6 * j + 3) (nI (cd (k1 + 1) - 97)))))] : va_W)) := hD
              refine W.eq (g2 := F0 m 92 ls [.int (nI 1)]) rfl ?_
              refine lv_if_eq (tgt := 123) hx hb dX5_isPart_92 (by decide) (fun c => absurd c (by decide)) (fun _ => ?_)
              refine lv_aload_n hx hb dX5_isPart_95 rfl (lv_at hl 0 rfl) ?_
              refine lv_iconst (v := nI 4) hx hb dX5_isPart_96 (by decide) ?_
              refine lv_bipush (v := nI 97) hx hb dX5_isPart_97 (by decide) ?_
              refine lv_bipush (v := nI 100) hx hb dX5_isPart_99 (by decide) ?_
              have e7 : stg cd (k1 + 2) = 7 := by rw [stg_s, e6]; exact if_pos ⟨hs89b, hs89c⟩
              by_cases hs101 : k1 + 2 < n ∧ 97 ≤ cd (k1 + 2) ∧ cd (k1 + 2) ≤ 100
              · skip
                obtain ⟨hs101a, hs101b, hs101c⟩ := hs101
                refine q_V (As := [.int (nI 4), .int (nI 97), .int (nI 100)]) (rest := []) ⟨hx, hb, hml, hown, hts⟩ (c_X5_isSign l C mo kp tw fl v o n (k1 + 2) j cd (upd td1 (6 * j + 3) (nI (cd (k1 + 1) - 97))) 4 97 100 (by omega) hcd (by omega) (by omega) (by omega) (by omega) (by omega) (by omega)) (cwV 3 hts gX5_isPart_X5_isSign rfl rfl rfl (by decide +kernel) ⟨Nat.le_of_ble_eq_true rfl, Nat.le_of_ble_eq_true rfl⟩) hK hP hD hS hA [0, 1, 2, 3, 4] (by decide) rfl 0 rfl rfl rfl rfl hl.1 rfl (Nat.le_of_ble_eq_true rfl) dX5_isPart_101 (Nat.zero_le _) (Nat.zero_le _) (fun r w1 H locs hQ hP hD hS => ?_)
                obtain ⟨rfl, rfl⟩ := hQ
                have hP : va_P C.1 vwCl (wO C mo (evm kp (nI n) tw (nI (k1 + 3)) fl (nI j)) v o ++ ([(mo 4, .inl (C.2.1, 60, .inl (fun k => nI (cd k)))), (mo 5, .inl (C.2.1, 84, .inl (upd (upd td1 (6 * j + 3) (nI (cd (k1 + 1) - 97))) (6 * j + 4) (nI (cd (k1 + 2) - 97)))))] : va_W)) H := hP
                have hD : va_D (q_A (wO C mo (evm kp (nI n) tw (nI i) fl (nI j)) v o ++ ([(mo 4, .inl (C.2.1, 60, .inl (fun k => nI (cd k)))), (mo 5, .inl (C.2.1, 84, .inl td))] : va_W)) s) (wO C mo (evm kp (nI n) tw (nI (k1 + 3)) fl (nI j)) v o ++ ([(mo 4, .inl (C.2.1, 60, .inl (fun k => nI (cd k)))), (mo 5, .inl (C.2.1, 84, .inl (upd (upd td1 (6 * j + 3) (nI (cd (k1 + 1) - 97))) (6 * j + 4) (nI (cd (k1 + 2) - 97)))))] : va_W)) := hD
                refine W.eq (g2 := F0 m 104 ls [.int (nI 1)]) rfl ?_
                refine lv_if_eq (tgt := 123) hx hb dX5_isPart_104 (by decide) (fun c => absurd c (by decide)) (fun _ => ?_)
                refine lv_aload_n hx hb dX5_isPart_107 rfl (lv_at hl 0 rfl) ?_
                refine lv_iconst (v := nI 5) hx hb dX5_isPart_108 (by decide) ?_
                refine lv_bipush (v := nI 48) hx hb dX5_isPart_109 (by decide) ?_
                refine lv_bipush (v := nI 56) hx hb dX5_isPart_111 (by decide) ?_
                have e8 : stg cd (k1 + 3) = 8 := by rw [stg_s, e7]; exact if_pos ⟨hs101b, hs101c⟩
                by_cases hs113 : k1 + 3 < n ∧ 48 ≤ cd (k1 + 3) ∧ cd (k1 + 3) ≤ 56
                · skip
                  obtain ⟨hs113a, hs113b, hs113c⟩ := hs113
                  refine q_V (As := [.int (nI 5), .int (nI 48), .int (nI 56)]) (rest := []) ⟨hx, hb, hml, hown, hts⟩ (c_X5_isSign l C mo kp tw fl v o n (k1 + 3) j cd (upd (upd td1 (6 * j + 3) (nI (cd (k1 + 1) - 97))) (6 * j + 4) (nI (cd (k1 + 2) - 97))) 5 48 56 (by omega) hcd (by omega) (by omega) (by omega) (by omega) (by omega) (by omega)) (cwV 3 hts gX5_isPart_X5_isSign rfl rfl rfl (by decide +kernel) ⟨Nat.le_of_ble_eq_true rfl, Nat.le_of_ble_eq_true rfl⟩) hK hP hD hS hA [0, 1, 2, 3, 4] (by decide) rfl 0 rfl rfl rfl rfl hl.1 rfl (Nat.le_of_ble_eq_true rfl) dX5_isPart_113 (Nat.zero_le _) (Nat.zero_le _) (fun r w1 H locs hQ hP hD hS => ?_)
                  obtain ⟨rfl, rfl⟩ := hQ
                  have hP : va_P C.1 vwCl (wO C mo (evm kp (nI n) tw (nI (k1 + 4)) fl (nI j)) v o ++ ([(mo 4, .inl (C.2.1, 60, .inl (fun k => nI (cd k)))), (mo 5, .inl (C.2.1, 84, .inl (upd (upd (upd td1 (6 * j + 3) (nI (cd (k1 + 1) - 97))) (6 * j + 4) (nI (cd (k1 + 2) - 97))) (6 * j + 5) (nI (cd (k1 + 3) - 48)))))] : va_W)) H := hP
                  have hD : va_D (q_A (wO C mo (evm kp (nI n) tw (nI i) fl (nI j)) v o ++ ([(mo 4, .inl (C.2.1, 60, .inl (fun k => nI (cd k)))), (mo 5, .inl (C.2.1, 84, .inl td))] : va_W)) s) (wO C mo (evm kp (nI n) tw (nI (k1 + 4)) fl (nI j)) v o ++ ([(mo 4, .inl (C.2.1, 60, .inl (fun k => nI (cd k)))), (mo 5, .inl (C.2.1, 84, .inl (upd (upd (upd td1 (6 * j + 3) (nI (cd (k1 + 1) - 97))) (6 * j + 4) (nI (cd (k1 + 2) - 97))) (6 * j + 5) (nI (cd (k1 + 3) - 48)))))] : va_W)) := hD
                  refine W.eq (g2 := F0 m 116 ls [.int (nI 1)]) rfl ?_
                  refine lv_if_eq (tgt := 123) hx hb dX5_isPart_116 (by decide) (fun c => absurd c (by decide)) (fun _ => ?_)
                  refine lv_iconst (v := nI 1) hx hb dX5_isPart_119 (by decide) ?_
                  refine lv_goto (tgt := 124) hx hb dX5_isPart_120 (by decide) ?_
                  exact q_zret hx hb hr hlocks rfl (w1 := wO C mo (evm kp (nI n) tw (nI (k1 + 4)) fl (nI j)) v o ++ ([(mo 4, .inl (C.2.1, 60, .inl (fun k => nI (cd k)))), (mo 5, .inl (C.2.1, 84, .inl (upd (upd (upd td1 (6 * j + 3) (nI (cd (k1 + 1) - 97))) (6 * j + 4) (nI (cd (k1 + 2) - 97))) (6 * j + 5) (nI (cd (k1 + 3) - 48)))))] : va_W)) hP hS rfl dX5_isPart_124 (Or.inl ⟨_, _, rfl, rfl, paOk_2 h0 hs21b hs21c hs33b hs33c (by omega) hgi (fun k hk => by rw [pk_un (by omega), pk_un (by omega), pk_un (by omega), htk _ (by omega), pk_un (by omega), pk_un (by omega), pk_un (by omega), pk_un (by omega)]) (by rw [pk_un (by omega), pk_un (by omega), pk_un (by omega), htk _ (by omega), pk_un (by omega), pk_un (by omega)]; exact pk_us) (by rw [pk_un (by omega), pk_un (by omega), pk_un (by omega), htk _ (by omega), pk_un (by omega)]; exact pk_us) (by rw [pk_un (by omega), pk_un (by omega), pk_un (by omega)]; exact ht2) (by rw [pk_un (by omega), pk_un (by omega)]; exact pk_us) (by rw [pk_un (by omega)]; exact pk_us) pk_us hc62 ⟨hs89b, hs89c⟩ ⟨hs101b, hs101c⟩ ⟨hs113b, hs113c⟩ (by omega)⟩)
                · skip
                  refine q_V (As := [.int (nI 5), .int (nI 48), .int (nI 56)]) (rest := []) ⟨hx, hb, hml, hown, hts⟩ (c0_X5_isSign l C mo kp tw fl v o n (k1 + 3) j cd (upd (upd td1 (6 * j + 3) (nI (cd (k1 + 1) - 97))) (6 * j + 4) (nI (cd (k1 + 2) - 97))) 5 48 56 (by omega) hcd (by omega) (by omega) (by omega) hs113) (cwV 3 hts gX5_isPart_X5_isSign rfl rfl rfl (by decide +kernel) ⟨Nat.le_of_ble_eq_true rfl, Nat.le_of_ble_eq_true rfl⟩) hK hP hD hS hA [0, 1, 2, 3, 4] (by decide) rfl 0 rfl rfl rfl rfl hl.1 rfl (Nat.le_of_ble_eq_true rfl) dX5_isPart_113 (Nat.zero_le _) (Nat.zero_le _) (fun r w1 H locs hQ hP hD hS => ?_)
                  obtain ⟨rfl, rfl⟩ := hQ
                  have hP : va_P C.1 vwCl (wO C mo (evm kp (nI n) tw (nI (k1 + 3)) (nI (flN (k1 + 3) n)) (nI j)) v o ++ ([(mo 4, .inl (C.2.1, 60, .inl (fun k => nI (cd k)))), (mo 5, .inl (C.2.1, 84, .inl (upd (upd td1 (6 * j + 3) (nI (cd (k1 + 1) - 97))) (6 * j + 4) (nI (cd (k1 + 2) - 97)))))] : va_W)) H := hP
                  have hD : va_D (q_A (wO C mo (evm kp (nI n) tw (nI i) fl (nI j)) v o ++ ([(mo 4, .inl (C.2.1, 60, .inl (fun k => nI (cd k)))), (mo 5, .inl (C.2.1, 84, .inl td))] : va_W)) s) (wO C mo (evm kp (nI n) tw (nI (k1 + 3)) (nI (flN (k1 + 3) n)) (nI j)) v o ++ ([(mo 4, .inl (C.2.1, 60, .inl (fun k => nI (cd k)))), (mo 5, .inl (C.2.1, 84, .inl (upd (upd td1 (6 * j + 3) (nI (cd (k1 + 1) - 97))) (6 * j + 4) (nI (cd (k1 + 2) - 97)))))] : va_W)) := hD
                  refine W.eq (g2 := F0 m 116 ls [.int (nI 0)]) rfl ?_
                  refine lv_if_eq (tgt := 123) hx hb dX5_isPart_116 (by decide) (fun _ => ?_) (fun c => absurd (by decide) c)
                  refine lv_iconst (v := nI 0) hx hb dX5_isPart_123 (by decide) ?_
                  exact q_zret hx hb hr hlocks rfl (w1 := wO C mo (evm kp (nI n) tw (nI (k1 + 3)) (nI (flN (k1 + 3) n)) (nI j)) v o ++ ([(mo 4, .inl (C.2.1, 60, .inl (fun k => nI (cd k)))), (mo 5, .inl (C.2.1, 84, .inl (upd (upd td1 (6 * j + 3) (nI (cd (k1 + 1) - 97))) (6 * j + 4) (nI (cd (k1 + 2) - 97)))))] : va_W)) hP hS rfl dX5_isPart_124 (Or.inr ⟨_, _, _, rfl, rfl, paBad_of (by omega) (by rw [e8]; decide) (by rw [e8]; decide) (fun q => by rw [stg_s, e8]; exact if_neg (fun r => hs113 ⟨q, r⟩))⟩)
              · skip
                refine q_V (As := [.int (nI 4), .int (nI 97), .int (nI 100)]) (rest := []) ⟨hx, hb, hml, hown, hts⟩ (c0_X5_isSign l C mo kp tw fl v o n (k1 + 2) j cd (upd td1 (6 * j + 3) (nI (cd (k1 + 1) - 97))) 4 97 100 (by omega) hcd (by omega) (by omega) (by omega) hs101) (cwV 3 hts gX5_isPart_X5_isSign rfl rfl rfl (by decide +kernel) ⟨Nat.le_of_ble_eq_true rfl, Nat.le_of_ble_eq_true rfl⟩) hK hP hD hS hA [0, 1, 2, 3, 4] (by decide) rfl 0 rfl rfl rfl rfl hl.1 rfl (Nat.le_of_ble_eq_true rfl) dX5_isPart_101 (Nat.zero_le _) (Nat.zero_le _) (fun r w1 H locs hQ hP hD hS => ?_)
                obtain ⟨rfl, rfl⟩ := hQ
                have hP : va_P C.1 vwCl (wO C mo (evm kp (nI n) tw (nI (k1 + 2)) (nI (flN (k1 + 2) n)) (nI j)) v o ++ ([(mo 4, .inl (C.2.1, 60, .inl (fun k => nI (cd k)))), (mo 5, .inl (C.2.1, 84, .inl (upd td1 (6 * j + 3) (nI (cd (k1 + 1) - 97)))))] : va_W)) H := hP
                have hD : va_D (q_A (wO C mo (evm kp (nI n) tw (nI i) fl (nI j)) v o ++ ([(mo 4, .inl (C.2.1, 60, .inl (fun k => nI (cd k)))), (mo 5, .inl (C.2.1, 84, .inl td))] : va_W)) s) (wO C mo (evm kp (nI n) tw (nI (k1 + 2)) (nI (flN (k1 + 2) n)) (nI j)) v o ++ ([(mo 4, .inl (C.2.1, 60, .inl (fun k => nI (cd k)))), (mo 5, .inl (C.2.1, 84, .inl (upd td1 (6 * j + 3) (nI (cd (k1 + 1) - 97)))))] : va_W)) := hD
                refine W.eq (g2 := F0 m 104 ls [.int (nI 0)]) rfl ?_
                refine lv_if_eq (tgt := 123) hx hb dX5_isPart_104 (by decide) (fun _ => ?_) (fun c => absurd (by decide) c)
                refine lv_iconst (v := nI 0) hx hb dX5_isPart_123 (by decide) ?_
                exact q_zret hx hb hr hlocks rfl (w1 := wO C mo (evm kp (nI n) tw (nI (k1 + 2)) (nI (flN (k1 + 2) n)) (nI j)) v o ++ ([(mo 4, .inl (C.2.1, 60, .inl (fun k => nI (cd k)))), (mo 5, .inl (C.2.1, 84, .inl (upd td1 (6 * j + 3) (nI (cd (k1 + 1) - 97)))))] : va_W)) hP hS rfl dX5_isPart_124 (Or.inr ⟨_, _, _, rfl, rfl, paBad_of (by omega) (by rw [e7]; decide) (by rw [e7]; decide) (fun q => by rw [stg_s, e7]; exact if_neg (fun r => hs101 ⟨q, r⟩))⟩)
            · skip
              refine q_V (As := [.int (nI 3), .int (nI 97), .int (nI 100)]) (rest := []) ⟨hx, hb, hml, hown, hts⟩ (c0_X5_isSign l C mo kp tw fl v o n (k1 + 1) j cd td1 3 97 100 (by omega) hcd (by omega) (by omega) (by omega) hs89) (cwV 3 hts gX5_isPart_X5_isSign rfl rfl rfl (by decide +kernel) ⟨Nat.le_of_ble_eq_true rfl, Nat.le_of_ble_eq_true rfl⟩) hK hP hD hS hA [0, 1, 2, 3, 4] (by decide) rfl 0 rfl rfl rfl rfl hl.1 rfl (Nat.le_of_ble_eq_true rfl) dX5_isPart_89 (Nat.zero_le _) (Nat.zero_le _) (fun r w1 H locs hQ hP hD hS => ?_)
              obtain ⟨rfl, rfl⟩ := hQ
              have hP : va_P C.1 vwCl (wO C mo (evm kp (nI n) tw (nI (k1 + 1)) (nI (flN (k1 + 1) n)) (nI j)) v o ++ ([(mo 4, .inl (C.2.1, 60, .inl (fun k => nI (cd k)))), (mo 5, .inl (C.2.1, 84, .inl td1))] : va_W)) H := hP
              have hD : va_D (q_A (wO C mo (evm kp (nI n) tw (nI i) fl (nI j)) v o ++ ([(mo 4, .inl (C.2.1, 60, .inl (fun k => nI (cd k)))), (mo 5, .inl (C.2.1, 84, .inl td))] : va_W)) s) (wO C mo (evm kp (nI n) tw (nI (k1 + 1)) (nI (flN (k1 + 1) n)) (nI j)) v o ++ ([(mo 4, .inl (C.2.1, 60, .inl (fun k => nI (cd k)))), (mo 5, .inl (C.2.1, 84, .inl td1))] : va_W)) := hD
              refine W.eq (g2 := F0 m 92 ls [.int (nI 0)]) rfl ?_
              refine lv_if_eq (tgt := 123) hx hb dX5_isPart_92 (by decide) (fun _ => ?_) (fun c => absurd (by decide) c)
              refine lv_iconst (v := nI 0) hx hb dX5_isPart_123 (by decide) ?_
              exact q_zret hx hb hr hlocks rfl (w1 := wO C mo (evm kp (nI n) tw (nI (k1 + 1)) (nI (flN (k1 + 1) n)) (nI j)) v o ++ ([(mo 4, .inl (C.2.1, 60, .inl (fun k => nI (cd k)))), (mo 5, .inl (C.2.1, 84, .inl td1))] : va_W)) hP hS rfl dX5_isPart_124 (Or.inr ⟨_, _, _, rfl, rfl, paBad_of (by omega) (by rw [e6]; decide) (by rw [e6]; decide) (fun q => by rw [stg_s, e6]; exact if_neg (fun r => hs89 ⟨q, r⟩))⟩)
          · skip
            refine q_V (As := [.int (nI 62), .int (nI 62)]) (rest := []) ⟨hx, hb, hml, hown, hts⟩ (c0_X5_isAt l C mo kp tw fl (nI j) v o n k1 cd 62 62 (by omega) hcd (by omega) (by omega) (by omega) hs65) (cwV 2 hts gX5_isPart_X5_isAt rfl rfl rfl (by decide +kernel) ⟨Nat.le_of_ble_eq_true rfl, Nat.le_of_ble_eq_true rfl⟩) hK hP hD hS hA [0, 1, 2, 3] (by decide) rfl 0 rfl rfl rfl rfl hl.1 rfl (Nat.le_of_ble_eq_true rfl) dX5_isPart_65 (Nat.zero_le _) (Nat.zero_le _) (fun r w1 H locs hQ hP hD hS => ?_)
            obtain ⟨rfl, rfl⟩ := hQ
            have hP : va_P C.1 vwCl (wO C mo (evm kp (nI n) tw (nI k1) fl (nI j)) v o ++ ([(mo 4, .inl (C.2.1, 60, .inl (fun k => nI (cd k)))), (mo 5, .inl (C.2.1, 84, .inl td1))] : va_W)) H := hP
            have hD : va_D (q_A (wO C mo (evm kp (nI n) tw (nI i) fl (nI j)) v o ++ ([(mo 4, .inl (C.2.1, 60, .inl (fun k => nI (cd k)))), (mo 5, .inl (C.2.1, 84, .inl td))] : va_W)) s) (wO C mo (evm kp (nI n) tw (nI k1) fl (nI j)) v o ++ ([(mo 4, .inl (C.2.1, 60, .inl (fun k => nI (cd k)))), (mo 5, .inl (C.2.1, 84, .inl td1))] : va_W)) := hD
            refine W.eq (g2 := F0 m 68 ls [.int (nI 0)]) rfl ?_
            refine lv_if_ne (tgt := 73) hx hb dX5_isPart_68 (by decide) (fun c => absurd c (by decide)) (fun _ => ?_)
            refine lv_iconst (v := nI 1) hx hb dX5_isPart_71 (by decide) ?_
            exact q_zret hx hb hr hlocks rfl (w1 := wO C mo (evm kp (nI n) tw (nI k1) fl (nI j)) v o ++ ([(mo 4, .inl (C.2.1, 60, .inl (fun k => nI (cd k)))), (mo 5, .inl (C.2.1, 84, .inl td1))] : va_W)) hP hS rfl dX5_isPart_72 (Or.inl ⟨_, _, rfl, rfl, paOk_1 h0 hs21b hs21c hs33b hs33c (by omega) hgi (fun k hk => by rw [htk _ (by omega), pk_un (by omega), pk_un (by omega), pk_un (by omega), pk_un (by omega)]) ((htk _ (by omega)).trans (by rw [pk_un (by omega), pk_un (by omega)]; exact pk_us)) ((htk _ (by omega)).trans (by rw [pk_un (by omega)]; exact pk_us)) ht2 ((htk _ (by omega)).trans (by rw [pk_un (by omega), pk_un (by omega), pk_un (by omega)]; exact pk_us)) hs65⟩)
        · skip
          refine q_V (As := []) (rest := []) ⟨hx, hb, hml, hown, hts⟩ (c0_X5_isGift l C mo kp tw fl v o n (i + 3) j cd (upd (upd (upd (upd td ((6 * j) + 5) (-1)) (6 * j + 0) (nI (cd i - 48))) (6 * j + 1) (nI (cd (i + 1) - 97))) (6 * j + 2) (nI (cd (i + 2) - 61))) (by omega) hcd (by omega) hs52) (cwV 0 hts gX5_isPart_X5_isGift rfl rfl rfl (by decide +kernel) ⟨Nat.le_of_ble_eq_true rfl, Nat.le_of_ble_eq_true rfl⟩) hK hP hD hS hA [0, 1, 2, 3, 4] (by decide) rfl 0 rfl rfl rfl rfl hl.1 rfl (Nat.le_of_ble_eq_true rfl) dX5_isPart_52 (Nat.zero_le _) (Nat.zero_le _) (fun r w1 H locs hQ hP hD hS => ?_)
          obtain ⟨rfl, rfl⟩ := hQ
          have hP : va_P C.1 vwCl (wO C mo (evm kp (nI n) tw (nI (i + 3)) (nI (flN (i + 3) n)) (nI j)) v o ++ ([(mo 4, .inl (C.2.1, 60, .inl (fun k => nI (cd k)))), (mo 5, .inl (C.2.1, 84, .inl (upd (upd (upd (upd td ((6 * j) + 5) (-1)) (6 * j + 0) (nI (cd i - 48))) (6 * j + 1) (nI (cd (i + 1) - 97))) (6 * j + 2) (nI (cd (i + 2) - 61)))))] : va_W)) H := hP
          have hD : va_D (q_A (wO C mo (evm kp (nI n) tw (nI i) fl (nI j)) v o ++ ([(mo 4, .inl (C.2.1, 60, .inl (fun k => nI (cd k)))), (mo 5, .inl (C.2.1, 84, .inl td))] : va_W)) s) (wO C mo (evm kp (nI n) tw (nI (i + 3)) (nI (flN (i + 3) n)) (nI j)) v o ++ ([(mo 4, .inl (C.2.1, 60, .inl (fun k => nI (cd k)))), (mo 5, .inl (C.2.1, 84, .inl (upd (upd (upd (upd td ((6 * j) + 5) (-1)) (6 * j + 0) (nI (cd i - 48))) (6 * j + 1) (nI (cd (i + 1) - 97))) (6 * j + 2) (nI (cd (i + 2) - 61)))))] : va_W)) := hD
          refine W.eq (g2 := F0 m 55 ls [.int (nI 0)]) rfl ?_
          refine lv_if_ne (tgt := 60) hx hb dX5_isPart_55 (by decide) (fun c => absurd c (by decide)) (fun _ => ?_)
          refine lv_iconst (v := nI 0) hx hb dX5_isPart_58 (by decide) ?_
          exact q_zret hx hb hr hlocks rfl (w1 := wO C mo (evm kp (nI n) tw (nI (i + 3)) (nI (flN (i + 3) n)) (nI j)) v o ++ ([(mo 4, .inl (C.2.1, 60, .inl (fun k => nI (cd k)))), (mo 5, .inl (C.2.1, 84, .inl (upd (upd (upd (upd td ((6 * j) + 5) (-1)) (6 * j + 0) (nI (cd i - 48))) (6 * j + 1) (nI (cd (i + 1) - 97))) (6 * j + 2) (nI (cd (i + 2) - 61)))))] : va_W)) hP hS rfl dX5_isPart_59 (Or.inr ⟨_, _, _, rfl, rfl, paBad_of (by omega) (by rw [e3]; decide) (by rw [e3]; decide) (fun q => by rw [stg_s, e3]; exact fd10 (fun r => hs52 ⟨q, r⟩))⟩)
      · skip
        refine q_V (As := [.int (nI 2), .int (nI 61), .int (nI 61)]) (rest := []) ⟨hx, hb, hml, hown, hts⟩ (c0_X5_isSign l C mo kp tw fl v o n (i + 2) j cd (upd (upd (upd td ((6 * j) + 5) (-1)) (6 * j + 0) (nI (cd i - 48))) (6 * j + 1) (nI (cd (i + 1) - 97))) 2 61 61 (by omega) hcd (by omega) (by omega) (by omega) hs45) (cwV 3 hts gX5_isPart_X5_isSign rfl rfl rfl (by decide +kernel) ⟨Nat.le_of_ble_eq_true rfl, Nat.le_of_ble_eq_true rfl⟩) hK hP hD hS hA [0, 1, 2, 3, 4] (by decide) rfl 0 rfl rfl rfl rfl hl.1 rfl (Nat.le_of_ble_eq_true rfl) dX5_isPart_45 (Nat.zero_le _) (Nat.zero_le _) (fun r w1 H locs hQ hP hD hS => ?_)
        obtain ⟨rfl, rfl⟩ := hQ
        have hP : va_P C.1 vwCl (wO C mo (evm kp (nI n) tw (nI (i + 2)) (nI (flN (i + 2) n)) (nI j)) v o ++ ([(mo 4, .inl (C.2.1, 60, .inl (fun k => nI (cd k)))), (mo 5, .inl (C.2.1, 84, .inl (upd (upd (upd td ((6 * j) + 5) (-1)) (6 * j + 0) (nI (cd i - 48))) (6 * j + 1) (nI (cd (i + 1) - 97)))))] : va_W)) H := hP
        have hD : va_D (q_A (wO C mo (evm kp (nI n) tw (nI i) fl (nI j)) v o ++ ([(mo 4, .inl (C.2.1, 60, .inl (fun k => nI (cd k)))), (mo 5, .inl (C.2.1, 84, .inl td))] : va_W)) s) (wO C mo (evm kp (nI n) tw (nI (i + 2)) (nI (flN (i + 2) n)) (nI j)) v o ++ ([(mo 4, .inl (C.2.1, 60, .inl (fun k => nI (cd k)))), (mo 5, .inl (C.2.1, 84, .inl (upd (upd (upd td ((6 * j) + 5) (-1)) (6 * j + 0) (nI (cd i - 48))) (6 * j + 1) (nI (cd (i + 1) - 97)))))] : va_W)) := hD
        refine W.eq (g2 := F0 m 48 ls [.int (nI 0)]) rfl ?_
        refine lv_if_eq (tgt := 58) hx hb dX5_isPart_48 (by decide) (fun _ => ?_) (fun c => absurd (by decide) c)
        refine lv_iconst (v := nI 0) hx hb dX5_isPart_58 (by decide) ?_
        exact q_zret hx hb hr hlocks rfl (w1 := wO C mo (evm kp (nI n) tw (nI (i + 2)) (nI (flN (i + 2) n)) (nI j)) v o ++ ([(mo 4, .inl (C.2.1, 60, .inl (fun k => nI (cd k)))), (mo 5, .inl (C.2.1, 84, .inl (upd (upd (upd td ((6 * j) + 5) (-1)) (6 * j + 0) (nI (cd i - 48))) (6 * j + 1) (nI (cd (i + 1) - 97)))))] : va_W)) hP hS rfl dX5_isPart_59 (Or.inr ⟨_, _, _, rfl, rfl, paBad_of (by omega) (by rw [e2]; decide) (by rw [e2]; decide) (fun q => by rw [stg_s, e2]; exact if_neg (fun r => hs45 ⟨q, by omega, by omega⟩))⟩)
    · skip
      refine q_V (As := [.int (nI 1), .int (nI 97), .int (nI 100)]) (rest := []) ⟨hx, hb, hml, hown, hts⟩ (c0_X5_isSign l C mo kp tw fl v o n (i + 1) j cd (upd (upd td ((6 * j) + 5) (-1)) (6 * j + 0) (nI (cd i - 48))) 1 97 100 (by omega) hcd (by omega) (by omega) (by omega) hs33) (cwV 3 hts gX5_isPart_X5_isSign rfl rfl rfl (by decide +kernel) ⟨Nat.le_of_ble_eq_true rfl, Nat.le_of_ble_eq_true rfl⟩) hK hP hD hS hA [0, 1, 2, 3, 4] (by decide) rfl 0 rfl rfl rfl rfl hl.1 rfl (Nat.le_of_ble_eq_true rfl) dX5_isPart_33 (Nat.zero_le _) (Nat.zero_le _) (fun r w1 H locs hQ hP hD hS => ?_)
      obtain ⟨rfl, rfl⟩ := hQ
      have hP : va_P C.1 vwCl (wO C mo (evm kp (nI n) tw (nI (i + 1)) (nI (flN (i + 1) n)) (nI j)) v o ++ ([(mo 4, .inl (C.2.1, 60, .inl (fun k => nI (cd k)))), (mo 5, .inl (C.2.1, 84, .inl (upd (upd td ((6 * j) + 5) (-1)) (6 * j + 0) (nI (cd i - 48)))))] : va_W)) H := hP
      have hD : va_D (q_A (wO C mo (evm kp (nI n) tw (nI i) fl (nI j)) v o ++ ([(mo 4, .inl (C.2.1, 60, .inl (fun k => nI (cd k)))), (mo 5, .inl (C.2.1, 84, .inl td))] : va_W)) s) (wO C mo (evm kp (nI n) tw (nI (i + 1)) (nI (flN (i + 1) n)) (nI j)) v o ++ ([(mo 4, .inl (C.2.1, 60, .inl (fun k => nI (cd k)))), (mo 5, .inl (C.2.1, 84, .inl (upd (upd td ((6 * j) + 5) (-1)) (6 * j + 0) (nI (cd i - 48)))))] : va_W)) := hD
      refine W.eq (g2 := F0 m 36 ls [.int (nI 0)]) rfl ?_
      refine lv_if_eq (tgt := 58) hx hb dX5_isPart_36 (by decide) (fun _ => ?_) (fun c => absurd (by decide) c)
      refine lv_iconst (v := nI 0) hx hb dX5_isPart_58 (by decide) ?_
      exact q_zret hx hb hr hlocks rfl (w1 := wO C mo (evm kp (nI n) tw (nI (i + 1)) (nI (flN (i + 1) n)) (nI j)) v o ++ ([(mo 4, .inl (C.2.1, 60, .inl (fun k => nI (cd k)))), (mo 5, .inl (C.2.1, 84, .inl (upd (upd td ((6 * j) + 5) (-1)) (6 * j + 0) (nI (cd i - 48)))))] : va_W)) hP hS rfl dX5_isPart_59 (Or.inr ⟨_, _, _, rfl, rfl, paBad_of (by omega) (by rw [e1]; decide) (by rw [e1]; decide) (fun q => by rw [stg_s, e1]; exact if_neg (fun r => hs33 ⟨q, r⟩))⟩)
  · skip
    refine q_V (As := [.int (nI 0), .int (nI 48), .int (nI 51)]) (rest := []) ⟨hx, hb, hml, hown, hts⟩ (c0_X5_isSign l C mo kp tw fl v o n i j cd (upd td ((6 * j) + 5) (-1)) 0 48 51 (by omega) hcd (by omega) (by omega) (by omega) hs21) (cwV 3 hts gX5_isPart_X5_isSign rfl rfl rfl (by decide +kernel) ⟨Nat.le_of_ble_eq_true rfl, Nat.le_of_ble_eq_true rfl⟩) hK hP hD hS hA [0, 1, 2, 3, 4] (by decide) rfl 0 rfl rfl rfl rfl hl.1 rfl (Nat.le_of_ble_eq_true rfl) dX5_isPart_21 (Nat.zero_le _) (Nat.zero_le _) (fun r w1 H locs hQ hP hD hS => ?_)
    obtain ⟨rfl, rfl⟩ := hQ
    have hP : va_P C.1 vwCl (wO C mo (evm kp (nI n) tw (nI i) (nI (flN i n)) (nI j)) v o ++ ([(mo 4, .inl (C.2.1, 60, .inl (fun k => nI (cd k)))), (mo 5, .inl (C.2.1, 84, .inl (upd td ((6 * j) + 5) (-1))))] : va_W)) H := hP
    have hD : va_D (q_A (wO C mo (evm kp (nI n) tw (nI i) fl (nI j)) v o ++ ([(mo 4, .inl (C.2.1, 60, .inl (fun k => nI (cd k)))), (mo 5, .inl (C.2.1, 84, .inl td))] : va_W)) s) (wO C mo (evm kp (nI n) tw (nI i) (nI (flN i n)) (nI j)) v o ++ ([(mo 4, .inl (C.2.1, 60, .inl (fun k => nI (cd k)))), (mo 5, .inl (C.2.1, 84, .inl (upd td ((6 * j) + 5) (-1))))] : va_W)) := hD
    refine W.eq (g2 := F0 m 24 ls [.int (nI 0)]) rfl ?_
    refine lv_if_eq (tgt := 58) hx hb dX5_isPart_24 (by decide) (fun _ => ?_) (fun c => absurd (by decide) c)
    refine lv_iconst (v := nI 0) hx hb dX5_isPart_58 (by decide) ?_
    exact q_zret hx hb hr hlocks rfl (w1 := wO C mo (evm kp (nI n) tw (nI i) (nI (flN i n)) (nI j)) v o ++ ([(mo 4, .inl (C.2.1, 60, .inl (fun k => nI (cd k)))), (mo 5, .inl (C.2.1, 84, .inl (upd td ((6 * j) + 5) (-1))))] : va_W)) hP hS rfl dX5_isPart_59 (Or.inr ⟨_, _, _, rfl, rfl, paBad_of (by omega) (by rw [h0]; decide) (by rw [h0]; decide) (fun q => by rw [stg_s, h0]; exact if_neg (fun r => hs21 ⟨q, r⟩))⟩)
set_option maxHeartbeats 4000000 in
set_option maxRecDepth 100000 in
theorem c_X5_isText (l : Launch) (C : q_C) (mo : Nat → Nat) (kp tw pl fl tl : Int32) (v o : Nat → Nat) (n : Nat) (cd : Nat → Nat) (td : Nat → Int32) (hn : n ≤ 60) (hcd : ∀ k, k < n → cd k < 2 ^ 31) : q_M C l yX5_isText wsX5_isText 5 109 [.ref (mo 0)] (wO C mo (evm kp (nI n) tw pl fl tl) v o ++ ([(mo 4, .inl (C.2.1, 60, .inl (fun k => nI (cd k)))), (mo 5, .inl (C.2.1, 84, .inl td))] : va_W)) (fun r w => (∃ p j td1, r = some (.int (nI 1)) ∧ w = wO C mo (evm kp (nI n) tw (nI p) (nI 0) (nI j)) v o ++ ([(mo 4, .inl (C.2.1, 60, .inl (fun k => nI (cd k)))), (mo 5, .inl (C.2.1, 84, .inl td1))] : va_W) ∧ txOk cd n j td1) ∨ (∃ p f j td1, r = some (.int (nI 0)) ∧ w = wO C mo (evm kp (nI n) tw (nI p) (nI f) (nI j)) v o ++ ([(mo 4, .inl (C.2.1, 60, .inl (fun k => nI (cd k)))), (mo 5, .inl (C.2.1, 84, .inl td1))] : va_W) ∧ txBad cd n p f)) := by
  refine q_head (cc := cX5_isText) (maxL := 2) (ret := (some .boolean)) (by decide +kernel) rfl (Nat.le_of_ble_eq_true rfl) ?_
  intro p e s m below meth c hx hb hr hlocks hml hown hts hK hP hD hS hA ls hl
  have hl : lv_has ls 2 [(0, .ref (mo 0))] := hl
  have hf150 := hts (.fieldLink RX5 150 "RestedArmsModel" "typed" "I") (by decide +kernel)
  have hf153 := hts (.fieldLink RX5 153 "RestedArmsModel" "at" "I") (by decide +kernel)
  have hf156 := hts (.fieldLink RX5 156 "RestedArmsModel" "isFault" "Z") (by decide +kernel)
  have hf167 := hts (.fieldLink RX5 167 "RestedArmsModel" "tolds" "I") (by decide +kernel)
  have hin5 : ∀ w ∈ u_ws RX5 TX5 13, w ∈ wsX5_isText := by decide +kernel
  refine lv_aload_n hx hb dX5_isText_0 rfl (lv_at hl 0 rfl) ?_
  refine lv_iconst (v := nI 0) hx hb dX5_isText_1 (by decide) ?_
  refine va_put (ci := 5) (v := .int (nI 0)) (ty := .int) (C := RX5) (T := TX5) (N := 13) hx hb hts hin5 tyX5 tyX5_ok nmX5 hown hK.1 hP hD hS 0 rfl rfl 7 (by decide) hf153 (fun _ h9 => h9) rfl (by decide +kernel) rfl rfl (Nat.le_of_ble_eq_true rfl) dX5_isText_2 (fun H locs hP hD hS => ?_)
  have hP : va_P C.1 vwCl (wO C mo (evm kp (nI n) tw (nI 0) fl tl) v o ++ ([(mo 4, .inl (C.2.1, 60, .inl (fun k => nI (cd k)))), (mo 5, .inl (C.2.1, 84, .inl td))] : va_W)) H := hP
  have hD : va_D (q_A (wO C mo (evm kp (nI n) tw pl fl tl) v o ++ ([(mo 4, .inl (C.2.1, 60, .inl (fun k => nI (cd k)))), (mo 5, .inl (C.2.1, 84, .inl td))] : va_W)) s) (wO C mo (evm kp (nI n) tw (nI 0) fl tl) v o ++ ([(mo 4, .inl (C.2.1, 60, .inl (fun k => nI (cd k)))), (mo 5, .inl (C.2.1, 84, .inl td))] : va_W)) := hD
  refine lv_aload_n hx hb dX5_isText_5 rfl (lv_at hl 0 rfl) ?_
  refine lv_iconst (v := nI 0) hx hb dX5_isText_6 (by decide) ?_
  refine va_put (ci := 5) (v := .int (nI 0)) (ty := .int) (C := RX5) (T := TX5) (N := 13) hx hb hts hin5 tyX5 tyX5_ok nmX5 hown hK.1 hP hD hS 0 rfl rfl 10 (by decide) hf167 (fun _ h9 => h9) rfl (by decide +kernel) rfl rfl (Nat.le_of_ble_eq_true rfl) dX5_isText_7 (fun H locs hP hD hS => ?_)
  have hP : va_P C.1 vwCl (wO C mo (evm kp (nI n) tw (nI 0) fl (nI 0)) v o ++ ([(mo 4, .inl (C.2.1, 60, .inl (fun k => nI (cd k)))), (mo 5, .inl (C.2.1, 84, .inl td))] : va_W)) H := hP
  have hD : va_D (q_A (wO C mo (evm kp (nI n) tw pl fl tl) v o ++ ([(mo 4, .inl (C.2.1, 60, .inl (fun k => nI (cd k)))), (mo 5, .inl (C.2.1, 84, .inl td))] : va_W)) s) (wO C mo (evm kp (nI n) tw (nI 0) fl (nI 0)) v o ++ ([(mo 4, .inl (C.2.1, 60, .inl (fun k => nI (cd k)))), (mo 5, .inl (C.2.1, 84, .inl td))] : va_W)) := hD
  refine lv_aload_n hx hb dX5_isText_10 rfl (lv_at hl 0 rfl) ?_
  refine lv_iconst (v := nI 0) hx hb dX5_isText_11 (by decide) ?_
  refine va_put (ci := 5) (v := .int (nI 0)) (ty := .boolean) (C := RX5) (T := TX5) (N := 13) hx hb hts hin5 tyX5 tyX5_ok nmX5 hown hK.1 hP hD hS 0 rfl rfl 8 (by decide) hf156 (fun _ h9 => h9) rfl (by decide +kernel) rfl rfl (Nat.le_of_ble_eq_true rfl) dX5_isText_12 (fun H locs hP hD hS => ?_)
  have hP : va_P C.1 vwCl (wO C mo (evm kp (nI n) tw (nI 0) (nI 0) (nI 0)) v o ++ ([(mo 4, .inl (C.2.1, 60, .inl (fun k => nI (cd k)))), (mo 5, .inl (C.2.1, 84, .inl td))] : va_W)) H := hP
  have hD : va_D (q_A (wO C mo (evm kp (nI n) tw pl fl tl) v o ++ ([(mo 4, .inl (C.2.1, 60, .inl (fun k => nI (cd k)))), (mo 5, .inl (C.2.1, 84, .inl td))] : va_W)) s) (wO C mo (evm kp (nI n) tw (nI 0) (nI 0) (nI 0)) v o ++ ([(mo 4, .inl (C.2.1, 60, .inl (fun k => nI (cd k)))), (mo 5, .inl (C.2.1, 84, .inl td))] : va_W)) := hD
  refine lv_iconst (v := nI 1) hx hb dX5_isText_15 (by decide) ?_
  refine lv_istore_n (lv' := [(1, .int (nI 1)), (0, .ref (mo 0))]) hx hb dX5_isText_16 rfl hl (by decide) rfl (fun ls hl => ?_)
  have K17 : ∀ (n17 i17 : Nat), ∀ (p17 : Nat) (t17 : Nat → Int32), i17 ≤ 13 → 13 + 1 ≤ i17 + n17 → (stg cd p17 = 0) → (p17 ≤ n) → (5 * i17 ≤ p17) → (∀ b, tdR t17 i17 b (mvN cd b p17).2.2.2 ∧ (mvN cd b p17).1 = i17 + 1) → ∀ (H : Heap) (locs : List Loc) (ls : Array Slot), va_P C.1 vwCl (wO C mo (evm kp (nI n) tw (nI p17) (nI 0) (nI i17)) v o ++ ([(mo 4, .inl (C.2.1, 60, .inl (fun k => nI (cd k)))), (mo 5, .inl (C.2.1, 84, .inl t17))] : va_W)) H → va_D (q_A (wO C mo (evm kp (nI n) tw pl fl tl) v o ++ ([(mo 4, .inl (C.2.1, 60, .inl (fun k => nI (cd k)))), (mo 5, .inl (C.2.1, 84, .inl td))] : va_W)) s) (wO C mo (evm kp (nI n) tw (nI p17) (nI 0) (nI i17)) v o ++ ([(mo 4, .inl (C.2.1, 60, .inl (fun k => nI (cd k)))), (mo 5, .inl (C.2.1, 84, .inl t17))] : va_W)) → va_S (q_A (wO C mo (evm kp (nI n) tw pl fl tl) v o ++ ([(mo 4, .inl (C.2.1, 60, .inl (fun k => nI (cd k)))), (mo 5, .inl (C.2.1, 84, .inl td))] : va_W)) s) s.heap H locs → lv_has ls 2 [(1, .int (nI 1)), (0, .ref (mo 0))] → W p l e (q_R 5 109) s m ([.ref (mo 0)] : List Value).toArray below meth c H locs 0 0 (q_G C below (wO C mo (evm kp (nI n) tw pl fl tl) v o ++ ([(mo 4, .inl (C.2.1, 60, .inl (fun k => nI (cd k)))), (mo 5, .inl (C.2.1, 84, .inl td))] : va_W)) (fun r w => (∃ p j td1, r = some (.int (nI 1)) ∧ w = wO C mo (evm kp (nI n) tw (nI p) (nI 0) (nI j)) v o ++ ([(mo 4, .inl (C.2.1, 60, .inl (fun k => nI (cd k)))), (mo 5, .inl (C.2.1, 84, .inl td1))] : va_W) ∧ txOk cd n j td1) ∨ (∃ p f j td1, r = some (.int (nI 0)) ∧ w = wO C mo (evm kp (nI n) tw (nI p) (nI f) (nI j)) v o ++ ([(mo 4, .inl (C.2.1, 60, .inl (fun k => nI (cd k)))), (mo 5, .inl (C.2.1, 84, .inl td1))] : va_W) ∧ txBad cd n p f)) ([.ref (mo 0)] : List Value).toArray s) (F0 m 17 ls []) := by
    intro n17
    induction n17 with
    | zero => intro i17 p17 t17 q1 q2; exact absurd q2 (by omega)
    | succ n17 ih17 =>
      intro i17 p17 t17 hi17 hn17 hs17 hp17 hl17 hq17 H locs ls hP hD hS hl
      refine lv_iload_n hx hb dX5_isText_17 rfl (lv_at hl 0 rfl) ?_
      refine lv_if_eq (tgt := 70) hx hb dX5_isText_18 (by decide) (fun c => absurd c (by decide)) (fun _ => ?_)
      refine lv_aload_n hx hb dX5_isText_21 rfl (lv_at hl 1 rfl) ?_
      refine q_V (As := []) (rest := []) ⟨hx, hb, hml, hown, hts⟩ (c_X5_isPart l C mo kp tw (nI 0) v o n p17 i17 cd t17 (by omega) hcd hs17 (by omega) (by omega)) (cwV 0 hts gX5_isText_X5_isPart rfl rfl rfl (by decide +kernel) ⟨Nat.le_of_ble_eq_true rfl, Nat.le_of_ble_eq_true rfl⟩) hK hP hD hS hA [0, 1, 2, 3, 4] (by decide) rfl 0 rfl rfl rfl rfl hl.1 rfl (Nat.le_of_ble_eq_true rfl) dX5_isText_22 (Nat.zero_le _) (Nat.zero_le _) (fun r w1 H locs hQ hP hD hS => ?_)
      rcases hQ with ⟨k1, td1, rfl, rfl, hpa⟩ | ⟨k1, f1, td1, rfl, rfl, hpb⟩
      · skip
        have hP : va_P C.1 vwCl (wO C mo (evm kp (nI n) tw (nI k1) (nI 0) (nI i17)) v o ++ ([(mo 4, .inl (C.2.1, 60, .inl (fun k => nI (cd k)))), (mo 5, .inl (C.2.1, 84, .inl td1))] : va_W)) H := hP
        have hD : va_D (q_A (wO C mo (evm kp (nI n) tw pl fl tl) v o ++ ([(mo 4, .inl (C.2.1, 60, .inl (fun k => nI (cd k)))), (mo 5, .inl (C.2.1, 84, .inl td))] : va_W)) s) (wO C mo (evm kp (nI n) tw (nI k1) (nI 0) (nI i17)) v o ++ ([(mo 4, .inl (C.2.1, 60, .inl (fun k => nI (cd k)))), (mo 5, .inl (C.2.1, 84, .inl td1))] : va_W)) := hD
        refine W.eq (g2 := F0 m 25 ls [.int (nI 1)]) rfl ?_
        refine lv_if_ne (tgt := 30) hx hb dX5_isText_25 (by decide) (fun _ => ?_) (fun c => absurd c (by decide))
        refine lv_aload_n hx hb dX5_isText_30 rfl (lv_at hl 1 rfl) ?_
        refine lv_dup hx hb dX5_isText_31 rfl ?_
        refine va_get (ci := 5) (v := .int (nI i17)) (C := RX5) (T := TX5) (N := 13) hx hb hts hin5 hown hK.1 hP 0 rfl rfl 10 (by decide) hf167 (fun _ h9 => h9) rfl dX5_isText_32 ?_
        refine lv_iconst (v := nI 1) hx hb dX5_isText_35 (by decide) ?_
        refine lv_iadd hx hb dX5_isText_36 ?_
        refine q_ti (y := nI (i17 + 1)) (nI_add _ _) ?_
        refine va_put (ci := 5) (v := .int (nI (i17 + 1))) (ty := .int) (C := RX5) (T := TX5) (N := 13) hx hb hts hin5 tyX5 tyX5_ok nmX5 hown hK.1 hP hD hS 0 rfl rfl 10 (by decide) hf167 (fun _ h9 => h9) rfl (by decide +kernel) rfl rfl (Nat.le_of_ble_eq_true rfl) dX5_isText_37 (fun H locs hP hD hS => ?_)
        have hP : va_P C.1 vwCl (wO C mo (evm kp (nI n) tw (nI k1) (nI 0) (nI (i17 + 1))) v o ++ ([(mo 4, .inl (C.2.1, 60, .inl (fun k => nI (cd k)))), (mo 5, .inl (C.2.1, 84, .inl td1))] : va_W)) H := hP
        have hD : va_D (q_A (wO C mo (evm kp (nI n) tw pl fl tl) v o ++ ([(mo 4, .inl (C.2.1, 60, .inl (fun k => nI (cd k)))), (mo 5, .inl (C.2.1, 84, .inl td))] : va_W)) s) (wO C mo (evm kp (nI n) tw (nI k1) (nI 0) (nI (i17 + 1))) v o ++ ([(mo 4, .inl (C.2.1, 60, .inl (fun k => nI (cd k)))), (mo 5, .inl (C.2.1, 84, .inl td1))] : va_W)) := hD
        refine lv_aload_n hx hb dX5_isText_40 rfl (lv_at hl 1 rfl) ?_
        refine lv_bipush (v := nI 59) hx hb dX5_isText_41 (by decide) ?_
        refine lv_bipush (v := nI 59) hx hb dX5_isText_43 (by decide) ?_
        have hpn := hpa.2.1
        by_cases hs45 : k1 < n ∧ 59 ≤ cd k1 ∧ cd k1 ≤ 59
        · skip
          obtain ⟨hs45a, hs45b, hs45c⟩ := hs45
          refine q_V (As := [.int (nI 59), .int (nI 59)]) (rest := []) ⟨hx, hb, hml, hown, hts⟩ (c1_X5_isAt l C mo kp tw (nI 0) (nI (i17 + 1)) v o n k1 cd 59 59 (by omega) hcd (by omega) (by omega) (by omega) ⟨by omega, by omega, by omega⟩) (cwV 2 hts gX5_isText_X5_isAt rfl rfl rfl (by decide +kernel) ⟨Nat.le_of_ble_eq_true rfl, Nat.le_of_ble_eq_true rfl⟩) hK hP hD hS hA [0, 1, 2, 3] (by decide) rfl 0 rfl rfl rfl rfl hl.1 rfl (Nat.le_of_ble_eq_true rfl) dX5_isText_45 (Nat.zero_le _) (Nat.zero_le _) (fun r w1 H locs hQ hP hD hS => ?_)
          obtain ⟨rfl, rfl⟩ := hQ
          have hP : va_P C.1 vwCl (wO C mo (evm kp (nI n) tw (nI k1) (nI 0) (nI (i17 + 1))) v o ++ ([(mo 4, .inl (C.2.1, 60, .inl (fun k => nI (cd k)))), (mo 5, .inl (C.2.1, 84, .inl td1))] : va_W)) H := hP
          have hD : va_D (q_A (wO C mo (evm kp (nI n) tw pl fl tl) v o ++ ([(mo 4, .inl (C.2.1, 60, .inl (fun k => nI (cd k)))), (mo 5, .inl (C.2.1, 84, .inl td))] : va_W)) s) (wO C mo (evm kp (nI n) tw (nI k1) (nI 0) (nI (i17 + 1))) v o ++ ([(mo 4, .inl (C.2.1, 60, .inl (fun k => nI (cd k)))), (mo 5, .inl (C.2.1, 84, .inl td1))] : va_W)) := hD
          refine W.eq (g2 := F0 m 48 ls [.int (nI 1)]) rfl ?_
          refine lv_istore_n (lv' := [(1, .int (nI 1)), (0, .ref (mo 0))]) hx hb dX5_isText_48 rfl hl (by decide) rfl (fun ls hl => ?_)
          refine lv_aload_n hx hb dX5_isText_49 rfl (lv_at hl 1 rfl) ?_
          refine lv_dup hx hb dX5_isText_50 rfl ?_
          refine va_get (ci := 5) (v := .int (nI k1)) (C := RX5) (T := TX5) (N := 13) hx hb hts hin5 hown hK.1 hP 0 rfl rfl 7 (by decide) hf153 (fun _ h9 => h9) rfl dX5_isText_51 ?_
          refine lv_iload_n hx hb dX5_isText_54 rfl (lv_at hl 0 rfl) ?_
          refine lv_if_eq (tgt := 62) hx hb dX5_isText_55 (by decide) (fun c => absurd c (by decide)) (fun _ => ?_)
          refine lv_iconst (v := nI 1) hx hb dX5_isText_58 (by decide) ?_
          refine lv_goto (tgt := 63) hx hb dX5_isText_59 (by decide) ?_
          refine lv_iadd hx hb dX5_isText_63 ?_
          refine q_ti (y := nI (k1 + 1)) (nI_add _ _) ?_
          refine va_put (ci := 5) (v := .int (nI (k1 + 1))) (ty := .int) (C := RX5) (T := TX5) (N := 13) hx hb hts hin5 tyX5 tyX5_ok nmX5 hown hK.1 hP hD hS 0 rfl rfl 7 (by decide) hf153 (fun _ h9 => h9) rfl (by decide +kernel) rfl rfl (Nat.le_of_ble_eq_true rfl) dX5_isText_64 (fun H locs hP hD hS => ?_)
          have hP : va_P C.1 vwCl (wO C mo (evm kp (nI n) tw (nI (k1 + 1)) (nI 0) (nI (i17 + 1))) v o ++ ([(mo 4, .inl (C.2.1, 60, .inl (fun k => nI (cd k)))), (mo 5, .inl (C.2.1, 84, .inl td1))] : va_W)) H := hP
          have hD : va_D (q_A (wO C mo (evm kp (nI n) tw pl fl tl) v o ++ ([(mo 4, .inl (C.2.1, 60, .inl (fun k => nI (cd k)))), (mo 5, .inl (C.2.1, 84, .inl td))] : va_W)) s) (wO C mo (evm kp (nI n) tw (nI (k1 + 1)) (nI 0) (nI (i17 + 1))) v o ++ ([(mo 4, .inl (C.2.1, 60, .inl (fun k => nI (cd k)))), (mo 5, .inl (C.2.1, 84, .inl td1))] : va_W)) := hD
          refine lv_goto (tgt := 17) hx hb dX5_isText_67 (by decide) ?_
          have hc59 : cd k1 = 59 := by omega
          have hpl := hpa.1
          exact ih17 (i17 + 1) (k1 + 1) td1 (by omega) (by omega) (pa_semi hpa hc59) (by omega) (by omega) (pa_next hpa hc59 hq17) _ _ ls hP hD hS (lv_sub hl [0, 1] rfl)
        · skip
          refine q_V (As := [.int (nI 59), .int (nI 59)]) (rest := []) ⟨hx, hb, hml, hown, hts⟩ (c0_X5_isAt l C mo kp tw (nI 0) (nI (i17 + 1)) v o n k1 cd 59 59 (by omega) hcd (by omega) (by omega) (by omega) hs45) (cwV 2 hts gX5_isText_X5_isAt rfl rfl rfl (by decide +kernel) ⟨Nat.le_of_ble_eq_true rfl, Nat.le_of_ble_eq_true rfl⟩) hK hP hD hS hA [0, 1, 2, 3] (by decide) rfl 0 rfl rfl rfl rfl hl.1 rfl (Nat.le_of_ble_eq_true rfl) dX5_isText_45 (Nat.zero_le _) (Nat.zero_le _) (fun r w1 H locs hQ hP hD hS => ?_)
          obtain ⟨rfl, rfl⟩ := hQ
          have hP : va_P C.1 vwCl (wO C mo (evm kp (nI n) tw (nI k1) (nI 0) (nI (i17 + 1))) v o ++ ([(mo 4, .inl (C.2.1, 60, .inl (fun k => nI (cd k)))), (mo 5, .inl (C.2.1, 84, .inl td1))] : va_W)) H := hP
          have hD : va_D (q_A (wO C mo (evm kp (nI n) tw pl fl tl) v o ++ ([(mo 4, .inl (C.2.1, 60, .inl (fun k => nI (cd k)))), (mo 5, .inl (C.2.1, 84, .inl td))] : va_W)) s) (wO C mo (evm kp (nI n) tw (nI k1) (nI 0) (nI (i17 + 1))) v o ++ ([(mo 4, .inl (C.2.1, 60, .inl (fun k => nI (cd k)))), (mo 5, .inl (C.2.1, 84, .inl td1))] : va_W)) := hD
          refine W.eq (g2 := F0 m 48 ls [.int (nI 0)]) rfl ?_
          refine lv_istore_n (lv' := [(1, .int (nI 0)), (0, .ref (mo 0))]) hx hb dX5_isText_48 rfl hl (by decide) rfl (fun ls hl => ?_)
          refine lv_aload_n hx hb dX5_isText_49 rfl (lv_at hl 1 rfl) ?_
          refine lv_dup hx hb dX5_isText_50 rfl ?_
          refine va_get (ci := 5) (v := .int (nI k1)) (C := RX5) (T := TX5) (N := 13) hx hb hts hin5 hown hK.1 hP 0 rfl rfl 7 (by decide) hf153 (fun _ h9 => h9) rfl dX5_isText_51 ?_
          refine lv_iload_n hx hb dX5_isText_54 rfl (lv_at hl 0 rfl) ?_
          refine lv_if_eq (tgt := 62) hx hb dX5_isText_55 (by decide) (fun _ => ?_) (fun c => absurd (by decide) c)
          refine lv_iconst (v := nI 0) hx hb dX5_isText_62 (by decide) ?_
          refine lv_iadd hx hb dX5_isText_63 ?_
          refine q_ti (y := nI (k1 + 0)) (nI_add _ _) ?_
          refine q_ti (y := nI k1) rfl ?_
          refine va_put (ci := 5) (v := .int (nI k1)) (ty := .int) (C := RX5) (T := TX5) (N := 13) hx hb hts hin5 tyX5 tyX5_ok nmX5 hown hK.1 hP hD hS 0 rfl rfl 7 (by decide) hf153 (fun _ h9 => h9) rfl (by decide +kernel) rfl rfl (Nat.le_of_ble_eq_true rfl) dX5_isText_64 (fun H locs hP hD hS => ?_)
          have hP : va_P C.1 vwCl (wO C mo (evm kp (nI n) tw (nI k1) (nI 0) (nI (i17 + 1))) v o ++ ([(mo 4, .inl (C.2.1, 60, .inl (fun k => nI (cd k)))), (mo 5, .inl (C.2.1, 84, .inl td1))] : va_W)) H := hP
          have hD : va_D (q_A (wO C mo (evm kp (nI n) tw pl fl tl) v o ++ ([(mo 4, .inl (C.2.1, 60, .inl (fun k => nI (cd k)))), (mo 5, .inl (C.2.1, 84, .inl td))] : va_W)) s) (wO C mo (evm kp (nI n) tw (nI k1) (nI 0) (nI (i17 + 1))) v o ++ ([(mo 4, .inl (C.2.1, 60, .inl (fun k => nI (cd k)))), (mo 5, .inl (C.2.1, 84, .inl td1))] : va_W)) := hD
          refine lv_goto (tgt := 17) hx hb dX5_isText_67 (by decide) ?_
          refine lv_iload_n hx hb dX5_isText_17 rfl (lv_at hl 0 rfl) ?_
          refine lv_if_eq (tgt := 70) hx hb dX5_isText_18 (by decide) (fun _ => ?_) (fun c => absurd (by decide) c)
          refine lv_aload_n hx hb dX5_isText_70 rfl (lv_at hl 1 rfl) ?_
          refine lv_aload_n hx hb dX5_isText_71 rfl (lv_at hl 1 rfl) ?_
          refine va_get (ci := 5) (v := .int (nI k1)) (C := RX5) (T := TX5) (N := 13) hx hb hts hin5 hown hK.1 hP 0 rfl rfl 7 (by decide) hf153 (fun _ h9 => h9) rfl dX5_isText_72 ?_
          refine lv_aload_n hx hb dX5_isText_75 rfl (lv_at hl 1 rfl) ?_
          refine va_get (ci := 5) (v := .int (nI n)) (C := RX5) (T := TX5) (N := 13) hx hb hts hin5 hown hK.1 hP 0 rfl rfl 5 (by decide) hf150 (fun _ h9 => h9) rfl dX5_isText_76 ?_
          refine lv_icmp_ge (tgt := 86) hx hb dX5_isText_79 (by decide) (fun c79 => ?_) (fun c79 => ?_)
          · have c79 : n ≤ k1 := q_nge (by omega) (by omega) c79
            refine lv_iconst (v := nI 0) hx hb dX5_isText_86 (by decide) ?_
            refine va_put (ci := 5) (v := .int (nI 0)) (ty := .boolean) (C := RX5) (T := TX5) (N := 13) hx hb hts hin5 tyX5 tyX5_ok nmX5 hown hK.1 hP hD hS 0 rfl rfl 8 (by decide) hf156 (fun _ h9 => h9) rfl (by decide +kernel) rfl rfl (Nat.le_of_ble_eq_true rfl) dX5_isText_87 (fun H locs hP hD hS => ?_)
            have hP : va_P C.1 vwCl (wO C mo (evm kp (nI n) tw (nI k1) (nI 0) (nI (i17 + 1))) v o ++ ([(mo 4, .inl (C.2.1, 60, .inl (fun k => nI (cd k)))), (mo 5, .inl (C.2.1, 84, .inl td1))] : va_W)) H := hP
            have hD : va_D (q_A (wO C mo (evm kp (nI n) tw pl fl tl) v o ++ ([(mo 4, .inl (C.2.1, 60, .inl (fun k => nI (cd k)))), (mo 5, .inl (C.2.1, 84, .inl td))] : va_W)) s) (wO C mo (evm kp (nI n) tw (nI k1) (nI 0) (nI (i17 + 1))) v o ++ ([(mo 4, .inl (C.2.1, 60, .inl (fun k => nI (cd k)))), (mo 5, .inl (C.2.1, 84, .inl td1))] : va_W)) := hD
            refine lv_aload_n hx hb dX5_isText_90 rfl (lv_at hl 1 rfl) ?_
            refine va_get (ci := 5) (v := .int (nI k1)) (C := RX5) (T := TX5) (N := 13) hx hb hts hin5 hown hK.1 hP 0 rfl rfl 7 (by decide) hf153 (fun _ h9 => h9) rfl dX5_isText_91 ?_
            refine lv_aload_n hx hb dX5_isText_94 rfl (lv_at hl 1 rfl) ?_
            refine va_get (ci := 5) (v := .int (nI n)) (C := RX5) (T := TX5) (N := 13) hx hb hts hin5 hown hK.1 hP 0 rfl rfl 5 (by decide) hf150 (fun _ h9 => h9) rfl dX5_isText_95 ?_
            refine lv_icmp_ne (tgt := 105) hx hb dX5_isText_98 (by decide) (fun c98 => ?_) (fun c98 => ?_)
            · have c98 : k1 ≠ n := q_nne (by omega) (by omega) c98
              exact absurd c98 (by omega)
            have c98 : k1 = n := q_nne' (by omega) (by omega) c98
            refine lv_iconst (v := nI 1) hx hb dX5_isText_101 (by decide) ?_
            refine lv_goto (tgt := 106) hx hb dX5_isText_102 (by decide) ?_
            exact q_zret hx hb hr hlocks rfl (w1 := wO C mo (evm kp (nI n) tw (nI k1) (nI 0) (nI (i17 + 1))) v o ++ ([(mo 4, .inl (C.2.1, 60, .inl (fun k => nI (cd k)))), (mo 5, .inl (C.2.1, 84, .inl td1))] : va_W)) hP hS rfl dX5_isText_106 (Or.inl ⟨_, _, _, rfl, rfl, tx_ok hpa c98 hq17 (by omega)⟩)
          · have c79 : k1 < n := q_nge' (by omega) (by omega) c79
            refine lv_iconst (v := nI 1) hx hb dX5_isText_82 (by decide) ?_
            refine lv_goto (tgt := 87) hx hb dX5_isText_83 (by decide) ?_
            refine va_put (ci := 5) (v := .int (nI 1)) (ty := .boolean) (C := RX5) (T := TX5) (N := 13) hx hb hts hin5 tyX5 tyX5_ok nmX5 hown hK.1 hP hD hS 0 rfl rfl 8 (by decide) hf156 (fun _ h9 => h9) rfl (by decide +kernel) rfl rfl (Nat.le_of_ble_eq_true rfl) dX5_isText_87 (fun H locs hP hD hS => ?_)
            have hP : va_P C.1 vwCl (wO C mo (evm kp (nI n) tw (nI k1) (nI 1) (nI (i17 + 1))) v o ++ ([(mo 4, .inl (C.2.1, 60, .inl (fun k => nI (cd k)))), (mo 5, .inl (C.2.1, 84, .inl td1))] : va_W)) H := hP
            have hD : va_D (q_A (wO C mo (evm kp (nI n) tw pl fl tl) v o ++ ([(mo 4, .inl (C.2.1, 60, .inl (fun k => nI (cd k)))), (mo 5, .inl (C.2.1, 84, .inl td))] : va_W)) s) (wO C mo (evm kp (nI n) tw (nI k1) (nI 1) (nI (i17 + 1))) v o ++ ([(mo 4, .inl (C.2.1, 60, .inl (fun k => nI (cd k)))), (mo 5, .inl (C.2.1, 84, .inl td1))] : va_W)) := hD
            refine lv_aload_n hx hb dX5_isText_90 rfl (lv_at hl 1 rfl) ?_
            refine va_get (ci := 5) (v := .int (nI k1)) (C := RX5) (T := TX5) (N := 13) hx hb hts hin5 hown hK.1 hP 0 rfl rfl 7 (by decide) hf153 (fun _ h9 => h9) rfl dX5_isText_91 ?_
            refine lv_aload_n hx hb dX5_isText_94 rfl (lv_at hl 1 rfl) ?_
            refine va_get (ci := 5) (v := .int (nI n)) (C := RX5) (T := TX5) (N := 13) hx hb hts hin5 hown hK.1 hP 0 rfl rfl 5 (by decide) hf150 (fun _ h9 => h9) rfl dX5_isText_95 ?_
            refine lv_icmp_ne (tgt := 105) hx hb dX5_isText_98 (by decide) (fun c98 => ?_) (fun c98 => ?_)
            · have c98 : k1 ≠ n := q_nne (by omega) (by omega) c98
              refine lv_iconst (v := nI 0) hx hb dX5_isText_105 (by decide) ?_
              exact q_zret hx hb hr hlocks rfl (w1 := wO C mo (evm kp (nI n) tw (nI k1) (nI 1) (nI (i17 + 1))) v o ++ ([(mo 4, .inl (C.2.1, 60, .inl (fun k => nI (cd k)))), (mo 5, .inl (C.2.1, 84, .inl td1))] : va_W)) hP hS rfl dX5_isText_106 (Or.inr ⟨_, _, _, _, rfl, rfl, tx_bad hpa (by omega) hs45⟩)
            · have c98 : k1 = n := q_nne' (by omega) (by omega) c98
              exact absurd c98 (by omega)
      · skip
        have hP : va_P C.1 vwCl (wO C mo (evm kp (nI n) tw (nI k1) (nI f1) (nI i17)) v o ++ ([(mo 4, .inl (C.2.1, 60, .inl (fun k => nI (cd k)))), (mo 5, .inl (C.2.1, 84, .inl td1))] : va_W)) H := hP
        have hD : va_D (q_A (wO C mo (evm kp (nI n) tw pl fl tl) v o ++ ([(mo 4, .inl (C.2.1, 60, .inl (fun k => nI (cd k)))), (mo 5, .inl (C.2.1, 84, .inl td))] : va_W)) s) (wO C mo (evm kp (nI n) tw (nI k1) (nI f1) (nI i17)) v o ++ ([(mo 4, .inl (C.2.1, 60, .inl (fun k => nI (cd k)))), (mo 5, .inl (C.2.1, 84, .inl td1))] : va_W)) := hD
        refine W.eq (g2 := F0 m 25 ls [.int (nI 0)]) rfl ?_
        refine lv_if_ne (tgt := 30) hx hb dX5_isText_25 (by decide) (fun c => absurd c (by decide)) (fun _ => ?_)
        refine lv_iconst (v := nI 0) hx hb dX5_isText_28 (by decide) ?_
        exact q_zret hx hb hr hlocks rfl (w1 := wO C mo (evm kp (nI n) tw (nI k1) (nI f1) (nI i17)) v o ++ ([(mo 4, .inl (C.2.1, 60, .inl (fun k => nI (cd k)))), (mo 5, .inl (C.2.1, 84, .inl td1))] : va_W)) hP hS rfl dX5_isText_29 (Or.inr ⟨_, _, _, _, rfl, rfl, txBad_of hpb⟩)
  exact K17 (13 + 1 - 0) 0 0 td (by omega) (by omega) rfl (by omega) (by omega) (fun b => ⟨tdR_0 _ _, rfl⟩) _ _ ls hP hD hS (lv_sub hl [0, 1] rfl)
set_option maxHeartbeats 4000000 in
set_option maxRecDepth 100000 in
theorem c_X5_firstError (l : Launch) (C : q_C) (mo : Nat → Nat) (kp tw pl fl tl : Int32) (v o : Nat → Nat) (n : Nat) (cd : Nat → Nat) (td : Nat → Int32) (hn : n ≤ 60) (hcd : ∀ k, k < n → cd k < 2 ^ 31) : q_M C l yX5_firstError wsX5_firstError 6 130 [.ref (mo 0)] (wO C mo (evm kp (nI n) tw pl fl tl) v o ++ ([(mo 4, .inl (C.2.1, 60, .inl (fun k => nI (cd k)))), (mo 5, .inl (C.2.1, 84, .inl td))] : va_W)) (fun r w => ∃ p f j td1, r = some (.int (nI (errN cd n))) ∧ w = wO C mo (evm kp (nI n) (nI 0) (nI p) (nI f) (nI j)) v o ++ ([(mo 4, .inl (C.2.1, 60, .inl (fun k => nI (cd k)))), (mo 5, .inl (C.2.1, 84, .inl td1))] : va_W)) := by
  refine q_head (cc := cX5_firstError) (maxL := 2) (ret := (some .int)) (by decide +kernel) rfl (Nat.le_of_ble_eq_true rfl) ?_
  intro p e s m below meth c hx hb hr hlocks hml hown hts hK hP hD hS hA ls hl
  have hl : lv_has ls 2 [(0, .ref (mo 0))] := hl
  have hf150 := hts (.fieldLink RX5 150 "RestedArmsModel" "typed" "I") (by decide +kernel)
  have hf153 := hts (.fieldLink RX5 153 "RestedArmsModel" "at" "I") (by decide +kernel)
  have hf156 := hts (.fieldLink RX5 156 "RestedArmsModel" "isFault" "Z") (by decide +kernel)
  have hf42 := hts (.fieldLink RX5 42 "RestedArmsModel" "thrown" "I") (by decide +kernel)
  have hin5 : ∀ w ∈ u_ws RX5 TX5 13, w ∈ wsX5_firstError := by decide +kernel
  refine lv_aload_n hx hb dX5_firstError_0 rfl (lv_at hl 0 rfl) ?_
  refine lv_iconst (v := nI 0) hx hb dX5_firstError_1 (by decide) ?_
  refine va_put (ci := 5) (v := .int (nI 0)) (ty := .int) (C := RX5) (T := TX5) (N := 13) hx hb hts hin5 tyX5 tyX5_ok nmX5 hown hK.1 hP hD hS 0 rfl rfl 6 (by decide) hf42 (fun _ h9 => h9) rfl (by decide +kernel) rfl rfl (Nat.le_of_ble_eq_true rfl) dX5_firstError_2 (fun H locs hP hD hS => ?_)
  have hP : va_P C.1 vwCl (wO C mo (evm kp (nI n) (nI 0) pl fl tl) v o ++ ([(mo 4, .inl (C.2.1, 60, .inl (fun k => nI (cd k)))), (mo 5, .inl (C.2.1, 84, .inl td))] : va_W)) H := hP
  have hD : va_D (q_A (wO C mo (evm kp (nI n) tw pl fl tl) v o ++ ([(mo 4, .inl (C.2.1, 60, .inl (fun k => nI (cd k)))), (mo 5, .inl (C.2.1, 84, .inl td))] : va_W)) s) (wO C mo (evm kp (nI n) (nI 0) pl fl tl) v o ++ ([(mo 4, .inl (C.2.1, 60, .inl (fun k => nI (cd k)))), (mo 5, .inl (C.2.1, 84, .inl td))] : va_W)) := hD
  refine lv_aload_n hx hb dX5_firstError_5 rfl (lv_at hl 0 rfl) ?_
  refine q_V (As := []) (rest := []) ⟨hx, hb, hml, hown, hts⟩ (c_X5_isText l C mo kp (nI 0) pl fl tl v o n cd td (by omega) hcd) (cwV 0 hts gX5_firstError_X5_isText rfl rfl rfl (by decide +kernel) ⟨Nat.le_of_ble_eq_true rfl, Nat.le_of_ble_eq_true rfl⟩) hK hP hD hS hA [0, 1, 2, 3, 4] (by decide) rfl 0 rfl rfl rfl rfl hl.1 rfl (Nat.le_of_ble_eq_true rfl) dX5_firstError_6 (Nat.zero_le _) (Nat.zero_le _) (fun r w1 H locs hQ hP hD hS => ?_)
  rcases hQ with ⟨k1, j1, td1, rfl, rfl, hpx⟩ | ⟨k1, f1, j1, td1, rfl, rfl, hpx⟩
  · skip
    have hP : va_P C.1 vwCl (wO C mo (evm kp (nI n) (nI 0) (nI k1) (nI 0) (nI j1)) v o ++ ([(mo 4, .inl (C.2.1, 60, .inl (fun k => nI (cd k)))), (mo 5, .inl (C.2.1, 84, .inl td1))] : va_W)) H := hP
    have hD : va_D (q_A (wO C mo (evm kp (nI n) tw pl fl tl) v o ++ ([(mo 4, .inl (C.2.1, 60, .inl (fun k => nI (cd k)))), (mo 5, .inl (C.2.1, 84, .inl td))] : va_W)) s) (wO C mo (evm kp (nI n) (nI 0) (nI k1) (nI 0) (nI j1)) v o ++ ([(mo 4, .inl (C.2.1, 60, .inl (fun k => nI (cd k)))), (mo 5, .inl (C.2.1, 84, .inl td1))] : va_W)) := hD
    refine W.eq (g2 := F0 m 9 ls [.int (nI 1)]) rfl ?_
    refine lv_istore_n (lv' := [(1, .int (nI 1)), (0, .ref (mo 0))]) hx hb dX5_firstError_9 rfl hl (by decide) rfl (fun ls hl => ?_)
    refine lv_iload_n hx hb dX5_firstError_10 rfl (lv_at hl 0 rfl) ?_
    refine lv_if_ne (tgt := 28) hx hb dX5_firstError_11 (by decide) (fun _ => ?_) (fun c => absurd c (by decide))
    refine lv_aload_n hx hb dX5_firstError_28 rfl (lv_at hl 1 rfl) ?_
    refine va_get (ci := 5) (v := .int (nI n)) (C := RX5) (T := TX5) (N := 13) hx hb hts hin5 hown hK.1 hP 0 rfl rfl 5 (by decide) hf150 (fun _ h9 => h9) rfl dX5_firstError_29 ?_
    exact q_iret hx hb hr hlocks (w1 := wO C mo (evm kp (nI n) (nI 0) (nI k1) (nI 0) (nI j1)) v o ++ ([(mo 4, .inl (C.2.1, 60, .inl (fun k => nI (cd k)))), (mo 5, .inl (C.2.1, 84, .inl td1))] : va_W)) hP hS rfl dX5_firstError_32 (⟨_, _, _, _, by rw [whole_err hpx.1], rfl⟩)
  · skip
    have hP : va_P C.1 vwCl (wO C mo (evm kp (nI n) (nI 0) (nI k1) (nI f1) (nI j1)) v o ++ ([(mo 4, .inl (C.2.1, 60, .inl (fun k => nI (cd k)))), (mo 5, .inl (C.2.1, 84, .inl td1))] : va_W)) H := hP
    have hD : va_D (q_A (wO C mo (evm kp (nI n) tw pl fl tl) v o ++ ([(mo 4, .inl (C.2.1, 60, .inl (fun k => nI (cd k)))), (mo 5, .inl (C.2.1, 84, .inl td))] : va_W)) s) (wO C mo (evm kp (nI n) (nI 0) (nI k1) (nI f1) (nI j1)) v o ++ ([(mo 4, .inl (C.2.1, 60, .inl (fun k => nI (cd k)))), (mo 5, .inl (C.2.1, 84, .inl td1))] : va_W)) := hD
    refine W.eq (g2 := F0 m 9 ls [.int (nI 0)]) rfl ?_
    refine lv_istore_n (lv' := [(1, .int (nI 0)), (0, .ref (mo 0))]) hx hb dX5_firstError_9 rfl hl (by decide) rfl (fun ls hl => ?_)
    refine lv_iload_n hx hb dX5_firstError_10 rfl (lv_at hl 0 rfl) ?_
    refine lv_if_ne (tgt := 28) hx hb dX5_firstError_11 (by decide) (fun c => absurd c (by decide)) (fun _ => ?_)
    refine lv_aload_n hx hb dX5_firstError_14 rfl (lv_at hl 1 rfl) ?_
    refine va_get (ci := 5) (v := .int (nI f1)) (C := RX5) (T := TX5) (N := 13) hx hb hts hin5 hown hK.1 hP 0 rfl rfl 8 (by decide) hf156 (fun _ h9 => h9) rfl dX5_firstError_15 ?_
    have hf1 := tx_f hpx
    refine lv_if_eq (tgt := 28) hx hb dX5_firstError_18 (by decide) (fun c18 => ?_) (fun c18 => ?_)
    · have c18 : f1 = 0 := q_neq0 (by omega) (by omega) c18
      refine lv_aload_n hx hb dX5_firstError_28 rfl (lv_at hl 1 rfl) ?_
      refine va_get (ci := 5) (v := .int (nI n)) (C := RX5) (T := TX5) (N := 13) hx hb hts hin5 hown hK.1 hP 0 rfl rfl 5 (by decide) hf150 (fun _ h9 => h9) rfl dX5_firstError_29 ?_
      exact q_iret hx hb hr hlocks (w1 := wO C mo (evm kp (nI n) (nI 0) (nI k1) (nI f1) (nI j1)) v o ++ ([(mo 4, .inl (C.2.1, 60, .inl (fun k => nI (cd k)))), (mo 5, .inl (C.2.1, 84, .inl td1))] : va_W)) hP hS rfl dX5_firstError_32 (⟨_, _, _, _, by rw [tx_e0 hpx c18], rfl⟩)
    · have c18 : f1 ≠ 0 := q_neq0' (by omega) (by omega) c18
      refine lv_aload_n hx hb dX5_firstError_21 rfl (lv_at hl 1 rfl) ?_
      refine va_get (ci := 5) (v := .int (nI k1)) (C := RX5) (T := TX5) (N := 13) hx hb hts hin5 hown hK.1 hP 0 rfl rfl 7 (by decide) hf153 (fun _ h9 => h9) rfl dX5_firstError_22 ?_
      refine lv_goto (tgt := 32) hx hb dX5_firstError_25 (by decide) ?_
      exact q_iret hx hb hr hlocks (w1 := wO C mo (evm kp (nI n) (nI 0) (nI k1) (nI f1) (nI j1)) v o ++ ([(mo 4, .inl (C.2.1, 60, .inl (fun k => nI (cd k)))), (mo 5, .inl (C.2.1, 84, .inl td1))] : va_W)) hP hS rfl dX5_firstError_32 (⟨_, _, _, _, by rw [tx_e1 hpx c18], rfl⟩)
set_option maxHeartbeats 4000000 in
set_option maxRecDepth 100000 in
theorem c1_X5_read (l : Launch) (C : q_C) (mo : Nat → Nat) (kp tw pl fl tl : Int32) (v o : Nat → Nat) (y0 : Nat) (cd : Nat → Nat) (td : Nat → Int32) (hn : y0 ≤ 60) (hcd : ∀ k, k < y0 → cd k < 2 ^ 31) (hw : wholeN cd y0 = false) : q_M C l yX5_read wsX5_read 6 130 [.ref (mo 0)] (wO C mo (evm kp (nI y0) tw pl fl tl) v o ++ ([(mo 4, .inl (C.2.1, 60, .inl (fun k => nI (cd k)))), (mo 5, .inl (C.2.1, 84, .inl td))] : va_W)) (fun r w => ∃ p f j td1, r = some (.int (nI 0)) ∧ w = wO C mo (evm kp (nI y0) (nI 1) (nI p) (nI f) (nI j)) v o ++ ([(mo 4, .inl (C.2.1, 60, .inl (fun k => nI (cd k)))), (mo 5, .inl (C.2.1, 84, .inl td1))] : va_W)) := by
  refine q_head (cc := cX5_read) (maxL := 4) (ret := (some .int)) (by decide +kernel) rfl (Nat.le_of_ble_eq_true rfl) ?_
  intro p e s m below meth c hx hb hr hlocks hml hown hts hK hP hD hS hA ls hl
  have hl : lv_has ls 4 [(0, .ref (mo 0))] := hl
  have hf42 := hts (.fieldLink RX5 42 "RestedArmsModel" "thrown" "I") (by decide +kernel)
  have hin5 : ∀ w ∈ u_ws RX5 TX5 13, w ∈ wsX5_read := by decide +kernel
  refine lv_aload_n hx hb dX5_read_0 rfl (lv_at hl 0 rfl) ?_
  refine lv_iconst (v := nI 0) hx hb dX5_read_1 (by decide) ?_
  refine va_put (ci := 5) (v := .int (nI 0)) (ty := .int) (C := RX5) (T := TX5) (N := 13) hx hb hts hin5 tyX5 tyX5_ok nmX5 hown hK.1 hP hD hS 0 rfl rfl 6 (by decide) hf42 (fun _ h9 => h9) rfl (by decide +kernel) rfl rfl (Nat.le_of_ble_eq_true rfl) dX5_read_2 (fun H locs hP hD hS => ?_)
  have hP : va_P C.1 vwCl (wO C mo (evm kp (nI y0) (nI 0) pl fl tl) v o ++ ([(mo 4, .inl (C.2.1, 60, .inl (fun k => nI (cd k)))), (mo 5, .inl (C.2.1, 84, .inl td))] : va_W)) H := hP
  have hD : va_D (q_A (wO C mo (evm kp (nI y0) tw pl fl tl) v o ++ ([(mo 4, .inl (C.2.1, 60, .inl (fun k => nI (cd k)))), (mo 5, .inl (C.2.1, 84, .inl td))] : va_W)) s) (wO C mo (evm kp (nI y0) (nI 0) pl fl tl) v o ++ ([(mo 4, .inl (C.2.1, 60, .inl (fun k => nI (cd k)))), (mo 5, .inl (C.2.1, 84, .inl td))] : va_W)) := hD
  refine lv_aload_n hx hb dX5_read_5 rfl (lv_at hl 0 rfl) ?_
  refine q_V (As := []) (rest := []) ⟨hx, hb, hml, hown, hts⟩ (c_X5_isText l C mo kp (nI 0) pl fl tl v o y0 cd td (by omega) hcd) (cwV 0 hts gX5_read_X5_isText rfl rfl rfl (by decide +kernel) ⟨Nat.le_of_ble_eq_true rfl, Nat.le_of_ble_eq_true rfl⟩) hK hP hD hS hA [0, 1, 2, 3, 4] (by decide) rfl 0 rfl rfl rfl rfl hl.1 rfl (Nat.le_of_ble_eq_true rfl) dX5_read_6 (Nat.zero_le _) (Nat.zero_le _) (fun r w1 H locs hQ hP hD hS => ?_)
  rcases hQ with ⟨k1, j1, td1, rfl, rfl, hpx⟩ | ⟨k1, f1, j1, td1, rfl, rfl, hpx⟩
  · skip
    exact absurd (hpx.1.symm.trans hw) (by decide)
  · skip
    have hP : va_P C.1 vwCl (wO C mo (evm kp (nI y0) (nI 0) (nI k1) (nI f1) (nI j1)) v o ++ ([(mo 4, .inl (C.2.1, 60, .inl (fun k => nI (cd k)))), (mo 5, .inl (C.2.1, 84, .inl td1))] : va_W)) H := hP
    have hD : va_D (q_A (wO C mo (evm kp (nI y0) tw pl fl tl) v o ++ ([(mo 4, .inl (C.2.1, 60, .inl (fun k => nI (cd k)))), (mo 5, .inl (C.2.1, 84, .inl td))] : va_W)) s) (wO C mo (evm kp (nI y0) (nI 0) (nI k1) (nI f1) (nI j1)) v o ++ ([(mo 4, .inl (C.2.1, 60, .inl (fun k => nI (cd k)))), (mo 5, .inl (C.2.1, 84, .inl td1))] : va_W)) := hD
    refine W.eq (g2 := F0 m 9 ls [.int (nI 0)]) rfl ?_
    refine lv_if_ne (tgt := 18) hx hb dX5_read_9 (by decide) (fun c => absurd c (by decide)) (fun _ => ?_)
    refine lv_aload_n hx hb dX5_read_12 rfl (lv_at hl 0 rfl) ?_
    refine lv_iconst (v := nI 1) hx hb dX5_read_13 (by decide) ?_
    refine q_V (As := [.int (nI 1)]) (rest := []) ⟨hx, hb, hml, hown, hts⟩ (c_X5_fails l C mo kp (nI y0) (nI 0) (nI k1) (nI f1) (nI j1) v o 1) (cwV 1 hts gX5_read_X5_fails rfl rfl rfl (by decide +kernel) ⟨Nat.le_of_ble_eq_true rfl, Nat.le_of_ble_eq_true rfl⟩) hK hP hD hS hA [0, 1, 2] (by decide) rfl 0 rfl rfl rfl rfl hl.1 rfl (Nat.le_of_ble_eq_true rfl) dX5_read_14 (Nat.zero_le _) (Nat.zero_le _) (fun r w1 H locs hQ hP hD hS => ?_)
    obtain ⟨rfl, rfl⟩ := hQ
    have hP : va_P C.1 vwCl (wO C mo (evm kp (nI y0) (nI 1) (nI k1) (nI f1) (nI j1)) v o ++ ([(mo 4, .inl (C.2.1, 60, .inl (fun k => nI (cd k)))), (mo 5, .inl (C.2.1, 84, .inl td1))] : va_W)) H := hP
    have hD : va_D (q_A (wO C mo (evm kp (nI y0) tw pl fl tl) v o ++ ([(mo 4, .inl (C.2.1, 60, .inl (fun k => nI (cd k)))), (mo 5, .inl (C.2.1, 84, .inl td))] : va_W)) s) (wO C mo (evm kp (nI y0) (nI 1) (nI k1) (nI f1) (nI j1)) v o ++ ([(mo 4, .inl (C.2.1, 60, .inl (fun k => nI (cd k)))), (mo 5, .inl (C.2.1, 84, .inl td1))] : va_W)) := hD
    refine W.eq (g2 := F0 m 17 ls [.int (nI 0)]) rfl ?_
    exact q_iret hx hb hr hlocks (w1 := wO C mo (evm kp (nI y0) (nI 1) (nI k1) (nI f1) (nI j1)) v o ++ ([(mo 4, .inl (C.2.1, 60, .inl (fun k => nI (cd k)))), (mo 5, .inl (C.2.1, 84, .inl td1))] : va_W)) hP hS rfl dX5_read_17 (⟨_, _, _, _, rfl, rfl⟩)
set_option maxHeartbeats 4000000 in
set_option maxRecDepth 100000 in
theorem c_X5_read (l : Launch) (C : q_C) (mo : Nat → Nat) (tw pl fl tl : Int32) (v o : Nat → Nat) (y0 : Nat) (cd : Nat → Nat) (td : Nat → Int32) (ph : Nat → Bd) (r n : Nat) (pa : Nat → Int64) (b : Bd) (hn : y0 ≤ 60) (hcd : ∀ k, k < y0 → cd k < 2 ^ 31) (hr6 : r < 6) (hn6 : n ≤ 6) (hpa : mH ph r n pa) (hw : wholeN cd y0 = true) : q_M C l yX5_read wsX5_read 6 130 [.ref (mo 0)] (List.flatten [wO C mo (evm (nI n) (nI y0) tw pl fl tl) v o, ([(mo 1, .inl (C.2.2.1, 82, .inr (.inl (mB b))))] : va_W), ([(mo 3, .inl (C.2.2.1, 492, .inr (.inl pa)))] : va_W), ([(mo 4, .inl (C.2.1, 60, .inl (fun k => nI (cd k))))] : va_W), ([(mo 5, .inl (C.2.1, 84, .inl td))] : va_W)]) (fun r2 w => ∃ pa1 p f j td1, r2 = some (.int (nI (mvN cd b y0).1)) ∧ w = List.flatten [wO C mo (evm (nI (kC n)) (nI 0) (nI 0) (nI p) (nI f) (nI j)) v o, ([(mo 1, .inl (C.2.2.1, 82, .inr (.inl (mB ((mvN cd b y0).2.2.2)))))] : va_W), ([(mo 3, .inl (C.2.2.1, 492, .inr (.inl pa1)))] : va_W), ([(mo 4, .inl (C.2.1, 60, .inl (fun k => nI (cd k))))] : va_W), ([(mo 5, .inl (C.2.1, 84, .inl td1))] : va_W)] ∧ mH (upB ph (kJ n r) b) (kR n r) (kC n) pa1) := by
  refine q_head (cc := cX5_read) (maxL := 4) (ret := (some .int)) (by decide +kernel) rfl (Nat.le_of_ble_eq_true rfl) ?_
  intro p e s m below meth c hx hb hr hlocks hml hown hts hK hP hD hS hA ls hl
  have hl : lv_has ls 4 [(0, .ref (mo 0))] := hl
  have hf150 := hts (.fieldLink RX5 150 "RestedArmsModel" "typed" "I") (by decide +kernel)
  have hf167 := hts (.fieldLink RX5 167 "RestedArmsModel" "tolds" "I") (by decide +kernel)
  have hf23 := hts (.fieldLink RX5 23 "RestedArmsModel" "told" "[I") (by decide +kernel)
  have hf42 := hts (.fieldLink RX5 42 "RestedArmsModel" "thrown" "I") (by decide +kernel)
  have hin5 : ∀ w ∈ u_ws RX5 TX5 13, w ∈ wsX5_read := by decide +kernel
  refine lv_aload_n hx hb dX5_read_0 rfl (lv_at hl 0 rfl) ?_
  refine lv_iconst (v := nI 0) hx hb dX5_read_1 (by decide) ?_
  refine va_put (ci := 5) (v := .int (nI 0)) (ty := .int) (C := RX5) (T := TX5) (N := 13) hx hb hts hin5 tyX5 tyX5_ok nmX5 hown hK.1 hP hD hS 0 rfl rfl 6 (by decide) hf42 (fun _ h9 => h9) rfl (by decide +kernel) rfl rfl (Nat.le_of_ble_eq_true rfl) dX5_read_2 (fun H locs hP hD hS => ?_)
  rw [q_fset [wO C mo (evm (nI n) (nI y0) tw pl fl tl) v o, ([(mo 1, .inl (C.2.2.1, 82, .inr (.inl (mB b))))] : va_W), ([(mo 3, .inl (C.2.2.1, 492, .inr (.inl pa)))] : va_W), ([(mo 4, .inl (C.2.1, 60, .inl (fun k => nI (cd k))))] : va_W), ([(mo 5, .inl (C.2.1, 84, .inl td))] : va_W)] 0 0 0 (B := wO C mo (evm (nI n) (nI y0) tw pl fl tl) v o) rfl (Nat.le_of_ble_eq_true rfl) rfl] at hP hD
  have hP : va_P C.1 vwCl (List.flatten [wO C mo (evm (nI n) (nI y0) (nI 0) pl fl tl) v o, ([(mo 1, .inl (C.2.2.1, 82, .inr (.inl (mB b))))] : va_W), ([(mo 3, .inl (C.2.2.1, 492, .inr (.inl pa)))] : va_W), ([(mo 4, .inl (C.2.1, 60, .inl (fun k => nI (cd k))))] : va_W), ([(mo 5, .inl (C.2.1, 84, .inl td))] : va_W)]) H := hP
  have hD : va_D (q_A (List.flatten [wO C mo (evm (nI n) (nI y0) tw pl fl tl) v o, ([(mo 1, .inl (C.2.2.1, 82, .inr (.inl (mB b))))] : va_W), ([(mo 3, .inl (C.2.2.1, 492, .inr (.inl pa)))] : va_W), ([(mo 4, .inl (C.2.1, 60, .inl (fun k => nI (cd k))))] : va_W), ([(mo 5, .inl (C.2.1, 84, .inl td))] : va_W)]) s) (List.flatten [wO C mo (evm (nI n) (nI y0) (nI 0) pl fl tl) v o, ([(mo 1, .inl (C.2.2.1, 82, .inr (.inl (mB b))))] : va_W), ([(mo 3, .inl (C.2.2.1, 492, .inr (.inl pa)))] : va_W), ([(mo 4, .inl (C.2.1, 60, .inl (fun k => nI (cd k))))] : va_W), ([(mo 5, .inl (C.2.1, 84, .inl td))] : va_W)]) := hD
  refine lv_aload_n hx hb dX5_read_5 rfl (lv_at hl 0 rfl) ?_
  refine q_VB (cs := [wO C mo (evm (nI n) (nI y0) (nI 0) pl fl tl) v o, ([(mo 4, .inl (C.2.1, 60, .inl (fun k => nI (cd k))))] : va_W), ([(mo 5, .inl (C.2.1, 84, .inl td))] : va_W)]) (As := []) (rest := []) ⟨hx, hb, hml, hown, hts⟩ (c_X5_isText l C mo (nI n) (nI 0) pl fl tl v o y0 cd td (by omega) hcd) (cwV 0 hts gX5_read_X5_isText rfl rfl rfl (by decide +kernel) ⟨Nat.le_of_ble_eq_true rfl, Nat.le_of_ble_eq_true rfl⟩) hK hP hD hS hA [0, 3, 4] (by decide) rfl 0 rfl rfl rfl rfl hl.1 rfl (Nat.le_of_ble_eq_true rfl) dX5_read_6 (Nat.zero_le _) (Nat.zero_le _) (fun r w1 H locs hQ hF hS => ?_)
  rcases hQ with ⟨k1, j1, td1, rfl, rfl, hpx⟩ | ⟨k1, f1, j1, td1, rfl, rfl, hpx⟩
  · skip
    obtain ⟨hP, hD⟩ := hF [wO C mo (evm (nI n) (nI y0) (nI 0) (nI k1) (nI 0) (nI j1)) v o, ([(mo 4, .inl (C.2.1, 60, .inl (fun k => nI (cd k))))] : va_W), ([(mo 5, .inl (C.2.1, 84, .inl td1))] : va_W)] rfl rfl
    have hP : va_P C.1 vwCl (List.flatten [wO C mo (evm (nI n) (nI y0) (nI 0) (nI k1) (nI 0) (nI j1)) v o, ([(mo 1, .inl (C.2.2.1, 82, .inr (.inl (mB b))))] : va_W), ([(mo 3, .inl (C.2.2.1, 492, .inr (.inl pa)))] : va_W), ([(mo 4, .inl (C.2.1, 60, .inl (fun k => nI (cd k))))] : va_W), ([(mo 5, .inl (C.2.1, 84, .inl td1))] : va_W)]) H := hP
    have hD : va_D (q_A (List.flatten [wO C mo (evm (nI n) (nI y0) tw pl fl tl) v o, ([(mo 1, .inl (C.2.2.1, 82, .inr (.inl (mB b))))] : va_W), ([(mo 3, .inl (C.2.2.1, 492, .inr (.inl pa)))] : va_W), ([(mo 4, .inl (C.2.1, 60, .inl (fun k => nI (cd k))))] : va_W), ([(mo 5, .inl (C.2.1, 84, .inl td))] : va_W)]) s) (List.flatten [wO C mo (evm (nI n) (nI y0) (nI 0) (nI k1) (nI 0) (nI j1)) v o, ([(mo 1, .inl (C.2.2.1, 82, .inr (.inl (mB b))))] : va_W), ([(mo 3, .inl (C.2.2.1, 492, .inr (.inl pa)))] : va_W), ([(mo 4, .inl (C.2.1, 60, .inl (fun k => nI (cd k))))] : va_W), ([(mo 5, .inl (C.2.1, 84, .inl td1))] : va_W)]) := hD
    refine W.eq (g2 := F0 m 9 ls [.int (nI 1)]) rfl ?_
    refine lv_if_ne (tgt := 18) hx hb dX5_read_9 (by decide) (fun _ => ?_) (fun c => absurd c (by decide))
    refine lv_aload_n hx hb dX5_read_18 rfl (lv_at hl 0 rfl) ?_
    refine q_VB (cs := [wO C mo (evm (nI n) (nI y0) (nI 0) (nI k1) (nI 0) (nI j1)) v o, ([(mo 1, .inl (C.2.2.1, 82, .inr (.inl (mB b))))] : va_W), ([(mo 3, .inl (C.2.2.1, 492, .inr (.inl pa)))] : va_W)]) (As := []) (rest := []) ⟨hx, hb, hml, hown, hts⟩ (c_X5_saves l C mo (nI y0) (nI 0) (nI k1) (nI 0) (nI j1) v o ph r n pa b hr6 hn6 hpa) (cwV 0 hts gX5_read_X5_saves rfl rfl rfl (by decide +kernel) ⟨Nat.le_of_ble_eq_true rfl, Nat.le_of_ble_eq_true rfl⟩) hK hP hD hS hA [0, 1, 2] (by decide) rfl 0 rfl rfl rfl rfl hl.1 rfl (Nat.le_of_ble_eq_true rfl) dX5_read_19 (Nat.zero_le _) (Nat.zero_le _) (fun r w1 H locs hQ hF hS => ?_)
    obtain ⟨pa2, rfl, rfl, hpa2⟩ := hQ
    obtain ⟨hP, hD⟩ := hF [wO C mo (evm (nI (kC n)) (nI y0) (nI 0) (nI k1) (nI 0) (nI j1)) v o, ([(mo 1, .inl (C.2.2.1, 82, .inr (.inl (mB b))))] : va_W), ([(mo 3, .inl (C.2.2.1, 492, .inr (.inl pa2)))] : va_W)] rfl rfl
    have hP : va_P C.1 vwCl (List.flatten [wO C mo (evm (nI (kC n)) (nI y0) (nI 0) (nI k1) (nI 0) (nI j1)) v o, ([(mo 1, .inl (C.2.2.1, 82, .inr (.inl (mB b))))] : va_W), ([(mo 3, .inl (C.2.2.1, 492, .inr (.inl pa2)))] : va_W), ([(mo 4, .inl (C.2.1, 60, .inl (fun k => nI (cd k))))] : va_W), ([(mo 5, .inl (C.2.1, 84, .inl td1))] : va_W)]) H := hP
    have hD : va_D (q_A (List.flatten [wO C mo (evm (nI n) (nI y0) tw pl fl tl) v o, ([(mo 1, .inl (C.2.2.1, 82, .inr (.inl (mB b))))] : va_W), ([(mo 3, .inl (C.2.2.1, 492, .inr (.inl pa)))] : va_W), ([(mo 4, .inl (C.2.1, 60, .inl (fun k => nI (cd k))))] : va_W), ([(mo 5, .inl (C.2.1, 84, .inl td))] : va_W)]) s) (List.flatten [wO C mo (evm (nI (kC n)) (nI y0) (nI 0) (nI k1) (nI 0) (nI j1)) v o, ([(mo 1, .inl (C.2.2.1, 82, .inr (.inl (mB b))))] : va_W), ([(mo 3, .inl (C.2.2.1, 492, .inr (.inl pa2)))] : va_W), ([(mo 4, .inl (C.2.1, 60, .inl (fun k => nI (cd k))))] : va_W), ([(mo 5, .inl (C.2.1, 84, .inl td1))] : va_W)]) := hD
    refine W.eq (g2 := F0 m 22 ls []) rfl ?_
    refine lv_aload_n hx hb dX5_read_22 rfl (lv_at hl 0 rfl) ?_
    refine lv_iconst (v := nI 0) hx hb dX5_read_23 (by decide) ?_
    refine va_put (ci := 5) (v := .int (nI 0)) (ty := .int) (C := RX5) (T := TX5) (N := 13) hx hb hts hin5 tyX5 tyX5_ok nmX5 hown hK.1 hP hD hS 0 rfl rfl 5 (by decide) hf150 (fun _ h9 => h9) rfl (by decide +kernel) rfl rfl (Nat.le_of_ble_eq_true rfl) dX5_read_24 (fun H locs hP hD hS => ?_)
    rw [q_fset [wO C mo (evm (nI (kC n)) (nI y0) (nI 0) (nI k1) (nI 0) (nI j1)) v o, ([(mo 1, .inl (C.2.2.1, 82, .inr (.inl (mB b))))] : va_W), ([(mo 3, .inl (C.2.2.1, 492, .inr (.inl pa2)))] : va_W), ([(mo 4, .inl (C.2.1, 60, .inl (fun k => nI (cd k))))] : va_W), ([(mo 5, .inl (C.2.1, 84, .inl td1))] : va_W)] 0 0 0 (B := wO C mo (evm (nI (kC n)) (nI y0) (nI 0) (nI k1) (nI 0) (nI j1)) v o) rfl (Nat.le_of_ble_eq_true rfl) rfl] at hP hD
    have hP : va_P C.1 vwCl (List.flatten [wO C mo (evm (nI (kC n)) (nI 0) (nI 0) (nI k1) (nI 0) (nI j1)) v o, ([(mo 1, .inl (C.2.2.1, 82, .inr (.inl (mB b))))] : va_W), ([(mo 3, .inl (C.2.2.1, 492, .inr (.inl pa2)))] : va_W), ([(mo 4, .inl (C.2.1, 60, .inl (fun k => nI (cd k))))] : va_W), ([(mo 5, .inl (C.2.1, 84, .inl td1))] : va_W)]) H := hP
    have hD : va_D (q_A (List.flatten [wO C mo (evm (nI n) (nI y0) tw pl fl tl) v o, ([(mo 1, .inl (C.2.2.1, 82, .inr (.inl (mB b))))] : va_W), ([(mo 3, .inl (C.2.2.1, 492, .inr (.inl pa)))] : va_W), ([(mo 4, .inl (C.2.1, 60, .inl (fun k => nI (cd k))))] : va_W), ([(mo 5, .inl (C.2.1, 84, .inl td))] : va_W)]) s) (List.flatten [wO C mo (evm (nI (kC n)) (nI 0) (nI 0) (nI k1) (nI 0) (nI j1)) v o, ([(mo 1, .inl (C.2.2.1, 82, .inr (.inl (mB b))))] : va_W), ([(mo 3, .inl (C.2.2.1, 492, .inr (.inl pa2)))] : va_W), ([(mo 4, .inl (C.2.1, 60, .inl (fun k => nI (cd k))))] : va_W), ([(mo 5, .inl (C.2.1, 84, .inl td1))] : va_W)]) := hD
    obtain ⟨bd, hb0, hbj, hbk⟩ := (hpx.2.2 b).1
    have hj13 := hpx.2.1
    have hP := q_swpL (g := mB (bd 0)) hP 3 rfl (fun j hj => by rw [hb0])
    have hD := hD.set (p := 3) (a := mo 1) (e := .inl (C.2.2.1, 82, .inr (.inl (mB (bd 0))))) rfl
    rw [q_fset [wO C mo (evm (nI (kC n)) (nI 0) (nI 0) (nI k1) (nI 0) (nI j1)) v o, ([(mo 1, .inl (C.2.2.1, 82, .inr (.inl (mB b))))] : va_W), ([(mo 3, .inl (C.2.2.1, 492, .inr (.inl pa2)))] : va_W), ([(mo 4, .inl (C.2.1, 60, .inl (fun k => nI (cd k))))] : va_W), ([(mo 5, .inl (C.2.1, 84, .inl td1))] : va_W)] 1 0 3 (B := ([(mo 1, .inl (C.2.2.1, 82, .inr (.inl (mB b))))] : va_W)) rfl (Nat.le_of_ble_eq_true rfl) rfl] at hP hD
    have hP : va_P C.1 vwCl (List.flatten [wO C mo (evm (nI (kC n)) (nI 0) (nI 0) (nI k1) (nI 0) (nI j1)) v o, ([(mo 1, .inl (C.2.2.1, 82, .inr (.inl (mB (bd 0)))))] : va_W), ([(mo 3, .inl (C.2.2.1, 492, .inr (.inl pa2)))] : va_W), ([(mo 4, .inl (C.2.1, 60, .inl (fun k => nI (cd k))))] : va_W), ([(mo 5, .inl (C.2.1, 84, .inl td1))] : va_W)]) H := hP
    have hD : va_D (q_A (List.flatten [wO C mo (evm (nI n) (nI y0) tw pl fl tl) v o, ([(mo 1, .inl (C.2.2.1, 82, .inr (.inl (mB b))))] : va_W), ([(mo 3, .inl (C.2.2.1, 492, .inr (.inl pa)))] : va_W), ([(mo 4, .inl (C.2.1, 60, .inl (fun k => nI (cd k))))] : va_W), ([(mo 5, .inl (C.2.1, 84, .inl td))] : va_W)]) s) (List.flatten [wO C mo (evm (nI (kC n)) (nI 0) (nI 0) (nI k1) (nI 0) (nI j1)) v o, ([(mo 1, .inl (C.2.2.1, 82, .inr (.inl (mB (bd 0)))))] : va_W), ([(mo 3, .inl (C.2.2.1, 492, .inr (.inl pa2)))] : va_W), ([(mo 4, .inl (C.2.1, 60, .inl (fun k => nI (cd k))))] : va_W), ([(mo 5, .inl (C.2.1, 84, .inl td1))] : va_W)]) := hD
    refine lv_iconst (v := nI 0) hx hb dX5_read_27 (by decide) ?_
    refine lv_istore_n (lv' := [(1, .int (nI 0)), (0, .ref (mo 0))]) hx hb dX5_read_28 rfl hl (by decide) rfl (fun ls hl => ?_)
    have K29 : ∀ (n29 i29 : Nat), i29 ≤ j1 → j1 + 1 ≤ i29 + n29 → ∀ (H : Heap) (locs : List Loc) (ls : Array Slot), va_P C.1 vwCl (List.flatten [wO C mo (evm (nI (kC n)) (nI 0) (nI 0) (nI k1) (nI 0) (nI j1)) v o, ([(mo 1, .inl (C.2.2.1, 82, .inr (.inl (mB (bd i29)))))] : va_W), ([(mo 3, .inl (C.2.2.1, 492, .inr (.inl pa2)))] : va_W), ([(mo 4, .inl (C.2.1, 60, .inl (fun k => nI (cd k))))] : va_W), ([(mo 5, .inl (C.2.1, 84, .inl td1))] : va_W)]) H → va_D (q_A (List.flatten [wO C mo (evm (nI n) (nI y0) tw pl fl tl) v o, ([(mo 1, .inl (C.2.2.1, 82, .inr (.inl (mB b))))] : va_W), ([(mo 3, .inl (C.2.2.1, 492, .inr (.inl pa)))] : va_W), ([(mo 4, .inl (C.2.1, 60, .inl (fun k => nI (cd k))))] : va_W), ([(mo 5, .inl (C.2.1, 84, .inl td))] : va_W)]) s) (List.flatten [wO C mo (evm (nI (kC n)) (nI 0) (nI 0) (nI k1) (nI 0) (nI j1)) v o, ([(mo 1, .inl (C.2.2.1, 82, .inr (.inl (mB (bd i29)))))] : va_W), ([(mo 3, .inl (C.2.2.1, 492, .inr (.inl pa2)))] : va_W), ([(mo 4, .inl (C.2.1, 60, .inl (fun k => nI (cd k))))] : va_W), ([(mo 5, .inl (C.2.1, 84, .inl td1))] : va_W)]) → va_S (q_A (List.flatten [wO C mo (evm (nI n) (nI y0) tw pl fl tl) v o, ([(mo 1, .inl (C.2.2.1, 82, .inr (.inl (mB b))))] : va_W), ([(mo 3, .inl (C.2.2.1, 492, .inr (.inl pa)))] : va_W), ([(mo 4, .inl (C.2.1, 60, .inl (fun k => nI (cd k))))] : va_W), ([(mo 5, .inl (C.2.1, 84, .inl td))] : va_W)]) s) s.heap H locs → lv_has ls 4 [(1, .int (nI i29)), (0, .ref (mo 0))] → W p l e (q_R 6 130) s m ([.ref (mo 0)] : List Value).toArray below meth c H locs 0 0 (q_G C below (List.flatten [wO C mo (evm (nI n) (nI y0) tw pl fl tl) v o, ([(mo 1, .inl (C.2.2.1, 82, .inr (.inl (mB b))))] : va_W), ([(mo 3, .inl (C.2.2.1, 492, .inr (.inl pa)))] : va_W), ([(mo 4, .inl (C.2.1, 60, .inl (fun k => nI (cd k))))] : va_W), ([(mo 5, .inl (C.2.1, 84, .inl td))] : va_W)]) (fun r2 w => ∃ pa1 p f j td1, r2 = some (.int (nI (mvN cd b y0).1)) ∧ w = List.flatten [wO C mo (evm (nI (kC n)) (nI 0) (nI 0) (nI p) (nI f) (nI j)) v o, ([(mo 1, .inl (C.2.2.1, 82, .inr (.inl (mB ((mvN cd b y0).2.2.2)))))] : va_W), ([(mo 3, .inl (C.2.2.1, 492, .inr (.inl pa1)))] : va_W), ([(mo 4, .inl (C.2.1, 60, .inl (fun k => nI (cd k))))] : va_W), ([(mo 5, .inl (C.2.1, 84, .inl td1))] : va_W)] ∧ mH (upB ph (kJ n r) b) (kR n r) (kC n) pa1) ([.ref (mo 0)] : List Value).toArray s) (F0 m 29 ls []) := by
      intro n29
      induction n29 with
      | zero => intro i29  q1 q2; exact absurd q2 (by omega)
      | succ n29 ih29 =>
        intro i29  hi29 hn29  H locs ls hP hD hS hl
        refine lv_iload_n hx hb dX5_read_29 rfl (lv_at hl 0 rfl) ?_
        refine lv_aload_n hx hb dX5_read_30 rfl (lv_at hl 1 rfl) ?_
        refine va_get (ci := 5) (v := .int (nI j1)) (C := RX5) (T := TX5) (N := 13) hx hb hts hin5 hown hK.1 hP 0 rfl rfl 10 (by decide) hf167 (fun _ h9 => h9) rfl dX5_read_31 ?_
        refine lv_icmp_ge (tgt := 146) hx hb dX5_read_34 (by decide) (fun c34 => ?_) (fun c34 => ?_)
        · have c34 : j1 ≤ i29 := q_nge (by omega) (by omega) c34
          have e9 : i29 = j1 := by omega
          subst e9
          have hP := q_swpL (g := mB ((mvN cd b y0).2.2.2)) hP 3 rfl (fun j hj => by rw [hbj])
          have hD := hD.set (p := 3) (a := mo 1) (e := .inl (C.2.2.1, 82, .inr (.inl (mB ((mvN cd b y0).2.2.2))))) rfl
          rw [q_fset [wO C mo (evm (nI (kC n)) (nI 0) (nI 0) (nI k1) (nI 0) (nI i29)) v o, ([(mo 1, .inl (C.2.2.1, 82, .inr (.inl (mB (bd i29)))))] : va_W), ([(mo 3, .inl (C.2.2.1, 492, .inr (.inl pa2)))] : va_W), ([(mo 4, .inl (C.2.1, 60, .inl (fun k => nI (cd k))))] : va_W), ([(mo 5, .inl (C.2.1, 84, .inl td1))] : va_W)] 1 0 3 (B := ([(mo 1, .inl (C.2.2.1, 82, .inr (.inl (mB (bd i29)))))] : va_W)) rfl (Nat.le_of_ble_eq_true rfl) rfl] at hP hD
          have hP : va_P C.1 vwCl (List.flatten [wO C mo (evm (nI (kC n)) (nI 0) (nI 0) (nI k1) (nI 0) (nI i29)) v o, ([(mo 1, .inl (C.2.2.1, 82, .inr (.inl (mB ((mvN cd b y0).2.2.2)))))] : va_W), ([(mo 3, .inl (C.2.2.1, 492, .inr (.inl pa2)))] : va_W), ([(mo 4, .inl (C.2.1, 60, .inl (fun k => nI (cd k))))] : va_W), ([(mo 5, .inl (C.2.1, 84, .inl td1))] : va_W)]) H := hP
          have hD : va_D (q_A (List.flatten [wO C mo (evm (nI n) (nI y0) tw pl fl tl) v o, ([(mo 1, .inl (C.2.2.1, 82, .inr (.inl (mB b))))] : va_W), ([(mo 3, .inl (C.2.2.1, 492, .inr (.inl pa)))] : va_W), ([(mo 4, .inl (C.2.1, 60, .inl (fun k => nI (cd k))))] : va_W), ([(mo 5, .inl (C.2.1, 84, .inl td))] : va_W)]) s) (List.flatten [wO C mo (evm (nI (kC n)) (nI 0) (nI 0) (nI k1) (nI 0) (nI i29)) v o, ([(mo 1, .inl (C.2.2.1, 82, .inr (.inl (mB ((mvN cd b y0).2.2.2)))))] : va_W), ([(mo 3, .inl (C.2.2.1, 492, .inr (.inl pa2)))] : va_W), ([(mo 4, .inl (C.2.1, 60, .inl (fun k => nI (cd k))))] : va_W), ([(mo 5, .inl (C.2.1, 84, .inl td1))] : va_W)]) := hD
          refine lv_aload_n hx hb dX5_read_146 rfl (lv_at hl 1 rfl) ?_
          refine va_get (ci := 5) (v := .int (nI i29)) (C := RX5) (T := TX5) (N := 13) hx hb hts hin5 hown hK.1 hP 0 rfl rfl 10 (by decide) hf167 (fun _ h9 => h9) rfl dX5_read_147 ?_
          exact q_iret hx hb hr hlocks (w1 := List.flatten [wO C mo (evm (nI (kC n)) (nI 0) (nI 0) (nI k1) (nI 0) (nI i29)) v o, ([(mo 1, .inl (C.2.2.1, 82, .inr (.inl (mB ((mvN cd b y0).2.2.2)))))] : va_W), ([(mo 3, .inl (C.2.2.1, 492, .inr (.inl pa2)))] : va_W), ([(mo 4, .inl (C.2.1, 60, .inl (fun k => nI (cd k))))] : va_W), ([(mo 5, .inl (C.2.1, 84, .inl td1))] : va_W)]) hP hS rfl dX5_read_150 (⟨_, _, _, _, _, by rw [(hpx.2.2 b).2], rfl, hpa2⟩)
        · have c34 : i29 < j1 := q_nge' (by omega) (by omega) c34
          obtain ⟨a, t, g, ha, ht, hg, e0, e1, e2, hcs⟩ := hbk i29 (by omega)
          refine lv_aload_n hx hb dX5_read_37 rfl (lv_at hl 1 rfl) ?_
          refine va_get (ci := 5) (v := .ref (mo 5)) (C := RX5) (T := TX5) (N := 13) hx hb hts hin5 hown hK.1 hP 0 rfl rfl 9 (by decide) hf23 (fun _ h9 => h9) rfl dX5_read_38 ?_
          refine lv_bipush (v := nI 6) hx hb dX5_read_41 (by decide) ?_
          refine lv_iload_n hx hb dX5_read_43 rfl (lv_at hl 0 rfl) ?_
          refine lv_imul hx hb dX5_read_44 ?_
          refine q_ti (y := nI (6 * i29)) (pk_mul _ _) ?_
          refine q_iald (n := (6 * i29)) (v := td1 (6 * i29)) hx hb hK hP 6 rfl (by omega) (by decide) rfl dX5_read_45 ?_
          refine q_ti (y := nI a) e0 ?_
          refine lv_istore_n (lv' := [(2, .int (nI a)), (1, .int (nI i29)), (0, .ref (mo 0))]) hx hb dX5_read_46 rfl hl (by decide) rfl (fun ls hl => ?_)
          refine lv_aload_n hx hb dX5_read_47 rfl (lv_at hl 2 rfl) ?_
          refine va_get (ci := 5) (v := .ref (mo 5)) (C := RX5) (T := TX5) (N := 13) hx hb hts hin5 hown hK.1 hP 0 rfl rfl 9 (by decide) hf23 (fun _ h9 => h9) rfl dX5_read_48 ?_
          refine lv_bipush (v := nI 6) hx hb dX5_read_51 (by decide) ?_
          refine lv_iload_n hx hb dX5_read_53 rfl (lv_at hl 1 rfl) ?_
          refine lv_imul hx hb dX5_read_54 ?_
          refine q_ti (y := nI (6 * i29)) (pk_mul _ _) ?_
          refine lv_iconst (v := nI 1) hx hb dX5_read_55 (by decide) ?_
          refine lv_iadd hx hb dX5_read_56 ?_
          refine q_ti (y := nI ((6 * i29) + 1)) (nI_add _ _) ?_
          refine q_iald (n := ((6 * i29) + 1)) (v := td1 ((6 * i29) + 1)) hx hb hK hP 6 rfl (by omega) (by decide) rfl dX5_read_57 ?_
          refine q_ti (y := nI t) e1 ?_
          refine lv_istore_n (lv' := [(3, .int (nI t)), (2, .int (nI a)), (1, .int (nI i29)), (0, .ref (mo 0))]) hx hb dX5_read_58 rfl hl (by decide) rfl (fun ls hl => ?_)
          refine lv_aload_n hx hb dX5_read_59 rfl (lv_at hl 3 rfl) ?_
          refine lv_bipush (v := nI 18) hx hb dX5_read_60 (by decide) ?_
          refine lv_iconst (v := nI 4) hx hb dX5_read_62 (by decide) ?_
          refine lv_iconst (v := nI 4) hx hb dX5_read_63 (by decide) ?_
          refine lv_iload_n hx hb dX5_read_64 rfl (lv_at hl 1 rfl) ?_
          refine lv_imul hx hb dX5_read_65 ?_
          refine q_ti (y := nI (4 * a)) (pk_mul _ _) ?_
          refine lv_iload_n hx hb dX5_read_66 rfl (lv_at hl 0 rfl) ?_
          refine lv_iadd hx hb dX5_read_67 ?_
          refine q_ti (y := nI ((4 * a) + t)) (nI_add _ _) ?_
          refine lv_imul hx hb dX5_read_68 ?_
          refine q_ti (y := nI (4 * ((4 * a) + t))) (pk_mul _ _) ?_
          refine lv_iadd hx hb dX5_read_69 ?_
          refine q_ti (y := nI (18 + (4 * ((4 * a) + t)))) (nI_add _ _) ?_
          refine lv_aload_n hx hb dX5_read_70 rfl (lv_at hl 3 rfl) ?_
          refine va_get (ci := 5) (v := .ref (mo 5)) (C := RX5) (T := TX5) (N := 13) hx hb hts hin5 hown hK.1 hP 0 rfl rfl 9 (by decide) hf23 (fun _ h9 => h9) rfl dX5_read_71 ?_
          refine lv_bipush (v := nI 6) hx hb dX5_read_74 (by decide) ?_
          refine lv_iload_n hx hb dX5_read_76 rfl (lv_at hl 2 rfl) ?_
          refine lv_imul hx hb dX5_read_77 ?_
          refine q_ti (y := nI (6 * i29)) (pk_mul _ _) ?_
          refine lv_iconst (v := nI 2) hx hb dX5_read_78 (by decide) ?_
          refine lv_iadd hx hb dX5_read_79 ?_
          refine q_ti (y := nI ((6 * i29) + 2)) (nI_add _ _) ?_
          refine q_iald (n := ((6 * i29) + 2)) (v := td1 ((6 * i29) + 2)) hx hb hK hP 6 rfl (by omega) (by decide) rfl dX5_read_80 ?_
          refine q_ti (y := nI g) e2 ?_
          refine q_VB (cs := [wO C mo (evm (nI (kC n)) (nI 0) (nI 0) (nI k1) (nI 0) (nI j1)) v o, ([(mo 1, .inl (C.2.2.1, 82, .inr (.inl (mB (bd i29)))))] : va_W)]) (As := [.int (nI (18 + (4 * ((4 * a) + t)))), .int (nI g)]) (rest := []) ⟨hx, hb, hml, hown, hts⟩ (c_X5_changes l C mo (nI (kC n)) (nI 0) (nI 0) (nI k1) (nI 0) (nI j1) v o (mB (bd i29)) (18 + (4 * ((4 * a) + t))) g (by omega) (by omega)) (cwV 2 hts gX5_read_X5_changes rfl rfl rfl (by decide +kernel) ⟨Nat.le_of_ble_eq_true rfl, Nat.le_of_ble_eq_true rfl⟩) hK hP hD hS hA [0, 1] (by decide) rfl 0 rfl rfl rfl rfl hl.1 rfl (Nat.le_of_ble_eq_true rfl) dX5_read_81 (Nat.zero_le _) (Nat.zero_le _) (fun r w1 H locs hQ hF hS => ?_)
          obtain ⟨rfl, rfl⟩ := hQ
          obtain ⟨hP, hD⟩ := hF [wO C mo (evm (nI (kC n)) (nI 0) (nI 0) (nI k1) (nI 0) (nI j1)) v o, ([(mo 1, .inl (C.2.2.1, 82, .inr (.inl (vp_updL (mB (bd i29)) (18 + (4 * ((4 * a) + t))) (lN g)))))] : va_W)] rfl rfl
          have hP : va_P C.1 vwCl (List.flatten [wO C mo (evm (nI (kC n)) (nI 0) (nI 0) (nI k1) (nI 0) (nI j1)) v o, ([(mo 1, .inl (C.2.2.1, 82, .inr (.inl (vp_updL (mB (bd i29)) (18 + (4 * ((4 * a) + t))) (lN g)))))] : va_W), ([(mo 3, .inl (C.2.2.1, 492, .inr (.inl pa2)))] : va_W), ([(mo 4, .inl (C.2.1, 60, .inl (fun k => nI (cd k))))] : va_W), ([(mo 5, .inl (C.2.1, 84, .inl td1))] : va_W)]) H := hP
          have hD : va_D (q_A (List.flatten [wO C mo (evm (nI n) (nI y0) tw pl fl tl) v o, ([(mo 1, .inl (C.2.2.1, 82, .inr (.inl (mB b))))] : va_W), ([(mo 3, .inl (C.2.2.1, 492, .inr (.inl pa)))] : va_W), ([(mo 4, .inl (C.2.1, 60, .inl (fun k => nI (cd k))))] : va_W), ([(mo 5, .inl (C.2.1, 84, .inl td))] : va_W)]) s) (List.flatten [wO C mo (evm (nI (kC n)) (nI 0) (nI 0) (nI k1) (nI 0) (nI j1)) v o, ([(mo 1, .inl (C.2.2.1, 82, .inr (.inl (vp_updL (mB (bd i29)) (18 + (4 * ((4 * a) + t))) (lN g)))))] : va_W), ([(mo 3, .inl (C.2.2.1, 492, .inr (.inl pa2)))] : va_W), ([(mo 4, .inl (C.2.1, 60, .inl (fun k => nI (cd k))))] : va_W), ([(mo 5, .inl (C.2.1, 84, .inl td1))] : va_W)]) := hD
          refine W.eq (g2 := F0 m 84 ls [.int ((mB (bd i29) (18 + (4 * ((4 * a) + t)))).toInt32)]) rfl ?_
          refine lv_pop hx hb dX5_read_84 rfl ?_
          rw [mB_wg0 _ (by omega)] at hP hD
          have hP : va_P C.1 vwCl (List.flatten [wO C mo (evm (nI (kC n)) (nI 0) (nI 0) (nI k1) (nI 0) (nI j1)) v o, ([(mo 1, .inl (C.2.2.1, 82, .inr (.inl (mB (sg (bd i29) (upN (bg (bd i29)) (4 * a + t) g))))))] : va_W), ([(mo 3, .inl (C.2.2.1, 492, .inr (.inl pa2)))] : va_W), ([(mo 4, .inl (C.2.1, 60, .inl (fun k => nI (cd k))))] : va_W), ([(mo 5, .inl (C.2.1, 84, .inl td1))] : va_W)]) H := hP
          have hD : va_D (q_A (List.flatten [wO C mo (evm (nI n) (nI y0) tw pl fl tl) v o, ([(mo 1, .inl (C.2.2.1, 82, .inr (.inl (mB b))))] : va_W), ([(mo 3, .inl (C.2.2.1, 492, .inr (.inl pa)))] : va_W), ([(mo 4, .inl (C.2.1, 60, .inl (fun k => nI (cd k))))] : va_W), ([(mo 5, .inl (C.2.1, 84, .inl td))] : va_W)]) s) (List.flatten [wO C mo (evm (nI (kC n)) (nI 0) (nI 0) (nI k1) (nI 0) (nI j1)) v o, ([(mo 1, .inl (C.2.2.1, 82, .inr (.inl (mB (sg (bd i29) (upN (bg (bd i29)) (4 * a + t) g))))))] : va_W), ([(mo 3, .inl (C.2.2.1, 492, .inr (.inl pa2)))] : va_W), ([(mo 4, .inl (C.2.1, 60, .inl (fun k => nI (cd k))))] : va_W), ([(mo 5, .inl (C.2.1, 84, .inl td1))] : va_W)]) := hD
          refine lv_aload_n hx hb dX5_read_85 rfl (lv_at hl 3 rfl) ?_
          refine va_get (ci := 5) (v := .ref (mo 5)) (C := RX5) (T := TX5) (N := 13) hx hb hts hin5 hown hK.1 hP 0 rfl rfl 9 (by decide) hf23 (fun _ h9 => h9) rfl dX5_read_86 ?_
          refine lv_bipush (v := nI 6) hx hb dX5_read_89 (by decide) ?_
          refine lv_iload_n hx hb dX5_read_91 rfl (lv_at hl 2 rfl) ?_
          refine lv_imul hx hb dX5_read_92 ?_
          refine q_ti (y := nI (6 * i29)) (pk_mul _ _) ?_
          refine lv_iconst (v := nI 5) hx hb dX5_read_93 (by decide) ?_
          refine lv_iadd hx hb dX5_read_94 ?_
          refine q_ti (y := nI ((6 * i29) + 5)) (nI_add _ _) ?_
          refine q_iald (n := ((6 * i29) + 5)) (v := td1 ((6 * i29) + 5)) hx hb hK hP 6 rfl (by omega) (by decide) rfl dX5_read_95 ?_
          rcases hcs with ⟨e5, hbn⟩ | ⟨x1, x2, x3, hx1, hx2, hx3, e3, e4, e5, hbn⟩
          · skip
            refine q_ti (y := (-1)) e5 ?_
            refine lv_iconst (v := (-1)) hx hb dX5_read_96 (by decide) ?_
            refine lv_icmp_eq (tgt := 140) hx hb dX5_read_97 (by decide) (fun c97 => ?_) (fun c97 => ?_)
            · skip
              have hP := q_swpL (g := mB (bd (i29 + 1))) hP 3 rfl (fun j hj => by rw [hbn])
              have hD := hD.set (p := 3) (a := mo 1) (e := .inl (C.2.2.1, 82, .inr (.inl (mB (bd (i29 + 1)))))) rfl
              rw [q_fset [wO C mo (evm (nI (kC n)) (nI 0) (nI 0) (nI k1) (nI 0) (nI j1)) v o, ([(mo 1, .inl (C.2.2.1, 82, .inr (.inl (mB (sg (bd i29) (upN (bg (bd i29)) (4 * a + t) g))))))] : va_W), ([(mo 3, .inl (C.2.2.1, 492, .inr (.inl pa2)))] : va_W), ([(mo 4, .inl (C.2.1, 60, .inl (fun k => nI (cd k))))] : va_W), ([(mo 5, .inl (C.2.1, 84, .inl td1))] : va_W)] 1 0 3 (B := ([(mo 1, .inl (C.2.2.1, 82, .inr (.inl (mB (sg (bd i29) (upN (bg (bd i29)) (4 * a + t) g))))))] : va_W)) rfl (Nat.le_of_ble_eq_true rfl) rfl] at hP hD
              have hP : va_P C.1 vwCl (List.flatten [wO C mo (evm (nI (kC n)) (nI 0) (nI 0) (nI k1) (nI 0) (nI j1)) v o, ([(mo 1, .inl (C.2.2.1, 82, .inr (.inl (mB (bd (i29 + 1))))))] : va_W), ([(mo 3, .inl (C.2.2.1, 492, .inr (.inl pa2)))] : va_W), ([(mo 4, .inl (C.2.1, 60, .inl (fun k => nI (cd k))))] : va_W), ([(mo 5, .inl (C.2.1, 84, .inl td1))] : va_W)]) H := hP
              have hD : va_D (q_A (List.flatten [wO C mo (evm (nI n) (nI y0) tw pl fl tl) v o, ([(mo 1, .inl (C.2.2.1, 82, .inr (.inl (mB b))))] : va_W), ([(mo 3, .inl (C.2.2.1, 492, .inr (.inl pa)))] : va_W), ([(mo 4, .inl (C.2.1, 60, .inl (fun k => nI (cd k))))] : va_W), ([(mo 5, .inl (C.2.1, 84, .inl td))] : va_W)]) s) (List.flatten [wO C mo (evm (nI (kC n)) (nI 0) (nI 0) (nI k1) (nI 0) (nI j1)) v o, ([(mo 1, .inl (C.2.2.1, 82, .inr (.inl (mB (bd (i29 + 1))))))] : va_W), ([(mo 3, .inl (C.2.2.1, 492, .inr (.inl pa2)))] : va_W), ([(mo 4, .inl (C.2.1, 60, .inl (fun k => nI (cd k))))] : va_W), ([(mo 5, .inl (C.2.1, 84, .inl td1))] : va_W)]) := hD
              refine lv_iinc (v := nI (i29 + 1)) (lv' := [(1, .int (nI (i29 + 1))), (3, .int (nI t)), (2, .int (nI a)), (0, .ref (mo 0))]) hx hb dX5_read_140 hl (k := 2) rfl (nI_1 _) (by decide) rfl (fun ls hl => ?_)
              refine lv_goto (tgt := 29) hx hb dX5_read_143 (by decide) ?_
              exact ih29 (i29 + 1)  (by omega) (by omega)  _ _ ls hP hD hS (lv_sub hl [0, 3] rfl)
            · skip
              exact absurd rfl c97
          · skip
            refine q_ti (y := nI x3) e5 ?_
            refine lv_iconst (v := (-1)) hx hb dX5_read_96 (by decide) ?_
            refine lv_icmp_eq (tgt := 140) hx hb dX5_read_97 (by decide) (fun c97 => ?_) (fun c97 => ?_)
            · skip
              exact absurd c97 (nI_m1 (by omega))
            refine lv_aload_n hx hb dX5_read_100 rfl (lv_at hl 3 rfl) ?_
            refine lv_iload_n hx hb dX5_read_101 rfl (lv_at hl 1 rfl) ?_
            refine lv_iload_n hx hb dX5_read_102 rfl (lv_at hl 0 rfl) ?_
            refine lv_aload_n hx hb dX5_read_103 rfl (lv_at hl 3 rfl) ?_
            refine va_get (ci := 5) (v := .ref (mo 5)) (C := RX5) (T := TX5) (N := 13) hx hb hts hin5 hown hK.1 hP 0 rfl rfl 9 (by decide) hf23 (fun _ h9 => h9) rfl dX5_read_104 ?_
            refine lv_bipush (v := nI 6) hx hb dX5_read_107 (by decide) ?_
            refine lv_iload_n hx hb dX5_read_109 rfl (lv_at hl 2 rfl) ?_
            refine lv_imul hx hb dX5_read_110 ?_
            refine q_ti (y := nI (6 * i29)) (pk_mul _ _) ?_
            refine lv_iconst (v := nI 3) hx hb dX5_read_111 (by decide) ?_
            refine lv_iadd hx hb dX5_read_112 ?_
            refine q_ti (y := nI ((6 * i29) + 3)) (nI_add _ _) ?_
            refine q_iald (n := ((6 * i29) + 3)) (v := td1 ((6 * i29) + 3)) hx hb hK hP 6 rfl (by omega) (by decide) rfl dX5_read_113 ?_
            refine q_ti (y := nI x1) e3 ?_
            refine lv_aload_n hx hb dX5_read_114 rfl (lv_at hl 3 rfl) ?_
            refine va_get (ci := 5) (v := .ref (mo 5)) (C := RX5) (T := TX5) (N := 13) hx hb hts hin5 hown hK.1 hP 0 rfl rfl 9 (by decide) hf23 (fun _ h9 => h9) rfl dX5_read_115 ?_
            refine lv_bipush (v := nI 6) hx hb dX5_read_118 (by decide) ?_
            refine lv_iload_n hx hb dX5_read_120 rfl (lv_at hl 2 rfl) ?_
            refine lv_imul hx hb dX5_read_121 ?_
            refine q_ti (y := nI (6 * i29)) (pk_mul _ _) ?_
            refine lv_iconst (v := nI 4) hx hb dX5_read_122 (by decide) ?_
            refine lv_iadd hx hb dX5_read_123 ?_
            refine q_ti (y := nI ((6 * i29) + 4)) (nI_add _ _) ?_
            refine q_iald (n := ((6 * i29) + 4)) (v := td1 ((6 * i29) + 4)) hx hb hK hP 6 rfl (by omega) (by decide) rfl dX5_read_124 ?_
            refine q_ti (y := nI x2) e4 ?_
            refine lv_aload_n hx hb dX5_read_125 rfl (lv_at hl 3 rfl) ?_
            refine va_get (ci := 5) (v := .ref (mo 5)) (C := RX5) (T := TX5) (N := 13) hx hb hts hin5 hown hK.1 hP 0 rfl rfl 9 (by decide) hf23 (fun _ h9 => h9) rfl dX5_read_126 ?_
            refine lv_bipush (v := nI 6) hx hb dX5_read_129 (by decide) ?_
            refine lv_iload_n hx hb dX5_read_131 rfl (lv_at hl 2 rfl) ?_
            refine lv_imul hx hb dX5_read_132 ?_
            refine q_ti (y := nI (6 * i29)) (pk_mul _ _) ?_
            refine lv_iconst (v := nI 5) hx hb dX5_read_133 (by decide) ?_
            refine lv_iadd hx hb dX5_read_134 ?_
            refine q_ti (y := nI ((6 * i29) + 5)) (nI_add _ _) ?_
            refine q_iald (n := ((6 * i29) + 5)) (v := td1 ((6 * i29) + 5)) hx hb hK hP 6 rfl (by omega) (by decide) rfl dX5_read_135 ?_
            refine q_ti (y := nI x3) e5 ?_
            refine q_VB (cs := [wO C mo (evm (nI (kC n)) (nI 0) (nI 0) (nI k1) (nI 0) (nI j1)) v o, ([(mo 1, .inl (C.2.2.1, 82, .inr (.inl (mB (sg (bd i29) (upN (bg (bd i29)) (4 * a + t) g))))))] : va_W)]) (As := [.int (nI a), .int (nI t), .int (nI x1), .int (nI x2), .int (nI x3)]) (rest := []) ⟨hx, hb, hml, hown, hts⟩ (c_X5_ways l C mo (nI (kC n)) (nI 0) (nI 0) (nI k1) (nI 0) (nI j1) v o (sg (bd i29) (upN (bg (bd i29)) (4 * a + t) g)) a t x1 x2 x3 (by omega) (by omega) (by omega) (by omega) (by omega)) (cwV 5 hts gX5_read_X5_ways rfl rfl rfl (by decide +kernel) ⟨Nat.le_of_ble_eq_true rfl, Nat.le_of_ble_eq_true rfl⟩) hK hP hD hS hA [0, 1] (by decide) rfl 0 rfl rfl rfl rfl hl.1 rfl (Nat.le_of_ble_eq_true rfl) dX5_read_136 (Nat.zero_le _) (Nat.zero_le _) (fun r w1 H locs hQ hF hS => ?_)
            obtain ⟨rfl, rfl⟩ := hQ
            obtain ⟨hP, hD⟩ := hF [wO C mo (evm (nI (kC n)) (nI 0) (nI 0) (nI k1) (nI 0) (nI j1)) v o, ([(mo 1, .inl (C.2.2.1, 82, .inr (.inl (mB (sc (sb (so (sg (bd i29) (upN (bg (bd i29)) (4 * a + t) g)) (upN (bo (sg (bd i29) (upN (bg (bd i29)) (4 * a + t) g))) (4 * a + t) x1)) (upN (bb (sg (bd i29) (upN (bg (bd i29)) (4 * a + t) g))) (4 * a + t) x2)) (upN (bc (sg (bd i29) (upN (bg (bd i29)) (4 * a + t) g))) (4 * a + t) x3))))))] : va_W)] rfl rfl
            have hP : va_P C.1 vwCl (List.flatten [wO C mo (evm (nI (kC n)) (nI 0) (nI 0) (nI k1) (nI 0) (nI j1)) v o, ([(mo 1, .inl (C.2.2.1, 82, .inr (.inl (mB (sc (sb (so (sg (bd i29) (upN (bg (bd i29)) (4 * a + t) g)) (upN (bo (sg (bd i29) (upN (bg (bd i29)) (4 * a + t) g))) (4 * a + t) x1)) (upN (bb (sg (bd i29) (upN (bg (bd i29)) (4 * a + t) g))) (4 * a + t) x2)) (upN (bc (sg (bd i29) (upN (bg (bd i29)) (4 * a + t) g))) (4 * a + t) x3))))))] : va_W), ([(mo 3, .inl (C.2.2.1, 492, .inr (.inl pa2)))] : va_W), ([(mo 4, .inl (C.2.1, 60, .inl (fun k => nI (cd k))))] : va_W), ([(mo 5, .inl (C.2.1, 84, .inl td1))] : va_W)]) H := hP
            have hD : va_D (q_A (List.flatten [wO C mo (evm (nI n) (nI y0) tw pl fl tl) v o, ([(mo 1, .inl (C.2.2.1, 82, .inr (.inl (mB b))))] : va_W), ([(mo 3, .inl (C.2.2.1, 492, .inr (.inl pa)))] : va_W), ([(mo 4, .inl (C.2.1, 60, .inl (fun k => nI (cd k))))] : va_W), ([(mo 5, .inl (C.2.1, 84, .inl td))] : va_W)]) s) (List.flatten [wO C mo (evm (nI (kC n)) (nI 0) (nI 0) (nI k1) (nI 0) (nI j1)) v o, ([(mo 1, .inl (C.2.2.1, 82, .inr (.inl (mB (sc (sb (so (sg (bd i29) (upN (bg (bd i29)) (4 * a + t) g)) (upN (bo (sg (bd i29) (upN (bg (bd i29)) (4 * a + t) g))) (4 * a + t) x1)) (upN (bb (sg (bd i29) (upN (bg (bd i29)) (4 * a + t) g))) (4 * a + t) x2)) (upN (bc (sg (bd i29) (upN (bg (bd i29)) (4 * a + t) g))) (4 * a + t) x3))))))] : va_W), ([(mo 3, .inl (C.2.2.1, 492, .inr (.inl pa2)))] : va_W), ([(mo 4, .inl (C.2.1, 60, .inl (fun k => nI (cd k))))] : va_W), ([(mo 5, .inl (C.2.1, 84, .inl td1))] : va_W)]) := hD
            refine W.eq (g2 := F0 m 139 ls [.int (nI (100 * bo (sg (bd i29) (upN (bg (bd i29)) (4 * a + t) g)) (4 * a + t) + 10 * bb (sg (bd i29) (upN (bg (bd i29)) (4 * a + t) g)) (4 * a + t) + bc (sg (bd i29) (upN (bg (bd i29)) (4 * a + t) g)) (4 * a + t)))]) rfl ?_
            refine lv_pop hx hb dX5_read_139 rfl ?_
            have hP := q_swpL (g := mB (bd (i29 + 1))) hP 3 rfl (fun j hj => by rw [hbn])
            have hD := hD.set (p := 3) (a := mo 1) (e := .inl (C.2.2.1, 82, .inr (.inl (mB (bd (i29 + 1)))))) rfl
            rw [q_fset [wO C mo (evm (nI (kC n)) (nI 0) (nI 0) (nI k1) (nI 0) (nI j1)) v o, ([(mo 1, .inl (C.2.2.1, 82, .inr (.inl (mB (sc (sb (so (sg (bd i29) (upN (bg (bd i29)) (4 * a + t) g)) (upN (bo (sg (bd i29) (upN (bg (bd i29)) (4 * a + t) g))) (4 * a + t) x1)) (upN (bb (sg (bd i29) (upN (bg (bd i29)) (4 * a + t) g))) (4 * a + t) x2)) (upN (bc (sg (bd i29) (upN (bg (bd i29)) (4 * a + t) g))) (4 * a + t) x3))))))] : va_W), ([(mo 3, .inl (C.2.2.1, 492, .inr (.inl pa2)))] : va_W), ([(mo 4, .inl (C.2.1, 60, .inl (fun k => nI (cd k))))] : va_W), ([(mo 5, .inl (C.2.1, 84, .inl td1))] : va_W)] 1 0 3 (B := ([(mo 1, .inl (C.2.2.1, 82, .inr (.inl (mB (sc (sb (so (sg (bd i29) (upN (bg (bd i29)) (4 * a + t) g)) (upN (bo (sg (bd i29) (upN (bg (bd i29)) (4 * a + t) g))) (4 * a + t) x1)) (upN (bb (sg (bd i29) (upN (bg (bd i29)) (4 * a + t) g))) (4 * a + t) x2)) (upN (bc (sg (bd i29) (upN (bg (bd i29)) (4 * a + t) g))) (4 * a + t) x3))))))] : va_W)) rfl (Nat.le_of_ble_eq_true rfl) rfl] at hP hD
            have hP : va_P C.1 vwCl (List.flatten [wO C mo (evm (nI (kC n)) (nI 0) (nI 0) (nI k1) (nI 0) (nI j1)) v o, ([(mo 1, .inl (C.2.2.1, 82, .inr (.inl (mB (bd (i29 + 1))))))] : va_W), ([(mo 3, .inl (C.2.2.1, 492, .inr (.inl pa2)))] : va_W), ([(mo 4, .inl (C.2.1, 60, .inl (fun k => nI (cd k))))] : va_W), ([(mo 5, .inl (C.2.1, 84, .inl td1))] : va_W)]) H := hP
            have hD : va_D (q_A (List.flatten [wO C mo (evm (nI n) (nI y0) tw pl fl tl) v o, ([(mo 1, .inl (C.2.2.1, 82, .inr (.inl (mB b))))] : va_W), ([(mo 3, .inl (C.2.2.1, 492, .inr (.inl pa)))] : va_W), ([(mo 4, .inl (C.2.1, 60, .inl (fun k => nI (cd k))))] : va_W), ([(mo 5, .inl (C.2.1, 84, .inl td))] : va_W)]) s) (List.flatten [wO C mo (evm (nI (kC n)) (nI 0) (nI 0) (nI k1) (nI 0) (nI j1)) v o, ([(mo 1, .inl (C.2.2.1, 82, .inr (.inl (mB (bd (i29 + 1))))))] : va_W), ([(mo 3, .inl (C.2.2.1, 492, .inr (.inl pa2)))] : va_W), ([(mo 4, .inl (C.2.1, 60, .inl (fun k => nI (cd k))))] : va_W), ([(mo 5, .inl (C.2.1, 84, .inl td1))] : va_W)]) := hD
            refine lv_iinc (v := nI (i29 + 1)) (lv' := [(1, .int (nI (i29 + 1))), (3, .int (nI t)), (2, .int (nI a)), (0, .ref (mo 0))]) hx hb dX5_read_140 hl (k := 2) rfl (nI_1 _) (by decide) rfl (fun ls hl => ?_)
            refine lv_goto (tgt := 29) hx hb dX5_read_143 (by decide) ?_
            exact ih29 (i29 + 1)  (by omega) (by omega)  _ _ ls hP hD hS (lv_sub hl [0, 3] rfl)
    exact K29 (j1 + 1 - 0) 0  (by omega) (by omega)  _ _ ls hP hD hS (lv_sub hl [0, 1] rfl)
  · skip
    exact absurd (hpx.1.symm.trans hw) (by decide)
