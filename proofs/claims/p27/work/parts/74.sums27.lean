/-! the law's look at the sums -/
theorem lasU (k : Nat) : nI k - 1 + nI 1 = nI k := by
  show nI k - 1 + 1 = nI k
  exact Int32.sub_add_cancel _ _
theorem rem4 {k : Nat} (h : k < 2 ^ 31) : nI k - nI k / nI 4 * nI 4 = nI (k % 4) := by
  rw [pk_div h (by decide) (by decide), pk_mul, pk_sub (Nat.div_mul_le_self k 4)]
  congr 1
  omega
theorem ngm {k : Nat} (h : k < 2 ^ 31) : ¬ nI k < (-1) := Int32.not_lt.mpr (Int32.le_trans (by decide) (nI_pos' h))
set_option maxHeartbeats 4000000 in
set_option maxRecDepth 100000 in
theorem k_L_sums (l : Launch) (C : q_C) (G : ad_G) (b : Bd) (ph : Nat → Bd) (r n : Nat) (hY : okY b) (hU : sumU b ≤ 9999) : lkC C l G b ph r n yL_sums wsL_sums 7 161 [] (.int (nI 1)) b ph r n := by
  have hB := hY.1
  have hbw := hB.2.2.2.2
  have hbl := hB.2.2.2.1
  have hch0 := choN_lt hB (idxT b) 0
  have hp1 := hB.2.1 1 (by decide)
  have hgm := (hB.1 (4 * 1 + bp b 1) (by omega)).1
  have hc2 := hB.2.2.1.2.2.2.1
  intro X0 hX0
  refine q_headE (cc := cL_sums) (maxL := 4) (ret := (some .boolean)) (by decide +kernel) rfl (Nat.le_of_ble_eq_true rfl) ?_
  intro p e s m below meth c hx hb hr hlocks hml hown hts hK hV hE hP hD hS hA ls hl
  have hl : lv_has ls 4 [(0, .ref G.1)] := hl
  have hX := hX0
  have hk51 := hts (.constantLong RL 51 (1000000)) (by decide +kernel)
  have hk59 := hts (.constantLong RL 59 (198000)) (by decide +kernel)
  refine lv_aload_n hx hb dL_sums_0 rfl (lv_at hl 0 rfl) ?_
  refine lv_iconst (v := nI 1) hx hb dL_sums_1 (by decide) ?_
  refine lk_V (As := [.int (nI 1)]) (rest := []) ⟨hx, hb, hml, hown, hts⟩ (k_sum l C G b ph r n 1 (by decide)) (cwV 1 hts gL_sums_X4_sum rfl rfl rfl (by decide +kernel) ⟨Nat.le_of_ble_eq_true rfl, Nat.le_of_ble_eq_true rfl⟩) hK hV hE hX hP hD hS hA rfl hl.1 rfl (Nat.le_of_ble_eq_true rfl) dL_sums_2 (Nat.zero_le _) (Nat.zero_le _) (fun X H locs hX hP hD hS => ?_)
  refine W.eq (g2 := F0 m 5 ls [.long (lN (bw b))]) rfl ?_
  refine lv_lconst (v := lN 0) hx hb dL_sums_5 (by decide) ?_
  refine W.lcmp hx hb dL_sums_6 ?_
  refine lv_if_lt (tgt := 43) hx hb dL_sums_7 (by decide) (fun c7 => ?_) (fun c7 => ?_)
  · have c7 : (bw b) < 0 := q_Llt (by omega) (by omega) c7
    exact absurd c7 (by omega)
  have c7 : 0 ≤ (bw b) := q_Llt' (by omega) (by omega) c7
  refine lv_aload_n hx hb dL_sums_10 rfl (lv_at hl 0 rfl) ?_
  refine lv_iconst (v := nI 1) hx hb dL_sums_11 (by decide) ?_
  refine lk_V (As := [.int (nI 1)]) (rest := []) ⟨hx, hb, hml, hown, hts⟩ (k_sum l C G b ph r n 1 (by decide)) (cwV 1 hts gL_sums_X4_sum rfl rfl rfl (by decide +kernel) ⟨Nat.le_of_ble_eq_true rfl, Nat.le_of_ble_eq_true rfl⟩) hK hV hE hX hP hD hS hA rfl hl.1 rfl (Nat.le_of_ble_eq_true rfl) dL_sums_12 (Nat.zero_le _) (Nat.zero_le _) (fun X H locs hX hP hD hS => ?_)
  refine W.eq (g2 := F0 m 15 ls [.long (lN (bw b))]) rfl ?_
  refine lv_ldc2 hx hb hown hk51 dL_sums_15 ?_
  refine q_tl (y := lN 1000000) (by decide) ?_
  refine W.lcmp hx hb dL_sums_18 ?_
  refine lv_if_gt (tgt := 43) hx hb dL_sums_19 (by decide) (fun c19 => ?_) (fun c19 => ?_)
  · have c19 : 1000000 < (bw b) := q_Lgt (by omega) (by omega) c19
    exact absurd c19 (by omega)
  have c19 : (bw b) ≤ 1000000 := q_Lgt' (by omega) (by omega) c19
  refine lv_aload_n hx hb dL_sums_22 rfl (lv_at hl 0 rfl) ?_
  refine lv_iconst (v := nI 2) hx hb dL_sums_23 (by decide) ?_
  refine lk_V (As := [.int (nI 2)]) (rest := []) ⟨hx, hb, hml, hown, hts⟩ (k_choice l C G b ph r n 2 hB (by decide)) (cwV 1 hts gL_sums_X4_choice rfl rfl rfl (by decide +kernel) ⟨Nat.le_of_ble_eq_true rfl, Nat.le_of_ble_eq_true rfl⟩) hK hV hE hX hP hD hS hA rfl hl.1 rfl (Nat.le_of_ble_eq_true rfl) dL_sums_24 (Nat.zero_le _) (Nat.zero_le _) (fun X H locs hX hP hD hS => ?_)
  refine W.eq (g2 := F0 m 27 ls [.int (nI (bl b % 4))]) rfl ?_
  refine lv_aload_n hx hb dL_sums_27 rfl (lv_at hl 0 rfl) ?_
  refine lv_iconst (v := nI 2) hx hb dL_sums_28 (by decide) ?_
  refine lk_V (As := [.int (nI 2)]) (rest := [.int (nI (bl b % 4))]) ⟨hx, hb, hml, hown, hts⟩ (k_count l C G b ph r n 2 (by decide)) (cwV 1 hts gL_sums_X4_count rfl rfl rfl (by decide +kernel) ⟨Nat.le_of_ble_eq_true rfl, Nat.le_of_ble_eq_true rfl⟩) hK hV hE hX hP hD hS hA rfl hl.1 rfl (Nat.le_of_ble_eq_true rfl) dL_sums_29 (Nat.zero_le _) (Nat.zero_le _) (fun X H locs hX hP hD hS => ?_)
  refine W.eq (g2 := F0 m 32 ls [.int (nI (bl b) - 1), .int (nI (bl b % 4))]) rfl ?_
  refine lv_iconst (v := nI 1) hx hb dL_sums_32 (by decide) ?_
  refine lv_iadd hx hb dL_sums_33 ?_
  refine q_ti (y := nI (bl b)) (lasU _) ?_
  refine lv_iconst (v := nI 4) hx hb dL_sums_34 (by decide) ?_
  refine lv_irem hx hb dL_sums_35 (by decide) ?_
  refine q_ti (y := nI (bl b % 4)) (rem4 (by omega)) ?_
  refine lv_icmp_ne (tgt := 43) hx hb dL_sums_36 (by decide) (fun c36 => ?_) (fun c36 => ?_)
  · have c36 : (bl b % 4) ≠ (bl b % 4) := q_nne (by omega) (by omega) c36
    exact absurd rfl c36
  have c36 : (bl b % 4) = (bl b % 4) := q_nne' (by omega) (by omega) c36
  refine lv_iconst (v := nI 1) hx hb dL_sums_39 (by decide) ?_
  refine lv_goto (tgt := 44) hx hb dL_sums_40 (by decide) ?_
  refine lv_istore_n (lv' := [(1, .int (nI 1)), (0, .ref G.1)]) hx hb dL_sums_44 rfl hl (by decide) rfl (fun ls hl => ?_)
  refine lv_iconst (v := nI 0) hx hb dL_sums_45 (by decide) ?_
  refine lv_istore_n (lv' := [(2, .int (nI 0)), (1, .int (nI 1)), (0, .ref G.1)]) hx hb dL_sums_46 rfl hl (by decide) rfl (fun ls hl => ?_)
  have K47 : ∀ (n47 i : Nat), i ≤ 3 → 3 + 1 ≤ i + n47 → ∀ (X : va_W) (H : Heap) (locs : List Loc) (ls : Array Slot), LW C G b ph r n X → va_P C.1 vwCl X H → va_D (q_A X0 s) X → va_S (q_A X0 s) s.heap H locs → lv_has ls 4 [(1, .int (nI 1)), (2, .int (nI i)), (0, .ref G.1)] → W p l e (q_R 7 161) s m ([.ref G.1] : List Value).toArray below meth c H locs 0 0 (q_G C below X0 (fun q w => q = some (.int (nI 1)) ∧ LW C G b ph r n w) ([.ref G.1] : List Value).toArray s) (F0 m 47 ls []) := by
    intro n47
    induction n47 with
    | zero => intro i q1 q2; exact absurd q2 (by omega)
    | succ n47 ih47 =>
      intro i hi47 hn47 X H locs ls hX hP hD hS hl
      refine lv_iload_n hx hb dL_sums_47 rfl (lv_at hl 1 rfl) ?_
      refine lv_iconst (v := nI 3) hx hb dL_sums_48 (by decide) ?_
      refine lv_icmp_ge (tgt := 96) hx hb dL_sums_49 (by decide) (fun c49 => ?_) (fun c49 => ?_)
      · have c49 : 3 ≤ i := q_nge (by omega) (by omega) c49
        refine lv_aload_n hx hb dL_sums_96 rfl (lv_at hl 2 rfl) ?_
        refine lv_iconst (v := nI 1) hx hb dL_sums_97 (by decide) ?_
        refine lv_aload_n hx hb dL_sums_98 rfl (lv_at hl 2 rfl) ?_
        refine lv_iconst (v := nI 1) hx hb dL_sums_99 (by decide) ?_
        refine lv_iconst (v := nI 0) hx hb dL_sums_100 (by decide) ?_
        refine lk_V (As := [.int (nI 1), .int (nI 0)]) (rest := [.int (nI 1), .ref G.1]) ⟨hx, hb, hml, hown, hts⟩ (k_arm l C G b ph r n 1 0 hB (by omega) (by decide)) (cwV 2 hts gL_sums_X4_arm rfl rfl rfl (by decide +kernel) ⟨Nat.le_of_ble_eq_true rfl, Nat.le_of_ble_eq_true rfl⟩) hK hV hE hX hP hD hS hA rfl hl.1 rfl (Nat.le_of_ble_eq_true rfl) dL_sums_101 (Nat.zero_le _) (Nat.zero_le _) (fun X H locs hX hP hD hS => ?_)
        refine W.eq (g2 := F0 m 104 ls [.int (nI (bp b 1)), .int (nI 1), .ref G.1]) rfl ?_
        refine lk_V (As := [.int (nI 1), .int (nI (bp b 1))]) (rest := []) ⟨hx, hb, hml, hown, hts⟩ (k_giftFor l C G b ph r n 1 (bp b 1) hB (by decide) (hB.2.1 1 (by decide))) (cwV 2 hts gL_sums_X4_giftFor rfl rfl rfl (by decide +kernel) ⟨Nat.le_of_ble_eq_true rfl, Nat.le_of_ble_eq_true rfl⟩) hK hV hE hX hP hD hS hA rfl hl.1 rfl (Nat.le_of_ble_eq_true rfl) dL_sums_104 (Nat.zero_le _) (Nat.zero_le _) (fun X H locs hX hP hD hS => ?_)
        refine W.eq (g2 := F0 m 107 ls [.int (lgI (lgN b 1 (bp b 1)))]) rfl ?_
        rcases Nat.lt_or_ge 99 (lgN b 1 (bp b 1)) with hg | hg
        · skip
          refine q_ti (y := (-1)) (by rw [lgI, if_neg (Nat.not_le.mpr hg)]) ?_
          refine lv_istore_n (lv' := [(2, .int (-1)), (1, .int (nI 1)), (0, .ref G.1)]) hx hb dL_sums_107 rfl hl (by decide) rfl (fun ls hl => ?_)
          refine lv_iload_n hx hb dL_sums_108 rfl (lv_at hl 1 rfl) ?_
          refine lv_if_eq (tgt := 175) hx hb dL_sums_109 (by decide) (fun c => absurd c (by decide)) (fun _ => ?_)
          refine lv_iload_n hx hb dL_sums_112 rfl (lv_at hl 0 rfl) ?_
          refine lv_iconst (v := (-1)) hx hb dL_sums_113 (by decide) ?_
          refine lv_icmp_lt (tgt := 175) hx hb dL_sums_114 (by decide) (fun c => absurd c (by decide)) (fun _ => ?_)
          refine lv_iload_n hx hb dL_sums_117 rfl (lv_at hl 0 rfl) ?_
          refine lv_bipush (v := nI 99) hx hb dL_sums_118 (by decide) ?_
          refine lv_icmp_gt (tgt := 175) hx hb dL_sums_120 (by decide) (fun c => absurd c (by decide)) (fun _ => ?_)
          refine lv_aload_n hx hb dL_sums_123 rfl (lv_at hl 2 rfl) ?_
          refine lv_iconst (v := nI 0) hx hb dL_sums_124 (by decide) ?_
          refine lk_V (As := [.int (nI 0)]) (rest := []) ⟨hx, hb, hml, hown, hts⟩ (k_choice l C G b ph r n 0 hB (by decide)) (cwV 1 hts gL_sums_X4_choice rfl rfl rfl (by decide +kernel) ⟨Nat.le_of_ble_eq_true rfl, Nat.le_of_ble_eq_true rfl⟩) hK hV hE hX hP hD hS hA rfl hl.1 rfl (Nat.le_of_ble_eq_true rfl) dL_sums_125 (Nat.zero_le _) (Nat.zero_le _) (fun X H locs hX hP hD hS => ?_)
          refine W.eq (g2 := F0 m 128 ls [.int (nI (choN b (idxT b) 0))]) rfl ?_
          refine lv_iconst (v := nI 1) hx hb dL_sums_128 (by decide) ?_
          refine lv_icmp_ne (tgt := 152) hx hb dL_sums_129 (by decide) (fun c129 => ?_) (fun c129 => ?_)
          · have c129 : (choN b (idxT b) 0) ≠ 1 := q_nne (by omega) (by omega) c129
            refine lv_aload_n hx hb dL_sums_152 rfl (lv_at hl 2 rfl) ?_
            refine lv_iconst (v := nI 2) hx hb dL_sums_153 (by decide) ?_
            refine lk_V (As := [.int (nI 2)]) (rest := []) ⟨hx, hb, hml, hown, hts⟩ (k_setting l C G b ph r n 2 (by decide)) (cwV 1 hts gL_sums_X4_setting rfl rfl rfl (by decide +kernel) ⟨Nat.le_of_ble_eq_true rfl, Nat.le_of_ble_eq_true rfl⟩) hK hV hE hX hP hD hS hA rfl hl.1 rfl (Nat.le_of_ble_eq_true rfl) dL_sums_154 (Nat.zero_le _) (Nat.zero_le _) (fun X H locs hX hP hD hS => ?_)
            refine W.eq (g2 := F0 m 157 ls [.int (nI (bs b 2))]) rfl ?_
            refine lv_if_gt (tgt := 171) hx hb dL_sums_157 (by decide) (fun c157 => ?_) (fun c157 => ?_)
            · have c157 : 0 < (bs b 2) := q_ngt0 (by omega) (by omega) c157
              refine lv_iconst (v := nI 1) hx hb dL_sums_171 (by decide) ?_
              refine lv_goto (tgt := 176) hx hb dL_sums_172 (by decide) ?_
              exact q_zret hx hb hr hlocks rfl (w1 := X) hP hS (LW.fst hX0 hX) dL_sums_176 ⟨rfl, hX⟩
            · have c157 : (bs b 2) ≤ 0 := q_ngt0' (by omega) (by omega) c157
              refine lv_aload_n hx hb dL_sums_160 rfl (lv_at hl 2 rfl) ?_
              refine lv_iconst (v := nI 0) hx hb dL_sums_161 (by decide) ?_
              refine lv_iconst (v := nI 3) hx hb dL_sums_162 (by decide) ?_
              refine lk_V (As := [.int (nI 0), .int (nI 3)]) (rest := []) ⟨hx, hb, hml, hown, hts⟩ (k_ifPlayed l C G b ph r n 0 3 hB (by decide) (by decide) (by decide)) (cwV 2 hts gL_sums_X4_ifPlayed rfl rfl rfl (by decide +kernel) ⟨Nat.le_of_ble_eq_true rfl, Nat.le_of_ble_eq_true rfl⟩) hK hV hE hX hP hD hS hA rfl hl.1 rfl (Nat.le_of_ble_eq_true rfl) dL_sums_163 (Nat.zero_le _) (Nat.zero_le _) (fun X H locs hX hP hD hS => ?_)
              refine W.eq (g2 := F0 m 166 ls [.long (gnN b 0 3)]) rfl ?_
              refine lv_lconst (v := lN 0) hx hb dL_sums_166 (by decide) ?_
              refine W.lcmp hx hb dL_sums_167 ?_
              refine lv_if_lt (tgt := 175) hx hb dL_sums_168 (by decide) (fun c168 => ?_) (fun c168 => ?_)
              · have c168 : (gnN b 0 3) < (lN 0) := q_llt c168
                exact absurd (gn_3 hB (by omega)) (Int64.not_le.mpr c168)
              have c168 : (lN 0) ≤ (gnN b 0 3) := q_llt' c168
              refine lv_iconst (v := nI 1) hx hb dL_sums_171 (by decide) ?_
              refine lv_goto (tgt := 176) hx hb dL_sums_172 (by decide) ?_
              exact q_zret hx hb hr hlocks rfl (w1 := X) hP hS (LW.fst hX0 hX) dL_sums_176 ⟨rfl, hX⟩
          · have c129 : (choN b (idxT b) 0) = 1 := q_nne' (by omega) (by omega) c129
            exact absurd (Nat.le_trans (lg_me c129) hgm) (Nat.not_le.mpr hg)
        · skip
          refine q_ti (y := nI (lgN b 1 (bp b 1))) (by rw [lgI, if_pos hg]) ?_
          refine lv_istore_n (lv' := [(2, .int (nI (lgN b 1 (bp b 1)))), (1, .int (nI 1)), (0, .ref G.1)]) hx hb dL_sums_107 rfl hl (by decide) rfl (fun ls hl => ?_)
          refine lv_iload_n hx hb dL_sums_108 rfl (lv_at hl 1 rfl) ?_
          refine lv_if_eq (tgt := 175) hx hb dL_sums_109 (by decide) (fun c => absurd c (by decide)) (fun _ => ?_)
          refine lv_iload_n hx hb dL_sums_112 rfl (lv_at hl 0 rfl) ?_
          refine lv_iconst (v := (-1)) hx hb dL_sums_113 (by decide) ?_
          refine lv_icmp_lt (tgt := 175) hx hb dL_sums_114 (by decide) (fun c => absurd c (ngm (by omega))) (fun _ => ?_)
          refine lv_iload_n hx hb dL_sums_117 rfl (lv_at hl 0 rfl) ?_
          refine lv_bipush (v := nI 99) hx hb dL_sums_118 (by decide) ?_
          refine lv_icmp_gt (tgt := 175) hx hb dL_sums_120 (by decide) (fun c120 => ?_) (fun c120 => ?_)
          · have c120 : 99 < (lgN b 1 (bp b 1)) := q_ngt (by omega) (by omega) c120
            exact absurd c120 (by omega)
          have c120 : (lgN b 1 (bp b 1)) ≤ 99 := q_ngt' (by omega) (by omega) c120
          refine lv_aload_n hx hb dL_sums_123 rfl (lv_at hl 2 rfl) ?_
          refine lv_iconst (v := nI 0) hx hb dL_sums_124 (by decide) ?_
          refine lk_V (As := [.int (nI 0)]) (rest := []) ⟨hx, hb, hml, hown, hts⟩ (k_choice l C G b ph r n 0 hB (by decide)) (cwV 1 hts gL_sums_X4_choice rfl rfl rfl (by decide +kernel) ⟨Nat.le_of_ble_eq_true rfl, Nat.le_of_ble_eq_true rfl⟩) hK hV hE hX hP hD hS hA rfl hl.1 rfl (Nat.le_of_ble_eq_true rfl) dL_sums_125 (Nat.zero_le _) (Nat.zero_le _) (fun X H locs hX hP hD hS => ?_)
          refine W.eq (g2 := F0 m 128 ls [.int (nI (choN b (idxT b) 0))]) rfl ?_
          refine lv_iconst (v := nI 1) hx hb dL_sums_128 (by decide) ?_
          refine lv_icmp_ne (tgt := 152) hx hb dL_sums_129 (by decide) (fun c129 => ?_) (fun c129 => ?_)
          · have c129 : (choN b (idxT b) 0) ≠ 1 := q_nne (by omega) (by omega) c129
            refine lv_aload_n hx hb dL_sums_152 rfl (lv_at hl 2 rfl) ?_
            refine lv_iconst (v := nI 2) hx hb dL_sums_153 (by decide) ?_
            refine lk_V (As := [.int (nI 2)]) (rest := []) ⟨hx, hb, hml, hown, hts⟩ (k_setting l C G b ph r n 2 (by decide)) (cwV 1 hts gL_sums_X4_setting rfl rfl rfl (by decide +kernel) ⟨Nat.le_of_ble_eq_true rfl, Nat.le_of_ble_eq_true rfl⟩) hK hV hE hX hP hD hS hA rfl hl.1 rfl (Nat.le_of_ble_eq_true rfl) dL_sums_154 (Nat.zero_le _) (Nat.zero_le _) (fun X H locs hX hP hD hS => ?_)
            refine W.eq (g2 := F0 m 157 ls [.int (nI (bs b 2))]) rfl ?_
            refine lv_if_gt (tgt := 171) hx hb dL_sums_157 (by decide) (fun c157 => ?_) (fun c157 => ?_)
            · have c157 : 0 < (bs b 2) := q_ngt0 (by omega) (by omega) c157
              refine lv_iconst (v := nI 1) hx hb dL_sums_171 (by decide) ?_
              refine lv_goto (tgt := 176) hx hb dL_sums_172 (by decide) ?_
              exact q_zret hx hb hr hlocks rfl (w1 := X) hP hS (LW.fst hX0 hX) dL_sums_176 ⟨rfl, hX⟩
            · have c157 : (bs b 2) ≤ 0 := q_ngt0' (by omega) (by omega) c157
              refine lv_aload_n hx hb dL_sums_160 rfl (lv_at hl 2 rfl) ?_
              refine lv_iconst (v := nI 0) hx hb dL_sums_161 (by decide) ?_
              refine lv_iconst (v := nI 3) hx hb dL_sums_162 (by decide) ?_
              refine lk_V (As := [.int (nI 0), .int (nI 3)]) (rest := []) ⟨hx, hb, hml, hown, hts⟩ (k_ifPlayed l C G b ph r n 0 3 hB (by decide) (by decide) (by decide)) (cwV 2 hts gL_sums_X4_ifPlayed rfl rfl rfl (by decide +kernel) ⟨Nat.le_of_ble_eq_true rfl, Nat.le_of_ble_eq_true rfl⟩) hK hV hE hX hP hD hS hA rfl hl.1 rfl (Nat.le_of_ble_eq_true rfl) dL_sums_163 (Nat.zero_le _) (Nat.zero_le _) (fun X H locs hX hP hD hS => ?_)
              refine W.eq (g2 := F0 m 166 ls [.long (gnN b 0 3)]) rfl ?_
              refine lv_lconst (v := lN 0) hx hb dL_sums_166 (by decide) ?_
              refine W.lcmp hx hb dL_sums_167 ?_
              refine lv_if_lt (tgt := 175) hx hb dL_sums_168 (by decide) (fun c168 => ?_) (fun c168 => ?_)
              · have c168 : (gnN b 0 3) < (lN 0) := q_llt c168
                exact absurd (gn_3 hB (by omega)) (Int64.not_le.mpr c168)
              have c168 : (lN 0) ≤ (gnN b 0 3) := q_llt' c168
              refine lv_iconst (v := nI 1) hx hb dL_sums_171 (by decide) ?_
              refine lv_goto (tgt := 176) hx hb dL_sums_172 (by decide) ?_
              exact q_zret hx hb hr hlocks rfl (w1 := X) hP hS (LW.fst hX0 hX) dL_sums_176 ⟨rfl, hX⟩
          · have c129 : (choN b (idxT b) 0) = 1 := q_nne' (by omega) (by omega) c129
            refine lv_iload_n hx hb dL_sums_132 rfl (lv_at hl 0 rfl) ?_
            refine lv_if_lt (tgt := 175) hx hb dL_sums_133 (by decide) (fun c133 => ?_) (fun c133 => ?_)
            · have c133 : (lgN b 1 (bp b 1)) < 0 := q_nlt0 (by omega) (by omega) c133
              exact absurd c133 (by omega)
            have c133 : 0 ≤ (lgN b 1 (bp b 1)) := q_nlt0' (by omega) (by omega) c133
            refine lv_iload_n hx hb dL_sums_136 rfl (lv_at hl 0 rfl) ?_
            refine lv_aload_n hx hb dL_sums_137 rfl (lv_at hl 2 rfl) ?_
            refine lv_iconst (v := nI 1) hx hb dL_sums_138 (by decide) ?_
            refine lv_aload_n hx hb dL_sums_139 rfl (lv_at hl 2 rfl) ?_
            refine lv_iconst (v := nI 1) hx hb dL_sums_140 (by decide) ?_
            refine lv_iconst (v := nI 0) hx hb dL_sums_141 (by decide) ?_
            refine lk_V (As := [.int (nI 1), .int (nI 0)]) (rest := [.int (nI 1), .ref G.1, .int (nI (lgN b 1 (bp b 1)))]) ⟨hx, hb, hml, hown, hts⟩ (k_arm l C G b ph r n 1 0 hB (by omega) (by decide)) (cwV 2 hts gL_sums_X4_arm rfl rfl rfl (by decide +kernel) ⟨Nat.le_of_ble_eq_true rfl, Nat.le_of_ble_eq_true rfl⟩) hK hV hE hX hP hD hS hA rfl hl.1 rfl (Nat.le_of_ble_eq_true rfl) dL_sums_142 (Nat.zero_le _) (Nat.zero_le _) (fun X H locs hX hP hD hS => ?_)
            refine W.eq (g2 := F0 m 145 ls [.int (nI (bp b 1)), .int (nI 1), .ref G.1, .int (nI (lgN b 1 (bp b 1)))]) rfl ?_
            refine lv_iconst (v := nI 0) hx hb dL_sums_145 (by decide) ?_
            refine lk_V (As := [.int (nI 1), .int (nI (bp b 1)), .int (nI 0)]) (rest := [.int (nI (lgN b 1 (bp b 1)))]) ⟨hx, hb, hml, hown, hts⟩ (k_stateOf l C G b ph r n 1 (bp b 1) 0 hB (by omega) (hB.2.1 1 (by decide)) (by decide)) (cwV 3 hts gL_sums_X4_stateOf rfl rfl rfl (by decide +kernel) ⟨Nat.le_of_ble_eq_true rfl, Nat.le_of_ble_eq_true rfl⟩) hK hV hE hX hP hD hS hA rfl hl.1 rfl (Nat.le_of_ble_eq_true rfl) dL_sums_146 (Nat.zero_le _) (Nat.zero_le _) (fun X H locs hX hP hD hS => ?_)
            refine W.eq (g2 := F0 m 149 ls [.int (nI (bg b (4 * 1 + bp b 1))), .int (nI (lgN b 1 (bp b 1)))]) rfl ?_
            refine lv_icmp_gt (tgt := 175) hx hb dL_sums_149 (by decide) (fun c149 => ?_) (fun c149 => ?_)
            · have c149 : (bg b (4 * 1 + bp b 1)) < (lgN b 1 (bp b 1)) := q_ngt (by omega) (by omega) c149
              exact absurd (lg_me c129) (Nat.not_le.mpr c149)
            have c149 : (lgN b 1 (bp b 1)) ≤ (bg b (4 * 1 + bp b 1)) := q_ngt' (by omega) (by omega) c149
            refine lv_aload_n hx hb dL_sums_152 rfl (lv_at hl 2 rfl) ?_
            refine lv_iconst (v := nI 2) hx hb dL_sums_153 (by decide) ?_
            refine lk_V (As := [.int (nI 2)]) (rest := []) ⟨hx, hb, hml, hown, hts⟩ (k_setting l C G b ph r n 2 (by decide)) (cwV 1 hts gL_sums_X4_setting rfl rfl rfl (by decide +kernel) ⟨Nat.le_of_ble_eq_true rfl, Nat.le_of_ble_eq_true rfl⟩) hK hV hE hX hP hD hS hA rfl hl.1 rfl (Nat.le_of_ble_eq_true rfl) dL_sums_154 (Nat.zero_le _) (Nat.zero_le _) (fun X H locs hX hP hD hS => ?_)
            refine W.eq (g2 := F0 m 157 ls [.int (nI (bs b 2))]) rfl ?_
            refine lv_if_gt (tgt := 171) hx hb dL_sums_157 (by decide) (fun c157 => ?_) (fun c157 => ?_)
            · have c157 : 0 < (bs b 2) := q_ngt0 (by omega) (by omega) c157
              refine lv_iconst (v := nI 1) hx hb dL_sums_171 (by decide) ?_
              refine lv_goto (tgt := 176) hx hb dL_sums_172 (by decide) ?_
              exact q_zret hx hb hr hlocks rfl (w1 := X) hP hS (LW.fst hX0 hX) dL_sums_176 ⟨rfl, hX⟩
            · have c157 : (bs b 2) ≤ 0 := q_ngt0' (by omega) (by omega) c157
              refine lv_aload_n hx hb dL_sums_160 rfl (lv_at hl 2 rfl) ?_
              refine lv_iconst (v := nI 0) hx hb dL_sums_161 (by decide) ?_
              refine lv_iconst (v := nI 3) hx hb dL_sums_162 (by decide) ?_
              refine lk_V (As := [.int (nI 0), .int (nI 3)]) (rest := []) ⟨hx, hb, hml, hown, hts⟩ (k_ifPlayed l C G b ph r n 0 3 hB (by decide) (by decide) (by decide)) (cwV 2 hts gL_sums_X4_ifPlayed rfl rfl rfl (by decide +kernel) ⟨Nat.le_of_ble_eq_true rfl, Nat.le_of_ble_eq_true rfl⟩) hK hV hE hX hP hD hS hA rfl hl.1 rfl (Nat.le_of_ble_eq_true rfl) dL_sums_163 (Nat.zero_le _) (Nat.zero_le _) (fun X H locs hX hP hD hS => ?_)
              refine W.eq (g2 := F0 m 166 ls [.long (gnN b 0 3)]) rfl ?_
              refine lv_lconst (v := lN 0) hx hb dL_sums_166 (by decide) ?_
              refine W.lcmp hx hb dL_sums_167 ?_
              refine lv_if_lt (tgt := 175) hx hb dL_sums_168 (by decide) (fun c168 => ?_) (fun c168 => ?_)
              · have c168 : (gnN b 0 3) < (lN 0) := q_llt c168
                exact absurd (gn_3 hB (by omega)) (Int64.not_le.mpr c168)
              have c168 : (lN 0) ≤ (gnN b 0 3) := q_llt' c168
              refine lv_iconst (v := nI 1) hx hb dL_sums_171 (by decide) ?_
              refine lv_goto (tgt := 176) hx hb dL_sums_172 (by decide) ?_
              exact q_zret hx hb hr hlocks rfl (w1 := X) hP hS (LW.fst hX0 hX) dL_sums_176 ⟨rfl, hX⟩
      · have c49 : i < 3 := q_nge' (by omega) (by omega) c49
        refine lv_iload_n hx hb dL_sums_52 rfl (lv_at hl 0 rfl) ?_
        refine lv_if_eq (tgt := 96) hx hb dL_sums_53 (by decide) (fun c => absurd c (by decide)) (fun _ => ?_)
        refine lv_aload_n hx hb dL_sums_56 rfl (lv_at hl 2 rfl) ?_
        refine lv_iload_n hx hb dL_sums_57 rfl (lv_at hl 1 rfl) ?_
        refine lk_V (As := [.int (nI i)]) (rest := []) ⟨hx, hb, hml, hown, hts⟩ (k_choice l C G b ph r n i hB (by omega)) (cwV 1 hts gL_sums_X4_choice rfl rfl rfl (by decide +kernel) ⟨Nat.le_of_ble_eq_true rfl, Nat.le_of_ble_eq_true rfl⟩) hK hV hE hX hP hD hS hA rfl hl.1 rfl (Nat.le_of_ble_eq_true rfl) dL_sums_58 (Nat.zero_le _) (Nat.zero_le _) (fun X H locs hX hP hD hS => ?_)
        refine W.eq (g2 := F0 m 61 ls [.int (nI (choN b (idxT b) i))]) rfl ?_
        refine lv_istore_n (lv' := [(3, .int (nI (choN b (idxT b) i))), (1, .int (nI 1)), (2, .int (nI i)), (0, .ref G.1)]) hx hb dL_sums_61 rfl hl (by decide) rfl (fun ls hl => ?_)
        have hch := choN_lt hB (idxT b) i
        refine lv_iload_n hx hb dL_sums_62 rfl (lv_at hl 0 rfl) ?_
        refine lv_if_lt (tgt := 88) hx hb dL_sums_63 (by decide) (fun c63 => ?_) (fun c63 => ?_)
        · have c63 : (choN b (idxT b) i) < 0 := q_nlt0 (by omega) (by omega) c63
          exact absurd c63 (by omega)
        have c63 : 0 ≤ (choN b (idxT b) i) := q_nlt0' (by omega) (by omega) c63
        refine lv_iload_n hx hb dL_sums_66 rfl (lv_at hl 0 rfl) ?_
        refine lv_iconst (v := nI 4) hx hb dL_sums_67 (by decide) ?_
        refine lv_icmp_ge (tgt := 88) hx hb dL_sums_68 (by decide) (fun c68 => ?_) (fun c68 => ?_)
        · have c68 : 4 ≤ (choN b (idxT b) i) := q_nge (by omega) (by omega) c68
          exact absurd hch (Nat.not_lt.mpr c68)
        have c68 : (choN b (idxT b) i) < 4 := q_nge' (by omega) (by omega) c68
        refine lv_aload_n hx hb dL_sums_71 rfl (lv_at hl 3 rfl) ?_
        refine lv_iload_n hx hb dL_sums_72 rfl (lv_at hl 2 rfl) ?_
        refine lv_iconst (v := nI 2) hx hb dL_sums_73 (by decide) ?_
        refine lk_V (As := [.int (nI i), .int (nI 2)]) (rest := []) ⟨hx, hb, hml, hown, hts⟩ (k_ifPlayed l C G b ph r n i 2 hB (by omega) (by decide) (by decide)) (cwV 2 hts gL_sums_X4_ifPlayed rfl rfl rfl (by decide +kernel) ⟨Nat.le_of_ble_eq_true rfl, Nat.le_of_ble_eq_true rfl⟩) hK hV hE hX hP hD hS hA rfl hl.1 rfl (Nat.le_of_ble_eq_true rfl) dL_sums_74 (Nat.zero_le _) (Nat.zero_le _) (fun X H locs hX hP hD hS => ?_)
        refine W.eq (g2 := F0 m 77 ls [.long (gnN b i 2)]) rfl ?_
        refine lv_ldc2 hx hb hown hk59 dL_sums_77 ?_
        refine q_tl (y := lN 198000) (by decide) ?_
        refine W.lcmp hx hb dL_sums_80 ?_
        refine lv_if_gt (tgt := 88) hx hb dL_sums_81 (by decide) (fun c81 => ?_) (fun c81 => ?_)
        · have c81 : (lN 198000) < (gnN b i 2) := q_lgt c81
          exact absurd (gn_2 hB i) (Int64.not_le.mpr c81)
        have c81 : (gnN b i 2) ≤ (lN 198000) := q_lgt' c81
        refine lv_iconst (v := nI 1) hx hb dL_sums_84 (by decide) ?_
        refine lv_goto (tgt := 89) hx hb dL_sums_85 (by decide) ?_
        refine lv_istore_n (lv' := [(1, .int (nI 1)), (3, .int (nI (choN b (idxT b) i))), (2, .int (nI i)), (0, .ref G.1)]) hx hb dL_sums_89 rfl hl (by decide) rfl (fun ls hl => ?_)
        refine lv_iinc (v := nI (i + 1)) (lv' := [(2, .int (nI (i + 1))), (1, .int (nI 1)), (3, .int (nI (choN b (idxT b) i))), (0, .ref G.1)]) hx hb dL_sums_90 hl (k := 2) rfl (nI_1 _) (by decide) rfl (fun ls hl => ?_)
        refine lv_goto (tgt := 47) hx hb dL_sums_93 (by decide) ?_
        exact ih47 (i + 1) (by omega) (by omega) X H locs ls hX hP hD hS (lv_sub hl [1, 0, 3] rfl)
  exact K47 (3 + 1) 0 (by omega) (by omega) _ _ _ ls hX hP hD hS (lv_sub hl [1, 0, 2] rfl)
