/-! the law's look at the arms -/
set_option maxHeartbeats 4000000 in
set_option maxRecDepth 100000 in
theorem k_L_arms (l : Launch) (C : q_C) (G : ad_G) (b : Bd) (ph : Nat → Bd) (r n : Nat) (hY : okY b) (hU : sumU b ≤ 9999) : lkC C l G b ph r n yL_arms wsL_arms 5 133 [] (.int (nI 1)) b ph r n := by
  have hB := hY.1
  have hbx0 := bu_le hU 0 (by decide)
  have hbxU : bx b ≤ 9999 := by
    rcases Nat.eq_zero_or_pos (sumU b) with q | q
    · have := (hY.2.1 q).2; omega
    · have := (hY.2.2 q).2; omega
  intro X0 hX0
  refine q_headE (cc := cL_arms) (maxL := 13) (ret := (some .boolean)) (by decide +kernel) rfl (Nat.le_of_ble_eq_true rfl) ?_
  intro p e s m below meth c hx hb hr hlocks hml hown hts hK hV hE hP hD hS hA ls hl
  have hl : lv_has ls 13 [(0, .ref G.1)] := hl
  have hX := hX0
  have hk17 := hts (.constant RL 17 (99999)) (by decide +kernel)
  have hk34 := hts (.constantLong RL 34 (99000)) (by decide +kernel)
  have hk36 := hts (.constantLong RL 36 (100)) (by decide +kernel)
  have hk38 := hts (.constantLong RL 38 (10)) (by decide +kernel)
  refine lv_iconst (v := nI 0) hx hb dL_arms_0 (by decide) ?_
  refine lv_istore_n (lv' := [(1, .int (nI 0)), (0, .ref G.1)]) hx hb dL_arms_1 rfl hl (by decide) rfl (fun ls hl => ?_)
  refine lv_ldc hx hb hown hk17 dL_arms_2 ?_
  refine q_ti (y := nI 99999) (by decide) ?_
  refine lv_istore_n (lv' := [(2, .int (nI 99999)), (1, .int (nI 0)), (0, .ref G.1)]) hx hb dL_arms_4 rfl hl (by decide) rfl (fun ls hl => ?_)
  refine lv_iconst (v := nI 0) hx hb dL_arms_5 (by decide) ?_
  refine lv_istore_n (lv' := [(3, .int (nI 0)), (2, .int (nI 99999)), (1, .int (nI 0)), (0, .ref G.1)]) hx hb dL_arms_6 rfl hl (by decide) rfl (fun ls hl => ?_)
  refine lv_iconst (v := nI 1) hx hb dL_arms_7 (by decide) ?_
  refine lv_istore (lv' := [(4, .int (nI 1)), (3, .int (nI 0)), (2, .int (nI 99999)), (1, .int (nI 0)), (0, .ref G.1)]) hx hb dL_arms_8 hl (by decide) rfl (fun ls hl => ?_)
  refine lv_iconst (v := nI 0) hx hb dL_arms_10 (by decide) ?_
  refine lv_istore (lv' := [(5, .int (nI 0)), (4, .int (nI 1)), (3, .int (nI 0)), (2, .int (nI 99999)), (1, .int (nI 0)), (0, .ref G.1)]) hx hb dL_arms_11 hl (by decide) rfl (fun ls hl => ?_)
  have K13 : ∀ (n13 a : Nat), a ≤ 4 → 4 + 1 ≤ a + n13 → ∀ (X : va_W) (H : Heap) (locs : List Loc) (ls : Array Slot), LW C G b ph r n X → va_P C.1 vwCl X H → va_D (q_A X0 s) X → va_S (q_A X0 s) s.heap H locs → lv_has ls 13 [(1, .int (nI (pfN (bu b) a))), (2, .int (nI (lsN (bu b) a))), (3, .int (nI (msN (bu b) a))), (4, .int (nI 1)), (5, .int (nI a)), (0, .ref G.1)] → W p l e (q_R 5 133) s m ([.ref G.1] : List Value).toArray below meth c H locs 0 0 (q_G C below X0 (fun q w => q = some (.int (nI 1)) ∧ LW C G b ph r n w) ([.ref G.1] : List Value).toArray s) (F0 m 13 ls []) := by
    intro n13
    induction n13 with
    | zero => intro a q1 q2; exact absurd q2 (by omega)
    | succ n13 ih13 =>
      intro a hi13 hn13 X H locs ls hX hP hD hS hl
      have hpf := pf_le (fun k hk => bu_le hU k hk) a hi13
      have hls := ls_le (bu b) a
      have hms := ms_le (fun k hk => bu_le hU k hk) a hi13
      refine lv_iload hx hb dL_arms_13 (lv_at hl 4 rfl) ?_
      refine lv_iconst (v := nI 4) hx hb dL_arms_15 (by decide) ?_
      refine lv_icmp_ge (tgt := 332) hx hb dL_arms_16 (by decide) (fun c16 => ?_) (fun c16 => ?_)
      · have c16 : 4 ≤ a := q_nge (by omega) (by omega) c16
        have e9 : a = 4 := by omega
        subst e9
        refine lv_aload_n hx hb dL_arms_332 rfl (lv_at hl 5 rfl) ?_
        refine lk_V (As := []) (rest := []) ⟨hx, hb, hml, hown, hts⟩ (k_evenness l C G b ph r n hU) (cwV 0 hts gL_arms_X4_evenness rfl rfl rfl (by decide +kernel) ⟨Nat.le_of_ble_eq_true rfl, Nat.le_of_ble_eq_true rfl⟩) hK hV hE hX hP hD hS hA rfl hl.1 rfl (Nat.le_of_ble_eq_true rfl) dL_arms_333 (Nat.zero_le _) (Nat.zero_le _) (fun X H locs hX hP hD hS => ?_)
        refine W.eq (g2 := F0 m 336 ls [.double (evD b)]) rfl ?_
        refine lv_dstore (lv' := [(5, .double (evD b)), (1, .int (nI (pfN (bu b) 4))), (2, .int (nI (lsN (bu b) 4))), (3, .int (nI (msN (bu b) 4))), (4, .int (nI 1)), (0, .ref G.1)]) hx hb dL_arms_336 hl (by decide) rfl (fun ls hl => ?_)
        refine lv_iload hx hb dL_arms_338 (lv_at hl 4 rfl) ?_
        refine lv_if_eq (tgt := 443) hx hb dL_arms_340 (by decide) (fun c => absurd c (by decide)) (fun _ => ?_)
        refine lv_iload_n hx hb dL_arms_343 rfl (lv_at hl 1 rfl) ?_
        refine q_ti (y := nI (sumU b)) (by rw [pfN_4]) ?_
        refine lv_aload_n hx hb dL_arms_344 rfl (lv_at hl 5 rfl) ?_
        refine lv_iconst (v := nI 0) hx hb dL_arms_345 (by decide) ?_
        refine lk_V (As := [.int (nI 0)]) (rest := [.int (nI (sumU b))]) ⟨hx, hb, hml, hown, hts⟩ (k_count l C G b ph r n 0 (by decide)) (cwV 1 hts gL_arms_X4_count rfl rfl rfl (by decide +kernel) ⟨Nat.le_of_ble_eq_true rfl, Nat.le_of_ble_eq_true rfl⟩) hK hV hE hX hP hD hS hA rfl hl.1 rfl (Nat.le_of_ble_eq_true rfl) dL_arms_346 (Nat.zero_le _) (Nat.zero_le _) (fun X H locs hX hP hD hS => ?_)
        refine W.eq (g2 := F0 m 349 ls [.int (nI (sumU b)), .int (nI (sumU b))]) rfl ?_
        refine lv_icmp_ne (tgt := 443) hx hb dL_arms_349 (by decide) (fun c349 => ?_) (fun c349 => ?_)
        · have c349 : (sumU b) ≠ (sumU b) := q_nne (by omega) (by omega) c349
          exact absurd rfl c349
        have c349 : (sumU b) = (sumU b) := q_nne' (by omega) (by omega) c349
        refine lv_iload_n hx hb dL_arms_352 rfl (lv_at hl 3 rfl) ?_
        refine lv_if_ne (tgt := 366) hx hb dL_arms_353 (by decide) (fun c353 => ?_) (fun c353 => ?_)
        · have c353 : (msN (bu b) 4) ≠ 0 := q_nne0 (by omega) (by omega) c353
          refine lv_dload hx hb dL_arms_366 (lv_at hl 0 rfl) ?_
          refine lv_iload_n hx hb dL_arms_368 rfl (lv_at hl 2 rfl) ?_
          refine lv_i2d hx hb dL_arms_369 ?_
          refine q_td (y := FP.l2d (lN (lsN (bu b) 4))) (fp_i2d (by omega)) ?_
          refine lv_iload_n hx hb dL_arms_370 rfl (lv_at hl 3 rfl) ?_
          refine lv_i2d hx hb dL_arms_371 ?_
          refine q_td (y := FP.l2d (lN (msN (bu b) 4))) (fp_i2d (by omega)) ?_
          refine lv_ddiv hx hb dL_arms_372 ((ev_n hU c353).2.1) ?_
          refine lv_dcmp hx hb dL_arms_373 ?_
          refine q_ti (y := nI 0) (by rw [← (ev_n hU c353).1, (ev_n hU c353).2.2]; rfl) ?_
          refine lv_if_ne (tgt := 443) hx hb dL_arms_374 (by decide) (fun c => absurd c (by decide)) (fun _ => ?_)
          rcases Nat.eq_zero_or_pos (sumU b) with hz | hz
          · skip
            have hy0 := hY.2.1 hz
            refine lv_aload_n hx hb dL_arms_377 rfl (lv_at hl 5 rfl) ?_
            refine lv_iconst (v := nI 0) hx hb dL_arms_378 (by decide) ?_
            refine lk_V (As := [.int (nI 0)]) (rest := []) ⟨hx, hb, hml, hown, hts⟩ (k_count l C G b ph r n 0 (by decide)) (cwV 1 hts gL_arms_X4_count rfl rfl rfl (by decide +kernel) ⟨Nat.le_of_ble_eq_true rfl, Nat.le_of_ble_eq_true rfl⟩) hK hV hE hX hP hD hS hA rfl hl.1 rfl (Nat.le_of_ble_eq_true rfl) dL_arms_379 (Nat.zero_le _) (Nat.zero_le _) (fun X H locs hX hP hD hS => ?_)
            refine W.eq (g2 := F0 m 382 ls [.int (nI (sumU b))]) rfl ?_
            refine lv_if_ne (tgt := 389) hx hb dL_arms_382 (by decide) (fun c382 => ?_) (fun c382 => ?_)
            · have c382 : (sumU b) ≠ 0 := q_nne0 (by omega) (by omega) c382
              exact absurd hz c382
            have c382 : (sumU b) = 0 := q_nne0' (by omega) (by omega) c382
            refine lv_iconst (v := nI 1) hx hb dL_arms_385 (by decide) ?_
            refine lv_goto (tgt := 390) hx hb dL_arms_386 (by decide) ?_
            refine lv_aload_n hx hb dL_arms_390 rfl (lv_at hl 5 rfl) ?_
            refine lv_iconst (v := nI 2) hx hb dL_arms_391 (by decide) ?_
            refine lk_V (As := [.int (nI 2)]) (rest := [.int (nI 1)]) ⟨hx, hb, hml, hown, hts⟩ (k_count l C G b ph r n 2 (by decide)) (cwV 1 hts gL_arms_X4_count rfl rfl rfl (by decide +kernel) ⟨Nat.le_of_ble_eq_true rfl, Nat.le_of_ble_eq_true rfl⟩) hK hV hE hX hP hD hS hA rfl hl.1 rfl (Nat.le_of_ble_eq_true rfl) dL_arms_392 (Nat.zero_le _) (Nat.zero_le _) (fun X H locs hX hP hD hS => ?_)
            refine W.eq (g2 := F0 m 395 ls [.int (nI (bl b) - 1), .int (nI 1)]) rfl ?_
            refine lv_iconst (v := (-1)) hx hb dL_arms_395 (by decide) ?_
            refine lv_icmp_ne (tgt := 403) hx hb dL_arms_396 (by decide) (fun c => absurd ((q_las (by omega)).mpr hy0.1) c) (fun _ => ?_)
            refine lv_iconst (v := nI 1) hx hb dL_arms_399 (by decide) ?_
            refine lv_goto (tgt := 404) hx hb dL_arms_400 (by decide) ?_
            refine lv_icmp_ne (tgt := 443) hx hb dL_arms_404 (by decide) (fun c => absurd c (by decide)) (fun _ => ?_)
            refine lv_aload_n hx hb dL_arms_407 rfl (lv_at hl 5 rfl) ?_
            refine lv_iconst (v := nI 0) hx hb dL_arms_408 (by decide) ?_
            refine lk_V (As := [.int (nI 0)]) (rest := []) ⟨hx, hb, hml, hown, hts⟩ (k_count l C G b ph r n 0 (by decide)) (cwV 1 hts gL_arms_X4_count rfl rfl rfl (by decide +kernel) ⟨Nat.le_of_ble_eq_true rfl, Nat.le_of_ble_eq_true rfl⟩) hK hV hE hX hP hD hS hA rfl hl.1 rfl (Nat.le_of_ble_eq_true rfl) dL_arms_409 (Nat.zero_le _) (Nat.zero_le _) (fun X H locs hX hP hD hS => ?_)
            refine W.eq (g2 := F0 m 412 ls [.int (nI (sumU b))]) rfl ?_
            refine lv_if_ne (tgt := 426) hx hb dL_arms_412 (by decide) (fun c412 => ?_) (fun c412 => ?_)
            · have c412 : (sumU b) ≠ 0 := q_nne0 (by omega) (by omega) c412
              exact absurd hz c412
            have c412 : (sumU b) = 0 := q_nne0' (by omega) (by omega) c412
            refine lv_aload_n hx hb dL_arms_415 rfl (lv_at hl 5 rfl) ?_
            refine lv_iconst (v := nI 1) hx hb dL_arms_416 (by decide) ?_
            refine lk_V (As := [.int (nI 1)]) (rest := []) ⟨hx, hb, hml, hown, hts⟩ (k_count l C G b ph r n 1 (by decide)) (cwV 1 hts gL_arms_X4_count rfl rfl rfl (by decide +kernel) ⟨Nat.le_of_ble_eq_true rfl, Nat.le_of_ble_eq_true rfl⟩) hK hV hE hX hP hD hS hA rfl hl.1 rfl (Nat.le_of_ble_eq_true rfl) dL_arms_417 (Nat.zero_le _) (Nat.zero_le _) (fun X H locs hX hP hD hS => ?_)
            refine W.eq (g2 := F0 m 420 ls [.int (nI (bx b))]) rfl ?_
            refine lv_if_ne (tgt := 443) hx hb dL_arms_420 (by decide) (fun c420 => ?_) (fun c420 => ?_)
            · have c420 : (bx b) ≠ 0 := q_nne0 (by omega) (by omega) c420
              exact absurd hy0.2 c420
            have c420 : (bx b) = 0 := q_nne0' (by omega) (by omega) c420
            refine lv_goto (tgt := 439) hx hb dL_arms_423 (by decide) ?_
            refine lv_iconst (v := nI 1) hx hb dL_arms_439 (by decide) ?_
            refine lv_goto (tgt := 444) hx hb dL_arms_440 (by decide) ?_
            exact q_zret hx hb hr hlocks rfl (w1 := X) hP hS (LW.fst hX0 hX) dL_arms_444 ⟨rfl, hX⟩
          · skip
            have hy1 := hY.2.2 hz
            refine lv_aload_n hx hb dL_arms_377 rfl (lv_at hl 5 rfl) ?_
            refine lv_iconst (v := nI 0) hx hb dL_arms_378 (by decide) ?_
            refine lk_V (As := [.int (nI 0)]) (rest := []) ⟨hx, hb, hml, hown, hts⟩ (k_count l C G b ph r n 0 (by decide)) (cwV 1 hts gL_arms_X4_count rfl rfl rfl (by decide +kernel) ⟨Nat.le_of_ble_eq_true rfl, Nat.le_of_ble_eq_true rfl⟩) hK hV hE hX hP hD hS hA rfl hl.1 rfl (Nat.le_of_ble_eq_true rfl) dL_arms_379 (Nat.zero_le _) (Nat.zero_le _) (fun X H locs hX hP hD hS => ?_)
            refine W.eq (g2 := F0 m 382 ls [.int (nI (sumU b))]) rfl ?_
            refine lv_if_ne (tgt := 389) hx hb dL_arms_382 (by decide) (fun c382 => ?_) (fun c382 => ?_)
            · have c382 : (sumU b) ≠ 0 := q_nne0 (by omega) (by omega) c382
              refine lv_iconst (v := nI 0) hx hb dL_arms_389 (by decide) ?_
              refine lv_aload_n hx hb dL_arms_390 rfl (lv_at hl 5 rfl) ?_
              refine lv_iconst (v := nI 2) hx hb dL_arms_391 (by decide) ?_
              refine lk_V (As := [.int (nI 2)]) (rest := [.int (nI 0)]) ⟨hx, hb, hml, hown, hts⟩ (k_count l C G b ph r n 2 (by decide)) (cwV 1 hts gL_arms_X4_count rfl rfl rfl (by decide +kernel) ⟨Nat.le_of_ble_eq_true rfl, Nat.le_of_ble_eq_true rfl⟩) hK hV hE hX hP hD hS hA rfl hl.1 rfl (Nat.le_of_ble_eq_true rfl) dL_arms_392 (Nat.zero_le _) (Nat.zero_le _) (fun X H locs hX hP hD hS => ?_)
              refine W.eq (g2 := F0 m 395 ls [.int (nI (bl b) - 1), .int (nI 0)]) rfl ?_
              refine lv_iconst (v := (-1)) hx hb dL_arms_395 (by decide) ?_
              have hlt := hB.2.2.2.1
              refine lv_icmp_ne (tgt := 403) hx hb dL_arms_396 (by decide) (fun _ => ?_) (fun c => absurd ((q_las (by omega)).mp c) (Nat.ne_of_gt hy1.1))
              refine lv_iconst (v := nI 0) hx hb dL_arms_403 (by decide) ?_
              refine lv_icmp_ne (tgt := 443) hx hb dL_arms_404 (by decide) (fun c => absurd c (by decide)) (fun _ => ?_)
              refine lv_aload_n hx hb dL_arms_407 rfl (lv_at hl 5 rfl) ?_
              refine lv_iconst (v := nI 0) hx hb dL_arms_408 (by decide) ?_
              refine lk_V (As := [.int (nI 0)]) (rest := []) ⟨hx, hb, hml, hown, hts⟩ (k_count l C G b ph r n 0 (by decide)) (cwV 1 hts gL_arms_X4_count rfl rfl rfl (by decide +kernel) ⟨Nat.le_of_ble_eq_true rfl, Nat.le_of_ble_eq_true rfl⟩) hK hV hE hX hP hD hS hA rfl hl.1 rfl (Nat.le_of_ble_eq_true rfl) dL_arms_409 (Nat.zero_le _) (Nat.zero_le _) (fun X H locs hX hP hD hS => ?_)
              refine W.eq (g2 := F0 m 412 ls [.int (nI (sumU b))]) rfl ?_
              refine lv_if_ne (tgt := 426) hx hb dL_arms_412 (by decide) (fun c412 => ?_) (fun c412 => ?_)
              · have c412 : (sumU b) ≠ 0 := q_nne0 (by omega) (by omega) c412
                refine lv_aload_n hx hb dL_arms_426 rfl (lv_at hl 5 rfl) ?_
                refine lv_iconst (v := nI 1) hx hb dL_arms_427 (by decide) ?_
                refine lk_V (As := [.int (nI 1)]) (rest := []) ⟨hx, hb, hml, hown, hts⟩ (k_count l C G b ph r n 1 (by decide)) (cwV 1 hts gL_arms_X4_count rfl rfl rfl (by decide +kernel) ⟨Nat.le_of_ble_eq_true rfl, Nat.le_of_ble_eq_true rfl⟩) hK hV hE hX hP hD hS hA rfl hl.1 rfl (Nat.le_of_ble_eq_true rfl) dL_arms_428 (Nat.zero_le _) (Nat.zero_le _) (fun X H locs hX hP hD hS => ?_)
                refine W.eq (g2 := F0 m 431 ls [.int (nI (bx b))]) rfl ?_
                refine lv_aload_n hx hb dL_arms_431 rfl (lv_at hl 5 rfl) ?_
                refine lv_iconst (v := nI 0) hx hb dL_arms_432 (by decide) ?_
                refine lk_V (As := [.int (nI 0)]) (rest := [.int (nI (bx b))]) ⟨hx, hb, hml, hown, hts⟩ (k_count l C G b ph r n 0 (by decide)) (cwV 1 hts gL_arms_X4_count rfl rfl rfl (by decide +kernel) ⟨Nat.le_of_ble_eq_true rfl, Nat.le_of_ble_eq_true rfl⟩) hK hV hE hX hP hD hS hA rfl hl.1 rfl (Nat.le_of_ble_eq_true rfl) dL_arms_433 (Nat.zero_le _) (Nat.zero_le _) (fun X H locs hX hP hD hS => ?_)
                refine W.eq (g2 := F0 m 436 ls [.int (nI (sumU b)), .int (nI (bx b))]) rfl ?_
                refine lv_icmp_ge (tgt := 443) hx hb dL_arms_436 (by decide) (fun c436 => ?_) (fun c436 => ?_)
                · have c436 : (sumU b) ≤ (bx b) := q_nge (by omega) (by omega) c436
                  exact absurd hy1.2 (Nat.not_lt.mpr c436)
                have c436 : (bx b) < (sumU b) := q_nge' (by omega) (by omega) c436
                refine lv_iconst (v := nI 1) hx hb dL_arms_439 (by decide) ?_
                refine lv_goto (tgt := 444) hx hb dL_arms_440 (by decide) ?_
                exact q_zret hx hb hr hlocks rfl (w1 := X) hP hS (LW.fst hX0 hX) dL_arms_444 ⟨rfl, hX⟩
              · have c412 : (sumU b) = 0 := q_nne0' (by omega) (by omega) c412
                exact absurd c412 (Nat.ne_of_gt hz)
            · have c382 : (sumU b) = 0 := q_nne0' (by omega) (by omega) c382
              exact absurd c382 (Nat.ne_of_gt hz)
        · have c353 : (msN (bu b) 4) = 0 := q_nne0' (by omega) (by omega) c353
          refine lv_dload hx hb dL_arms_356 (lv_at hl 0 rfl) ?_
          refine lv_dconst1 hx hb dL_arms_358 ?_
          refine lv_dcmp hx hb dL_arms_359 ?_
          refine q_ti (y := nI 0) (by rw [ev_1 c353]; decide +kernel) ?_
          refine lv_if_ne (tgt := 443) hx hb dL_arms_360 (by decide) (fun c => absurd c (by decide)) (fun _ => ?_)
          refine lv_goto (tgt := 377) hx hb dL_arms_363 (by decide) ?_
          rcases Nat.eq_zero_or_pos (sumU b) with hz | hz
          · skip
            have hy0 := hY.2.1 hz
            refine lv_aload_n hx hb dL_arms_377 rfl (lv_at hl 5 rfl) ?_
            refine lv_iconst (v := nI 0) hx hb dL_arms_378 (by decide) ?_
            refine lk_V (As := [.int (nI 0)]) (rest := []) ⟨hx, hb, hml, hown, hts⟩ (k_count l C G b ph r n 0 (by decide)) (cwV 1 hts gL_arms_X4_count rfl rfl rfl (by decide +kernel) ⟨Nat.le_of_ble_eq_true rfl, Nat.le_of_ble_eq_true rfl⟩) hK hV hE hX hP hD hS hA rfl hl.1 rfl (Nat.le_of_ble_eq_true rfl) dL_arms_379 (Nat.zero_le _) (Nat.zero_le _) (fun X H locs hX hP hD hS => ?_)
            refine W.eq (g2 := F0 m 382 ls [.int (nI (sumU b))]) rfl ?_
            refine lv_if_ne (tgt := 389) hx hb dL_arms_382 (by decide) (fun c382 => ?_) (fun c382 => ?_)
            · have c382 : (sumU b) ≠ 0 := q_nne0 (by omega) (by omega) c382
              exact absurd hz c382
            have c382 : (sumU b) = 0 := q_nne0' (by omega) (by omega) c382
            refine lv_iconst (v := nI 1) hx hb dL_arms_385 (by decide) ?_
            refine lv_goto (tgt := 390) hx hb dL_arms_386 (by decide) ?_
            refine lv_aload_n hx hb dL_arms_390 rfl (lv_at hl 5 rfl) ?_
            refine lv_iconst (v := nI 2) hx hb dL_arms_391 (by decide) ?_
            refine lk_V (As := [.int (nI 2)]) (rest := [.int (nI 1)]) ⟨hx, hb, hml, hown, hts⟩ (k_count l C G b ph r n 2 (by decide)) (cwV 1 hts gL_arms_X4_count rfl rfl rfl (by decide +kernel) ⟨Nat.le_of_ble_eq_true rfl, Nat.le_of_ble_eq_true rfl⟩) hK hV hE hX hP hD hS hA rfl hl.1 rfl (Nat.le_of_ble_eq_true rfl) dL_arms_392 (Nat.zero_le _) (Nat.zero_le _) (fun X H locs hX hP hD hS => ?_)
            refine W.eq (g2 := F0 m 395 ls [.int (nI (bl b) - 1), .int (nI 1)]) rfl ?_
            refine lv_iconst (v := (-1)) hx hb dL_arms_395 (by decide) ?_
            refine lv_icmp_ne (tgt := 403) hx hb dL_arms_396 (by decide) (fun c => absurd ((q_las (by omega)).mpr hy0.1) c) (fun _ => ?_)
            refine lv_iconst (v := nI 1) hx hb dL_arms_399 (by decide) ?_
            refine lv_goto (tgt := 404) hx hb dL_arms_400 (by decide) ?_
            refine lv_icmp_ne (tgt := 443) hx hb dL_arms_404 (by decide) (fun c => absurd c (by decide)) (fun _ => ?_)
            refine lv_aload_n hx hb dL_arms_407 rfl (lv_at hl 5 rfl) ?_
            refine lv_iconst (v := nI 0) hx hb dL_arms_408 (by decide) ?_
            refine lk_V (As := [.int (nI 0)]) (rest := []) ⟨hx, hb, hml, hown, hts⟩ (k_count l C G b ph r n 0 (by decide)) (cwV 1 hts gL_arms_X4_count rfl rfl rfl (by decide +kernel) ⟨Nat.le_of_ble_eq_true rfl, Nat.le_of_ble_eq_true rfl⟩) hK hV hE hX hP hD hS hA rfl hl.1 rfl (Nat.le_of_ble_eq_true rfl) dL_arms_409 (Nat.zero_le _) (Nat.zero_le _) (fun X H locs hX hP hD hS => ?_)
            refine W.eq (g2 := F0 m 412 ls [.int (nI (sumU b))]) rfl ?_
            refine lv_if_ne (tgt := 426) hx hb dL_arms_412 (by decide) (fun c412 => ?_) (fun c412 => ?_)
            · have c412 : (sumU b) ≠ 0 := q_nne0 (by omega) (by omega) c412
              exact absurd hz c412
            have c412 : (sumU b) = 0 := q_nne0' (by omega) (by omega) c412
            refine lv_aload_n hx hb dL_arms_415 rfl (lv_at hl 5 rfl) ?_
            refine lv_iconst (v := nI 1) hx hb dL_arms_416 (by decide) ?_
            refine lk_V (As := [.int (nI 1)]) (rest := []) ⟨hx, hb, hml, hown, hts⟩ (k_count l C G b ph r n 1 (by decide)) (cwV 1 hts gL_arms_X4_count rfl rfl rfl (by decide +kernel) ⟨Nat.le_of_ble_eq_true rfl, Nat.le_of_ble_eq_true rfl⟩) hK hV hE hX hP hD hS hA rfl hl.1 rfl (Nat.le_of_ble_eq_true rfl) dL_arms_417 (Nat.zero_le _) (Nat.zero_le _) (fun X H locs hX hP hD hS => ?_)
            refine W.eq (g2 := F0 m 420 ls [.int (nI (bx b))]) rfl ?_
            refine lv_if_ne (tgt := 443) hx hb dL_arms_420 (by decide) (fun c420 => ?_) (fun c420 => ?_)
            · have c420 : (bx b) ≠ 0 := q_nne0 (by omega) (by omega) c420
              exact absurd hy0.2 c420
            have c420 : (bx b) = 0 := q_nne0' (by omega) (by omega) c420
            refine lv_goto (tgt := 439) hx hb dL_arms_423 (by decide) ?_
            refine lv_iconst (v := nI 1) hx hb dL_arms_439 (by decide) ?_
            refine lv_goto (tgt := 444) hx hb dL_arms_440 (by decide) ?_
            exact q_zret hx hb hr hlocks rfl (w1 := X) hP hS (LW.fst hX0 hX) dL_arms_444 ⟨rfl, hX⟩
          · skip
            have hy1 := hY.2.2 hz
            refine lv_aload_n hx hb dL_arms_377 rfl (lv_at hl 5 rfl) ?_
            refine lv_iconst (v := nI 0) hx hb dL_arms_378 (by decide) ?_
            refine lk_V (As := [.int (nI 0)]) (rest := []) ⟨hx, hb, hml, hown, hts⟩ (k_count l C G b ph r n 0 (by decide)) (cwV 1 hts gL_arms_X4_count rfl rfl rfl (by decide +kernel) ⟨Nat.le_of_ble_eq_true rfl, Nat.le_of_ble_eq_true rfl⟩) hK hV hE hX hP hD hS hA rfl hl.1 rfl (Nat.le_of_ble_eq_true rfl) dL_arms_379 (Nat.zero_le _) (Nat.zero_le _) (fun X H locs hX hP hD hS => ?_)
            refine W.eq (g2 := F0 m 382 ls [.int (nI (sumU b))]) rfl ?_
            refine lv_if_ne (tgt := 389) hx hb dL_arms_382 (by decide) (fun c382 => ?_) (fun c382 => ?_)
            · have c382 : (sumU b) ≠ 0 := q_nne0 (by omega) (by omega) c382
              refine lv_iconst (v := nI 0) hx hb dL_arms_389 (by decide) ?_
              refine lv_aload_n hx hb dL_arms_390 rfl (lv_at hl 5 rfl) ?_
              refine lv_iconst (v := nI 2) hx hb dL_arms_391 (by decide) ?_
              refine lk_V (As := [.int (nI 2)]) (rest := [.int (nI 0)]) ⟨hx, hb, hml, hown, hts⟩ (k_count l C G b ph r n 2 (by decide)) (cwV 1 hts gL_arms_X4_count rfl rfl rfl (by decide +kernel) ⟨Nat.le_of_ble_eq_true rfl, Nat.le_of_ble_eq_true rfl⟩) hK hV hE hX hP hD hS hA rfl hl.1 rfl (Nat.le_of_ble_eq_true rfl) dL_arms_392 (Nat.zero_le _) (Nat.zero_le _) (fun X H locs hX hP hD hS => ?_)
              refine W.eq (g2 := F0 m 395 ls [.int (nI (bl b) - 1), .int (nI 0)]) rfl ?_
              refine lv_iconst (v := (-1)) hx hb dL_arms_395 (by decide) ?_
              have hlt := hB.2.2.2.1
              refine lv_icmp_ne (tgt := 403) hx hb dL_arms_396 (by decide) (fun _ => ?_) (fun c => absurd ((q_las (by omega)).mp c) (Nat.ne_of_gt hy1.1))
              refine lv_iconst (v := nI 0) hx hb dL_arms_403 (by decide) ?_
              refine lv_icmp_ne (tgt := 443) hx hb dL_arms_404 (by decide) (fun c => absurd c (by decide)) (fun _ => ?_)
              refine lv_aload_n hx hb dL_arms_407 rfl (lv_at hl 5 rfl) ?_
              refine lv_iconst (v := nI 0) hx hb dL_arms_408 (by decide) ?_
              refine lk_V (As := [.int (nI 0)]) (rest := []) ⟨hx, hb, hml, hown, hts⟩ (k_count l C G b ph r n 0 (by decide)) (cwV 1 hts gL_arms_X4_count rfl rfl rfl (by decide +kernel) ⟨Nat.le_of_ble_eq_true rfl, Nat.le_of_ble_eq_true rfl⟩) hK hV hE hX hP hD hS hA rfl hl.1 rfl (Nat.le_of_ble_eq_true rfl) dL_arms_409 (Nat.zero_le _) (Nat.zero_le _) (fun X H locs hX hP hD hS => ?_)
              refine W.eq (g2 := F0 m 412 ls [.int (nI (sumU b))]) rfl ?_
              refine lv_if_ne (tgt := 426) hx hb dL_arms_412 (by decide) (fun c412 => ?_) (fun c412 => ?_)
              · have c412 : (sumU b) ≠ 0 := q_nne0 (by omega) (by omega) c412
                refine lv_aload_n hx hb dL_arms_426 rfl (lv_at hl 5 rfl) ?_
                refine lv_iconst (v := nI 1) hx hb dL_arms_427 (by decide) ?_
                refine lk_V (As := [.int (nI 1)]) (rest := []) ⟨hx, hb, hml, hown, hts⟩ (k_count l C G b ph r n 1 (by decide)) (cwV 1 hts gL_arms_X4_count rfl rfl rfl (by decide +kernel) ⟨Nat.le_of_ble_eq_true rfl, Nat.le_of_ble_eq_true rfl⟩) hK hV hE hX hP hD hS hA rfl hl.1 rfl (Nat.le_of_ble_eq_true rfl) dL_arms_428 (Nat.zero_le _) (Nat.zero_le _) (fun X H locs hX hP hD hS => ?_)
                refine W.eq (g2 := F0 m 431 ls [.int (nI (bx b))]) rfl ?_
                refine lv_aload_n hx hb dL_arms_431 rfl (lv_at hl 5 rfl) ?_
                refine lv_iconst (v := nI 0) hx hb dL_arms_432 (by decide) ?_
                refine lk_V (As := [.int (nI 0)]) (rest := [.int (nI (bx b))]) ⟨hx, hb, hml, hown, hts⟩ (k_count l C G b ph r n 0 (by decide)) (cwV 1 hts gL_arms_X4_count rfl rfl rfl (by decide +kernel) ⟨Nat.le_of_ble_eq_true rfl, Nat.le_of_ble_eq_true rfl⟩) hK hV hE hX hP hD hS hA rfl hl.1 rfl (Nat.le_of_ble_eq_true rfl) dL_arms_433 (Nat.zero_le _) (Nat.zero_le _) (fun X H locs hX hP hD hS => ?_)
                refine W.eq (g2 := F0 m 436 ls [.int (nI (sumU b)), .int (nI (bx b))]) rfl ?_
                refine lv_icmp_ge (tgt := 443) hx hb dL_arms_436 (by decide) (fun c436 => ?_) (fun c436 => ?_)
                · have c436 : (sumU b) ≤ (bx b) := q_nge (by omega) (by omega) c436
                  exact absurd hy1.2 (Nat.not_lt.mpr c436)
                have c436 : (bx b) < (sumU b) := q_nge' (by omega) (by omega) c436
                refine lv_iconst (v := nI 1) hx hb dL_arms_439 (by decide) ?_
                refine lv_goto (tgt := 444) hx hb dL_arms_440 (by decide) ?_
                exact q_zret hx hb hr hlocks rfl (w1 := X) hP hS (LW.fst hX0 hX) dL_arms_444 ⟨rfl, hX⟩
              · have c412 : (sumU b) = 0 := q_nne0' (by omega) (by omega) c412
                exact absurd c412 (Nat.ne_of_gt hz)
            · have c382 : (sumU b) = 0 := q_nne0' (by omega) (by omega) c382
              exact absurd c382 (Nat.ne_of_gt hz)
      · have c16 : a < 4 := q_nge' (by omega) (by omega) c16
        refine lv_iload hx hb dL_arms_19 (lv_at hl 3 rfl) ?_
        refine lv_if_eq (tgt := 332) hx hb dL_arms_21 (by decide) (fun c => absurd c (by decide)) (fun _ => ?_)
        refine lv_aload_n hx hb dL_arms_24 rfl (lv_at hl 5 rfl) ?_
        refine lv_iload hx hb dL_arms_25 (lv_at hl 4 rfl) ?_
        refine lv_iconst (v := nI 1) hx hb dL_arms_27 (by decide) ?_
        have hba := bu_le hU a (by omega)
        have h99 := idx_99 hB (show a < 4 by omega) (oa2_lt b a)
        have hp4 := hB.2.1 a (by omega)
        have h3 := oa3_in hB a
        have hrr := hB.2.2.1
        have ho2 := oa2_lt b a
        refine lk_V (As := [.int (nI a), .int (nI 1)]) (rest := []) ⟨hx, hb, hml, hown, hts⟩ (k_arm l C G b ph r n a 1 hB (by omega) (by decide)) (cwV 2 hts gL_arms_X4_arm rfl rfl rfl (by decide +kernel) ⟨Nat.le_of_ble_eq_true rfl, Nat.le_of_ble_eq_true rfl⟩) hK hV hE hX hP hD hS hA rfl hl.1 rfl (Nat.le_of_ble_eq_true rfl) dL_arms_28 (Nat.zero_le _) (Nat.zero_le _) (fun X H locs hX hP hD hS => ?_)
        refine W.eq (g2 := F0 m 31 ls [.int (nI (bu b a))]) rfl ?_
        refine lv_istore (lv' := [(6, .int (nI (bu b a))), (1, .int (nI (pfN (bu b) a))), (2, .int (nI (lsN (bu b) a))), (3, .int (nI (msN (bu b) a))), (4, .int (nI 1)), (5, .int (nI a)), (0, .ref G.1)]) hx hb dL_arms_31 hl (by decide) rfl (fun ls hl => ?_)
        refine lv_aload_n hx hb dL_arms_33 rfl (lv_at hl 6 rfl) ?_
        refine lv_iload hx hb dL_arms_34 (lv_at hl 5 rfl) ?_
        refine lv_aload_n hx hb dL_arms_36 rfl (lv_at hl 6 rfl) ?_
        refine lv_iload hx hb dL_arms_37 (lv_at hl 5 rfl) ?_
        refine lv_iconst (v := nI 2) hx hb dL_arms_39 (by decide) ?_
        refine lk_V (As := [.int (nI a), .int (nI 2)]) (rest := [.int (nI a), .ref G.1]) ⟨hx, hb, hml, hown, hts⟩ (k_arm l C G b ph r n a 2 hB (by omega) (by decide)) (cwV 2 hts gL_arms_X4_arm rfl rfl rfl (by decide +kernel) ⟨Nat.le_of_ble_eq_true rfl, Nat.le_of_ble_eq_true rfl⟩) hK hV hE hX hP hD hS hA rfl hl.1 rfl (Nat.le_of_ble_eq_true rfl) dL_arms_40 (Nat.zero_le _) (Nat.zero_le _) (fun X H locs hX hP hD hS => ?_)
        refine W.eq (g2 := F0 m 43 ls [.int (nI (oaN b a 2)), .int (nI a), .ref G.1]) rfl ?_
        refine lk_V (As := [.int (nI a), .int (nI (oaN b a 2))]) (rest := []) ⟨hx, hb, hml, hown, hts⟩ (k_index l C G b ph r n a (oaN b a 2) hB (by omega) (oa2_lt b _)) (cwV 2 hts gL_arms_X4_index rfl rfl rfl (by decide +kernel) ⟨Nat.le_of_ble_eq_true rfl, Nat.le_of_ble_eq_true rfl⟩) hK hV hE hX hP hD hS hA rfl hl.1 rfl (Nat.le_of_ble_eq_true rfl) dL_arms_43 (Nat.zero_le _) (Nat.zero_le _) (fun X H locs hX hP hD hS => ?_)
        refine W.eq (g2 := F0 m 46 ls [.long (lN (idxN b a (oaN b a 2)))]) rfl ?_
        refine lv_lstore (lv' := [(7, .long (lN (idxN b a (oaN b a 2)))), (6, .int (nI (bu b a))), (1, .int (nI (pfN (bu b) a))), (2, .int (nI (lsN (bu b) a))), (3, .int (nI (msN (bu b) a))), (4, .int (nI 1)), (5, .int (nI a)), (0, .ref G.1)]) hx hb dL_arms_46 hl (by decide) rfl (fun ls hl => ?_)
        refine lv_iload_n hx hb dL_arms_48 rfl (lv_at hl 2 rfl) ?_
        refine lv_iload hx hb dL_arms_49 (lv_at hl 1 rfl) ?_
        refine lv_iadd hx hb dL_arms_51 ?_
        refine q_ti (y := nI ((pfN (bu b) a) + (bu b a))) (nI_add _ _) ?_
        refine q_ti (y := nI (pfN (bu b) (a + 1))) (rfl) ?_
        refine lv_istore_n (lv' := [(1, .int (nI (pfN (bu b) (a + 1)))), (7, .long (lN (idxN b a (oaN b a 2)))), (6, .int (nI (bu b a))), (2, .int (nI (lsN (bu b) a))), (3, .int (nI (msN (bu b) a))), (4, .int (nI 1)), (5, .int (nI a)), (0, .ref G.1)]) hx hb dL_arms_52 rfl hl (by decide) rfl (fun ls hl => ?_)
        have J79 : ∀ (X : va_W) (H : Heap) (locs : List Loc) (ls : Array Slot), LW C G b ph r n X → va_P C.1 vwCl X H → va_D (q_A X0 s) X → va_S (q_A X0 s) s.heap H locs → lv_has ls 13 [(1, .int (nI (pfN (bu b) (a + 1)))), (2, .int (nI (lsN (bu b) (a + 1)))), (3, .int (nI (msN (bu b) (a + 1)))), (4, .int (nI 1)), (5, .int (nI a)), (6, .int (nI (bu b a))), (7, .long (lN (idxN b a (oaN b a 2)))), (0, .ref G.1)] → W p l e (q_R 5 133) s m ([.ref G.1] : List Value).toArray below meth c H locs 0 0 (q_G C below X0 (fun q w => q = some (.int (nI 1)) ∧ LW C G b ph r n w) ([.ref G.1] : List Value).toArray s) (F0 m 79 ls []) := by
          intro X H locs ls hX hP hD hS hl
          refine lv_aload_n hx hb dL_arms_79 rfl (lv_at hl 7 rfl) ?_
          refine lv_iload hx hb dL_arms_80 (lv_at hl 4 rfl) ?_
          refine lv_iconst (v := nI 0) hx hb dL_arms_82 (by decide) ?_
          refine lk_V (As := [.int (nI a), .int (nI 0)]) (rest := []) ⟨hx, hb, hml, hown, hts⟩ (k_arm l C G b ph r n a 0 hB (by omega) (by decide)) (cwV 2 hts gL_arms_X4_arm rfl rfl rfl (by decide +kernel) ⟨Nat.le_of_ble_eq_true rfl, Nat.le_of_ble_eq_true rfl⟩) hK hV hE hX hP hD hS hA rfl hl.1 rfl (Nat.le_of_ble_eq_true rfl) dL_arms_83 (Nat.zero_le _) (Nat.zero_le _) (fun X H locs hX hP hD hS => ?_)
          refine W.eq (g2 := F0 m 86 ls [.int (nI (bp b a))]) rfl ?_
          refine lv_if_lt (tgt := 130) hx hb dL_arms_86 (by decide) (fun c86 => ?_) (fun c86 => ?_)
          · have c86 : (bp b a) < 0 := q_nlt0 (by omega) (by omega) c86
            exact absurd c86 (by omega)
          have c86 : 0 ≤ (bp b a) := q_nlt0' (by omega) (by omega) c86
          refine lv_aload_n hx hb dL_arms_89 rfl (lv_at hl 7 rfl) ?_
          refine lv_iload hx hb dL_arms_90 (lv_at hl 4 rfl) ?_
          refine lv_iconst (v := nI 0) hx hb dL_arms_92 (by decide) ?_
          refine lk_V (As := [.int (nI a), .int (nI 0)]) (rest := []) ⟨hx, hb, hml, hown, hts⟩ (k_arm l C G b ph r n a 0 hB (by omega) (by decide)) (cwV 2 hts gL_arms_X4_arm rfl rfl rfl (by decide +kernel) ⟨Nat.le_of_ble_eq_true rfl, Nat.le_of_ble_eq_true rfl⟩) hK hV hE hX hP hD hS hA rfl hl.1 rfl (Nat.le_of_ble_eq_true rfl) dL_arms_93 (Nat.zero_le _) (Nat.zero_le _) (fun X H locs hX hP hD hS => ?_)
          refine W.eq (g2 := F0 m 96 ls [.int (nI (bp b a))]) rfl ?_
          refine lv_iconst (v := nI 4) hx hb dL_arms_96 (by decide) ?_
          refine lv_icmp_ge (tgt := 130) hx hb dL_arms_97 (by decide) (fun c97 => ?_) (fun c97 => ?_)
          · have c97 : 4 ≤ (bp b a) := q_nge (by omega) (by omega) c97
            exact absurd c97 (by omega)
          have c97 : (bp b a) < 4 := q_nge' (by omega) (by omega) c97
          refine lv_aload_n hx hb dL_arms_100 rfl (lv_at hl 7 rfl) ?_
          refine lv_iload hx hb dL_arms_101 (lv_at hl 4 rfl) ?_
          refine lv_iconst (v := nI 3) hx hb dL_arms_103 (by decide) ?_
          refine lk_V (As := [.int (nI a), .int (nI 3)]) (rest := []) ⟨hx, hb, hml, hown, hts⟩ (k_arm l C G b ph r n a 3 hB (by omega) (by decide)) (cwV 2 hts gL_arms_X4_arm rfl rfl rfl (by decide +kernel) ⟨Nat.le_of_ble_eq_true rfl, Nat.le_of_ble_eq_true rfl⟩) hK hV hE hX hP hD hS hA rfl hl.1 rfl (Nat.le_of_ble_eq_true rfl) dL_arms_104 (Nat.zero_le _) (Nat.zero_le _) (fun X H locs hX hP hD hS => ?_)
          refine W.eq (g2 := F0 m 107 ls [.int (nI (oaN b a 3))]) rfl ?_
          refine lv_iconst (v := nI 1) hx hb dL_arms_107 (by decide) ?_
          refine lv_icmp_lt (tgt := 130) hx hb dL_arms_108 (by decide) (fun c108 => ?_) (fun c108 => ?_)
          · have c108 : (oaN b a 3) < 1 := q_nlt (by omega) (by omega) c108
            exact absurd c108 (by omega)
          have c108 : 1 ≤ (oaN b a 3) := q_nlt' (by omega) (by omega) c108
          refine lv_aload_n hx hb dL_arms_111 rfl (lv_at hl 7 rfl) ?_
          refine lv_iload hx hb dL_arms_112 (lv_at hl 4 rfl) ?_
          refine lv_iconst (v := nI 3) hx hb dL_arms_114 (by decide) ?_
          refine lk_V (As := [.int (nI a), .int (nI 3)]) (rest := []) ⟨hx, hb, hml, hown, hts⟩ (k_arm l C G b ph r n a 3 hB (by omega) (by decide)) (cwV 2 hts gL_arms_X4_arm rfl rfl rfl (by decide +kernel) ⟨Nat.le_of_ble_eq_true rfl, Nat.le_of_ble_eq_true rfl⟩) hK hV hE hX hP hD hS hA rfl hl.1 rfl (Nat.le_of_ble_eq_true rfl) dL_arms_115 (Nat.zero_le _) (Nat.zero_le _) (fun X H locs hX hP hD hS => ?_)
          refine W.eq (g2 := F0 m 118 ls [.int (nI (oaN b a 3))]) rfl ?_
          refine lv_aload_n hx hb dL_arms_118 rfl (lv_at hl 7 rfl) ?_
          refine lv_iconst (v := nI 1) hx hb dL_arms_119 (by decide) ?_
          refine lk_V (As := [.int (nI 1)]) (rest := [.int (nI (oaN b a 3))]) ⟨hx, hb, hml, hown, hts⟩ (k_setting l C G b ph r n 1 (by decide)) (cwV 1 hts gL_arms_X4_setting rfl rfl rfl (by decide +kernel) ⟨Nat.le_of_ble_eq_true rfl, Nat.le_of_ble_eq_true rfl⟩) hK hV hE hX hP hD hS hA rfl hl.1 rfl (Nat.le_of_ble_eq_true rfl) dL_arms_120 (Nat.zero_le _) (Nat.zero_le _) (fun X H locs hX hP hD hS => ?_)
          refine W.eq (g2 := F0 m 123 ls [.int (nI (bs b 1)), .int (nI (oaN b a 3))]) rfl ?_
          refine lv_icmp_gt (tgt := 130) hx hb dL_arms_123 (by decide) (fun c123 => ?_) (fun c123 => ?_)
          · have c123 : (bs b 1) < (oaN b a 3) := q_ngt (by omega) (by omega) c123
            exact absurd c123 (by omega)
          have c123 : (oaN b a 3) ≤ (bs b 1) := q_ngt' (by omega) (by omega) c123
          refine lv_iconst (v := nI 1) hx hb dL_arms_126 (by decide) ?_
          refine lv_goto (tgt := 131) hx hb dL_arms_127 (by decide) ?_
          refine lv_istore (lv' := [(4, .int (nI 1)), (1, .int (nI (pfN (bu b) (a + 1)))), (2, .int (nI (lsN (bu b) (a + 1)))), (3, .int (nI (msN (bu b) (a + 1)))), (5, .int (nI a)), (6, .int (nI (bu b a))), (7, .long (lN (idxN b a (oaN b a 2)))), (0, .ref G.1)]) hx hb dL_arms_131 hl (by decide) rfl (fun ls hl => ?_)
          refine lv_iconst (v := nI 0) hx hb dL_arms_133 (by decide) ?_
          refine lv_istore (lv' := [(9, .int (nI 0)), (4, .int (nI 1)), (1, .int (nI (pfN (bu b) (a + 1)))), (2, .int (nI (lsN (bu b) (a + 1)))), (3, .int (nI (msN (bu b) (a + 1)))), (5, .int (nI a)), (6, .int (nI (bu b a))), (7, .long (lN (idxN b a (oaN b a 2)))), (0, .ref G.1)]) hx hb dL_arms_134 hl (by decide) rfl (fun ls hl => ?_)
          have K136 : ∀ (n136 t : Nat), t ≤ 4 → 4 + 1 ≤ t + n136 → ∀ (X : va_W) (H : Heap) (locs : List Loc) (ls : Array Slot), LW C G b ph r n X → va_P C.1 vwCl X H → va_D (q_A X0 s) X → va_S (q_A X0 s) s.heap H locs → lv_has ls 13 [(1, .int (nI (pfN (bu b) (a + 1)))), (2, .int (nI (lsN (bu b) (a + 1)))), (3, .int (nI (msN (bu b) (a + 1)))), (4, .int (nI 1)), (5, .int (nI a)), (6, .int (nI (bu b a))), (7, .long (lN (idxN b a (oaN b a 2)))), (0, .ref G.1), (9, .int (nI t))] → W p l e (q_R 5 133) s m ([.ref G.1] : List Value).toArray below meth c H locs 0 0 (q_G C below X0 (fun q w => q = some (.int (nI 1)) ∧ LW C G b ph r n w) ([.ref G.1] : List Value).toArray s) (F0 m 136 ls []) := by
            intro n136
            induction n136 with
            | zero => intro t q1 q2; exact absurd q2 (by omega)
            | succ n136 ih136 =>
              intro t hi136 hn136 X H locs ls hX hP hD hS hl
              refine lv_iload hx hb dL_arms_136 (lv_at hl 8 rfl) ?_
              refine lv_iconst (v := nI 4) hx hb dL_arms_138 (by decide) ?_
              refine lv_icmp_ge (tgt := 326) hx hb dL_arms_139 (by decide) (fun c139 => ?_) (fun c139 => ?_)
              · have c139 : 4 ≤ t := q_nge (by omega) (by omega) c139
                refine lv_iinc (v := nI (a + 1)) (lv' := [(5, .int (nI (a + 1))), (1, .int (nI (pfN (bu b) (a + 1)))), (2, .int (nI (lsN (bu b) (a + 1)))), (3, .int (nI (msN (bu b) (a + 1)))), (4, .int (nI 1)), (6, .int (nI (bu b a))), (7, .long (lN (idxN b a (oaN b a 2)))), (0, .ref G.1), (9, .int (nI t))]) hx hb dL_arms_326 hl (k := 4) rfl (nI_1 _) (by decide) rfl (fun ls hl => ?_)
                refine lv_goto (tgt := 13) hx hb dL_arms_329 (by decide) ?_
                exact ih13 (a + 1) (by omega) (by omega) X H locs ls hX hP hD hS (lv_sub hl [1, 2, 3, 4, 0, 7] rfl)
              · have c139 : t < 4 := q_nge' (by omega) (by omega) c139
                refine lv_iload hx hb dL_arms_142 (lv_at hl 3 rfl) ?_
                refine lv_if_eq (tgt := 326) hx hb dL_arms_144 (by decide) (fun c => absurd c (by decide)) (fun _ => ?_)
                have ht99 := idx_99 hB (show a < 4 by omega) (show t < 4 by omega)
                have hle := oa2_le b a (show t < 4 by omega)
                have ho4 := os4 hB (show a < 4 by omega) (show t < 4 by omega)
                have hge := idx_ge hB (arm := a) (h := t)
                have hg9 := (hB.1 (4 * a + t) (by omega)).1
                have hpr : (100 - bs b 0) * 10 * bg b (4 * a + t) ≤ 1000 * 99 := Nat.mul_le_mul (by omega) hg9
                have J270 : ∀ (X : va_W) (H : Heap) (locs : List Loc) (ls : Array Slot), LW C G b ph r n X → va_P C.1 vwCl X H → va_D (q_A X0 s) X → va_S (q_A X0 s) s.heap H locs → lv_has ls 13 [(1, .int (nI (pfN (bu b) (a + 1)))), (2, .int (nI (lsN (bu b) (a + 1)))), (3, .int (nI (msN (bu b) (a + 1)))), (4, .int (nI 1)), (5, .int (nI a)), (6, .int (nI (bu b a))), (7, .long (lN (idxN b a (oaN b a 2)))), (0, .ref G.1), (9, .int (nI t)), (10, .long (lN (idxN b a t)))] → W p l e (q_R 5 133) s m ([.ref G.1] : List Value).toArray below meth c H locs 0 0 (q_G C below X0 (fun q w => q = some (.int (nI 1)) ∧ LW C G b ph r n w) ([.ref G.1] : List Value).toArray s) (F0 m 270 ls []) := by
                  intro X H locs ls hX hP hD hS hl
                  refine lv_iconst (v := nI 1) hx hb dL_arms_270 (by decide) ?_
                  refine lv_goto (tgt := 275) hx hb dL_arms_271 (by decide) ?_
                  refine lv_istore (lv' := [(4, .int (nI 1)), (1, .int (nI (pfN (bu b) (a + 1)))), (2, .int (nI (lsN (bu b) (a + 1)))), (3, .int (nI (msN (bu b) (a + 1)))), (5, .int (nI a)), (6, .int (nI (bu b a))), (7, .long (lN (idxN b a (oaN b a 2)))), (0, .ref G.1), (9, .int (nI t)), (10, .long (lN (idxN b a t)))]) hx hb dL_arms_275 hl (by decide) rfl (fun ls hl => ?_)
                  refine lv_iload hx hb dL_arms_277 (lv_at hl 0 rfl) ?_
                  refine lv_if_eq (tgt := 317) hx hb dL_arms_279 (by decide) (fun c => absurd c (by decide)) (fun _ => ?_)
                  refine lv_ldc2 hx hb hown hk38 dL_arms_282 ?_
                  refine q_tl (y := lN 10) (by decide) ?_
                  refine lv_ldc2 hx hb hown hk36 dL_arms_285 ?_
                  refine q_tl (y := lN 100) (by decide) ?_
                  refine lv_aload_n hx hb dL_arms_288 rfl (lv_at hl 7 rfl) ?_
                  refine lv_iconst (v := nI 0) hx hb dL_arms_289 (by decide) ?_
                  refine lk_V (As := [.int (nI 0)]) (rest := [.long (lN 100), .long (lN 10)]) ⟨hx, hb, hml, hown, hts⟩ (k_setting l C G b ph r n 0 (by decide)) (cwV 1 hts gL_arms_X4_setting rfl rfl rfl (by decide +kernel) ⟨Nat.le_of_ble_eq_true rfl, Nat.le_of_ble_eq_true rfl⟩) hK hV hE hX hP hD hS hA rfl hl.1 rfl (Nat.le_of_ble_eq_true rfl) dL_arms_290 (Nat.zero_le _) (Nat.zero_le _) (fun X H locs hX hP hD hS => ?_)
                  refine W.eq (g2 := F0 m 293 ls [.int (nI (bs b 0)), .long (lN 100), .long (lN 10)]) rfl ?_
                  refine lv_i2l (v := lN (bs b 0)) hx hb dL_arms_293 (nI_l (by omega)) ?_
                  refine lv_lsub hx hb dL_arms_294 ?_
                  refine q_tl (y := lN (100 - (bs b 0))) (lN_sub (by omega)) ?_
                  refine lv_lmul hx hb dL_arms_295 ?_
                  refine q_tl (y := lN (10 * (100 - (bs b 0)))) (lN_mul _ _) ?_
                  refine lv_aload_n hx hb dL_arms_296 rfl (lv_at hl 7 rfl) ?_
                  refine lv_iload hx hb dL_arms_297 (lv_at hl 4 rfl) ?_
                  refine lv_iload hx hb dL_arms_299 (lv_at hl 8 rfl) ?_
                  refine lv_iconst (v := nI 0) hx hb dL_arms_301 (by decide) ?_
                  refine lk_V (As := [.int (nI a), .int (nI t), .int (nI 0)]) (rest := [.long (lN (10 * (100 - (bs b 0))))]) ⟨hx, hb, hml, hown, hts⟩ (k_stateOf l C G b ph r n a t 0 hB (by omega) (by omega) (by decide)) (cwV 3 hts gL_arms_X4_stateOf rfl rfl rfl (by decide +kernel) ⟨Nat.le_of_ble_eq_true rfl, Nat.le_of_ble_eq_true rfl⟩) hK hV hE hX hP hD hS hA rfl hl.1 rfl (Nat.le_of_ble_eq_true rfl) dL_arms_302 (Nat.zero_le _) (Nat.zero_le _) (fun X H locs hX hP hD hS => ?_)
                  refine W.eq (g2 := F0 m 305 ls [.int (nI (bg b (4 * a + t))), .long (lN (10 * (100 - (bs b 0))))]) rfl ?_
                  refine lv_i2l (v := lN (bg b (4 * a + t))) hx hb dL_arms_305 (nI_l (by omega)) ?_
                  refine lv_lmul hx hb dL_arms_306 ?_
                  refine q_tl (y := lN ((10 * (100 - (bs b 0))) * (bg b (4 * a + t)))) (lN_mul _ _) ?_
                  refine lv_lload hx hb dL_arms_307 (lv_at hl 9 rfl) ?_
                  refine W.lcmp hx hb dL_arms_309 ?_
                  refine lv_if_gt (tgt := 317) hx hb dL_arms_310 (by decide) (fun c310 => ?_) (fun c310 => ?_)
                  · have c310 : (idxN b a t) < ((10 * (100 - (bs b 0))) * (bg b (4 * a + t))) := q_Lgt (by omega) (by omega) c310
                    exact absurd hge (Nat.not_le.mpr c310)
                  have c310 : ((10 * (100 - (bs b 0))) * (bg b (4 * a + t))) ≤ (idxN b a t) := q_Lgt' (by omega) (by omega) c310
                  refine lv_iconst (v := nI 1) hx hb dL_arms_313 (by decide) ?_
                  refine lv_goto (tgt := 318) hx hb dL_arms_314 (by decide) ?_
                  refine lv_istore (lv' := [(4, .int (nI 1)), (1, .int (nI (pfN (bu b) (a + 1)))), (2, .int (nI (lsN (bu b) (a + 1)))), (3, .int (nI (msN (bu b) (a + 1)))), (5, .int (nI a)), (6, .int (nI (bu b a))), (7, .long (lN (idxN b a (oaN b a 2)))), (0, .ref G.1), (9, .int (nI t)), (10, .long (lN (idxN b a t)))]) hx hb dL_arms_318 hl (by decide) rfl (fun ls hl => ?_)
                  refine lv_iinc (v := nI (t + 1)) (lv' := [(9, .int (nI (t + 1))), (4, .int (nI 1)), (1, .int (nI (pfN (bu b) (a + 1)))), (2, .int (nI (lsN (bu b) (a + 1)))), (3, .int (nI (msN (bu b) (a + 1)))), (5, .int (nI a)), (6, .int (nI (bu b a))), (7, .long (lN (idxN b a (oaN b a 2)))), (0, .ref G.1), (10, .long (lN (idxN b a t)))]) hx hb dL_arms_320 hl (k := 8) rfl (nI_1 _) (by decide) rfl (fun ls hl => ?_)
                  refine lv_goto (tgt := 136) hx hb dL_arms_323 (by decide) ?_
                  exact ih136 (t + 1) (by omega) (by omega) X H locs ls hX hP hD hS (lv_sub hl [2, 3, 4, 1, 5, 6, 7, 8, 0] rfl)
                have J212 : ∀ (X : va_W) (H : Heap) (locs : List Loc) (ls : Array Slot), LW C G b ph r n X → va_P C.1 vwCl X H → va_D (q_A X0 s) X → va_S (q_A X0 s) s.heap H locs → lv_has ls 13 [(1, .int (nI (pfN (bu b) (a + 1)))), (2, .int (nI (lsN (bu b) (a + 1)))), (3, .int (nI (msN (bu b) (a + 1)))), (4, .int (nI 1)), (5, .int (nI a)), (6, .int (nI (bu b a))), (7, .long (lN (idxN b a (oaN b a 2)))), (0, .ref G.1), (9, .int (nI t)), (10, .long (lN (idxN b a t))), (12, .int (nI (osN b a t 4)))] → W p l e (q_R 5 133) s m ([.ref G.1] : List Value).toArray below meth c H locs 0 0 (q_G C below X0 (fun q w => q = some (.int (nI 1)) ∧ LW C G b ph r n w) ([.ref G.1] : List Value).toArray s) (F0 m 212 ls []) := by
                  intro X H locs ls hX hP hD hS hl
                  refine lv_iload hx hb dL_arms_212 (lv_at hl 10 rfl) ?_
                  refine lv_iload hx hb dL_arms_214 (lv_at hl 8 rfl) ?_
                  refine lv_ishr hx hb dL_arms_216 ?_
                  refine lv_iconst (v := nI 1) hx hb dL_arms_217 (by decide) ?_
                  refine lv_iand hx hb dL_arms_218 ?_
                  refine q_ti (y := nI 1) (ho4.2) ?_
                  refine lv_iconst (v := nI 1) hx hb dL_arms_219 (by decide) ?_
                  refine lv_icmp_ne (tgt := 274) hx hb dL_arms_220 (by decide) (fun c => absurd c (by decide)) (fun _ => ?_)
                  refine lv_iload hx hb dL_arms_223 (lv_at hl 10 rfl) ?_
                  refine lv_bipush (v := nI 16) hx hb dL_arms_225 (by decide) ?_
                  refine lv_icmp_ge (tgt := 274) hx hb dL_arms_227 (by decide) (fun c227 => ?_) (fun c227 => ?_)
                  · have c227 : 16 ≤ (osN b a t 4) := q_nge (by omega) (by omega) c227
                    exact absurd c227 (Nat.not_le.mpr ho4.1)
                  have c227 : (osN b a t 4) < 16 := q_nge' (by omega) (by omega) c227
                  refine lv_aload_n hx hb dL_arms_230 rfl (lv_at hl 7 rfl) ?_
                  refine lv_iconst (v := nI 1) hx hb dL_arms_231 (by decide) ?_
                  refine lk_V (As := [.int (nI 1)]) (rest := []) ⟨hx, hb, hml, hown, hts⟩ (k_setting l C G b ph r n 1 (by decide)) (cwV 1 hts gL_arms_X4_setting rfl rfl rfl (by decide +kernel) ⟨Nat.le_of_ble_eq_true rfl, Nat.le_of_ble_eq_true rfl⟩) hK hV hE hX hP hD hS hA rfl hl.1 rfl (Nat.le_of_ble_eq_true rfl) dL_arms_232 (Nat.zero_le _) (Nat.zero_le _) (fun X H locs hX hP hD hS => ?_)
                  refine W.eq (g2 := F0 m 235 ls [.int (nI (bs b 1))]) rfl ?_
                  refine lv_iconst (v := nI 1) hx hb dL_arms_235 (by decide) ?_
                  refine lv_icmp_gt (tgt := 270) hx hb dL_arms_236 (by decide) (fun c236 => ?_) (fun c236 => ?_)
                  · have c236 : 1 < (bs b 1) := q_ngt (by omega) (by omega) c236
                    exact J270 X H locs ls hX hP hD hS (lv_sub hl [0, 1, 2, 3, 4, 5, 6, 7, 8, 9] rfl)
                  · have c236 : (bs b 1) ≤ 1 := q_ngt' (by omega) (by omega) c236
                    refine lv_lload hx hb dL_arms_239 (lv_at hl 9 rfl) ?_
                    refine lv_ldc2 hx hb hown hk36 dL_arms_241 ?_
                    refine q_tl (y := lN 100) (by decide) ?_
                    refine lv_aload_n hx hb dL_arms_244 rfl (lv_at hl 7 rfl) ?_
                    refine lv_iconst (v := nI 0) hx hb dL_arms_245 (by decide) ?_
                    refine lk_V (As := [.int (nI 0)]) (rest := [.long (lN 100), .long (lN (idxN b a t))]) ⟨hx, hb, hml, hown, hts⟩ (k_setting l C G b ph r n 0 (by decide)) (cwV 1 hts gL_arms_X4_setting rfl rfl rfl (by decide +kernel) ⟨Nat.le_of_ble_eq_true rfl, Nat.le_of_ble_eq_true rfl⟩) hK hV hE hX hP hD hS hA rfl hl.1 rfl (Nat.le_of_ble_eq_true rfl) dL_arms_246 (Nat.zero_le _) (Nat.zero_le _) (fun X H locs hX hP hD hS => ?_)
                    refine W.eq (g2 := F0 m 249 ls [.int (nI (bs b 0)), .long (lN 100), .long (lN (idxN b a t))]) rfl ?_
                    refine lv_i2l (v := lN (bs b 0)) hx hb dL_arms_249 (nI_l (by omega)) ?_
                    refine lv_lsub hx hb dL_arms_250 ?_
                    refine q_tl (y := lN (100 - (bs b 0))) (lN_sub (by omega)) ?_
                    refine lv_ldc2 hx hb hown hk38 dL_arms_251 ?_
                    refine q_tl (y := lN 10) (by decide) ?_
                    refine lv_lmul hx hb dL_arms_254 ?_
                    refine q_tl (y := lN ((100 - (bs b 0)) * 10)) (lN_mul _ _) ?_
                    refine lv_aload_n hx hb dL_arms_255 rfl (lv_at hl 7 rfl) ?_
                    refine lv_iload hx hb dL_arms_256 (lv_at hl 4 rfl) ?_
                    refine lv_iload hx hb dL_arms_258 (lv_at hl 8 rfl) ?_
                    refine lv_iconst (v := nI 0) hx hb dL_arms_260 (by decide) ?_
                    refine lk_V (As := [.int (nI a), .int (nI t), .int (nI 0)]) (rest := [.long (lN ((100 - (bs b 0)) * 10)), .long (lN (idxN b a t))]) ⟨hx, hb, hml, hown, hts⟩ (k_stateOf l C G b ph r n a t 0 hB (by omega) (by omega) (by decide)) (cwV 3 hts gL_arms_X4_stateOf rfl rfl rfl (by decide +kernel) ⟨Nat.le_of_ble_eq_true rfl, Nat.le_of_ble_eq_true rfl⟩) hK hV hE hX hP hD hS hA rfl hl.1 rfl (Nat.le_of_ble_eq_true rfl) dL_arms_261 (Nat.zero_le _) (Nat.zero_le _) (fun X H locs hX hP hD hS => ?_)
                    refine W.eq (g2 := F0 m 264 ls [.int (nI (bg b (4 * a + t))), .long (lN ((100 - (bs b 0)) * 10)), .long (lN (idxN b a t))]) rfl ?_
                    refine lv_i2l (v := lN (bg b (4 * a + t))) hx hb dL_arms_264 (nI_l (by omega)) ?_
                    refine lv_lmul hx hb dL_arms_265 ?_
                    refine q_tl (y := lN (((100 - (bs b 0)) * 10) * (bg b (4 * a + t)))) (lN_mul _ _) ?_
                    refine W.lcmp hx hb dL_arms_266 ?_
                    refine lv_if_ne (tgt := 274) hx hb dL_arms_267 (by decide) (fun c267 => ?_) (fun c267 => ?_)
                    · have c267 : (idxN b a t) ≠ (((100 - (bs b 0)) * 10) * (bg b (4 * a + t))) := q_Lne (by omega) (by omega) c267
                      exact absurd (idx_1 (by omega)) c267
                    have c267 : (idxN b a t) = (((100 - (bs b 0)) * 10) * (bg b (4 * a + t))) := q_Lne' (by omega) (by omega) c267
                    exact J270 X H locs ls hX hP hD hS (lv_sub hl [0, 1, 2, 3, 4, 5, 6, 7, 8, 9] rfl)
                refine lv_aload_n hx hb dL_arms_147 rfl (lv_at hl 7 rfl) ?_
                refine lv_iload hx hb dL_arms_148 (lv_at hl 4 rfl) ?_
                refine lv_iload hx hb dL_arms_150 (lv_at hl 8 rfl) ?_
                refine lk_V (As := [.int (nI a), .int (nI t)]) (rest := []) ⟨hx, hb, hml, hown, hts⟩ (k_index l C G b ph r n a t hB (by omega) (by omega)) (cwV 2 hts gL_arms_X4_index rfl rfl rfl (by decide +kernel) ⟨Nat.le_of_ble_eq_true rfl, Nat.le_of_ble_eq_true rfl⟩) hK hV hE hX hP hD hS hA rfl hl.1 rfl (Nat.le_of_ble_eq_true rfl) dL_arms_152 (Nat.zero_le _) (Nat.zero_le _) (fun X H locs hX hP hD hS => ?_)
                refine W.eq (g2 := F0 m 155 ls [.long (lN (idxN b a t))]) rfl ?_
                refine lv_lstore (lv' := [(10, .long (lN (idxN b a t))), (1, .int (nI (pfN (bu b) (a + 1)))), (2, .int (nI (lsN (bu b) (a + 1)))), (3, .int (nI (msN (bu b) (a + 1)))), (4, .int (nI 1)), (5, .int (nI a)), (6, .int (nI (bu b a))), (7, .long (lN (idxN b a (oaN b a 2)))), (0, .ref G.1), (9, .int (nI t))]) hx hb dL_arms_155 hl (by decide) rfl (fun ls hl => ?_)
                refine lv_aload_n hx hb dL_arms_157 rfl (lv_at hl 8 rfl) ?_
                refine lv_iload hx hb dL_arms_158 (lv_at hl 5 rfl) ?_
                refine lv_iload hx hb dL_arms_160 (lv_at hl 9 rfl) ?_
                refine lv_iconst (v := nI 4) hx hb dL_arms_162 (by decide) ?_
                refine lk_V (As := [.int (nI a), .int (nI t), .int (nI 4)]) (rest := []) ⟨hx, hb, hml, hown, hts⟩ (k_stateOf l C G b ph r n a t 4 hB (by omega) (by omega) (by decide)) (cwV 3 hts gL_arms_X4_stateOf rfl rfl rfl (by decide +kernel) ⟨Nat.le_of_ble_eq_true rfl, Nat.le_of_ble_eq_true rfl⟩) hK hV hE hX hP hD hS hA rfl hl.1 rfl (Nat.le_of_ble_eq_true rfl) dL_arms_163 (Nat.zero_le _) (Nat.zero_le _) (fun X H locs hX hP hD hS => ?_)
                refine W.eq (g2 := F0 m 166 ls [.int (nI (osN b a t 4))]) rfl ?_
                refine lv_istore (lv' := [(12, .int (nI (osN b a t 4))), (10, .long (lN (idxN b a t))), (1, .int (nI (pfN (bu b) (a + 1)))), (2, .int (nI (lsN (bu b) (a + 1)))), (3, .int (nI (msN (bu b) (a + 1)))), (4, .int (nI 1)), (5, .int (nI a)), (6, .int (nI (bu b a))), (7, .long (lN (idxN b a (oaN b a 2)))), (0, .ref G.1), (9, .int (nI t))]) hx hb dL_arms_166 hl (by decide) rfl (fun ls hl => ?_)
                refine lv_lload hx hb dL_arms_168 (lv_at hl 1 rfl) ?_
                refine lv_lconst (v := lN 0) hx hb dL_arms_170 (by decide) ?_
                refine W.lcmp hx hb dL_arms_171 ?_
                refine lv_if_lt (tgt := 274) hx hb dL_arms_172 (by decide) (fun c172 => ?_) (fun c172 => ?_)
                · have c172 : (idxN b a t) < 0 := q_Llt (by omega) (by omega) c172
                  exact absurd c172 (by omega)
                have c172 : 0 ≤ (idxN b a t) := q_Llt' (by omega) (by omega) c172
                refine lv_lload hx hb dL_arms_175 (lv_at hl 1 rfl) ?_
                refine lv_ldc2 hx hb hown hk34 dL_arms_177 ?_
                refine q_tl (y := lN 99000) (by decide) ?_
                refine W.lcmp hx hb dL_arms_180 ?_
                refine lv_if_gt (tgt := 274) hx hb dL_arms_181 (by decide) (fun c181 => ?_) (fun c181 => ?_)
                · have c181 : 99000 < (idxN b a t) := q_Lgt (by omega) (by omega) c181
                  exact absurd c181 (by omega)
                have c181 : (idxN b a t) ≤ 99000 := q_Lgt' (by omega) (by omega) c181
                refine lv_lload hx hb dL_arms_184 (lv_at hl 1 rfl) ?_
                refine lv_lload hx hb dL_arms_186 (lv_at hl 8 rfl) ?_
                refine W.lcmp hx hb dL_arms_188 ?_
                refine lv_if_gt (tgt := 274) hx hb dL_arms_189 (by decide) (fun c189 => ?_) (fun c189 => ?_)
                · have c189 : (idxN b a (oaN b a 2)) < (idxN b a t) := q_Lgt (by omega) (by omega) c189
                  exact absurd c189 (by omega)
                have c189 : (idxN b a t) ≤ (idxN b a (oaN b a 2)) := q_Lgt' (by omega) (by omega) c189
                refine lv_iload hx hb dL_arms_192 (lv_at hl 10 rfl) ?_
                refine lv_aload_n hx hb dL_arms_194 rfl (lv_at hl 9 rfl) ?_
                refine lv_iload hx hb dL_arms_195 (lv_at hl 6 rfl) ?_
                refine lv_iconst (v := nI 2) hx hb dL_arms_197 (by decide) ?_
                refine lk_V (As := [.int (nI a), .int (nI 2)]) (rest := [.int (nI t)]) ⟨hx, hb, hml, hown, hts⟩ (k_arm l C G b ph r n a 2 hB (by omega) (by decide)) (cwV 2 hts gL_arms_X4_arm rfl rfl rfl (by decide +kernel) ⟨Nat.le_of_ble_eq_true rfl, Nat.le_of_ble_eq_true rfl⟩) hK hV hE hX hP hD hS hA rfl hl.1 rfl (Nat.le_of_ble_eq_true rfl) dL_arms_198 (Nat.zero_le _) (Nat.zero_le _) (fun X H locs hX hP hD hS => ?_)
                refine W.eq (g2 := F0 m 201 ls [.int (nI (oaN b a 2)), .int (nI t)]) rfl ?_
                refine lv_icmp_ge (tgt := 212) hx hb dL_arms_201 (by decide) (fun c201 => ?_) (fun c201 => ?_)
                · have c201 : (oaN b a 2) ≤ t := q_nge (by omega) (by omega) c201
                  exact J212 X H locs ls hX hP hD hS (lv_sub hl [2, 3, 4, 5, 6, 7, 8, 9, 10, 1, 0] rfl)
                · have c201 : t < (oaN b a 2) := q_nge' (by omega) (by omega) c201
                  refine lv_lload hx hb dL_arms_204 (lv_at hl 1 rfl) ?_
                  refine lv_lload hx hb dL_arms_206 (lv_at hl 8 rfl) ?_
                  refine W.lcmp hx hb dL_arms_208 ?_
                  refine lv_if_ge (tgt := 274) hx hb dL_arms_209 (by decide) (fun c209 => ?_) (fun c209 => ?_)
                  · have c209 : (idxN b a (oaN b a 2)) ≤ (idxN b a t) := q_Lge (by omega) (by omega) c209
                    exact absurd (oa2_lt' b a c201) (Nat.not_lt.mpr c209)
                  have c209 : (idxN b a t) < (idxN b a (oaN b a 2)) := q_Lge' (by omega) (by omega) c209
                  exact J212 X H locs ls hX hP hD hS (lv_sub hl [2, 3, 4, 5, 6, 7, 8, 9, 10, 1, 0] rfl)
          exact K136 (4 + 1) 0 (by omega) (by omega) _ _ _ ls hX hP hD hS (lv_sub hl [2, 3, 4, 1, 5, 6, 7, 8, 0] rfl)
        have J66 : ∀ (X : va_W) (H : Heap) (locs : List Loc) (ls : Array Slot), LW C G b ph r n X → va_P C.1 vwCl X H → va_D (q_A X0 s) X → va_S (q_A X0 s) s.heap H locs → lv_has ls 13 [(1, .int (nI (pfN (bu b) (a + 1)))), (2, .int (nI (lsN (bu b) (a + 1)))), (3, .int (nI (msN (bu b) a))), (4, .int (nI 1)), (5, .int (nI a)), (6, .int (nI (bu b a))), (7, .long (lN (idxN b a (oaN b a 2)))), (0, .ref G.1)] → W p l e (q_R 5 133) s m ([.ref G.1] : List Value).toArray below meth c H locs 0 0 (q_G C below X0 (fun q w => q = some (.int (nI 1)) ∧ LW C G b ph r n w) ([.ref G.1] : List Value).toArray s) (F0 m 66 ls []) := by
          intro X H locs ls hX hP hD hS hl
          refine lv_iload hx hb dL_arms_66 (lv_at hl 5 rfl) ?_
          refine lv_iload_n hx hb dL_arms_68 rfl (lv_at hl 2 rfl) ?_
          refine lv_icmp_le (tgt := 77) hx hb dL_arms_69 (by decide) (fun c69 => ?_) (fun c69 => ?_)
          · have c69 : (bu b a) ≤ (msN (bu b) a) := q_nle (by omega) (by omega) c69
            refine lv_iload_n hx hb dL_arms_77 rfl (lv_at hl 2 rfl) ?_
            refine q_ti (y := nI (msN (bu b) (a + 1))) (by rw [msN, if_neg (Nat.not_lt.mpr c69)]) ?_
            refine lv_istore_n (lv' := [(3, .int (nI (msN (bu b) (a + 1)))), (1, .int (nI (pfN (bu b) (a + 1)))), (2, .int (nI (lsN (bu b) (a + 1)))), (4, .int (nI 1)), (5, .int (nI a)), (6, .int (nI (bu b a))), (7, .long (lN (idxN b a (oaN b a 2)))), (0, .ref G.1)]) hx hb dL_arms_78 rfl hl (by decide) rfl (fun ls hl => ?_)
            exact J79 X H locs ls hX hP hD hS (lv_sub hl [1, 2, 0, 3, 4, 5, 6, 7] rfl)
          · have c69 : (msN (bu b) a) < (bu b a) := q_nle' (by omega) (by omega) c69
            refine lv_iload hx hb dL_arms_72 (lv_at hl 5 rfl) ?_
            refine lv_goto (tgt := 78) hx hb dL_arms_74 (by decide) ?_
            refine q_ti (y := nI (msN (bu b) (a + 1))) (by rw [msN, if_pos c69]) ?_
            refine lv_istore_n (lv' := [(3, .int (nI (msN (bu b) (a + 1)))), (1, .int (nI (pfN (bu b) (a + 1)))), (2, .int (nI (lsN (bu b) (a + 1)))), (4, .int (nI 1)), (5, .int (nI a)), (6, .int (nI (bu b a))), (7, .long (lN (idxN b a (oaN b a 2)))), (0, .ref G.1)]) hx hb dL_arms_78 rfl hl (by decide) rfl (fun ls hl => ?_)
            exact J79 X H locs ls hX hP hD hS (lv_sub hl [1, 2, 0, 3, 4, 5, 6, 7] rfl)
        refine lv_iload hx hb dL_arms_53 (lv_at hl 2 rfl) ?_
        refine lv_iload_n hx hb dL_arms_55 rfl (lv_at hl 3 rfl) ?_
        refine lv_icmp_ge (tgt := 64) hx hb dL_arms_56 (by decide) (fun c56 => ?_) (fun c56 => ?_)
        · have c56 : (lsN (bu b) a) ≤ (bu b a) := q_nge (by omega) (by omega) c56
          refine lv_iload_n hx hb dL_arms_64 rfl (lv_at hl 3 rfl) ?_
          refine q_ti (y := nI (lsN (bu b) (a + 1))) (by rw [lsN, if_neg (Nat.not_lt.mpr c56)]) ?_
          refine lv_istore_n (lv' := [(2, .int (nI (lsN (bu b) (a + 1)))), (1, .int (nI (pfN (bu b) (a + 1)))), (7, .long (lN (idxN b a (oaN b a 2)))), (6, .int (nI (bu b a))), (3, .int (nI (msN (bu b) a))), (4, .int (nI 1)), (5, .int (nI a)), (0, .ref G.1)]) hx hb dL_arms_65 rfl hl (by decide) rfl (fun ls hl => ?_)
          exact J66 X H locs ls hX hP hD hS (lv_sub hl [1, 0, 4, 5, 6, 3, 2, 7] rfl)
        · have c56 : (bu b a) < (lsN (bu b) a) := q_nge' (by omega) (by omega) c56
          refine lv_iload hx hb dL_arms_59 (lv_at hl 2 rfl) ?_
          refine lv_goto (tgt := 65) hx hb dL_arms_61 (by decide) ?_
          refine q_ti (y := nI (lsN (bu b) (a + 1))) (by rw [lsN, if_pos c56]) ?_
          refine lv_istore_n (lv' := [(2, .int (nI (lsN (bu b) (a + 1)))), (1, .int (nI (pfN (bu b) (a + 1)))), (7, .long (lN (idxN b a (oaN b a 2)))), (6, .int (nI (bu b a))), (3, .int (nI (msN (bu b) a))), (4, .int (nI 1)), (5, .int (nI a)), (0, .ref G.1)]) hx hb dL_arms_65 rfl hl (by decide) rfl (fun ls hl => ?_)
          exact J66 X H locs ls hX hP hD hS (lv_sub hl [1, 0, 4, 5, 6, 3, 2, 7] rfl)
  exact K13 (4 + 1) 0 (by omega) (by omega) _ _ _ ls hX hP hD hS (lv_sub hl [4, 3, 2, 1, 0, 5] rfl)
