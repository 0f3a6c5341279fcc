/-! the law's start -/
theorem fsX4_ok : ∀ j, j < 6 → defaultValue (tyX4 j) = vp_V fsX4 j := by
  intro j hj
  rcases (show j = 0 ∨ j = 1 ∨ j = 2 ∨ j = 3 ∨ j = 4 ∨ j = 5 by omega) with rfl | rfl | rfl | rfl | rfl | rfl <;> rfl
theorem okJ_0 : okJ 0 bd0 := by
  have h := okS_0
  have e : sumU bd0 = 0 := by decide +kernel
  exact ⟨⟨h.1, fun _ => ⟨by decide +kernel, by decide +kernel⟩, fun q => absurd q (by rw [e]; exact Nat.lt_irrefl 0)⟩, by rw [e]; exact Nat.zero_le _⟩
set_option maxHeartbeats 4000000 in
set_option maxRecDepth 100000 in
/-- from the entry, for every script of at most 260 ints, the law comes to its end with true -/
theorem whole_start {p : Program} {e : Env} {s : State} {m : MethodId} {below : List Frame} {meth : Method} {c : Code} (l : Launch) (hflags : l.flags = flags0) {b L : Nat} {xs : Nat → Int32} (hL : L ≤ 260) (C0 : lw_At p s m meth c b L xs) : W p l e room_1 s m #[Value.ref b] below meth c s.heap [] 0 0 (lw_Z below #[Value.ref b] s) (entryFrame m ([Value.ref b] : List Value).toArray 11) := by
  obtain ⟨hx, hb, hr, hml, hown, hts, hX, hbl, hlocks, hgv⟩ := id C0
  have hs := flat_of_before _ hgv
  have hl0 : l.stackTraces = false := by
    unfold Launch.stackTraces
    rw [hflags]
    decide +kernel
  obtain ⟨C, hK⟩ := q_known hts
  have hV := q_words hts hs
  have hE := q_lays hts hs
  have hO : va_AO RX0 s := va_AO.of (hts (.arrayOver (.object RX0)) (by decide +kernel))
  have htsL : ∀ w ∈ wsL_law, w.before #[Value.ref b] s = true := fun w h => hts w (wsL_law_in w h)
  have hown : s.vm.findClass RL = some m.cls := hown
  have hA : ∀ q : Nat, s.heap.size ≤ q → lwA s q := fun _ h => h
  have hnA : ¬ lwA s b := Nat.not_le.mpr hbl
  have hS : va_S (lwA s) s.heap s.heap [] := va_S.rf
  have hP : va_P C.1 vwCl [] s.heap := fun k q h => by simp at h
  have hD : va_D (lwA s) [] := ⟨fun i j p q h => by simp at h, fun k q h => by simp at h⟩
  have hl := lv_entry ([.ref b]) (n := 11) (Nat.le_of_ble_eq_true rfl)
  rw [lg_entry_eq]
  generalize (lg_sl ([.ref b]) ++ List.replicate (11 - (lg_sl ([.ref b])).length) Slot.unset).toArray = ls at hl ⊢
  have hl : lv_has ls 11 [(0, .ref b)] := hl
  refine va_new (ci := 4) (fs := fsX4) (C := RX4) (T := TX4) (N := 6) hx hb hts inX4 tyX4 tyX4_ok hown (hts (.classLink RL 10 RX4) (by decide +kernel)) (hts (.instantiable RX4 6) (by decide +kernel)) (hts (.initialized RX4) (by decide +kernel)) hK.1 hP hD hS hA rfl fsX4_ok (Nat.le_of_ble_eq_true rfl) (Nat.le_of_ble_eq_true rfl) dL_law_0 (fun u1 H hP hD hS => ?_)
  refine lv_dup hx hb dL_law_3 rfl ?_
  refine q_I (X := []) (rest := [.ref u1]) ⟨hx, hb, hml, hown, htsL⟩ (n_X4 l C u1) (cwI 0 htsL gL_law_X4_init rfl rfl rfl (hts (.initialized RX4) (by decide +kernel)) (hts (.methodLink RL 99 yX4_init) (by decide +kernel)) (hts (.instanceMethod yX4_init) (by decide +kernel)) rfl (by decide +kernel) ⟨Nat.le_of_ble_eq_true rfl, Nat.le_of_ble_eq_true rfl⟩) hK hO hP hD hS hA hl.1 (Nat.le_of_ble_eq_true rfl) dL_law_4 (Nat.le_of_ble_eq_true rfl) (Nat.le_of_ble_eq_true rfl) (fun w1 H locs hQ hP hD hS => ?_)
  obtain ⟨nw, tr, hq, iq, tt, sC, ba, rfl⟩ := hQ
  have hP : va_P C.1 vwCl (wF C u1 nw tr hq iq tt sC ba (fun _ => 0) bd0 bd0 (fun _ => bd0) 0 0 zN zN zN zN 0 zN) H := hP
  have hD : va_D (lwA s) (wF C u1 nw tr hq iq tt sC ba (fun _ => 0) bd0 bd0 (fun _ => bd0) 0 0 zN zN zN zN 0 zN) := hD
  have hXw : LW C ((u1, nw, tr, hq, iq, tt, sC, ba, 0, zN) : ad_G) bd0 (fun _ => bd0) 0 0 (wF C u1 nw tr hq iq tt sC ba (fun _ => 0) bd0 bd0 (fun _ => bd0) 0 0 zN zN zN zN 0 zN) := ⟨fun _ => 0, bd0, zN, zN, zN, zN, rfl, fun k hk h => absurd rfl h, fun k hk => Nat.zero_le 1⟩
  refine W.eq (g2 := F0 m 7 ls [.ref u1]) rfl ?_
  refine lv_astore_n (lv' := [(1, .ref u1), (0, .ref b)]) hx hb dL_law_7 rfl hl (by decide) rfl (fun ls hl => ?_)
  refine lv_iconst (v := nI 1) hx hb dL_law_8 (by decide) ?_
  refine lv_istore_n (lv' := [(2, .int (nI 1)), (1, .ref u1), (0, .ref b)]) hx hb dL_law_9 rfl hl (by decide) rfl (fun ls hl => ?_)
  have K28 : ∀ T : Nat, T ≤ 30 → 4 * T ≤ L → W p l e room_1 s m #[Value.ref b] below meth c H locs (0 + 1 + 74) (0 + 6 + 810) (lw_Z below #[Value.ref b] s) (F0 m 28 ls [.int (nI T)]) := by
    intro T hT hT4
    refine lv_istore_n (lv' := [(3, .int (nI T)), (2, .int (nI 1)), (1, .ref u1), (0, .ref b)]) hx hb dL_law_28 rfl hl (by decide) rfl (fun ls hl => ?_)
    refine lv_iconst (v := nI 0) hx hb dL_law_29 (by decide) ?_
    refine lv_istore (lv' := [(4, .int (nI 0)), (3, .int (nI T)), (2, .int (nI 1)), (1, .ref u1), (0, .ref b)]) hx hb dL_law_30 hl (by decide) rfl (fun ls hl => ?_)
    exact lw_loop (G := ((u1, nw, tr, hq, iq, tt, sC, ba, 0, zN) : ad_G)) ⟨hx, hb, hml, hown, htsL, hK, hV, hE, hX, hbl, hL, hl0, hT, hT4⟩ hr hlocks T 0 (by omega) (by omega) bd0 (fun _ => bd0) 0 0 _ _ _ H locs ls okJ_0 ⟨by decide, by decide, fun j hj => absurd hj (Nat.not_lt_zero j)⟩ (Nat.le_of_ble_eq_true rfl) (Nat.le_of_ble_eq_true rfl) hXw hP hD hS (lv_sub hl [0, 4, 3, 2, 1] rfl)
  refine lv_aload_n hx hb dL_law_10 rfl (lv_at hl 2 rfl) ?_
  refine va_slen hx hb hX hbl hnA hS dL_law_11 ?_
  refine lv_iconst (v := nI 4) hx hb dL_law_12 (by decide) ?_
  refine lv_idiv hx hb dL_law_13 (by decide) ?_
  refine q_ti (y := nI (L / 4)) (pk_div (by omega) (by decide) (by decide)) ?_
  refine lv_bipush (v := nI 30) hx hb dL_law_14 (by decide) ?_
  refine lv_icmp_le (tgt := 24) hx hb dL_law_16 (by decide) (fun c16 => ?_) (fun c16 => ?_)
  · have c16 : L / 4 ≤ 30 := q_nle (by omega) (by decide) c16
    refine lv_aload_n hx hb dL_law_24 rfl (lv_at hl 2 rfl) ?_
    refine va_slen hx hb hX hbl hnA hS dL_law_25 ?_
    refine lv_iconst (v := nI 4) hx hb dL_law_26 (by decide) ?_
    refine lv_idiv hx hb dL_law_27 (by decide) ?_
    refine q_ti (y := nI (L / 4)) (pk_div (by omega) (by decide) (by decide)) ?_
    exact K28 (L / 4) c16 (by omega)
  · have c16 : 30 < L / 4 := q_nle' (by omega) (by decide) c16
    refine lv_bipush (v := nI 30) hx hb dL_law_19 (by decide) ?_
    refine lv_goto (tgt := 28) hx hb dL_law_21 (by decide) ?_
    exact K28 30 (Nat.le_refl 30) (by omega)
