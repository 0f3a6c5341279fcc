/-! the law's wrappers -/
theorem flat_one (X : va_W) : [X].flatten = X := by rw [List.flatten_cons, List.flatten_nil, List.append_nil]
theorem q_ME.one {C : q_C} {l : Launch} {y : MethodName} {w : List Cond} {fr lo : Nat} {av : List Value} {X : va_W} {Q : Option Value → va_W → Prop} (h : q_ME C l y w fr lo av X Q) : q_ME C l y w fr lo av [X].flatten Q := by rw [flat_one]; exact h
set_option maxHeartbeats 4000000 in
set_option maxRecDepth 100000 in
theorem W_gift (l : Launch) (C : q_C) (x : Nat) (nw tr hq iq tt : Nat → Nat) (sc : Nat) (z : Nat → Int) (ba : Nat → Nat → Nat) (ph : Nat → Bd) (r n : Nat) (b : Bd) (t f v o : Nat → Nat) (a t0 g : Nat) (b2 : Bd) (y : Nat) (cd : Nat → Nat) (ou : Nat) (x0 : Int64) (hr6 : r < 6) (hn6 : n ≤ 6) (ha : a < 4) (ht : t0 < 4) (hg : g ≤ 99) : q_ME C l yL_gift wsL_gift 4 108 [.ref x, .int (nI a), .int (nI t0), .int (nI g), .ref ou] (List.flatten [wU C ou x0, wF C x nw tr hq iq tt sc ba z b b2 ph r n t f v o y cd]) (fun r2 w => r2 = some (.int (nI 0)) ∧ w = List.flatten [wU C ou ((nI (bg b (4 * a + t0))).toInt64), wF C x nw tr hq iq tt sc ba z (sg b (upN (bg b) (4 * a + t0) g)) b2 (upB ph (kJ n r) b) (kR n r) (kC n) t (upN f a 0) v o y cd]) := by
  refine q_headW (cc := cL_gift) (maxL := 6) (ret := (some .int)) (by decide +kernel) rfl (Nat.le_of_ble_eq_true rfl) ?_
  intro p e s m below meth c hx hb hr hlocks hml hown hts hK hV hE hP hD hS hA htab ls hl
  have hl : lv_has ls 6 [(0, .ref x), (1, .int (nI a)), (2, .int (nI t0)), (3, .int (nI g)), (4, .ref ou)] := hl
  refine lv_aload hx hb dL_gift_0 (lv_at hl 4 rfl) ?_
  refine lv_iconst (v := nI 0) hx hb dL_gift_2 (by decide) ?_
  refine lv_aload_n hx hb dL_gift_3 rfl (lv_at hl 0 rfl) ?_
  refine lv_iload_n hx hb dL_gift_4 rfl (lv_at hl 1 rfl) ?_
  refine lv_iload_n hx hb dL_gift_5 rfl (lv_at hl 2 rfl) ?_
  refine lv_iload_n hx hb dL_gift_6 rfl (lv_at hl 3 rfl) ?_
  refine q_VBE (Bs := [wU C ou x0, wF C x nw tr hq iq tt sc ba z b b2 ph r n t f v o y cd]) (cs := [wF C x nw tr hq iq tt sc ba z b b2 ph r n t f v o y cd]) (As := [.int (nI a), .int (nI t0), .int (nI g)]) (rest := [.int (nI 0), .ref ou]) ⟨hx, hb, hml, hown, hts⟩ (F_gift l C x nw tr hq iq tt sc z ba ph r n b t f v o a t0 g b2 y cd hr6 hn6 ha ht hg).one (cwV 3 hts gL_gift_X4_gift rfl rfl rfl (by decide +kernel) ⟨Nat.le_of_ble_eq_true rfl, Nat.le_of_ble_eq_true rfl⟩) hK hV hE hP hD hS hA [1] (by decide) rfl 1 rfl rfl rfl rfl hl.1 rfl (Nat.le_of_ble_eq_true rfl) dL_gift_7 (Nat.zero_le _) (Nat.zero_le _) (fun r w1 H locs hQ hF hS => ?_)
  obtain ⟨rfl, rfl⟩ := hQ
  obtain ⟨hP, hD⟩ := hF [wF C x nw tr hq iq tt sc ba z (sg b (upN (bg b) (4 * a + t0) g)) b2 (upB ph (kJ n r) b) (kR n r) (kC n) t (upN f a 0) v o y cd] (flat_one _).symm rfl
  have hP : va_P C.1 vwCl (List.flatten [wU C ou x0, wF C x nw tr hq iq tt sc ba z (sg b (upN (bg b) (4 * a + t0) g)) b2 (upB ph (kJ n r) b) (kR n r) (kC n) t (upN f a 0) v o y cd]) H := hP
  have hD : va_D (q_A (List.flatten [wU C ou x0, wF C x nw tr hq iq tt sc ba z b b2 ph r n t f v o y cd]) s) (List.flatten [wU C ou x0, wF C x nw tr hq iq tt sc ba z (sg b (upN (bg b) (4 * a + t0) g)) b2 (upB ph (kJ n r) b) (kR n r) (kC n) t (upN f a 0) v o y cd]) := hD
  refine W.eq (g2 := F0 m 10 ls [.int (nI (bg b (4 * a + t0))), .int (nI 0), .ref ou]) rfl ?_
  refine lv_i2l (v := (nI (bg b (4 * a + t0))).toInt64) hx hb dL_gift_10 rfl ?_
  refine q_last (n := 0) hx hb hK hP hD hS 0 rfl (by decide) (by decide) dL_gift_11 (fun H locs hP hD hS => ?_)
  have hP := q_swpL (g := fun _ => (nI (bg b (4 * a + t0))).toInt64) hP 0 rfl (fun k hk => by rw [show k = 0 by omega]; exact pk_uLs)
  have hD := hD.set (p := 0) (a := ou) (e := .inl (C.2.2.1, 1, .inr (.inl (fun _ => (nI (bg b (4 * a + t0))).toInt64)))) rfl
  have hP : va_P C.1 vwCl (List.flatten [wU C ou ((nI (bg b (4 * a + t0))).toInt64), wF C x nw tr hq iq tt sc ba z (sg b (upN (bg b) (4 * a + t0) g)) b2 (upB ph (kJ n r) b) (kR n r) (kC n) t (upN f a 0) v o y cd]) H := hP
  have hD : va_D (q_A (List.flatten [wU C ou x0, wF C x nw tr hq iq tt sc ba z b b2 ph r n t f v o y cd]) s) (List.flatten [wU C ou ((nI (bg b (4 * a + t0))).toInt64), wF C x nw tr hq iq tt sc ba z (sg b (upN (bg b) (4 * a + t0) g)) b2 (upB ph (kJ n r) b) (kR n r) (kC n) t (upN f a 0) v o y cd]) := hD
  refine lv_goto (tgt := 23) hx hb dL_gift_12 (by decide) ?_
  refine lv_iconst (v := nI 0) hx hb dL_gift_23 (by decide) ?_
  exact q_iret hx hb hr hlocks (w1 := List.flatten [wU C ou ((nI (bg b (4 * a + t0))).toInt64), wF C x nw tr hq iq tt sc ba z (sg b (upN (bg b) (4 * a + t0) g)) b2 (upB ph (kJ n r) b) (kR n r) (kC n) t (upN f a 0) v o y cd]) hP hS rfl dL_gift_24 (⟨rfl, rfl⟩)
set_option maxHeartbeats 4000000 in
set_option maxRecDepth 100000 in
theorem W_way (l : Launch) (C : q_C) (x : Nat) (nw tr hq iq tt : Nat → Nat) (sc : Nat) (z : Nat → Int) (ba : Nat → Nat → Nat) (ph : Nat → Bd) (r n : Nat) (b : Bd) (t f v o : Nat → Nat) (a t0 x1 x2 x3 : Nat) (b2 : Bd) (y : Nat) (cd : Nat → Nat) (ou : Nat) (x0 : Int64) (hr6 : r < 6) (hn6 : n ≤ 6) (ha : a < 4) (ht : t0 < 4) (h1 : x1 < 4) (h2 : x2 < 4) (h3 : x3 ≤ 8) : q_ME C l yL_way wsL_way 4 110 [.ref x, .int (nI a), .int (nI t0), .int (nI x1), .int (nI x2), .int (nI x3), .ref ou] (List.flatten [wU C ou x0, wF C x nw tr hq iq tt sc ba z b b2 ph r n t f v o y cd]) (fun r2 w => r2 = some (.int (nI 0)) ∧ w = List.flatten [wU C ou ((nI (100 * bo b (4 * a + t0) + 10 * bb b (4 * a + t0) + bc b (4 * a + t0))).toInt64), wF C x nw tr hq iq tt sc ba z (setC (sb (so b (upN (bo b) (4 * a + t0) x1)) (upN (bb b) (4 * a + t0) x2)) (upN (bc b) (4 * a + t0) x3)) b2 (upB ph (kJ n r) b) (kR n r) (kC n) t (upN f a 0) v o y cd]) := by
  refine q_headW (cc := cL_way) (maxL := 8) (ret := (some .int)) (by decide +kernel) rfl (Nat.le_of_ble_eq_true rfl) ?_
  intro p e s m below meth c hx hb hr hlocks hml hown hts hK hV hE hP hD hS hA htab ls hl
  have hl : lv_has ls 8 [(0, .ref x), (1, .int (nI a)), (2, .int (nI t0)), (3, .int (nI x1)), (4, .int (nI x2)), (5, .int (nI x3)), (6, .ref ou)] := hl
  refine lv_aload hx hb dL_way_0 (lv_at hl 6 rfl) ?_
  refine lv_iconst (v := nI 0) hx hb dL_way_2 (by decide) ?_
  refine lv_aload_n hx hb dL_way_3 rfl (lv_at hl 0 rfl) ?_
  refine lv_iload_n hx hb dL_way_4 rfl (lv_at hl 1 rfl) ?_
  refine lv_iload_n hx hb dL_way_5 rfl (lv_at hl 2 rfl) ?_
  refine lv_iload_n hx hb dL_way_6 rfl (lv_at hl 3 rfl) ?_
  refine lv_iload hx hb dL_way_7 (lv_at hl 4 rfl) ?_
  refine lv_iload hx hb dL_way_9 (lv_at hl 5 rfl) ?_
  refine q_VBE (Bs := [wU C ou x0, wF C x nw tr hq iq tt sc ba z b b2 ph r n t f v o y cd]) (cs := [wF C x nw tr hq iq tt sc ba z b b2 ph r n t f v o y cd]) (As := [.int (nI a), .int (nI t0), .int (nI x1), .int (nI x2), .int (nI x3)]) (rest := [.int (nI 0), .ref ou]) ⟨hx, hb, hml, hown, hts⟩ (F_way l C x nw tr hq iq tt sc z ba ph r n b t f v o a t0 x1 x2 x3 b2 y cd hr6 hn6 ha ht h1 h2 h3).one (cwV 5 hts gL_way_X4_way rfl rfl rfl (by decide +kernel) ⟨Nat.le_of_ble_eq_true rfl, Nat.le_of_ble_eq_true rfl⟩) hK hV hE hP hD hS hA [1] (by decide) rfl 1 rfl rfl rfl rfl hl.1 rfl (Nat.le_of_ble_eq_true rfl) dL_way_11 (Nat.zero_le _) (Nat.zero_le _) (fun r w1 H locs hQ hF hS => ?_)
  obtain ⟨rfl, rfl⟩ := hQ
  obtain ⟨hP, hD⟩ := hF [wF C x nw tr hq iq tt sc ba z (setC (sb (so b (upN (bo b) (4 * a + t0) x1)) (upN (bb b) (4 * a + t0) x2)) (upN (bc b) (4 * a + t0) x3)) b2 (upB ph (kJ n r) b) (kR n r) (kC n) t (upN f a 0) v o y cd] (flat_one _).symm rfl
  have hP : va_P C.1 vwCl (List.flatten [wU C ou x0, wF C x nw tr hq iq tt sc ba z (setC (sb (so b (upN (bo b) (4 * a + t0) x1)) (upN (bb b) (4 * a + t0) x2)) (upN (bc b) (4 * a + t0) x3)) b2 (upB ph (kJ n r) b) (kR n r) (kC n) t (upN f a 0) v o y cd]) H := hP
  have hD : va_D (q_A (List.flatten [wU C ou x0, wF C x nw tr hq iq tt sc ba z b b2 ph r n t f v o y cd]) s) (List.flatten [wU C ou x0, wF C x nw tr hq iq tt sc ba z (setC (sb (so b (upN (bo b) (4 * a + t0) x1)) (upN (bb b) (4 * a + t0) x2)) (upN (bc b) (4 * a + t0) x3)) b2 (upB ph (kJ n r) b) (kR n r) (kC n) t (upN f a 0) v o y cd]) := hD
  refine W.eq (g2 := F0 m 14 ls [.int (nI (100 * bo b (4 * a + t0) + 10 * bb b (4 * a + t0) + bc b (4 * a + t0))), .int (nI 0), .ref ou]) rfl ?_
  refine lv_i2l (v := (nI (100 * bo b (4 * a + t0) + 10 * bb b (4 * a + t0) + bc b (4 * a + t0))).toInt64) hx hb dL_way_14 rfl ?_
  refine q_last (n := 0) hx hb hK hP hD hS 0 rfl (by decide) (by decide) dL_way_15 (fun H locs hP hD hS => ?_)
  have hP := q_swpL (g := fun _ => (nI (100 * bo b (4 * a + t0) + 10 * bb b (4 * a + t0) + bc b (4 * a + t0))).toInt64) hP 0 rfl (fun k hk => by rw [show k = 0 by omega]; exact pk_uLs)
  have hD := hD.set (p := 0) (a := ou) (e := .inl (C.2.2.1, 1, .inr (.inl (fun _ => (nI (100 * bo b (4 * a + t0) + 10 * bb b (4 * a + t0) + bc b (4 * a + t0))).toInt64)))) rfl
  have hP : va_P C.1 vwCl (List.flatten [wU C ou ((nI (100 * bo b (4 * a + t0) + 10 * bb b (4 * a + t0) + bc b (4 * a + t0))).toInt64), wF C x nw tr hq iq tt sc ba z (setC (sb (so b (upN (bo b) (4 * a + t0) x1)) (upN (bb b) (4 * a + t0) x2)) (upN (bc b) (4 * a + t0) x3)) b2 (upB ph (kJ n r) b) (kR n r) (kC n) t (upN f a 0) v o y cd]) H := hP
  have hD : va_D (q_A (List.flatten [wU C ou x0, wF C x nw tr hq iq tt sc ba z b b2 ph r n t f v o y cd]) s) (List.flatten [wU C ou ((nI (100 * bo b (4 * a + t0) + 10 * bb b (4 * a + t0) + bc b (4 * a + t0))).toInt64), wF C x nw tr hq iq tt sc ba z (setC (sb (so b (upN (bo b) (4 * a + t0) x1)) (upN (bb b) (4 * a + t0) x2)) (upN (bc b) (4 * a + t0) x3)) b2 (upB ph (kJ n r) b) (kR n r) (kC n) t (upN f a 0) v o y cd]) := hD
  refine lv_goto (tgt := 27) hx hb dL_way_16 (by decide) ?_
  refine lv_iconst (v := nI 0) hx hb dL_way_27 (by decide) ?_
  exact q_iret hx hb hr hlocks (w1 := List.flatten [wU C ou ((nI (100 * bo b (4 * a + t0) + 10 * bb b (4 * a + t0) + bc b (4 * a + t0))).toInt64), wF C x nw tr hq iq tt sc ba z (setC (sb (so b (upN (bo b) (4 * a + t0) x1)) (upN (bb b) (4 * a + t0) x2)) (upN (bc b) (4 * a + t0) x3)) b2 (upB ph (kJ n r) b) (kR n r) (kC n) t (upN f a 0) v o y cd]) hP hS rfl dL_way_28 (⟨rfl, rfl⟩)
set_option maxHeartbeats 4000000 in
set_option maxRecDepth 100000 in
theorem W_put (l : Launch) (C : q_C) (x : Nat) (nw tr hq iq tt : Nat → Nat) (sc : Nat) (z : Nat → Int) (ba : Nat → Nat → Nat) (ph : Nat → Bd) (r n : Nat) (b : Bd) (a t0 : Nat) (b2 : Bd) (t : Nat → Nat) (f : Nat → Nat) (v : Nat → Nat) (o : Nat → Nat) (y : Nat) (cd : Nat → Nat) (ou : Nat) (x0 : Int64) (hr6 : r < 6) (hn6 : n ≤ 6) (ha : a < 4) (ht : t0 < 4) : q_ME C l yL_put wsL_put 4 106 [.ref x, .int (nI a), .int (nI t0), .ref ou] (List.flatten [wU C ou x0, wF C x nw tr hq iq tt sc ba z b b2 ph r n t f v o y cd]) (fun r2 w => r2 = some (.int (nI 0)) ∧ w = List.flatten [wU C ou ((nI (bp b a)).toInt64), wF C x nw tr hq iq tt sc ba z (sp b (upN (bp b) a t0)) b2 (upB ph (kJ n r) b) (kR n r) (kC n) t f v o y cd]) := by
  refine q_headW (cc := cL_put) (maxL := 5) (ret := (some .int)) (by decide +kernel) rfl (Nat.le_of_ble_eq_true rfl) ?_
  intro p e s m below meth c hx hb hr hlocks hml hown hts hK hV hE hP hD hS hA htab ls hl
  have hl : lv_has ls 5 [(0, .ref x), (1, .int (nI a)), (2, .int (nI t0)), (3, .ref ou)] := hl
  refine lv_aload_n hx hb dL_put_0 rfl (lv_at hl 3 rfl) ?_
  refine lv_iconst (v := nI 0) hx hb dL_put_1 (by decide) ?_
  refine lv_aload_n hx hb dL_put_2 rfl (lv_at hl 0 rfl) ?_
  refine lv_iload_n hx hb dL_put_3 rfl (lv_at hl 1 rfl) ?_
  refine lv_iload_n hx hb dL_put_4 rfl (lv_at hl 2 rfl) ?_
  refine q_VBE (Bs := [wU C ou x0, wF C x nw tr hq iq tt sc ba z b b2 ph r n t f v o y cd]) (cs := [wF C x nw tr hq iq tt sc ba z b b2 ph r n t f v o y cd]) (As := [.int (nI a), .int (nI t0)]) (rest := [.int (nI 0), .ref ou]) ⟨hx, hb, hml, hown, hts⟩ (F_put l C x nw tr hq iq tt sc z ba ph r n b a t0 b2 t f v o y cd hr6 hn6 ha ht).one (cwV 2 hts gL_put_X4_put rfl rfl rfl (by decide +kernel) ⟨Nat.le_of_ble_eq_true rfl, Nat.le_of_ble_eq_true rfl⟩) hK hV hE hP hD hS hA [1] (by decide) rfl 1 rfl rfl rfl rfl hl.1 rfl (Nat.le_of_ble_eq_true rfl) dL_put_5 (Nat.zero_le _) (Nat.zero_le _) (fun r w1 H locs hQ hF hS => ?_)
  obtain ⟨rfl, rfl⟩ := hQ
  obtain ⟨hP, hD⟩ := hF [wF C x nw tr hq iq tt sc ba z (sp b (upN (bp b) a t0)) b2 (upB ph (kJ n r) b) (kR n r) (kC n) t f v o y cd] (flat_one _).symm rfl
  have hP : va_P C.1 vwCl (List.flatten [wU C ou x0, wF C x nw tr hq iq tt sc ba z (sp b (upN (bp b) a t0)) b2 (upB ph (kJ n r) b) (kR n r) (kC n) t f v o y cd]) H := hP
  have hD : va_D (q_A (List.flatten [wU C ou x0, wF C x nw tr hq iq tt sc ba z b b2 ph r n t f v o y cd]) s) (List.flatten [wU C ou x0, wF C x nw tr hq iq tt sc ba z (sp b (upN (bp b) a t0)) b2 (upB ph (kJ n r) b) (kR n r) (kC n) t f v o y cd]) := hD
  refine W.eq (g2 := F0 m 8 ls [.int (nI (bp b a)), .int (nI 0), .ref ou]) rfl ?_
  refine lv_i2l (v := (nI (bp b a)).toInt64) hx hb dL_put_8 rfl ?_
  refine q_last (n := 0) hx hb hK hP hD hS 0 rfl (by decide) (by decide) dL_put_9 (fun H locs hP hD hS => ?_)
  have hP := q_swpL (g := fun _ => (nI (bp b a)).toInt64) hP 0 rfl (fun k hk => by rw [show k = 0 by omega]; exact pk_uLs)
  have hD := hD.set (p := 0) (a := ou) (e := .inl (C.2.2.1, 1, .inr (.inl (fun _ => (nI (bp b a)).toInt64)))) rfl
  have hP : va_P C.1 vwCl (List.flatten [wU C ou ((nI (bp b a)).toInt64), wF C x nw tr hq iq tt sc ba z (sp b (upN (bp b) a t0)) b2 (upB ph (kJ n r) b) (kR n r) (kC n) t f v o y cd]) H := hP
  have hD : va_D (q_A (List.flatten [wU C ou x0, wF C x nw tr hq iq tt sc ba z b b2 ph r n t f v o y cd]) s) (List.flatten [wU C ou ((nI (bp b a)).toInt64), wF C x nw tr hq iq tt sc ba z (sp b (upN (bp b) a t0)) b2 (upB ph (kJ n r) b) (kR n r) (kC n) t f v o y cd]) := hD
  refine lv_goto (tgt := 17) hx hb dL_put_10 (by decide) ?_
  refine lv_iconst (v := nI 0) hx hb dL_put_17 (by decide) ?_
  exact q_iret hx hb hr hlocks (w1 := List.flatten [wU C ou ((nI (bp b a)).toInt64), wF C x nw tr hq iq tt sc ba z (sp b (upN (bp b) a t0)) b2 (upB ph (kJ n r) b) (kR n r) (kC n) t f v o y cd]) hP hS rfl dL_put_18 (⟨rfl, rfl⟩)
set_option maxHeartbeats 4000000 in
set_option maxRecDepth 100000 in
theorem W_set (l : Launch) (C : q_C) (x : Nat) (nw tr hq iq tt : Nat → Nat) (sc : Nat) (z : Nat → Int) (ba : Nat → Nat → Nat) (ph : Nat → Bd) (r n : Nat) (b : Bd) (t f v o : Nat → Nat) (kx g : Nat) (b2 : Bd) (y : Nat) (cd : Nat → Nat) (ou : Nat) (x0 : Int64) (hr6 : r < 6) (hn6 : n ≤ 6) (hk : kx < 4) (h1 : leS kx ≤ g) (h2 : g ≤ grS kx) (h3 : grS kx ≤ 99) : q_ME C l yL_set wsL_set 4 106 [.ref x, .int (nI kx), .int (nI g), .ref ou] (List.flatten [wU C ou x0, wF C x nw tr hq iq tt sc ba z b b2 ph r n t f v o y cd]) (fun r2 w => r2 = some (.int (nI 0)) ∧ w = List.flatten [wU C ou ((nI (bs b kx)).toInt64), wF C x nw tr hq iq tt sc ba z (ss b (upN (bs b) kx g)) b2 (upB ph (kJ n r) b) (kR n r) (kC n) t (upN (upN (upN (upN f 0 0) 1 0) 2 0) 3 0) v o y cd]) := by
  refine q_headW (cc := cL_set) (maxL := 5) (ret := (some .int)) (by decide +kernel) rfl (Nat.le_of_ble_eq_true rfl) ?_
  intro p e s m below meth c hx hb hr hlocks hml hown hts hK hV hE hP hD hS hA htab ls hl
  have hl : lv_has ls 5 [(0, .ref x), (1, .int (nI kx)), (2, .int (nI g)), (3, .ref ou)] := hl
  refine lv_aload_n hx hb dL_set_0 rfl (lv_at hl 3 rfl) ?_
  refine lv_iconst (v := nI 0) hx hb dL_set_1 (by decide) ?_
  refine lv_aload_n hx hb dL_set_2 rfl (lv_at hl 0 rfl) ?_
  refine lv_iload_n hx hb dL_set_3 rfl (lv_at hl 1 rfl) ?_
  refine lv_iload_n hx hb dL_set_4 rfl (lv_at hl 2 rfl) ?_
  refine q_VBE (Bs := [wU C ou x0, wF C x nw tr hq iq tt sc ba z b b2 ph r n t f v o y cd]) (cs := [wF C x nw tr hq iq tt sc ba z b b2 ph r n t f v o y cd]) (As := [.int (nI kx), .int (nI g)]) (rest := [.int (nI 0), .ref ou]) ⟨hx, hb, hml, hown, hts⟩ (F_set l C x nw tr hq iq tt sc z ba ph r n b t f v o kx g b2 y cd hr6 hn6 hk h1 h2 h3).one (cwV 2 hts gL_set_X4_set rfl rfl rfl (by decide +kernel) ⟨Nat.le_of_ble_eq_true rfl, Nat.le_of_ble_eq_true rfl⟩) hK hV hE hP hD hS hA [1] (by decide) rfl 1 rfl rfl rfl rfl hl.1 rfl (Nat.le_of_ble_eq_true rfl) dL_set_5 (Nat.zero_le _) (Nat.zero_le _) (fun r w1 H locs hQ hF hS => ?_)
  obtain ⟨rfl, rfl⟩ := hQ
  obtain ⟨hP, hD⟩ := hF [wF C x nw tr hq iq tt sc ba z (ss b (upN (bs b) kx g)) b2 (upB ph (kJ n r) b) (kR n r) (kC n) t (upN (upN (upN (upN f 0 0) 1 0) 2 0) 3 0) v o y cd] (flat_one _).symm rfl
  have hP : va_P C.1 vwCl (List.flatten [wU C ou x0, wF C x nw tr hq iq tt sc ba z (ss b (upN (bs b) kx g)) b2 (upB ph (kJ n r) b) (kR n r) (kC n) t (upN (upN (upN (upN f 0 0) 1 0) 2 0) 3 0) v o y cd]) H := hP
  have hD : va_D (q_A (List.flatten [wU C ou x0, wF C x nw tr hq iq tt sc ba z b b2 ph r n t f v o y cd]) s) (List.flatten [wU C ou x0, wF C x nw tr hq iq tt sc ba z (ss b (upN (bs b) kx g)) b2 (upB ph (kJ n r) b) (kR n r) (kC n) t (upN (upN (upN (upN f 0 0) 1 0) 2 0) 3 0) v o y cd]) := hD
  refine W.eq (g2 := F0 m 8 ls [.int (nI (bs b kx)), .int (nI 0), .ref ou]) rfl ?_
  refine lv_i2l (v := (nI (bs b kx)).toInt64) hx hb dL_set_8 rfl ?_
  refine q_last (n := 0) hx hb hK hP hD hS 0 rfl (by decide) (by decide) dL_set_9 (fun H locs hP hD hS => ?_)
  have hP := q_swpL (g := fun _ => (nI (bs b kx)).toInt64) hP 0 rfl (fun k hk => by rw [show k = 0 by omega]; exact pk_uLs)
  have hD := hD.set (p := 0) (a := ou) (e := .inl (C.2.2.1, 1, .inr (.inl (fun _ => (nI (bs b kx)).toInt64)))) rfl
  have hP : va_P C.1 vwCl (List.flatten [wU C ou ((nI (bs b kx)).toInt64), wF C x nw tr hq iq tt sc ba z (ss b (upN (bs b) kx g)) b2 (upB ph (kJ n r) b) (kR n r) (kC n) t (upN (upN (upN (upN f 0 0) 1 0) 2 0) 3 0) v o y cd]) H := hP
  have hD : va_D (q_A (List.flatten [wU C ou x0, wF C x nw tr hq iq tt sc ba z b b2 ph r n t f v o y cd]) s) (List.flatten [wU C ou ((nI (bs b kx)).toInt64), wF C x nw tr hq iq tt sc ba z (ss b (upN (bs b) kx g)) b2 (upB ph (kJ n r) b) (kR n r) (kC n) t (upN (upN (upN (upN f 0 0) 1 0) 2 0) 3 0) v o y cd]) := hD
  refine lv_goto (tgt := 21) hx hb dL_set_10 (by decide) ?_
  refine lv_iconst (v := nI 0) hx hb dL_set_21 (by decide) ?_
  exact q_iret hx hb hr hlocks (w1 := List.flatten [wU C ou ((nI (bs b kx)).toInt64), wF C x nw tr hq iq tt sc ba z (ss b (upN (bs b) kx g)) b2 (upB ph (kJ n r) b) (kR n r) (kC n) t (upN (upN (upN (upN f 0 0) 1 0) 2 0) 3 0) v o y cd]) hP hS rfl dL_set_22 (⟨rfl, rfl⟩)
set_option maxHeartbeats 4000000 in
set_option maxRecDepth 100000 in
theorem W_pull (l : Launch) (C : q_C) (x : Nat) (nw tr hq iq tt : Nat → Nat) (sc : Nat) (z : Nat → Int) (ba : Nat → Nat → Nat) (ph : Nat → Bd) (r n : Nat) (b : Bd) (a : Nat) (b2 : Bd) (t : Nat → Nat) (f : Nat → Nat) (v : Nat → Nat) (o : Nat → Nat) (y : Nat) (cd : Nat → Nat) (ou : Nat) (x0 : Int64) (hr6 : r < 6) (hn6 : n ≤ 6) (hB : OkB b) (ha : a < 4) (hU : sumU b < 9999) : q_ME C l yL_pull wsL_pull 4 104 [.ref x, .int (nI a), .ref ou] (List.flatten [wU C ou x0, wF C x nw tr hq iq tt sc ba z b b2 ph r n t f v o y cd]) (fun r2 w => r2 = some (.int (nI 0)) ∧ w = List.flatten [wU C ou ((nI (bp (pulB b a) a)).toInt64), wF C x nw tr hq iq tt sc ba z (pulB b a) b2 (upB ph (kJ n r) b) (kR n r) (kC n) t f v o y cd]) := by
  refine q_headW (cc := cL_pull) (maxL := 4) (ret := (some .int)) (by decide +kernel) rfl (Nat.le_of_ble_eq_true rfl) ?_
  intro p e s m below meth c hx hb hr hlocks hml hown hts hK hV hE hP hD hS hA htab ls hl
  have hl : lv_has ls 4 [(0, .ref x), (1, .int (nI a)), (2, .ref ou)] := hl
  refine lv_aload_n hx hb dL_pull_0 rfl (lv_at hl 2 rfl) ?_
  refine lv_iconst (v := nI 0) hx hb dL_pull_1 (by decide) ?_
  refine lv_aload_n hx hb dL_pull_2 rfl (lv_at hl 0 rfl) ?_
  refine lv_iload_n hx hb dL_pull_3 rfl (lv_at hl 1 rfl) ?_
  refine q_VBE (Bs := [wU C ou x0, wF C x nw tr hq iq tt sc ba z b b2 ph r n t f v o y cd]) (cs := [wF C x nw tr hq iq tt sc ba z b b2 ph r n t f v o y cd]) (As := [.int (nI a)]) (rest := [.int (nI 0), .ref ou]) ⟨hx, hb, hml, hown, hts⟩ (F_pull l C x nw tr hq iq tt sc z ba ph r n b a b2 t f v o y cd hr6 hn6 hB ha hU).one (cwV 1 hts gL_pull_X4_pull rfl rfl rfl (by decide +kernel) ⟨Nat.le_of_ble_eq_true rfl, Nat.le_of_ble_eq_true rfl⟩) hK hV hE hP hD hS hA [1] (by decide) rfl 1 rfl rfl rfl rfl hl.1 rfl (Nat.le_of_ble_eq_true rfl) dL_pull_4 (Nat.zero_le _) (Nat.zero_le _) (fun r w1 H locs hQ hF hS => ?_)
  obtain ⟨rfl, rfl⟩ := hQ
  obtain ⟨hP, hD⟩ := hF [wF C x nw tr hq iq tt sc ba z (pulB b a) b2 (upB ph (kJ n r) b) (kR n r) (kC n) t f v o y cd] (flat_one _).symm rfl
  have hP : va_P C.1 vwCl (List.flatten [wU C ou x0, wF C x nw tr hq iq tt sc ba z (pulB b a) b2 (upB ph (kJ n r) b) (kR n r) (kC n) t f v o y cd]) H := hP
  have hD : va_D (q_A (List.flatten [wU C ou x0, wF C x nw tr hq iq tt sc ba z b b2 ph r n t f v o y cd]) s) (List.flatten [wU C ou x0, wF C x nw tr hq iq tt sc ba z (pulB b a) b2 (upB ph (kJ n r) b) (kR n r) (kC n) t f v o y cd]) := hD
  refine W.eq (g2 := F0 m 7 ls [.int (nI (bp (pulB b a) a)), .int (nI 0), .ref ou]) rfl ?_
  refine lv_i2l (v := (nI (bp (pulB b a) a)).toInt64) hx hb dL_pull_7 rfl ?_
  refine q_last (n := 0) hx hb hK hP hD hS 0 rfl (by decide) (by decide) dL_pull_8 (fun H locs hP hD hS => ?_)
  have hP := q_swpL (g := fun _ => (nI (bp (pulB b a) a)).toInt64) hP 0 rfl (fun k hk => by rw [show k = 0 by omega]; exact pk_uLs)
  have hD := hD.set (p := 0) (a := ou) (e := .inl (C.2.2.1, 1, .inr (.inl (fun _ => (nI (bp (pulB b a) a)).toInt64)))) rfl
  have hP : va_P C.1 vwCl (List.flatten [wU C ou ((nI (bp (pulB b a) a)).toInt64), wF C x nw tr hq iq tt sc ba z (pulB b a) b2 (upB ph (kJ n r) b) (kR n r) (kC n) t f v o y cd]) H := hP
  have hD : va_D (q_A (List.flatten [wU C ou x0, wF C x nw tr hq iq tt sc ba z b b2 ph r n t f v o y cd]) s) (List.flatten [wU C ou ((nI (bp (pulB b a) a)).toInt64), wF C x nw tr hq iq tt sc ba z (pulB b a) b2 (upB ph (kJ n r) b) (kR n r) (kC n) t f v o y cd]) := hD
  refine lv_goto (tgt := 18) hx hb dL_pull_9 (by decide) ?_
  refine lv_iconst (v := nI 0) hx hb dL_pull_18 (by decide) ?_
  exact q_iret hx hb hr hlocks (w1 := List.flatten [wU C ou ((nI (bp (pulB b a) a)).toInt64), wF C x nw tr hq iq tt sc ba z (pulB b a) b2 (upB ph (kJ n r) b) (kR n r) (kC n) t f v o y cd]) hP hS rfl dL_pull_19 (⟨rfl, rfl⟩)
set_option maxHeartbeats 4000000 in
set_option maxRecDepth 100000 in
theorem W_play (l : Launch) (C : q_C) (x : Nat) (nw tr hq iq tt : Nat → Nat) (sc : Nat) (z : Nat → Int) (ba : Nat → Nat → Nat) (ph : Nat → Bd) (r n : Nat) (b : Bd) (t f v o : Nat → Nat) (rule k : Nat) (b2 : Bd) (y : Nat) (cd : Nat → Nat) (ou : Nat) (x0 : Int64) (hr6 : r < 6) (hn6 : n ≤ 6) (hB : OkB b) (hr3 : rule < 3) (h1 : 1 ≤ k) (h2 : k ≤ 99) (hs : sumU b + k ≤ 9999) (hfr : frB b t f) : q_ME C l yL_play wsL_play 6 140 [.ref x, .int (nI rule), .int (nI k), .ref ou] (List.flatten [wU C ou x0, wF C x nw tr hq iq tt sc ba z b b2 ph r n t f v o y cd]) (fun r2 w => ∃ z1 v1 o1, r2 = some (.int (nI 0)) ∧ w = List.flatten [wU C ou ((nI (bx (plN b (idxT b) rule k)) - nI (bx b)).toInt64), wF C x nw tr hq iq tt sc ba z1 (plN b (idxT b) rule k) b2 (upB ph (kJ n r) b) (kR n r) (kC n) (idxT b) (fun _ => 1) v1 o1 y cd]) := by
  refine q_headW (cc := cL_play) (maxL := 5) (ret := (some .int)) (by decide +kernel) rfl (Nat.le_of_ble_eq_true rfl) ?_
  intro p e s m below meth c hx hb hr hlocks hml hown hts hK hV hE hP hD hS hA htab ls hl
  have hl : lv_has ls 5 [(0, .ref x), (1, .int (nI rule)), (2, .int (nI k)), (3, .ref ou)] := hl
  refine lv_aload_n hx hb dL_play_0 rfl (lv_at hl 3 rfl) ?_
  refine lv_iconst (v := nI 0) hx hb dL_play_1 (by decide) ?_
  refine lv_aload_n hx hb dL_play_2 rfl (lv_at hl 0 rfl) ?_
  refine lv_iload_n hx hb dL_play_3 rfl (lv_at hl 1 rfl) ?_
  refine lv_iload_n hx hb dL_play_4 rfl (lv_at hl 2 rfl) ?_
  refine q_VBE (Bs := [wU C ou x0, wF C x nw tr hq iq tt sc ba z b b2 ph r n t f v o y cd]) (cs := [wF C x nw tr hq iq tt sc ba z b b2 ph r n t f v o y cd]) (As := [.int (nI rule), .int (nI k)]) (rest := [.int (nI 0), .ref ou]) ⟨hx, hb, hml, hown, hts⟩ (F_play l C x nw tr hq iq tt sc z ba ph r n b t f v o rule k b2 y cd hr6 hn6 hB hr3 h1 h2 hs hfr).one (cwV 2 hts gL_play_X4_play rfl rfl rfl (by decide +kernel) ⟨Nat.le_of_ble_eq_true rfl, Nat.le_of_ble_eq_true rfl⟩) hK hV hE hP hD hS hA [1] (by decide) rfl 1 rfl rfl rfl rfl hl.1 rfl (Nat.le_of_ble_eq_true rfl) dL_play_5 (Nat.zero_le _) (Nat.zero_le _) (fun r w1 H locs hQ hF hS => ?_)
  obtain ⟨z1, v1, o1, rfl, rfl⟩ := hQ
  obtain ⟨hP, hD⟩ := hF [wF C x nw tr hq iq tt sc ba z1 (plN b (idxT b) rule k) b2 (upB ph (kJ n r) b) (kR n r) (kC n) (idxT b) (fun _ => 1) v1 o1 y cd] (flat_one _).symm rfl
  have hP : va_P C.1 vwCl (List.flatten [wU C ou x0, wF C x nw tr hq iq tt sc ba z1 (plN b (idxT b) rule k) b2 (upB ph (kJ n r) b) (kR n r) (kC n) (idxT b) (fun _ => 1) v1 o1 y cd]) H := hP
  have hD : va_D (q_A (List.flatten [wU C ou x0, wF C x nw tr hq iq tt sc ba z b b2 ph r n t f v o y cd]) s) (List.flatten [wU C ou x0, wF C x nw tr hq iq tt sc ba z1 (plN b (idxT b) rule k) b2 (upB ph (kJ n r) b) (kR n r) (kC n) (idxT b) (fun _ => 1) v1 o1 y cd]) := hD
  refine W.eq (g2 := F0 m 8 ls [.int (nI (bx (plN b (idxT b) rule k)) - nI (bx b)), .int (nI 0), .ref ou]) rfl ?_
  refine lv_i2l (v := (nI (bx (plN b (idxT b) rule k)) - nI (bx b)).toInt64) hx hb dL_play_8 rfl ?_
  refine q_last (n := 0) hx hb hK hP hD hS 0 rfl (by decide) (by decide) dL_play_9 (fun H locs hP hD hS => ?_)
  have hP := q_swpL (g := fun _ => (nI (bx (plN b (idxT b) rule k)) - nI (bx b)).toInt64) hP 0 rfl (fun k hk => by rw [show k = 0 by omega]; exact pk_uLs)
  have hD := hD.set (p := 0) (a := ou) (e := .inl (C.2.2.1, 1, .inr (.inl (fun _ => (nI (bx (plN b (idxT b) rule k)) - nI (bx b)).toInt64)))) rfl
  have hP : va_P C.1 vwCl (List.flatten [wU C ou ((nI (bx (plN b (idxT b) rule k)) - nI (bx b)).toInt64), wF C x nw tr hq iq tt sc ba z1 (plN b (idxT b) rule k) b2 (upB ph (kJ n r) b) (kR n r) (kC n) (idxT b) (fun _ => 1) v1 o1 y cd]) H := hP
  have hD : va_D (q_A (List.flatten [wU C ou x0, wF C x nw tr hq iq tt sc ba z b b2 ph r n t f v o y cd]) s) (List.flatten [wU C ou ((nI (bx (plN b (idxT b) rule k)) - nI (bx b)).toInt64), wF C x nw tr hq iq tt sc ba z1 (plN b (idxT b) rule k) b2 (upB ph (kJ n r) b) (kR n r) (kC n) (idxT b) (fun _ => 1) v1 o1 y cd]) := hD
  refine lv_goto (tgt := 21) hx hb dL_play_10 (by decide) ?_
  refine lv_iconst (v := nI 0) hx hb dL_play_21 (by decide) ?_
  exact q_iret hx hb hr hlocks (w1 := List.flatten [wU C ou ((nI (bx (plN b (idxT b) rule k)) - nI (bx b)).toInt64), wF C x nw tr hq iq tt sc ba z1 (plN b (idxT b) rule k) b2 (upB ph (kJ n r) b) (kR n r) (kC n) (idxT b) (fun _ => 1) v1 o1 y cd]) hP hS rfl dL_play_22 (⟨_, _, _, rfl, rfl⟩)
set_option maxHeartbeats 4000000 in
set_option maxRecDepth 100000 in
theorem W_append (l : Launch) (C : q_C) (x : Nat) (nw tr hq iq tt : Nat → Nat) (sc : Nat) (z : Nat → Int) (y : Nat) (cd : Nat → Nat) (cx : Nat) (ba : Nat → Nat → Nat) (b : Bd) (b2 : Bd) (r : Nat) (n : Nat) (ph : Nat → Bd) (t : Nat → Nat) (f : Nat → Nat) (v : Nat → Nat) (o : Nat → Nat) (ou : Nat) (x0 : Int64) (h1 : 33 ≤ cx) (h2 : cx ≤ 126) (hy : y < 60) : q_ME C l yL_append wsL_append 2 43 [.ref x, .int (nI cx), .ref ou] (List.flatten [wU C ou x0, wF C x nw tr hq iq tt sc ba z b b2 ph r n t f v o y cd]) (fun r2 w => r2 = some (.int (nI 0)) ∧ w = List.flatten [wU C ou ((nI (y + 1)).toInt64), wF C x nw tr hq iq tt sc ba z b b2 ph r n t f v o (y + 1) (upN cd y cx)]) := by
  refine q_headW (cc := cL_append) (maxL := 4) (ret := (some .int)) (by decide +kernel) rfl (Nat.le_of_ble_eq_true rfl) ?_
  intro p e s m below meth c hx hb hr hlocks hml hown hts hK hV hE hP hD hS hA htab ls hl
  have hl : lv_has ls 4 [(0, .ref x), (1, .int (nI cx)), (2, .ref ou)] := hl
  refine lv_aload_n hx hb dL_append_0 rfl (lv_at hl 2 rfl) ?_
  refine lv_iconst (v := nI 0) hx hb dL_append_1 (by decide) ?_
  refine lv_aload_n hx hb dL_append_2 rfl (lv_at hl 0 rfl) ?_
  refine lv_iload_n hx hb dL_append_3 rfl (lv_at hl 1 rfl) ?_
  refine q_VBE (Bs := [wU C ou x0, wF C x nw tr hq iq tt sc ba z b b2 ph r n t f v o y cd]) (cs := [wF C x nw tr hq iq tt sc ba z b b2 ph r n t f v o y cd]) (As := [.int (nI cx)]) (rest := [.int (nI 0), .ref ou]) ⟨hx, hb, hml, hown, hts⟩ (F_append l C x nw tr hq iq tt sc z y cd cx ba b b2 r n ph t f v o h1 h2 hy).one (cwV 1 hts gL_append_X4_append rfl rfl rfl (by decide +kernel) ⟨Nat.le_of_ble_eq_true rfl, Nat.le_of_ble_eq_true rfl⟩) hK hV hE hP hD hS hA [1] (by decide) rfl 1 rfl rfl rfl rfl hl.1 rfl (Nat.le_of_ble_eq_true rfl) dL_append_4 (Nat.zero_le _) (Nat.zero_le _) (fun r w1 H locs hQ hF hS => ?_)
  obtain ⟨rfl, rfl⟩ := hQ
  obtain ⟨hP, hD⟩ := hF [wF C x nw tr hq iq tt sc ba z b b2 ph r n t f v o (y + 1) (upN cd y cx)] (flat_one _).symm rfl
  have hP : va_P C.1 vwCl (List.flatten [wU C ou x0, wF C x nw tr hq iq tt sc ba z b b2 ph r n t f v o (y + 1) (upN cd y cx)]) H := hP
  have hD : va_D (q_A (List.flatten [wU C ou x0, wF C x nw tr hq iq tt sc ba z b b2 ph r n t f v o y cd]) s) (List.flatten [wU C ou x0, wF C x nw tr hq iq tt sc ba z b b2 ph r n t f v o (y + 1) (upN cd y cx)]) := hD
  refine W.eq (g2 := F0 m 7 ls [.int (nI (y + 1)), .int (nI 0), .ref ou]) rfl ?_
  refine lv_i2l (v := (nI (y + 1)).toInt64) hx hb dL_append_7 rfl ?_
  refine q_last (n := 0) hx hb hK hP hD hS 0 rfl (by decide) (by decide) dL_append_8 (fun H locs hP hD hS => ?_)
  have hP := q_swpL (g := fun _ => (nI (y + 1)).toInt64) hP 0 rfl (fun k hk => by rw [show k = 0 by omega]; exact pk_uLs)
  have hD := hD.set (p := 0) (a := ou) (e := .inl (C.2.2.1, 1, .inr (.inl (fun _ => (nI (y + 1)).toInt64)))) rfl
  have hP : va_P C.1 vwCl (List.flatten [wU C ou ((nI (y + 1)).toInt64), wF C x nw tr hq iq tt sc ba z b b2 ph r n t f v o (y + 1) (upN cd y cx)]) H := hP
  have hD : va_D (q_A (List.flatten [wU C ou x0, wF C x nw tr hq iq tt sc ba z b b2 ph r n t f v o y cd]) s) (List.flatten [wU C ou ((nI (y + 1)).toInt64), wF C x nw tr hq iq tt sc ba z b b2 ph r n t f v o (y + 1) (upN cd y cx)]) := hD
  refine lv_goto (tgt := 18) hx hb dL_append_9 (by decide) ?_
  refine lv_iconst (v := nI 0) hx hb dL_append_18 (by decide) ?_
  exact q_iret hx hb hr hlocks (w1 := List.flatten [wU C ou ((nI (y + 1)).toInt64), wF C x nw tr hq iq tt sc ba z b b2 ph r n t f v o (y + 1) (upN cd y cx)]) hP hS rfl dL_append_19 (⟨rfl, rfl⟩)
set_option maxHeartbeats 4000000 in
set_option maxRecDepth 100000 in
theorem W_read (l : Launch) (C : q_C) (x : Nat) (nw tr hq iq tt : Nat → Nat) (sc : Nat) (z : Nat → Int) (ba : Nat → Nat → Nat) (ph : Nat → Bd) (r n : Nat) (b : Bd) (t f v o : Nat → Nat) (y : Nat) (cd : Nat → Nat) (b2 : Bd) (ou : Nat) (x0 : Int64) (hr6 : r < 6) (hn6 : n ≤ 6) (hn60 : y ≤ 60) (hcd : ∀ k, k < y → cd k < 2 ^ 31) (hw : wholeN cd y = true) : q_ME C l yL_read wsL_read 5 111 [.ref x, .ref ou] (List.flatten [wU C ou x0, wF C x nw tr hq iq tt sc ba z b b2 ph r n t f v o y cd]) (fun r2 w => r2 = some (.int (nI 0)) ∧ w = List.flatten [wU C ou ((nI (mvN cd b y).1).toInt64), wF C x nw tr hq iq tt sc ba z ((mvN cd b y).2.2.2) b2 (upB ph (kJ n r) b) (kR n r) (kC n) t (upN (upN (upN (upN f 0 0) 1 0) 2 0) 3 0) v o 0 cd]) := by
  refine q_headW (cc := cL_read) (maxL := 3) (ret := (some .int)) (by decide +kernel) rfl (Nat.le_of_ble_eq_true rfl) ?_
  intro p e s m below meth c hx hb hr hlocks hml hown hts hK hV hE hP hD hS hA htab ls hl
  have hl : lv_has ls 3 [(0, .ref x), (1, .ref ou)] := hl
  refine lv_aload_n hx hb dL_read_0 rfl (lv_at hl 1 rfl) ?_
  refine lv_iconst (v := nI 0) hx hb dL_read_1 (by decide) ?_
  refine lv_aload_n hx hb dL_read_2 rfl (lv_at hl 0 rfl) ?_
  refine q_VBE (Bs := [wU C ou x0, wF C x nw tr hq iq tt sc ba z b b2 ph r n t f v o y cd]) (cs := [wF C x nw tr hq iq tt sc ba z b b2 ph r n t f v o y cd]) (As := []) (rest := [.int (nI 0), .ref ou]) ⟨hx, hb, hml, hown, hts⟩ (F_read l C x nw tr hq iq tt sc z ba ph r n b t f v o y cd b2 hr6 hn6 hn60 hcd hw).one (cwV 0 hts gL_read_X4_read rfl rfl rfl (by decide +kernel) ⟨Nat.le_of_ble_eq_true rfl, Nat.le_of_ble_eq_true rfl⟩) hK hV hE hP hD hS hA [1] (by decide) rfl 1 rfl rfl rfl rfl hl.1 rfl (Nat.le_of_ble_eq_true rfl) dL_read_3 (Nat.zero_le _) (Nat.zero_le _) (fun r w1 H locs hQ hF hS => ?_)
  obtain ⟨rfl, rfl⟩ := hQ
  obtain ⟨hP, hD⟩ := hF [wF C x nw tr hq iq tt sc ba z ((mvN cd b y).2.2.2) b2 (upB ph (kJ n r) b) (kR n r) (kC n) t (upN (upN (upN (upN f 0 0) 1 0) 2 0) 3 0) v o 0 cd] (flat_one _).symm rfl
  have hP : va_P C.1 vwCl (List.flatten [wU C ou x0, wF C x nw tr hq iq tt sc ba z ((mvN cd b y).2.2.2) b2 (upB ph (kJ n r) b) (kR n r) (kC n) t (upN (upN (upN (upN f 0 0) 1 0) 2 0) 3 0) v o 0 cd]) H := hP
  have hD : va_D (q_A (List.flatten [wU C ou x0, wF C x nw tr hq iq tt sc ba z b b2 ph r n t f v o y cd]) s) (List.flatten [wU C ou x0, wF C x nw tr hq iq tt sc ba z ((mvN cd b y).2.2.2) b2 (upB ph (kJ n r) b) (kR n r) (kC n) t (upN (upN (upN (upN f 0 0) 1 0) 2 0) 3 0) v o 0 cd]) := hD
  refine W.eq (g2 := F0 m 6 ls [.int (nI (mvN cd b y).1), .int (nI 0), .ref ou]) rfl ?_
  refine lv_i2l (v := (nI (mvN cd b y).1).toInt64) hx hb dL_read_6 rfl ?_
  refine q_last (n := 0) hx hb hK hP hD hS 0 rfl (by decide) (by decide) dL_read_7 (fun H locs hP hD hS => ?_)
  have hP := q_swpL (g := fun _ => (nI (mvN cd b y).1).toInt64) hP 0 rfl (fun k hk => by rw [show k = 0 by omega]; exact pk_uLs)
  have hD := hD.set (p := 0) (a := ou) (e := .inl (C.2.2.1, 1, .inr (.inl (fun _ => (nI (mvN cd b y).1).toInt64)))) rfl
  have hP : va_P C.1 vwCl (List.flatten [wU C ou ((nI (mvN cd b y).1).toInt64), wF C x nw tr hq iq tt sc ba z ((mvN cd b y).2.2.2) b2 (upB ph (kJ n r) b) (kR n r) (kC n) t (upN (upN (upN (upN f 0 0) 1 0) 2 0) 3 0) v o 0 cd]) H := hP
  have hD : va_D (q_A (List.flatten [wU C ou x0, wF C x nw tr hq iq tt sc ba z b b2 ph r n t f v o y cd]) s) (List.flatten [wU C ou ((nI (mvN cd b y).1).toInt64), wF C x nw tr hq iq tt sc ba z ((mvN cd b y).2.2.2) b2 (upB ph (kJ n r) b) (kR n r) (kC n) t (upN (upN (upN (upN f 0 0) 1 0) 2 0) 3 0) v o 0 cd]) := hD
  refine lv_goto (tgt := 14) hx hb dL_read_8 (by decide) ?_
  refine lv_iconst (v := nI 0) hx hb dL_read_14 (by decide) ?_
  exact q_iret hx hb hr hlocks (w1 := List.flatten [wU C ou ((nI (mvN cd b y).1).toInt64), wF C x nw tr hq iq tt sc ba z ((mvN cd b y).2.2.2) b2 (upB ph (kJ n r) b) (kR n r) (kC n) t (upN (upN (upN (upN f 0 0) 1 0) 2 0) 3 0) v o 0 cd]) hP hS rfl dL_read_15 (⟨rfl, rfl⟩)
set_option maxHeartbeats 4000000 in
set_option maxRecDepth 100000 in
theorem W_undo (l : Launch) (C : q_C) (x : Nat) (nw tr hq iq tt : Nat → Nat) (sc : Nat) (z : Nat → Int) (ba : Nat → Nat → Nat) (ph : Nat → Bd) (r n : Nat) (b : Bd) (t f v o : Nat → Nat) (b2 : Bd) (y : Nat) (cd : Nat → Nat) (ou : Nat) (x0 : Int64) (hr6 : r < 6) (hn6 : n ≤ 6) (hn0 : 0 < n) : q_ME C l yL_undo wsL_undo 4 103 [.ref x, .ref ou] (List.flatten [wU C ou x0, wF C x nw tr hq iq tt sc ba z b b2 ph r n t f v o y cd]) (fun r2 w => r2 = some (.int (nI 0)) ∧ w = List.flatten [wU C ou ((nI (n - 1)).toInt64), wF C x nw tr hq iq tt sc ba z (ph ((n - 1 + r) % 6)) b2 ph r (n - 1) t (upN (upN (upN (upN f 0 0) 1 0) 2 0) 3 0) v o y cd]) := by
  refine q_headW (cc := cL_undo) (maxL := 3) (ret := (some .int)) (by decide +kernel) rfl (Nat.le_of_ble_eq_true rfl) ?_
  intro p e s m below meth c hx hb hr hlocks hml hown hts hK hV hE hP hD hS hA htab ls hl
  have hl : lv_has ls 3 [(0, .ref x), (1, .ref ou)] := hl
  refine lv_aload_n hx hb dL_undo_0 rfl (lv_at hl 1 rfl) ?_
  refine lv_iconst (v := nI 0) hx hb dL_undo_1 (by decide) ?_
  refine lv_aload_n hx hb dL_undo_2 rfl (lv_at hl 0 rfl) ?_
  refine q_VBE (Bs := [wU C ou x0, wF C x nw tr hq iq tt sc ba z b b2 ph r n t f v o y cd]) (cs := [wF C x nw tr hq iq tt sc ba z b b2 ph r n t f v o y cd]) (As := []) (rest := [.int (nI 0), .ref ou]) ⟨hx, hb, hml, hown, hts⟩ (F_undo l C x nw tr hq iq tt sc z ba ph r n b t f v o b2 y cd hr6 hn6 hn0).one (cwV 0 hts gL_undo_X4_undo rfl rfl rfl (by decide +kernel) ⟨Nat.le_of_ble_eq_true rfl, Nat.le_of_ble_eq_true rfl⟩) hK hV hE hP hD hS hA [1] (by decide) rfl 1 rfl rfl rfl rfl hl.1 rfl (Nat.le_of_ble_eq_true rfl) dL_undo_3 (Nat.zero_le _) (Nat.zero_le _) (fun r w1 H locs hQ hF hS => ?_)
  obtain ⟨rfl, rfl⟩ := hQ
  obtain ⟨hP, hD⟩ := hF [wF C x nw tr hq iq tt sc ba z (ph ((n - 1 + r) % 6)) b2 ph r (n - 1) t (upN (upN (upN (upN f 0 0) 1 0) 2 0) 3 0) v o y cd] (flat_one _).symm rfl
  have hP : va_P C.1 vwCl (List.flatten [wU C ou x0, wF C x nw tr hq iq tt sc ba z (ph ((n - 1 + r) % 6)) b2 ph r (n - 1) t (upN (upN (upN (upN f 0 0) 1 0) 2 0) 3 0) v o y cd]) H := hP
  have hD : va_D (q_A (List.flatten [wU C ou x0, wF C x nw tr hq iq tt sc ba z b b2 ph r n t f v o y cd]) s) (List.flatten [wU C ou x0, wF C x nw tr hq iq tt sc ba z (ph ((n - 1 + r) % 6)) b2 ph r (n - 1) t (upN (upN (upN (upN f 0 0) 1 0) 2 0) 3 0) v o y cd]) := hD
  refine W.eq (g2 := F0 m 6 ls [.int (nI (n - 1)), .int (nI 0), .ref ou]) rfl ?_
  refine lv_i2l (v := (nI (n - 1)).toInt64) hx hb dL_undo_6 rfl ?_
  refine q_last (n := 0) hx hb hK hP hD hS 0 rfl (by decide) (by decide) dL_undo_7 (fun H locs hP hD hS => ?_)
  have hP := q_swpL (g := fun _ => (nI (n - 1)).toInt64) hP 0 rfl (fun k hk => by rw [show k = 0 by omega]; exact pk_uLs)
  have hD := hD.set (p := 0) (a := ou) (e := .inl (C.2.2.1, 1, .inr (.inl (fun _ => (nI (n - 1)).toInt64)))) rfl
  have hP : va_P C.1 vwCl (List.flatten [wU C ou ((nI (n - 1)).toInt64), wF C x nw tr hq iq tt sc ba z (ph ((n - 1 + r) % 6)) b2 ph r (n - 1) t (upN (upN (upN (upN f 0 0) 1 0) 2 0) 3 0) v o y cd]) H := hP
  have hD : va_D (q_A (List.flatten [wU C ou x0, wF C x nw tr hq iq tt sc ba z b b2 ph r n t f v o y cd]) s) (List.flatten [wU C ou ((nI (n - 1)).toInt64), wF C x nw tr hq iq tt sc ba z (ph ((n - 1 + r) % 6)) b2 ph r (n - 1) t (upN (upN (upN (upN f 0 0) 1 0) 2 0) 3 0) v o y cd]) := hD
  refine lv_goto (tgt := 14) hx hb dL_undo_8 (by decide) ?_
  refine lv_iconst (v := nI 0) hx hb dL_undo_14 (by decide) ?_
  exact q_iret hx hb hr hlocks (w1 := List.flatten [wU C ou ((nI (n - 1)).toInt64), wF C x nw tr hq iq tt sc ba z (ph ((n - 1 + r) % 6)) b2 ph r (n - 1) t (upN (upN (upN (upN f 0 0) 1 0) 2 0) 3 0) v o y cd]) hP hS rfl dL_undo_15 (⟨rfl, rfl⟩)
set_option maxHeartbeats 4000000 in
set_option maxRecDepth 100000 in
theorem W_stateOf (l : Launch) (C : q_C) (x : Nat) (nw tr hq iq tt : Nat → Nat) (sc : Nat) (z : Nat → Int) (b : Bd) (a t0 kx : Nat) (ba : Nat → Nat → Nat) (b2 : Bd) (r : Nat) (n : Nat) (ph : Nat → Bd) (t : Nat → Nat) (f : Nat → Nat) (v : Nat → Nat) (o : Nat → Nat) (y : Nat) (cd : Nat → Nat) (ou : Nat) (x0 : Int64) (hB : OkB b) (ha : a < 4) (ht : t0 < 4) (hk : kx < 5) : q_ME C l yL_stateOf wsL_stateOf 4 94 [.ref x, .int (nI a), .int (nI t0), .int (nI kx), .ref ou] (List.flatten [wU C ou x0, wF C x nw tr hq iq tt sc ba z b b2 ph r n t f v o y cd]) (fun r2 w => r2 = some (.int (nI 0)) ∧ w = List.flatten [wU C ou ((nI (osN b a t0 kx)).toInt64), wF C x nw tr hq iq tt sc ba z b b2 ph r n t f v o y cd]) := by
  refine q_headW (cc := cL_stateOf) (maxL := 6) (ret := (some .int)) (by decide +kernel) rfl (Nat.le_of_ble_eq_true rfl) ?_
  intro p e s m below meth c hx hb hr hlocks hml hown hts hK hV hE hP hD hS hA htab ls hl
  have hl : lv_has ls 6 [(0, .ref x), (1, .int (nI a)), (2, .int (nI t0)), (3, .int (nI kx)), (4, .ref ou)] := hl
  refine lv_aload hx hb dL_stateOf_0 (lv_at hl 4 rfl) ?_
  refine lv_iconst (v := nI 0) hx hb dL_stateOf_2 (by decide) ?_
  refine lv_aload_n hx hb dL_stateOf_3 rfl (lv_at hl 0 rfl) ?_
  refine lv_iload_n hx hb dL_stateOf_4 rfl (lv_at hl 1 rfl) ?_
  refine lv_iload_n hx hb dL_stateOf_5 rfl (lv_at hl 2 rfl) ?_
  refine lv_iload_n hx hb dL_stateOf_6 rfl (lv_at hl 3 rfl) ?_
  refine q_VBE (Bs := [wU C ou x0, wF C x nw tr hq iq tt sc ba z b b2 ph r n t f v o y cd]) (cs := [wF C x nw tr hq iq tt sc ba z b b2 ph r n t f v o y cd]) (As := [.int (nI a), .int (nI t0), .int (nI kx)]) (rest := [.int (nI 0), .ref ou]) ⟨hx, hb, hml, hown, hts⟩ (F_stateOf l C x nw tr hq iq tt sc z b a t0 kx ba b2 r n ph t f v o y cd hB ha ht hk).one (cwV 3 hts gL_stateOf_X4_stateOf rfl rfl rfl (by decide +kernel) ⟨Nat.le_of_ble_eq_true rfl, Nat.le_of_ble_eq_true rfl⟩) hK hV hE hP hD hS hA [1] (by decide) rfl 1 rfl rfl rfl rfl hl.1 rfl (Nat.le_of_ble_eq_true rfl) dL_stateOf_7 (Nat.zero_le _) (Nat.zero_le _) (fun r w1 H locs hQ hF hS => ?_)
  obtain ⟨rfl, rfl⟩ := hQ
  obtain ⟨hP, hD⟩ := hF [wF C x nw tr hq iq tt sc ba z b b2 ph r n t f v o y cd] (flat_one _).symm rfl
  have hP : va_P C.1 vwCl (List.flatten [wU C ou x0, wF C x nw tr hq iq tt sc ba z b b2 ph r n t f v o y cd]) H := hP
  have hD : va_D (q_A (List.flatten [wU C ou x0, wF C x nw tr hq iq tt sc ba z b b2 ph r n t f v o y cd]) s) (List.flatten [wU C ou x0, wF C x nw tr hq iq tt sc ba z b b2 ph r n t f v o y cd]) := hD
  refine W.eq (g2 := F0 m 10 ls [.int (nI (osN b a t0 kx)), .int (nI 0), .ref ou]) rfl ?_
  refine lv_i2l (v := (nI (osN b a t0 kx)).toInt64) hx hb dL_stateOf_10 rfl ?_
  refine q_last (n := 0) hx hb hK hP hD hS 0 rfl (by decide) (by decide) dL_stateOf_11 (fun H locs hP hD hS => ?_)
  have hP := q_swpL (g := fun _ => (nI (osN b a t0 kx)).toInt64) hP 0 rfl (fun k hk => by rw [show k = 0 by omega]; exact pk_uLs)
  have hD := hD.set (p := 0) (a := ou) (e := .inl (C.2.2.1, 1, .inr (.inl (fun _ => (nI (osN b a t0 kx)).toInt64)))) rfl
  have hP : va_P C.1 vwCl (List.flatten [wU C ou ((nI (osN b a t0 kx)).toInt64), wF C x nw tr hq iq tt sc ba z b b2 ph r n t f v o y cd]) H := hP
  have hD : va_D (q_A (List.flatten [wU C ou x0, wF C x nw tr hq iq tt sc ba z b b2 ph r n t f v o y cd]) s) (List.flatten [wU C ou ((nI (osN b a t0 kx)).toInt64), wF C x nw tr hq iq tt sc ba z b b2 ph r n t f v o y cd]) := hD
  refine lv_goto (tgt := 23) hx hb dL_stateOf_12 (by decide) ?_
  refine lv_iconst (v := nI 0) hx hb dL_stateOf_23 (by decide) ?_
  exact q_iret hx hb hr hlocks (w1 := List.flatten [wU C ou ((nI (osN b a t0 kx)).toInt64), wF C x nw tr hq iq tt sc ba z b b2 ph r n t f v o y cd]) hP hS rfl dL_stateOf_24 (⟨rfl, rfl⟩)
set_option maxHeartbeats 4000000 in
set_option maxRecDepth 100000 in
theorem W_index (l : Launch) (C : q_C) (x : Nat) (nw tr hq iq tt : Nat → Nat) (sc : Nat) (z : Nat → Int) (b : Bd) (t f v o : Nat → Nat) (a t0 : Nat) (ba : Nat → Nat → Nat) (b2 : Bd) (r : Nat) (n : Nat) (ph : Nat → Bd) (y : Nat) (cd : Nat → Nat) (ou : Nat) (x0 : Int64) (hB : OkB b) (ha : a < 4) (ht : t0 < 4) (hfr : frB b t f) : q_ME C l yL_index wsL_index 5 132 [.ref x, .int (nI a), .int (nI t0), .ref ou] (List.flatten [wU C ou x0, wF C x nw tr hq iq tt sc ba z b b2 ph r n t f v o y cd]) (fun r2 w => ∃ v1 o1, r2 = some (.int (nI 0)) ∧ w = List.flatten [wU C ou (lN (idxN b a t0)), wF C x nw tr hq iq tt sc ba z b b2 ph r n (idxT b) (fun _ => 1) v1 o1 y cd]) := by
  refine q_headW (cc := cL_index) (maxL := 5) (ret := (some .int)) (by decide +kernel) rfl (Nat.le_of_ble_eq_true rfl) ?_
  intro p e s m below meth c hx hb hr hlocks hml hown hts hK hV hE hP hD hS hA htab ls hl
  have hl : lv_has ls 5 [(0, .ref x), (1, .int (nI a)), (2, .int (nI t0)), (3, .ref ou)] := hl
  refine lv_aload_n hx hb dL_index_0 rfl (lv_at hl 3 rfl) ?_
  refine lv_iconst (v := nI 0) hx hb dL_index_1 (by decide) ?_
  refine lv_aload_n hx hb dL_index_2 rfl (lv_at hl 0 rfl) ?_
  refine lv_iload_n hx hb dL_index_3 rfl (lv_at hl 1 rfl) ?_
  refine lv_iload_n hx hb dL_index_4 rfl (lv_at hl 2 rfl) ?_
  refine q_VBE (Bs := [wU C ou x0, wF C x nw tr hq iq tt sc ba z b b2 ph r n t f v o y cd]) (cs := [wF C x nw tr hq iq tt sc ba z b b2 ph r n t f v o y cd]) (As := [.int (nI a), .int (nI t0)]) (rest := [.int (nI 0), .ref ou]) ⟨hx, hb, hml, hown, hts⟩ (F_index l C x nw tr hq iq tt sc z b t f v o a t0 ba b2 r n ph y cd hB ha ht hfr).one (cwV 2 hts gL_index_X4_index rfl rfl rfl (by decide +kernel) ⟨Nat.le_of_ble_eq_true rfl, Nat.le_of_ble_eq_true rfl⟩) hK hV hE hP hD hS hA [1] (by decide) rfl 1 rfl rfl rfl rfl hl.1 rfl (Nat.le_of_ble_eq_true rfl) dL_index_5 (Nat.zero_le _) (Nat.zero_le _) (fun r w1 H locs hQ hF hS => ?_)
  obtain ⟨v1, o1, rfl, rfl⟩ := hQ
  obtain ⟨hP, hD⟩ := hF [wF C x nw tr hq iq tt sc ba z b b2 ph r n (idxT b) (fun _ => 1) v1 o1 y cd] (flat_one _).symm rfl
  have hP : va_P C.1 vwCl (List.flatten [wU C ou x0, wF C x nw tr hq iq tt sc ba z b b2 ph r n (idxT b) (fun _ => 1) v1 o1 y cd]) H := hP
  have hD : va_D (q_A (List.flatten [wU C ou x0, wF C x nw tr hq iq tt sc ba z b b2 ph r n t f v o y cd]) s) (List.flatten [wU C ou x0, wF C x nw tr hq iq tt sc ba z b b2 ph r n (idxT b) (fun _ => 1) v1 o1 y cd]) := hD
  refine W.eq (g2 := F0 m 8 ls [.long (lN (idxN b a t0)), .int (nI 0), .ref ou]) rfl ?_
  refine q_last (n := 0) hx hb hK hP hD hS 0 rfl (by decide) (by decide) dL_index_8 (fun H locs hP hD hS => ?_)
  have hP := q_swpL (g := fun _ => lN (idxN b a t0)) hP 0 rfl (fun k hk => by rw [show k = 0 by omega]; exact pk_uLs)
  have hD := hD.set (p := 0) (a := ou) (e := .inl (C.2.2.1, 1, .inr (.inl (fun _ => lN (idxN b a t0))))) rfl
  have hP : va_P C.1 vwCl (List.flatten [wU C ou (lN (idxN b a t0)), wF C x nw tr hq iq tt sc ba z b b2 ph r n (idxT b) (fun _ => 1) v1 o1 y cd]) H := hP
  have hD : va_D (q_A (List.flatten [wU C ou x0, wF C x nw tr hq iq tt sc ba z b b2 ph r n t f v o y cd]) s) (List.flatten [wU C ou (lN (idxN b a t0)), wF C x nw tr hq iq tt sc ba z b b2 ph r n (idxT b) (fun _ => 1) v1 o1 y cd]) := hD
  refine lv_goto (tgt := 16) hx hb dL_index_9 (by decide) ?_
  refine lv_iconst (v := nI 0) hx hb dL_index_16 (by decide) ?_
  exact q_iret hx hb hr hlocks (w1 := List.flatten [wU C ou (lN (idxN b a t0)), wF C x nw tr hq iq tt sc ba z b b2 ph r n (idxT b) (fun _ => 1) v1 o1 y cd]) hP hS rfl dL_index_17 (⟨_, _, rfl, rfl⟩)
set_option maxHeartbeats 4000000 in
set_option maxRecDepth 100000 in
theorem W_arm (l : Launch) (C : q_C) (x : Nat) (nw tr hq iq tt : Nat → Nat) (sc : Nat) (z : Nat → Int) (b : Bd) (t f v o : Nat → Nat) (a kx : Nat) (ba : Nat → Nat → Nat) (b2 : Bd) (r : Nat) (n : Nat) (ph : Nat → Bd) (y : Nat) (cd : Nat → Nat) (ou : Nat) (x0 : Int64) (hB : OkB b) (ha : a < 4) (hk : kx < 4) (hfr : frB b t f) : q_ME C l yL_arm wsL_arm 5 133 [.ref x, .int (nI a), .int (nI kx), .ref ou] (List.flatten [wU C ou x0, wF C x nw tr hq iq tt sc ba z b b2 ph r n t f v o y cd]) (fun r2 w => ∃ t1 f1 v1 o1, r2 = some (.int (nI 0)) ∧ w = List.flatten [wU C ou ((nI (oaN b a kx)).toInt64), wF C x nw tr hq iq tt sc ba z b b2 ph r n t1 f1 v1 o1 y cd] ∧ frB b t1 f1) := by
  refine q_headW (cc := cL_arm) (maxL := 5) (ret := (some .int)) (by decide +kernel) rfl (Nat.le_of_ble_eq_true rfl) ?_
  intro p e s m below meth c hx hb hr hlocks hml hown hts hK hV hE hP hD hS hA htab ls hl
  have hl : lv_has ls 5 [(0, .ref x), (1, .int (nI a)), (2, .int (nI kx)), (3, .ref ou)] := hl
  refine lv_aload_n hx hb dL_arm_0 rfl (lv_at hl 3 rfl) ?_
  refine lv_iconst (v := nI 0) hx hb dL_arm_1 (by decide) ?_
  refine lv_aload_n hx hb dL_arm_2 rfl (lv_at hl 0 rfl) ?_
  refine lv_iload_n hx hb dL_arm_3 rfl (lv_at hl 1 rfl) ?_
  refine lv_iload_n hx hb dL_arm_4 rfl (lv_at hl 2 rfl) ?_
  refine q_VBE (Bs := [wU C ou x0, wF C x nw tr hq iq tt sc ba z b b2 ph r n t f v o y cd]) (cs := [wF C x nw tr hq iq tt sc ba z b b2 ph r n t f v o y cd]) (As := [.int (nI a), .int (nI kx)]) (rest := [.int (nI 0), .ref ou]) ⟨hx, hb, hml, hown, hts⟩ (F_arm l C x nw tr hq iq tt sc z b t f v o a kx ba b2 r n ph y cd hB ha hk hfr).one (cwV 2 hts gL_arm_X4_arm rfl rfl rfl (by decide +kernel) ⟨Nat.le_of_ble_eq_true rfl, Nat.le_of_ble_eq_true rfl⟩) hK hV hE hP hD hS hA [1] (by decide) rfl 1 rfl rfl rfl rfl hl.1 rfl (Nat.le_of_ble_eq_true rfl) dL_arm_5 (Nat.zero_le _) (Nat.zero_le _) (fun r w1 H locs hQ hF hS => ?_)
  obtain ⟨t1, f1, v1, o1, rfl, rfl, hr0⟩ := hQ
  obtain ⟨hP, hD⟩ := hF [wF C x nw tr hq iq tt sc ba z b b2 ph r n t1 f1 v1 o1 y cd] (flat_one _).symm rfl
  have hP : va_P C.1 vwCl (List.flatten [wU C ou x0, wF C x nw tr hq iq tt sc ba z b b2 ph r n t1 f1 v1 o1 y cd]) H := hP
  have hD : va_D (q_A (List.flatten [wU C ou x0, wF C x nw tr hq iq tt sc ba z b b2 ph r n t f v o y cd]) s) (List.flatten [wU C ou x0, wF C x nw tr hq iq tt sc ba z b b2 ph r n t1 f1 v1 o1 y cd]) := hD
  refine W.eq (g2 := F0 m 8 ls [.int (nI (oaN b a kx)), .int (nI 0), .ref ou]) rfl ?_
  refine lv_i2l (v := (nI (oaN b a kx)).toInt64) hx hb dL_arm_8 rfl ?_
  refine q_last (n := 0) hx hb hK hP hD hS 0 rfl (by decide) (by decide) dL_arm_9 (fun H locs hP hD hS => ?_)
  have hP := q_swpL (g := fun _ => (nI (oaN b a kx)).toInt64) hP 0 rfl (fun k hk => by rw [show k = 0 by omega]; exact pk_uLs)
  have hD := hD.set (p := 0) (a := ou) (e := .inl (C.2.2.1, 1, .inr (.inl (fun _ => (nI (oaN b a kx)).toInt64)))) rfl
  have hP : va_P C.1 vwCl (List.flatten [wU C ou ((nI (oaN b a kx)).toInt64), wF C x nw tr hq iq tt sc ba z b b2 ph r n t1 f1 v1 o1 y cd]) H := hP
  have hD : va_D (q_A (List.flatten [wU C ou x0, wF C x nw tr hq iq tt sc ba z b b2 ph r n t f v o y cd]) s) (List.flatten [wU C ou ((nI (oaN b a kx)).toInt64), wF C x nw tr hq iq tt sc ba z b b2 ph r n t1 f1 v1 o1 y cd]) := hD
  refine lv_goto (tgt := 21) hx hb dL_arm_10 (by decide) ?_
  refine lv_iconst (v := nI 0) hx hb dL_arm_21 (by decide) ?_
  exact q_iret hx hb hr hlocks (w1 := List.flatten [wU C ou ((nI (oaN b a kx)).toInt64), wF C x nw tr hq iq tt sc ba z b b2 ph r n t1 f1 v1 o1 y cd]) hP hS rfl dL_arm_22 (⟨_, _, _, _, rfl, rfl, hr0⟩)
