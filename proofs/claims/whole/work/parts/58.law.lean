/-! the law's own walk: what holds at the head of its loop -/
def lwC (p : Program) (l : Launch) (s : State) (m : MethodId) (meth : Method) (c : Code) (C : q_C) (sA L : Nat) (xs : Nat → Int32) : Prop :=
  p.tables.exec = Jvm.exec ∧ c.code = cL_law ∧ c.maxLocals = 9 ∧ s.vm.findClass RL = some m.cls ∧ (∀ w ∈ wsL_law, w.before #[Value.ref sA] s = true) ∧ q_K C s ∧ q_Wo s ∧ q_E (fun q => s.heap.size ≤ q) s s.heap ∧ va_X sA L xs s s.heap ∧ sA < s.heap.size ∧ L ≤ 3072 ∧ l.stackTraces = false
abbrev lwA (s : State) : Nat → Prop := fun q => s.heap.size ≤ q
/-- from any state of both sides that keeps the ranges, the law goes on from pc to its end -/
def lwAt (p : Program) (l : Launch) (e : Env) (s : State) (m : MethodId) (below : List Frame) (meth : Method) (c : Code) (Q : State → Prop) (C : q_C) (sA x ou sC : Nat) (nw tr hq iq tt : Nat → Nat) (ba : Nat → Nat → Nat) (mo : Nat → Nat) (j pc J : Nat) : Prop :=
  ∀ (x0 : Int64) (z : Nat → Int) (b b2 : Bd) (ph : Nat → Bd) (r n : Nat) (t f v o : Nat → Nat) (y : Nat) (cd : Nat → Nat) (tw pl fl tl : Int32) (v2 o2 : Nat → Nat) (gm pa : Nat → Int64) (td : Nat → Int32) (cells slots : Nat) (H : Heap) (locs : List Loc) (ls : Array Slot),
    okX b ph r n t f y cd pa → cells ≤ 100 + J → slots ≤ 2000 + 6 * J → va_P C.1 vwCl (List.flatten [wU C ou x0, wF C x nw tr hq iq tt sC ba z b b2 ph r n t f v o y cd, mF C mo (nI n) (nI y) tw pl fl tl v2 o2 b gm pa cd td]) H → va_D (lwA s) (List.flatten [wU C ou x0, wF C x nw tr hq iq tt sC ba z b b2 ph r n t f v o y cd, mF C mo (nI n) (nI y) tw pl fl tl v2 o2 b gm pa cd td]) → va_S (lwA s) s.heap H locs →
    lv_has ls 9 [(4, .int (nI (6 * j))), (0, .ref sA), (1, .ref x), (2, .ref (mo 0)), (3, .ref ou)] → W p l e room_1 s m #[Value.ref sA] below meth c H locs cells slots Q (F0 m pc ls [])
theorem lw_app {cd : Nat → Nat} {y a : Nat} (h : ∀ k, k < y → cd k < 2 ^ 31) (ha : a < 2 ^ 31) : ∀ k, k < y + 1 → upN cd y a k < 2 ^ 31 := by
  intro k hk
  by_cases e : k = y
  · subst e; rw [upN_s]; exact ha
  · rw [upN_n e]; exact h k (by omega)
theorem lw_cmp (x : Int64) : lg_cmp x x = 0 := (lg_cmp_eq x x).mpr rfl
section LawHead
variable {p : Program} {l : Launch} {e : Env} {s : State} {m : MethodId} {below : List Frame} {meth : Method} {c : Code} {Q : State → Prop} {C : q_C} {sA L x ou sC j : Nat} {xs : Nat → Int32} {nw tr hq iq tt mo : Nat → Nat} {ba : Nat → Nat → Nat}
variable {H : Heap} {locs : List Loc} {cells slots pc : Nat} {ls : Array Slot} {st : List Value} {lv : List (Nat × Value)}
theorem lw_c0 {J : Nat} (h : cells ≤ J) (hj : 6 * j + 6 ≤ L) (hL : L ≤ 3072) (hJ : J ≤ 100 + j + 1 := by omega) : cells ≤ room_1.cells := by show cells ≤ 601024; omega
theorem lw_c1 {J : Nat} (h : cells ≤ J) (hj : 6 * j + 6 ≤ L) (hL : L ≤ 3072) (hJ : J ≤ 100 + j + 1 := by omega) : cells + 1 ≤ room_1.cells := by show cells + 1 ≤ 601024; omega
theorem lw_s0 {J : Nat} (h : slots ≤ J) (hj : 6 * j + 6 ≤ L) (hL : L ≤ 3072) (hJ : J ≤ 2000 + 6 * j + 6 := by omega) : slots ≤ room_1.slots := by show slots ≤ 7293034; omega
theorem lw_s1 {J : Nat} (h : slots ≤ J) (hj : 6 * j + 6 ≤ L) (hL : L ≤ 3072) (hJ : J ≤ 2000 + 6 * j + 6 := by omega) : slots + 6 ≤ room_1.slots := by show slots + 6 ≤ 7293034; omega
/-- the law reads one of its ints -/
theorem lw_rd (hc : lwC p l s m meth c C sA L xs) (hj : 6 * j + 6 ≤ L) (k : Nat) (hk : k < 6) {ki : Int} {v : Int32} (hS : va_S (lwA s) s.heap H locs) (i0 i4 : Nat) (hl : lv_has ls 9 lv) (g0 : lv[i0]? = some (0, .ref sA)) (g4 : lv[i4]? = some (4, .int (nI (6 * j))))
    (d1 : decode cL_law pc = .ok (.aload_n 0, 1)) (d2 : decode cL_law (pc + 1) = .ok (.iload 4, 2)) (d3 : decode cL_law (pc + 3) = .ok (.iconst ki, 1)) (hki : Int32.ofInt ki = nI k) (d4 : decode cL_law (pc + 4) = .ok (.iadd, 1)) (d5 : decode cL_law (pc + 5) = .ok (.iaload, 1)) (e0 : xs (6 * j + k) = v)
    (kk : W p l e room_1 s m #[Value.ref sA] below meth c H locs cells slots Q (F0 m (pc + 6) ls (.int v :: st))) : W p l e room_1 s m #[Value.ref sA] below meth c H locs cells slots Q (F0 m pc ls st) := by
  obtain ⟨hx, hb, hml, hown, hts, hK, hV, hE, hX, hsb, hL, hl0⟩ := hc
  refine lv_aload_n hx hb d1 rfl (lv_at hl i0 g0) ?_
  refine lv_iload hx hb d2 (lv_at hl i4 g4) ?_
  refine lv_iconst (v := nI k) hx hb d3 hki ?_
  refine lv_iadd hx hb d4 ?_
  refine q_ti (y := nI (6 * j + k)) (nI_add _ _) ?_
  refine va_sld hx hb hX hsb (Nat.not_le.mpr hsb) hS (vp_in_nI (by omega) (by omega)) d5 ?_
  rw [nI_clamp (by omega), e0]
  exact kk
/-- the loop's last step -/
theorem lw_back (hc : lwC p l s m meth c C sA L xs) (hj : 6 * j + 6 ≤ L) (K : lwAt p l e s m below meth c Q C sA x ou sC nw tr hq iq tt ba mo (j + 1) 23 (j + 1)) : lwAt p l e s m below meth c Q C sA x ou sC nw tr hq iq tt ba mo j 1507 (j + 1) := by
  intro x0 z b b2 ph r n t f v o y cd tw pl fl tl v2 o2 gm pa td cells slots H locs ls okx hce hsl hP hD hS hl
  obtain ⟨hx, hb, hml, hown, hts, hK, hV, hE, hX, hsb, hL, hl0⟩ := hc
  refine lv_iinc (v := nI (6 * (j + 1))) (lv' := [(4, .int (nI (6 * (j + 1)))), (0, .ref sA), (1, .ref x), (2, .ref (mo 0)), (3, .ref ou)]) hx hb dL_law_1507 hl (k := 0) rfl (nI_add _ 6) (by decide) rfl (fun ls hl => ?_)
  refine lv_goto (tgt := 23) hx hb dL_law_1510 (by decide) ?_
  exact K _ _ _ _ _ _ _ _ _ _ _ _ _ _ _ _ _ _ _ _ _ _ _ _ _ _ _ okx hce hsl hP hD hS hl
variable {x0 : Int64} {z : Nat → Int} {b b2 : Bd} {ph : Nat → Bd} {r n : Nat} {t f v o : Nat → Nat} {y : Nat} {cd : Nat → Nat} {tw pl fl tl : Int32} {v2 o2 : Nat → Nat} {gm pa : Nat → Int64} {td : Nat → Int32}
/-- what the model tells of a throw -/
theorem lw_thr (hc : lwC p l s m meth c C sA L xs) (hj : 6 * j + 6 ≤ L) (hce : cells ≤ 100 + j + 1) (hsl : slots ≤ 2000 + 6 * j + 6) (hP : va_P C.1 vwCl (List.flatten [wU C ou x0, wF C x nw tr hq iq tt sC ba z b b2 ph r n t f v o y cd, mF C mo (nI n) (nI y) tw pl fl tl v2 o2 b gm pa cd td]) H) (hD : va_D (lwA s) (List.flatten [wU C ou x0, wF C x nw tr hq iq tt sC ba z b b2 ph r n t f v o y cd, mF C mo (nI n) (nI y) tw pl fl tl v2 o2 b gm pa cd td])) (hS : va_S (lwA s) s.heap H locs) (hl : lv_has ls 9 lv)
    (i2 : Nat) (g2 : lv[i2]? = some (2, .ref (mo 0))) (d1 : decode cL_law pc = .ok (.aload_n 2, 1)) (d2 : decode cL_law (pc + 1) = .ok (.invokevirtual 89, 3))
    (kk : ∀ (H : Heap) (locs : List Loc), va_P C.1 vwCl (List.flatten [wU C ou x0, wF C x nw tr hq iq tt sC ba z b b2 ph r n t f v o y cd, mF C mo (nI n) (nI y) tw pl fl tl v2 o2 b gm pa cd td]) H → va_D (lwA s) (List.flatten [wU C ou x0, wF C x nw tr hq iq tt sC ba z b b2 ph r n t f v o y cd, mF C mo (nI n) (nI y) tw pl fl tl v2 o2 b gm pa cd td]) → va_S (lwA s) s.heap H locs → W p l e room_1 s m #[Value.ref sA] below meth c H locs cells slots Q (F0 m (pc + 4) ls [.int tw])) : W p l e room_1 s m #[Value.ref sA] below meth c H locs cells slots Q (F0 m pc ls []) := by
  obtain ⟨hx, hb, hml, hown, hts, hK, hV, hE, hX, hsb, hL, hl0⟩ := hc
  refine lv_aload_n hx hb d1 rfl (lv_at hl i2 g2) ?_
  refine q_VBE (Bs := [wU C ou x0, wF C x nw tr hq iq tt sC ba z b b2 ph r n t f v o y cd, mF C mo (nI n) (nI y) tw pl fl tl v2 o2 b gm pa cd td]) (cs := [mF C mo (nI n) (nI y) tw pl fl tl v2 o2 b gm pa cd td]) (As := []) (rest := []) ⟨hx, hb, hml, hown, hts⟩ (M_thrown l C mo (nI n) (nI y) tw pl fl tl v2 o2 b gm pa cd td).one (cwV 0 hts gL_law_X5_thrown rfl rfl rfl (by decide +kernel) ⟨Nat.le_of_ble_eq_true rfl, Nat.le_of_ble_eq_true rfl⟩) hK hV hE hP hD hS (fun _ h => h) [2] (by decide) rfl 76 rfl rfl rfl rfl hl.1 rfl (Nat.le_of_ble_eq_true rfl) d2 (lw_c0 hce hj hL) (lw_s0 hsl hj hL) (fun r w1 H locs hQ hF hS => ?_)
  obtain ⟨rfl, rfl⟩ := hQ
  obtain ⟨hP, hD⟩ := hF [mF C mo (nI n) (nI y) tw pl fl tl v2 o2 b gm pa cd td] (flat_one _).symm rfl
  exact kk H locs hP hD hS
/-- both threw the same -/
theorem lw_tailT (hc : lwC p l s m meth c C sA L xs) (hj : 6 * j + 6 ≤ L) (K : lwAt p l e s m below meth c Q C sA x ou sC nw tr hq iq tt ba mo j 1507 (j + 1)) (N : Nat) (hN : N < 2 ^ 31) (hN0 : ¬ nI N = 0) (okx : okX b ph r n t f y cd pa) (hce : cells ≤ 100 + j + 1) (hsl : slots ≤ 2000 + 6 * j + 6)
    (hP : va_P C.1 vwCl (List.flatten [wU C ou x0, wF C x nw tr hq iq tt sC ba z b b2 ph r n t f v o y cd, mF C mo (nI n) (nI y) (nI N) pl fl tl v2 o2 b gm pa cd td]) H) (hD : va_D (lwA s) (List.flatten [wU C ou x0, wF C x nw tr hq iq tt sC ba z b b2 ph r n t f v o y cd, mF C mo (nI n) (nI y) (nI N) pl fl tl v2 o2 b gm pa cd td])) (hS : va_S (lwA s) s.heap H locs) (hl : lv_has ls 9 lv)
    (i2 : Nat) (g2 : lv[i2]? = some (2, .ref (mo 0))) (i5 : Nat) (g5 : lv[i5]? = some (5, .int (nI N))) (ks : List Nat) (gp : lv_pick lv ks = [(4, .int (nI (6 * j))), (0, .ref sA), (1, .ref x), (2, .ref (mo 0)), (3, .ref ou)]) (q : Nat) {o1 o2' : Int} (hq : ((pc + 13 : Nat) : Int) + o1 = ((pc + q : Nat) : Int))
    (d1 : decode cL_law pc = .ok (.aload_n 2, 1)) (d2 : decode cL_law (pc + 1) = .ok (.invokevirtual 89, 3)) (d3 : decode cL_law (pc + 4) = .ok (.iload 5, 2)) (d4 : decode cL_law (pc + 6) = .ok (.if_icmp .eq 5, 3)) (d5 : decode cL_law (pc + 11) = .ok (.iload 5, 2)) (d6 : decode cL_law (pc + 13) = .ok (.ifCond .ne o1, 3)) (d7 : decode cL_law (pc + q) = .ok (.goto o2', 3)) (ht : ((pc + q : Nat) : Int) + o2' = (1507 : Nat)) : W p l e room_1 s m #[Value.ref sA] below meth c H locs cells slots Q (F0 m pc ls []) := by
  refine lw_thr hc hj hce hsl hP hD hS hl i2 g2 d1 d2 (fun H locs hP hD hS => ?_)
  obtain ⟨hx, hb, hml, hown, hts, hK, hV, hE, hX, hsb, hL, hl0⟩ := hc
  refine lv_iload hx hb d3 (lv_at hl i5 g5) ?_
  refine lv_icmp_eq (tgt := pc + 11) hx hb d4 (by omega) (fun _ => ?_) (fun q => absurd rfl q)
  refine lv_iload hx hb d5 (lv_at hl i5 g5) ?_
  refine lv_if_ne (tgt := pc + q) hx hb d6 hq (fun _ => ?_) (fun q => absurd q hN0)
  refine lv_goto (tgt := 1507) hx hb d7 ht ?_
  exact K _ _ _ _ _ _ _ _ _ _ _ _ _ _ _ _ _ _ _ _ _ _ _ _ _ _ _ okx hce hsl hP hD hS (lv_sub hl ks gp)
/-- both answered the same int -/
theorem lw_tailI (hc : lwC p l s m meth c C sA L xs) (hj : 6 * j + 6 ≤ L) (K : lwAt p l e s m below meth c Q C sA x ou sC nw tr hq iq tt ba mo j 1507 (j + 1)) {w : Int32} (okx : okX b ph r n t f y cd pa) (hce : cells ≤ 100 + j + 1) (hsl : slots ≤ 2000 + 6 * j + 6)
    (hP : va_P C.1 vwCl (List.flatten [wU C ou w.toInt64, wF C x nw tr hq iq tt sC ba z b b2 ph r n t f v o y cd, mF C mo (nI n) (nI y) (nI 0) pl fl tl v2 o2 b gm pa cd td]) H) (hD : va_D (lwA s) (List.flatten [wU C ou w.toInt64, wF C x nw tr hq iq tt sC ba z b b2 ph r n t f v o y cd, mF C mo (nI n) (nI y) (nI 0) pl fl tl v2 o2 b gm pa cd td])) (hS : va_S (lwA s) s.heap H locs) (hl : lv_has ls 9 lv)
    (i2 : Nat) (g2 : lv[i2]? = some (2, .ref (mo 0))) (i5 : Nat) (g5 : lv[i5]? = some (5, .int (nI 0))) (i3 : Nat) (g3 : lv[i3]? = some (3, .ref ou)) (i6 : Nat) (g6 : lv[i6]? = some (6, .int w)) (ks : List Nat) (gp : lv_pick lv ks = [(4, .int (nI (6 * j))), (0, .ref sA), (1, .ref x), (2, .ref (mo 0)), (3, .ref ou)]) {o2' : Int}
    (d1 : decode cL_law pc = .ok (.aload_n 2, 1)) (d2 : decode cL_law (pc + 1) = .ok (.invokevirtual 89, 3)) (d3 : decode cL_law (pc + 4) = .ok (.iload 5, 2)) (d4 : decode cL_law (pc + 6) = .ok (.if_icmp .eq 5, 3)) (d5 : decode cL_law (pc + 11) = .ok (.iload 5, 2)) (d6 : decode cL_law (pc + 13) = .ok (.ifCond .ne 15, 3)) (d7 : decode cL_law (pc + 16) = .ok (.aload_n 3, 1)) (d8 : decode cL_law (pc + 17) = .ok (.iconst 0, 1)) (d9 : decode cL_law (pc + 18) = .ok (.laload, 1)) (d10 : decode cL_law (pc + 19) = .ok (.iload 6, 2)) (d11 : decode cL_law (pc + 21) = .ok (.i2l, 1)) (d12 : decode cL_law (pc + 22) = .ok (.lcmp, 1)) (d13 : decode cL_law (pc + 23) = .ok (.ifCond .eq 5, 3)) (d14 : decode cL_law (pc + 28) = .ok (.goto o2', 3)) (ht : ((pc + 28 : Nat) : Int) + o2' = (1507 : Nat)) : W p l e room_1 s m #[Value.ref sA] below meth c H locs cells slots Q (F0 m pc ls []) := by
  refine lw_thr hc hj hce hsl hP hD hS hl i2 g2 d1 d2 (fun H locs hP hD hS => ?_)
  obtain ⟨hx, hb, hml, hown, hts, hK, hV, hE, hX, hsb, hL, hl0⟩ := hc
  refine lv_iload hx hb d3 (lv_at hl i5 g5) ?_
  refine lv_icmp_eq (tgt := pc + 11) hx hb d4 (by omega) (fun _ => ?_) (fun q => absurd rfl q)
  refine lv_iload hx hb d5 (lv_at hl i5 g5) ?_
  refine lv_if_ne (tgt := pc + 28) hx hb d6 (by omega) (fun q => absurd rfl q) (fun _ => ?_)
  refine lv_aload_n hx hb d7 rfl (lv_at hl i3 g3) ?_
  refine lv_iconst (v := nI 0) hx hb d8 (by decide) ?_
  refine q_lald (n := 0) (v := w.toInt64) hx hb hK hP 0 rfl (by decide) (by decide) rfl d9 ?_
  refine lv_iload hx hb d10 (lv_at hl i6 g6) ?_
  refine lv_i2l (v := w.toInt64) hx hb d11 rfl ?_
  refine W.lcmp hx hb d12 ?_
  refine lv_if_eq (tgt := pc + 28) hx hb d13 (by omega) (fun _ => ?_) (fun q => absurd (lw_cmp _) q)
  refine lv_goto (tgt := 1507) hx hb d14 ht ?_
  exact K _ _ _ _ _ _ _ _ _ _ _ _ _ _ _ _ _ _ _ _ _ _ _ _ _ _ _ okx hce hsl hP hD hS (lv_sub hl ks gp)
/-- both answered the same long -/
theorem lw_tailL (hc : lwC p l s m meth c C sA L xs) (hj : 6 * j + 6 ≤ L) (K : lwAt p l e s m below meth c Q C sA x ou sC nw tr hq iq tt ba mo j 1507 (j + 1)) {w : Int64} (okx : okX b ph r n t f y cd pa) (hce : cells ≤ 100 + j + 1) (hsl : slots ≤ 2000 + 6 * j + 6)
    (hP : va_P C.1 vwCl (List.flatten [wU C ou w, wF C x nw tr hq iq tt sC ba z b b2 ph r n t f v o y cd, mF C mo (nI n) (nI y) (nI 0) pl fl tl v2 o2 b gm pa cd td]) H) (hD : va_D (lwA s) (List.flatten [wU C ou w, wF C x nw tr hq iq tt sC ba z b b2 ph r n t f v o y cd, mF C mo (nI n) (nI y) (nI 0) pl fl tl v2 o2 b gm pa cd td])) (hS : va_S (lwA s) s.heap H locs) (hl : lv_has ls 9 lv)
    (i2 : Nat) (g2 : lv[i2]? = some (2, .ref (mo 0))) (i5 : Nat) (g5 : lv[i5]? = some (5, .int (nI 0))) (i3 : Nat) (g3 : lv[i3]? = some (3, .ref ou)) (i6 : Nat) (g6 : lv[i6]? = some (6, .long w)) (ks : List Nat) (gp : lv_pick lv ks = [(4, .int (nI (6 * j))), (0, .ref sA), (1, .ref x), (2, .ref (mo 0)), (3, .ref ou)]) {o2' : Int}
    (d1 : decode cL_law pc = .ok (.aload_n 2, 1)) (d2 : decode cL_law (pc + 1) = .ok (.invokevirtual 89, 3)) (d3 : decode cL_law (pc + 4) = .ok (.iload 5, 2)) (d4 : decode cL_law (pc + 6) = .ok (.if_icmp .eq 5, 3)) (d5 : decode cL_law (pc + 11) = .ok (.iload 5, 2)) (d6 : decode cL_law (pc + 13) = .ok (.ifCond .ne 14, 3)) (d7 : decode cL_law (pc + 16) = .ok (.aload_n 3, 1)) (d8 : decode cL_law (pc + 17) = .ok (.iconst 0, 1)) (d9 : decode cL_law (pc + 18) = .ok (.laload, 1)) (d10 : decode cL_law (pc + 19) = .ok (.lload 6, 2)) (d12 : decode cL_law (pc + 21) = .ok (.lcmp, 1)) (d13 : decode cL_law (pc + 22) = .ok (.ifCond .eq 5, 3)) (d14 : decode cL_law (pc + 27) = .ok (.goto o2', 3)) (ht : ((pc + 27 : Nat) : Int) + o2' = (1507 : Nat)) : W p l e room_1 s m #[Value.ref sA] below meth c H locs cells slots Q (F0 m pc ls []) := by
  refine lw_thr hc hj hce hsl hP hD hS hl i2 g2 d1 d2 (fun H locs hP hD hS => ?_)
  obtain ⟨hx, hb, hml, hown, hts, hK, hV, hE, hX, hsb, hL, hl0⟩ := hc
  refine lv_iload hx hb d3 (lv_at hl i5 g5) ?_
  refine lv_icmp_eq (tgt := pc + 11) hx hb d4 (by omega) (fun _ => ?_) (fun q => absurd rfl q)
  refine lv_iload hx hb d5 (lv_at hl i5 g5) ?_
  refine lv_if_ne (tgt := pc + 27) hx hb d6 (by omega) (fun q => absurd rfl q) (fun _ => ?_)
  refine lv_aload_n hx hb d7 rfl (lv_at hl i3 g3) ?_
  refine lv_iconst (v := nI 0) hx hb d8 (by decide) ?_
  refine q_lald (n := 0) (v := w) hx hb hK hP 0 rfl (by decide) (by decide) rfl d9 ?_
  refine lv_lload hx hb d10 (lv_at hl i6 g6) ?_
  refine W.lcmp hx hb d12 ?_
  refine lv_if_eq (tgt := pc + 27) hx hb d13 (by omega) (fun _ => ?_) (fun q => absurd (lw_cmp _) q)
  refine lv_goto (tgt := 1507) hx hb d14 ht ?_
  exact K _ _ _ _ _ _ _ _ _ _ _ _ _ _ _ _ _ _ _ _ _ _ _ _ _ _ _ okx hce hsl hP hD hS (lv_sub hl ks gp)
end LawHead
