/-! THE CLAIM OUT OF ONE WALK OF THE LAW'S BODY. Your part is whole_start (and what it stands on); all else here is the same for every law, but numbers. -/
def R_law : String := "RestedArmsLaw"
def lw_P (b : Addr) (xs : List Int32) (args : Array Value) (s : State) : Prop := args = #[.ref b] ∧ s.IntsAt b xs ∧ xs.length ≤ 3072 ∧ (Jvm.Cond.and given_1 narrow_1).before args s = true
/-- what a walk over the start with the record d0 says of its end, said of the start itself -/
theorem lw_closed {s t : State} {o : Outcome} {d0 : Drawn} {L : List Loc} {k n : Nat} (hd0 : s.drawn.sameBut d0 lw_cs) (hv : ∃ v, o = .returned v) (hW : (s.setDrawn d0).WarmedH t.vm) (hs : (s.setDrawn d0).sameButNew ({ t with vm := s.vm } : State) L k n) : State.butDraws s t lw_cs (fun t1 => Framed s o t1 L k n) := by
  have h2 : t.drawn = d0 := congrArg State.drawn hs.1
  refine ⟨⟨hv, hW, State.sameButNew.setDrawn hs s.drawn⟩, ?_, by decide⟩
  rw [h2]
  exact hd0
def lw_Q (_ : Array Value) (s : State) (o : Outcome) (t : State) : Prop := o = .returned (some (.int 1)) ∧ State.butDraws s t lw_cs (fun t1 => Framed s o t1 [] 601024 7293034)
def lw_Z (below : List Frame) (a : Array Value) (s : State) : State → Prop := fun t => ∃ o, t.status = .running ∧ Ended t below o ∧ lw_Q a s o t
/-- the law's own end, with 1 on the stack, nothing written that was there before, its room as the claim has it; d0: the record of draws at this point (at the entry s.drawn: begin with 'refine W.base ?_' and 'have hd0 := Drawn.sameBut.refl s.drawn lw_cs') -/
theorem lw_ret {p : Program} {l : Launch} {e : Env} {s : State} {m : MethodId} {below : List Frame} {meth : Method} {c : Code} {b : Nat} {d0 : Drawn} (hd0 : s.drawn.sameBut d0 lw_cs) (hx : p.tables.exec = Jvm.exec) (hb : c.code = code) (hr : meth.sig.returnType = ret) (hlocks : meth.locks = false) {pc : Nat} {H : Heap} {ls : Array Slot} (hdg : decode code pc = .ok (.ireturn, 1)) : W p l e room_1 (s.setDrawn d0) m #[Value.ref b] below meth c H [] 601024 7293034 (lw_Z below #[Value.ref b] s) (F0 m pc ls [.int 1]) := by
  intro T hT X
  obtain ⟨fs, hret, hrun, hended, hW, hframe⟩ := X.leave (v := some (.int 1)) (hlocks := hlocks) (fun h => by rw [hr] at h; cases h)
  have hmeth' : T.vm.method? m = some meth := X.method'
  refine ⟨T.setFrames fs, ?_, .returned (some (.int 1)), hrun, hended, rfl, lw_closed hd0 ⟨_, rfl⟩ hW hframe⟩
  jvm_step X.here [X.here.top, hx, hb, hdg, hmeth', hr, ret, narrow_b1]
  (try refine ⟨rfl, ?_⟩); (try refine ⟨rfl, ?_⟩)
  first | (intro acts; rw [hret _ acts rfl rfl rfl]) | rw [hret _ _ rfl rfl rfl]
  exact Steps.refl _
/-- what holds at the law's entry: the machine, the code, the tables' words (any of lw_tbl by 'hts w (by decide +kernel)'), the script of L ints xs at the cell b, what the Statement gives of the start (any of its parts by flat_of_before) -/
def lw_At (p : Program) (s : State) (m : MethodId) (meth : Method) (c : Code) (b L : Nat) (xs : Nat → Int32) : Prop :=
  p.tables.exec = Jvm.exec ∧ c.code = code ∧ meth.sig.returnType = ret ∧ c.maxLocals = 9 ∧ s.vm.findClass R_law = some m.cls ∧ (∀ w ∈ lw_tbl, w.before #[Value.ref b] s = true) ∧ va_X b L xs s s.heap ∧ b < s.heap.size ∧ meth.locks = false ∧ (Jvm.Cond.and given_1 narrow_1).before #[Value.ref b] s = true
/-! the law's loop -/
section LawLoop
variable {p : Program} {l : Launch} {e : Env} {s : State} {m : MethodId} {below : List Frame} {meth : Method} {c : Code} {Q : State → Prop} {C : q_C} {sA L x ou sC j : Nat} {xs : Nat → Int32} {nw tr hq iq tt mo : Nat → Nat} {ba : Nat → Nat → Nat}
set_option maxHeartbeats 4000000 in
set_option maxRecDepth 100000 in
theorem lw_step (hc : lwC p l s m meth c C sA L xs) (hj : 6 * j + 6 ≤ L) (K : lwAt p l e s m below meth c Q C sA x ou sC nw tr hq iq tt ba mo j 1507 (j + 1)) : lwAt p l e s m below meth c Q C sA x ou sC nw tr hq iq tt ba mo j 33 j := by
  intro x0 z b b2 ph r n t f v o y cd tw pl fl tl v2 o2 gm pa td cells slots H locs ls okx hce hsl hP hD hS hl
  have hc0 := hc
  obtain ⟨hx, hb, hml, hown, hts, hK, hV, hE, hX, hsb, hL, hl0⟩ := hc0
  refine lv_aload_n hx hb dL_law_33 rfl (lv_at hl 1 rfl) ?_
  refine lv_iload hx hb dL_law_34 (lv_at hl 0 rfl) ?_
  refine va_sld hx hb hX hsb (Nat.not_le.mpr hsb) hS (vp_in_nI (by omega) (by omega)) dL_law_36 ?_
  rw [nI_clamp (by omega)]
  refine lv_bipush (v := nI 31) hx hb dL_law_37 (by decide) ?_
  refine lv_iand hx hb dL_law_39 ?_
  obtain ⟨k, hk, e0⟩ := sw32 (xs (6 * j))
  rw [e0]
  rcases (show k = 0 ∨ k = 1 ∨ k = 2 ∨ k = 3 ∨ k = 4 ∨ k = 5 ∨ k = 6 ∨ k = 7 ∨ k = 8 ∨ k = 9 ∨ k = 10 ∨ k = 11 ∨ k = 12 ∨ k = 13 ∨ k = 14 ∨ k = 15 ∨ k = 16 ∨ k = 17 ∨ k = 18 ∨ k = 19 ∨ k = 20 ∨ k = 21 ∨ k = 22 ∨ k = 23 ∨ k = 24 ∨ k = 25 ∨ k = 26 ∨ k = 27 ∨ k = 28 ∨ k = 29 ∨ k = 30 ∨ k = 31 by omega) with rfl | rfl | rfl | rfl | rfl | rfl | rfl | rfl | rfl | rfl | rfl | rfl | rfl | rfl | rfl | rfl | rfl | rfl | rfl | rfl | rfl | rfl | rfl | rfl | rfl | rfl | rfl | rfl | rfl | rfl | rfl | rfl
  · refine lv_tableIn (off := 112) (tgt := 152) hx hb dL_law_40 (by decide +kernel) (by decide +kernel) (by decide +kernel) (by decide) ?_
    exact lw_gift hc hj K _ _ _ _ _ _ _ _ _ _ _ _ _ _ _ _ _ _ _ _ _ _ _ _ _ _ _ okx hce hsl hP hD hS hl
  · refine lv_tableIn (off := 192) (tgt := 232) hx hb dL_law_40 (by decide +kernel) (by decide +kernel) (by decide +kernel) (by decide) ?_
    exact lw_way hc hj K _ _ _ _ _ _ _ _ _ _ _ _ _ _ _ _ _ _ _ _ _ _ _ _ _ _ _ okx hce hsl hP hD hS hl
  · refine lv_tableIn (off := 296) (tgt := 336) hx hb dL_law_40 (by decide +kernel) (by decide +kernel) (by decide +kernel) (by decide) ?_
    exact lw_put hc hj K _ _ _ _ _ _ _ _ _ _ _ _ _ _ _ _ _ _ _ _ _ _ _ _ _ _ _ okx hce hsl hP hD hS hl
  · refine lv_tableIn (off := 364) (tgt := 404) hx hb dL_law_40 (by decide +kernel) (by decide +kernel) (by decide +kernel) (by decide) ?_
    exact lw_set hc hj K _ _ _ _ _ _ _ _ _ _ _ _ _ _ _ _ _ _ _ _ _ _ _ _ _ _ _ okx hce hsl hP hD hS hl
  · refine lv_tableIn (off := 432) (tgt := 472) hx hb dL_law_40 (by decide +kernel) (by decide +kernel) (by decide +kernel) (by decide) ?_
    exact lw_pull hc hj K _ _ _ _ _ _ _ _ _ _ _ _ _ _ _ _ _ _ _ _ _ _ _ _ _ _ _ okx hce hsl hP hD hS hl
  · refine lv_tableIn (off := 488) (tgt := 528) hx hb dL_law_40 (by decide +kernel) (by decide +kernel) (by decide +kernel) (by decide) ?_
    exact lw_play hc hj K _ _ _ _ _ _ _ _ _ _ _ _ _ _ _ _ _ _ _ _ _ _ _ _ _ _ _ okx hce hsl hP hD hS hl
  · refine lv_tableIn (off := 556) (tgt := 596) hx hb dL_law_40 (by decide +kernel) (by decide +kernel) (by decide +kernel) (by decide) ?_
    exact lw_begin hc hj K _ _ _ _ _ _ _ _ _ _ _ _ _ _ _ _ _ _ _ _ _ _ _ _ _ _ _ okx hce hsl hP hD hS hl
  · refine lv_tableIn (off := 613) (tgt := 653) hx hb dL_law_40 (by decide +kernel) (by decide +kernel) (by decide +kernel) (by decide) ?_
    exact lw_append hc hj K _ _ _ _ _ _ _ _ _ _ _ _ _ _ _ _ _ _ _ _ _ _ _ _ _ _ _ okx hce hsl hP hD hS hl
  · refine lv_tableIn (off := 669) (tgt := 709) hx hb dL_law_40 (by decide +kernel) (by decide +kernel) (by decide +kernel) (by decide) ?_
    exact lw_clearBuffer hc hj K _ _ _ _ _ _ _ _ _ _ _ _ _ _ _ _ _ _ _ _ _ _ _ _ _ _ _ okx hce hsl hP hD hS hl
  · refine lv_tableIn (off := 682) (tgt := 722) hx hb dL_law_40 (by decide +kernel) (by decide +kernel) (by decide +kernel) (by decide) ?_
    exact lw_firstError hc hj K _ _ _ _ _ _ _ _ _ _ _ _ _ _ _ _ _ _ _ _ _ _ _ _ _ _ _ okx hce hsl hP hD hS hl
  · refine lv_tableIn (off := 695) (tgt := 735) hx hb dL_law_40 (by decide +kernel) (by decide +kernel) (by decide +kernel) (by decide) ?_
    exact lw_read hc hj K _ _ _ _ _ _ _ _ _ _ _ _ _ _ _ _ _ _ _ _ _ _ _ _ _ _ _ okx hce hsl hP hD hS hl
  · refine lv_tableIn (off := 739) (tgt := 779) hx hb dL_law_40 (by decide +kernel) (by decide +kernel) (by decide +kernel) (by decide) ?_
    exact lw_undo hc hj K _ _ _ _ _ _ _ _ _ _ _ _ _ _ _ _ _ _ _ _ _ _ _ _ _ _ _ okx hce hsl hP hD hS hl
  · refine lv_tableIn (off := 783) (tgt := 823) hx hb dL_law_40 (by decide +kernel) (by decide +kernel) (by decide +kernel) (by decide) ?_
    exact lw_stateOf hc hj K _ _ _ _ _ _ _ _ _ _ _ _ _ _ _ _ _ _ _ _ _ _ _ _ _ _ _ okx hce hsl hP hD hS hl
  · refine lv_tableIn (off := 863) (tgt := 903) hx hb dL_law_40 (by decide +kernel) (by decide +kernel) (by decide +kernel) (by decide) ?_
    exact lw_index hc hj K _ _ _ _ _ _ _ _ _ _ _ _ _ _ _ _ _ _ _ _ _ _ _ _ _ _ _ okx hce hsl hP hD hS hl
  · refine lv_tableIn (off := 930) (tgt := 970) hx hb dL_law_40 (by decide +kernel) (by decide +kernel) (by decide +kernel) (by decide) ?_
    exact lw_arm hc hj K _ _ _ _ _ _ _ _ _ _ _ _ _ _ _ _ _ _ _ _ _ _ _ _ _ _ _ okx hce hsl hP hD hS hl
  · refine lv_tableIn (off := 998) (tgt := 1038) hx hb dL_law_40 (by decide +kernel) (by decide +kernel) (by decide +kernel) (by decide) ?_
    exact lw_count hc hj K _ _ _ _ _ _ _ _ _ _ _ _ _ _ _ _ _ _ _ _ _ _ _ _ _ _ _ okx hce hsl hP hD hS hl
  · refine lv_tableIn (off := 1054) (tgt := 1094) hx hb dL_law_40 (by decide +kernel) (by decide +kernel) (by decide +kernel) (by decide) ?_
    exact lw_sum hc hj K _ _ _ _ _ _ _ _ _ _ _ _ _ _ _ _ _ _ _ _ _ _ _ _ _ _ _ okx hce hsl hP hD hS hl
  · refine lv_tableIn (off := 1109) (tgt := 1149) hx hb dL_law_40 (by decide +kernel) (by decide +kernel) (by decide +kernel) (by decide) ?_
    exact lw_setting hc hj K _ _ _ _ _ _ _ _ _ _ _ _ _ _ _ _ _ _ _ _ _ _ _ _ _ _ _ okx hce hsl hP hD hS hl
  · refine lv_tableIn (off := 1165) (tgt := 1205) hx hb dL_law_40 (by decide +kernel) (by decide +kernel) (by decide +kernel) (by decide) ?_
    exact lw_choice hc hj K _ _ _ _ _ _ _ _ _ _ _ _ _ _ _ _ _ _ _ _ _ _ _ _ _ _ _ okx hce hsl hP hD hS hl
  · refine lv_tableIn (off := 1221) (tgt := 1261) hx hb dL_law_40 (by decide +kernel) (by decide +kernel) (by decide +kernel) (by decide) ?_
    exact lw_ifPlayed hc hj K _ _ _ _ _ _ _ _ _ _ _ _ _ _ _ _ _ _ _ _ _ _ _ _ _ _ _ okx hce hsl hP hD hS hl
  · refine lv_tableIn (off := 1288) (tgt := 1328) hx hb dL_law_40 (by decide +kernel) (by decide +kernel) (by decide +kernel) (by decide) ?_
    exact lw_bestRule hc hj K _ _ _ _ _ _ _ _ _ _ _ _ _ _ _ _ _ _ _ _ _ _ _ _ _ _ _ okx hce hsl hP hD hS hl
  · refine lv_tableIn (off := 1344) (tgt := 1384) hx hb dL_law_40 (by decide +kernel) (by decide +kernel) (by decide +kernel) (by decide) ?_
    exact lw_giftFor hc hj K _ _ _ _ _ _ _ _ _ _ _ _ _ _ _ _ _ _ _ _ _ _ _ _ _ _ _ okx hce hsl hP hD hS hl
  · refine lv_tableIn (off := 1412) (tgt := 1452) hx hb dL_law_40 (by decide +kernel) (by decide +kernel) (by decide +kernel) (by decide) ?_
    exact lw_evenness hc hj K _ _ _ _ _ _ _ _ _ _ _ _ _ _ _ _ _ _ _ _ _ _ _ _ _ _ _ okx hce hsl hP hD hS hl
  · refine lv_tableIn (off := 1453) (tgt := 1493) hx hb dL_law_40 (by decide +kernel) (by decide +kernel) (by decide +kernel) (by decide) ?_
    exact lw_digest hc hj K _ _ _ _ _ _ _ _ _ _ _ _ _ _ _ _ _ _ _ _ _ _ _ _ _ _ _ okx hce hsl hP hD hS hl
  · refine lv_tableOut (tgt := 1507) hx hb dL_law_40 (Or.inr (by decide +kernel)) (by decide) ?_
    exact K _ _ _ _ _ _ _ _ _ _ _ _ _ _ _ _ _ _ _ _ _ _ _ _ _ _ _ okx (by omega) (by omega) hP hD hS hl
  · refine lv_tableOut (tgt := 1507) hx hb dL_law_40 (Or.inr (by decide +kernel)) (by decide) ?_
    exact K _ _ _ _ _ _ _ _ _ _ _ _ _ _ _ _ _ _ _ _ _ _ _ _ _ _ _ okx (by omega) (by omega) hP hD hS hl
  · refine lv_tableOut (tgt := 1507) hx hb dL_law_40 (Or.inr (by decide +kernel)) (by decide) ?_
    exact K _ _ _ _ _ _ _ _ _ _ _ _ _ _ _ _ _ _ _ _ _ _ _ _ _ _ _ okx (by omega) (by omega) hP hD hS hl
  · refine lv_tableOut (tgt := 1507) hx hb dL_law_40 (Or.inr (by decide +kernel)) (by decide) ?_
    exact K _ _ _ _ _ _ _ _ _ _ _ _ _ _ _ _ _ _ _ _ _ _ _ _ _ _ _ okx (by omega) (by omega) hP hD hS hl
  · refine lv_tableOut (tgt := 1507) hx hb dL_law_40 (Or.inr (by decide +kernel)) (by decide) ?_
    exact K _ _ _ _ _ _ _ _ _ _ _ _ _ _ _ _ _ _ _ _ _ _ _ _ _ _ _ okx (by omega) (by omega) hP hD hS hl
  · refine lv_tableOut (tgt := 1507) hx hb dL_law_40 (Or.inr (by decide +kernel)) (by decide) ?_
    exact K _ _ _ _ _ _ _ _ _ _ _ _ _ _ _ _ _ _ _ _ _ _ _ _ _ _ _ okx (by omega) (by omega) hP hD hS hl
  · refine lv_tableOut (tgt := 1507) hx hb dL_law_40 (Or.inr (by decide +kernel)) (by decide) ?_
    exact K _ _ _ _ _ _ _ _ _ _ _ _ _ _ _ _ _ _ _ _ _ _ _ _ _ _ _ okx (by omega) (by omega) hP hD hS hl
  · refine lv_tableOut (tgt := 1507) hx hb dL_law_40 (Or.inr (by decide +kernel)) (by decide) ?_
    exact K _ _ _ _ _ _ _ _ _ _ _ _ _ _ _ _ _ _ _ _ _ _ _ _ _ _ _ okx (by omega) (by omega) hP hD hS hl
set_option maxHeartbeats 4000000 in
set_option maxRecDepth 100000 in
theorem lw_head (hc : lwC p l s m meth c C sA L xs) (hr : meth.sig.returnType = ret) (hlocks : meth.locks = false) (hj : j ≤ 512) (K : 6 * j + 6 ≤ L → lwAt p l e s m below meth c (lw_Z below #[Value.ref sA] s) C sA x ou sC nw tr hq iq tt ba mo j 33 j) : lwAt p l e s m below meth c (lw_Z below #[Value.ref sA] s) C sA x ou sC nw tr hq iq tt ba mo j 23 j := by
  intro x0 z b b2 ph r n t f v o y cd tw pl fl tl v2 o2 gm pa td cells slots H locs ls okx hce hsl hP hD hS hl
  have hc0 := hc
  obtain ⟨hx, hb, hml, hown, hts, hK, hV, hE, hX, hsb, hL, hl0⟩ := hc0
  refine lv_iload hx hb dL_law_23 (lv_at hl 0 rfl) ?_
  refine lv_aload_n hx hb dL_law_25 rfl (lv_at hl 1 rfl) ?_
  refine va_slen hx hb hX hsb (Nat.not_le.mpr hsb) hS dL_law_26 ?_
  refine lv_bipush (v := nI 6) hx hb dL_law_27 (by decide) ?_
  refine lv_isub hx hb dL_law_29 ?_
  refine lv_icmp_gt (tgt := 1513) hx hb dL_law_30 (by decide) (fun _ => ?_) (fun q => ?_)
  · refine va_forget hS.2.2 ?_
    refine W.widen (k := 601024) (n := 7293034) (by omega) (by omega) ?_
    refine lv_iconst (v := 1) hx hb dL_law_1513 (by decide) ?_
    exact lw_ret (d0 := s.drawn) (Drawn.sameBut.refl s.drawn lw_cs) hx hb hr hlocks dL_law_1514
  · exact K (lwEnd (L := L) (a := 6 * j) hL (by omega) q) _ _ _ _ _ _ _ _ _ _ _ _ _ _ _ _ _ _ _ _ _ _ _ _ _ _ _ okx hce hsl hP hD hS hl
theorem lw_loop (hc : lwC p l s m meth c C sA L xs) (hr : meth.sig.returnType = ret) (hlocks : meth.locks = false) : ∀ k j : Nat, L ≤ 6 * (j + k) → j ≤ 512 → lwAt p l e s m below meth c (lw_Z below #[Value.ref sA] s) C sA x ou sC nw tr hq iq tt ba mo j 23 j := by
  have hL : L ≤ 3072 := hc.2.2.2.2.2.2.2.2.2.2.1
  intro k
  induction k with
  | zero => exact fun j h1 h2 => lw_head hc hr hlocks h2 (fun h => absurd h (by omega))
  | succ k ih => exact fun j h1 h2 => lw_head hc hr hlocks h2 (fun h => lw_step hc h (lw_back hc h (ih (j + 1) (by omega) (by omega))))
end LawLoop
/-! what stands at the start -/
theorem q_nest_in : ∀ w ∈ q_nest, w ∈ lw_tbl := by decide +kernel
theorem q_xw_in : ∀ w ∈ q_xw, w ∈ lw_tbl := by decide +kernel
theorem q_sx_in : ∀ x ∈ q_sx, Cond.stringRef RX4 x.1 x.2 ∈ lw_tbl := by decide +kernel
theorem q_sx_ex : ∀ x ∈ q_sx, Cond.exactly (.string RX4 x.1) "java/lang/String" ∈ flatC (Jvm.Cond.and given_1 narrow_1) := by decide +kernel
theorem q_nc_in : ∀ x ∈ q_nc, Cond.not (.castable x.1 x.2) ∈ flatC (Jvm.Cond.and given_1 narrow_1) := by decide +kernel
theorem okS_0 : okS bd0 := by
  unfold okS OkB
  decide +kernel
theorem flat_three (A B D : va_W) : [A, B, D].flatten = A ++ (B ++ D) := by rw [List.flatten_cons, List.flatten_cons, flat_one]
theorem q_row {args : Array Value} {s : State} {tm : Term} {N : Nat} {f : Nat → Int32} (hN : N < 2 ^ 31) (harr : (Cond.arrayOf tm .int).before args s = true) (hlen : (Term.length tm).eval args s none [] s = some (.int (Int32.ofNat N))) (hel : ∀ j : Nat, j < N → (Term.elem tm (.int (Int32.ofNat j))).eval args s none [] s = some (.int (f j))) : ∃ t : Nat, tm.eval args s none [] s = some (.ref t) ∧ va_X t N f s s.heap ∧ t < s.heap.size := by
  obtain ⟨t, ht, cell, h1, h2, h3, h4, h5, h6, -⟩ := va_Tof (f := fun j => .int (f j)) (A := fun _ => False) hN harr hlen hel (fun _ _ h => h)
  obtain ⟨t2, cell2, ht2, hat, hv⟩ := Term.length_spec hlen
  cases ht.symm.trans ht2
  obtain ⟨hcell, -, -, -⟩ := State.arrayAt?_spec hat
  cases h1.symm.trans hcell
  have hsz : cell.slots.size < 2 ^ 31 := by
    simp only [Term.eval, ht, hat, Option.bind_eq_bind, Option.bind_some] at hlen
    by_cases hlt : cell.slots.size < 2147483648
    · exact hlt
    · simp [hlt] at hlen
  exact ⟨t, ht, ⟨cell, h1, h2, h3, q_neq hsz hN h5, h6⟩, (Array.getElem?_eq_some_iff.mp h1).1⟩
theorem q_els {args : Array Value} {s : State} {tm : Term} {f : Nat → Int32} (h0 : (Cond.eq (.elem tm (.int 0)) (.int (f 0))).before args s = true) (h1 : (Cond.eq (.elem tm (.int 1)) (.int (f 1))).before args s = true) (h2 : (Cond.eq (.elem tm (.int 2)) (.int (f 2))).before args s = true) (h3 : (Cond.eq (.elem tm (.int 3)) (.int (f 3))).before args s = true) : ∀ j : Nat, j < 4 → (Term.elem tm (.int (Int32.ofNat j))).eval args s none [] s = some (.int (f j)) := by
  intro j hj
  rcases (show j = 0 ∨ j = 1 ∨ j = 2 ∨ j = 3 by omega) with rfl | rfl | rfl | rfl
  · exact va_eqt h0
  · exact va_eqt h1
  · exact va_eqt h2
  · exact va_eqt h3
theorem q_lays {s : State} {b : Nat} (hts : ∀ w ∈ lw_tbl, w.before #[Value.ref b] s = true) (hs : ∀ w ∈ flatC (Jvm.Cond.and given_1 narrow_1), w.before #[Value.ref b] s = true) : q_E (fun q => s.heap.size ≤ q) s s.heap := by
  have hA : ∀ a : Nat, a < s.heap.size → ¬ (fun q : Nat => s.heap.size ≤ q) a := fun a h => Nat.not_le.mpr h
  obtain ⟨a0, t0, x0, l0⟩ := q_row (tm := .static RX4 "LEAST_SETTING" "[I") (N := 4) (f := fun k => nI (leS k)) (by decide) (hs _ (by decide +kernel)) (va_eqt (hs (.eq (.length (.static RX4 "LEAST_SETTING" "[I")) (.int 4)) (by decide +kernel))) (q_els (hs _ (by decide +kernel)) (hs _ (by decide +kernel)) (hs _ (by decide +kernel)) (hs _ (by decide +kernel)))
  obtain ⟨a1, t1, x1, l1⟩ := q_row (tm := .static RX4 "GREATEST_SETTING" "[I") (N := 4) (f := fun k => nI (grS k)) (by decide) (hs _ (by decide +kernel)) (va_eqt (hs (.eq (.length (.static RX4 "GREATEST_SETTING" "[I")) (.int 4)) (by decide +kernel))) (q_els (hs _ (by decide +kernel)) (hs _ (by decide +kernel)) (hs _ (by decide +kernel)) (hs _ (by decide +kernel)))
  refine ⟨vx_Zqof (by first | exact hts _ (by decide +kernel) | exact hs _ (by decide +kernel)) (by first | exact hts _ (by decide +kernel) | exact hs _ (by decide +kernel)) (by first | exact hts _ (by decide +kernel) | exact hs _ (by decide +kernel)) hA, vx_Zqof (by first | exact hts _ (by decide +kernel) | exact hs _ (by decide +kernel)) (by first | exact hts _ (by decide +kernel) | exact hs _ (by decide +kernel)) (by first | exact hts _ (by decide +kernel) | exact hs _ (by decide +kernel)) hA, a0, a1, ⟨va_Zof (by first | exact hts _ (by decide +kernel) | exact hs _ (by decide +kernel)) (hts _ (by decide +kernel)) t0 hA, x0, l0, hA _ l0⟩, va_Zof (by first | exact hts _ (by decide +kernel) | exact hs _ (by decide +kernel)) (hts _ (by decide +kernel)) t1 hA, x1, l1, hA _ l1⟩
theorem q_words {s : State} {b : Nat} (hts : ∀ w ∈ lw_tbl, w.before #[Value.ref b] s = true) (hs : ∀ w ∈ flatC (Jvm.Cond.and given_1 narrow_1), w.before #[Value.ref b] s = true) : q_Wo s :=
  ⟨fun w hw => by
    have h := hts w (q_xw_in w hw)
    rcases q_xw_form w hw with ⟨a, b, rfl⟩ | ⟨x, rfl⟩
    · exact va_tabs (u := s) rfl rfl h
    · exact va_tabs (u := s) rfl rfl h, fun x hx => by
    obtain ⟨a, c, cell, k, h, -⟩ := Cond.exactly_spec (hs _ (q_sx_ex x hx))
    exact ⟨a, vk_R.of (hts _ (q_sx_in x hx)) h⟩, fun x hx => va_Nc.of (hs _ (q_nc_in x hx))⟩
theorem q_known {s : State} {b : Nat} (hts : ∀ w ∈ lw_tbl, w.before #[Value.ref b] s = true) : ∃ C : q_C, q_K C s := by
  obtain ⟨c0, i0, k0⟩ := u_known (C := RX0) (T := TX0) (N := 12) (n := 12) hts inX0 (hts (.instantiable RX0 12) (by decide +kernel))
  obtain ⟨c1, i1, k1⟩ := u_known (C := RX1) (T := TX1) (N := 2) (n := 2) hts inX1 (hts (.instantiable RX1 2) (by decide +kernel))
  obtain ⟨c2, i2, k2⟩ := u_known (C := RX2) (T := TX2) (N := 4) (n := 4) hts inX2 (hts (.instantiable RX2 4) (by decide +kernel))
  obtain ⟨c3, i3, k3⟩ := u_known (C := RX3) (T := TX3) (N := 2) (n := 2) hts inX3 (hts (.instantiable RX3 2) (by decide +kernel))
  obtain ⟨c4, i4, k4⟩ := u_known (C := RX4) (T := TX4) (N := 6) (n := 6) hts inX4 (hts (.instantiable RX4 6) (by decide +kernel))
  obtain ⟨c5, i5, k5⟩ := u_known (C := RX5) (T := TX5) (N := 13) (n := 13) hts inX5 (hts (.instantiable RX5 13) (by decide +kernel))
  obtain ⟨cI, kI, mI, f1, f2, f3⟩ := Cond.arrayClass_spec (hts (.arrayClass .int) (by decide +kernel))
  obtain ⟨cJ, kJ', mJ, g1, g2, g3⟩ := Cond.arrayClass_spec (hts (.arrayClass .long) (by decide +kernel))
  obtain ⟨cZ, kZ, mZ, h1, h2, h3⟩ := Cond.arrayClass_spec (hts (.arrayClass .boolean) (by decide +kernel))
  obtain ⟨mB', cB, kB, b1, b2, b3, b4, b5⟩ := Cond.arrayOver_spec (hts (.arrayOver (.object RX0)) (by decide +kernel))
  refine ⟨((fun k => [c0, c1, c2, c3, c4, c5].getD k c0, fun k => [i0, i1, i2, i3, i4, i5].getD k i0), cI, cJ, cZ, cB), ⟨⟨fun k q hq => ?_, fun k q hq => ?_⟩, fun w hw => va_tabs (u := s) (q_nest_on w hw) rfl (hts w (q_nest_in w hw))⟩⟩
  · match k, hq with
    | 0, hq => cases hq; exact k0
    | 1, hq => cases hq; exact k1
    | 2, hq => cases hq; exact k2
    | 3, hq => cases hq; exact k3
    | 4, hq => cases hq; exact k4
    | 5, hq => cases hq; exact k5
    | k + 6, hq => simp [vwCl] at hq
  · match k, hq with
    | 0, hq => cases hq; exact ⟨fun n z => ⟨fun k h => (by cases h), kI, f2, mI, f3⟩, f1⟩
    | 1, hq => cases hq; exact ⟨fun n z => ⟨fun k h => (by cases h), kJ', g2, mJ, g3⟩, g1⟩
    | 2, hq => cases hq; exact ⟨fun n z => ⟨fun k h => (by cases h), kZ, h2, mZ, h3⟩, h1⟩
    | 3, hq => cases hq; exact ⟨fun n z => ⟨fun k h => (by cases h), kB, b3, mB', b4⟩, kB, mB', b3, b4, b1, b5⟩
    | k + 4, hq => simp [q_tys] at hq
set_option maxHeartbeats 4000000 in
set_option maxRecDepth 100000 in
/-- from the entry, for every script of at most 3072 ints, the law comes to its end with true -/
theorem whole_start {p : Program} {e : Env} {s : State} {m : MethodId} {below : List Frame} {meth : Method} {c : Code} (l : Launch) (hflags : l.flags = flags0) {b L : Nat} {xs : Nat → Int32} (hL : L ≤ 3072) (C0 : lw_At p s m meth c b L xs) : W p l e room_1 s m #[Value.ref b] below meth c s.heap [] 0 0 (lw_Z below #[Value.ref b] s) (entryFrame m ([Value.ref b] : List Value).toArray 9) := by
  obtain ⟨hx, hb, hr, hml, hown, hts, hX, hbl, hlocks, hgv⟩ := id C0
  have hs := flat_of_before _ hgv
  have hl0 : l.stackTraces = false := by
    unfold Launch.stackTraces
    rw [hflags]
    decide +kernel
  obtain ⟨C, hK⟩ := q_known hts
  have hV := q_words hts hs
  have hE := q_lays hts hs
  have hO : va_AO RX0 s := va_AO.of (hts (.arrayOver (.object RX0)) (by decide +kernel))
  have htsL : ∀ w ∈ wsL_law, w.before #[Value.ref b] s = true := fun w h => hts w (wsL_law_in w h)
  have hown : s.vm.findClass RL = some m.cls := hown
  have hA : ∀ q : Nat, s.heap.size ≤ q → lwA s q := fun _ h => h
  have hS : va_S (lwA s) s.heap s.heap [] := va_S.rf
  have hP : va_P C.1 vwCl [] s.heap := fun k q h => by simp at h
  have hD : va_D (lwA s) [] := ⟨fun i j p q h => by simp at h, fun k q h => by simp at h⟩
  have hl := lv_entry ([.ref b]) (n := 9) (Nat.le_of_ble_eq_true rfl)
  rw [lg_entry_eq]
  generalize (lg_sl ([.ref b]) ++ List.replicate (9 - (lg_sl ([.ref b])).length) Slot.unset).toArray = ls at hl ⊢
  have hl : lv_has ls 9 [(0, .ref b)] := hl
  refine va_new (ci := 4) (fs := fsX4) (C := RX4) (T := TX4) (N := 6) hx hb hts inX4 tyX4 tyX4_ok hown (hts (.classLink RL 8 RX4) (by decide +kernel)) (hts (.instantiable RX4 6) (by decide +kernel)) (hts (.initialized RX4) (by decide +kernel)) hK.1 hP hD hS hA rfl fsX4_ok (Nat.le_of_ble_eq_true rfl) (Nat.le_of_ble_eq_true rfl) dL_law_0 (fun u1 H hP hD hS => ?_)
  refine lv_dup hx hb dL_law_3 rfl ?_
  refine q_I (X := []) (rest := [.ref u1]) ⟨hx, hb, hml, hown, htsL⟩ (n_X4 l C u1) (cwI 0 htsL gL_law_X4_init rfl rfl rfl (hts (.initialized RX4) (by decide +kernel)) (hts (.methodLink RL 79 yX4_init) (by decide +kernel)) (hts (.instanceMethod yX4_init) (by decide +kernel)) rfl (by decide +kernel) ⟨Nat.le_of_ble_eq_true rfl, Nat.le_of_ble_eq_true rfl⟩) hK hO hP hD hS hA hl.1 (Nat.le_of_ble_eq_true rfl) dL_law_4 (Nat.le_of_ble_eq_true rfl) (Nat.le_of_ble_eq_true rfl) (fun w1 H locs hQ hP hD hS => ?_)
  obtain ⟨nw, tr, hq, iq, tt, sC, ba, rfl⟩ := hQ
  have hP : va_P C.1 vwCl (wF C u1 nw tr hq iq tt sC ba (fun _ => 0) bd0 bd0 (fun _ => bd0) 0 0 zN zN zN zN 0 zN) H := hP
  have hD : va_D (lwA s) (wF C u1 nw tr hq iq tt sC ba (fun _ => 0) bd0 bd0 (fun _ => bd0) 0 0 zN zN zN zN 0 zN) := hD
  refine W.eq (g2 := F0 m 7 ls [.ref u1]) rfl ?_
  refine lv_astore_n (lv' := [(1, .ref u1), (0, .ref b)]) hx hb dL_law_7 rfl hl (by decide) rfl (fun ls hl => ?_)
  refine va_new (ci := 5) (fs := fsX5) (C := RX5) (T := TX5) (N := 13) hx hb hts inX5 tyX5 tyX5_ok hown (hts (.classLink RL 80 RX5) (by decide +kernel)) (hts (.instantiable RX5 13) (by decide +kernel)) (hts (.initialized RX5) (by decide +kernel)) hK.1 hP hD hS hA rfl fsX5_ok (Nat.le_of_ble_eq_true rfl) (Nat.le_of_ble_eq_true rfl) dL_law_8 (fun u2 H hP hD hS => ?_)
  refine lv_dup hx hb dL_law_11 rfl ?_
  refine q_I (X := wF C u1 nw tr hq iq tt sC ba (fun _ => 0) bd0 bd0 (fun _ => bd0) 0 0 zN zN zN zN 0 zN) (rest := [.ref u2]) ⟨hx, hb, hml, hown, htsL⟩ (n_X5 l C u2) (cwI 0 htsL gL_law_X5_init rfl rfl rfl (hts (.initialized RX5) (by decide +kernel)) (hts (.methodLink RL 82 yX5_init) (by decide +kernel)) (hts (.instanceMethod yX5_init) (by decide +kernel)) rfl (by decide +kernel) ⟨Nat.le_of_ble_eq_true rfl, Nat.le_of_ble_eq_true rfl⟩) hK hO hP hD hS hA hl.1 (Nat.le_of_ble_eq_true rfl) dL_law_12 (Nat.le_of_ble_eq_true rfl) (Nat.le_of_ble_eq_true rfl) (fun w1 H locs hQ hP hD hS => ?_)
  obtain ⟨mo, rfl, rfl⟩ := hQ
  refine W.eq (g2 := F0 m 15 ls [.ref (mo 0)]) rfl ?_
  refine lv_astore_n (lv' := [(2, .ref (mo 0)), (1, .ref u1), (0, .ref b)]) hx hb dL_law_15 rfl hl (by decide) rfl (fun ls hl => ?_)
  refine lv_iconst (v := nI 1) hx hb dL_law_16 (by decide) ?_
  refine q_newJ (N := 1) hx hb (hts (.arrayClass .long) (by decide +kernel)) hK hP hD hS hA (Nat.le_of_ble_eq_true rfl) (Nat.le_of_ble_eq_true rfl) (Nat.le_of_ble_eq_true rfl) dL_law_17 (fun ou H hP hD hS => ?_)
  have hP : va_P C.1 vwCl (List.flatten [wU C ou (lN 0), wF C u1 nw tr hq iq tt sC ba (fun _ => 0) bd0 bd0 (fun _ => bd0) 0 0 zN zN zN zN 0 zN, mF C mo (nI 0) (nI 0) (nI 0) (nI 0) (nI 0) (nI 0) zN zN bd0 (fun k => lN (zN k)) (fun k => lN (zN k)) zN (fun k => nI (zN k))]) H := by
    rw [flat_three]
    exact q_permP List.perm_append_comm hP
  have hD : va_D (lwA s) (List.flatten [wU C ou (lN 0), wF C u1 nw tr hq iq tt sC ba (fun _ => 0) bd0 bd0 (fun _ => bd0) 0 0 zN zN zN zN 0 zN, mF C mo (nI 0) (nI 0) (nI 0) (nI 0) (nI 0) (nI 0) zN zN bd0 (fun k => lN (zN k)) (fun k => lN (zN k)) zN (fun k => nI (zN k))]) := by
    rw [flat_three]
    exact q_permD List.perm_append_comm hD
  refine lv_astore_n (lv' := [(3, .ref ou), (2, .ref (mo 0)), (1, .ref u1), (0, .ref b)]) hx hb dL_law_19 rfl hl (by decide) rfl (fun ls hl => ?_)
  refine lv_iconst (v := nI 0) hx hb dL_law_20 (by decide) ?_
  refine lv_istore (lv' := [(4, .int (nI 0)), (3, .ref ou), (2, .ref (mo 0)), (1, .ref u1), (0, .ref b)]) hx hb dL_law_21 hl (by decide) rfl (fun ls hl => ?_)
  exact lw_loop ⟨hx, hb, hml, hown, htsL, hK, hV, hE, hX, hbl, hL, hl0⟩ hr hlocks 513 0 (by omega) (by omega) (lN 0) (fun _ => 0) bd0 bd0 (fun _ => bd0) 0 0 zN zN zN zN 0 zN (nI 0) (nI 0) (nI 0) (nI 0) zN zN (fun k => lN (zN k)) (fun k => lN (zN k)) (fun k => nI (zN k)) _ _ _ _ _ ⟨okS_0, ⟨by decide, by decide, fun j hj => absurd hj (Nat.not_lt_zero j)⟩, ⟨fun k hk h => absurd rfl h, fun k hk => Nat.zero_le 1⟩, Nat.zero_le 60, fun k hk => absurd hk (Nat.not_lt_zero k), fun j k hj => absurd hj (Nat.not_lt_zero j)⟩ (Nat.le_of_ble_eq_true rfl) (Nat.le_of_ble_eq_true rfl) hP hD hS (lv_sub hl [0, 4, 3, 2, 1] rfl)
