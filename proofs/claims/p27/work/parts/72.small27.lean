/-! the law's small methods: low, cell, undo -/
def lowN (v : Int32) (n : Nat) : Nat := (v &&& nI 2147483647).toBitVec.toNat % n
theorem lowN_lt (v : Int32) {n : Nat} (h : 0 < n) : lowN v n < n := Nat.mod_lt _ h
theorem and31 (v : Int32) : (v &&& nI 2147483647).toBitVec.toNat < 2 ^ 31 ∧ v &&& nI 2147483647 = nI (v &&& nI 2147483647).toBitVec.toNat := by
  have h : (v &&& nI 2147483647).toBitVec = v.toBitVec &&& (BitVec.ofNat 32 2147483647) := rfl
  refine ⟨?_, ?_⟩
  · rw [h, BitVec.toNat_and]
    exact Nat.lt_of_le_of_lt Nat.and_le_right (by decide)
  · apply Int32.toBitVec_inj.mp
    show (v &&& nI 2147483647).toBitVec = BitVec.ofNat 32 _
    rw [BitVec.ofNat_toNat, BitVec.setWidth_eq]
theorem remN {j n : Nat} (hj : j < 2 ^ 31) (h0 : 0 < n) (hn : n < 2 ^ 31) : nI j - nI j / nI n * nI n = nI (j % n) := by
  rw [pk_div hj h0 hn, pk_mul, pk_sub (Nat.div_mul_le_self j n)]
  congr 1
  have := Nat.div_add_mod j n
  rw [Nat.mul_comm] at this
  omega
set_option maxHeartbeats 4000000 in
theorem c_L_low (l : Launch) (C : q_C) (v : Int32) (n : Nat) (h0 : 0 < n) (hn : n < 2 ^ 31) : q_M C l yL_low wsL_low 0 0 [.int v, .int (nI n)] (([] : va_W)) (fun r w => r = some (.int (nI (lowN v n))) ∧ w = []) := by
  refine q_head (cc := cL_low) (maxL := 2) (ret := (some .int)) (by decide +kernel) rfl (Nat.le_of_ble_eq_true rfl) ?_
  intro p e s m below meth c hx hb hr hlocks hml hown hts hK hP hD hS hA ls hl
  have hl : lv_has ls 2 [(0, .int v), (1, .int (nI n))] := hl
  have hk7 := hts (.constant RL 7 (2147483647)) (by decide +kernel)
  refine lv_iload_n hx hb dL_low_0 rfl (lv_at hl 0 rfl) ?_
  refine lv_ldc hx hb hown hk7 dL_low_1 ?_
  refine q_ti (y := nI 2147483647) (by decide) ?_
  refine lv_iand hx hb dL_low_3 ?_
  refine q_ti (y := nI (v &&& nI 2147483647).toBitVec.toNat) (and31 v).2 ?_
  refine lv_iload_n hx hb dL_low_4 rfl (lv_at hl 1 rfl) ?_
  refine lv_irem hx hb dL_low_5 (fun q => absurd (q_nne0' hn (by decide) q) (by omega)) ?_
  refine q_ti (y := nI (lowN v n)) (remN (and31 v).1 h0 hn) ?_
  exact q_iret hx hb hr hlocks (w1 := []) hP hS rfl dL_low_6 ⟨rfl, rfl⟩
set_option maxHeartbeats 4000000 in
set_option maxRecDepth 100000 in
theorem c_L_cell (l : Launch) (C : q_C) (a0 N k : Nat) (f : Nat → Int32) (hk : k < N) (hN : N < 2 ^ 31) (sz : Nat) : Met l yL_cell wsL_cell (q_R 0 0) (q_PcX C [.ref a0, .int (nI k)] a0 N f sz) (q_Qc C [] sz (fun r w => r = some (.int (f k)) ∧ w = [])) 0 0 (va_A [] sz) := by
  refine va_MetF (cc := cL_cell) (maxL := 2) (ret := (some .int)) (by decide +kernel) rfl ?_
  intro p e s m args below meth c s₁ B hml hv
  obtain ⟨rfl, hsz, hK, hX, hbl⟩ := hv
  subst hsz
  rw [lg_entry_eq]
  have hx := B.exec
  have hb := B.bytes
  have hr := B.returns
  have hlocks := B.notSynchronized
  have hS : va_S (q_A [] s) s.heap s.heap [] := va_S.rf
  have hP : va_P C.1 vwCl [] s.heap := fun k q h => by simp at h
  have hbA : ¬ q_A [] s a0 := by
    rintro (⟨k, e, h⟩ | h)
    · simp at h
    · exact absurd hbl (Nat.not_lt.mpr h)
  have hl := lv_entry [.ref a0, .int (nI k)] (n := 2) (Nat.le_of_ble_eq_true rfl)
  show W p l e (q_R 0 0) s m _ below meth c s.heap [] 0 0 (q_G C below [] (fun r w => r = some (.int (f k)) ∧ w = []) _ s) _
  generalize (lg_sl ([.ref a0, .int (nI k)]) ++ List.replicate (2 - (lg_sl ([.ref a0, .int (nI k)])).length) Slot.unset).toArray = ls at hl ⊢
  have hl : lv_has ls 2 [(0, .ref a0), (1, .int (nI k))] := hl
  refine lv_iload_n hx hb dL_cell_0 rfl (lv_at hl 1 rfl) ?_
  refine lv_aload_n hx hb dL_cell_1 rfl (lv_at hl 0 rfl) ?_
  refine va_slen hx hb hX hbl hbA hS dL_cell_2 ?_
  refine lv_icmp_ge (tgt := 12) hx hb dL_cell_3 (by decide) (fun c7 => ?_) (fun c7 => ?_)
  · have c7 : N ≤ k := q_nge (by omega) (by omega) c7
    exact absurd c7 (by omega)
  refine lv_aload_n hx hb dL_cell_6 rfl (lv_at hl 0 rfl) ?_
  refine lv_iload_n hx hb dL_cell_7 rfl (lv_at hl 1 rfl) ?_
  refine va_sld hx hb hX hbl hbA hS (vp_in_nI hk hN) dL_cell_8 ?_
  refine q_ti (y := f k) (by rw [nI_clamp (by omega)]) ?_
  refine lv_goto (tgt := 20) hx hb dL_cell_9 (by decide) ?_
  exact q_iret hx hb hr hlocks (w1 := []) hP hS rfl dL_cell_20 ⟨rfl, rfl⟩
section CellRow
variable {p : Program} {l : Launch} {e : Env} {R : Room} {s : State} {m : MethodId} {args : Array Value} {below : List Frame} {meth : Method} {c : Code} {H : Heap} {locs : List Loc} {cells slots : Nat} {Q : State → Prop}
variable {cc bytes : ByteArray} {pc : Nat} {ls : Array Slot} {rest st0 : List Value} {C : q_C} {X : va_W} {A0 : Nat → Prop} {H0 : Heap} {nL maxL index n : Nat} {Ts wM : List Cond} {own : String} {ret : Option FieldType}
theorem lk_cell {a0 N k : Nat} {f : Nat → Int32} (S : CallFix p m c cc nL s args Ts own) (hk : k < N) (hN : N < 2 ^ 31) (cw : CallB R s args own index yL_cell bytes maxL ret wsL_cell (q_R 0 0) 0 0 n ∧ (Cond.static yL_cell).before args s = true) (hK : q_K C s) (hX : va_X a0 N f s H0) (hbl : a0 < H0.size) (hnA : ¬ A0 a0) (hP : va_P C.1 vwCl X H) (hD : va_D A0 X) (hS : va_S A0 H0 H locs) (hA : ∀ q, H0.size ≤ q → A0 q)
    (hn : 2 = n) (hsize : ls.size = nL) (hstack : st0 = .int (nI k) :: .ref a0 :: rest) (hW : (rest.map fun v => v.category).sum ≤ 8) (hdg : decode cc pc = .ok (.invokestatic index, 3)) (hce : cells ≤ R.cells) (hsl : slots ≤ R.slots)
    (kk : ∀ (H1 : Heap) (locs1 : List Loc), va_P C.1 vwCl X H1 → va_S A0 H0 H1 locs1 → W p l e R s m args below meth c H1 locs1 cells slots Q (F0 m (pc + 3) ls (.int (f k) :: rest))) : W p l e R s m args below meth c H locs cells slots Q (F0 m pc ls st0) := by
  have hX1 : va_X a0 N f s H := hX.kept (hS.2.1 _ hbl hnA)
  have hbl1 : a0 < H.size := Nat.lt_of_lt_of_le hbl hS.1
  refine q_call (X := X) (wc := []) (va_runS (rest := rest) (As := [.ref a0, .int (nI k)]) S (c_L_cell l C a0 N k f hk hN H.size) cw ⟨q_blindX, fun U hU hW2 => ⟨rfl, by rw [hU], hK.warm hW2, by rw [hU]; exact va_X.moved hW2.alike hX1, hbl1⟩⟩ rfl hn hsize hstack (lv_room hW) hdg ⟨hce, hsl⟩) hP hD hS hA [] rfl (fun r w1 H1 locs1 hQ hP1 _ hS1 => ?_)
  obtain ⟨rfl, rfl⟩ := hQ
  exact kk H1 locs1 hP1 hS1
end CellRow
set_option maxHeartbeats 4000000 in
set_option maxRecDepth 100000 in
theorem k_L_undo (l : Launch) (C : q_C) (G : ad_G) (b : Bd) (ph : Nat → Bd) (r n : Nat) (hr6 : r < 6) (hn6 : n ≤ 6) (hn0 : 0 < n) : lkC C l G b ph r n yL_undo wsL_undo 4 103 [] (.int (nI (n - 1))) (ph ((n - 1 + r) % 6)) ph r (n - 1) := by
  intro X0 hX0
  refine q_headW (cc := cL_undo) (maxL := 2) (ret := (some .int)) (by decide +kernel) rfl (Nat.le_of_ble_eq_true rfl) ?_
  intro p e s m below meth c hx hb hr hlocks hml hown hts hK hV hE hP hD hS hA htab ls hl
  have hl : lv_has ls 2 [(0, .ref G.1)] := hl
  have hX := hX0
  refine lv_aload_n hx hb dL_undo_0 rfl (lv_at hl 0 rfl) ?_
  refine lk_V (As := []) (rest := []) ⟨hx, hb, hml, hown, hts⟩ (k_undo l C G b ph r n hr6 hn6 hn0) (cwV 0 hts gL_undo_X4_undo rfl rfl rfl (by decide +kernel) ⟨Nat.le_of_ble_eq_true rfl, Nat.le_of_ble_eq_true rfl⟩) hK hV hE hX hP hD hS hA rfl hl.1 rfl (Nat.le_of_ble_eq_true rfl) dL_undo_1 (Nat.zero_le _) (Nat.zero_le _) (fun X H locs hX hP hD hS => ?_)
  refine W.eq (g2 := F0 m 4 ls [.int (nI (n - 1))]) rfl ?_
  exact q_iret hx hb hr hlocks (w1 := X) hP hS (LW.fst hX0 hX) dL_undo_4 ⟨rfl, hX⟩
set_option maxHeartbeats 4000000 in
set_option maxRecDepth 100000 in
theorem k_L_undo0 (l : Launch) (hl0 : l.stackTraces = false) (C : q_C) (G : ad_G) (b : Bd) (ph : Nat → Bd) (r : Nat) : ∀ X : va_W, LW C G b ph r 0 X → q_M1 C l yL_undo wsL_undo 7 102 [.ref G.1] X (fun q w => q = some (.int (-3)) ∧ LW C G b ph r 0 w) := by
  intro X0 hX0
  obtain ⟨z, b2, t, f, v, o, rfl, hfr⟩ := id hX0
  refine q_headW1 (cc := cL_undo) (maxL := 2) (ret := (some .int)) (by decide +kernel) rfl (Nat.le_of_ble_eq_true rfl) ?_
  intro p e s m below meth c hx hb hr hlocks hml hown hts hK hV hE hP hD hS hA htab ls hl
  have hl : lv_has ls 2 [(0, .ref G.1)] := hl
  refine lv_aload_n hx hb dL_undo_0 rfl (lv_at hl 0 rfl) ?_
  refine q_TV (X := wF C G.1 G.2.1 G.2.2.1 G.2.2.2.1 G.2.2.2.2.1 G.2.2.2.2.2.1 G.2.2.2.2.2.2.1 G.2.2.2.2.2.2.2.1 z b b2 ph r 0 t f v o G.2.2.2.2.2.2.2.2.1 G.2.2.2.2.2.2.2.2.2) (As := []) (rest := []) ⟨hx, hb, hml, hown, hts⟩ (t1_X4_undo l hl0 C G.1 G.2.1 G.2.2.1 G.2.2.2.1 G.2.2.2.2.1 G.2.2.2.2.2.1 G.2.2.2.2.2.2.1 z G.2.2.2.2.2.2.2.1 r) (cwV 0 hts gL_undo_X4_undo rfl rfl rfl (by decide +kernel) ⟨Nat.le_of_ble_eq_true rfl, Nat.le_of_ble_eq_true rfl⟩) hK hV hE hP hD hS hA [0, 1, 18, 19] (by decide) rfl 0 rfl rfl rfl rfl hl.1 rfl (Nat.le_of_ble_eq_true rfl) dL_undo_1 (Nat.le_of_ble_eq_true rfl) (Nat.le_of_ble_eq_true rfl) (fun ce q9 H locs hP hS hce hcv hcl => ?_)
  refine vx_catch (name := "java/lang/IllegalStateException") hown [] (⟨0, 4, 5, 15⟩ : ExceptionTableEntry) [] (htab.trans rfl) (fun z hz => nomatch hz) (by decide) (by decide) (hts (.classLink RL 15 "java/lang/IllegalStateException") (by decide +kernel)) (q_xw_b hV _ (List.mem_of_getElem? (i := 1) rfl)) hce hcv hcl ?_
  refine lv_astore_n (lv' := [(1, .ref q9), (0, .ref G.1)]) hx hb dL_undo_5 rfl hl (by decide) rfl (fun ls hl => ?_)
  refine lv_bipush (v := (-3)) hx hb dL_undo_6 (by decide) ?_
  exact q_iret1 hx hb hr hlocks hP hS rfl dL_undo_8 ⟨rfl, hX0⟩
